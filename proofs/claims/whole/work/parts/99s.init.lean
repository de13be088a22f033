/-! THE CONSTRUCTORS: from an empty world to the two objects, over the cells as they come -/
theorem g_Ja_fill6 {X : WX} {d : Nat} (hd : 0 ≤ d) (v : Int) (M : Mem)  : MG X g0 d 9 9 y_Ja_fill b_Ja_fill 4 none [vr 6, vi v] M (fun r M' => r = none ∧ M' = fillM M 6 156 v) := by
  refine MG_of_G (by decide) (Nat.le_of_ble_eq_true rfl) (Nat.le_refl _) (by decide) ?_
  show G X g0 d 9 9 y_Ja_fill b_Ja_fill 4 none _ 0 [(0, vr 6), (1, vi v)] [] 9 M
  refine G_rngl (i := 1) rfl (fun hr1 => ?_)
  have loop : ∀ (n : Nat) (i : Int), i + n = 156 → 0 ≤ i → (-2147483648 ≤ v ∧ v < 2147483648) → G X g0 d 9 9 y_Ja_fill b_Ja_fill 4 none (fun r M' => r = none ∧ M' = fillM M 6 156 v) 5 [(3, vi 156), (2, vi i), (0, vr 6), (1, vi v)] [] 9 (fillM M 6 i v) := by
    intro n
    induction n with
    | zero =>
      intro i h1 h2 hv9
      refine G_iload (i := 2) (n := 1) (len := 1) (Or.inl ⟨2, rfl, rfl, d_Ja_fill_5⟩) rfl (G_pc (pc' := 6) rfl ?_)
      refine G_iload (i := 3) (n := 0) (len := 1) (Or.inl ⟨3, rfl, rfl, d_Ja_fill_6⟩) rfl (G_pc (pc' := 7) rfl ?_)
      refine G_icmp_ge (tgt := 20) d_Ja_fill_7 (by decide) (fun h1701 => ?_) (fun h1701 => absurd h1701 (by omega))
      refine G_vret d_Ja_fill_20 rfl rfl ?_
      exact ⟨rfl, by rw [show (156 : Int) = i by omega]⟩
    | succ n ih =>
      intro i h1 h2 hv9
      refine G_iload (i := 2) (n := 1) (len := 1) (Or.inl ⟨2, rfl, rfl, d_Ja_fill_5⟩) rfl (G_pc (pc' := 6) rfl ?_)
      refine G_iload (i := 3) (n := 0) (len := 1) (Or.inl ⟨3, rfl, rfl, d_Ja_fill_6⟩) rfl (G_pc (pc' := 7) rfl ?_)
      refine G_icmp_ge (tgt := 20) d_Ja_fill_7 (by decide) (fun h1801 => absurd h1801 (by omega)) (fun h1801 => G_pc (pc' := 10) rfl ?_)
      refine G_aload (i := 0) (n := 2) (len := 1) (Or.inl ⟨0, rfl, rfl, d_Ja_fill_10⟩) rfl (by decide) (G_pc (pc' := 11) rfl ?_)
      refine G_iload (i := 2) (n := 1) (len := 1) (Or.inl ⟨2, rfl, rfl, d_Ja_fill_11⟩) rfl (G_pc (pc' := 12) rfl ?_)
      refine G_iload (i := 1) (n := 3) (len := 1) (Or.inl ⟨1, rfl, rfl, d_Ja_fill_12⟩) rfl (G_pc (pc' := 13) rfl ?_)
      refine G_iastore (o := 6) (n := 156) (i := i) (x := v) d_Ja_fill_13 rfl ⟨by decide, by decide⟩ (by decide) rfl (by omega) (tokI (by omega)) (G_pc (pc' := 14) rfl ?_)
      refine G_iinc (i := 2) (n := 1) (z := 1) (ls' := [(2, vi (i + 1)), (3, vi 156), (0, vr 6), (1, vi v)]) d_Ja_fill_14 rfl (by decide) (by omega) rfl (G_pc (pc' := 17) rfl ?_)
      refine G_goto (tgt := 5) d_Ja_fill_17 (by decide) ?_
      refine G_ls (ls' := [(3, vi 156), (2, vi (i + 1)), (0, vr 6), (1, vi v)]) (by intro z hz; simp only [List.mem_cons] at hz ⊢; grind) ?_
      rw [fillM_s (by omega)]
      exact ih (i + 1) (by omega) (by omega) hv9
  refine G_iconst (n := 0) d_Ja_fill_0 (by decide) (G_pc (pc' := 1) rfl ?_)
  refine G_istore (i := 2) (len := 1) (ls' := [(2, vi 0), (0, vr 6), (1, vi v)]) (Or.inl ⟨2, rfl, rfl, d_Ja_fill_1⟩) (by decide) rfl (G_pc (pc' := 2) rfl ?_)
  refine G_aload (i := 0) (n := 1) (len := 1) (Or.inl ⟨0, rfl, rfl, d_Ja_fill_2⟩) rfl (by decide) (G_pc (pc' := 3) rfl ?_)
  refine G_alen (o := 6) (n := 156) d_Ja_fill_3 rfl (by decide) (by decide) (by decide) (G_pc (pc' := 4) rfl ?_)
  refine G_istore (i := 3) (len := 1) (ls' := [(3, vi 156), (2, vi 0), (0, vr 6), (1, vi v)]) (Or.inl ⟨3, rfl, rfl, d_Ja_fill_4⟩) (by decide) rfl (G_pc (pc' := 5) rfl ?_)
  have h9 := loop 156 0 (by omega) (by omega) (by omega)
  rw [fillM_0] at h9
  exact h9

theorem g_Ja_fill7 {X : WX} {d : Nat} (hd : 0 ≤ d) (v : Int) (M : Mem)  : MG X g0 d 9 9 y_Ja_fill b_Ja_fill 4 none [vr 7, vi v] M (fun r M' => r = none ∧ M' = fillM M 7 27 v) := by
  refine MG_of_G (by decide) (Nat.le_of_ble_eq_true rfl) (Nat.le_refl _) (by decide) ?_
  show G X g0 d 9 9 y_Ja_fill b_Ja_fill 4 none _ 0 [(0, vr 7), (1, vi v)] [] 9 M
  refine G_rngl (i := 1) rfl (fun hr1 => ?_)
  have loop : ∀ (n : Nat) (i : Int), i + n = 27 → 0 ≤ i → (-2147483648 ≤ v ∧ v < 2147483648) → G X g0 d 9 9 y_Ja_fill b_Ja_fill 4 none (fun r M' => r = none ∧ M' = fillM M 7 27 v) 5 [(3, vi 27), (2, vi i), (0, vr 7), (1, vi v)] [] 9 (fillM M 7 i v) := by
    intro n
    induction n with
    | zero =>
      intro i h1 h2 hv9
      refine G_iload (i := 2) (n := 1) (len := 1) (Or.inl ⟨2, rfl, rfl, d_Ja_fill_5⟩) rfl (G_pc (pc' := 6) rfl ?_)
      refine G_iload (i := 3) (n := 0) (len := 1) (Or.inl ⟨3, rfl, rfl, d_Ja_fill_6⟩) rfl (G_pc (pc' := 7) rfl ?_)
      refine G_icmp_ge (tgt := 20) d_Ja_fill_7 (by decide) (fun h1701 => ?_) (fun h1701 => absurd h1701 (by omega))
      refine G_vret d_Ja_fill_20 rfl rfl ?_
      exact ⟨rfl, by rw [show (27 : Int) = i by omega]⟩
    | succ n ih =>
      intro i h1 h2 hv9
      refine G_iload (i := 2) (n := 1) (len := 1) (Or.inl ⟨2, rfl, rfl, d_Ja_fill_5⟩) rfl (G_pc (pc' := 6) rfl ?_)
      refine G_iload (i := 3) (n := 0) (len := 1) (Or.inl ⟨3, rfl, rfl, d_Ja_fill_6⟩) rfl (G_pc (pc' := 7) rfl ?_)
      refine G_icmp_ge (tgt := 20) d_Ja_fill_7 (by decide) (fun h1801 => absurd h1801 (by omega)) (fun h1801 => G_pc (pc' := 10) rfl ?_)
      refine G_aload (i := 0) (n := 2) (len := 1) (Or.inl ⟨0, rfl, rfl, d_Ja_fill_10⟩) rfl (by decide) (G_pc (pc' := 11) rfl ?_)
      refine G_iload (i := 2) (n := 1) (len := 1) (Or.inl ⟨2, rfl, rfl, d_Ja_fill_11⟩) rfl (G_pc (pc' := 12) rfl ?_)
      refine G_iload (i := 1) (n := 3) (len := 1) (Or.inl ⟨1, rfl, rfl, d_Ja_fill_12⟩) rfl (G_pc (pc' := 13) rfl ?_)
      refine G_iastore (o := 7) (n := 27) (i := i) (x := v) d_Ja_fill_13 rfl ⟨by decide, by decide⟩ (by decide) rfl (by omega) (tokI (by omega)) (G_pc (pc' := 14) rfl ?_)
      refine G_iinc (i := 2) (n := 1) (z := 1) (ls' := [(2, vi (i + 1)), (3, vi 27), (0, vr 7), (1, vi v)]) d_Ja_fill_14 rfl (by decide) (by omega) rfl (G_pc (pc' := 17) rfl ?_)
      refine G_goto (tgt := 5) d_Ja_fill_17 (by decide) ?_
      refine G_ls (ls' := [(3, vi 27), (2, vi (i + 1)), (0, vr 7), (1, vi v)]) (by intro z hz; simp only [List.mem_cons] at hz ⊢; grind) ?_
      rw [fillM_s (by omega)]
      exact ih (i + 1) (by omega) (by omega) hv9
  refine G_iconst (n := 0) d_Ja_fill_0 (by decide) (G_pc (pc' := 1) rfl ?_)
  refine G_istore (i := 2) (len := 1) (ls' := [(2, vi 0), (0, vr 7), (1, vi v)]) (Or.inl ⟨2, rfl, rfl, d_Ja_fill_1⟩) (by decide) rfl (G_pc (pc' := 2) rfl ?_)
  refine G_aload (i := 0) (n := 1) (len := 1) (Or.inl ⟨0, rfl, rfl, d_Ja_fill_2⟩) rfl (by decide) (G_pc (pc' := 3) rfl ?_)
  refine G_alen (o := 7) (n := 27) d_Ja_fill_3 rfl (by decide) (by decide) (by decide) (G_pc (pc' := 4) rfl ?_)
  refine G_istore (i := 3) (len := 1) (ls' := [(3, vi 27), (2, vi 0), (0, vr 7), (1, vi v)]) (Or.inl ⟨3, rfl, rfl, d_Ja_fill_4⟩) (by decide) rfl (G_pc (pc' := 5) rfl ?_)
  have h9 := loop 27 0 (by omega) (by omega) (by omega)
  rw [fillM_0] at h9
  exact h9

def im_St_20 (M : Mem) : Mem := mset (mnew (mset (mnew (mset (mnew (mset (mnew (mset (mnew (mset (mnew (M) 21) 20 0 21) 22) 20 1 22) 23) 20 2 23) 24) 20 3 24) 25) 20 4 25) 26) 20 5 26
theorem d_St_init_0 : decode b_St_init 0 = .ok (.aload_n 0, 1) := by decide +kernel
theorem d_St_init_1 : decode b_St_init 1 = .ok (.invokespecial 3, 3) := by decide +kernel
theorem d_St_init_4 : decode b_St_init 4 = .ok (.aload_n 0, 1) := by decide +kernel
theorem d_St_init_5 : decode b_St_init 5 = .ok (.bipush 48, 2) := by decide +kernel
theorem d_St_init_7 : decode b_St_init 7 = .ok (.newarray .int, 2) := by decide +kernel
theorem d_St_init_9 : decode b_St_init 9 = .ok (.putfield 9, 3) := by decide +kernel
theorem d_St_init_12 : decode b_St_init 12 = .ok (.aload_n 0, 1) := by decide +kernel
theorem d_St_init_13 : decode b_St_init 13 = .ok (.bipush 48, 2) := by decide +kernel
theorem d_St_init_15 : decode b_St_init 15 = .ok (.newarray .int, 2) := by decide +kernel
theorem d_St_init_17 : decode b_St_init 17 = .ok (.putfield 15, 3) := by decide +kernel
theorem d_St_init_20 : decode b_St_init 20 = .ok (.aload_n 0, 1) := by decide +kernel
theorem d_St_init_21 : decode b_St_init 21 = .ok (.bipush 48, 2) := by decide +kernel
theorem d_St_init_23 : decode b_St_init 23 = .ok (.newarray .int, 2) := by decide +kernel
theorem d_St_init_25 : decode b_St_init 25 = .ok (.putfield 18, 3) := by decide +kernel
theorem d_St_init_28 : decode b_St_init 28 = .ok (.aload_n 0, 1) := by decide +kernel
theorem d_St_init_29 : decode b_St_init 29 = .ok (.bipush 48, 2) := by decide +kernel
theorem d_St_init_31 : decode b_St_init 31 = .ok (.newarray .int, 2) := by decide +kernel
theorem d_St_init_33 : decode b_St_init 33 = .ok (.putfield 21, 3) := by decide +kernel
theorem d_St_init_36 : decode b_St_init 36 = .ok (.aload_n 0, 1) := by decide +kernel
theorem d_St_init_37 : decode b_St_init 37 = .ok (.bipush 48, 2) := by decide +kernel
theorem d_St_init_39 : decode b_St_init 39 = .ok (.newarray .int, 2) := by decide +kernel
theorem d_St_init_41 : decode b_St_init 41 = .ok (.putfield 24, 3) := by decide +kernel
theorem d_St_init_44 : decode b_St_init 44 = .ok (.aload_n 0, 1) := by decide +kernel
theorem d_St_init_45 : decode b_St_init 45 = .ok (.bipush 48, 2) := by decide +kernel
theorem d_St_init_47 : decode b_St_init 47 = .ok (.newarray .long, 2) := by decide +kernel
theorem d_St_init_49 : decode b_St_init 49 = .ok (.putfield 27, 3) := by decide +kernel
theorem d_St_init_52 : decode b_St_init 52 = .ok (.return_, 1) := by decide +kernel
set_option maxRecDepth 20000 in
theorem g_St_init_20 {X : WX} {d : Nat} (hd : 1 ≤ d) (M : Mem) : MG X g0 d 21 27 y_St_init b_St_init 1 none [vr 20] M (fun r M' => r = none ∧ M' = im_St_20 M) := by
  refine MG_of_G (by decide) (Nat.le_of_ble_eq_true rfl) (by decide) (by decide) ?_
  show G X g0 d 21 27 y_St_init b_St_init 1 none _ 0 [(0, vr 20)] [] 21 M
  refine G_aload (i := 0) (n := 0) (len := 1) (Or.inl ⟨0, rfl, rfl, d_St_init_0⟩) rfl (by decide) (G_pc (pc' := 1) rfl ?_)
  refine G_objInit (o := 20) d_St_init_1 ml_St_3 oi_inst oi_code (by decide) (by omega) (Nat.le_of_ble_eq_true rfl) (G_pc (pc' := 4) rfl ?_)
  refine G_aload (i := 0) (n := 0) (len := 1) (Or.inl ⟨0, rfl, rfl, d_St_init_4⟩) rfl (by decide) (G_pc (pc' := 5) rfl ?_)
  refine G_bipush (n := 48) d_St_init_5 (by decide) (G_pc (pc' := 7) rfl ?_)
  refine G_newa (n := 48) (ty := .int) rfl d_St_init_7 rfl ac_int (by decide) rfl (by decide) (by decide) (by decide) (by decide) (G_pc (pc' := 9) rfl ?_)
  refine G_ps (pc' := 9) (st' := [vr 21, vr 20]) rfl rfl ?_
  refine G_putFL (o := 20) (c := 5) (k := 0) (ki := 0) (x := 21) d_St_init_9 fl_St_9 rfl rfl (by decide) (by decide) (by decide) rfl rfl rfl rfl (tokA (by decide)) rfl (G_pc (pc' := 12) rfl ?_)
  refine G_aload (i := 0) (n := 0) (len := 1) (Or.inl ⟨0, rfl, rfl, d_St_init_12⟩) rfl (by decide) (G_pc (pc' := 13) rfl ?_)
  refine G_bipush (n := 48) d_St_init_13 (by decide) (G_pc (pc' := 15) rfl ?_)
  refine G_newa (n := 48) (ty := .int) rfl d_St_init_15 rfl ac_int (by decide) rfl (by decide) (by decide) (by decide) (by decide) (G_pc (pc' := 17) rfl ?_)
  refine G_ps (pc' := 17) (st' := [vr 22, vr 20]) rfl rfl ?_
  refine G_putFL (o := 20) (c := 5) (k := 1) (ki := 1) (x := 22) d_St_init_17 fl_St_15 rfl rfl (by decide) (by decide) (by decide) rfl rfl rfl rfl (tokA (by decide)) rfl (G_pc (pc' := 20) rfl ?_)
  refine G_aload (i := 0) (n := 0) (len := 1) (Or.inl ⟨0, rfl, rfl, d_St_init_20⟩) rfl (by decide) (G_pc (pc' := 21) rfl ?_)
  refine G_bipush (n := 48) d_St_init_21 (by decide) (G_pc (pc' := 23) rfl ?_)
  refine G_newa (n := 48) (ty := .int) rfl d_St_init_23 rfl ac_int (by decide) rfl (by decide) (by decide) (by decide) (by decide) (G_pc (pc' := 25) rfl ?_)
  refine G_ps (pc' := 25) (st' := [vr 23, vr 20]) rfl rfl ?_
  refine G_putFL (o := 20) (c := 5) (k := 2) (ki := 2) (x := 23) d_St_init_25 fl_St_18 rfl rfl (by decide) (by decide) (by decide) rfl rfl rfl rfl (tokA (by decide)) rfl (G_pc (pc' := 28) rfl ?_)
  refine G_aload (i := 0) (n := 0) (len := 1) (Or.inl ⟨0, rfl, rfl, d_St_init_28⟩) rfl (by decide) (G_pc (pc' := 29) rfl ?_)
  refine G_bipush (n := 48) d_St_init_29 (by decide) (G_pc (pc' := 31) rfl ?_)
  refine G_newa (n := 48) (ty := .int) rfl d_St_init_31 rfl ac_int (by decide) rfl (by decide) (by decide) (by decide) (by decide) (G_pc (pc' := 33) rfl ?_)
  refine G_ps (pc' := 33) (st' := [vr 24, vr 20]) rfl rfl ?_
  refine G_putFL (o := 20) (c := 5) (k := 3) (ki := 3) (x := 24) d_St_init_33 fl_St_21 rfl rfl (by decide) (by decide) (by decide) rfl rfl rfl rfl (tokA (by decide)) rfl (G_pc (pc' := 36) rfl ?_)
  refine G_aload (i := 0) (n := 0) (len := 1) (Or.inl ⟨0, rfl, rfl, d_St_init_36⟩) rfl (by decide) (G_pc (pc' := 37) rfl ?_)
  refine G_bipush (n := 48) d_St_init_37 (by decide) (G_pc (pc' := 39) rfl ?_)
  refine G_newa (n := 48) (ty := .int) rfl d_St_init_39 rfl ac_int (by decide) rfl (by decide) (by decide) (by decide) (by decide) (G_pc (pc' := 41) rfl ?_)
  refine G_ps (pc' := 41) (st' := [vr 25, vr 20]) rfl rfl ?_
  refine G_putFL (o := 20) (c := 5) (k := 4) (ki := 4) (x := 25) d_St_init_41 fl_St_24 rfl rfl (by decide) (by decide) (by decide) rfl rfl rfl rfl (tokA (by decide)) rfl (G_pc (pc' := 44) rfl ?_)
  refine G_aload (i := 0) (n := 0) (len := 1) (Or.inl ⟨0, rfl, rfl, d_St_init_44⟩) rfl (by decide) (G_pc (pc' := 45) rfl ?_)
  refine G_bipush (n := 48) d_St_init_45 (by decide) (G_pc (pc' := 47) rfl ?_)
  refine G_newa (n := 48) (ty := .long) rfl d_St_init_47 rfl ac_long (by decide) rfl (by decide) (by decide) (by decide) (by decide) (G_pc (pc' := 49) rfl ?_)
  refine G_ps (pc' := 49) (st' := [vr 26, vr 20]) rfl rfl ?_
  refine G_putFL (o := 20) (c := 5) (k := 5) (ki := 5) (x := 26) d_St_init_49 fl_St_27 rfl rfl (by decide) (by decide) (by decide) rfl rfl rfl rfl (tokA (by decide)) rfl (G_pc (pc' := 52) rfl ?_)
  refine G_vret d_St_init_52 rfl rfl ?_
  exact ⟨rfl, rfl⟩

def im_St_29 (M : Mem) : Mem := mset (mnew (mset (mnew (mset (mnew (mset (mnew (mset (mnew (mset (mnew (M) 30) 29 0 30) 31) 29 1 31) 32) 29 2 32) 33) 29 3 33) 34) 29 4 34) 35) 29 5 35
set_option maxRecDepth 20000 in
theorem g_St_init_29 {X : WX} {d : Nat} (hd : 1 ≤ d) (M : Mem) : MG X g0 d 30 36 y_St_init b_St_init 1 none [vr 29] M (fun r M' => r = none ∧ M' = im_St_29 M) := by
  refine MG_of_G (by decide) (Nat.le_of_ble_eq_true rfl) (by decide) (by decide) ?_
  show G X g0 d 30 36 y_St_init b_St_init 1 none _ 0 [(0, vr 29)] [] 30 M
  refine G_aload (i := 0) (n := 0) (len := 1) (Or.inl ⟨0, rfl, rfl, d_St_init_0⟩) rfl (by decide) (G_pc (pc' := 1) rfl ?_)
  refine G_objInit (o := 29) d_St_init_1 ml_St_3 oi_inst oi_code (by decide) (by omega) (Nat.le_of_ble_eq_true rfl) (G_pc (pc' := 4) rfl ?_)
  refine G_aload (i := 0) (n := 0) (len := 1) (Or.inl ⟨0, rfl, rfl, d_St_init_4⟩) rfl (by decide) (G_pc (pc' := 5) rfl ?_)
  refine G_bipush (n := 48) d_St_init_5 (by decide) (G_pc (pc' := 7) rfl ?_)
  refine G_newa (n := 48) (ty := .int) rfl d_St_init_7 rfl ac_int (by decide) rfl (by decide) (by decide) (by decide) (by decide) (G_pc (pc' := 9) rfl ?_)
  refine G_ps (pc' := 9) (st' := [vr 30, vr 29]) rfl rfl ?_
  refine G_putFL (o := 29) (c := 5) (k := 0) (ki := 0) (x := 30) d_St_init_9 fl_St_9 rfl rfl (by decide) (by decide) (by decide) rfl rfl rfl rfl (tokA (by decide)) rfl (G_pc (pc' := 12) rfl ?_)
  refine G_aload (i := 0) (n := 0) (len := 1) (Or.inl ⟨0, rfl, rfl, d_St_init_12⟩) rfl (by decide) (G_pc (pc' := 13) rfl ?_)
  refine G_bipush (n := 48) d_St_init_13 (by decide) (G_pc (pc' := 15) rfl ?_)
  refine G_newa (n := 48) (ty := .int) rfl d_St_init_15 rfl ac_int (by decide) rfl (by decide) (by decide) (by decide) (by decide) (G_pc (pc' := 17) rfl ?_)
  refine G_ps (pc' := 17) (st' := [vr 31, vr 29]) rfl rfl ?_
  refine G_putFL (o := 29) (c := 5) (k := 1) (ki := 1) (x := 31) d_St_init_17 fl_St_15 rfl rfl (by decide) (by decide) (by decide) rfl rfl rfl rfl (tokA (by decide)) rfl (G_pc (pc' := 20) rfl ?_)
  refine G_aload (i := 0) (n := 0) (len := 1) (Or.inl ⟨0, rfl, rfl, d_St_init_20⟩) rfl (by decide) (G_pc (pc' := 21) rfl ?_)
  refine G_bipush (n := 48) d_St_init_21 (by decide) (G_pc (pc' := 23) rfl ?_)
  refine G_newa (n := 48) (ty := .int) rfl d_St_init_23 rfl ac_int (by decide) rfl (by decide) (by decide) (by decide) (by decide) (G_pc (pc' := 25) rfl ?_)
  refine G_ps (pc' := 25) (st' := [vr 32, vr 29]) rfl rfl ?_
  refine G_putFL (o := 29) (c := 5) (k := 2) (ki := 2) (x := 32) d_St_init_25 fl_St_18 rfl rfl (by decide) (by decide) (by decide) rfl rfl rfl rfl (tokA (by decide)) rfl (G_pc (pc' := 28) rfl ?_)
  refine G_aload (i := 0) (n := 0) (len := 1) (Or.inl ⟨0, rfl, rfl, d_St_init_28⟩) rfl (by decide) (G_pc (pc' := 29) rfl ?_)
  refine G_bipush (n := 48) d_St_init_29 (by decide) (G_pc (pc' := 31) rfl ?_)
  refine G_newa (n := 48) (ty := .int) rfl d_St_init_31 rfl ac_int (by decide) rfl (by decide) (by decide) (by decide) (by decide) (G_pc (pc' := 33) rfl ?_)
  refine G_ps (pc' := 33) (st' := [vr 33, vr 29]) rfl rfl ?_
  refine G_putFL (o := 29) (c := 5) (k := 3) (ki := 3) (x := 33) d_St_init_33 fl_St_21 rfl rfl (by decide) (by decide) (by decide) rfl rfl rfl rfl (tokA (by decide)) rfl (G_pc (pc' := 36) rfl ?_)
  refine G_aload (i := 0) (n := 0) (len := 1) (Or.inl ⟨0, rfl, rfl, d_St_init_36⟩) rfl (by decide) (G_pc (pc' := 37) rfl ?_)
  refine G_bipush (n := 48) d_St_init_37 (by decide) (G_pc (pc' := 39) rfl ?_)
  refine G_newa (n := 48) (ty := .int) rfl d_St_init_39 rfl ac_int (by decide) rfl (by decide) (by decide) (by decide) (by decide) (G_pc (pc' := 41) rfl ?_)
  refine G_ps (pc' := 41) (st' := [vr 34, vr 29]) rfl rfl ?_
  refine G_putFL (o := 29) (c := 5) (k := 4) (ki := 4) (x := 34) d_St_init_41 fl_St_24 rfl rfl (by decide) (by decide) (by decide) rfl rfl rfl rfl (tokA (by decide)) rfl (G_pc (pc' := 44) rfl ?_)
  refine G_aload (i := 0) (n := 0) (len := 1) (Or.inl ⟨0, rfl, rfl, d_St_init_44⟩) rfl (by decide) (G_pc (pc' := 45) rfl ?_)
  refine G_bipush (n := 48) d_St_init_45 (by decide) (G_pc (pc' := 47) rfl ?_)
  refine G_newa (n := 48) (ty := .long) rfl d_St_init_47 rfl ac_long (by decide) rfl (by decide) (by decide) (by decide) (by decide) (G_pc (pc' := 49) rfl ?_)
  refine G_ps (pc' := 49) (st' := [vr 35, vr 29]) rfl rfl ?_
  refine G_putFL (o := 29) (c := 5) (k := 5) (ki := 5) (x := 35) d_St_init_49 fl_St_27 rfl rfl (by decide) (by decide) (by decide) rfl rfl rfl rfl (tokA (by decide)) rfl (G_pc (pc' := 52) rfl ?_)
  refine G_vret d_St_init_52 rfl rfl ?_
  exact ⟨rfl, rfl⟩

def im_St_38 (M : Mem) : Mem := mset (mnew (mset (mnew (mset (mnew (mset (mnew (mset (mnew (mset (mnew (M) 39) 38 0 39) 40) 38 1 40) 41) 38 2 41) 42) 38 3 42) 43) 38 4 43) 44) 38 5 44
set_option maxRecDepth 20000 in
theorem g_St_init_38 {X : WX} {d : Nat} (hd : 1 ≤ d) (M : Mem) : MG X g0 d 39 45 y_St_init b_St_init 1 none [vr 38] M (fun r M' => r = none ∧ M' = im_St_38 M) := by
  refine MG_of_G (by decide) (Nat.le_of_ble_eq_true rfl) (by decide) (by decide) ?_
  show G X g0 d 39 45 y_St_init b_St_init 1 none _ 0 [(0, vr 38)] [] 39 M
  refine G_aload (i := 0) (n := 0) (len := 1) (Or.inl ⟨0, rfl, rfl, d_St_init_0⟩) rfl (by decide) (G_pc (pc' := 1) rfl ?_)
  refine G_objInit (o := 38) d_St_init_1 ml_St_3 oi_inst oi_code (by decide) (by omega) (Nat.le_of_ble_eq_true rfl) (G_pc (pc' := 4) rfl ?_)
  refine G_aload (i := 0) (n := 0) (len := 1) (Or.inl ⟨0, rfl, rfl, d_St_init_4⟩) rfl (by decide) (G_pc (pc' := 5) rfl ?_)
  refine G_bipush (n := 48) d_St_init_5 (by decide) (G_pc (pc' := 7) rfl ?_)
  refine G_newa (n := 48) (ty := .int) rfl d_St_init_7 rfl ac_int (by decide) rfl (by decide) (by decide) (by decide) (by decide) (G_pc (pc' := 9) rfl ?_)
  refine G_ps (pc' := 9) (st' := [vr 39, vr 38]) rfl rfl ?_
  refine G_putFL (o := 38) (c := 5) (k := 0) (ki := 0) (x := 39) d_St_init_9 fl_St_9 rfl rfl (by decide) (by decide) (by decide) rfl rfl rfl rfl (tokA (by decide)) rfl (G_pc (pc' := 12) rfl ?_)
  refine G_aload (i := 0) (n := 0) (len := 1) (Or.inl ⟨0, rfl, rfl, d_St_init_12⟩) rfl (by decide) (G_pc (pc' := 13) rfl ?_)
  refine G_bipush (n := 48) d_St_init_13 (by decide) (G_pc (pc' := 15) rfl ?_)
  refine G_newa (n := 48) (ty := .int) rfl d_St_init_15 rfl ac_int (by decide) rfl (by decide) (by decide) (by decide) (by decide) (G_pc (pc' := 17) rfl ?_)
  refine G_ps (pc' := 17) (st' := [vr 40, vr 38]) rfl rfl ?_
  refine G_putFL (o := 38) (c := 5) (k := 1) (ki := 1) (x := 40) d_St_init_17 fl_St_15 rfl rfl (by decide) (by decide) (by decide) rfl rfl rfl rfl (tokA (by decide)) rfl (G_pc (pc' := 20) rfl ?_)
  refine G_aload (i := 0) (n := 0) (len := 1) (Or.inl ⟨0, rfl, rfl, d_St_init_20⟩) rfl (by decide) (G_pc (pc' := 21) rfl ?_)
  refine G_bipush (n := 48) d_St_init_21 (by decide) (G_pc (pc' := 23) rfl ?_)
  refine G_newa (n := 48) (ty := .int) rfl d_St_init_23 rfl ac_int (by decide) rfl (by decide) (by decide) (by decide) (by decide) (G_pc (pc' := 25) rfl ?_)
  refine G_ps (pc' := 25) (st' := [vr 41, vr 38]) rfl rfl ?_
  refine G_putFL (o := 38) (c := 5) (k := 2) (ki := 2) (x := 41) d_St_init_25 fl_St_18 rfl rfl (by decide) (by decide) (by decide) rfl rfl rfl rfl (tokA (by decide)) rfl (G_pc (pc' := 28) rfl ?_)
  refine G_aload (i := 0) (n := 0) (len := 1) (Or.inl ⟨0, rfl, rfl, d_St_init_28⟩) rfl (by decide) (G_pc (pc' := 29) rfl ?_)
  refine G_bipush (n := 48) d_St_init_29 (by decide) (G_pc (pc' := 31) rfl ?_)
  refine G_newa (n := 48) (ty := .int) rfl d_St_init_31 rfl ac_int (by decide) rfl (by decide) (by decide) (by decide) (by decide) (G_pc (pc' := 33) rfl ?_)
  refine G_ps (pc' := 33) (st' := [vr 42, vr 38]) rfl rfl ?_
  refine G_putFL (o := 38) (c := 5) (k := 3) (ki := 3) (x := 42) d_St_init_33 fl_St_21 rfl rfl (by decide) (by decide) (by decide) rfl rfl rfl rfl (tokA (by decide)) rfl (G_pc (pc' := 36) rfl ?_)
  refine G_aload (i := 0) (n := 0) (len := 1) (Or.inl ⟨0, rfl, rfl, d_St_init_36⟩) rfl (by decide) (G_pc (pc' := 37) rfl ?_)
  refine G_bipush (n := 48) d_St_init_37 (by decide) (G_pc (pc' := 39) rfl ?_)
  refine G_newa (n := 48) (ty := .int) rfl d_St_init_39 rfl ac_int (by decide) rfl (by decide) (by decide) (by decide) (by decide) (G_pc (pc' := 41) rfl ?_)
  refine G_ps (pc' := 41) (st' := [vr 43, vr 38]) rfl rfl ?_
  refine G_putFL (o := 38) (c := 5) (k := 4) (ki := 4) (x := 43) d_St_init_41 fl_St_24 rfl rfl (by decide) (by decide) (by decide) rfl rfl rfl rfl (tokA (by decide)) rfl (G_pc (pc' := 44) rfl ?_)
  refine G_aload (i := 0) (n := 0) (len := 1) (Or.inl ⟨0, rfl, rfl, d_St_init_44⟩) rfl (by decide) (G_pc (pc' := 45) rfl ?_)
  refine G_bipush (n := 48) d_St_init_45 (by decide) (G_pc (pc' := 47) rfl ?_)
  refine G_newa (n := 48) (ty := .long) rfl d_St_init_47 rfl ac_long (by decide) rfl (by decide) (by decide) (by decide) (by decide) (G_pc (pc' := 49) rfl ?_)
  refine G_ps (pc' := 49) (st' := [vr 44, vr 38]) rfl rfl ?_
  refine G_putFL (o := 38) (c := 5) (k := 5) (ki := 5) (x := 44) d_St_init_49 fl_St_27 rfl rfl (by decide) (by decide) (by decide) rfl rfl rfl rfl (tokA (by decide)) rfl (G_pc (pc' := 52) rfl ?_)
  refine G_vret d_St_init_52 rfl rfl ?_
  exact ⟨rfl, rfl⟩

def im_St_47 (M : Mem) : Mem := mset (mnew (mset (mnew (mset (mnew (mset (mnew (mset (mnew (mset (mnew (M) 48) 47 0 48) 49) 47 1 49) 50) 47 2 50) 51) 47 3 51) 52) 47 4 52) 53) 47 5 53
set_option maxRecDepth 20000 in
theorem g_St_init_47 {X : WX} {d : Nat} (hd : 1 ≤ d) (M : Mem) : MG X g0 d 48 54 y_St_init b_St_init 1 none [vr 47] M (fun r M' => r = none ∧ M' = im_St_47 M) := by
  refine MG_of_G (by decide) (Nat.le_of_ble_eq_true rfl) (by decide) (by decide) ?_
  show G X g0 d 48 54 y_St_init b_St_init 1 none _ 0 [(0, vr 47)] [] 48 M
  refine G_aload (i := 0) (n := 0) (len := 1) (Or.inl ⟨0, rfl, rfl, d_St_init_0⟩) rfl (by decide) (G_pc (pc' := 1) rfl ?_)
  refine G_objInit (o := 47) d_St_init_1 ml_St_3 oi_inst oi_code (by decide) (by omega) (Nat.le_of_ble_eq_true rfl) (G_pc (pc' := 4) rfl ?_)
  refine G_aload (i := 0) (n := 0) (len := 1) (Or.inl ⟨0, rfl, rfl, d_St_init_4⟩) rfl (by decide) (G_pc (pc' := 5) rfl ?_)
  refine G_bipush (n := 48) d_St_init_5 (by decide) (G_pc (pc' := 7) rfl ?_)
  refine G_newa (n := 48) (ty := .int) rfl d_St_init_7 rfl ac_int (by decide) rfl (by decide) (by decide) (by decide) (by decide) (G_pc (pc' := 9) rfl ?_)
  refine G_ps (pc' := 9) (st' := [vr 48, vr 47]) rfl rfl ?_
  refine G_putFL (o := 47) (c := 5) (k := 0) (ki := 0) (x := 48) d_St_init_9 fl_St_9 rfl rfl (by decide) (by decide) (by decide) rfl rfl rfl rfl (tokA (by decide)) rfl (G_pc (pc' := 12) rfl ?_)
  refine G_aload (i := 0) (n := 0) (len := 1) (Or.inl ⟨0, rfl, rfl, d_St_init_12⟩) rfl (by decide) (G_pc (pc' := 13) rfl ?_)
  refine G_bipush (n := 48) d_St_init_13 (by decide) (G_pc (pc' := 15) rfl ?_)
  refine G_newa (n := 48) (ty := .int) rfl d_St_init_15 rfl ac_int (by decide) rfl (by decide) (by decide) (by decide) (by decide) (G_pc (pc' := 17) rfl ?_)
  refine G_ps (pc' := 17) (st' := [vr 49, vr 47]) rfl rfl ?_
  refine G_putFL (o := 47) (c := 5) (k := 1) (ki := 1) (x := 49) d_St_init_17 fl_St_15 rfl rfl (by decide) (by decide) (by decide) rfl rfl rfl rfl (tokA (by decide)) rfl (G_pc (pc' := 20) rfl ?_)
  refine G_aload (i := 0) (n := 0) (len := 1) (Or.inl ⟨0, rfl, rfl, d_St_init_20⟩) rfl (by decide) (G_pc (pc' := 21) rfl ?_)
  refine G_bipush (n := 48) d_St_init_21 (by decide) (G_pc (pc' := 23) rfl ?_)
  refine G_newa (n := 48) (ty := .int) rfl d_St_init_23 rfl ac_int (by decide) rfl (by decide) (by decide) (by decide) (by decide) (G_pc (pc' := 25) rfl ?_)
  refine G_ps (pc' := 25) (st' := [vr 50, vr 47]) rfl rfl ?_
  refine G_putFL (o := 47) (c := 5) (k := 2) (ki := 2) (x := 50) d_St_init_25 fl_St_18 rfl rfl (by decide) (by decide) (by decide) rfl rfl rfl rfl (tokA (by decide)) rfl (G_pc (pc' := 28) rfl ?_)
  refine G_aload (i := 0) (n := 0) (len := 1) (Or.inl ⟨0, rfl, rfl, d_St_init_28⟩) rfl (by decide) (G_pc (pc' := 29) rfl ?_)
  refine G_bipush (n := 48) d_St_init_29 (by decide) (G_pc (pc' := 31) rfl ?_)
  refine G_newa (n := 48) (ty := .int) rfl d_St_init_31 rfl ac_int (by decide) rfl (by decide) (by decide) (by decide) (by decide) (G_pc (pc' := 33) rfl ?_)
  refine G_ps (pc' := 33) (st' := [vr 51, vr 47]) rfl rfl ?_
  refine G_putFL (o := 47) (c := 5) (k := 3) (ki := 3) (x := 51) d_St_init_33 fl_St_21 rfl rfl (by decide) (by decide) (by decide) rfl rfl rfl rfl (tokA (by decide)) rfl (G_pc (pc' := 36) rfl ?_)
  refine G_aload (i := 0) (n := 0) (len := 1) (Or.inl ⟨0, rfl, rfl, d_St_init_36⟩) rfl (by decide) (G_pc (pc' := 37) rfl ?_)
  refine G_bipush (n := 48) d_St_init_37 (by decide) (G_pc (pc' := 39) rfl ?_)
  refine G_newa (n := 48) (ty := .int) rfl d_St_init_39 rfl ac_int (by decide) rfl (by decide) (by decide) (by decide) (by decide) (G_pc (pc' := 41) rfl ?_)
  refine G_ps (pc' := 41) (st' := [vr 52, vr 47]) rfl rfl ?_
  refine G_putFL (o := 47) (c := 5) (k := 4) (ki := 4) (x := 52) d_St_init_41 fl_St_24 rfl rfl (by decide) (by decide) (by decide) rfl rfl rfl rfl (tokA (by decide)) rfl (G_pc (pc' := 44) rfl ?_)
  refine G_aload (i := 0) (n := 0) (len := 1) (Or.inl ⟨0, rfl, rfl, d_St_init_44⟩) rfl (by decide) (G_pc (pc' := 45) rfl ?_)
  refine G_bipush (n := 48) d_St_init_45 (by decide) (G_pc (pc' := 47) rfl ?_)
  refine G_newa (n := 48) (ty := .long) rfl d_St_init_47 rfl ac_long (by decide) rfl (by decide) (by decide) (by decide) (by decide) (G_pc (pc' := 49) rfl ?_)
  refine G_ps (pc' := 49) (st' := [vr 53, vr 47]) rfl rfl ?_
  refine G_putFL (o := 47) (c := 5) (k := 5) (ki := 5) (x := 53) d_St_init_49 fl_St_27 rfl rfl (by decide) (by decide) (by decide) rfl rfl rfl rfl (tokA (by decide)) rfl (G_pc (pc' := 52) rfl ?_)
  refine G_vret d_St_init_52 rfl rfl ?_
  exact ⟨rfl, rfl⟩

def im_To (M : Mem) : Mem := mset (mnew (mset (mnew (mset (mnew (M) 15) 14 0 15) 16) 14 1 16) 17) 14 2 17
theorem d_To_init_0 : decode b_To_init 0 = .ok (.aload_n 0, 1) := by decide +kernel
theorem d_To_init_1 : decode b_To_init 1 = .ok (.invokespecial 3, 3) := by decide +kernel
theorem d_To_init_4 : decode b_To_init 4 = .ok (.aload_n 0, 1) := by decide +kernel
theorem d_To_init_5 : decode b_To_init 5 = .ok (.bipush 24, 2) := by decide +kernel
theorem d_To_init_7 : decode b_To_init 7 = .ok (.newarray .int, 2) := by decide +kernel
theorem d_To_init_9 : decode b_To_init 9 = .ok (.putfield 9, 3) := by decide +kernel
theorem d_To_init_12 : decode b_To_init 12 = .ok (.aload_n 0, 1) := by decide +kernel
theorem d_To_init_13 : decode b_To_init 13 = .ok (.bipush 24, 2) := by decide +kernel
theorem d_To_init_15 : decode b_To_init 15 = .ok (.newarray .int, 2) := by decide +kernel
theorem d_To_init_17 : decode b_To_init 17 = .ok (.putfield 15, 3) := by decide +kernel
theorem d_To_init_20 : decode b_To_init 20 = .ok (.aload_n 0, 1) := by decide +kernel
theorem d_To_init_21 : decode b_To_init 21 = .ok (.bipush 24, 2) := by decide +kernel
theorem d_To_init_23 : decode b_To_init 23 = .ok (.newarray .long, 2) := by decide +kernel
theorem d_To_init_25 : decode b_To_init 25 = .ok (.putfield 18, 3) := by decide +kernel
theorem d_To_init_28 : decode b_To_init 28 = .ok (.return_, 1) := by decide +kernel
set_option maxRecDepth 20000 in
theorem g_To_init {X : WX} {d : Nat} (hd : 1 ≤ d) (M : Mem) : MG X g0 d 15 18 y_To_init b_To_init 1 none [vr 14] M (fun r M' => r = none ∧ M' = im_To M) := by
  refine MG_of_G (by decide) (Nat.le_of_ble_eq_true rfl) (by decide) (by decide) ?_
  show G X g0 d 15 18 y_To_init b_To_init 1 none _ 0 [(0, vr 14)] [] 15 M
  refine G_aload (i := 0) (n := 0) (len := 1) (Or.inl ⟨0, rfl, rfl, d_To_init_0⟩) rfl (by decide) (G_pc (pc' := 1) rfl ?_)
  refine G_objInit (o := 14) d_To_init_1 ml_To_3 oi_inst oi_code (by decide) (by omega) (Nat.le_of_ble_eq_true rfl) (G_pc (pc' := 4) rfl ?_)
  refine G_aload (i := 0) (n := 0) (len := 1) (Or.inl ⟨0, rfl, rfl, d_To_init_4⟩) rfl (by decide) (G_pc (pc' := 5) rfl ?_)
  refine G_bipush (n := 24) d_To_init_5 (by decide) (G_pc (pc' := 7) rfl ?_)
  refine G_newa (n := 24) (ty := .int) rfl d_To_init_7 rfl ac_int (by decide) rfl (by decide) (by decide) (by decide) (by decide) (G_pc (pc' := 9) rfl ?_)
  refine G_ps (pc' := 9) (st' := [vr 15, vr 14]) rfl rfl ?_
  refine G_putFL (o := 14) (c := 7) (k := 0) (ki := 0) (x := 15) d_To_init_9 fl_To_9 rfl rfl (by decide) (by decide) (by decide) rfl rfl rfl rfl (tokA (by decide)) rfl (G_pc (pc' := 12) rfl ?_)
  refine G_aload (i := 0) (n := 0) (len := 1) (Or.inl ⟨0, rfl, rfl, d_To_init_12⟩) rfl (by decide) (G_pc (pc' := 13) rfl ?_)
  refine G_bipush (n := 24) d_To_init_13 (by decide) (G_pc (pc' := 15) rfl ?_)
  refine G_newa (n := 24) (ty := .int) rfl d_To_init_15 rfl ac_int (by decide) rfl (by decide) (by decide) (by decide) (by decide) (G_pc (pc' := 17) rfl ?_)
  refine G_ps (pc' := 17) (st' := [vr 16, vr 14]) rfl rfl ?_
  refine G_putFL (o := 14) (c := 7) (k := 1) (ki := 1) (x := 16) d_To_init_17 fl_To_15 rfl rfl (by decide) (by decide) (by decide) rfl rfl rfl rfl (tokA (by decide)) rfl (G_pc (pc' := 20) rfl ?_)
  refine G_aload (i := 0) (n := 0) (len := 1) (Or.inl ⟨0, rfl, rfl, d_To_init_20⟩) rfl (by decide) (G_pc (pc' := 21) rfl ?_)
  refine G_bipush (n := 24) d_To_init_21 (by decide) (G_pc (pc' := 23) rfl ?_)
  refine G_newa (n := 24) (ty := .long) rfl d_To_init_23 rfl ac_long (by decide) rfl (by decide) (by decide) (by decide) (by decide) (G_pc (pc' := 25) rfl ?_)
  refine G_ps (pc' := 25) (st' := [vr 17, vr 14]) rfl rfl ?_
  refine G_putFL (o := 14) (c := 7) (k := 2) (ki := 2) (x := 17) d_To_init_25 fl_To_18 rfl rfl (by decide) (by decide) (by decide) rfl rfl rfl rfl (tokA (by decide)) rfl (G_pc (pc' := 28) rfl ?_)
  refine G_vret d_To_init_28 rfl rfl ?_
  exact ⟨rfl, rfl⟩

def im_Re (M : Mem) : Mem := mset (im_To (mnew M 14)) 13 0 14
theorem d_Re_init_0 : decode b_Re_init 0 = .ok (.aload_n 0, 1) := by decide +kernel
theorem d_Re_init_1 : decode b_Re_init 1 = .ok (.invokespecial 3, 3) := by decide +kernel
theorem d_Re_init_4 : decode b_Re_init 4 = .ok (.aload_n 0, 1) := by decide +kernel
theorem d_Re_init_5 : decode b_Re_init 5 = .ok (.new 9, 3) := by decide +kernel
theorem d_Re_init_8 : decode b_Re_init 8 = .ok (.dup, 1) := by decide +kernel
theorem d_Re_init_9 : decode b_Re_init 9 = .ok (.invokespecial 11, 3) := by decide +kernel
theorem d_Re_init_12 : decode b_Re_init 12 = .ok (.putfield 12, 3) := by decide +kernel
theorem d_Re_init_15 : decode b_Re_init 15 = .ok (.return_, 1) := by decide +kernel
set_option maxRecDepth 20000 in
theorem g_Re_init {X : WX} {d : Nat} (hd : 2 ≤ d) (M : Mem) : MG X g0 d 14 18 y_Re_init b_Re_init 1 none [vr 13] M (fun r M' => r = none ∧ M' = im_Re M) := by
  refine MG_of_G (by decide) (Nat.le_of_ble_eq_true rfl) (by decide) (by decide) ?_
  show G X g0 d 14 18 y_Re_init b_Re_init 1 none _ 0 [(0, vr 13)] [] 14 M
  refine G_aload (i := 0) (n := 0) (len := 1) (Or.inl ⟨0, rfl, rfl, d_Re_init_0⟩) rfl (by decide) (G_pc (pc' := 1) rfl ?_)
  refine G_objInit (o := 13) d_Re_init_1 ml_Re_3 oi_inst oi_code (by decide) (by omega) (Nat.le_of_ble_eq_true rfl) (G_pc (pc' := 4) rfl ?_)
  refine G_aload (i := 0) (n := 0) (len := 1) (Or.inl ⟨0, rfl, rfl, d_Re_init_4⟩) rfl (by decide) (G_pc (pc' := 5) rfl ?_)
  refine G_new (c := 7) rfl d_Re_init_5 rfl cl_Re_9 ins_To ini_To (by decide) (by decide) (G_pc (pc' := 8) rfl ?_)
  refine G_ps (pc' := 8) (st' := [vr 14, vr 13]) rfl rfl ?_
  refine G_dup d_Re_init_8 (fun _ h => by cases h) (G_pc (pc' := 9) rfl ?_)
  refine G_callIN (K1 := 18) (d2 := 1) (o := 14) (as := []) (rest := [vr 14, vr 13]) d_Re_init_9 mf_To_init (by decide) (by decide) rfl rfl (Nat.le_of_ble_eq_true rfl) (by omega) ⟨by decide, by decide⟩ (g_To_init (Nat.le_refl _) _) (fun r1 M2 kq3 q3 => ?_)
  obtain ⟨q3a, q3b⟩ := q3; subst q3a; subst q3b
  refine G_ps (pc' := 12) (st' := [vr 14, vr 13]) rfl rfl ?_
  refine G_putFL (o := 13) (c := 4) (k := 0) (ki := 0) (x := 14) d_Re_init_12 fl_Re_12 rfl rfl (by decide) (by decide) (by decide) rfl rfl rfl rfl (tokO (by decide)) rfl (G_pc (pc' := 15) rfl ?_)
  refine G_vret d_Re_init_15 rfl rfl ?_
  exact ⟨rfl, rfl⟩

def im_Li (M : Mem) : Mem := mset (mnew (mset (mnew (mset (mnew (M) 10) 9 0 10) 11) 9 1 11) 12) 9 2 12
theorem d_Li_init_0 : decode b_Li_init 0 = .ok (.aload_n 0, 1) := by decide +kernel
theorem d_Li_init_1 : decode b_Li_init 1 = .ok (.invokespecial 3, 3) := by decide +kernel
theorem d_Li_init_4 : decode b_Li_init 4 = .ok (.aload_n 0, 1) := by decide +kernel
theorem d_Li_init_5 : decode b_Li_init 5 = .ok (.bipush 13, 2) := by decide +kernel
theorem d_Li_init_7 : decode b_Li_init 7 = .ok (.newarray .int, 2) := by decide +kernel
theorem d_Li_init_9 : decode b_Li_init 9 = .ok (.putfield 9, 3) := by decide +kernel
theorem d_Li_init_12 : decode b_Li_init 12 = .ok (.aload_n 0, 1) := by decide +kernel
theorem d_Li_init_13 : decode b_Li_init 13 = .ok (.sipush 364, 3) := by decide +kernel
theorem d_Li_init_16 : decode b_Li_init 16 = .ok (.newarray .int, 2) := by decide +kernel
theorem d_Li_init_18 : decode b_Li_init 18 = .ok (.putfield 15, 3) := by decide +kernel
theorem d_Li_init_21 : decode b_Li_init 21 = .ok (.aload_n 0, 1) := by decide +kernel
theorem d_Li_init_22 : decode b_Li_init 22 = .ok (.sipush 364, 3) := by decide +kernel
theorem d_Li_init_25 : decode b_Li_init 25 = .ok (.newarray .int, 2) := by decide +kernel
theorem d_Li_init_27 : decode b_Li_init 27 = .ok (.putfield 18, 3) := by decide +kernel
theorem d_Li_init_30 : decode b_Li_init 30 = .ok (.return_, 1) := by decide +kernel
set_option maxRecDepth 20000 in
theorem g_Li_init {X : WX} {d : Nat} (hd : 1 ≤ d) (M : Mem) : MG X g0 d 10 13 y_Li_init b_Li_init 1 none [vr 9] M (fun r M' => r = none ∧ M' = im_Li M) := by
  refine MG_of_G (by decide) (Nat.le_of_ble_eq_true rfl) (by decide) (by decide) ?_
  show G X g0 d 10 13 y_Li_init b_Li_init 1 none _ 0 [(0, vr 9)] [] 10 M
  refine G_aload (i := 0) (n := 0) (len := 1) (Or.inl ⟨0, rfl, rfl, d_Li_init_0⟩) rfl (by decide) (G_pc (pc' := 1) rfl ?_)
  refine G_objInit (o := 9) d_Li_init_1 ml_Li_3 oi_inst oi_code (by decide) (by omega) (Nat.le_of_ble_eq_true rfl) (G_pc (pc' := 4) rfl ?_)
  refine G_aload (i := 0) (n := 0) (len := 1) (Or.inl ⟨0, rfl, rfl, d_Li_init_4⟩) rfl (by decide) (G_pc (pc' := 5) rfl ?_)
  refine G_bipush (n := 13) d_Li_init_5 (by decide) (G_pc (pc' := 7) rfl ?_)
  refine G_newa (n := 13) (ty := .int) rfl d_Li_init_7 rfl ac_int (by decide) rfl (by decide) (by decide) (by decide) (by decide) (G_pc (pc' := 9) rfl ?_)
  refine G_ps (pc' := 9) (st' := [vr 10, vr 9]) rfl rfl ?_
  refine G_putFL (o := 9) (c := 3) (k := 0) (ki := 0) (x := 10) d_Li_init_9 fl_Li_9 rfl rfl (by decide) (by decide) (by decide) rfl rfl rfl rfl (tokA (by decide)) rfl (G_pc (pc' := 12) rfl ?_)
  refine G_aload (i := 0) (n := 0) (len := 1) (Or.inl ⟨0, rfl, rfl, d_Li_init_12⟩) rfl (by decide) (G_pc (pc' := 13) rfl ?_)
  refine G_sipush (n := 364) d_Li_init_13 (by decide) (G_pc (pc' := 16) rfl ?_)
  refine G_newa (n := 364) (ty := .int) rfl d_Li_init_16 rfl ac_int (by decide) rfl (by decide) (by decide) (by decide) (by decide) (G_pc (pc' := 18) rfl ?_)
  refine G_ps (pc' := 18) (st' := [vr 11, vr 9]) rfl rfl ?_
  refine G_putFL (o := 9) (c := 3) (k := 1) (ki := 1) (x := 11) d_Li_init_18 fl_Li_15 rfl rfl (by decide) (by decide) (by decide) rfl rfl rfl rfl (tokA (by decide)) rfl (G_pc (pc' := 21) rfl ?_)
  refine G_aload (i := 0) (n := 0) (len := 1) (Or.inl ⟨0, rfl, rfl, d_Li_init_21⟩) rfl (by decide) (G_pc (pc' := 22) rfl ?_)
  refine G_sipush (n := 364) d_Li_init_22 (by decide) (G_pc (pc' := 25) rfl ?_)
  refine G_newa (n := 364) (ty := .int) rfl d_Li_init_25 rfl ac_int (by decide) rfl (by decide) (by decide) (by decide) (by decide) (G_pc (pc' := 27) rfl ?_)
  refine G_ps (pc' := 27) (st' := [vr 12, vr 9]) rfl rfl ?_
  refine G_putFL (o := 9) (c := 3) (k := 2) (ki := 2) (x := 12) d_Li_init_27 fl_Li_18 rfl rfl (by decide) (by decide) (by decide) rfl rfl rfl rfl (tokA (by decide)) rfl (G_pc (pc' := 30) rfl ?_)
  refine G_vret d_Li_init_30 rfl rfl ?_
  exact ⟨rfl, rfl⟩

def im_Ck (M : Mem) : Mem := mset M 18 0 4
theorem d_Ck_init_0 : decode b_Ck_init 0 = .ok (.aload_n 0, 1) := by decide +kernel
theorem d_Ck_init_1 : decode b_Ck_init 1 = .ok (.invokespecial 3, 3) := by decide +kernel
theorem d_Ck_init_4 : decode b_Ck_init 4 = .ok (.aload_n 0, 1) := by decide +kernel
theorem d_Ck_init_5 : decode b_Ck_init 5 = .ok (.aload_n 1, 1) := by decide +kernel
theorem d_Ck_init_6 : decode b_Ck_init 6 = .ok (.putfield 9, 3) := by decide +kernel
theorem d_Ck_init_9 : decode b_Ck_init 9 = .ok (.return_, 1) := by decide +kernel
set_option maxRecDepth 20000 in
theorem g_Ck_init {X : WX} {d : Nat} (hd : 1 ≤ d) (M : Mem) : MG X g0 d 19 19 y_Ck_init b_Ck_init 2 none [vr 18, vr 4] M (fun r M' => r = none ∧ M' = im_Ck M) := by
  refine MG_of_G (by decide) (Nat.le_of_ble_eq_true rfl) (by decide) (by decide) ?_
  show G X g0 d 19 19 y_Ck_init b_Ck_init 2 none _ 0 [(0, vr 18), (1, vr 4)] [] 19 M
  refine G_aload (i := 0) (n := 0) (len := 1) (Or.inl ⟨0, rfl, rfl, d_Ck_init_0⟩) rfl (by decide) (G_pc (pc' := 1) rfl ?_)
  refine G_objInit (o := 18) d_Ck_init_1 ml_Ck_3 oi_inst oi_code (by decide) (by omega) (Nat.le_of_ble_eq_true rfl) (G_pc (pc' := 4) rfl ?_)
  refine G_aload (i := 0) (n := 0) (len := 1) (Or.inl ⟨0, rfl, rfl, d_Ck_init_4⟩) rfl (by decide) (G_pc (pc' := 5) rfl ?_)
  refine G_aload (i := 1) (n := 1) (len := 1) (Or.inl ⟨1, rfl, rfl, d_Ck_init_5⟩) rfl (by decide) (G_pc (pc' := 6) rfl ?_)
  refine G_putFL (o := 18) (c := 0) (k := 0) (ki := 0) (x := 4) d_Ck_init_6 fl_Ck_9 rfl rfl (by decide) (by decide) (by decide) rfl rfl rfl rfl (tokO (by decide)) rfl (G_pc (pc' := 9) rfl ?_)
  refine G_vret d_Ck_init_9 rfl rfl ?_
  exact ⟨rfl, rfl⟩

def im_Ta (M : Mem) : Mem := fillM (fillM (mset (mset (mnew (mset (mnew (mset (mnew (mset (mnew (M) 5) 4 0 5) 6) 4 1 6) 7) 4 2 7) 8) 4 3 8) 4 6 1) 6 156 (-1)) 7 27 (-1)
theorem d_Ta_init_0 : decode b_Ta_init 0 = .ok (.aload_n 0, 1) := by decide +kernel
theorem d_Ta_init_1 : decode b_Ta_init 1 = .ok (.invokespecial 3, 3) := by decide +kernel
theorem d_Ta_init_4 : decode b_Ta_init 4 = .ok (.aload_n 0, 1) := by decide +kernel
theorem d_Ta_init_5 : decode b_Ta_init 5 = .ok (.bipush 6, 2) := by decide +kernel
theorem d_Ta_init_7 : decode b_Ta_init 7 = .ok (.newarray .int, 2) := by decide +kernel
theorem d_Ta_init_9 : decode b_Ta_init 9 = .ok (.putfield 9, 3) := by decide +kernel
theorem d_Ta_init_12 : decode b_Ta_init 12 = .ok (.aload_n 0, 1) := by decide +kernel
theorem d_Ta_init_13 : decode b_Ta_init 13 = .ok (.sipush 156, 3) := by decide +kernel
theorem d_Ta_init_16 : decode b_Ta_init 16 = .ok (.newarray .int, 2) := by decide +kernel
theorem d_Ta_init_18 : decode b_Ta_init 18 = .ok (.putfield 15, 3) := by decide +kernel
theorem d_Ta_init_21 : decode b_Ta_init 21 = .ok (.aload_n 0, 1) := by decide +kernel
theorem d_Ta_init_22 : decode b_Ta_init 22 = .ok (.bipush 27, 2) := by decide +kernel
theorem d_Ta_init_24 : decode b_Ta_init 24 = .ok (.newarray .int, 2) := by decide +kernel
theorem d_Ta_init_26 : decode b_Ta_init 26 = .ok (.putfield 18, 3) := by decide +kernel
theorem d_Ta_init_29 : decode b_Ta_init 29 = .ok (.aload_n 0, 1) := by decide +kernel
theorem d_Ta_init_30 : decode b_Ta_init 30 = .ok (.sipush 364, 3) := by decide +kernel
theorem d_Ta_init_33 : decode b_Ta_init 33 = .ok (.newarray .long, 2) := by decide +kernel
theorem d_Ta_init_35 : decode b_Ta_init 35 = .ok (.putfield 21, 3) := by decide +kernel
theorem d_Ta_init_38 : decode b_Ta_init 38 = .ok (.aload_n 0, 1) := by decide +kernel
theorem d_Ta_init_39 : decode b_Ta_init 39 = .ok (.iconst 1, 1) := by decide +kernel
theorem d_Ta_init_40 : decode b_Ta_init 40 = .ok (.putfield 25, 3) := by decide +kernel
theorem d_Ta_init_43 : decode b_Ta_init 43 = .ok (.aload_n 0, 1) := by decide +kernel
theorem d_Ta_init_44 : decode b_Ta_init 44 = .ok (.getfield 15, 3) := by decide +kernel
theorem d_Ta_init_47 : decode b_Ta_init 47 = .ok (.iconst (-1), 1) := by decide +kernel
theorem d_Ta_init_48 : decode b_Ta_init 48 = .ok (.invokestatic 29, 3) := by decide +kernel
theorem d_Ta_init_51 : decode b_Ta_init 51 = .ok (.aload_n 0, 1) := by decide +kernel
theorem d_Ta_init_52 : decode b_Ta_init 52 = .ok (.getfield 18, 3) := by decide +kernel
theorem d_Ta_init_55 : decode b_Ta_init 55 = .ok (.iconst (-1), 1) := by decide +kernel
theorem d_Ta_init_56 : decode b_Ta_init 56 = .ok (.invokestatic 29, 3) := by decide +kernel
theorem d_Ta_init_59 : decode b_Ta_init 59 = .ok (.return_, 1) := by decide +kernel
set_option maxRecDepth 20000 in
theorem g_Ta_init {X : WX} {d : Nat} (hd : 1 ≤ d) (M : Mem) : MG X g0 d 5 9 y_Ta_init b_Ta_init 1 none [vr 4] M (fun r M' => r = none ∧ M' = im_Ta M) := by
  refine MG_of_G (by decide) (Nat.le_of_ble_eq_true rfl) (by decide) (by decide) ?_
  show G X g0 d 5 9 y_Ta_init b_Ta_init 1 none _ 0 [(0, vr 4)] [] 5 M
  refine G_aload (i := 0) (n := 0) (len := 1) (Or.inl ⟨0, rfl, rfl, d_Ta_init_0⟩) rfl (by decide) (G_pc (pc' := 1) rfl ?_)
  refine G_objInit (o := 4) d_Ta_init_1 ml_Ta_3 oi_inst oi_code (by decide) (by omega) (Nat.le_of_ble_eq_true rfl) (G_pc (pc' := 4) rfl ?_)
  refine G_aload (i := 0) (n := 0) (len := 1) (Or.inl ⟨0, rfl, rfl, d_Ta_init_4⟩) rfl (by decide) (G_pc (pc' := 5) rfl ?_)
  refine G_bipush (n := 6) d_Ta_init_5 (by decide) (G_pc (pc' := 7) rfl ?_)
  refine G_newa (n := 6) (ty := .int) rfl d_Ta_init_7 rfl ac_int (by decide) rfl (by decide) (by decide) (by decide) (by decide) (G_pc (pc' := 9) rfl ?_)
  refine G_ps (pc' := 9) (st' := [vr 5, vr 4]) rfl rfl ?_
  refine G_putFL (o := 4) (c := 6) (k := 0) (ki := 0) (x := 5) d_Ta_init_9 fl_Ta_9 rfl rfl (by decide) (by decide) (by decide) rfl rfl rfl rfl (tokA (by decide)) rfl (G_pc (pc' := 12) rfl ?_)
  refine G_aload (i := 0) (n := 0) (len := 1) (Or.inl ⟨0, rfl, rfl, d_Ta_init_12⟩) rfl (by decide) (G_pc (pc' := 13) rfl ?_)
  refine G_sipush (n := 156) d_Ta_init_13 (by decide) (G_pc (pc' := 16) rfl ?_)
  refine G_newa (n := 156) (ty := .int) rfl d_Ta_init_16 rfl ac_int (by decide) rfl (by decide) (by decide) (by decide) (by decide) (G_pc (pc' := 18) rfl ?_)
  refine G_ps (pc' := 18) (st' := [vr 6, vr 4]) rfl rfl ?_
  refine G_putFL (o := 4) (c := 6) (k := 1) (ki := 1) (x := 6) d_Ta_init_18 fl_Ta_15 rfl rfl (by decide) (by decide) (by decide) rfl rfl rfl rfl (tokA (by decide)) rfl (G_pc (pc' := 21) rfl ?_)
  refine G_aload (i := 0) (n := 0) (len := 1) (Or.inl ⟨0, rfl, rfl, d_Ta_init_21⟩) rfl (by decide) (G_pc (pc' := 22) rfl ?_)
  refine G_bipush (n := 27) d_Ta_init_22 (by decide) (G_pc (pc' := 24) rfl ?_)
  refine G_newa (n := 27) (ty := .int) rfl d_Ta_init_24 rfl ac_int (by decide) rfl (by decide) (by decide) (by decide) (by decide) (G_pc (pc' := 26) rfl ?_)
  refine G_ps (pc' := 26) (st' := [vr 7, vr 4]) rfl rfl ?_
  refine G_putFL (o := 4) (c := 6) (k := 2) (ki := 2) (x := 7) d_Ta_init_26 fl_Ta_18 rfl rfl (by decide) (by decide) (by decide) rfl rfl rfl rfl (tokA (by decide)) rfl (G_pc (pc' := 29) rfl ?_)
  refine G_aload (i := 0) (n := 0) (len := 1) (Or.inl ⟨0, rfl, rfl, d_Ta_init_29⟩) rfl (by decide) (G_pc (pc' := 30) rfl ?_)
  refine G_sipush (n := 364) d_Ta_init_30 (by decide) (G_pc (pc' := 33) rfl ?_)
  refine G_newa (n := 364) (ty := .long) rfl d_Ta_init_33 rfl ac_long (by decide) rfl (by decide) (by decide) (by decide) (by decide) (G_pc (pc' := 35) rfl ?_)
  refine G_ps (pc' := 35) (st' := [vr 8, vr 4]) rfl rfl ?_
  refine G_putFL (o := 4) (c := 6) (k := 3) (ki := 3) (x := 8) d_Ta_init_35 fl_Ta_21 rfl rfl (by decide) (by decide) (by decide) rfl rfl rfl rfl (tokA (by decide)) rfl (G_pc (pc' := 38) rfl ?_)
  refine G_aload (i := 0) (n := 0) (len := 1) (Or.inl ⟨0, rfl, rfl, d_Ta_init_38⟩) rfl (by decide) (G_pc (pc' := 39) rfl ?_)
  refine G_iconst (n := 1) d_Ta_init_39 (by decide) (G_pc (pc' := 40) rfl ?_)
  refine G_putL (o := 4) (c := 6) (k := 6) (ki := 6) (x := 1) d_Ta_init_40 fl_Ta_25 rfl rfl (by decide) (by decide) (by decide) rfl rfl (tokZ (by decide)) rfl (G_pc (pc' := 43) rfl ?_)
  refine G_aload (i := 0) (n := 0) (len := 1) (Or.inl ⟨0, rfl, rfl, d_Ta_init_43⟩) rfl (by decide) (G_pc (pc' := 44) rfl ?_)
  refine G_get (o := 4) (c := 6) (k := 1) (v := 6) d_Ta_init_44 fl_Ta_15 rfl (by decide) (by decide) rfl rfl (G_pc (pc' := 47) rfl ?_)
  refine G_iconst (n := (-1)) d_Ta_init_47 (by decide) (G_pc (pc' := 48) rfl ?_)
  refine G_callS (K1 := 9) (d2 := 0) (as := [vr 6, vi (-1)]) (rest := []) d_Ta_init_48 mf_Ja_fill ml_Ta_29 rfl rfl (Nat.le_of_ble_eq_true rfl) (by omega) ⟨Nat.le_refl _, Nat.le_refl _⟩ (g_Ja_fill6 (Nat.le_refl _) (-1) _) (fun r1 M2 kq3 q3 => ?_)
  obtain ⟨q3a, q3b⟩ := q3; subst q3a; subst q3b
  refine G_ps (pc' := 51) (st' := []) rfl rfl ?_
  refine G_aload (i := 0) (n := 0) (len := 1) (Or.inl ⟨0, rfl, rfl, d_Ta_init_51⟩) rfl (by decide) (G_pc (pc' := 52) rfl ?_)
  refine G_get (o := 4) (c := 6) (k := 2) (v := 7) d_Ta_init_52 fl_Ta_18 rfl (by decide) (by decide) rfl rfl (G_pc (pc' := 55) rfl ?_)
  refine G_iconst (n := (-1)) d_Ta_init_55 (by decide) (G_pc (pc' := 56) rfl ?_)
  refine G_callS (K1 := 9) (d2 := 0) (as := [vr 7, vi (-1)]) (rest := []) d_Ta_init_56 mf_Ja_fill ml_Ta_29 rfl rfl (Nat.le_of_ble_eq_true rfl) (by omega) ⟨Nat.le_refl _, Nat.le_refl _⟩ (g_Ja_fill7 (Nat.le_refl _) (-1) _) (fun r4 M5 kq6 q6 => ?_)
  obtain ⟨q6a, q6b⟩ := q6; subst q6a; subst q6b
  refine G_ps (pc' := 59) (st' := []) rfl rfl ?_
  refine G_vret d_Ta_init_59 rfl rfl ?_
  exact ⟨rfl, rfl⟩

def im_Ev_19 (M : Mem) : Mem := mset (mset (mset (mset (mset (mset (mset (mnew (mset (im_St_20 (mnew M 20)) 19 4 20) 27) 19 5 27) 19 7 0) 19 8 (-1)) 19 0 4) 19 1 9) 19 2 13) 19 3 18
theorem d_Ev_init_0 : decode b_Ev_init 0 = .ok (.aload_n 0, 1) := by decide +kernel
theorem d_Ev_init_1 : decode b_Ev_init 1 = .ok (.invokespecial 3, 3) := by decide +kernel
theorem d_Ev_init_4 : decode b_Ev_init 4 = .ok (.aload_n 0, 1) := by decide +kernel
theorem d_Ev_init_5 : decode b_Ev_init 5 = .ok (.new 9, 3) := by decide +kernel
theorem d_Ev_init_8 : decode b_Ev_init 8 = .ok (.dup, 1) := by decide +kernel
theorem d_Ev_init_9 : decode b_Ev_init 9 = .ok (.invokespecial 11, 3) := by decide +kernel
theorem d_Ev_init_12 : decode b_Ev_init 12 = .ok (.putfield 12, 3) := by decide +kernel
theorem d_Ev_init_15 : decode b_Ev_init 15 = .ok (.aload_n 0, 1) := by decide +kernel
theorem d_Ev_init_16 : decode b_Ev_init 16 = .ok (.bipush 40, 2) := by decide +kernel
theorem d_Ev_init_18 : decode b_Ev_init 18 = .ok (.newarray .char, 2) := by decide +kernel
theorem d_Ev_init_20 : decode b_Ev_init 20 = .ok (.putfield 18, 3) := by decide +kernel
theorem d_Ev_init_23 : decode b_Ev_init 23 = .ok (.aload_n 0, 1) := by decide +kernel
theorem d_Ev_init_24 : decode b_Ev_init 24 = .ok (.iconst 0, 1) := by decide +kernel
theorem d_Ev_init_25 : decode b_Ev_init 25 = .ok (.putfield 22, 3) := by decide +kernel
theorem d_Ev_init_28 : decode b_Ev_init 28 = .ok (.aload_n 0, 1) := by decide +kernel
theorem d_Ev_init_29 : decode b_Ev_init 29 = .ok (.iconst (-1), 1) := by decide +kernel
theorem d_Ev_init_30 : decode b_Ev_init 30 = .ok (.putfield 26, 3) := by decide +kernel
theorem d_Ev_init_33 : decode b_Ev_init 33 = .ok (.aload_n 0, 1) := by decide +kernel
theorem d_Ev_init_34 : decode b_Ev_init 34 = .ok (.aload_n 1, 1) := by decide +kernel
theorem d_Ev_init_35 : decode b_Ev_init 35 = .ok (.putfield 29, 3) := by decide +kernel
theorem d_Ev_init_38 : decode b_Ev_init 38 = .ok (.aload_n 0, 1) := by decide +kernel
theorem d_Ev_init_39 : decode b_Ev_init 39 = .ok (.aload_n 2, 1) := by decide +kernel
theorem d_Ev_init_40 : decode b_Ev_init 40 = .ok (.putfield 33, 3) := by decide +kernel
theorem d_Ev_init_43 : decode b_Ev_init 43 = .ok (.aload_n 0, 1) := by decide +kernel
theorem d_Ev_init_44 : decode b_Ev_init 44 = .ok (.aload_n 3, 1) := by decide +kernel
theorem d_Ev_init_45 : decode b_Ev_init 45 = .ok (.putfield 37, 3) := by decide +kernel
theorem d_Ev_init_48 : decode b_Ev_init 48 = .ok (.aload_n 0, 1) := by decide +kernel
theorem d_Ev_init_49 : decode b_Ev_init 49 = .ok (.aload 4, 2) := by decide +kernel
theorem d_Ev_init_51 : decode b_Ev_init 51 = .ok (.putfield 41, 3) := by decide +kernel
theorem d_Ev_init_54 : decode b_Ev_init 54 = .ok (.return_, 1) := by decide +kernel
set_option maxRecDepth 20000 in
theorem g_Ev_init_19 {X : WX} {d : Nat} (hd : 2 ≤ d) (M : Mem) : MG X g0 d 20 28 y_Ev_init b_Ev_init 5 none [vr 19, vr 4, vr 9, vr 13, vr 18] M (fun r M' => r = none ∧ M' = im_Ev_19 M) := by
  refine MG_of_G (by decide) (Nat.le_of_ble_eq_true rfl) (by decide) (by decide) ?_
  show G X g0 d 20 28 y_Ev_init b_Ev_init 5 none _ 0 [(0, vr 19), (1, vr 4), (2, vr 9), (3, vr 13), (4, vr 18)] [] 20 M
  refine G_aload (i := 0) (n := 0) (len := 1) (Or.inl ⟨0, rfl, rfl, d_Ev_init_0⟩) rfl (by decide) (G_pc (pc' := 1) rfl ?_)
  refine G_objInit (o := 19) d_Ev_init_1 ml_Ev_3 oi_inst oi_code (by decide) (by omega) (Nat.le_of_ble_eq_true rfl) (G_pc (pc' := 4) rfl ?_)
  refine G_aload (i := 0) (n := 0) (len := 1) (Or.inl ⟨0, rfl, rfl, d_Ev_init_4⟩) rfl (by decide) (G_pc (pc' := 5) rfl ?_)
  refine G_new (c := 5) rfl d_Ev_init_5 rfl cl_Ev_9 ins_St ini_St (by decide) (by decide) (G_pc (pc' := 8) rfl ?_)
  refine G_ps (pc' := 8) (st' := [vr 20, vr 19]) rfl rfl ?_
  refine G_dup d_Ev_init_8 (fun _ h => by cases h) (G_pc (pc' := 9) rfl ?_)
  refine G_callIN (K1 := 27) (d2 := 1) (o := 20) (as := []) (rest := [vr 20, vr 19]) d_Ev_init_9 mf_St_init (by decide) (by decide) rfl rfl (Nat.le_of_ble_eq_true rfl) (by omega) ⟨by decide, by decide⟩ (g_St_init_20 (Nat.le_refl _) _) (fun r1 M2 kq3 q3 => ?_)
  obtain ⟨q3a, q3b⟩ := q3; subst q3a; subst q3b
  refine G_ps (pc' := 12) (st' := [vr 20, vr 19]) rfl rfl ?_
  refine G_putFL (o := 19) (c := 1) (k := 4) (ki := 4) (x := 20) d_Ev_init_12 fl_Ev_12 rfl rfl (by decide) (by decide) (by decide) rfl rfl rfl rfl (tokO (by decide)) rfl (G_pc (pc' := 15) rfl ?_)
  refine G_aload (i := 0) (n := 0) (len := 1) (Or.inl ⟨0, rfl, rfl, d_Ev_init_15⟩) rfl (by decide) (G_pc (pc' := 16) rfl ?_)
  refine G_bipush (n := 40) d_Ev_init_16 (by decide) (G_pc (pc' := 18) rfl ?_)
  refine G_newa (n := 40) (ty := .char) rfl d_Ev_init_18 rfl ac_char (by decide) rfl (by decide) (by decide) (by decide) (by decide) (G_pc (pc' := 20) rfl ?_)
  refine G_ps (pc' := 20) (st' := [vr 27, vr 19]) rfl rfl ?_
  refine G_putFL (o := 19) (c := 1) (k := 5) (ki := 5) (x := 27) d_Ev_init_20 fl_Ev_18 rfl rfl (by decide) (by decide) (by decide) rfl rfl rfl rfl (tokA (by decide)) rfl (G_pc (pc' := 23) rfl ?_)
  refine G_aload (i := 0) (n := 0) (len := 1) (Or.inl ⟨0, rfl, rfl, d_Ev_init_23⟩) rfl (by decide) (G_pc (pc' := 24) rfl ?_)
  refine G_iconst (n := 0) d_Ev_init_24 (by decide) (G_pc (pc' := 25) rfl ?_)
  refine G_putL (o := 19) (c := 1) (k := 7) (ki := 7) (x := 0) d_Ev_init_25 fl_Ev_22 rfl rfl (by decide) (by decide) (by decide) rfl rfl (tokI (by decide)) rfl (G_pc (pc' := 28) rfl ?_)
  refine G_aload (i := 0) (n := 0) (len := 1) (Or.inl ⟨0, rfl, rfl, d_Ev_init_28⟩) rfl (by decide) (G_pc (pc' := 29) rfl ?_)
  refine G_iconst (n := (-1)) d_Ev_init_29 (by decide) (G_pc (pc' := 30) rfl ?_)
  refine G_putL (o := 19) (c := 1) (k := 8) (ki := 8) (x := (-1)) d_Ev_init_30 fl_Ev_26 rfl rfl (by decide) (by decide) (by decide) rfl rfl (tokI (by decide)) rfl (G_pc (pc' := 33) rfl ?_)
  refine G_aload (i := 0) (n := 0) (len := 1) (Or.inl ⟨0, rfl, rfl, d_Ev_init_33⟩) rfl (by decide) (G_pc (pc' := 34) rfl ?_)
  refine G_aload (i := 1) (n := 1) (len := 1) (Or.inl ⟨1, rfl, rfl, d_Ev_init_34⟩) rfl (by decide) (G_pc (pc' := 35) rfl ?_)
  refine G_putFL (o := 19) (c := 1) (k := 0) (ki := 0) (x := 4) d_Ev_init_35 fl_Ev_29 rfl rfl (by decide) (by decide) (by decide) rfl rfl rfl rfl (tokO (by decide)) rfl (G_pc (pc' := 38) rfl ?_)
  refine G_aload (i := 0) (n := 0) (len := 1) (Or.inl ⟨0, rfl, rfl, d_Ev_init_38⟩) rfl (by decide) (G_pc (pc' := 39) rfl ?_)
  refine G_aload (i := 2) (n := 2) (len := 1) (Or.inl ⟨2, rfl, rfl, d_Ev_init_39⟩) rfl (by decide) (G_pc (pc' := 40) rfl ?_)
  refine G_putFL (o := 19) (c := 1) (k := 1) (ki := 1) (x := 9) d_Ev_init_40 fl_Ev_33 rfl rfl (by decide) (by decide) (by decide) rfl rfl rfl rfl (tokO (by decide)) rfl (G_pc (pc' := 43) rfl ?_)
  refine G_aload (i := 0) (n := 0) (len := 1) (Or.inl ⟨0, rfl, rfl, d_Ev_init_43⟩) rfl (by decide) (G_pc (pc' := 44) rfl ?_)
  refine G_aload (i := 3) (n := 3) (len := 1) (Or.inl ⟨3, rfl, rfl, d_Ev_init_44⟩) rfl (by decide) (G_pc (pc' := 45) rfl ?_)
  refine G_putFL (o := 19) (c := 1) (k := 2) (ki := 2) (x := 13) d_Ev_init_45 fl_Ev_37 rfl rfl (by decide) (by decide) (by decide) rfl rfl rfl rfl (tokO (by decide)) rfl (G_pc (pc' := 48) rfl ?_)
  refine G_aload (i := 0) (n := 0) (len := 1) (Or.inl ⟨0, rfl, rfl, d_Ev_init_48⟩) rfl (by decide) (G_pc (pc' := 49) rfl ?_)
  refine G_aload (i := 4) (n := 4) (len := 2) (Or.inr ⟨rfl, d_Ev_init_49⟩) rfl (by decide) (G_pc (pc' := 51) rfl ?_)
  refine G_putFL (o := 19) (c := 1) (k := 3) (ki := 3) (x := 18) d_Ev_init_51 fl_Ev_41 rfl rfl (by decide) (by decide) (by decide) rfl rfl rfl rfl (tokO (by decide)) rfl (G_pc (pc' := 54) rfl ?_)
  refine G_vret d_Ev_init_54 rfl rfl ?_
  exact ⟨rfl, rfl⟩

def im_Ev_28 (M : Mem) : Mem := mset (mset (mset (mset (mset (mset (mset (mnew (mset (im_St_29 (mnew M 29)) 28 4 29) 36) 28 5 36) 28 7 0) 28 8 (-1)) 28 0 4) 28 1 9) 28 2 13) 28 3 18
set_option maxRecDepth 20000 in
theorem g_Ev_init_28 {X : WX} {d : Nat} (hd : 2 ≤ d) (M : Mem) : MG X g0 d 29 37 y_Ev_init b_Ev_init 5 none [vr 28, vr 4, vr 9, vr 13, vr 18] M (fun r M' => r = none ∧ M' = im_Ev_28 M) := by
  refine MG_of_G (by decide) (Nat.le_of_ble_eq_true rfl) (by decide) (by decide) ?_
  show G X g0 d 29 37 y_Ev_init b_Ev_init 5 none _ 0 [(0, vr 28), (1, vr 4), (2, vr 9), (3, vr 13), (4, vr 18)] [] 29 M
  refine G_aload (i := 0) (n := 0) (len := 1) (Or.inl ⟨0, rfl, rfl, d_Ev_init_0⟩) rfl (by decide) (G_pc (pc' := 1) rfl ?_)
  refine G_objInit (o := 28) d_Ev_init_1 ml_Ev_3 oi_inst oi_code (by decide) (by omega) (Nat.le_of_ble_eq_true rfl) (G_pc (pc' := 4) rfl ?_)
  refine G_aload (i := 0) (n := 0) (len := 1) (Or.inl ⟨0, rfl, rfl, d_Ev_init_4⟩) rfl (by decide) (G_pc (pc' := 5) rfl ?_)
  refine G_new (c := 5) rfl d_Ev_init_5 rfl cl_Ev_9 ins_St ini_St (by decide) (by decide) (G_pc (pc' := 8) rfl ?_)
  refine G_ps (pc' := 8) (st' := [vr 29, vr 28]) rfl rfl ?_
  refine G_dup d_Ev_init_8 (fun _ h => by cases h) (G_pc (pc' := 9) rfl ?_)
  refine G_callIN (K1 := 36) (d2 := 1) (o := 29) (as := []) (rest := [vr 29, vr 28]) d_Ev_init_9 mf_St_init (by decide) (by decide) rfl rfl (Nat.le_of_ble_eq_true rfl) (by omega) ⟨by decide, by decide⟩ (g_St_init_29 (Nat.le_refl _) _) (fun r1 M2 kq3 q3 => ?_)
  obtain ⟨q3a, q3b⟩ := q3; subst q3a; subst q3b
  refine G_ps (pc' := 12) (st' := [vr 29, vr 28]) rfl rfl ?_
  refine G_putFL (o := 28) (c := 1) (k := 4) (ki := 4) (x := 29) d_Ev_init_12 fl_Ev_12 rfl rfl (by decide) (by decide) (by decide) rfl rfl rfl rfl (tokO (by decide)) rfl (G_pc (pc' := 15) rfl ?_)
  refine G_aload (i := 0) (n := 0) (len := 1) (Or.inl ⟨0, rfl, rfl, d_Ev_init_15⟩) rfl (by decide) (G_pc (pc' := 16) rfl ?_)
  refine G_bipush (n := 40) d_Ev_init_16 (by decide) (G_pc (pc' := 18) rfl ?_)
  refine G_newa (n := 40) (ty := .char) rfl d_Ev_init_18 rfl ac_char (by decide) rfl (by decide) (by decide) (by decide) (by decide) (G_pc (pc' := 20) rfl ?_)
  refine G_ps (pc' := 20) (st' := [vr 36, vr 28]) rfl rfl ?_
  refine G_putFL (o := 28) (c := 1) (k := 5) (ki := 5) (x := 36) d_Ev_init_20 fl_Ev_18 rfl rfl (by decide) (by decide) (by decide) rfl rfl rfl rfl (tokA (by decide)) rfl (G_pc (pc' := 23) rfl ?_)
  refine G_aload (i := 0) (n := 0) (len := 1) (Or.inl ⟨0, rfl, rfl, d_Ev_init_23⟩) rfl (by decide) (G_pc (pc' := 24) rfl ?_)
  refine G_iconst (n := 0) d_Ev_init_24 (by decide) (G_pc (pc' := 25) rfl ?_)
  refine G_putL (o := 28) (c := 1) (k := 7) (ki := 7) (x := 0) d_Ev_init_25 fl_Ev_22 rfl rfl (by decide) (by decide) (by decide) rfl rfl (tokI (by decide)) rfl (G_pc (pc' := 28) rfl ?_)
  refine G_aload (i := 0) (n := 0) (len := 1) (Or.inl ⟨0, rfl, rfl, d_Ev_init_28⟩) rfl (by decide) (G_pc (pc' := 29) rfl ?_)
  refine G_iconst (n := (-1)) d_Ev_init_29 (by decide) (G_pc (pc' := 30) rfl ?_)
  refine G_putL (o := 28) (c := 1) (k := 8) (ki := 8) (x := (-1)) d_Ev_init_30 fl_Ev_26 rfl rfl (by decide) (by decide) (by decide) rfl rfl (tokI (by decide)) rfl (G_pc (pc' := 33) rfl ?_)
  refine G_aload (i := 0) (n := 0) (len := 1) (Or.inl ⟨0, rfl, rfl, d_Ev_init_33⟩) rfl (by decide) (G_pc (pc' := 34) rfl ?_)
  refine G_aload (i := 1) (n := 1) (len := 1) (Or.inl ⟨1, rfl, rfl, d_Ev_init_34⟩) rfl (by decide) (G_pc (pc' := 35) rfl ?_)
  refine G_putFL (o := 28) (c := 1) (k := 0) (ki := 0) (x := 4) d_Ev_init_35 fl_Ev_29 rfl rfl (by decide) (by decide) (by decide) rfl rfl rfl rfl (tokO (by decide)) rfl (G_pc (pc' := 38) rfl ?_)
  refine G_aload (i := 0) (n := 0) (len := 1) (Or.inl ⟨0, rfl, rfl, d_Ev_init_38⟩) rfl (by decide) (G_pc (pc' := 39) rfl ?_)
  refine G_aload (i := 2) (n := 2) (len := 1) (Or.inl ⟨2, rfl, rfl, d_Ev_init_39⟩) rfl (by decide) (G_pc (pc' := 40) rfl ?_)
  refine G_putFL (o := 28) (c := 1) (k := 1) (ki := 1) (x := 9) d_Ev_init_40 fl_Ev_33 rfl rfl (by decide) (by decide) (by decide) rfl rfl rfl rfl (tokO (by decide)) rfl (G_pc (pc' := 43) rfl ?_)
  refine G_aload (i := 0) (n := 0) (len := 1) (Or.inl ⟨0, rfl, rfl, d_Ev_init_43⟩) rfl (by decide) (G_pc (pc' := 44) rfl ?_)
  refine G_aload (i := 3) (n := 3) (len := 1) (Or.inl ⟨3, rfl, rfl, d_Ev_init_44⟩) rfl (by decide) (G_pc (pc' := 45) rfl ?_)
  refine G_putFL (o := 28) (c := 1) (k := 2) (ki := 2) (x := 13) d_Ev_init_45 fl_Ev_37 rfl rfl (by decide) (by decide) (by decide) rfl rfl rfl rfl (tokO (by decide)) rfl (G_pc (pc' := 48) rfl ?_)
  refine G_aload (i := 0) (n := 0) (len := 1) (Or.inl ⟨0, rfl, rfl, d_Ev_init_48⟩) rfl (by decide) (G_pc (pc' := 49) rfl ?_)
  refine G_aload (i := 4) (n := 4) (len := 2) (Or.inr ⟨rfl, d_Ev_init_49⟩) rfl (by decide) (G_pc (pc' := 51) rfl ?_)
  refine G_putFL (o := 28) (c := 1) (k := 3) (ki := 3) (x := 18) d_Ev_init_51 fl_Ev_41 rfl rfl (by decide) (by decide) (by decide) rfl rfl rfl rfl (tokO (by decide)) rfl (G_pc (pc' := 54) rfl ?_)
  refine G_vret d_Ev_init_54 rfl rfl ?_
  exact ⟨rfl, rfl⟩

def im_Ev_37 (M : Mem) : Mem := mset (mset (mset (mset (mset (mset (mset (mnew (mset (im_St_38 (mnew M 38)) 37 4 38) 45) 37 5 45) 37 7 0) 37 8 (-1)) 37 0 4) 37 1 9) 37 2 13) 37 3 18
set_option maxRecDepth 20000 in
theorem g_Ev_init_37 {X : WX} {d : Nat} (hd : 2 ≤ d) (M : Mem) : MG X g0 d 38 46 y_Ev_init b_Ev_init 5 none [vr 37, vr 4, vr 9, vr 13, vr 18] M (fun r M' => r = none ∧ M' = im_Ev_37 M) := by
  refine MG_of_G (by decide) (Nat.le_of_ble_eq_true rfl) (by decide) (by decide) ?_
  show G X g0 d 38 46 y_Ev_init b_Ev_init 5 none _ 0 [(0, vr 37), (1, vr 4), (2, vr 9), (3, vr 13), (4, vr 18)] [] 38 M
  refine G_aload (i := 0) (n := 0) (len := 1) (Or.inl ⟨0, rfl, rfl, d_Ev_init_0⟩) rfl (by decide) (G_pc (pc' := 1) rfl ?_)
  refine G_objInit (o := 37) d_Ev_init_1 ml_Ev_3 oi_inst oi_code (by decide) (by omega) (Nat.le_of_ble_eq_true rfl) (G_pc (pc' := 4) rfl ?_)
  refine G_aload (i := 0) (n := 0) (len := 1) (Or.inl ⟨0, rfl, rfl, d_Ev_init_4⟩) rfl (by decide) (G_pc (pc' := 5) rfl ?_)
  refine G_new (c := 5) rfl d_Ev_init_5 rfl cl_Ev_9 ins_St ini_St (by decide) (by decide) (G_pc (pc' := 8) rfl ?_)
  refine G_ps (pc' := 8) (st' := [vr 38, vr 37]) rfl rfl ?_
  refine G_dup d_Ev_init_8 (fun _ h => by cases h) (G_pc (pc' := 9) rfl ?_)
  refine G_callIN (K1 := 45) (d2 := 1) (o := 38) (as := []) (rest := [vr 38, vr 37]) d_Ev_init_9 mf_St_init (by decide) (by decide) rfl rfl (Nat.le_of_ble_eq_true rfl) (by omega) ⟨by decide, by decide⟩ (g_St_init_38 (Nat.le_refl _) _) (fun r1 M2 kq3 q3 => ?_)
  obtain ⟨q3a, q3b⟩ := q3; subst q3a; subst q3b
  refine G_ps (pc' := 12) (st' := [vr 38, vr 37]) rfl rfl ?_
  refine G_putFL (o := 37) (c := 1) (k := 4) (ki := 4) (x := 38) d_Ev_init_12 fl_Ev_12 rfl rfl (by decide) (by decide) (by decide) rfl rfl rfl rfl (tokO (by decide)) rfl (G_pc (pc' := 15) rfl ?_)
  refine G_aload (i := 0) (n := 0) (len := 1) (Or.inl ⟨0, rfl, rfl, d_Ev_init_15⟩) rfl (by decide) (G_pc (pc' := 16) rfl ?_)
  refine G_bipush (n := 40) d_Ev_init_16 (by decide) (G_pc (pc' := 18) rfl ?_)
  refine G_newa (n := 40) (ty := .char) rfl d_Ev_init_18 rfl ac_char (by decide) rfl (by decide) (by decide) (by decide) (by decide) (G_pc (pc' := 20) rfl ?_)
  refine G_ps (pc' := 20) (st' := [vr 45, vr 37]) rfl rfl ?_
  refine G_putFL (o := 37) (c := 1) (k := 5) (ki := 5) (x := 45) d_Ev_init_20 fl_Ev_18 rfl rfl (by decide) (by decide) (by decide) rfl rfl rfl rfl (tokA (by decide)) rfl (G_pc (pc' := 23) rfl ?_)
  refine G_aload (i := 0) (n := 0) (len := 1) (Or.inl ⟨0, rfl, rfl, d_Ev_init_23⟩) rfl (by decide) (G_pc (pc' := 24) rfl ?_)
  refine G_iconst (n := 0) d_Ev_init_24 (by decide) (G_pc (pc' := 25) rfl ?_)
  refine G_putL (o := 37) (c := 1) (k := 7) (ki := 7) (x := 0) d_Ev_init_25 fl_Ev_22 rfl rfl (by decide) (by decide) (by decide) rfl rfl (tokI (by decide)) rfl (G_pc (pc' := 28) rfl ?_)
  refine G_aload (i := 0) (n := 0) (len := 1) (Or.inl ⟨0, rfl, rfl, d_Ev_init_28⟩) rfl (by decide) (G_pc (pc' := 29) rfl ?_)
  refine G_iconst (n := (-1)) d_Ev_init_29 (by decide) (G_pc (pc' := 30) rfl ?_)
  refine G_putL (o := 37) (c := 1) (k := 8) (ki := 8) (x := (-1)) d_Ev_init_30 fl_Ev_26 rfl rfl (by decide) (by decide) (by decide) rfl rfl (tokI (by decide)) rfl (G_pc (pc' := 33) rfl ?_)
  refine G_aload (i := 0) (n := 0) (len := 1) (Or.inl ⟨0, rfl, rfl, d_Ev_init_33⟩) rfl (by decide) (G_pc (pc' := 34) rfl ?_)
  refine G_aload (i := 1) (n := 1) (len := 1) (Or.inl ⟨1, rfl, rfl, d_Ev_init_34⟩) rfl (by decide) (G_pc (pc' := 35) rfl ?_)
  refine G_putFL (o := 37) (c := 1) (k := 0) (ki := 0) (x := 4) d_Ev_init_35 fl_Ev_29 rfl rfl (by decide) (by decide) (by decide) rfl rfl rfl rfl (tokO (by decide)) rfl (G_pc (pc' := 38) rfl ?_)
  refine G_aload (i := 0) (n := 0) (len := 1) (Or.inl ⟨0, rfl, rfl, d_Ev_init_38⟩) rfl (by decide) (G_pc (pc' := 39) rfl ?_)
  refine G_aload (i := 2) (n := 2) (len := 1) (Or.inl ⟨2, rfl, rfl, d_Ev_init_39⟩) rfl (by decide) (G_pc (pc' := 40) rfl ?_)
  refine G_putFL (o := 37) (c := 1) (k := 1) (ki := 1) (x := 9) d_Ev_init_40 fl_Ev_33 rfl rfl (by decide) (by decide) (by decide) rfl rfl rfl rfl (tokO (by decide)) rfl (G_pc (pc' := 43) rfl ?_)
  refine G_aload (i := 0) (n := 0) (len := 1) (Or.inl ⟨0, rfl, rfl, d_Ev_init_43⟩) rfl (by decide) (G_pc (pc' := 44) rfl ?_)
  refine G_aload (i := 3) (n := 3) (len := 1) (Or.inl ⟨3, rfl, rfl, d_Ev_init_44⟩) rfl (by decide) (G_pc (pc' := 45) rfl ?_)
  refine G_putFL (o := 37) (c := 1) (k := 2) (ki := 2) (x := 13) d_Ev_init_45 fl_Ev_37 rfl rfl (by decide) (by decide) (by decide) rfl rfl rfl rfl (tokO (by decide)) rfl (G_pc (pc' := 48) rfl ?_)
  refine G_aload (i := 0) (n := 0) (len := 1) (Or.inl ⟨0, rfl, rfl, d_Ev_init_48⟩) rfl (by decide) (G_pc (pc' := 49) rfl ?_)
  refine G_aload (i := 4) (n := 4) (len := 2) (Or.inr ⟨rfl, d_Ev_init_49⟩) rfl (by decide) (G_pc (pc' := 51) rfl ?_)
  refine G_putFL (o := 37) (c := 1) (k := 3) (ki := 3) (x := 18) d_Ev_init_51 fl_Ev_41 rfl rfl (by decide) (by decide) (by decide) rfl rfl rfl rfl (tokO (by decide)) rfl (G_pc (pc' := 54) rfl ?_)
  refine G_vret d_Ev_init_54 rfl rfl ?_
  exact ⟨rfl, rfl⟩

def im_Ev_46 (M : Mem) : Mem := mset (mset (mset (mset (mset (mset (mset (mnew (mset (im_St_47 (mnew M 47)) 46 4 47) 54) 46 5 54) 46 7 0) 46 8 (-1)) 46 0 4) 46 1 9) 46 2 13) 46 3 18
set_option maxRecDepth 20000 in
theorem g_Ev_init_46 {X : WX} {d : Nat} (hd : 2 ≤ d) (M : Mem) : MG X g0 d 47 55 y_Ev_init b_Ev_init 5 none [vr 46, vr 4, vr 9, vr 13, vr 18] M (fun r M' => r = none ∧ M' = im_Ev_46 M) := by
  refine MG_of_G (by decide) (Nat.le_of_ble_eq_true rfl) (by decide) (by decide) ?_
  show G X g0 d 47 55 y_Ev_init b_Ev_init 5 none _ 0 [(0, vr 46), (1, vr 4), (2, vr 9), (3, vr 13), (4, vr 18)] [] 47 M
  refine G_aload (i := 0) (n := 0) (len := 1) (Or.inl ⟨0, rfl, rfl, d_Ev_init_0⟩) rfl (by decide) (G_pc (pc' := 1) rfl ?_)
  refine G_objInit (o := 46) d_Ev_init_1 ml_Ev_3 oi_inst oi_code (by decide) (by omega) (Nat.le_of_ble_eq_true rfl) (G_pc (pc' := 4) rfl ?_)
  refine G_aload (i := 0) (n := 0) (len := 1) (Or.inl ⟨0, rfl, rfl, d_Ev_init_4⟩) rfl (by decide) (G_pc (pc' := 5) rfl ?_)
  refine G_new (c := 5) rfl d_Ev_init_5 rfl cl_Ev_9 ins_St ini_St (by decide) (by decide) (G_pc (pc' := 8) rfl ?_)
  refine G_ps (pc' := 8) (st' := [vr 47, vr 46]) rfl rfl ?_
  refine G_dup d_Ev_init_8 (fun _ h => by cases h) (G_pc (pc' := 9) rfl ?_)
  refine G_callIN (K1 := 54) (d2 := 1) (o := 47) (as := []) (rest := [vr 47, vr 46]) d_Ev_init_9 mf_St_init (by decide) (by decide) rfl rfl (Nat.le_of_ble_eq_true rfl) (by omega) ⟨by decide, by decide⟩ (g_St_init_47 (Nat.le_refl _) _) (fun r1 M2 kq3 q3 => ?_)
  obtain ⟨q3a, q3b⟩ := q3; subst q3a; subst q3b
  refine G_ps (pc' := 12) (st' := [vr 47, vr 46]) rfl rfl ?_
  refine G_putFL (o := 46) (c := 1) (k := 4) (ki := 4) (x := 47) d_Ev_init_12 fl_Ev_12 rfl rfl (by decide) (by decide) (by decide) rfl rfl rfl rfl (tokO (by decide)) rfl (G_pc (pc' := 15) rfl ?_)
  refine G_aload (i := 0) (n := 0) (len := 1) (Or.inl ⟨0, rfl, rfl, d_Ev_init_15⟩) rfl (by decide) (G_pc (pc' := 16) rfl ?_)
  refine G_bipush (n := 40) d_Ev_init_16 (by decide) (G_pc (pc' := 18) rfl ?_)
  refine G_newa (n := 40) (ty := .char) rfl d_Ev_init_18 rfl ac_char (by decide) rfl (by decide) (by decide) (by decide) (by decide) (G_pc (pc' := 20) rfl ?_)
  refine G_ps (pc' := 20) (st' := [vr 54, vr 46]) rfl rfl ?_
  refine G_putFL (o := 46) (c := 1) (k := 5) (ki := 5) (x := 54) d_Ev_init_20 fl_Ev_18 rfl rfl (by decide) (by decide) (by decide) rfl rfl rfl rfl (tokA (by decide)) rfl (G_pc (pc' := 23) rfl ?_)
  refine G_aload (i := 0) (n := 0) (len := 1) (Or.inl ⟨0, rfl, rfl, d_Ev_init_23⟩) rfl (by decide) (G_pc (pc' := 24) rfl ?_)
  refine G_iconst (n := 0) d_Ev_init_24 (by decide) (G_pc (pc' := 25) rfl ?_)
  refine G_putL (o := 46) (c := 1) (k := 7) (ki := 7) (x := 0) d_Ev_init_25 fl_Ev_22 rfl rfl (by decide) (by decide) (by decide) rfl rfl (tokI (by decide)) rfl (G_pc (pc' := 28) rfl ?_)
  refine G_aload (i := 0) (n := 0) (len := 1) (Or.inl ⟨0, rfl, rfl, d_Ev_init_28⟩) rfl (by decide) (G_pc (pc' := 29) rfl ?_)
  refine G_iconst (n := (-1)) d_Ev_init_29 (by decide) (G_pc (pc' := 30) rfl ?_)
  refine G_putL (o := 46) (c := 1) (k := 8) (ki := 8) (x := (-1)) d_Ev_init_30 fl_Ev_26 rfl rfl (by decide) (by decide) (by decide) rfl rfl (tokI (by decide)) rfl (G_pc (pc' := 33) rfl ?_)
  refine G_aload (i := 0) (n := 0) (len := 1) (Or.inl ⟨0, rfl, rfl, d_Ev_init_33⟩) rfl (by decide) (G_pc (pc' := 34) rfl ?_)
  refine G_aload (i := 1) (n := 1) (len := 1) (Or.inl ⟨1, rfl, rfl, d_Ev_init_34⟩) rfl (by decide) (G_pc (pc' := 35) rfl ?_)
  refine G_putFL (o := 46) (c := 1) (k := 0) (ki := 0) (x := 4) d_Ev_init_35 fl_Ev_29 rfl rfl (by decide) (by decide) (by decide) rfl rfl rfl rfl (tokO (by decide)) rfl (G_pc (pc' := 38) rfl ?_)
  refine G_aload (i := 0) (n := 0) (len := 1) (Or.inl ⟨0, rfl, rfl, d_Ev_init_38⟩) rfl (by decide) (G_pc (pc' := 39) rfl ?_)
  refine G_aload (i := 2) (n := 2) (len := 1) (Or.inl ⟨2, rfl, rfl, d_Ev_init_39⟩) rfl (by decide) (G_pc (pc' := 40) rfl ?_)
  refine G_putFL (o := 46) (c := 1) (k := 1) (ki := 1) (x := 9) d_Ev_init_40 fl_Ev_33 rfl rfl (by decide) (by decide) (by decide) rfl rfl rfl rfl (tokO (by decide)) rfl (G_pc (pc' := 43) rfl ?_)
  refine G_aload (i := 0) (n := 0) (len := 1) (Or.inl ⟨0, rfl, rfl, d_Ev_init_43⟩) rfl (by decide) (G_pc (pc' := 44) rfl ?_)
  refine G_aload (i := 3) (n := 3) (len := 1) (Or.inl ⟨3, rfl, rfl, d_Ev_init_44⟩) rfl (by decide) (G_pc (pc' := 45) rfl ?_)
  refine G_putFL (o := 46) (c := 1) (k := 2) (ki := 2) (x := 13) d_Ev_init_45 fl_Ev_37 rfl rfl (by decide) (by decide) (by decide) rfl rfl rfl rfl (tokO (by decide)) rfl (G_pc (pc' := 48) rfl ?_)
  refine G_aload (i := 0) (n := 0) (len := 1) (Or.inl ⟨0, rfl, rfl, d_Ev_init_48⟩) rfl (by decide) (G_pc (pc' := 49) rfl ?_)
  refine G_aload (i := 4) (n := 4) (len := 2) (Or.inr ⟨rfl, d_Ev_init_49⟩) rfl (by decide) (G_pc (pc' := 51) rfl ?_)
  refine G_putFL (o := 46) (c := 1) (k := 3) (ki := 3) (x := 18) d_Ev_init_51 fl_Ev_41 rfl rfl (by decide) (by decide) (by decide) rfl rfl rfl rfl (tokO (by decide)) rfl (G_pc (pc' := 54) rfl ?_)
  refine G_vret d_Ev_init_54 rfl rfl ?_
  exact ⟨rfl, rfl⟩

def im_De (M : Mem) : Mem := mset (mset (mset (im_Ev_46 (mnew (mset (im_Ev_37 (mnew (mset (im_Ev_28 (mnew (mset (im_Ev_19 (mnew (im_Ck (mnew (im_Re (mnew (im_Li (mnew (im_Ta (mnew (mset (mnew (mset (mnew M 2) 1 2 2) 3) 1 3 3) 4)) 9)) 13)) 18)) 19)) 2 0 19) 28)) 2 1 28) 37)) 2 2 37) 46)) 2 3 46) 1 0 4) 1 1 9
theorem d_De_init_0 : decode b_De_init 0 = .ok (.aload_n 0, 1) := by decide +kernel
theorem d_De_init_1 : decode b_De_init 1 = .ok (.invokespecial 3, 3) := by decide +kernel
theorem d_De_init_4 : decode b_De_init 4 = .ok (.aload_n 0, 1) := by decide +kernel
theorem d_De_init_5 : decode b_De_init 5 = .ok (.iconst 4, 1) := by decide +kernel
theorem d_De_init_6 : decode b_De_init 6 = .ok (.anewarray 9, 3) := by decide +kernel
theorem d_De_init_9 : decode b_De_init 9 = .ok (.putfield 11, 3) := by decide +kernel
theorem d_De_init_12 : decode b_De_init 12 = .ok (.aload_n 0, 1) := by decide +kernel
theorem d_De_init_13 : decode b_De_init 13 = .ok (.bipush 40, 2) := by decide +kernel
theorem d_De_init_15 : decode b_De_init 15 = .ok (.newarray .char, 2) := by decide +kernel
theorem d_De_init_17 : decode b_De_init 17 = .ok (.putfield 15, 3) := by decide +kernel
theorem d_De_init_20 : decode b_De_init 20 = .ok (.new 19, 3) := by decide +kernel
theorem d_De_init_23 : decode b_De_init 23 = .ok (.dup, 1) := by decide +kernel
theorem d_De_init_24 : decode b_De_init 24 = .ok (.invokespecial 21, 3) := by decide +kernel
theorem d_De_init_27 : decode b_De_init 27 = .ok (.astore_n 1, 1) := by decide +kernel
theorem d_De_init_28 : decode b_De_init 28 = .ok (.new 22, 3) := by decide +kernel
theorem d_De_init_31 : decode b_De_init 31 = .ok (.dup, 1) := by decide +kernel
theorem d_De_init_32 : decode b_De_init 32 = .ok (.invokespecial 24, 3) := by decide +kernel
theorem d_De_init_35 : decode b_De_init 35 = .ok (.astore_n 2, 1) := by decide +kernel
theorem d_De_init_36 : decode b_De_init 36 = .ok (.new 25, 3) := by decide +kernel
theorem d_De_init_39 : decode b_De_init 39 = .ok (.dup, 1) := by decide +kernel
theorem d_De_init_40 : decode b_De_init 40 = .ok (.invokespecial 27, 3) := by decide +kernel
theorem d_De_init_43 : decode b_De_init 43 = .ok (.astore_n 3, 1) := by decide +kernel
theorem d_De_init_44 : decode b_De_init 44 = .ok (.new 28, 3) := by decide +kernel
theorem d_De_init_47 : decode b_De_init 47 = .ok (.dup, 1) := by decide +kernel
theorem d_De_init_48 : decode b_De_init 48 = .ok (.aload_n 1, 1) := by decide +kernel
theorem d_De_init_49 : decode b_De_init 49 = .ok (.invokespecial 30, 3) := by decide +kernel
theorem d_De_init_52 : decode b_De_init 52 = .ok (.astore 4, 2) := by decide +kernel
theorem d_De_init_54 : decode b_De_init 54 = .ok (.iconst 0, 1) := by decide +kernel
theorem d_De_init_55 : decode b_De_init 55 = .ok (.istore 5, 2) := by decide +kernel
theorem d_De_init_57 : decode b_De_init 57 = .ok (.iload 5, 2) := by decide +kernel
theorem d_De_init_59 : decode b_De_init 59 = .ok (.iconst 4, 1) := by decide +kernel
theorem d_De_init_60 : decode b_De_init 60 = .ok (.if_icmp .ge 28, 3) := by decide +kernel
theorem d_De_init_63 : decode b_De_init 63 = .ok (.aload_n 0, 1) := by decide +kernel
theorem d_De_init_64 : decode b_De_init 64 = .ok (.getfield 11, 3) := by decide +kernel
theorem d_De_init_67 : decode b_De_init 67 = .ok (.iload 5, 2) := by decide +kernel
theorem d_De_init_69 : decode b_De_init 69 = .ok (.new 9, 3) := by decide +kernel
theorem d_De_init_72 : decode b_De_init 72 = .ok (.dup, 1) := by decide +kernel
theorem d_De_init_73 : decode b_De_init 73 = .ok (.aload_n 1, 1) := by decide +kernel
theorem d_De_init_74 : decode b_De_init 74 = .ok (.aload_n 2, 1) := by decide +kernel
theorem d_De_init_75 : decode b_De_init 75 = .ok (.aload_n 3, 1) := by decide +kernel
theorem d_De_init_76 : decode b_De_init 76 = .ok (.aload 4, 2) := by decide +kernel
theorem d_De_init_78 : decode b_De_init 78 = .ok (.invokespecial 33, 3) := by decide +kernel
theorem d_De_init_81 : decode b_De_init 81 = .ok (.aastore, 1) := by decide +kernel
theorem d_De_init_82 : decode b_De_init 82 = .ok (.iinc 5 1, 3) := by decide +kernel
theorem d_De_init_85 : decode b_De_init 85 = .ok (.goto (-28), 3) := by decide +kernel
theorem d_De_init_88 : decode b_De_init 88 = .ok (.aload_n 0, 1) := by decide +kernel
theorem d_De_init_89 : decode b_De_init 89 = .ok (.aload_n 1, 1) := by decide +kernel
theorem d_De_init_90 : decode b_De_init 90 = .ok (.putfield 36, 3) := by decide +kernel
theorem d_De_init_93 : decode b_De_init 93 = .ok (.aload_n 0, 1) := by decide +kernel
theorem d_De_init_94 : decode b_De_init 94 = .ok (.aload_n 2, 1) := by decide +kernel
theorem d_De_init_95 : decode b_De_init 95 = .ok (.putfield 40, 3) := by decide +kernel
theorem d_De_init_98 : decode b_De_init 98 = .ok (.return_, 1) := by decide +kernel
set_option maxRecDepth 20000 in
theorem g_De_init {X : WX} {d : Nat} (hd : 3 ≤ d) (M : Mem) : MG X g0 d 2 55 y_De_init b_De_init 6 none [vr 1] M (fun r M' => r = none ∧ M' = im_De M) := by
  refine MG_of_G (by decide) (Nat.le_of_ble_eq_true rfl) (by decide) (by decide) ?_
  show G X g0 d 2 55 y_De_init b_De_init 6 none _ 0 [(0, vr 1)] [] 2 M
  refine G_aload (i := 0) (n := 0) (len := 1) (Or.inl ⟨0, rfl, rfl, d_De_init_0⟩) rfl (by decide) (G_pc (pc' := 1) rfl ?_)
  refine G_objInit (o := 1) d_De_init_1 ml_De_3 oi_inst oi_code (by decide) (by omega) (Nat.le_of_ble_eq_true rfl) (G_pc (pc' := 4) rfl ?_)
  refine G_aload (i := 0) (n := 0) (len := 1) (Or.inl ⟨0, rfl, rfl, d_De_init_4⟩) rfl (by decide) (G_pc (pc' := 5) rfl ?_)
  refine G_iconst (n := 4) d_De_init_5 (by decide) (G_pc (pc' := 6) rfl ?_)
  refine G_anewa (n := 4) rfl d_De_init_6 cl_De_9 rfl (by decide) (by decide) (by decide) (by decide) (G_pc (pc' := 9) rfl ?_)
  refine G_ps (pc' := 9) (st' := [vr 2, vr 1]) rfl rfl ?_
  refine G_putFL (o := 1) (c := 8) (k := 2) (ki := 2) (x := 2) d_De_init_9 fl_De_11 rfl rfl (by decide) (by decide) (by decide) rfl rfl rfl rfl (tokA (by decide)) rfl (G_pc (pc' := 12) rfl ?_)
  refine G_aload (i := 0) (n := 0) (len := 1) (Or.inl ⟨0, rfl, rfl, d_De_init_12⟩) rfl (by decide) (G_pc (pc' := 13) rfl ?_)
  refine G_bipush (n := 40) d_De_init_13 (by decide) (G_pc (pc' := 15) rfl ?_)
  refine G_newa (n := 40) (ty := .char) rfl d_De_init_15 rfl ac_char (by decide) rfl (by decide) (by decide) (by decide) (by decide) (G_pc (pc' := 17) rfl ?_)
  refine G_ps (pc' := 17) (st' := [vr 3, vr 1]) rfl rfl ?_
  refine G_putFL (o := 1) (c := 8) (k := 3) (ki := 3) (x := 3) d_De_init_17 fl_De_15 rfl rfl (by decide) (by decide) (by decide) rfl rfl rfl rfl (tokA (by decide)) rfl (G_pc (pc' := 20) rfl ?_)
  refine G_new (c := 6) rfl d_De_init_20 rfl cl_De_19 ins_Ta ini_Ta (by decide) (by decide) (G_pc (pc' := 23) rfl ?_)
  refine G_ps (pc' := 23) (st' := [vr 4]) rfl rfl ?_
  refine G_dup d_De_init_23 (fun _ h => by cases h) (G_pc (pc' := 24) rfl ?_)
  refine G_callI (K1 := 9) (d2 := 1) (o := 4) (as := []) (rest := [vr 4]) d_De_init_24 mf_Ta_init ml_De_21 (by decide) rfl rfl (Nat.le_of_ble_eq_true rfl) (by omega) ⟨by decide, by decide⟩ (g_Ta_init (Nat.le_refl _) _) (fun r1 M2 kq3 q3 => ?_)
  obtain ⟨q3a, q3b⟩ := q3; subst q3a; subst q3b
  refine G_ps (pc' := 27) (st' := [vr 4]) rfl rfl ?_
  refine G_astore (i := 1) (len := 1) (ls' := [(1, vr 4), (0, vr 1)]) (Or.inl ⟨1, rfl, rfl, d_De_init_27⟩) (by decide) (by decide) rfl (G_pc (pc' := 28) rfl ?_)
  refine G_new (c := 3) rfl d_De_init_28 rfl cl_De_22 ins_Li ini_Li (by decide) (by decide) (G_pc (pc' := 31) rfl ?_)
  refine G_ps (pc' := 31) (st' := [vr 9]) rfl rfl ?_
  refine G_dup d_De_init_31 (fun _ h => by cases h) (G_pc (pc' := 32) rfl ?_)
  refine G_callIN (K1 := 13) (d2 := 1) (o := 9) (as := []) (rest := [vr 9]) d_De_init_32 mf_Li_init (by decide) (by decide) rfl rfl (Nat.le_of_ble_eq_true rfl) (by omega) ⟨by decide, by decide⟩ (g_Li_init (Nat.le_refl _) _) (fun r4 M5 kq6 q6 => ?_)
  obtain ⟨q6a, q6b⟩ := q6; subst q6a; subst q6b
  refine G_ps (pc' := 35) (st' := [vr 9]) rfl rfl ?_
  refine G_astore (i := 2) (len := 1) (ls' := [(2, vr 9), (1, vr 4), (0, vr 1)]) (Or.inl ⟨2, rfl, rfl, d_De_init_35⟩) (by decide) (by decide) rfl (G_pc (pc' := 36) rfl ?_)
  refine G_new (c := 4) rfl d_De_init_36 rfl cl_De_25 ins_Re ini_Re (by decide) (by decide) (G_pc (pc' := 39) rfl ?_)
  refine G_ps (pc' := 39) (st' := [vr 13]) rfl rfl ?_
  refine G_dup d_De_init_39 (fun _ h => by cases h) (G_pc (pc' := 40) rfl ?_)
  refine G_callIN (K1 := 18) (d2 := 2) (o := 13) (as := []) (rest := [vr 13]) d_De_init_40 mf_Re_init (by decide) (by decide) rfl rfl (Nat.le_of_ble_eq_true rfl) (by omega) ⟨by decide, by decide⟩ (g_Re_init (Nat.le_refl _) _) (fun r7 M8 kq9 q9 => ?_)
  obtain ⟨q9a, q9b⟩ := q9; subst q9a; subst q9b
  refine G_ps (pc' := 43) (st' := [vr 13]) rfl rfl ?_
  refine G_astore (i := 3) (len := 1) (ls' := [(3, vr 13), (2, vr 9), (1, vr 4), (0, vr 1)]) (Or.inl ⟨3, rfl, rfl, d_De_init_43⟩) (by decide) (by decide) rfl (G_pc (pc' := 44) rfl ?_)
  refine G_new (c := 0) rfl d_De_init_44 rfl cl_De_28 ins_Ck ini_Ck (by decide) (by decide) (G_pc (pc' := 47) rfl ?_)
  refine G_ps (pc' := 47) (st' := [vr 18]) rfl rfl ?_
  refine G_dup d_De_init_47 (fun _ h => by cases h) (G_pc (pc' := 48) rfl ?_)
  refine G_aload (i := 1) (n := 2) (len := 1) (Or.inl ⟨1, rfl, rfl, d_De_init_48⟩) rfl (by decide) (G_pc (pc' := 49) rfl ?_)
  refine G_callI (K1 := 19) (d2 := 1) (o := 18) (as := [vr 4]) (rest := [vr 18]) d_De_init_49 mf_Ck_init ml_De_30 (by decide) rfl rfl (Nat.le_of_ble_eq_true rfl) (by omega) ⟨by decide, by decide⟩ (g_Ck_init (Nat.le_refl _) _) (fun r10 M11 kq12 q12 => ?_)
  obtain ⟨q12a, q12b⟩ := q12; subst q12a; subst q12b
  refine G_ps (pc' := 52) (st' := [vr 18]) rfl rfl ?_
  refine G_astore (i := 4) (len := 2) (ls' := [(4, vr 18), (3, vr 13), (2, vr 9), (1, vr 4), (0, vr 1)]) (Or.inr ⟨rfl, d_De_init_52⟩) (by decide) (by decide) rfl (G_pc (pc' := 54) rfl ?_)
  refine G_iconst (n := 0) d_De_init_54 (by decide) (G_pc (pc' := 55) rfl ?_)
  refine G_istore (i := 5) (len := 2) (ls' := [(5, vi 0), (4, vr 18), (3, vr 13), (2, vr 9), (1, vr 4), (0, vr 1)]) (Or.inr ⟨rfl, d_De_init_55⟩) (by decide) rfl (G_pc (pc' := 57) rfl ?_)
  refine G_iload (i := 5) (n := 0) (len := 2) (Or.inr ⟨rfl, d_De_init_57⟩) rfl (G_pc (pc' := 59) rfl ?_)
  refine G_iconst (n := 4) d_De_init_59 (by decide) (G_pc (pc' := 60) rfl ?_)
  refine G_icmp_ge (tgt := 88) d_De_init_60 (by decide) (fun h13 => absurd h13 (by decide)) (fun h13 => G_pc (pc' := 63) rfl ?_)
  refine G_aload (i := 0) (n := 5) (len := 1) (Or.inl ⟨0, rfl, rfl, d_De_init_63⟩) rfl (by decide) (G_pc (pc' := 64) rfl ?_)
  refine G_get (o := 1) (c := 8) (k := 2) (v := 2) d_De_init_64 fl_De_11 rfl (by decide) (by decide) rfl rfl (G_pc (pc' := 67) rfl ?_)
  refine G_iload (i := 5) (n := 0) (len := 2) (Or.inr ⟨rfl, d_De_init_67⟩) rfl (G_pc (pc' := 69) rfl ?_)
  refine G_new (c := 1) rfl d_De_init_69 rfl cl_De_9 ins_Ev ini_Ev (by decide) (by decide) (G_pc (pc' := 72) rfl ?_)
  refine G_ps (pc' := 72) (st' := [vr 19, vi 0, vr 2]) rfl rfl ?_
  refine G_dup d_De_init_72 (fun _ h => by cases h) (G_pc (pc' := 73) rfl ?_)
  refine G_aload (i := 1) (n := 4) (len := 1) (Or.inl ⟨1, rfl, rfl, d_De_init_73⟩) rfl (by decide) (G_pc (pc' := 74) rfl ?_)
  refine G_aload (i := 2) (n := 3) (len := 1) (Or.inl ⟨2, rfl, rfl, d_De_init_74⟩) rfl (by decide) (G_pc (pc' := 75) rfl ?_)
  refine G_aload (i := 3) (n := 2) (len := 1) (Or.inl ⟨3, rfl, rfl, d_De_init_75⟩) rfl (by decide) (G_pc (pc' := 76) rfl ?_)
  refine G_aload (i := 4) (n := 1) (len := 2) (Or.inr ⟨rfl, d_De_init_76⟩) rfl (by decide) (G_pc (pc' := 78) rfl ?_)
  refine G_callI (K1 := 28) (d2 := 2) (o := 19) (as := [vr 4, vr 9, vr 13, vr 18]) (rest := [vr 19, vi 0, vr 2]) d_De_init_78 mf_Ev_init ml_De_33 (by decide) rfl rfl (Nat.le_of_ble_eq_true rfl) (by omega) ⟨by decide, by decide⟩ (g_Ev_init_19 (Nat.le_refl _) _) (fun r14 M15 kq16 q16 => ?_)
  obtain ⟨q16a, q16b⟩ := q16; subst q16a; subst q16b
  refine G_ps (pc' := 81) (st' := [vr 19, vi 0, vr 2]) rfl rfl ?_
  refine G_aastore (o := 2) (v := 19) (n := 4) (i := 0) (c := 0) d_De_init_81 rfl rfl ⟨by decide, by decide⟩ (by decide) (by decide) rfl (by decide) (G_pc (pc' := 82) rfl ?_)
  refine G_iinc (i := 5) (n := 0) (z := 1) (ls' := [(5, vi 1), (4, vr 18), (3, vr 13), (2, vr 9), (1, vr 4), (0, vr 1)]) d_De_init_82 rfl (by decide) (by omega) rfl (G_pc (pc' := 85) rfl ?_)
  refine G_goto (tgt := 57) d_De_init_85 (by decide) ?_
  refine G_iload (i := 5) (n := 0) (len := 2) (Or.inr ⟨rfl, d_De_init_57⟩) rfl (G_pc (pc' := 59) rfl ?_)
  refine G_iconst (n := 4) d_De_init_59 (by decide) (G_pc (pc' := 60) rfl ?_)
  refine G_icmp_ge (tgt := 88) d_De_init_60 (by decide) (fun h17 => absurd h17 (by decide)) (fun h17 => G_pc (pc' := 63) rfl ?_)
  refine G_aload (i := 0) (n := 5) (len := 1) (Or.inl ⟨0, rfl, rfl, d_De_init_63⟩) rfl (by decide) (G_pc (pc' := 64) rfl ?_)
  refine G_get (o := 1) (c := 8) (k := 2) (v := 2) d_De_init_64 fl_De_11 rfl (by decide) (by decide) rfl rfl (G_pc (pc' := 67) rfl ?_)
  refine G_iload (i := 5) (n := 0) (len := 2) (Or.inr ⟨rfl, d_De_init_67⟩) rfl (G_pc (pc' := 69) rfl ?_)
  refine G_new (c := 1) rfl d_De_init_69 rfl cl_De_9 ins_Ev ini_Ev (by decide) (by decide) (G_pc (pc' := 72) rfl ?_)
  refine G_ps (pc' := 72) (st' := [vr 28, vi 1, vr 2]) rfl rfl ?_
  refine G_dup d_De_init_72 (fun _ h => by cases h) (G_pc (pc' := 73) rfl ?_)
  refine G_aload (i := 1) (n := 4) (len := 1) (Or.inl ⟨1, rfl, rfl, d_De_init_73⟩) rfl (by decide) (G_pc (pc' := 74) rfl ?_)
  refine G_aload (i := 2) (n := 3) (len := 1) (Or.inl ⟨2, rfl, rfl, d_De_init_74⟩) rfl (by decide) (G_pc (pc' := 75) rfl ?_)
  refine G_aload (i := 3) (n := 2) (len := 1) (Or.inl ⟨3, rfl, rfl, d_De_init_75⟩) rfl (by decide) (G_pc (pc' := 76) rfl ?_)
  refine G_aload (i := 4) (n := 1) (len := 2) (Or.inr ⟨rfl, d_De_init_76⟩) rfl (by decide) (G_pc (pc' := 78) rfl ?_)
  refine G_callI (K1 := 37) (d2 := 2) (o := 28) (as := [vr 4, vr 9, vr 13, vr 18]) (rest := [vr 28, vi 1, vr 2]) d_De_init_78 mf_Ev_init ml_De_33 (by decide) rfl rfl (Nat.le_of_ble_eq_true rfl) (by omega) ⟨by decide, by decide⟩ (g_Ev_init_28 (Nat.le_refl _) _) (fun r18 M19 kq20 q20 => ?_)
  obtain ⟨q20a, q20b⟩ := q20; subst q20a; subst q20b
  refine G_ps (pc' := 81) (st' := [vr 28, vi 1, vr 2]) rfl rfl ?_
  refine G_aastore (o := 2) (v := 28) (n := 4) (i := 1) (c := 0) d_De_init_81 rfl rfl ⟨by decide, by decide⟩ (by decide) (by decide) rfl (by decide) (G_pc (pc' := 82) rfl ?_)
  refine G_iinc (i := 5) (n := 0) (z := 1) (ls' := [(5, vi 2), (4, vr 18), (3, vr 13), (2, vr 9), (1, vr 4), (0, vr 1)]) d_De_init_82 rfl (by decide) (by omega) rfl (G_pc (pc' := 85) rfl ?_)
  refine G_goto (tgt := 57) d_De_init_85 (by decide) ?_
  refine G_iload (i := 5) (n := 0) (len := 2) (Or.inr ⟨rfl, d_De_init_57⟩) rfl (G_pc (pc' := 59) rfl ?_)
  refine G_iconst (n := 4) d_De_init_59 (by decide) (G_pc (pc' := 60) rfl ?_)
  refine G_icmp_ge (tgt := 88) d_De_init_60 (by decide) (fun h21 => absurd h21 (by decide)) (fun h21 => G_pc (pc' := 63) rfl ?_)
  refine G_aload (i := 0) (n := 5) (len := 1) (Or.inl ⟨0, rfl, rfl, d_De_init_63⟩) rfl (by decide) (G_pc (pc' := 64) rfl ?_)
  refine G_get (o := 1) (c := 8) (k := 2) (v := 2) d_De_init_64 fl_De_11 rfl (by decide) (by decide) rfl rfl (G_pc (pc' := 67) rfl ?_)
  refine G_iload (i := 5) (n := 0) (len := 2) (Or.inr ⟨rfl, d_De_init_67⟩) rfl (G_pc (pc' := 69) rfl ?_)
  refine G_new (c := 1) rfl d_De_init_69 rfl cl_De_9 ins_Ev ini_Ev (by decide) (by decide) (G_pc (pc' := 72) rfl ?_)
  refine G_ps (pc' := 72) (st' := [vr 37, vi 2, vr 2]) rfl rfl ?_
  refine G_dup d_De_init_72 (fun _ h => by cases h) (G_pc (pc' := 73) rfl ?_)
  refine G_aload (i := 1) (n := 4) (len := 1) (Or.inl ⟨1, rfl, rfl, d_De_init_73⟩) rfl (by decide) (G_pc (pc' := 74) rfl ?_)
  refine G_aload (i := 2) (n := 3) (len := 1) (Or.inl ⟨2, rfl, rfl, d_De_init_74⟩) rfl (by decide) (G_pc (pc' := 75) rfl ?_)
  refine G_aload (i := 3) (n := 2) (len := 1) (Or.inl ⟨3, rfl, rfl, d_De_init_75⟩) rfl (by decide) (G_pc (pc' := 76) rfl ?_)
  refine G_aload (i := 4) (n := 1) (len := 2) (Or.inr ⟨rfl, d_De_init_76⟩) rfl (by decide) (G_pc (pc' := 78) rfl ?_)
  refine G_callI (K1 := 46) (d2 := 2) (o := 37) (as := [vr 4, vr 9, vr 13, vr 18]) (rest := [vr 37, vi 2, vr 2]) d_De_init_78 mf_Ev_init ml_De_33 (by decide) rfl rfl (Nat.le_of_ble_eq_true rfl) (by omega) ⟨by decide, by decide⟩ (g_Ev_init_37 (Nat.le_refl _) _) (fun r22 M23 kq24 q24 => ?_)
  obtain ⟨q24a, q24b⟩ := q24; subst q24a; subst q24b
  refine G_ps (pc' := 81) (st' := [vr 37, vi 2, vr 2]) rfl rfl ?_
  refine G_aastore (o := 2) (v := 37) (n := 4) (i := 2) (c := 0) d_De_init_81 rfl rfl ⟨by decide, by decide⟩ (by decide) (by decide) rfl (by decide) (G_pc (pc' := 82) rfl ?_)
  refine G_iinc (i := 5) (n := 0) (z := 1) (ls' := [(5, vi 3), (4, vr 18), (3, vr 13), (2, vr 9), (1, vr 4), (0, vr 1)]) d_De_init_82 rfl (by decide) (by omega) rfl (G_pc (pc' := 85) rfl ?_)
  refine G_goto (tgt := 57) d_De_init_85 (by decide) ?_
  refine G_iload (i := 5) (n := 0) (len := 2) (Or.inr ⟨rfl, d_De_init_57⟩) rfl (G_pc (pc' := 59) rfl ?_)
  refine G_iconst (n := 4) d_De_init_59 (by decide) (G_pc (pc' := 60) rfl ?_)
  refine G_icmp_ge (tgt := 88) d_De_init_60 (by decide) (fun h25 => absurd h25 (by decide)) (fun h25 => G_pc (pc' := 63) rfl ?_)
  refine G_aload (i := 0) (n := 5) (len := 1) (Or.inl ⟨0, rfl, rfl, d_De_init_63⟩) rfl (by decide) (G_pc (pc' := 64) rfl ?_)
  refine G_get (o := 1) (c := 8) (k := 2) (v := 2) d_De_init_64 fl_De_11 rfl (by decide) (by decide) rfl rfl (G_pc (pc' := 67) rfl ?_)
  refine G_iload (i := 5) (n := 0) (len := 2) (Or.inr ⟨rfl, d_De_init_67⟩) rfl (G_pc (pc' := 69) rfl ?_)
  refine G_new (c := 1) rfl d_De_init_69 rfl cl_De_9 ins_Ev ini_Ev (by decide) (by decide) (G_pc (pc' := 72) rfl ?_)
  refine G_ps (pc' := 72) (st' := [vr 46, vi 3, vr 2]) rfl rfl ?_
  refine G_dup d_De_init_72 (fun _ h => by cases h) (G_pc (pc' := 73) rfl ?_)
  refine G_aload (i := 1) (n := 4) (len := 1) (Or.inl ⟨1, rfl, rfl, d_De_init_73⟩) rfl (by decide) (G_pc (pc' := 74) rfl ?_)
  refine G_aload (i := 2) (n := 3) (len := 1) (Or.inl ⟨2, rfl, rfl, d_De_init_74⟩) rfl (by decide) (G_pc (pc' := 75) rfl ?_)
  refine G_aload (i := 3) (n := 2) (len := 1) (Or.inl ⟨3, rfl, rfl, d_De_init_75⟩) rfl (by decide) (G_pc (pc' := 76) rfl ?_)
  refine G_aload (i := 4) (n := 1) (len := 2) (Or.inr ⟨rfl, d_De_init_76⟩) rfl (by decide) (G_pc (pc' := 78) rfl ?_)
  refine G_callI (K1 := 55) (d2 := 2) (o := 46) (as := [vr 4, vr 9, vr 13, vr 18]) (rest := [vr 46, vi 3, vr 2]) d_De_init_78 mf_Ev_init ml_De_33 (by decide) rfl rfl (Nat.le_of_ble_eq_true rfl) (by omega) ⟨by decide, by decide⟩ (g_Ev_init_46 (Nat.le_refl _) _) (fun r26 M27 kq28 q28 => ?_)
  obtain ⟨q28a, q28b⟩ := q28; subst q28a; subst q28b
  refine G_ps (pc' := 81) (st' := [vr 46, vi 3, vr 2]) rfl rfl ?_
  refine G_aastore (o := 2) (v := 46) (n := 4) (i := 3) (c := 0) d_De_init_81 rfl rfl ⟨by decide, by decide⟩ (by decide) (by decide) rfl (by decide) (G_pc (pc' := 82) rfl ?_)
  refine G_iinc (i := 5) (n := 0) (z := 1) (ls' := [(5, vi 4), (4, vr 18), (3, vr 13), (2, vr 9), (1, vr 4), (0, vr 1)]) d_De_init_82 rfl (by decide) (by omega) rfl (G_pc (pc' := 85) rfl ?_)
  refine G_goto (tgt := 57) d_De_init_85 (by decide) ?_
  refine G_iload (i := 5) (n := 0) (len := 2) (Or.inr ⟨rfl, d_De_init_57⟩) rfl (G_pc (pc' := 59) rfl ?_)
  refine G_iconst (n := 4) d_De_init_59 (by decide) (G_pc (pc' := 60) rfl ?_)
  refine G_icmp_ge (tgt := 88) d_De_init_60 (by decide) (fun h29 => ?_) (fun h29 => absurd h29 (by decide))
  refine G_aload (i := 0) (n := 5) (len := 1) (Or.inl ⟨0, rfl, rfl, d_De_init_88⟩) rfl (by decide) (G_pc (pc' := 89) rfl ?_)
  refine G_aload (i := 1) (n := 4) (len := 1) (Or.inl ⟨1, rfl, rfl, d_De_init_89⟩) rfl (by decide) (G_pc (pc' := 90) rfl ?_)
  refine G_putFL (o := 1) (c := 8) (k := 0) (ki := 0) (x := 4) d_De_init_90 fl_De_36 rfl rfl (by decide) (by decide) (by decide) rfl rfl rfl rfl (tokO (by decide)) rfl (G_pc (pc' := 93) rfl ?_)
  refine G_aload (i := 0) (n := 5) (len := 1) (Or.inl ⟨0, rfl, rfl, d_De_init_93⟩) rfl (by decide) (G_pc (pc' := 94) rfl ?_)
  refine G_aload (i := 2) (n := 3) (len := 1) (Or.inl ⟨2, rfl, rfl, d_De_init_94⟩) rfl (by decide) (G_pc (pc' := 95) rfl ?_)
  refine G_putFL (o := 1) (c := 8) (k := 1) (ki := 1) (x := 9) d_De_init_95 fl_De_40 rfl rfl (by decide) (by decide) (by decide) rfl rfl rfl rfl (tokO (by decide)) rfl (G_pc (pc' := 98) rfl ?_)
  refine G_vret d_De_init_98 rfl rfl ?_
  exact ⟨rfl, rfl⟩

theorem d_Mo_init_253 : decode b_Mo_init 253 = .ok (.iload_n 1, 1) := by decide +kernel
theorem d_Mo_init_254 : decode b_Mo_init 254 = .ok (.sipush 156, 3) := by decide +kernel
theorem d_Mo_init_257 : decode b_Mo_init 257 = .ok (.if_icmp .ge 16, 3) := by decide +kernel
theorem d_Mo_init_260 : decode b_Mo_init 260 = .ok (.aload_n 0, 1) := by decide +kernel
theorem d_Mo_init_261 : decode b_Mo_init 261 = .ok (.getfield 13, 3) := by decide +kernel
theorem d_Mo_init_264 : decode b_Mo_init 264 = .ok (.iload_n 1, 1) := by decide +kernel
theorem d_Mo_init_265 : decode b_Mo_init 265 = .ok (.iconst (-1), 1) := by decide +kernel
theorem d_Mo_init_266 : decode b_Mo_init 266 = .ok (.iastore, 1) := by decide +kernel
theorem d_Mo_init_267 : decode b_Mo_init 267 = .ok (.iinc 1 1, 3) := by decide +kernel
theorem d_Mo_init_270 : decode b_Mo_init 270 = .ok (.goto (-17), 3) := by decide +kernel
theorem d_Mo_init_275 : decode b_Mo_init 275 = .ok (.iload_n 1, 1) := by decide +kernel
theorem d_Mo_init_276 : decode b_Mo_init 276 = .ok (.bipush 27, 2) := by decide +kernel
theorem d_Mo_init_278 : decode b_Mo_init 278 = .ok (.if_icmp .ge 16, 3) := by decide +kernel
theorem d_Mo_init_281 : decode b_Mo_init 281 = .ok (.aload_n 0, 1) := by decide +kernel
theorem d_Mo_init_282 : decode b_Mo_init 282 = .ok (.getfield 16, 3) := by decide +kernel
theorem d_Mo_init_285 : decode b_Mo_init 285 = .ok (.iload_n 1, 1) := by decide +kernel
theorem d_Mo_init_286 : decode b_Mo_init 286 = .ok (.iconst (-1), 1) := by decide +kernel
theorem d_Mo_init_287 : decode b_Mo_init 287 = .ok (.iastore, 1) := by decide +kernel
theorem d_Mo_init_288 : decode b_Mo_init 288 = .ok (.iinc 1 1, 3) := by decide +kernel
theorem d_Mo_init_291 : decode b_Mo_init 291 = .ok (.goto (-16), 3) := by decide +kernel
theorem d_Mo_init_296 : decode b_Mo_init 296 = .ok (.iload_n 1, 1) := by decide +kernel
theorem d_Mo_init_297 : decode b_Mo_init 297 = .ok (.iconst 4, 1) := by decide +kernel
theorem d_Mo_init_298 : decode b_Mo_init 298 = .ok (.if_icmp .ge 16, 3) := by decide +kernel
theorem d_Mo_init_301 : decode b_Mo_init 301 = .ok (.aload_n 0, 1) := by decide +kernel
theorem d_Mo_init_302 : decode b_Mo_init 302 = .ok (.getfield 45, 3) := by decide +kernel
theorem d_Mo_init_305 : decode b_Mo_init 305 = .ok (.iload_n 1, 1) := by decide +kernel
theorem d_Mo_init_306 : decode b_Mo_init 306 = .ok (.iconst (-1), 1) := by decide +kernel
theorem d_Mo_init_307 : decode b_Mo_init 307 = .ok (.iastore, 1) := by decide +kernel
theorem d_Mo_init_308 : decode b_Mo_init 308 = .ok (.iinc 1 1, 3) := by decide +kernel
theorem d_Mo_init_311 : decode b_Mo_init 311 = .ok (.goto (-15), 3) := by decide +kernel
theorem mo_lp1 {X : WX} {d : Nat} {Q : Option PV → Mem → Prop} : ∀ (n : Nat) (i : Int) (M : Mem), i + n = 156 → 0 ≤ i → M 55 2 = 57 → G X g0 d 56 87 y_Mo_init b_Mo_init 2 none Q 273 [(1, vi 156), (0, vr 55)] [] 87 (fillM M 57 156 (-1)) → G X g0 d 56 87 y_Mo_init b_Mo_init 2 none Q 253 [(1, vi i), (0, vr 55)] [] 87 (fillM M 57 i (-1)) := by
  intro n
  induction n with
  | zero =>
    intro i M h1 h2 hf kk
    refine G_iload (i := 1) (n := 0) (len := 1) (Or.inl ⟨1, rfl, rfl, d_Mo_init_253⟩) rfl (G_pc (pc' := 254) rfl ?_)
    refine G_sipush (n := 156) d_Mo_init_254 (by decide) (G_pc (pc' := 257) rfl ?_)
    refine G_icmp_ge (tgt := 273) d_Mo_init_257 (by decide) (fun hh => ?_) (fun hh => absurd hh (by omega))
    have hi : i = 156 := by omega
    subst hi
    exact kk
  | succ n ih =>
    intro i M h1 h2 hf kk
    refine G_iload (i := 1) (n := 0) (len := 1) (Or.inl ⟨1, rfl, rfl, d_Mo_init_253⟩) rfl (G_pc (pc' := 254) rfl ?_)
    refine G_sipush (n := 156) d_Mo_init_254 (by decide) (G_pc (pc' := 257) rfl ?_)
    refine G_icmp_ge (tgt := 273) d_Mo_init_257 (by decide) (fun hh => absurd hh (by omega)) (fun hh => G_pc (pc' := 260) rfl ?_)
    refine G_aload (i := 0) (n := 1) (len := 1) (Or.inl ⟨0, rfl, rfl, d_Mo_init_260⟩) rfl (by decide) (G_pc (pc' := 261) rfl ?_)
    refine G_get (o := 55) (c := 9) (k := 2) (v := 57) d_Mo_init_261 fl_Mo_13 rfl (by decide) (by decide) (show fillM M 57 i (-1) 55 2 = 57 from (if_neg (fun h => absurd h.1 (by decide))).trans hf) rfl (G_pc (pc' := 264) rfl ?_)
    refine G_iload (i := 1) (n := 0) (len := 1) (Or.inl ⟨1, rfl, rfl, d_Mo_init_264⟩) rfl (G_pc (pc' := 265) rfl ?_)
    refine G_iconst (n := (-1)) d_Mo_init_265 (by decide) (G_pc (pc' := 266) rfl ?_)
    refine G_iastore (o := 57) (n := 156) (i := i) (x := (-1)) d_Mo_init_266 rfl ⟨by decide, by decide⟩ (by decide) rfl (by omega) (tokI (by decide)) (G_pc (pc' := 267) rfl ?_)
    refine G_iinc (i := 1) (n := 0) (z := 1) (ls' := [(1, vi (i + 1)), (0, vr 55)]) d_Mo_init_267 rfl (by decide) (by omega) rfl (G_pc (pc' := 270) rfl ?_)
    refine G_goto (tgt := 253) d_Mo_init_270 (by decide) ?_
    rw [fillM_s (by omega)]
    exact ih (i + 1) M (by omega) (by omega) hf kk
theorem mo_lp1s {X : WX} {d : Nat} {Q : Option PV → Mem → Prop} (M : Mem) (hf : M 55 2 = 57) (kk : G X g0 d 56 87 y_Mo_init b_Mo_init 2 none Q 273 [(1, vi 156), (0, vr 55)] [] 87 (fillM M 57 156 (-1))) : G X g0 d 56 87 y_Mo_init b_Mo_init 2 none Q 253 [(1, vi 0), (0, vr 55)] [] 87 M := by
  have h := mo_lp1 (X := X) (d := d) (Q := Q) 156 0 M (by decide) (by decide) hf kk
  rw [fillM_0] at h
  exact h

theorem mo_lp2 {X : WX} {d : Nat} {Q : Option PV → Mem → Prop} : ∀ (n : Nat) (i : Int) (M : Mem), i + n = 27 → 0 ≤ i → M 55 3 = 58 → G X g0 d 56 87 y_Mo_init b_Mo_init 2 none Q 294 [(1, vi 27), (0, vr 55)] [] 87 (fillM M 58 27 (-1)) → G X g0 d 56 87 y_Mo_init b_Mo_init 2 none Q 275 [(1, vi i), (0, vr 55)] [] 87 (fillM M 58 i (-1)) := by
  intro n
  induction n with
  | zero =>
    intro i M h1 h2 hf kk
    refine G_iload (i := 1) (n := 0) (len := 1) (Or.inl ⟨1, rfl, rfl, d_Mo_init_275⟩) rfl (G_pc (pc' := 276) rfl ?_)
    refine G_bipush (n := 27) d_Mo_init_276 (by decide) (G_pc (pc' := 278) rfl ?_)
    refine G_icmp_ge (tgt := 294) d_Mo_init_278 (by decide) (fun hh => ?_) (fun hh => absurd hh (by omega))
    have hi : i = 27 := by omega
    subst hi
    exact kk
  | succ n ih =>
    intro i M h1 h2 hf kk
    refine G_iload (i := 1) (n := 0) (len := 1) (Or.inl ⟨1, rfl, rfl, d_Mo_init_275⟩) rfl (G_pc (pc' := 276) rfl ?_)
    refine G_bipush (n := 27) d_Mo_init_276 (by decide) (G_pc (pc' := 278) rfl ?_)
    refine G_icmp_ge (tgt := 294) d_Mo_init_278 (by decide) (fun hh => absurd hh (by omega)) (fun hh => G_pc (pc' := 281) rfl ?_)
    refine G_aload (i := 0) (n := 1) (len := 1) (Or.inl ⟨0, rfl, rfl, d_Mo_init_281⟩) rfl (by decide) (G_pc (pc' := 282) rfl ?_)
    refine G_get (o := 55) (c := 9) (k := 3) (v := 58) d_Mo_init_282 fl_Mo_16 rfl (by decide) (by decide) (show fillM M 58 i (-1) 55 3 = 58 from (if_neg (fun h => absurd h.1 (by decide))).trans hf) rfl (G_pc (pc' := 285) rfl ?_)
    refine G_iload (i := 1) (n := 0) (len := 1) (Or.inl ⟨1, rfl, rfl, d_Mo_init_285⟩) rfl (G_pc (pc' := 286) rfl ?_)
    refine G_iconst (n := (-1)) d_Mo_init_286 (by decide) (G_pc (pc' := 287) rfl ?_)
    refine G_iastore (o := 58) (n := 27) (i := i) (x := (-1)) d_Mo_init_287 rfl ⟨by decide, by decide⟩ (by decide) rfl (by omega) (tokI (by decide)) (G_pc (pc' := 288) rfl ?_)
    refine G_iinc (i := 1) (n := 0) (z := 1) (ls' := [(1, vi (i + 1)), (0, vr 55)]) d_Mo_init_288 rfl (by decide) (by omega) rfl (G_pc (pc' := 291) rfl ?_)
    refine G_goto (tgt := 275) d_Mo_init_291 (by decide) ?_
    rw [fillM_s (by omega)]
    exact ih (i + 1) M (by omega) (by omega) hf kk
theorem mo_lp2s {X : WX} {d : Nat} {Q : Option PV → Mem → Prop} (M : Mem) (hf : M 55 3 = 58) (kk : G X g0 d 56 87 y_Mo_init b_Mo_init 2 none Q 294 [(1, vi 27), (0, vr 55)] [] 87 (fillM M 58 27 (-1))) : G X g0 d 56 87 y_Mo_init b_Mo_init 2 none Q 275 [(1, vi 0), (0, vr 55)] [] 87 M := by
  have h := mo_lp2 (X := X) (d := d) (Q := Q) 27 0 M (by decide) (by decide) hf kk
  rw [fillM_0] at h
  exact h

theorem mo_lp3 {X : WX} {d : Nat} {Q : Option PV → Mem → Prop} : ∀ (n : Nat) (i : Int) (M : Mem), i + n = 4 → 0 ≤ i → M 55 16 = 67 → G X g0 d 56 87 y_Mo_init b_Mo_init 2 none Q 314 [(1, vi 4), (0, vr 55)] [] 87 (fillM M 67 4 (-1)) → G X g0 d 56 87 y_Mo_init b_Mo_init 2 none Q 296 [(1, vi i), (0, vr 55)] [] 87 (fillM M 67 i (-1)) := by
  intro n
  induction n with
  | zero =>
    intro i M h1 h2 hf kk
    refine G_iload (i := 1) (n := 0) (len := 1) (Or.inl ⟨1, rfl, rfl, d_Mo_init_296⟩) rfl (G_pc (pc' := 297) rfl ?_)
    refine G_iconst (n := 4) d_Mo_init_297 (by decide) (G_pc (pc' := 298) rfl ?_)
    refine G_icmp_ge (tgt := 314) d_Mo_init_298 (by decide) (fun hh => ?_) (fun hh => absurd hh (by omega))
    have hi : i = 4 := by omega
    subst hi
    exact kk
  | succ n ih =>
    intro i M h1 h2 hf kk
    refine G_iload (i := 1) (n := 0) (len := 1) (Or.inl ⟨1, rfl, rfl, d_Mo_init_296⟩) rfl (G_pc (pc' := 297) rfl ?_)
    refine G_iconst (n := 4) d_Mo_init_297 (by decide) (G_pc (pc' := 298) rfl ?_)
    refine G_icmp_ge (tgt := 314) d_Mo_init_298 (by decide) (fun hh => absurd hh (by omega)) (fun hh => G_pc (pc' := 301) rfl ?_)
    refine G_aload (i := 0) (n := 1) (len := 1) (Or.inl ⟨0, rfl, rfl, d_Mo_init_301⟩) rfl (by decide) (G_pc (pc' := 302) rfl ?_)
    refine G_get (o := 55) (c := 9) (k := 16) (v := 67) d_Mo_init_302 fl_Mo_45 rfl (by decide) (by decide) (show fillM M 67 i (-1) 55 16 = 67 from (if_neg (fun h => absurd h.1 (by decide))).trans hf) rfl (G_pc (pc' := 305) rfl ?_)
    refine G_iload (i := 1) (n := 0) (len := 1) (Or.inl ⟨1, rfl, rfl, d_Mo_init_305⟩) rfl (G_pc (pc' := 306) rfl ?_)
    refine G_iconst (n := (-1)) d_Mo_init_306 (by decide) (G_pc (pc' := 307) rfl ?_)
    refine G_iastore (o := 67) (n := 4) (i := i) (x := (-1)) d_Mo_init_307 rfl ⟨by decide, by decide⟩ (by decide) rfl (by omega) (tokI (by decide)) (G_pc (pc' := 308) rfl ?_)
    refine G_iinc (i := 1) (n := 0) (z := 1) (ls' := [(1, vi (i + 1)), (0, vr 55)]) d_Mo_init_308 rfl (by decide) (by omega) rfl (G_pc (pc' := 311) rfl ?_)
    refine G_goto (tgt := 296) d_Mo_init_311 (by decide) ?_
    rw [fillM_s (by omega)]
    exact ih (i + 1) M (by omega) (by omega) hf kk
theorem mo_lp3s {X : WX} {d : Nat} {Q : Option PV → Mem → Prop} (M : Mem) (hf : M 55 16 = 67) (kk : G X g0 d 56 87 y_Mo_init b_Mo_init 2 none Q 314 [(1, vi 4), (0, vr 55)] [] 87 (fillM M 67 4 (-1))) : G X g0 d 56 87 y_Mo_init b_Mo_init 2 none Q 296 [(1, vi 0), (0, vr 55)] [] 87 M := by
  have h := mo_lp3 (X := X) (d := d) (Q := Q) 4 0 M (by decide) (by decide) hf kk
  rw [fillM_0] at h
  exact h

def im_Mo (M : Mem) : Mem := fillM (fillM (fillM (mset (mnew (mset (mnew (mset (mnew (mset (mnew (mset (mnew (mset (mnew (mset (mnew (mset (mnew (mset (mnew (mset (mnew (mset (mnew (mset (mnew (mset (mnew (mset (mnew (mset (mnew (mset (mnew (mset (mnew (mset (mnew (mset (mnew (mset (mnew (mset (mnew (mset (mnew (mset (mnew (mset (mnew (mset (mnew (mset (mnew (mset (mnew (mset (mnew (mset (mnew (mset (mnew (mset (mnew (M) 56) 55 1 56) 57) 55 2 57) 58) 55 3 58) 59) 55 4 59) 60) 55 6 60) 61) 55 7 61) 62) 55 8 62) 63) 55 12 63) 64) 55 13 64) 65) 55 14 65) 66) 55 15 66) 67) 55 16 67) 68) 55 17 68) 69) 55 18 69) 70) 55 19 70) 71) 55 20 71) 72) 55 22 72) 73) 55 23 73) 74) 55 26 74) 75) 55 27 75) 76) 55 29 76) 77) 55 30 77) 78) 55 31 78) 79) 55 32 79) 80) 55 33 80) 81) 55 34 81) 82) 55 35 82) 83) 55 36 83) 84) 55 38 84) 85) 55 40 85) 86) 55 41 86) 57 156 (-1)) 58 27 (-1)) 67 4 (-1)
theorem d_Mo_init_0 : decode b_Mo_init 0 = .ok (.aload_n 0, 1) := by decide +kernel
theorem d_Mo_init_1 : decode b_Mo_init 1 = .ok (.invokespecial 1, 3) := by decide +kernel
theorem d_Mo_init_4 : decode b_Mo_init 4 = .ok (.aload_n 0, 1) := by decide +kernel
theorem d_Mo_init_5 : decode b_Mo_init 5 = .ok (.bipush 6, 2) := by decide +kernel
theorem d_Mo_init_7 : decode b_Mo_init 7 = .ok (.newarray .int, 2) := by decide +kernel
theorem d_Mo_init_9 : decode b_Mo_init 9 = .ok (.putfield 7, 3) := by decide +kernel
theorem d_Mo_init_12 : decode b_Mo_init 12 = .ok (.aload_n 0, 1) := by decide +kernel
theorem d_Mo_init_13 : decode b_Mo_init 13 = .ok (.sipush 156, 3) := by decide +kernel
theorem d_Mo_init_16 : decode b_Mo_init 16 = .ok (.newarray .int, 2) := by decide +kernel
theorem d_Mo_init_18 : decode b_Mo_init 18 = .ok (.putfield 13, 3) := by decide +kernel
theorem d_Mo_init_21 : decode b_Mo_init 21 = .ok (.aload_n 0, 1) := by decide +kernel
theorem d_Mo_init_22 : decode b_Mo_init 22 = .ok (.bipush 27, 2) := by decide +kernel
theorem d_Mo_init_24 : decode b_Mo_init 24 = .ok (.newarray .int, 2) := by decide +kernel
theorem d_Mo_init_26 : decode b_Mo_init 26 = .ok (.putfield 16, 3) := by decide +kernel
theorem d_Mo_init_29 : decode b_Mo_init 29 = .ok (.aload_n 0, 1) := by decide +kernel
theorem d_Mo_init_30 : decode b_Mo_init 30 = .ok (.bipush 27, 2) := by decide +kernel
theorem d_Mo_init_32 : decode b_Mo_init 32 = .ok (.newarray .long, 2) := by decide +kernel
theorem d_Mo_init_34 : decode b_Mo_init 34 = .ok (.putfield 19, 3) := by decide +kernel
theorem d_Mo_init_37 : decode b_Mo_init 37 = .ok (.aload_n 0, 1) := by decide +kernel
theorem d_Mo_init_38 : decode b_Mo_init 38 = .ok (.bipush 13, 2) := by decide +kernel
theorem d_Mo_init_40 : decode b_Mo_init 40 = .ok (.newarray .int, 2) := by decide +kernel
theorem d_Mo_init_42 : decode b_Mo_init 42 = .ok (.putfield 23, 3) := by decide +kernel
theorem d_Mo_init_45 : decode b_Mo_init 45 = .ok (.aload_n 0, 1) := by decide +kernel
theorem d_Mo_init_46 : decode b_Mo_init 46 = .ok (.bipush 13, 2) := by decide +kernel
theorem d_Mo_init_48 : decode b_Mo_init 48 = .ok (.newarray .int, 2) := by decide +kernel
theorem d_Mo_init_50 : decode b_Mo_init 50 = .ok (.putfield 26, 3) := by decide +kernel
theorem d_Mo_init_53 : decode b_Mo_init 53 = .ok (.aload_n 0, 1) := by decide +kernel
theorem d_Mo_init_54 : decode b_Mo_init 54 = .ok (.sipush 338, 3) := by decide +kernel
theorem d_Mo_init_57 : decode b_Mo_init 57 = .ok (.newarray .long, 2) := by decide +kernel
theorem d_Mo_init_59 : decode b_Mo_init 59 = .ok (.putfield 29, 3) := by decide +kernel
theorem d_Mo_init_62 : decode b_Mo_init 62 = .ok (.aload_n 0, 1) := by decide +kernel
theorem d_Mo_init_63 : decode b_Mo_init 63 = .ok (.sipush 200, 3) := by decide +kernel
theorem d_Mo_init_66 : decode b_Mo_init 66 = .ok (.newarray .int, 2) := by decide +kernel
theorem d_Mo_init_68 : decode b_Mo_init 68 = .ok (.putfield 32, 3) := by decide +kernel
theorem d_Mo_init_71 : decode b_Mo_init 71 = .ok (.aload_n 0, 1) := by decide +kernel
theorem d_Mo_init_72 : decode b_Mo_init 72 = .ok (.iconst 5, 1) := by decide +kernel
theorem d_Mo_init_73 : decode b_Mo_init 73 = .ok (.newarray .int, 2) := by decide +kernel
theorem d_Mo_init_75 : decode b_Mo_init 75 = .ok (.putfield 35, 3) := by decide +kernel
theorem d_Mo_init_78 : decode b_Mo_init 78 = .ok (.aload_n 0, 1) := by decide +kernel
theorem d_Mo_init_79 : decode b_Mo_init 79 = .ok (.iconst 4, 1) := by decide +kernel
theorem d_Mo_init_80 : decode b_Mo_init 80 = .ok (.newarray .boolean, 2) := by decide +kernel
theorem d_Mo_init_82 : decode b_Mo_init 82 = .ok (.putfield 38, 3) := by decide +kernel
theorem d_Mo_init_85 : decode b_Mo_init 85 = .ok (.aload_n 0, 1) := by decide +kernel
theorem d_Mo_init_86 : decode b_Mo_init 86 = .ok (.iconst 4, 1) := by decide +kernel
theorem d_Mo_init_87 : decode b_Mo_init 87 = .ok (.newarray .int, 2) := by decide +kernel
theorem d_Mo_init_89 : decode b_Mo_init 89 = .ok (.putfield 42, 3) := by decide +kernel
theorem d_Mo_init_92 : decode b_Mo_init 92 = .ok (.aload_n 0, 1) := by decide +kernel
theorem d_Mo_init_93 : decode b_Mo_init 93 = .ok (.iconst 4, 1) := by decide +kernel
theorem d_Mo_init_94 : decode b_Mo_init 94 = .ok (.newarray .int, 2) := by decide +kernel
theorem d_Mo_init_96 : decode b_Mo_init 96 = .ok (.putfield 45, 3) := by decide +kernel
theorem d_Mo_init_99 : decode b_Mo_init 99 = .ok (.aload_n 0, 1) := by decide +kernel
theorem d_Mo_init_100 : decode b_Mo_init 100 = .ok (.iconst 4, 1) := by decide +kernel
theorem d_Mo_init_101 : decode b_Mo_init 101 = .ok (.newarray .int, 2) := by decide +kernel
theorem d_Mo_init_103 : decode b_Mo_init 103 = .ok (.putfield 48, 3) := by decide +kernel
theorem d_Mo_init_106 : decode b_Mo_init 106 = .ok (.aload_n 0, 1) := by decide +kernel
theorem d_Mo_init_107 : decode b_Mo_init 107 = .ok (.iconst 4, 1) := by decide +kernel
theorem d_Mo_init_108 : decode b_Mo_init 108 = .ok (.newarray .long, 2) := by decide +kernel
theorem d_Mo_init_110 : decode b_Mo_init 110 = .ok (.putfield 51, 3) := by decide +kernel
theorem d_Mo_init_113 : decode b_Mo_init 113 = .ok (.aload_n 0, 1) := by decide +kernel
theorem d_Mo_init_114 : decode b_Mo_init 114 = .ok (.iconst 4, 1) := by decide +kernel
theorem d_Mo_init_115 : decode b_Mo_init 115 = .ok (.newarray .int, 2) := by decide +kernel
theorem d_Mo_init_117 : decode b_Mo_init 117 = .ok (.putfield 54, 3) := by decide +kernel
theorem d_Mo_init_120 : decode b_Mo_init 120 = .ok (.aload_n 0, 1) := by decide +kernel
theorem d_Mo_init_121 : decode b_Mo_init 121 = .ok (.sipush 423, 3) := by decide +kernel
theorem d_Mo_init_124 : decode b_Mo_init 124 = .ok (.newarray .boolean, 2) := by decide +kernel
theorem d_Mo_init_126 : decode b_Mo_init 126 = .ok (.putfield 57, 3) := by decide +kernel
theorem d_Mo_init_129 : decode b_Mo_init 129 = .ok (.aload_n 0, 1) := by decide +kernel
theorem d_Mo_init_130 : decode b_Mo_init 130 = .ok (.sipush 423, 3) := by decide +kernel
theorem d_Mo_init_133 : decode b_Mo_init 133 = .ok (.newarray .int, 2) := by decide +kernel
theorem d_Mo_init_135 : decode b_Mo_init 135 = .ok (.putfield 60, 3) := by decide +kernel
theorem d_Mo_init_138 : decode b_Mo_init 138 = .ok (.aload_n 0, 1) := by decide +kernel
theorem d_Mo_init_139 : decode b_Mo_init 139 = .ok (.sipush 423, 3) := by decide +kernel
theorem d_Mo_init_142 : decode b_Mo_init 142 = .ok (.newarray .int, 2) := by decide +kernel
theorem d_Mo_init_144 : decode b_Mo_init 144 = .ok (.putfield 63, 3) := by decide +kernel
theorem d_Mo_init_147 : decode b_Mo_init 147 = .ok (.aload_n 0, 1) := by decide +kernel
theorem d_Mo_init_148 : decode b_Mo_init 148 = .ok (.bipush 25, 2) := by decide +kernel
theorem d_Mo_init_150 : decode b_Mo_init 150 = .ok (.newarray .int, 2) := by decide +kernel
theorem d_Mo_init_152 : decode b_Mo_init 152 = .ok (.putfield 66, 3) := by decide +kernel
theorem d_Mo_init_155 : decode b_Mo_init 155 = .ok (.aload_n 0, 1) := by decide +kernel
theorem d_Mo_init_156 : decode b_Mo_init 156 = .ok (.bipush 25, 2) := by decide +kernel
theorem d_Mo_init_158 : decode b_Mo_init 158 = .ok (.newarray .long, 2) := by decide +kernel
theorem d_Mo_init_160 : decode b_Mo_init 160 = .ok (.putfield 69, 3) := by decide +kernel
theorem d_Mo_init_163 : decode b_Mo_init 163 = .ok (.aload_n 0, 1) := by decide +kernel
theorem d_Mo_init_164 : decode b_Mo_init 164 = .ok (.bipush 32, 2) := by decide +kernel
theorem d_Mo_init_166 : decode b_Mo_init 166 = .ok (.newarray .int, 2) := by decide +kernel
theorem d_Mo_init_168 : decode b_Mo_init 168 = .ok (.putfield 72, 3) := by decide +kernel
theorem d_Mo_init_171 : decode b_Mo_init 171 = .ok (.aload_n 0, 1) := by decide +kernel
theorem d_Mo_init_172 : decode b_Mo_init 172 = .ok (.bipush 32, 2) := by decide +kernel
theorem d_Mo_init_174 : decode b_Mo_init 174 = .ok (.newarray .int, 2) := by decide +kernel
theorem d_Mo_init_176 : decode b_Mo_init 176 = .ok (.putfield 75, 3) := by decide +kernel
theorem d_Mo_init_179 : decode b_Mo_init 179 = .ok (.aload_n 0, 1) := by decide +kernel
theorem d_Mo_init_180 : decode b_Mo_init 180 = .ok (.bipush 32, 2) := by decide +kernel
theorem d_Mo_init_182 : decode b_Mo_init 182 = .ok (.newarray .int, 2) := by decide +kernel
theorem d_Mo_init_184 : decode b_Mo_init 184 = .ok (.putfield 78, 3) := by decide +kernel
theorem d_Mo_init_187 : decode b_Mo_init 187 = .ok (.aload_n 0, 1) := by decide +kernel
theorem d_Mo_init_188 : decode b_Mo_init 188 = .ok (.bipush 32, 2) := by decide +kernel
theorem d_Mo_init_190 : decode b_Mo_init 190 = .ok (.newarray .int, 2) := by decide +kernel
theorem d_Mo_init_192 : decode b_Mo_init 192 = .ok (.putfield 81, 3) := by decide +kernel
theorem d_Mo_init_195 : decode b_Mo_init 195 = .ok (.aload_n 0, 1) := by decide +kernel
theorem d_Mo_init_196 : decode b_Mo_init 196 = .ok (.bipush 32, 2) := by decide +kernel
theorem d_Mo_init_198 : decode b_Mo_init 198 = .ok (.newarray .long, 2) := by decide +kernel
theorem d_Mo_init_200 : decode b_Mo_init 200 = .ok (.putfield 84, 3) := by decide +kernel
theorem d_Mo_init_203 : decode b_Mo_init 203 = .ok (.aload_n 0, 1) := by decide +kernel
theorem d_Mo_init_204 : decode b_Mo_init 204 = .ok (.bipush 32, 2) := by decide +kernel
theorem d_Mo_init_206 : decode b_Mo_init 206 = .ok (.newarray .int, 2) := by decide +kernel
theorem d_Mo_init_208 : decode b_Mo_init 208 = .ok (.putfield 87, 3) := by decide +kernel
theorem d_Mo_init_211 : decode b_Mo_init 211 = .ok (.aload_n 0, 1) := by decide +kernel
theorem d_Mo_init_212 : decode b_Mo_init 212 = .ok (.bipush 32, 2) := by decide +kernel
theorem d_Mo_init_214 : decode b_Mo_init 214 = .ok (.newarray .boolean, 2) := by decide +kernel
theorem d_Mo_init_216 : decode b_Mo_init 216 = .ok (.putfield 90, 3) := by decide +kernel
theorem d_Mo_init_219 : decode b_Mo_init 219 = .ok (.aload_n 0, 1) := by decide +kernel
theorem d_Mo_init_220 : decode b_Mo_init 220 = .ok (.bipush 32, 2) := by decide +kernel
theorem d_Mo_init_222 : decode b_Mo_init 222 = .ok (.newarray .long, 2) := by decide +kernel
theorem d_Mo_init_224 : decode b_Mo_init 224 = .ok (.putfield 93, 3) := by decide +kernel
theorem d_Mo_init_227 : decode b_Mo_init 227 = .ok (.aload_n 0, 1) := by decide +kernel
theorem d_Mo_init_228 : decode b_Mo_init 228 = .ok (.bipush 32, 2) := by decide +kernel
theorem d_Mo_init_230 : decode b_Mo_init 230 = .ok (.newarray .int, 2) := by decide +kernel
theorem d_Mo_init_232 : decode b_Mo_init 232 = .ok (.putfield 96, 3) := by decide +kernel
theorem d_Mo_init_235 : decode b_Mo_init 235 = .ok (.aload_n 0, 1) := by decide +kernel
theorem d_Mo_init_236 : decode b_Mo_init 236 = .ok (.bipush 32, 2) := by decide +kernel
theorem d_Mo_init_238 : decode b_Mo_init 238 = .ok (.newarray .int, 2) := by decide +kernel
theorem d_Mo_init_240 : decode b_Mo_init 240 = .ok (.putfield 99, 3) := by decide +kernel
theorem d_Mo_init_243 : decode b_Mo_init 243 = .ok (.aload_n 0, 1) := by decide +kernel
theorem d_Mo_init_244 : decode b_Mo_init 244 = .ok (.bipush 32, 2) := by decide +kernel
theorem d_Mo_init_246 : decode b_Mo_init 246 = .ok (.newarray .int, 2) := by decide +kernel
theorem d_Mo_init_248 : decode b_Mo_init 248 = .ok (.putfield 102, 3) := by decide +kernel
theorem d_Mo_init_251 : decode b_Mo_init 251 = .ok (.iconst 0, 1) := by decide +kernel
theorem d_Mo_init_252 : decode b_Mo_init 252 = .ok (.istore_n 1, 1) := by decide +kernel
theorem d_Mo_init_273 : decode b_Mo_init 273 = .ok (.iconst 0, 1) := by decide +kernel
theorem d_Mo_init_274 : decode b_Mo_init 274 = .ok (.istore_n 1, 1) := by decide +kernel
theorem d_Mo_init_294 : decode b_Mo_init 294 = .ok (.iconst 0, 1) := by decide +kernel
theorem d_Mo_init_295 : decode b_Mo_init 295 = .ok (.istore_n 1, 1) := by decide +kernel
theorem d_Mo_init_314 : decode b_Mo_init 314 = .ok (.return_, 1) := by decide +kernel
set_option maxRecDepth 20000 in
theorem g_Mo_init {X : WX} {d : Nat} (hd : 1 ≤ d) (M : Mem) : MG X g0 d 56 87 y_Mo_init b_Mo_init 2 none [vr 55] M (fun r M' => r = none ∧ M' = im_Mo M) := by
  refine MG_of_G (by decide) (Nat.le_of_ble_eq_true rfl) (by decide) (by decide) ?_
  show G X g0 d 56 87 y_Mo_init b_Mo_init 2 none _ 0 [(0, vr 55)] [] 56 M
  refine G_aload (i := 0) (n := 0) (len := 1) (Or.inl ⟨0, rfl, rfl, d_Mo_init_0⟩) rfl (by decide) (G_pc (pc' := 1) rfl ?_)
  refine G_objInit (o := 55) d_Mo_init_1 ml_Mo_1 oi_inst oi_code (by decide) (by omega) (Nat.le_of_ble_eq_true rfl) (G_pc (pc' := 4) rfl ?_)
  refine G_aload (i := 0) (n := 0) (len := 1) (Or.inl ⟨0, rfl, rfl, d_Mo_init_4⟩) rfl (by decide) (G_pc (pc' := 5) rfl ?_)
  refine G_bipush (n := 6) d_Mo_init_5 (by decide) (G_pc (pc' := 7) rfl ?_)
  refine G_newa (n := 6) (ty := .int) rfl d_Mo_init_7 rfl ac_int (by decide) rfl (by decide) (by decide) (by decide) (by decide) (G_pc (pc' := 9) rfl ?_)
  refine G_ps (pc' := 9) (st' := [vr 56, vr 55]) rfl rfl ?_
  refine G_putFL (o := 55) (c := 9) (k := 1) (ki := 1) (x := 56) d_Mo_init_9 fl_Mo_7 rfl rfl (by decide) (by decide) (by decide) rfl rfl rfl rfl (tokA (by decide)) rfl (G_pc (pc' := 12) rfl ?_)
  refine G_aload (i := 0) (n := 0) (len := 1) (Or.inl ⟨0, rfl, rfl, d_Mo_init_12⟩) rfl (by decide) (G_pc (pc' := 13) rfl ?_)
  refine G_sipush (n := 156) d_Mo_init_13 (by decide) (G_pc (pc' := 16) rfl ?_)
  refine G_newa (n := 156) (ty := .int) rfl d_Mo_init_16 rfl ac_int (by decide) rfl (by decide) (by decide) (by decide) (by decide) (G_pc (pc' := 18) rfl ?_)
  refine G_ps (pc' := 18) (st' := [vr 57, vr 55]) rfl rfl ?_
  refine G_putFL (o := 55) (c := 9) (k := 2) (ki := 2) (x := 57) d_Mo_init_18 fl_Mo_13 rfl rfl (by decide) (by decide) (by decide) rfl rfl rfl rfl (tokA (by decide)) rfl (G_pc (pc' := 21) rfl ?_)
  refine G_aload (i := 0) (n := 0) (len := 1) (Or.inl ⟨0, rfl, rfl, d_Mo_init_21⟩) rfl (by decide) (G_pc (pc' := 22) rfl ?_)
  refine G_bipush (n := 27) d_Mo_init_22 (by decide) (G_pc (pc' := 24) rfl ?_)
  refine G_newa (n := 27) (ty := .int) rfl d_Mo_init_24 rfl ac_int (by decide) rfl (by decide) (by decide) (by decide) (by decide) (G_pc (pc' := 26) rfl ?_)
  refine G_ps (pc' := 26) (st' := [vr 58, vr 55]) rfl rfl ?_
  refine G_putFL (o := 55) (c := 9) (k := 3) (ki := 3) (x := 58) d_Mo_init_26 fl_Mo_16 rfl rfl (by decide) (by decide) (by decide) rfl rfl rfl rfl (tokA (by decide)) rfl (G_pc (pc' := 29) rfl ?_)
  refine G_aload (i := 0) (n := 0) (len := 1) (Or.inl ⟨0, rfl, rfl, d_Mo_init_29⟩) rfl (by decide) (G_pc (pc' := 30) rfl ?_)
  refine G_bipush (n := 27) d_Mo_init_30 (by decide) (G_pc (pc' := 32) rfl ?_)
  refine G_newa (n := 27) (ty := .long) rfl d_Mo_init_32 rfl ac_long (by decide) rfl (by decide) (by decide) (by decide) (by decide) (G_pc (pc' := 34) rfl ?_)
  refine G_ps (pc' := 34) (st' := [vr 59, vr 55]) rfl rfl ?_
  refine G_putFL (o := 55) (c := 9) (k := 4) (ki := 4) (x := 59) d_Mo_init_34 fl_Mo_19 rfl rfl (by decide) (by decide) (by decide) rfl rfl rfl rfl (tokA (by decide)) rfl (G_pc (pc' := 37) rfl ?_)
  refine G_aload (i := 0) (n := 0) (len := 1) (Or.inl ⟨0, rfl, rfl, d_Mo_init_37⟩) rfl (by decide) (G_pc (pc' := 38) rfl ?_)
  refine G_bipush (n := 13) d_Mo_init_38 (by decide) (G_pc (pc' := 40) rfl ?_)
  refine G_newa (n := 13) (ty := .int) rfl d_Mo_init_40 rfl ac_int (by decide) rfl (by decide) (by decide) (by decide) (by decide) (G_pc (pc' := 42) rfl ?_)
  refine G_ps (pc' := 42) (st' := [vr 60, vr 55]) rfl rfl ?_
  refine G_putFL (o := 55) (c := 9) (k := 6) (ki := 6) (x := 60) d_Mo_init_42 fl_Mo_23 rfl rfl (by decide) (by decide) (by decide) rfl rfl rfl rfl (tokA (by decide)) rfl (G_pc (pc' := 45) rfl ?_)
  refine G_aload (i := 0) (n := 0) (len := 1) (Or.inl ⟨0, rfl, rfl, d_Mo_init_45⟩) rfl (by decide) (G_pc (pc' := 46) rfl ?_)
  refine G_bipush (n := 13) d_Mo_init_46 (by decide) (G_pc (pc' := 48) rfl ?_)
  refine G_newa (n := 13) (ty := .int) rfl d_Mo_init_48 rfl ac_int (by decide) rfl (by decide) (by decide) (by decide) (by decide) (G_pc (pc' := 50) rfl ?_)
  refine G_ps (pc' := 50) (st' := [vr 61, vr 55]) rfl rfl ?_
  refine G_putFL (o := 55) (c := 9) (k := 7) (ki := 7) (x := 61) d_Mo_init_50 fl_Mo_26 rfl rfl (by decide) (by decide) (by decide) rfl rfl rfl rfl (tokA (by decide)) rfl (G_pc (pc' := 53) rfl ?_)
  refine G_aload (i := 0) (n := 0) (len := 1) (Or.inl ⟨0, rfl, rfl, d_Mo_init_53⟩) rfl (by decide) (G_pc (pc' := 54) rfl ?_)
  refine G_sipush (n := 338) d_Mo_init_54 (by decide) (G_pc (pc' := 57) rfl ?_)
  refine G_newa (n := 338) (ty := .long) rfl d_Mo_init_57 rfl ac_long (by decide) rfl (by decide) (by decide) (by decide) (by decide) (G_pc (pc' := 59) rfl ?_)
  refine G_ps (pc' := 59) (st' := [vr 62, vr 55]) rfl rfl ?_
  refine G_putFL (o := 55) (c := 9) (k := 8) (ki := 8) (x := 62) d_Mo_init_59 fl_Mo_29 rfl rfl (by decide) (by decide) (by decide) rfl rfl rfl rfl (tokA (by decide)) rfl (G_pc (pc' := 62) rfl ?_)
  refine G_aload (i := 0) (n := 0) (len := 1) (Or.inl ⟨0, rfl, rfl, d_Mo_init_62⟩) rfl (by decide) (G_pc (pc' := 63) rfl ?_)
  refine G_sipush (n := 200) d_Mo_init_63 (by decide) (G_pc (pc' := 66) rfl ?_)
  refine G_newa (n := 200) (ty := .int) rfl d_Mo_init_66 rfl ac_int (by decide) rfl (by decide) (by decide) (by decide) (by decide) (G_pc (pc' := 68) rfl ?_)
  refine G_ps (pc' := 68) (st' := [vr 63, vr 55]) rfl rfl ?_
  refine G_putFL (o := 55) (c := 9) (k := 12) (ki := 12) (x := 63) d_Mo_init_68 fl_Mo_32 rfl rfl (by decide) (by decide) (by decide) rfl rfl rfl rfl (tokA (by decide)) rfl (G_pc (pc' := 71) rfl ?_)
  refine G_aload (i := 0) (n := 0) (len := 1) (Or.inl ⟨0, rfl, rfl, d_Mo_init_71⟩) rfl (by decide) (G_pc (pc' := 72) rfl ?_)
  refine G_iconst (n := 5) d_Mo_init_72 (by decide) (G_pc (pc' := 73) rfl ?_)
  refine G_newa (n := 5) (ty := .int) rfl d_Mo_init_73 rfl ac_int (by decide) rfl (by decide) (by decide) (by decide) (by decide) (G_pc (pc' := 75) rfl ?_)
  refine G_ps (pc' := 75) (st' := [vr 64, vr 55]) rfl rfl ?_
  refine G_putFL (o := 55) (c := 9) (k := 13) (ki := 13) (x := 64) d_Mo_init_75 fl_Mo_35 rfl rfl (by decide) (by decide) (by decide) rfl rfl rfl rfl (tokA (by decide)) rfl (G_pc (pc' := 78) rfl ?_)
  refine G_aload (i := 0) (n := 0) (len := 1) (Or.inl ⟨0, rfl, rfl, d_Mo_init_78⟩) rfl (by decide) (G_pc (pc' := 79) rfl ?_)
  refine G_iconst (n := 4) d_Mo_init_79 (by decide) (G_pc (pc' := 80) rfl ?_)
  refine G_newa (n := 4) (ty := .boolean) rfl d_Mo_init_80 rfl ac_boolean (by decide) rfl (by decide) (by decide) (by decide) (by decide) (G_pc (pc' := 82) rfl ?_)
  refine G_ps (pc' := 82) (st' := [vr 65, vr 55]) rfl rfl ?_
  refine G_putFL (o := 55) (c := 9) (k := 14) (ki := 14) (x := 65) d_Mo_init_82 fl_Mo_38 rfl rfl (by decide) (by decide) (by decide) rfl rfl rfl rfl (tokA (by decide)) rfl (G_pc (pc' := 85) rfl ?_)
  refine G_aload (i := 0) (n := 0) (len := 1) (Or.inl ⟨0, rfl, rfl, d_Mo_init_85⟩) rfl (by decide) (G_pc (pc' := 86) rfl ?_)
  refine G_iconst (n := 4) d_Mo_init_86 (by decide) (G_pc (pc' := 87) rfl ?_)
  refine G_newa (n := 4) (ty := .int) rfl d_Mo_init_87 rfl ac_int (by decide) rfl (by decide) (by decide) (by decide) (by decide) (G_pc (pc' := 89) rfl ?_)
  refine G_ps (pc' := 89) (st' := [vr 66, vr 55]) rfl rfl ?_
  refine G_putFL (o := 55) (c := 9) (k := 15) (ki := 15) (x := 66) d_Mo_init_89 fl_Mo_42 rfl rfl (by decide) (by decide) (by decide) rfl rfl rfl rfl (tokA (by decide)) rfl (G_pc (pc' := 92) rfl ?_)
  refine G_aload (i := 0) (n := 0) (len := 1) (Or.inl ⟨0, rfl, rfl, d_Mo_init_92⟩) rfl (by decide) (G_pc (pc' := 93) rfl ?_)
  refine G_iconst (n := 4) d_Mo_init_93 (by decide) (G_pc (pc' := 94) rfl ?_)
  refine G_newa (n := 4) (ty := .int) rfl d_Mo_init_94 rfl ac_int (by decide) rfl (by decide) (by decide) (by decide) (by decide) (G_pc (pc' := 96) rfl ?_)
  refine G_ps (pc' := 96) (st' := [vr 67, vr 55]) rfl rfl ?_
  refine G_putFL (o := 55) (c := 9) (k := 16) (ki := 16) (x := 67) d_Mo_init_96 fl_Mo_45 rfl rfl (by decide) (by decide) (by decide) rfl rfl rfl rfl (tokA (by decide)) rfl (G_pc (pc' := 99) rfl ?_)
  refine G_aload (i := 0) (n := 0) (len := 1) (Or.inl ⟨0, rfl, rfl, d_Mo_init_99⟩) rfl (by decide) (G_pc (pc' := 100) rfl ?_)
  refine G_iconst (n := 4) d_Mo_init_100 (by decide) (G_pc (pc' := 101) rfl ?_)
  refine G_newa (n := 4) (ty := .int) rfl d_Mo_init_101 rfl ac_int (by decide) rfl (by decide) (by decide) (by decide) (by decide) (G_pc (pc' := 103) rfl ?_)
  refine G_ps (pc' := 103) (st' := [vr 68, vr 55]) rfl rfl ?_
  refine G_putFL (o := 55) (c := 9) (k := 17) (ki := 17) (x := 68) d_Mo_init_103 fl_Mo_48 rfl rfl (by decide) (by decide) (by decide) rfl rfl rfl rfl (tokA (by decide)) rfl (G_pc (pc' := 106) rfl ?_)
  refine G_aload (i := 0) (n := 0) (len := 1) (Or.inl ⟨0, rfl, rfl, d_Mo_init_106⟩) rfl (by decide) (G_pc (pc' := 107) rfl ?_)
  refine G_iconst (n := 4) d_Mo_init_107 (by decide) (G_pc (pc' := 108) rfl ?_)
  refine G_newa (n := 4) (ty := .long) rfl d_Mo_init_108 rfl ac_long (by decide) rfl (by decide) (by decide) (by decide) (by decide) (G_pc (pc' := 110) rfl ?_)
  refine G_ps (pc' := 110) (st' := [vr 69, vr 55]) rfl rfl ?_
  refine G_putFL (o := 55) (c := 9) (k := 18) (ki := 18) (x := 69) d_Mo_init_110 fl_Mo_51 rfl rfl (by decide) (by decide) (by decide) rfl rfl rfl rfl (tokA (by decide)) rfl (G_pc (pc' := 113) rfl ?_)
  refine G_aload (i := 0) (n := 0) (len := 1) (Or.inl ⟨0, rfl, rfl, d_Mo_init_113⟩) rfl (by decide) (G_pc (pc' := 114) rfl ?_)
  refine G_iconst (n := 4) d_Mo_init_114 (by decide) (G_pc (pc' := 115) rfl ?_)
  refine G_newa (n := 4) (ty := .int) rfl d_Mo_init_115 rfl ac_int (by decide) rfl (by decide) (by decide) (by decide) (by decide) (G_pc (pc' := 117) rfl ?_)
  refine G_ps (pc' := 117) (st' := [vr 70, vr 55]) rfl rfl ?_
  refine G_putFL (o := 55) (c := 9) (k := 19) (ki := 19) (x := 70) d_Mo_init_117 fl_Mo_54 rfl rfl (by decide) (by decide) (by decide) rfl rfl rfl rfl (tokA (by decide)) rfl (G_pc (pc' := 120) rfl ?_)
  refine G_aload (i := 0) (n := 0) (len := 1) (Or.inl ⟨0, rfl, rfl, d_Mo_init_120⟩) rfl (by decide) (G_pc (pc' := 121) rfl ?_)
  refine G_sipush (n := 423) d_Mo_init_121 (by decide) (G_pc (pc' := 124) rfl ?_)
  refine G_newa (n := 423) (ty := .boolean) rfl d_Mo_init_124 rfl ac_boolean (by decide) rfl (by decide) (by decide) (by decide) (by decide) (G_pc (pc' := 126) rfl ?_)
  refine G_ps (pc' := 126) (st' := [vr 71, vr 55]) rfl rfl ?_
  refine G_putFL (o := 55) (c := 9) (k := 20) (ki := 20) (x := 71) d_Mo_init_126 fl_Mo_57 rfl rfl (by decide) (by decide) (by decide) rfl rfl rfl rfl (tokA (by decide)) rfl (G_pc (pc' := 129) rfl ?_)
  refine G_aload (i := 0) (n := 0) (len := 1) (Or.inl ⟨0, rfl, rfl, d_Mo_init_129⟩) rfl (by decide) (G_pc (pc' := 130) rfl ?_)
  refine G_sipush (n := 423) d_Mo_init_130 (by decide) (G_pc (pc' := 133) rfl ?_)
  refine G_newa (n := 423) (ty := .int) rfl d_Mo_init_133 rfl ac_int (by decide) rfl (by decide) (by decide) (by decide) (by decide) (G_pc (pc' := 135) rfl ?_)
  refine G_ps (pc' := 135) (st' := [vr 72, vr 55]) rfl rfl ?_
  refine G_putFL (o := 55) (c := 9) (k := 22) (ki := 22) (x := 72) d_Mo_init_135 fl_Mo_60 rfl rfl (by decide) (by decide) (by decide) rfl rfl rfl rfl (tokA (by decide)) rfl (G_pc (pc' := 138) rfl ?_)
  refine G_aload (i := 0) (n := 0) (len := 1) (Or.inl ⟨0, rfl, rfl, d_Mo_init_138⟩) rfl (by decide) (G_pc (pc' := 139) rfl ?_)
  refine G_sipush (n := 423) d_Mo_init_139 (by decide) (G_pc (pc' := 142) rfl ?_)
  refine G_newa (n := 423) (ty := .int) rfl d_Mo_init_142 rfl ac_int (by decide) rfl (by decide) (by decide) (by decide) (by decide) (G_pc (pc' := 144) rfl ?_)
  refine G_ps (pc' := 144) (st' := [vr 73, vr 55]) rfl rfl ?_
  refine G_putFL (o := 55) (c := 9) (k := 23) (ki := 23) (x := 73) d_Mo_init_144 fl_Mo_63 rfl rfl (by decide) (by decide) (by decide) rfl rfl rfl rfl (tokA (by decide)) rfl (G_pc (pc' := 147) rfl ?_)
  refine G_aload (i := 0) (n := 0) (len := 1) (Or.inl ⟨0, rfl, rfl, d_Mo_init_147⟩) rfl (by decide) (G_pc (pc' := 148) rfl ?_)
  refine G_bipush (n := 25) d_Mo_init_148 (by decide) (G_pc (pc' := 150) rfl ?_)
  refine G_newa (n := 25) (ty := .int) rfl d_Mo_init_150 rfl ac_int (by decide) rfl (by decide) (by decide) (by decide) (by decide) (G_pc (pc' := 152) rfl ?_)
  refine G_ps (pc' := 152) (st' := [vr 74, vr 55]) rfl rfl ?_
  refine G_putFL (o := 55) (c := 9) (k := 26) (ki := 26) (x := 74) d_Mo_init_152 fl_Mo_66 rfl rfl (by decide) (by decide) (by decide) rfl rfl rfl rfl (tokA (by decide)) rfl (G_pc (pc' := 155) rfl ?_)
  refine G_aload (i := 0) (n := 0) (len := 1) (Or.inl ⟨0, rfl, rfl, d_Mo_init_155⟩) rfl (by decide) (G_pc (pc' := 156) rfl ?_)
  refine G_bipush (n := 25) d_Mo_init_156 (by decide) (G_pc (pc' := 158) rfl ?_)
  refine G_newa (n := 25) (ty := .long) rfl d_Mo_init_158 rfl ac_long (by decide) rfl (by decide) (by decide) (by decide) (by decide) (G_pc (pc' := 160) rfl ?_)
  refine G_ps (pc' := 160) (st' := [vr 75, vr 55]) rfl rfl ?_
  refine G_putFL (o := 55) (c := 9) (k := 27) (ki := 27) (x := 75) d_Mo_init_160 fl_Mo_69 rfl rfl (by decide) (by decide) (by decide) rfl rfl rfl rfl (tokA (by decide)) rfl (G_pc (pc' := 163) rfl ?_)
  refine G_aload (i := 0) (n := 0) (len := 1) (Or.inl ⟨0, rfl, rfl, d_Mo_init_163⟩) rfl (by decide) (G_pc (pc' := 164) rfl ?_)
  refine G_bipush (n := 32) d_Mo_init_164 (by decide) (G_pc (pc' := 166) rfl ?_)
  refine G_newa (n := 32) (ty := .int) rfl d_Mo_init_166 rfl ac_int (by decide) rfl (by decide) (by decide) (by decide) (by decide) (G_pc (pc' := 168) rfl ?_)
  refine G_ps (pc' := 168) (st' := [vr 76, vr 55]) rfl rfl ?_
  refine G_putFL (o := 55) (c := 9) (k := 29) (ki := 29) (x := 76) d_Mo_init_168 fl_Mo_72 rfl rfl (by decide) (by decide) (by decide) rfl rfl rfl rfl (tokA (by decide)) rfl (G_pc (pc' := 171) rfl ?_)
  refine G_aload (i := 0) (n := 0) (len := 1) (Or.inl ⟨0, rfl, rfl, d_Mo_init_171⟩) rfl (by decide) (G_pc (pc' := 172) rfl ?_)
  refine G_bipush (n := 32) d_Mo_init_172 (by decide) (G_pc (pc' := 174) rfl ?_)
  refine G_newa (n := 32) (ty := .int) rfl d_Mo_init_174 rfl ac_int (by decide) rfl (by decide) (by decide) (by decide) (by decide) (G_pc (pc' := 176) rfl ?_)
  refine G_ps (pc' := 176) (st' := [vr 77, vr 55]) rfl rfl ?_
  refine G_putFL (o := 55) (c := 9) (k := 30) (ki := 30) (x := 77) d_Mo_init_176 fl_Mo_75 rfl rfl (by decide) (by decide) (by decide) rfl rfl rfl rfl (tokA (by decide)) rfl (G_pc (pc' := 179) rfl ?_)
  refine G_aload (i := 0) (n := 0) (len := 1) (Or.inl ⟨0, rfl, rfl, d_Mo_init_179⟩) rfl (by decide) (G_pc (pc' := 180) rfl ?_)
  refine G_bipush (n := 32) d_Mo_init_180 (by decide) (G_pc (pc' := 182) rfl ?_)
  refine G_newa (n := 32) (ty := .int) rfl d_Mo_init_182 rfl ac_int (by decide) rfl (by decide) (by decide) (by decide) (by decide) (G_pc (pc' := 184) rfl ?_)
  refine G_ps (pc' := 184) (st' := [vr 78, vr 55]) rfl rfl ?_
  refine G_putFL (o := 55) (c := 9) (k := 31) (ki := 31) (x := 78) d_Mo_init_184 fl_Mo_78 rfl rfl (by decide) (by decide) (by decide) rfl rfl rfl rfl (tokA (by decide)) rfl (G_pc (pc' := 187) rfl ?_)
  refine G_aload (i := 0) (n := 0) (len := 1) (Or.inl ⟨0, rfl, rfl, d_Mo_init_187⟩) rfl (by decide) (G_pc (pc' := 188) rfl ?_)
  refine G_bipush (n := 32) d_Mo_init_188 (by decide) (G_pc (pc' := 190) rfl ?_)
  refine G_newa (n := 32) (ty := .int) rfl d_Mo_init_190 rfl ac_int (by decide) rfl (by decide) (by decide) (by decide) (by decide) (G_pc (pc' := 192) rfl ?_)
  refine G_ps (pc' := 192) (st' := [vr 79, vr 55]) rfl rfl ?_
  refine G_putFL (o := 55) (c := 9) (k := 32) (ki := 32) (x := 79) d_Mo_init_192 fl_Mo_81 rfl rfl (by decide) (by decide) (by decide) rfl rfl rfl rfl (tokA (by decide)) rfl (G_pc (pc' := 195) rfl ?_)
  refine G_aload (i := 0) (n := 0) (len := 1) (Or.inl ⟨0, rfl, rfl, d_Mo_init_195⟩) rfl (by decide) (G_pc (pc' := 196) rfl ?_)
  refine G_bipush (n := 32) d_Mo_init_196 (by decide) (G_pc (pc' := 198) rfl ?_)
  refine G_newa (n := 32) (ty := .long) rfl d_Mo_init_198 rfl ac_long (by decide) rfl (by decide) (by decide) (by decide) (by decide) (G_pc (pc' := 200) rfl ?_)
  refine G_ps (pc' := 200) (st' := [vr 80, vr 55]) rfl rfl ?_
  refine G_putFL (o := 55) (c := 9) (k := 33) (ki := 33) (x := 80) d_Mo_init_200 fl_Mo_84 rfl rfl (by decide) (by decide) (by decide) rfl rfl rfl rfl (tokA (by decide)) rfl (G_pc (pc' := 203) rfl ?_)
  refine G_aload (i := 0) (n := 0) (len := 1) (Or.inl ⟨0, rfl, rfl, d_Mo_init_203⟩) rfl (by decide) (G_pc (pc' := 204) rfl ?_)
  refine G_bipush (n := 32) d_Mo_init_204 (by decide) (G_pc (pc' := 206) rfl ?_)
  refine G_newa (n := 32) (ty := .int) rfl d_Mo_init_206 rfl ac_int (by decide) rfl (by decide) (by decide) (by decide) (by decide) (G_pc (pc' := 208) rfl ?_)
  refine G_ps (pc' := 208) (st' := [vr 81, vr 55]) rfl rfl ?_
  refine G_putFL (o := 55) (c := 9) (k := 34) (ki := 34) (x := 81) d_Mo_init_208 fl_Mo_87 rfl rfl (by decide) (by decide) (by decide) rfl rfl rfl rfl (tokA (by decide)) rfl (G_pc (pc' := 211) rfl ?_)
  refine G_aload (i := 0) (n := 0) (len := 1) (Or.inl ⟨0, rfl, rfl, d_Mo_init_211⟩) rfl (by decide) (G_pc (pc' := 212) rfl ?_)
  refine G_bipush (n := 32) d_Mo_init_212 (by decide) (G_pc (pc' := 214) rfl ?_)
  refine G_newa (n := 32) (ty := .boolean) rfl d_Mo_init_214 rfl ac_boolean (by decide) rfl (by decide) (by decide) (by decide) (by decide) (G_pc (pc' := 216) rfl ?_)
  refine G_ps (pc' := 216) (st' := [vr 82, vr 55]) rfl rfl ?_
  refine G_putFL (o := 55) (c := 9) (k := 35) (ki := 35) (x := 82) d_Mo_init_216 fl_Mo_90 rfl rfl (by decide) (by decide) (by decide) rfl rfl rfl rfl (tokA (by decide)) rfl (G_pc (pc' := 219) rfl ?_)
  refine G_aload (i := 0) (n := 0) (len := 1) (Or.inl ⟨0, rfl, rfl, d_Mo_init_219⟩) rfl (by decide) (G_pc (pc' := 220) rfl ?_)
  refine G_bipush (n := 32) d_Mo_init_220 (by decide) (G_pc (pc' := 222) rfl ?_)
  refine G_newa (n := 32) (ty := .long) rfl d_Mo_init_222 rfl ac_long (by decide) rfl (by decide) (by decide) (by decide) (by decide) (G_pc (pc' := 224) rfl ?_)
  refine G_ps (pc' := 224) (st' := [vr 83, vr 55]) rfl rfl ?_
  refine G_putFL (o := 55) (c := 9) (k := 36) (ki := 36) (x := 83) d_Mo_init_224 fl_Mo_93 rfl rfl (by decide) (by decide) (by decide) rfl rfl rfl rfl (tokA (by decide)) rfl (G_pc (pc' := 227) rfl ?_)
  refine G_aload (i := 0) (n := 0) (len := 1) (Or.inl ⟨0, rfl, rfl, d_Mo_init_227⟩) rfl (by decide) (G_pc (pc' := 228) rfl ?_)
  refine G_bipush (n := 32) d_Mo_init_228 (by decide) (G_pc (pc' := 230) rfl ?_)
  refine G_newa (n := 32) (ty := .int) rfl d_Mo_init_230 rfl ac_int (by decide) rfl (by decide) (by decide) (by decide) (by decide) (G_pc (pc' := 232) rfl ?_)
  refine G_ps (pc' := 232) (st' := [vr 84, vr 55]) rfl rfl ?_
  refine G_putFL (o := 55) (c := 9) (k := 38) (ki := 38) (x := 84) d_Mo_init_232 fl_Mo_96 rfl rfl (by decide) (by decide) (by decide) rfl rfl rfl rfl (tokA (by decide)) rfl (G_pc (pc' := 235) rfl ?_)
  refine G_aload (i := 0) (n := 0) (len := 1) (Or.inl ⟨0, rfl, rfl, d_Mo_init_235⟩) rfl (by decide) (G_pc (pc' := 236) rfl ?_)
  refine G_bipush (n := 32) d_Mo_init_236 (by decide) (G_pc (pc' := 238) rfl ?_)
  refine G_newa (n := 32) (ty := .int) rfl d_Mo_init_238 rfl ac_int (by decide) rfl (by decide) (by decide) (by decide) (by decide) (G_pc (pc' := 240) rfl ?_)
  refine G_ps (pc' := 240) (st' := [vr 85, vr 55]) rfl rfl ?_
  refine G_putFL (o := 55) (c := 9) (k := 40) (ki := 40) (x := 85) d_Mo_init_240 fl_Mo_99 rfl rfl (by decide) (by decide) (by decide) rfl rfl rfl rfl (tokA (by decide)) rfl (G_pc (pc' := 243) rfl ?_)
  refine G_aload (i := 0) (n := 0) (len := 1) (Or.inl ⟨0, rfl, rfl, d_Mo_init_243⟩) rfl (by decide) (G_pc (pc' := 244) rfl ?_)
  refine G_bipush (n := 32) d_Mo_init_244 (by decide) (G_pc (pc' := 246) rfl ?_)
  refine G_newa (n := 32) (ty := .int) rfl d_Mo_init_246 rfl ac_int (by decide) rfl (by decide) (by decide) (by decide) (by decide) (G_pc (pc' := 248) rfl ?_)
  refine G_ps (pc' := 248) (st' := [vr 86, vr 55]) rfl rfl ?_
  refine G_putFL (o := 55) (c := 9) (k := 41) (ki := 41) (x := 86) d_Mo_init_248 fl_Mo_102 rfl rfl (by decide) (by decide) (by decide) rfl rfl rfl rfl (tokA (by decide)) rfl (G_pc (pc' := 251) rfl ?_)
  refine G_iconst (n := 0) d_Mo_init_251 (by decide) (G_pc (pc' := 252) rfl ?_)
  refine G_istore (i := 1) (len := 1) (ls' := [(1, vi 0), (0, vr 55)]) (Or.inl ⟨1, rfl, rfl, d_Mo_init_252⟩) (by decide) rfl (G_pc (pc' := 253) rfl ?_)
  refine mo_lp1s _ rfl ?_
  refine G_iconst (n := 0) d_Mo_init_273 (by decide) (G_pc (pc' := 274) rfl ?_)
  refine G_istore (i := 1) (len := 1) (ls' := [(1, vi 0), (0, vr 55)]) (Or.inl ⟨1, rfl, rfl, d_Mo_init_274⟩) (by decide) rfl (G_pc (pc' := 275) rfl ?_)
  refine mo_lp2s _ rfl ?_
  refine G_iconst (n := 0) d_Mo_init_294 (by decide) (G_pc (pc' := 295) rfl ?_)
  refine G_istore (i := 1) (len := 1) (ls' := [(1, vi 0), (0, vr 55)]) (Or.inl ⟨1, rfl, rfl, d_Mo_init_295⟩) (by decide) rfl (G_pc (pc' := 296) rfl ?_)
  refine mo_lp3s _ rfl ?_
  refine G_vret d_Mo_init_314 rfl rfl ?_
  exact ⟨rfl, rfl⟩
