/-! THE LAW FROM ITS ENTRY -/
section BG
variable {X : WX} {L : Nat} {xs : Nat → Int32} {nm : String}
theorem d_law_0 : decode code 0 = .ok (.new 7, 3) := by decide +kernel
theorem d_law_3 : decode code 3 = .ok (.dup, 1) := by decide +kernel
theorem d_law_4 : decode code 4 = .ok (.invokespecial 9, 3) := by decide +kernel
theorem d_law_7 : decode code 7 = .ok (.astore_n 1, 1) := by decide +kernel
theorem d_law_8 : decode code 8 = .ok (.new 10, 3) := by decide +kernel
theorem d_law_11 : decode code 11 = .ok (.dup, 1) := by decide +kernel
theorem d_law_12 : decode code 12 = .ok (.invokespecial 12, 3) := by decide +kernel
theorem d_law_15 : decode code 15 = .ok (.astore_n 2, 1) := by decide +kernel
theorem d_law_16 : decode code 16 = .ok (.iconst 0, 1) := by decide +kernel
theorem d_law_17 : decode code 17 = .ok (.istore_n 3, 1) := by decide +kernel
theorem lw_begin (hL : L ≤ 320) : GL (Scr X L xs) X g0 409 1 KE (yL nm) code 4 ret 0 [(0, vr 3002)] [] 1 im_z := by
  refine L_new (c := 8) rfl d_law_0 rfl cl_La_7 ins_De ini_De (by decide) (by decide) (L_pc (pc' := 3) rfl ?_)
  refine L_ps (pc' := 3) (st' := [vr 1]) rfl rfl ?_
  refine L_dup d_law_3 (fun _ h => by cases h) (L_pc (pc' := 4) rfl ?_)
  refine L_callI (K1 := 55) (d2 := 3) (o := 1) (as := []) (rest := [vr 1]) d_law_4 mf_De_init ml_La_9 (by decide) rfl rfl (Nat.le_of_ble_eq_true rfl) (by decide) ⟨by decide, by decide⟩ (g_De_init (Nat.le_refl _) _) (fun r1 M1 k1 q1 => ?_)
  obtain ⟨q1a, q1b⟩ := q1; subst q1a; subst q1b
  refine L_ps (pc' := 7) (st' := [vr 1]) rfl rfl ?_
  refine L_astore (i := 1) (len := 1) (ls' := [(1, vr 1), (0, vr 3002)]) (Or.inl ⟨1, rfl, rfl, d_law_7⟩) (by decide) (by decide) rfl (L_pc (pc' := 8) rfl ?_)
  refine L_new (c := 9) rfl d_law_8 rfl cl_La_10 ins_Mo ini_Mo (by decide) (by decide) (L_pc (pc' := 11) rfl ?_)
  refine L_ps (pc' := 11) (st' := [vr 55]) rfl rfl ?_
  refine L_dup d_law_11 (fun _ h => by cases h) (L_pc (pc' := 12) rfl ?_)
  refine L_callI (K1 := 87) (d2 := 1) (o := 55) (as := []) (rest := [vr 55]) d_law_12 mf_Mo_init ml_La_12 (by decide) rfl rfl (Nat.le_of_ble_eq_true rfl) (by decide) ⟨by decide, by decide⟩ (g_Mo_init (Nat.le_refl _) _) (fun r2 M2 k2 q2 => ?_)
  obtain ⟨q2a, q2b⟩ := q2; subst q2a; subst q2b
  refine L_ps (pc' := 15) (st' := [vr 55]) rfl rfl ?_
  refine L_astore (i := 2) (len := 1) (ls' := [(2, vr 55), (1, vr 1), (0, vr 3002)]) (Or.inl ⟨2, rfl, rfl, d_law_15⟩) (by decide) (by decide) rfl (L_pc (pc' := 16) rfl ?_)
  refine L_iconst (n := 0) d_law_16 (by decide) (L_pc (pc' := 17) rfl ?_)
  refine L_istore (i := 3) (len := 1) (ls' := [(3, vi 0), (2, vr 55), (1, vr 1), (0, vr 3002)]) (Or.inl ⟨3, rfl, rfl, d_law_17⟩) (by decide) rfl (L_pc (pc' := 18) rfl ?_)
  refine L_ls (ls' := [(0, vr 3002), (1, vr 1), (2, vr 55), (3, vi 0)]) (by intro z hz; simp only [List.mem_cons] at hz ⊢; grind) ?_
  exact L_gt0 (lw_loop hL 320 0 0 FM (by omega) (by omega) (by omega) BI_0)
end BG
/-- the classes' numbers and slots, from the tables' words -/
theorem k_all {s : State} {args : Array Value} (hts : ∀ w ∈ UW, w.before args s = true) : ∀ c : Nat, c < 10 → ∃ (cC : ClassId) (iS : Nat → Nat), u_Kn s (cR c) (cT c) (cN c) cC iS := fun c h => match c, h with
  | 0, _ => u_known (n := cN 0) hts (c_in 0 (by decide)) (hts _ ins_Ck)
  | 1, _ => u_known (n := cN 1) hts (c_in 1 (by decide)) (hts _ ins_Ev)
  | 2, _ => by
    obtain ⟨cC, iS, h⟩ := u_known (C := cR 0) (T := cT 0) (N := cN 0) (n := cN 0) hts (c_in 0 (by decide)) (hts _ ins_Ck)
    exact ⟨cC, iS, fun k hk => absurd hk (Nat.not_lt_zero k), h.2⟩
  | 3, _ => u_known (n := cN 3) hts (c_in 3 (by decide)) (hts _ ins_Li)
  | 4, _ => u_known (n := cN 4) hts (c_in 4 (by decide)) (hts _ ins_Re)
  | 5, _ => u_known (n := cN 5) hts (c_in 5 (by decide)) (hts _ ins_St)
  | 6, _ => u_known (n := cN 6) hts (c_in 6 (by decide)) (hts _ ins_Ta)
  | 7, _ => u_known (n := cN 7) hts (c_in 7 (by decide)) (hts _ ins_To)
  | 8, _ => u_known (n := cN 8) hts (c_in 8 (by decide)) (hts _ ins_De)
  | 9, _ => u_known (n := cN 9) hts (c_in 9 (by decide)) (hts _ ins_Mo)
  | _ + 10, h => absurd h (by omega)
theorem arr_p {s : State} {args : Array Value} {ty : FieldType} (h : (Cond.arrayClass ty).before args s = true) (hm : ∀ cA, s.vm.findClass ("[" ++ ty.toString) = some cA → va_RA s cA ty) : ∃ cA, ArrOfT s cA ty ∧ va_RA s cA ty := by
  obtain ⟨cA, kA, comp, h1, h2, h3⟩ := Cond.arrayClass_spec h
  exact ⟨cA, fun n z => ⟨fun k h => (by cases h), kA, h2, comp, h3⟩, hm cA h1⟩
set_option maxRecDepth 100000 in
theorem w_ao : Cond.arrayOver (.object "MirrorDesk$Evaluation") ∈ lw_tbl := by decide +kernel
set_option maxRecDepth 100000 in
theorem w_ne : ∀ q ∈ nests, Cond.methodLinkNest q.1 q.2.1 q.2.2 R_De ∈ lw_tbl := by decide +kernel
set_option maxRecDepth 100000 in
theorem w_sr : ∀ i : Nat, i < 11 → Cond.stringRef R_To (poolS.getD i 0) (txtS.getD i "") ∈ lw_tbl := by decide +kernel
set_option maxRecDepth 100000 in
theorem w_z1 : Cond.laysStatic "java/lang/String" "COMPACT_STRINGS" "Z" ∈ lw_tbl := by decide +kernel
set_option maxRecDepth 100000 in
theorem w_z2 : Cond.initialized "java/lang/String" ∈ lw_tbl := by decide +kernel
set_option maxRecDepth 100000 in
theorem w_z3 : Cond.laysStatic "jdk/internal/util/Preconditions" "SIOOBE_FORMATTER" "Ljava/util/function/BiFunction;" ∈ lw_tbl := by decide +kernel
set_option maxRecDepth 100000 in
theorem w_z4 : Cond.initialized "jdk/internal/util/Preconditions" ∈ lw_tbl := by decide +kernel
theorem arr_all {s : State} {args : Array Value} (hts : ∀ w ∈ lw_tbl, w.before args s = true) : ∀ ty ∈ arrTys, ∃ cA, ArrOfT s cA ty ∧ va_RA s cA ty := by
  intro ty h
  simp only [arrTys, List.mem_cons, List.not_mem_nil, or_false] at h
  rcases h with rfl | rfl | rfl | rfl | rfl
  · exact arr_p (hts _ (UW_tbl _ ac_int)) (fun _ h => h)
  · exact arr_p (hts _ (UW_tbl _ ac_long)) (fun _ h => h)
  · exact arr_p (hts _ (UW_tbl _ ac_char)) (fun _ h => h)
  · exact arr_p (hts _ (UW_tbl _ ac_boolean)) (fun _ h => h)
  · obtain ⟨comp, cA, kA, h1, h2, h3, h4, h5⟩ := Cond.arrayOver_spec (hts _ w_ao)
    exact ⟨cA, fun n z => ⟨fun k h => (by cases h), kA, h3, comp, h4⟩, kA, comp, h3, h4, h1, h5⟩
def tmS (i : Nat) : Term := .string R_To (poolS.getD i 0)
def FLT : List Cond := flatC (Jvm.Cond.and given_1 narrow_1)
set_option maxRecDepth 100000 in
theorem n_ex : ∀ i : Nat, i < 11 → Cond.exactly (tmS i) "java/lang/String" ∈ FLT := by decide +kernel
set_option maxRecDepth 100000 in
theorem n_co : ∀ i : Nat, i < 11 → Cond.eq (.field (tmS i) "java/lang/String" "coder" "B") (.int 0) ∈ FLT := by decide +kernel
set_option maxRecDepth 100000 in
theorem n_ar : ∀ i : Nat, i < 11 → Cond.arrayOf (.field (tmS i) "java/lang/String" "value" "[B") .byte ∈ FLT := by decide +kernel
set_option maxRecDepth 100000 in
theorem n_le : ∀ i : Nat, i < 11 → Cond.eq (.length (.field (tmS i) "java/lang/String" "value" "[B")) (.int (Int32.ofNat (lenS.getD i 0))) ∈ FLT := by decide +kernel
set_option maxRecDepth 100000 in
theorem n_el : ∀ i : Nat, i < 11 → ∀ j : Nat, j < lenS.getD i 0 → Cond.eq (.elem (.field (tmS i) "java/lang/String" "value" "[B") (.int (Int32.ofNat j))) (.int ((bytS.getD i []).getD j 0)) ∈ FLT := by decide +kernel
set_option maxRecDepth 100000 in
theorem n_ne : ∀ i : Nat, i < 11 → ∀ j : Nat, j < 11 → i ≠ j → Cond.not (Cond.eq (tmS i) (tmS j)) ∈ FLT ∨ Cond.not (Cond.eq (tmS j) (tmS i)) ∈ FLT := by decide +kernel
set_option maxRecDepth 100000 in
theorem n_cs : Cond.eq (.static "java/lang/String" "COMPACT_STRINGS" "Z") (.int 1) ∈ FLT := by decide +kernel
set_option maxRecDepth 100000 in
theorem n_si : Cond.isRef (.static "jdk/internal/util/Preconditions" "SIOOBE_FORMATTER" "Ljava/util/function/BiFunction;") ∈ FLT := by decide +kernel
/-- the addresses: our own cells behind all that was there; the String constants, their bytes, the formatter, the script -/
def adr (B : Nat) (aK aV : Nat → Nat) (nr tt b : Nat) : Nat → Nat := fun k => if k < 1000 then B + k - 1 else if k < 2000 then aK (k - 1000) else if k < 3000 then aV (k - 2000) else if k = 3001 then nr else if k = 3002 then b else tt
