def amQ (s : Int) : Nat → Int → Mem → Mem → Prop
  | 0, _, W, M' => M' = W
  | n + 1, i, W, M' => (o_iand (o_ishr s i) 1 = 1 → ∃ W', goQ i W W' ∧ amQ s n (i + 1) W' M') ∧ (¬ o_iand (o_ishr s i) 1 = 1 → amQ s n (i + 1) W M')
theorem amQ_y {s : Int} {n : Nat} {i : Int} {W W' M' : Mem} (h : o_iand (o_ishr s i) 1 = 1) (h2 : goQ i W W') (h3 : amQ s n (i + 1) W' M') : amQ s (n + 1) i W M' := ⟨fun _ => ⟨W', h2, h3⟩, fun h9 => absurd h h9⟩
theorem amQ_n {s : Int} {n : Nat} {i : Int} {W M' : Mem} (h : ¬ o_iand (o_ishr s i) 1 = 1) (h3 : amQ s n (i + 1) W M') : amQ s (n + 1) i W M' := ⟨fun h9 => absurd h9 h, fun _ => h3⟩
def amH (s : Int) (V : Int → Mem → Prop) : Prop := ∀ (i : Int) (W : Mem), 0 ≤ i → i < 4 → V i W → (o_iand (o_ishr s i) 1 = 1 → goM i W ∧ ∀ W', goQ i W W' → V (i + 1) W') ∧ (¬ o_iand (o_ishr s i) 1 = 1 → V (i + 1) W)
def am0 (M : Mem) (k : Int) : Mem := mset (takeOutM M k) 71 (M 72 k) 1
def amS (M : Mem) (k : Int) : Int := waitM (takeOutM M k) (M 72 k)
theorem d_Mo_answer_0 : decode b_Mo_answer 0 = .ok (.iload_n 1, 1) := by decide +kernel
theorem d_Mo_answer_1 : decode b_Mo_answer 1 = .ok (.aload_n 0, 1) := by decide +kernel
theorem d_Mo_answer_2 : decode b_Mo_answer 2 = .ok (.getfield 150, 3) := by decide +kernel
theorem d_Mo_answer_5 : decode b_Mo_answer 5 = .ok (.invokestatic 105, 3) := by decide +kernel
theorem d_Mo_answer_8 : decode b_Mo_answer 8 = .ok (.ifCond .ne 5, 3) := by decide +kernel
theorem d_Mo_answer_11 : decode b_Mo_answer 11 = .ok (.iconst (-1), 1) := by decide +kernel
theorem d_Mo_answer_12 : decode b_Mo_answer 12 = .ok (.ireturn, 1) := by decide +kernel
theorem d_Mo_answer_13 : decode b_Mo_answer 13 = .ok (.aload_n 0, 1) := by decide +kernel
theorem d_Mo_answer_14 : decode b_Mo_answer 14 = .ok (.iload_n 1, 1) := by decide +kernel
theorem d_Mo_answer_15 : decode b_Mo_answer 15 = .ok (.invokevirtual 328, 3) := by decide +kernel
theorem d_Mo_answer_18 : decode b_Mo_answer 18 = .ok (.istore_n 2, 1) := by decide +kernel
theorem d_Mo_answer_19 : decode b_Mo_answer 19 = .ok (.aload_n 0, 1) := by decide +kernel
theorem d_Mo_answer_20 : decode b_Mo_answer 20 = .ok (.iload_n 2, 1) := by decide +kernel
theorem d_Mo_answer_21 : decode b_Mo_answer 21 = .ok (.invokevirtual 331, 3) := by decide +kernel
theorem d_Mo_answer_24 : decode b_Mo_answer 24 = .ok (.istore_n 3, 1) := by decide +kernel
theorem d_Mo_answer_25 : decode b_Mo_answer 25 = .ok (.aload_n 0, 1) := by decide +kernel
theorem d_Mo_answer_26 : decode b_Mo_answer 26 = .ok (.getfield 57, 3) := by decide +kernel
theorem d_Mo_answer_29 : decode b_Mo_answer 29 = .ok (.iload_n 2, 1) := by decide +kernel
theorem d_Mo_answer_30 : decode b_Mo_answer 30 = .ok (.iconst 1, 1) := by decide +kernel
theorem d_Mo_answer_31 : decode b_Mo_answer 31 = .ok (.bastore, 1) := by decide +kernel
theorem d_Mo_answer_32 : decode b_Mo_answer 32 = .ok (.iconst 0, 1) := by decide +kernel
theorem d_Mo_answer_33 : decode b_Mo_answer 33 = .ok (.istore 4, 2) := by decide +kernel
theorem d_Mo_answer_35 : decode b_Mo_answer 35 = .ok (.iload 4, 2) := by decide +kernel
theorem d_Mo_answer_37 : decode b_Mo_answer 37 = .ok (.iconst 4, 1) := by decide +kernel
theorem d_Mo_answer_38 : decode b_Mo_answer 38 = .ok (.if_icmp .ge 25, 3) := by decide +kernel
theorem d_Mo_answer_41 : decode b_Mo_answer 41 = .ok (.iload_n 3, 1) := by decide +kernel
theorem d_Mo_answer_42 : decode b_Mo_answer 42 = .ok (.iload 4, 2) := by decide +kernel
theorem d_Mo_answer_44 : decode b_Mo_answer 44 = .ok (.ishr, 1) := by decide +kernel
theorem d_Mo_answer_45 : decode b_Mo_answer 45 = .ok (.iconst 1, 1) := by decide +kernel
theorem d_Mo_answer_46 : decode b_Mo_answer 46 = .ok (.iand, 1) := by decide +kernel
theorem d_Mo_answer_47 : decode b_Mo_answer 47 = .ok (.iconst 1, 1) := by decide +kernel
theorem d_Mo_answer_48 : decode b_Mo_answer 48 = .ok (.if_icmp .ne 9, 3) := by decide +kernel
theorem d_Mo_answer_51 : decode b_Mo_answer 51 = .ok (.aload_n 0, 1) := by decide +kernel
theorem d_Mo_answer_52 : decode b_Mo_answer 52 = .ok (.iload 4, 2) := by decide +kernel
theorem d_Mo_answer_54 : decode b_Mo_answer 54 = .ok (.invokevirtual 325, 3) := by decide +kernel
theorem d_Mo_answer_57 : decode b_Mo_answer 57 = .ok (.iinc 4 1, 3) := by decide +kernel
theorem d_Mo_answer_60 : decode b_Mo_answer 60 = .ok (.goto (-25), 3) := by decide +kernel
theorem d_Mo_answer_63 : decode b_Mo_answer 63 = .ok (.iload_n 3, 1) := by decide +kernel
theorem d_Mo_answer_64 : decode b_Mo_answer 64 = .ok (.invokestatic 334, 3) := by decide +kernel
theorem d_Mo_answer_67 : decode b_Mo_answer 67 = .ok (.ireturn, 1) := by decide +kernel
theorem g_Mo_answer {X : WX} {d : Nat} (hd : 6 ≤ d) (k : Int) (V : Int → Mem → Prop) (M : Mem) (hR : 0 ≤ M 55 21 ∧ M 55 21 ≤ 400) (hq : ∀ j, 0 ≤ j → j < M 55 21 → 0 ≤ M 72 j ∧ M 72 j < 423) (hah0 : (0 ≤ k ∧ k < M 55 21) → amH (amS M k) V) (hV0 : (0 ≤ k ∧ k < M 55 21) → V 0 (am0 M k)) : MG X gt d KE KE y_Mo_answer b_Mo_answer 5 (some .int) [vr 55, vi k] M (fun r M' => ((0 ≤ k ∧ k < M 55 21) → r = some (vi (onesM (amS M k))) ∧ amQ (amS M k) 4 0 (am0 M k) M') ∧ (¬ (0 ≤ k ∧ k < M 55 21) → r = some (vi (-1)) ∧ M' = M)) := by
  refine MG_of_G (by decide) (Nat.le_of_ble_eq_true rfl) (Nat.le_refl _) (by decide) ?_
  show G X gt d KE KE y_Mo_answer b_Mo_answer 5 (some .int) _ 0 [(0, vr 55), (1, vi k)] [] KE M
  refine G_rngl (i := 1) rfl (fun hr1 => ?_)
  have loop : (0 ≤ k ∧ k < M 55 21) → ∀ (p : Int) (n : Nat) (i : Int) (W : Mem), i + n = 4 → 0 ≤ i → V i W → (∀ M', amQ (amS M k) n i W M' → amQ (amS M k) 4 0 (am0 M k) M') → G X gt d KE KE y_Mo_answer b_Mo_answer 5 (some .int) (fun r M' => ((0 ≤ k ∧ k < M 55 21) → r = some (vi (onesM (amS M k))) ∧ amQ (amS M k) 4 0 (am0 M k) M') ∧ (¬ (0 ≤ k ∧ k < M 55 21) → r = some (vi (-1)) ∧ M' = M)) 35 [(4, vi i), (3, vi (amS M k)), (2, vi p), (0, vr 55), (1, vi k)] [] KE W := by
    intro hk0 p n
    have hs16 : 0 ≤ amS M k ∧ amS M k < 16 := waitM_rng _ _
    have hah := hah0 hk0
    induction n with
    | zero =>
      intro i W h1 h2 hV hQ
      refine G_iload (i := 4) (n := 0) (len := 2) (Or.inr ⟨rfl, d_Mo_answer_35⟩) rfl (G_pc (pc' := 37) rfl ?_)
      refine G_iconst (n := 4) d_Mo_answer_37 (by decide) (G_pc (pc' := 38) rfl ?_)
      refine G_icmp_ge (tgt := 63) d_Mo_answer_38 (by decide) (fun h3501 => ?_) (fun h3501 => absurd h3501 (by omega))
      refine G_iload (i := 3) (n := 1) (len := 1) (Or.inl ⟨3, rfl, rfl, d_Mo_answer_63⟩) rfl (G_pc (pc' := 64) rfl ?_)
      refine G_callS (K1 := KE) (d2 := 0) (as := [vi (amS M k)]) (rest := []) d_Mo_answer_64 mf_Mo_ones ml_Mo_334 rfl rfl (Nat.le_of_ble_eq_true rfl) (by omega) ⟨Nat.le_refl _, Nat.le_refl _⟩ (g_Mo_ones (by omega) (amS M k) W hs16) (fun r3502 M3503 kq3504 q3504 => ?_)
      clear kq3504; obtain ⟨q3504a, q3504b⟩ := q3504; subst r3502; subst M3503
      refine G_ps (pc' := 67) (st' := [vi (onesM (amS M k))]) rfl rfl ?_
      refine G_iret d_Mo_answer_67 rfl (tokI (by unfold onesM; omega)) rfl rfl ?_
      exact ⟨fun _ => ⟨rfl, hQ _ rfl⟩, fun h => absurd hk0 h⟩
    | succ n ih =>
      intro i W h1 h2 hV hQ
      refine G_iload (i := 4) (n := 0) (len := 2) (Or.inr ⟨rfl, d_Mo_answer_35⟩) rfl (G_pc (pc' := 37) rfl ?_)
      refine G_iconst (n := 4) d_Mo_answer_37 (by decide) (G_pc (pc' := 38) rfl ?_)
      refine G_icmp_ge (tgt := 63) d_Mo_answer_38 (by decide) (fun h3601 => absurd h3601 (by omega)) (fun h3601 => G_pc (pc' := 41) rfl ?_)
      have hvi := hah i W (by omega) (by omega) hV
      refine G_iload (i := 3) (n := 1) (len := 1) (Or.inl ⟨3, rfl, rfl, d_Mo_answer_41⟩) rfl (G_pc (pc' := 42) rfl ?_)
      refine G_iload (i := 4) (n := 0) (len := 2) (Or.inr ⟨rfl, d_Mo_answer_42⟩) rfl (G_pc (pc' := 44) rfl ?_)
      refine G_ishr d_Mo_answer_44 (G_pc (pc' := 45) rfl ?_)
      refine G_iconst (n := 1) d_Mo_answer_45 (by decide) (G_pc (pc' := 46) rfl ?_)
      refine G_iand d_Mo_answer_46 (G_pc (pc' := 47) rfl ?_)
      refine G_iconst (n := 1) d_Mo_answer_47 (by decide) (G_pc (pc' := 48) rfl ?_)
      refine G_icmp_ne (tgt := 57) d_Mo_answer_48 (by decide) (fun h3602 => ?_) (fun h3602 => G_pc (pc' := 51) rfl ?_)
      · skip
        refine G_iinc (i := 4) (n := 0) (z := 1) (ls' := [(4, vi (i + 1)), (3, vi (amS M k)), (2, vi p), (0, vr 55), (1, vi k)]) d_Mo_answer_57 rfl (by decide) (by omega) rfl (G_pc (pc' := 60) rfl ?_)
        refine G_goto (tgt := 35) d_Mo_answer_60 (by decide) ?_
        exact ih (i + 1) _ (by omega) (by omega) (hvi.2 (by assumption)) (fun M' h => hQ M' (amQ_n (by assumption) h))
      · skip
        refine G_aload (i := 0) (n := 3) (len := 1) (Or.inl ⟨0, rfl, rfl, d_Mo_answer_51⟩) rfl (by decide) (G_pc (pc' := 52) rfl ?_)
        refine G_iload (i := 4) (n := 0) (len := 2) (Or.inr ⟨rfl, d_Mo_answer_52⟩) rfl (G_pc (pc' := 54) rfl ?_)
        refine G_callV (K1 := KE) (d2 := 5) (o := 55) (cl := 9) (as := [vi i]) (rest := []) d_Mo_answer_54 mf_Mo_go ml_Mo_325 rfl rfl (by decide) rfl rfl (Nat.le_of_ble_eq_true rfl) (by omega) ⟨Nat.le_refl _, Nat.le_refl _⟩ (g_Mo_go (by omega) i W (by omega) (hvi.1 (by assumption)).1) (fun r3603 M3604 kq3605 q3605 => ?_)
        clear kq3605; obtain ⟨q3605a, hgo⟩ := q3605; subst r3603
        refine G_ps (pc' := 57) (st' := []) rfl rfl ?_
        refine G_iinc (i := 4) (n := 0) (z := 1) (ls' := [(4, vi (i + 1)), (3, vi (amS M k)), (2, vi p), (0, vr 55), (1, vi k)]) d_Mo_answer_57 rfl (by decide) (by omega) rfl (G_pc (pc' := 60) rfl ?_)
        refine G_goto (tgt := 35) d_Mo_answer_60 (by decide) ?_
        exact ih (i + 1) _ (by omega) (by omega) ((hvi.1 (by assumption)).2 _ hgo) (fun M' h => hQ M' (amQ_y (by assumption) hgo h))
  refine G_iload (i := 1) (n := 1) (len := 1) (Or.inl ⟨1, rfl, rfl, d_Mo_answer_0⟩) rfl (G_pc (pc' := 1) rfl ?_)
  refine G_aload (i := 0) (n := 0) (len := 1) (Or.inl ⟨0, rfl, rfl, d_Mo_answer_1⟩) rfl (by decide) (G_pc (pc' := 2) rfl ?_)
  refine G_get (o := 55) (c := 9) (k := 21) (v := M 55 21) d_Mo_answer_2 fl_Mo_150 rfl (by decide) (by decide) rfl rfl (G_pc (pc' := 5) rfl ?_)
  refine G_callS (K1 := KE) (d2 := 0) (as := [vi k, vi (M 55 21)]) (rest := []) d_Mo_answer_5 mf_Mo_in ml_Mo_105 rfl rfl (Nat.le_of_ble_eq_true rfl) (by omega) ⟨Nat.le_refl _, Nat.le_refl _⟩ (g_Mo_in (by omega) k (M 55 21) _) (fun r1 M2 kq3 q3 => ?_)
  clear kq3; obtain ⟨q3a, q3b⟩ := q3; subst r1; subst M2
  refine G_ps (pc' := 8) (st' := [vi (b2i (inB k (M 55 21)))]) rfl rfl ?_
  refine G_if_ne (tgt := 13) d_Mo_answer_8 (by decide) (fun h4 => ?_) (fun h4 => G_pc (pc' := 11) rfl ?_)
  · skip
    replace h4 := b2i_nz.mp h4
    replace h4 := inB_t.mp h4
    have hqk := hq k (by omega) (by omega)
    refine G_aload (i := 0) (n := 0) (len := 1) (Or.inl ⟨0, rfl, rfl, d_Mo_answer_13⟩) rfl (by decide) (G_pc (pc' := 14) rfl ?_)
    refine G_iload (i := 1) (n := 1) (len := 1) (Or.inl ⟨1, rfl, rfl, d_Mo_answer_14⟩) rfl (G_pc (pc' := 15) rfl ?_)
    refine G_callV (K1 := KE) (d2 := 0) (o := 55) (cl := 9) (as := [vi k]) (rest := []) d_Mo_answer_15 mf_Mo_takeOut ml_Mo_328 rfl rfl (by decide) rfl rfl (Nat.le_of_ble_eq_true rfl) (by omega) ⟨Nat.le_refl _, Nat.le_refl _⟩ (g_Mo_takeOut (by omega) k M (by omega) (by omega)) (fun r5 M6 kq7 q7 => ?_)
    clear kq7; obtain ⟨q7a, q7b⟩ := q7; subst r5; subst M6
    refine G_ps (pc' := 18) (st' := [vi (M 72 k)]) rfl rfl ?_
    refine G_istore (i := 2) (len := 1) (ls' := [(2, vi (M 72 k)), (0, vr 55), (1, vi k)]) (Or.inl ⟨2, rfl, rfl, d_Mo_answer_18⟩) (by decide) rfl (G_pc (pc' := 19) rfl ?_)
    refine G_aload (i := 0) (n := 1) (len := 1) (Or.inl ⟨0, rfl, rfl, d_Mo_answer_19⟩) rfl (by decide) (G_pc (pc' := 20) rfl ?_)
    refine G_iload (i := 2) (n := 0) (len := 1) (Or.inl ⟨2, rfl, rfl, d_Mo_answer_20⟩) rfl (G_pc (pc' := 21) rfl ?_)
    refine G_callV (K1 := KE) (d2 := 0) (o := 55) (cl := 9) (as := [vi (M 72 k)]) (rest := []) d_Mo_answer_21 mf_Mo_waiting ml_Mo_331 rfl rfl (by decide) rfl rfl (Nat.le_of_ble_eq_true rfl) (by omega) ⟨Nat.le_refl _, Nat.le_refl _⟩ (g_Mo_waiting (by omega) (M 72 k) (takeOutM M k)) (fun r8 M9 kq10 q10 => ?_)
    clear kq10; obtain ⟨q10a, q10b⟩ := q10; subst r8; subst M9
    refine G_ps (pc' := 24) (st' := [vi (waitM (takeOutM M k) (M 72 k))]) rfl rfl ?_
    refine G_istore (i := 3) (len := 1) (ls' := [(3, vi (waitM (takeOutM M k) (M 72 k))), (2, vi (M 72 k)), (0, vr 55), (1, vi k)]) (Or.inl ⟨3, rfl, rfl, d_Mo_answer_24⟩) (by decide) rfl (G_pc (pc' := 25) rfl ?_)
    refine G_aload (i := 0) (n := 2) (len := 1) (Or.inl ⟨0, rfl, rfl, d_Mo_answer_25⟩) rfl (by decide) (G_pc (pc' := 26) rfl ?_)
    refine G_get (o := 55) (c := 9) (k := 20) (v := 71) d_Mo_answer_26 fl_Mo_57 rfl (by decide) (by decide) rfl rfl (G_pc (pc' := 29) rfl ?_)
    refine G_iload (i := 2) (n := 1) (len := 1) (Or.inl ⟨2, rfl, rfl, d_Mo_answer_29⟩) rfl (G_pc (pc' := 30) rfl ?_)
    refine G_iconst (n := 1) d_Mo_answer_30 (by decide) (G_pc (pc' := 31) rfl ?_)
    refine G_zastore (o := 71) (n := 423) (i := M 72 k) (x := 1) d_Mo_answer_31 rfl ⟨by decide, by decide⟩ (by decide) (gt_arr rfl _) (by omega) (tokZ (by decide)) (G_pc (pc' := 32) rfl ?_)
    refine G_iconst (n := 0) d_Mo_answer_32 (by decide) (G_pc (pc' := 33) rfl ?_)
    refine G_istore (i := 4) (len := 2) (ls' := [(4, vi 0), (3, vi (waitM (takeOutM M k) (M 72 k))), (2, vi (M 72 k)), (0, vr 55), (1, vi k)]) (Or.inr ⟨rfl, d_Mo_answer_33⟩) (by decide) rfl (G_pc (pc' := 35) rfl ?_)
    exact loop (by omega) (M 72 k) 4 0 _ (by omega) (by omega) (hV0 (by omega)) (fun M' h => h)
  · skip
    replace h4 := b2i_0.mp h4
    replace h4 := inB_f.mp h4
    refine G_iconst (n := (-1)) d_Mo_answer_11 (by decide) (G_pc (pc' := 12) rfl ?_)
    refine G_iret d_Mo_answer_12 rfl (tokI (by decide)) rfl rfl ?_
    first | (exfalso; omega) | exact ⟨fun h => absurd h (by first | assumption | omega), fun _ => ⟨rfl, rfl⟩⟩

