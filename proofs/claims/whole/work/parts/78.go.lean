def cpT (M : Mem) (e n : Int) : Mem := fun c i => if c = 63 ∧ 40 * e ≤ i ∧ i < 40 * e + n then M 63 (160 + (i - 40 * e)) else M c i
theorem cpT_0 {M : Mem} {e : Int} : cpT M e 0 = M := by
  funext c i; unfold cpT; rw [if_neg (by omega)]
theorem cpT_s {M : Mem} {e k v : Int} (hk : 0 ≤ k) (hv : v = M 63 (160 + k)) : mset (cpT M e k) 63 (40 * e + k) v = cpT M e (k + 1) := by
  funext c i; unfold cpT mset
  by_cases h1 : c = 63 ∧ i = 40 * e + k
  · rw [if_pos h1, if_pos (by omega), hv, h1.2]; congr 1; omega
  · rw [if_neg h1]
    dsimp only
    by_cases h2 : c = 63 ∧ 40 * e ≤ i ∧ i < 40 * e + k
    · rw [if_pos h2, if_pos (by omega)]
    · rw [if_neg h2, if_neg (by omega)]
def evT (M : Mem) (e : Int) : Mem := mset (mset (mset (cpT M e (M 64 4)) 64 e (M 64 4)) 64 4 0) 65 e 1
theorem d_Mo_eval_0 : decode b_Mo_eval 0 = .ok (.iload_n 1, 1) := by decide +kernel
theorem d_Mo_eval_1 : decode b_Mo_eval 1 = .ok (.iconst 4, 1) := by decide +kernel
theorem d_Mo_eval_2 : decode b_Mo_eval 2 = .ok (.invokestatic 105, 3) := by decide +kernel
theorem d_Mo_eval_5 : decode b_Mo_eval 5 = .ok (.ifCond .eq 10, 3) := by decide +kernel
theorem d_Mo_eval_8 : decode b_Mo_eval 8 = .ok (.aload_n 0, 1) := by decide +kernel
theorem d_Mo_eval_9 : decode b_Mo_eval 9 = .ok (.getfield 133, 3) := by decide +kernel
theorem d_Mo_eval_12 : decode b_Mo_eval 12 = .ok (.ifCond .ne 5, 3) := by decide +kernel
theorem d_Mo_eval_15 : decode b_Mo_eval 15 = .ok (.iconst (-1), 1) := by decide +kernel
theorem d_Mo_eval_16 : decode b_Mo_eval 16 = .ok (.ireturn, 1) := by decide +kernel
theorem d_Mo_eval_17 : decode b_Mo_eval 17 = .ok (.iconst 0, 1) := by decide +kernel
theorem d_Mo_eval_18 : decode b_Mo_eval 18 = .ok (.istore_n 2, 1) := by decide +kernel
theorem d_Mo_eval_19 : decode b_Mo_eval 19 = .ok (.iload_n 2, 1) := by decide +kernel
theorem d_Mo_eval_20 : decode b_Mo_eval 20 = .ok (.aload_n 0, 1) := by decide +kernel
theorem d_Mo_eval_21 : decode b_Mo_eval 21 = .ok (.getfield 35, 3) := by decide +kernel
theorem d_Mo_eval_24 : decode b_Mo_eval 24 = .ok (.iconst 4, 1) := by decide +kernel
theorem d_Mo_eval_25 : decode b_Mo_eval 25 = .ok (.iaload, 1) := by decide +kernel
theorem d_Mo_eval_26 : decode b_Mo_eval 26 = .ok (.if_icmp .ge 30, 3) := by decide +kernel
theorem d_Mo_eval_29 : decode b_Mo_eval 29 = .ok (.aload_n 0, 1) := by decide +kernel
theorem d_Mo_eval_30 : decode b_Mo_eval 30 = .ok (.getfield 32, 3) := by decide +kernel
theorem d_Mo_eval_33 : decode b_Mo_eval 33 = .ok (.bipush 40, 2) := by decide +kernel
theorem d_Mo_eval_35 : decode b_Mo_eval 35 = .ok (.iload_n 1, 1) := by decide +kernel
theorem d_Mo_eval_36 : decode b_Mo_eval 36 = .ok (.imul, 1) := by decide +kernel
theorem d_Mo_eval_37 : decode b_Mo_eval 37 = .ok (.iload_n 2, 1) := by decide +kernel
theorem d_Mo_eval_38 : decode b_Mo_eval 38 = .ok (.iadd, 1) := by decide +kernel
theorem d_Mo_eval_39 : decode b_Mo_eval 39 = .ok (.aload_n 0, 1) := by decide +kernel
theorem d_Mo_eval_40 : decode b_Mo_eval 40 = .ok (.getfield 32, 3) := by decide +kernel
theorem d_Mo_eval_43 : decode b_Mo_eval 43 = .ok (.sipush 160, 3) := by decide +kernel
theorem d_Mo_eval_46 : decode b_Mo_eval 46 = .ok (.iload_n 2, 1) := by decide +kernel
theorem d_Mo_eval_47 : decode b_Mo_eval 47 = .ok (.iadd, 1) := by decide +kernel
theorem d_Mo_eval_48 : decode b_Mo_eval 48 = .ok (.iaload, 1) := by decide +kernel
theorem d_Mo_eval_49 : decode b_Mo_eval 49 = .ok (.iastore, 1) := by decide +kernel
theorem d_Mo_eval_50 : decode b_Mo_eval 50 = .ok (.iinc 2 1, 3) := by decide +kernel
theorem d_Mo_eval_53 : decode b_Mo_eval 53 = .ok (.goto (-34), 3) := by decide +kernel
theorem d_Mo_eval_56 : decode b_Mo_eval 56 = .ok (.aload_n 0, 1) := by decide +kernel
theorem d_Mo_eval_57 : decode b_Mo_eval 57 = .ok (.getfield 35, 3) := by decide +kernel
theorem d_Mo_eval_60 : decode b_Mo_eval 60 = .ok (.iload_n 1, 1) := by decide +kernel
theorem d_Mo_eval_61 : decode b_Mo_eval 61 = .ok (.aload_n 0, 1) := by decide +kernel
theorem d_Mo_eval_62 : decode b_Mo_eval 62 = .ok (.getfield 35, 3) := by decide +kernel
theorem d_Mo_eval_65 : decode b_Mo_eval 65 = .ok (.iconst 4, 1) := by decide +kernel
theorem d_Mo_eval_66 : decode b_Mo_eval 66 = .ok (.iaload, 1) := by decide +kernel
theorem d_Mo_eval_67 : decode b_Mo_eval 67 = .ok (.iastore, 1) := by decide +kernel
theorem d_Mo_eval_68 : decode b_Mo_eval 68 = .ok (.aload_n 0, 1) := by decide +kernel
theorem d_Mo_eval_69 : decode b_Mo_eval 69 = .ok (.getfield 35, 3) := by decide +kernel
theorem d_Mo_eval_72 : decode b_Mo_eval 72 = .ok (.iconst 4, 1) := by decide +kernel
theorem d_Mo_eval_73 : decode b_Mo_eval 73 = .ok (.iconst 0, 1) := by decide +kernel
theorem d_Mo_eval_74 : decode b_Mo_eval 74 = .ok (.iastore, 1) := by decide +kernel
theorem d_Mo_eval_75 : decode b_Mo_eval 75 = .ok (.aload_n 0, 1) := by decide +kernel
theorem d_Mo_eval_76 : decode b_Mo_eval 76 = .ok (.getfield 38, 3) := by decide +kernel
theorem d_Mo_eval_79 : decode b_Mo_eval 79 = .ok (.iload_n 1, 1) := by decide +kernel
theorem d_Mo_eval_80 : decode b_Mo_eval 80 = .ok (.iconst 1, 1) := by decide +kernel
theorem d_Mo_eval_81 : decode b_Mo_eval 81 = .ok (.bastore, 1) := by decide +kernel
theorem d_Mo_eval_82 : decode b_Mo_eval 82 = .ok (.aload_n 0, 1) := by decide +kernel
theorem d_Mo_eval_83 : decode b_Mo_eval 83 = .ok (.iload_n 1, 1) := by decide +kernel
theorem d_Mo_eval_84 : decode b_Mo_eval 84 = .ok (.invokevirtual 325, 3) := by decide +kernel
theorem d_Mo_eval_87 : decode b_Mo_eval 87 = .ok (.aload_n 0, 1) := by decide +kernel
theorem d_Mo_eval_88 : decode b_Mo_eval 88 = .ok (.getfield 42, 3) := by decide +kernel
theorem d_Mo_eval_91 : decode b_Mo_eval 91 = .ok (.iload_n 1, 1) := by decide +kernel
theorem d_Mo_eval_92 : decode b_Mo_eval 92 = .ok (.iaload, 1) := by decide +kernel
theorem d_Mo_eval_93 : decode b_Mo_eval 93 = .ok (.ireturn, 1) := by decide +kernel
theorem g_Mo_eval {X : WX} {d : Nat} (hd : 6 ≤ d) (e : Int) (M : Mem) (hl4 : 0 ≤ M 64 4 ∧ M 64 4 ≤ 40) (hz9 : 0 ≤ M 55 9 ∧ M 55 9 ≤ 1) (hgm : (0 ≤ e ∧ e < 4) ∧ M 55 9 = 1 → goM e (evT M e)) : MG X gt d KE KE y_Mo_eval b_Mo_eval 3 (some .int) [vr 55, vi e] M (fun r M' => ((0 ≤ e ∧ e < 4) ∧ M 55 9 = 1 → r = some (vi (M' 66 e)) ∧ goQ e (evT M e) M') ∧ (¬ ((0 ≤ e ∧ e < 4) ∧ M 55 9 = 1) → r = some (vi (-1)) ∧ M' = M)) := by
  refine MG_of_G (by decide) (Nat.le_of_ble_eq_true rfl) (Nat.le_refl _) (by decide) ?_
  show G X gt d KE KE y_Mo_eval b_Mo_eval 3 (some .int) _ 0 [(0, vr 55), (1, vi e)] [] KE M
  refine G_rngl (i := 1) rfl (fun hr1 => ?_)
  have loop : (0 ≤ e ∧ e < 4) → M 55 9 = 1 → ∀ (n : Nat) (k : Int), k + n = M 64 4 → 0 ≤ k → G X gt d KE KE y_Mo_eval b_Mo_eval 3 (some .int) (fun r M' => ((0 ≤ e ∧ e < 4) ∧ M 55 9 = 1 → r = some (vi (M' 66 e)) ∧ goQ e (evT M e) M') ∧ (¬ ((0 ≤ e ∧ e < 4) ∧ M 55 9 = 1) → r = some (vi (-1)) ∧ M' = M)) 19 [(2, vi k), (0, vr 55), (1, vi e)] [] KE (cpT M e k) := by
    intro he h559 n
    induction n with
    | zero =>
      intro k h1 h2
      obtain rfl : k = M 64 4 := by omega
      refine G_iload (i := 2) (n := 0) (len := 1) (Or.inl ⟨2, rfl, rfl, d_Mo_eval_19⟩) rfl (G_pc (pc' := 20) rfl ?_)
      refine G_aload (i := 0) (n := 1) (len := 1) (Or.inl ⟨0, rfl, rfl, d_Mo_eval_20⟩) rfl (by decide) (G_pc (pc' := 21) rfl ?_)
      refine G_get (o := 55) (c := 9) (k := 13) (v := 64) d_Mo_eval_21 fl_Mo_35 rfl (by decide) (by decide) rfl rfl (G_pc (pc' := 24) rfl ?_)
      refine G_iconst (n := 4) d_Mo_eval_24 (by decide) (G_pc (pc' := 25) rfl ?_)
      refine G_iaload (o := 64) (n := 5) (i := 4) (v := (cpT M e (M 64 4)) 64 4) d_Mo_eval_25 rfl ⟨by decide, by decide⟩ (by omega) (rdw (gt_arr rfl _) (by first | rfl | (repeat (first | rfl | exact mset_eq (by omega) | refine (mset_ne (by omega)).trans ?_ | refine (mset_ni (by omega)).trans ?_)))) (fun t3301 => G_pc (pc' := 26) rfl ?_)
      have t3301 := tok_i t3301
      rw [show (cpT M e (M 64 4)) 64 4 = M 64 4 from rfl]
      refine G_icmp_ge (tgt := 56) d_Mo_eval_26 (by decide) (fun h3302 => ?_) (fun h3302 => absurd h3302 (by omega))
      refine G_aload (i := 0) (n := 1) (len := 1) (Or.inl ⟨0, rfl, rfl, d_Mo_eval_56⟩) rfl (by decide) (G_pc (pc' := 57) rfl ?_)
      refine G_get (o := 55) (c := 9) (k := 13) (v := 64) d_Mo_eval_57 fl_Mo_35 rfl (by decide) (by decide) rfl rfl (G_pc (pc' := 60) rfl ?_)
      refine G_iload (i := 1) (n := 2) (len := 1) (Or.inl ⟨1, rfl, rfl, d_Mo_eval_60⟩) rfl (G_pc (pc' := 61) rfl ?_)
      refine G_aload (i := 0) (n := 1) (len := 1) (Or.inl ⟨0, rfl, rfl, d_Mo_eval_61⟩) rfl (by decide) (G_pc (pc' := 62) rfl ?_)
      refine G_get (o := 55) (c := 9) (k := 13) (v := 64) d_Mo_eval_62 fl_Mo_35 rfl (by decide) (by decide) rfl rfl (G_pc (pc' := 65) rfl ?_)
      refine G_iconst (n := 4) d_Mo_eval_65 (by decide) (G_pc (pc' := 66) rfl ?_)
      refine G_iaload (o := 64) (n := 5) (i := 4) (v := (cpT M e (M 64 4)) 64 4) d_Mo_eval_66 rfl ⟨by decide, by decide⟩ (by omega) (rdw (gt_arr rfl _) (by first | rfl | (repeat (first | rfl | exact mset_eq (by omega) | refine (mset_ne (by omega)).trans ?_ | refine (mset_ni (by omega)).trans ?_)))) (fun t3303 => G_pc (pc' := 67) rfl ?_)
      have t3303 := tok_i t3303
      rw [show (cpT M e (M 64 4)) 64 4 = M 64 4 from rfl]
      refine G_iastore (o := 64) (n := 5) (i := e) (x := M 64 4) d_Mo_eval_67 rfl ⟨by decide, by decide⟩ (by decide) (gt_arr rfl _) (by omega) (tokI (by omega)) (G_pc (pc' := 68) rfl ?_)
      refine G_aload (i := 0) (n := 1) (len := 1) (Or.inl ⟨0, rfl, rfl, d_Mo_eval_68⟩) rfl (by decide) (G_pc (pc' := 69) rfl ?_)
      refine G_get (o := 55) (c := 9) (k := 13) (v := 64) d_Mo_eval_69 fl_Mo_35 rfl (by decide) (by decide) rfl rfl (G_pc (pc' := 72) rfl ?_)
      refine G_iconst (n := 4) d_Mo_eval_72 (by decide) (G_pc (pc' := 73) rfl ?_)
      refine G_iconst (n := 0) d_Mo_eval_73 (by decide) (G_pc (pc' := 74) rfl ?_)
      refine G_iastore (o := 64) (n := 5) (i := 4) (x := 0) d_Mo_eval_74 rfl ⟨by decide, by decide⟩ (by decide) (gt_arr rfl _) (by omega) (tokI (by decide)) (G_pc (pc' := 75) rfl ?_)
      refine G_aload (i := 0) (n := 1) (len := 1) (Or.inl ⟨0, rfl, rfl, d_Mo_eval_75⟩) rfl (by decide) (G_pc (pc' := 76) rfl ?_)
      refine G_get (o := 55) (c := 9) (k := 14) (v := 65) d_Mo_eval_76 fl_Mo_38 rfl (by decide) (by decide) rfl rfl (G_pc (pc' := 79) rfl ?_)
      refine G_iload (i := 1) (n := 2) (len := 1) (Or.inl ⟨1, rfl, rfl, d_Mo_eval_79⟩) rfl (G_pc (pc' := 80) rfl ?_)
      refine G_iconst (n := 1) d_Mo_eval_80 (by decide) (G_pc (pc' := 81) rfl ?_)
      refine G_zastore (o := 65) (n := 4) (i := e) (x := 1) d_Mo_eval_81 rfl ⟨by decide, by decide⟩ (by decide) (gt_arr rfl _) (by omega) (tokZ (by decide)) (G_pc (pc' := 82) rfl ?_)
      refine G_aload (i := 0) (n := 1) (len := 1) (Or.inl ⟨0, rfl, rfl, d_Mo_eval_82⟩) rfl (by decide) (G_pc (pc' := 83) rfl ?_)
      refine G_iload (i := 1) (n := 2) (len := 1) (Or.inl ⟨1, rfl, rfl, d_Mo_eval_83⟩) rfl (G_pc (pc' := 84) rfl ?_)
      refine G_callV (K1 := KE) (d2 := 5) (o := 55) (cl := 9) (as := [vi e]) (rest := []) d_Mo_eval_84 mf_Mo_go ml_Mo_325 rfl rfl (by decide) rfl rfl (Nat.le_of_ble_eq_true rfl) (by omega) ⟨Nat.le_refl _, Nat.le_refl _⟩ (g_Mo_go (by omega) e (mset (mset (mset (cpT M e (M 64 4)) 64 e (M 64 4)) 64 4 0) 65 e 1) (by omega) (hgm ⟨by omega, by omega⟩)) (fun r3304 M3305 kq3306 q3306 => ?_)
      clear kq3306; obtain ⟨q3306a, hgo⟩ := q3306; subst r3304
      replace hgo : goQ e (evT M e) M3305 := hgo
      refine G_ps (pc' := 87) (st' := []) rfl rfl ?_
      refine G_aload (i := 0) (n := 1) (len := 1) (Or.inl ⟨0, rfl, rfl, d_Mo_eval_87⟩) rfl (by decide) (G_pc (pc' := 88) rfl ?_)
      refine G_get (o := 55) (c := 9) (k := 15) (v := 66) d_Mo_eval_88 fl_Mo_42 rfl (by decide) (by decide) rfl rfl (G_pc (pc' := 91) rfl ?_)
      refine G_iload (i := 1) (n := 2) (len := 1) (Or.inl ⟨1, rfl, rfl, d_Mo_eval_91⟩) rfl (G_pc (pc' := 92) rfl ?_)
      refine G_iaload (o := 66) (n := 4) (i := e) (v := M3305 66 e) d_Mo_eval_92 rfl ⟨by decide, by decide⟩ (by omega) (rdw (gt_arr rfl _) (by first | rfl | (repeat (first | rfl | exact mset_eq (by omega) | refine (mset_ne (by omega)).trans ?_ | refine (mset_ni (by omega)).trans ?_)))) (fun t3307 => G_pc (pc' := 93) rfl ?_)
      have t3307 := tok_i t3307
      refine G_iret d_Mo_eval_93 rfl (tokI (by omega)) rfl rfl ?_
      exact ⟨fun _ => ⟨rfl, hgo⟩, fun h => absurd (by omega) h⟩
    | succ n ih =>
      intro k h1 h2
      refine G_iload (i := 2) (n := 0) (len := 1) (Or.inl ⟨2, rfl, rfl, d_Mo_eval_19⟩) rfl (G_pc (pc' := 20) rfl ?_)
      refine G_aload (i := 0) (n := 1) (len := 1) (Or.inl ⟨0, rfl, rfl, d_Mo_eval_20⟩) rfl (by decide) (G_pc (pc' := 21) rfl ?_)
      refine G_get (o := 55) (c := 9) (k := 13) (v := 64) d_Mo_eval_21 fl_Mo_35 rfl (by decide) (by decide) rfl rfl (G_pc (pc' := 24) rfl ?_)
      refine G_iconst (n := 4) d_Mo_eval_24 (by decide) (G_pc (pc' := 25) rfl ?_)
      refine G_iaload (o := 64) (n := 5) (i := 4) (v := (cpT M e k) 64 4) d_Mo_eval_25 rfl ⟨by decide, by decide⟩ (by omega) (rdw (gt_arr rfl _) (by first | rfl | (repeat (first | rfl | exact mset_eq (by omega) | refine (mset_ne (by omega)).trans ?_ | refine (mset_ni (by omega)).trans ?_)))) (fun t3401 => G_pc (pc' := 26) rfl ?_)
      have t3401 := tok_i t3401
      rw [show (cpT M e k) 64 4 = M 64 4 from rfl]
      refine G_icmp_ge (tgt := 56) d_Mo_eval_26 (by decide) (fun h3402 => absurd h3402 (by omega)) (fun h3402 => G_pc (pc' := 29) rfl ?_)
      refine G_aload (i := 0) (n := 1) (len := 1) (Or.inl ⟨0, rfl, rfl, d_Mo_eval_29⟩) rfl (by decide) (G_pc (pc' := 30) rfl ?_)
      refine G_get (o := 55) (c := 9) (k := 12) (v := 63) d_Mo_eval_30 fl_Mo_32 rfl (by decide) (by decide) rfl rfl (G_pc (pc' := 33) rfl ?_)
      refine G_bipush (n := 40) d_Mo_eval_33 (by decide) (G_pc (pc' := 35) rfl ?_)
      refine G_iload (i := 1) (n := 2) (len := 1) (Or.inl ⟨1, rfl, rfl, d_Mo_eval_35⟩) rfl (G_pc (pc' := 36) rfl ?_)
      refine G_imul d_Mo_eval_36 (by omega) (G_pc (pc' := 37) rfl ?_)
      refine G_iload (i := 2) (n := 0) (len := 1) (Or.inl ⟨2, rfl, rfl, d_Mo_eval_37⟩) rfl (G_pc (pc' := 38) rfl ?_)
      refine G_iadd d_Mo_eval_38 (by omega) (G_pc (pc' := 39) rfl ?_)
      refine G_aload (i := 0) (n := 1) (len := 1) (Or.inl ⟨0, rfl, rfl, d_Mo_eval_39⟩) rfl (by decide) (G_pc (pc' := 40) rfl ?_)
      refine G_get (o := 55) (c := 9) (k := 12) (v := 63) d_Mo_eval_40 fl_Mo_32 rfl (by decide) (by decide) rfl rfl (G_pc (pc' := 43) rfl ?_)
      refine G_sipush (n := 160) d_Mo_eval_43 (by decide) (G_pc (pc' := 46) rfl ?_)
      refine G_iload (i := 2) (n := 0) (len := 1) (Or.inl ⟨2, rfl, rfl, d_Mo_eval_46⟩) rfl (G_pc (pc' := 47) rfl ?_)
      refine G_iadd d_Mo_eval_47 (by omega) (G_pc (pc' := 48) rfl ?_)
      refine G_iaload (o := 63) (n := 200) (i := 160 + k) (v := (cpT M e k) 63 (160 + k)) d_Mo_eval_48 rfl ⟨by decide, by decide⟩ (by omega) (rdw (gt_arr rfl _) (by first | rfl | (repeat (first | rfl | exact mset_eq (by omega) | refine (mset_ne (by omega)).trans ?_ | refine (mset_ni (by omega)).trans ?_)))) (fun t3403 => G_pc (pc' := 49) rfl ?_)
      have t3403 := tok_i t3403
      refine G_iastore (o := 63) (n := 200) (i := (40 * e) + k) (x := (cpT M e k) 63 (160 + k)) d_Mo_eval_49 rfl ⟨by decide, by decide⟩ (by decide) (gt_arr rfl _) (by omega) (tokI (by omega)) (G_pc (pc' := 50) rfl ?_)
      refine G_iinc (i := 2) (n := 0) (z := 1) (ls' := [(2, vi (k + 1)), (0, vr 55), (1, vi e)]) d_Mo_eval_50 rfl (by decide) (by omega) rfl (G_pc (pc' := 53) rfl ?_)
      refine G_goto (tgt := 19) d_Mo_eval_53 (by decide) ?_
      rw [cpT_s (by omega) (by unfold cpT; rw [if_neg (by omega)])]
      exact ih (k + 1) (by omega) (by omega)
  refine G_iload (i := 1) (n := 1) (len := 1) (Or.inl ⟨1, rfl, rfl, d_Mo_eval_0⟩) rfl (G_pc (pc' := 1) rfl ?_)
  refine G_iconst (n := 4) d_Mo_eval_1 (by decide) (G_pc (pc' := 2) rfl ?_)
  refine G_callS (K1 := KE) (d2 := 0) (as := [vi e, vi 4]) (rest := []) d_Mo_eval_2 mf_Mo_in ml_Mo_105 rfl rfl (Nat.le_of_ble_eq_true rfl) (by omega) ⟨Nat.le_refl _, Nat.le_refl _⟩ (g_Mo_in (by omega) e 4 _) (fun r1 M2 kq3 q3 => ?_)
  clear kq3; obtain ⟨q3a, q3b⟩ := q3; subst r1; subst M2
  refine G_ps (pc' := 5) (st' := [vi (b2i (inB e 4))]) rfl rfl ?_
  refine G_if_eq (tgt := 15) d_Mo_eval_5 (by decide) (fun h4 => ?_) (fun h4 => G_pc (pc' := 8) rfl ?_)
  · skip
    replace h4 := b2i_0.mp h4
    replace h4 := inB_f.mp h4
    refine G_iconst (n := (-1)) d_Mo_eval_15 (by decide) (G_pc (pc' := 16) rfl ?_)
    refine G_iret d_Mo_eval_16 rfl (tokI (by decide)) rfl rfl ?_
    first | (exfalso; omega) | exact ⟨fun h => absurd h (by omega), fun _ => ⟨rfl, rfl⟩⟩
  · skip
    replace h4 := b2i_nz.mp h4
    replace h4 := inB_t.mp h4
    refine G_aload (i := 0) (n := 0) (len := 1) (Or.inl ⟨0, rfl, rfl, d_Mo_eval_8⟩) rfl (by decide) (G_pc (pc' := 9) rfl ?_)
    refine G_get (o := 55) (c := 9) (k := 9) (v := M 55 9) d_Mo_eval_9 fl_Mo_133 rfl (by decide) (by decide) (rdw rfl (by first | rfl | (repeat (first | rfl | exact mset_eq (by omega) | refine (mset_ne (by omega)).trans ?_ | refine (mset_ni (by omega)).trans ?_)))) rfl (G_pc (pc' := 12) rfl ?_)
    refine G_if_ne (tgt := 17) d_Mo_eval_12 (by decide) (fun h5 => ?_) (fun h5 => G_pc (pc' := 15) rfl ?_)
    · skip
      refine G_iconst (n := 0) d_Mo_eval_17 (by decide) (G_pc (pc' := 18) rfl ?_)
      refine G_istore (i := 2) (len := 1) (ls' := [(2, vi 0), (0, vr 55), (1, vi e)]) (Or.inl ⟨2, rfl, rfl, d_Mo_eval_18⟩) (by decide) rfl (G_pc (pc' := 19) rfl ?_)
      have h9 := loop (by omega) (by omega) (M 64 4).toNat 0 (by omega) (by omega)
      rw [cpT_0] at h9
      exact h9
    · skip
      refine G_iconst (n := (-1)) d_Mo_eval_15 (by decide) (G_pc (pc' := 16) rfl ?_)
      refine G_iret d_Mo_eval_16 rfl (tokI (by decide)) rfl rfl ?_
      first | (exfalso; omega) | exact ⟨fun h => absurd h (by omega), fun _ => ⟨rfl, rfl⟩⟩

theorem d_Mo_again_0 : decode b_Mo_again 0 = .ok (.iload_n 1, 1) := by decide +kernel
theorem d_Mo_again_1 : decode b_Mo_again 1 = .ok (.iconst 4, 1) := by decide +kernel
theorem d_Mo_again_2 : decode b_Mo_again 2 = .ok (.invokestatic 105, 3) := by decide +kernel
theorem d_Mo_again_5 : decode b_Mo_again 5 = .ok (.ifCond .eq 19, 3) := by decide +kernel
theorem d_Mo_again_8 : decode b_Mo_again 8 = .ok (.aload_n 0, 1) := by decide +kernel
theorem d_Mo_again_9 : decode b_Mo_again 9 = .ok (.getfield 38, 3) := by decide +kernel
theorem d_Mo_again_12 : decode b_Mo_again 12 = .ok (.iload_n 1, 1) := by decide +kernel
theorem d_Mo_again_13 : decode b_Mo_again 13 = .ok (.baload, 1) := by decide +kernel
theorem d_Mo_again_14 : decode b_Mo_again 14 = .ok (.ifCond .eq 10, 3) := by decide +kernel
theorem d_Mo_again_17 : decode b_Mo_again 17 = .ok (.aload_n 0, 1) := by decide +kernel
theorem d_Mo_again_18 : decode b_Mo_again 18 = .ok (.getfield 133, 3) := by decide +kernel
theorem d_Mo_again_21 : decode b_Mo_again 21 = .ok (.ifCond .ne 5, 3) := by decide +kernel
theorem d_Mo_again_24 : decode b_Mo_again 24 = .ok (.iconst (-1), 1) := by decide +kernel
theorem d_Mo_again_25 : decode b_Mo_again 25 = .ok (.ireturn, 1) := by decide +kernel
theorem d_Mo_again_26 : decode b_Mo_again 26 = .ok (.aload_n 0, 1) := by decide +kernel
theorem d_Mo_again_27 : decode b_Mo_again 27 = .ok (.iload_n 1, 1) := by decide +kernel
theorem d_Mo_again_28 : decode b_Mo_again 28 = .ok (.invokevirtual 325, 3) := by decide +kernel
theorem d_Mo_again_31 : decode b_Mo_again 31 = .ok (.aload_n 0, 1) := by decide +kernel
theorem d_Mo_again_32 : decode b_Mo_again 32 = .ok (.getfield 42, 3) := by decide +kernel
theorem d_Mo_again_35 : decode b_Mo_again 35 = .ok (.iload_n 1, 1) := by decide +kernel
theorem d_Mo_again_36 : decode b_Mo_again 36 = .ok (.iaload, 1) := by decide +kernel
theorem d_Mo_again_37 : decode b_Mo_again 37 = .ok (.ireturn, 1) := by decide +kernel
theorem g_Mo_again {X : WX} {d : Nat} (hd : 6 ≤ d) (e : Int) (M : Mem) (hz9 : 0 ≤ M 55 9 ∧ M 55 9 ≤ 1) (hgm : (0 ≤ e ∧ e < 4) ∧ ¬ M 65 e = 0 ∧ M 55 9 = 1 → goM e M) : MG X gt d KE KE y_Mo_again b_Mo_again 2 (some .int) [vr 55, vi e] M (fun r M' => ((0 ≤ e ∧ e < 4) ∧ ¬ M 65 e = 0 ∧ M 55 9 = 1 → r = some (vi (M' 66 e)) ∧ goQ e M M') ∧ (¬ ((0 ≤ e ∧ e < 4) ∧ ¬ M 65 e = 0 ∧ M 55 9 = 1) → r = some (vi (-1)) ∧ M' = M)) := by
  refine MG_of_G (by decide) (Nat.le_of_ble_eq_true rfl) (Nat.le_refl _) (by decide) ?_
  show G X gt d KE KE y_Mo_again b_Mo_again 2 (some .int) _ 0 [(0, vr 55), (1, vi e)] [] KE M
  refine G_rngl (i := 1) rfl (fun hr1 => ?_)
  refine G_iload (i := 1) (n := 1) (len := 1) (Or.inl ⟨1, rfl, rfl, d_Mo_again_0⟩) rfl (G_pc (pc' := 1) rfl ?_)
  refine G_iconst (n := 4) d_Mo_again_1 (by decide) (G_pc (pc' := 2) rfl ?_)
  refine G_callS (K1 := KE) (d2 := 0) (as := [vi e, vi 4]) (rest := []) d_Mo_again_2 mf_Mo_in ml_Mo_105 rfl rfl (Nat.le_of_ble_eq_true rfl) (by omega) ⟨Nat.le_refl _, Nat.le_refl _⟩ (g_Mo_in (by omega) e 4 _) (fun r1 M2 kq3 q3 => ?_)
  clear kq3; obtain ⟨q3a, q3b⟩ := q3; subst r1; subst M2
  refine G_ps (pc' := 5) (st' := [vi (b2i (inB e 4))]) rfl rfl ?_
  refine G_if_eq (tgt := 24) d_Mo_again_5 (by decide) (fun h4 => ?_) (fun h4 => G_pc (pc' := 8) rfl ?_)
  · skip
    replace h4 := b2i_0.mp h4
    replace h4 := inB_f.mp h4
    refine G_iconst (n := (-1)) d_Mo_again_24 (by decide) (G_pc (pc' := 25) rfl ?_)
    refine G_iret d_Mo_again_25 rfl (tokI (by decide)) rfl rfl ?_
    first | (exfalso; omega) | exact ⟨fun h => absurd h (by omega), fun _ => ⟨rfl, rfl⟩⟩
  · skip
    replace h4 := b2i_nz.mp h4
    replace h4 := inB_t.mp h4
    refine G_aload (i := 0) (n := 0) (len := 1) (Or.inl ⟨0, rfl, rfl, d_Mo_again_8⟩) rfl (by decide) (G_pc (pc' := 9) rfl ?_)
    refine G_get (o := 55) (c := 9) (k := 14) (v := 65) d_Mo_again_9 fl_Mo_38 rfl (by decide) (by decide) rfl rfl (G_pc (pc' := 12) rfl ?_)
    refine G_iload (i := 1) (n := 1) (len := 1) (Or.inl ⟨1, rfl, rfl, d_Mo_again_12⟩) rfl (G_pc (pc' := 13) rfl ?_)
    refine G_zaload (o := 65) (n := 4) (i := e) (v := M 65 e) d_Mo_again_13 rfl ⟨by decide, by decide⟩ (by omega) (rd_arr rfl) (fun t5 => G_pc (pc' := 14) rfl ?_)
    have t5 := tok_z t5
    refine G_if_eq (tgt := 24) d_Mo_again_14 (by decide) (fun h6 => ?_) (fun h6 => G_pc (pc' := 17) rfl ?_)
    · skip
      refine G_iconst (n := (-1)) d_Mo_again_24 (by decide) (G_pc (pc' := 25) rfl ?_)
      refine G_iret d_Mo_again_25 rfl (tokI (by decide)) rfl rfl ?_
      first | (exfalso; omega) | exact ⟨fun h => absurd h (by omega), fun _ => ⟨rfl, rfl⟩⟩
    · skip
      refine G_aload (i := 0) (n := 0) (len := 1) (Or.inl ⟨0, rfl, rfl, d_Mo_again_17⟩) rfl (by decide) (G_pc (pc' := 18) rfl ?_)
      refine G_get (o := 55) (c := 9) (k := 9) (v := M 55 9) d_Mo_again_18 fl_Mo_133 rfl (by decide) (by decide) rfl rfl (G_pc (pc' := 21) rfl ?_)
      refine G_if_ne (tgt := 26) d_Mo_again_21 (by decide) (fun h7 => ?_) (fun h7 => G_pc (pc' := 24) rfl ?_)
      · skip
        refine G_aload (i := 0) (n := 0) (len := 1) (Or.inl ⟨0, rfl, rfl, d_Mo_again_26⟩) rfl (by decide) (G_pc (pc' := 27) rfl ?_)
        refine G_iload (i := 1) (n := 1) (len := 1) (Or.inl ⟨1, rfl, rfl, d_Mo_again_27⟩) rfl (G_pc (pc' := 28) rfl ?_)
        refine G_callV (K1 := KE) (d2 := 5) (o := 55) (cl := 9) (as := [vi e]) (rest := []) d_Mo_again_28 mf_Mo_go ml_Mo_325 rfl rfl (by decide) rfl rfl (Nat.le_of_ble_eq_true rfl) (by omega) ⟨Nat.le_refl _, Nat.le_refl _⟩ (g_Mo_go (by omega) e M (by omega) (hgm ⟨by omega, by omega, by omega⟩)) (fun r8 M9 kq10 q10 => ?_)
        clear kq10; obtain ⟨q10a, hgo⟩ := q10; subst r8
        replace hgo : goQ e (M) M9 := hgo
        refine G_ps (pc' := 31) (st' := []) rfl rfl ?_
        refine G_aload (i := 0) (n := 0) (len := 1) (Or.inl ⟨0, rfl, rfl, d_Mo_again_31⟩) rfl (by decide) (G_pc (pc' := 32) rfl ?_)
        refine G_get (o := 55) (c := 9) (k := 15) (v := 66) d_Mo_again_32 fl_Mo_42 rfl (by decide) (by decide) rfl rfl (G_pc (pc' := 35) rfl ?_)
        refine G_iload (i := 1) (n := 1) (len := 1) (Or.inl ⟨1, rfl, rfl, d_Mo_again_35⟩) rfl (G_pc (pc' := 36) rfl ?_)
        refine G_iaload (o := 66) (n := 4) (i := e) (v := M9 66 e) d_Mo_again_36 rfl ⟨by decide, by decide⟩ (by omega) (rd_arr rfl) (fun t11 => G_pc (pc' := 37) rfl ?_)
        have t11 := tok_i t11
        refine G_iret d_Mo_again_37 rfl (tokI (by omega)) rfl rfl ?_
        exact ⟨fun _ => ⟨rfl, hgo⟩, fun h => absurd (by omega) h⟩
      · skip
        refine G_iconst (n := (-1)) d_Mo_again_24 (by decide) (G_pc (pc' := 25) rfl ?_)
        refine G_iret d_Mo_again_25 rfl (tokI (by decide)) rfl rfl ?_
        first | (exfalso; omega) | exact ⟨fun h => absurd h (by omega), fun _ => ⟨rfl, rfl⟩⟩

