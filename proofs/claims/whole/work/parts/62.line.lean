def kbD (M : Mem) (p : Int) : Int := o_iand (o_ishr (M 10 (p / 28)) (p % 28)) 1
def learnD (M : Mem) (p : Int) : Mem := mset M 10 (p / 28) (o_ior (M 10 (p / 28)) (o_ishl 1 (p % 28)))
def hasA (M : Mem) (p : Int) : Prop := ∃ k, 0 ≤ k ∧ k < M 9 3 ∧ M 11 k = p
def askD (M : Mem) (p : Int) : Mem := mset (mset (mset (mset M 11 (M 9 3) p) 12 (M 9 3) (M 9 4)) 9 3 (M 9 3 + 1)) 9 4 (M 9 4 + 1)
theorem d_Li_switchTo_0 : decode b_Li_switchTo 0 = .ok (.aload_n 0, 1) := by decide +kernel
theorem d_Li_switchTo_1 : decode b_Li_switchTo 1 = .ok (.getfield 21, 3) := by decide +kernel
theorem d_Li_switchTo_4 : decode b_Li_switchTo 4 = .ok (.iload_n 1, 1) := by decide +kernel
theorem d_Li_switchTo_5 : decode b_Li_switchTo 5 = .ok (.if_icmp .eq 5, 3) := by decide +kernel
theorem d_Li_switchTo_8 : decode b_Li_switchTo 8 = .ok (.iconst 0, 1) := by decide +kernel
theorem d_Li_switchTo_9 : decode b_Li_switchTo 9 = .ok (.ireturn, 1) := by decide +kernel
theorem d_Li_switchTo_10 : decode b_Li_switchTo 10 = .ok (.aload_n 0, 1) := by decide +kernel
theorem d_Li_switchTo_11 : decode b_Li_switchTo 11 = .ok (.iload_n 1, 1) := by decide +kernel
theorem d_Li_switchTo_12 : decode b_Li_switchTo 12 = .ok (.ifCond .ne 7, 3) := by decide +kernel
theorem d_Li_switchTo_15 : decode b_Li_switchTo 15 = .ok (.iconst 1, 1) := by decide +kernel
theorem d_Li_switchTo_16 : decode b_Li_switchTo 16 = .ok (.goto 4, 3) := by decide +kernel
theorem d_Li_switchTo_19 : decode b_Li_switchTo 19 = .ok (.iconst 0, 1) := by decide +kernel
theorem d_Li_switchTo_20 : decode b_Li_switchTo 20 = .ok (.putfield 21, 3) := by decide +kernel
theorem d_Li_switchTo_23 : decode b_Li_switchTo 23 = .ok (.iconst 1, 1) := by decide +kernel
theorem d_Li_switchTo_24 : decode b_Li_switchTo 24 = .ok (.ireturn, 1) := by decide +kernel
theorem g_Li_switchTo {X : WX} {d : Nat} (hd : 0 ≤ d) (on : Int) (M : Mem) (hon : 0 ≤ on ∧ on ≤ 1) : MG X gt d KE KE y_Li_switchTo b_Li_switchTo 2 (some .boolean) [vr 9, vi on] M (fun r M' => (M 9 5 = on → r = some (vi 1) ∧ M' = mset M 9 5 (1 - on)) ∧ (¬ M 9 5 = on → r = some (vi 0) ∧ M' = M)) := by
  refine MG_of_G (by decide) (Nat.le_of_ble_eq_true rfl) (Nat.le_refl _) (by decide) ?_
  show G X gt d KE KE y_Li_switchTo b_Li_switchTo 2 (some .boolean) _ 0 [(0, vr 9), (1, vi on)] [] KE M
  refine G_rngl (i := 1) rfl (fun hr1 => ?_)
  refine G_aload (i := 0) (n := 0) (len := 1) (Or.inl ⟨0, rfl, rfl, d_Li_switchTo_0⟩) rfl (by decide) (G_pc (pc' := 1) rfl ?_)
  refine G_get (o := 9) (c := 3) (k := 5) (v := M 9 5) d_Li_switchTo_1 fl_Li_21 rfl (by decide) (by decide) rfl rfl (G_pc (pc' := 4) rfl ?_)
  refine G_mem (fun hmo _ => ?_)
  have t1 := tok_z (Eq.mp (congrArg (tok .boolean) (show rd gt M 9 ((5 : Nat) : Int) = M 9 5 from rfl)) (hmo 9 (by decide) (by decide) 3 rfl 5 (by decide)))
  clear hmo
  refine G_iload (i := 1) (n := 1) (len := 1) (Or.inl ⟨1, rfl, rfl, d_Li_switchTo_4⟩) rfl (G_pc (pc' := 5) rfl ?_)
  refine G_icmp_eq (tgt := 10) d_Li_switchTo_5 (by decide) (fun h2 => ?_) (fun h2 => G_pc (pc' := 8) rfl ?_)
  · skip
    refine G_aload (i := 0) (n := 0) (len := 1) (Or.inl ⟨0, rfl, rfl, d_Li_switchTo_10⟩) rfl (by decide) (G_pc (pc' := 11) rfl ?_)
    refine G_iload (i := 1) (n := 1) (len := 1) (Or.inl ⟨1, rfl, rfl, d_Li_switchTo_11⟩) rfl (G_pc (pc' := 12) rfl ?_)
    refine G_if_ne (tgt := 19) d_Li_switchTo_12 (by decide) (fun h3 => ?_) (fun h3 => G_pc (pc' := 15) rfl ?_)
    · skip
      refine G_iconst (n := 0) d_Li_switchTo_19 (by decide) (G_pc (pc' := 20) rfl ?_)
      refine G_putL (o := 9) (c := 3) (k := 5) (ki := 5) (x := 0) d_Li_switchTo_20 fl_Li_21 rfl rfl (by decide) (by decide) (by decide) rfl rfl (tokZ (by decide)) rfl (G_pc (pc' := 23) rfl ?_)
      refine G_iconst (n := 1) d_Li_switchTo_23 (by decide) (G_pc (pc' := 24) rfl ?_)
      refine G_iret d_Li_switchTo_24 rfl (tokZ (by decide)) rfl rfl ?_
      exact ⟨fun _ => ⟨rfl, by congr 1; omega⟩, fun h => absurd (by omega) h⟩
    · skip
      refine G_iconst (n := 1) d_Li_switchTo_15 (by decide) (G_pc (pc' := 16) rfl ?_)
      refine G_goto (tgt := 20) d_Li_switchTo_16 (by decide) ?_
      refine G_putL (o := 9) (c := 3) (k := 5) (ki := 5) (x := 1) d_Li_switchTo_20 fl_Li_21 rfl rfl (by decide) (by decide) (by decide) rfl rfl (tokZ (by decide)) rfl (G_pc (pc' := 23) rfl ?_)
      refine G_iconst (n := 1) d_Li_switchTo_23 (by decide) (G_pc (pc' := 24) rfl ?_)
      refine G_iret d_Li_switchTo_24 rfl (tokZ (by decide)) rfl rfl ?_
      exact ⟨fun _ => ⟨rfl, by congr 1; omega⟩, fun h => absurd (by omega) h⟩
  · skip
    refine G_iconst (n := 0) d_Li_switchTo_8 (by decide) (G_pc (pc' := 9) rfl ?_)
    refine G_iret d_Li_switchTo_9 rfl (tokZ (by decide)) rfl rfl ?_
    exact ⟨fun h => absurd h (by omega), fun _ => ⟨rfl, rfl⟩⟩

theorem d_Li_knows_0 : decode b_Li_knows 0 = .ok (.aload_n 0, 1) := by decide +kernel
theorem d_Li_knows_1 : decode b_Li_knows 1 = .ok (.getfield 9, 3) := by decide +kernel
theorem d_Li_knows_4 : decode b_Li_knows 4 = .ok (.iload_n 1, 1) := by decide +kernel
theorem d_Li_knows_5 : decode b_Li_knows 5 = .ok (.bipush 28, 2) := by decide +kernel
theorem d_Li_knows_7 : decode b_Li_knows 7 = .ok (.idiv, 1) := by decide +kernel
theorem d_Li_knows_8 : decode b_Li_knows 8 = .ok (.iaload, 1) := by decide +kernel
theorem d_Li_knows_9 : decode b_Li_knows 9 = .ok (.iload_n 1, 1) := by decide +kernel
theorem d_Li_knows_10 : decode b_Li_knows 10 = .ok (.bipush 28, 2) := by decide +kernel
theorem d_Li_knows_12 : decode b_Li_knows 12 = .ok (.irem, 1) := by decide +kernel
theorem d_Li_knows_13 : decode b_Li_knows 13 = .ok (.ishr, 1) := by decide +kernel
theorem d_Li_knows_14 : decode b_Li_knows 14 = .ok (.iconst 1, 1) := by decide +kernel
theorem d_Li_knows_15 : decode b_Li_knows 15 = .ok (.iand, 1) := by decide +kernel
theorem d_Li_knows_16 : decode b_Li_knows 16 = .ok (.iconst 1, 1) := by decide +kernel
theorem d_Li_knows_17 : decode b_Li_knows 17 = .ok (.if_icmp .ne 7, 3) := by decide +kernel
theorem d_Li_knows_20 : decode b_Li_knows 20 = .ok (.iconst 1, 1) := by decide +kernel
theorem d_Li_knows_21 : decode b_Li_knows 21 = .ok (.goto 4, 3) := by decide +kernel
theorem d_Li_knows_24 : decode b_Li_knows 24 = .ok (.iconst 0, 1) := by decide +kernel
theorem d_Li_knows_25 : decode b_Li_knows 25 = .ok (.ireturn, 1) := by decide +kernel
theorem g_Li_knows {X : WX} {d : Nat} (hd : 0 ≤ d) (p : Int) (M : Mem) (hp : 0 ≤ p ∧ p < 364) : MG X gt d KE KE y_Li_knows b_Li_knows 2 (some .boolean) [vr 9, vi p] M (fun r M' => r = some (vi (b2i (decide (kbD M p = 1)))) ∧ M' = M) := by
  refine MG_of_G (by decide) (Nat.le_of_ble_eq_true rfl) (Nat.le_refl _) (by decide) ?_
  show G X gt d KE KE y_Li_knows b_Li_knows 2 (some .boolean) _ 0 [(0, vr 9), (1, vi p)] [] KE M
  refine G_rngl (i := 1) rfl (fun hr1 => ?_)
  refine G_aload (i := 0) (n := 0) (len := 1) (Or.inl ⟨0, rfl, rfl, d_Li_knows_0⟩) rfl (by decide) (G_pc (pc' := 1) rfl ?_)
  refine G_get (o := 9) (c := 3) (k := 0) (v := 10) d_Li_knows_1 fl_Li_9 rfl (by decide) (by decide) rfl rfl (G_pc (pc' := 4) rfl ?_)
  refine G_iload (i := 1) (n := 1) (len := 1) (Or.inl ⟨1, rfl, rfl, d_Li_knows_4⟩) rfl (G_pc (pc' := 5) rfl ?_)
  refine G_bipush (n := 28) d_Li_knows_5 (by decide) (G_pc (pc' := 7) rfl ?_)
  refine G_idiv d_Li_knows_7 (by decide) (G_pc (pc' := 8) rfl ?_)
  rw [show o_idiv p 28 = p / 28 from idiv_e (by omega) (by omega)]
  refine G_iaload (o := 10) (n := 13) (i := p / 28) (v := M 10 (p / 28)) d_Li_knows_8 rfl ⟨by decide, by decide⟩ (by omega) (rd_arr rfl) (fun t1 => G_pc (pc' := 9) rfl ?_)
  have t1 := tok_i t1
  refine G_iload (i := 1) (n := 1) (len := 1) (Or.inl ⟨1, rfl, rfl, d_Li_knows_9⟩) rfl (G_pc (pc' := 10) rfl ?_)
  refine G_bipush (n := 28) d_Li_knows_10 (by decide) (G_pc (pc' := 12) rfl ?_)
  refine G_irem d_Li_knows_12 (by decide) (G_pc (pc' := 13) rfl ?_)
  rw [show o_irem p 28 = p % 28 from irem_e (by omega) (by omega)]
  refine G_ishr d_Li_knows_13 (G_pc (pc' := 14) rfl ?_)
  refine G_iconst (n := 1) d_Li_knows_14 (by decide) (G_pc (pc' := 15) rfl ?_)
  refine G_iand d_Li_knows_15 (G_pc (pc' := 16) rfl ?_)
  refine G_iconst (n := 1) d_Li_knows_16 (by decide) (G_pc (pc' := 17) rfl ?_)
  refine G_icmp_ne (tgt := 24) d_Li_knows_17 (by decide) (fun h2 => ?_) (fun h2 => G_pc (pc' := 20) rfl ?_)
  · skip
    refine G_iconst (n := 0) d_Li_knows_24 (by decide) (G_pc (pc' := 25) rfl ?_)
    refine G_iret d_Li_knows_25 rfl (tokZ (by decide)) rfl rfl ?_
    exact ret_f (decide_eq_false (by unfold kbD; assumption)) rfl
  · skip
    refine G_iconst (n := 1) d_Li_knows_20 (by decide) (G_pc (pc' := 21) rfl ?_)
    refine G_goto (tgt := 25) d_Li_knows_21 (by decide) ?_
    refine G_iret d_Li_knows_25 rfl (tokZ (by decide)) rfl rfl ?_
    exact ret_t (decide_eq_true (by unfold kbD; assumption)) rfl

theorem d_Li_learn_0 : decode b_Li_learn 0 = .ok (.aload_n 0, 1) := by decide +kernel
theorem d_Li_learn_1 : decode b_Li_learn 1 = .ok (.getfield 9, 3) := by decide +kernel
theorem d_Li_learn_4 : decode b_Li_learn 4 = .ok (.iload_n 1, 1) := by decide +kernel
theorem d_Li_learn_5 : decode b_Li_learn 5 = .ok (.bipush 28, 2) := by decide +kernel
theorem d_Li_learn_7 : decode b_Li_learn 7 = .ok (.idiv, 1) := by decide +kernel
theorem d_Li_learn_8 : decode b_Li_learn 8 = .ok (.dup2, 1) := by decide +kernel
theorem d_Li_learn_9 : decode b_Li_learn 9 = .ok (.iaload, 1) := by decide +kernel
theorem d_Li_learn_10 : decode b_Li_learn 10 = .ok (.iconst 1, 1) := by decide +kernel
theorem d_Li_learn_11 : decode b_Li_learn 11 = .ok (.iload_n 1, 1) := by decide +kernel
theorem d_Li_learn_12 : decode b_Li_learn 12 = .ok (.bipush 28, 2) := by decide +kernel
theorem d_Li_learn_14 : decode b_Li_learn 14 = .ok (.irem, 1) := by decide +kernel
theorem d_Li_learn_15 : decode b_Li_learn 15 = .ok (.ishl, 1) := by decide +kernel
theorem d_Li_learn_16 : decode b_Li_learn 16 = .ok (.ior, 1) := by decide +kernel
theorem d_Li_learn_17 : decode b_Li_learn 17 = .ok (.iastore, 1) := by decide +kernel
theorem d_Li_learn_18 : decode b_Li_learn 18 = .ok (.return_, 1) := by decide +kernel
theorem g_Li_learn {X : WX} {d : Nat} (hd : 0 ≤ d) (p : Int) (M : Mem) (hp : 0 ≤ p ∧ p < 364) : MG X gt d KE KE y_Li_learn b_Li_learn 2 none [vr 9, vi p] M (fun r M' => r = none ∧ M' = learnD M p) := by
  refine MG_of_G (by decide) (Nat.le_of_ble_eq_true rfl) (Nat.le_refl _) (by decide) ?_
  show G X gt d KE KE y_Li_learn b_Li_learn 2 none _ 0 [(0, vr 9), (1, vi p)] [] KE M
  refine G_rngl (i := 1) rfl (fun hr1 => ?_)
  refine G_aload (i := 0) (n := 0) (len := 1) (Or.inl ⟨0, rfl, rfl, d_Li_learn_0⟩) rfl (by decide) (G_pc (pc' := 1) rfl ?_)
  refine G_get (o := 9) (c := 3) (k := 0) (v := 10) d_Li_learn_1 fl_Li_9 rfl (by decide) (by decide) rfl rfl (G_pc (pc' := 4) rfl ?_)
  refine G_iload (i := 1) (n := 1) (len := 1) (Or.inl ⟨1, rfl, rfl, d_Li_learn_4⟩) rfl (G_pc (pc' := 5) rfl ?_)
  refine G_bipush (n := 28) d_Li_learn_5 (by decide) (G_pc (pc' := 7) rfl ?_)
  refine G_idiv d_Li_learn_7 (by decide) (G_pc (pc' := 8) rfl ?_)
  rw [show o_idiv p 28 = p / 28 from idiv_e (by omega) (by omega)]
  refine G_dup2 d_Li_learn_8 (fun _ h => by cases h) (fun _ h => by cases h) (G_pc (pc' := 9) rfl ?_)
  refine G_iaload (o := 10) (n := 13) (i := p / 28) (v := M 10 (p / 28)) d_Li_learn_9 rfl ⟨by decide, by decide⟩ (by first | omega | exact i32_rng _) (rd_arr rfl) (fun t1 => G_pc (pc' := 10) rfl ?_)
  have t1 := tok_i t1
  refine G_iconst (n := 1) d_Li_learn_10 (by decide) (G_pc (pc' := 11) rfl ?_)
  refine G_iload (i := 1) (n := 1) (len := 1) (Or.inl ⟨1, rfl, rfl, d_Li_learn_11⟩) rfl (G_pc (pc' := 12) rfl ?_)
  refine G_bipush (n := 28) d_Li_learn_12 (by decide) (G_pc (pc' := 14) rfl ?_)
  refine G_irem d_Li_learn_14 (by decide) (G_pc (pc' := 15) rfl ?_)
  rw [show o_irem p 28 = p % 28 from irem_e (by omega) (by omega)]
  refine G_ishl d_Li_learn_15 (G_pc (pc' := 16) rfl ?_)
  refine G_ior d_Li_learn_16 (G_pc (pc' := 17) rfl ?_)
  refine G_iastore (o := 10) (n := 13) (i := p / 28) (x := o_ior (M 10 (p / 28)) (o_ishl 1 (p % 28))) d_Li_learn_17 rfl ⟨by decide, by decide⟩ (by decide) (gt_arr rfl _) (by first | omega | exact i32_rng _) (tokI (by first | omega | exact i32_rng _)) (G_pc (pc' := 18) rfl ?_)
  refine G_vret d_Li_learn_18 rfl rfl ?_
  exact ⟨rfl, rfl⟩

theorem d_Li_ask_0 : decode b_Li_ask 0 = .ok (.aload_n 0, 1) := by decide +kernel
theorem d_Li_ask_1 : decode b_Li_ask 1 = .ok (.getfield 21, 3) := by decide +kernel
theorem d_Li_ask_4 : decode b_Li_ask 4 = .ok (.ifCond .eq 5, 3) := by decide +kernel
theorem d_Li_ask_7 : decode b_Li_ask 7 = .ok (.iconst 0, 1) := by decide +kernel
theorem d_Li_ask_8 : decode b_Li_ask 8 = .ok (.ireturn, 1) := by decide +kernel
theorem d_Li_ask_9 : decode b_Li_ask 9 = .ok (.iconst 0, 1) := by decide +kernel
theorem d_Li_ask_10 : decode b_Li_ask 10 = .ok (.istore_n 2, 1) := by decide +kernel
theorem d_Li_ask_11 : decode b_Li_ask 11 = .ok (.iload_n 2, 1) := by decide +kernel
theorem d_Li_ask_12 : decode b_Li_ask 12 = .ok (.aload_n 0, 1) := by decide +kernel
theorem d_Li_ask_13 : decode b_Li_ask 13 = .ok (.getfield 25, 3) := by decide +kernel
theorem d_Li_ask_16 : decode b_Li_ask 16 = .ok (.if_icmp .ge 21, 3) := by decide +kernel
theorem d_Li_ask_19 : decode b_Li_ask 19 = .ok (.aload_n 0, 1) := by decide +kernel
theorem d_Li_ask_20 : decode b_Li_ask 20 = .ok (.getfield 15, 3) := by decide +kernel
theorem d_Li_ask_23 : decode b_Li_ask 23 = .ok (.iload_n 2, 1) := by decide +kernel
theorem d_Li_ask_24 : decode b_Li_ask 24 = .ok (.iaload, 1) := by decide +kernel
theorem d_Li_ask_25 : decode b_Li_ask 25 = .ok (.iload_n 1, 1) := by decide +kernel
theorem d_Li_ask_26 : decode b_Li_ask 26 = .ok (.if_icmp .ne 5, 3) := by decide +kernel
theorem d_Li_ask_29 : decode b_Li_ask 29 = .ok (.iconst 1, 1) := by decide +kernel
theorem d_Li_ask_30 : decode b_Li_ask 30 = .ok (.ireturn, 1) := by decide +kernel
theorem d_Li_ask_31 : decode b_Li_ask 31 = .ok (.iinc 2 1, 3) := by decide +kernel
theorem d_Li_ask_34 : decode b_Li_ask 34 = .ok (.goto (-23), 3) := by decide +kernel
theorem d_Li_ask_37 : decode b_Li_ask 37 = .ok (.aload_n 0, 1) := by decide +kernel
theorem d_Li_ask_38 : decode b_Li_ask 38 = .ok (.getfield 25, 3) := by decide +kernel
theorem d_Li_ask_41 : decode b_Li_ask 41 = .ok (.sipush 364, 3) := by decide +kernel
theorem d_Li_ask_44 : decode b_Li_ask 44 = .ok (.if_icmp .ge 46, 3) := by decide +kernel
theorem d_Li_ask_47 : decode b_Li_ask 47 = .ok (.aload_n 0, 1) := by decide +kernel
theorem d_Li_ask_48 : decode b_Li_ask 48 = .ok (.getfield 15, 3) := by decide +kernel
theorem d_Li_ask_51 : decode b_Li_ask 51 = .ok (.aload_n 0, 1) := by decide +kernel
theorem d_Li_ask_52 : decode b_Li_ask 52 = .ok (.getfield 25, 3) := by decide +kernel
theorem d_Li_ask_55 : decode b_Li_ask 55 = .ok (.iload_n 1, 1) := by decide +kernel
theorem d_Li_ask_56 : decode b_Li_ask 56 = .ok (.iastore, 1) := by decide +kernel
theorem d_Li_ask_57 : decode b_Li_ask 57 = .ok (.aload_n 0, 1) := by decide +kernel
theorem d_Li_ask_58 : decode b_Li_ask 58 = .ok (.getfield 18, 3) := by decide +kernel
theorem d_Li_ask_61 : decode b_Li_ask 61 = .ok (.aload_n 0, 1) := by decide +kernel
theorem d_Li_ask_62 : decode b_Li_ask 62 = .ok (.getfield 25, 3) := by decide +kernel
theorem d_Li_ask_65 : decode b_Li_ask 65 = .ok (.aload_n 0, 1) := by decide +kernel
theorem d_Li_ask_66 : decode b_Li_ask 66 = .ok (.getfield 29, 3) := by decide +kernel
theorem d_Li_ask_69 : decode b_Li_ask 69 = .ok (.iastore, 1) := by decide +kernel
theorem d_Li_ask_70 : decode b_Li_ask 70 = .ok (.aload_n 0, 1) := by decide +kernel
theorem d_Li_ask_71 : decode b_Li_ask 71 = .ok (.dup, 1) := by decide +kernel
theorem d_Li_ask_72 : decode b_Li_ask 72 = .ok (.getfield 25, 3) := by decide +kernel
theorem d_Li_ask_75 : decode b_Li_ask 75 = .ok (.iconst 1, 1) := by decide +kernel
theorem d_Li_ask_76 : decode b_Li_ask 76 = .ok (.iadd, 1) := by decide +kernel
theorem d_Li_ask_77 : decode b_Li_ask 77 = .ok (.putfield 25, 3) := by decide +kernel
theorem d_Li_ask_80 : decode b_Li_ask 80 = .ok (.aload_n 0, 1) := by decide +kernel
theorem d_Li_ask_81 : decode b_Li_ask 81 = .ok (.dup, 1) := by decide +kernel
theorem d_Li_ask_82 : decode b_Li_ask 82 = .ok (.getfield 29, 3) := by decide +kernel
theorem d_Li_ask_85 : decode b_Li_ask 85 = .ok (.iconst 1, 1) := by decide +kernel
theorem d_Li_ask_86 : decode b_Li_ask 86 = .ok (.iadd, 1) := by decide +kernel
theorem d_Li_ask_87 : decode b_Li_ask 87 = .ok (.putfield 29, 3) := by decide +kernel
theorem d_Li_ask_90 : decode b_Li_ask 90 = .ok (.iconst 1, 1) := by decide +kernel
theorem d_Li_ask_91 : decode b_Li_ask 91 = .ok (.ireturn, 1) := by decide +kernel
theorem g_Li_ask {X : WX} {d : Nat} (hd : 0 ≤ d) (p : Int) (M : Mem) (hp : 0 ≤ p ∧ p < 364) (hw : 0 ≤ M 9 3 ∧ M 9 3 ≤ 300) (hs : 0 ≤ M 9 4 ∧ M 9 4 ≤ 300) : MG X gt d KE KE y_Li_ask b_Li_ask 3 (some .boolean) [vr 9, vi p] M (fun r M' => (M 9 5 = 1 → r = some (vi 0) ∧ M' = M) ∧ (M 9 5 = 0 → r = some (vi 1) ∧ ((hasA M p → M' = M) ∧ (¬ hasA M p → M' = askD M p)))) := by
  refine MG_of_G (by decide) (Nat.le_of_ble_eq_true rfl) (Nat.le_refl _) (by decide) ?_
  show G X gt d KE KE y_Li_ask b_Li_ask 3 (some .boolean) _ 0 [(0, vr 9), (1, vi p)] [] KE M
  refine G_rngl (i := 1) rfl (fun hr1 => ?_)
  have loop : ∀ (n : Nat) (k : Int), k + n = M 9 3 → 0 ≤ k → (∀ q, 0 ≤ q → q < k → ¬ M 11 q = p) → M 9 5 = 0 → G X gt d KE KE y_Li_ask b_Li_ask 3 (some .boolean) (fun r M' => (M 9 5 = 1 → r = some (vi 0) ∧ M' = M) ∧ (M 9 5 = 0 → r = some (vi 1) ∧ ((hasA M p → M' = M) ∧ (¬ hasA M p → M' = askD M p)))) 11 [(2, vi k), (0, vr 9), (1, vi p)] [] KE M := by
    intro n
    induction n with
    | zero =>
      intro k h1 h2 hno h0
      refine G_iload (i := 2) (n := 0) (len := 1) (Or.inl ⟨2, rfl, rfl, d_Li_ask_11⟩) rfl (G_pc (pc' := 12) rfl ?_)
      refine G_aload (i := 0) (n := 1) (len := 1) (Or.inl ⟨0, rfl, rfl, d_Li_ask_12⟩) rfl (by decide) (G_pc (pc' := 13) rfl ?_)
      refine G_get (o := 9) (c := 3) (k := 3) (v := M 9 3) d_Li_ask_13 fl_Li_25 rfl (by decide) (by decide) rfl rfl (G_pc (pc' := 16) rfl ?_)
      refine G_mem (fun hmo _ => ?_)
      have t1301 := tok_i (Eq.mp (congrArg (tok .int) (show rd gt M 9 ((3 : Nat) : Int) = M 9 3 from rfl)) (hmo 9 (by decide) (by decide) 3 rfl 3 (by decide)))
      clear hmo
      refine G_icmp_ge (tgt := 37) d_Li_ask_16 (by decide) (fun h1302 => ?_) (fun h1302 => absurd h1302 (by omega))
      refine G_aload (i := 0) (n := 1) (len := 1) (Or.inl ⟨0, rfl, rfl, d_Li_ask_37⟩) rfl (by decide) (G_pc (pc' := 38) rfl ?_)
      refine G_get (o := 9) (c := 3) (k := 3) (v := M 9 3) d_Li_ask_38 fl_Li_25 rfl (by decide) (by decide) rfl rfl (G_pc (pc' := 41) rfl ?_)
      refine G_mem (fun hmo _ => ?_)
      have t1303 := tok_i (Eq.mp (congrArg (tok .int) (show rd gt M 9 ((3 : Nat) : Int) = M 9 3 from rfl)) (hmo 9 (by decide) (by decide) 3 rfl 3 (by decide)))
      clear hmo
      refine G_sipush (n := 364) d_Li_ask_41 (by decide) (G_pc (pc' := 44) rfl ?_)
      refine G_icmp_ge (tgt := 90) d_Li_ask_44 (by decide) (fun h1304 => absurd h1304 (by omega)) (fun h1304 => G_pc (pc' := 47) rfl ?_)
      refine G_aload (i := 0) (n := 1) (len := 1) (Or.inl ⟨0, rfl, rfl, d_Li_ask_47⟩) rfl (by decide) (G_pc (pc' := 48) rfl ?_)
      refine G_get (o := 9) (c := 3) (k := 1) (v := 11) d_Li_ask_48 fl_Li_15 rfl (by decide) (by decide) rfl rfl (G_pc (pc' := 51) rfl ?_)
      refine G_aload (i := 0) (n := 1) (len := 1) (Or.inl ⟨0, rfl, rfl, d_Li_ask_51⟩) rfl (by decide) (G_pc (pc' := 52) rfl ?_)
      refine G_get (o := 9) (c := 3) (k := 3) (v := M 9 3) d_Li_ask_52 fl_Li_25 rfl (by decide) (by decide) rfl rfl (G_pc (pc' := 55) rfl ?_)
      refine G_mem (fun hmo _ => ?_)
      have t1305 := tok_i (Eq.mp (congrArg (tok .int) (show rd gt M 9 ((3 : Nat) : Int) = M 9 3 from rfl)) (hmo 9 (by decide) (by decide) 3 rfl 3 (by decide)))
      clear hmo
      refine G_iload (i := 1) (n := 2) (len := 1) (Or.inl ⟨1, rfl, rfl, d_Li_ask_55⟩) rfl (G_pc (pc' := 56) rfl ?_)
      refine G_iastore (o := 11) (n := 364) (i := M 9 3) (x := p) d_Li_ask_56 rfl ⟨by decide, by decide⟩ (by decide) (gt_arr rfl _) (by omega) (tokI (by omega)) (G_pc (pc' := 57) rfl ?_)
      refine G_aload (i := 0) (n := 1) (len := 1) (Or.inl ⟨0, rfl, rfl, d_Li_ask_57⟩) rfl (by decide) (G_pc (pc' := 58) rfl ?_)
      refine G_get (o := 9) (c := 3) (k := 2) (v := 12) d_Li_ask_58 fl_Li_18 rfl (by decide) (by decide) rfl rfl (G_pc (pc' := 61) rfl ?_)
      refine G_aload (i := 0) (n := 1) (len := 1) (Or.inl ⟨0, rfl, rfl, d_Li_ask_61⟩) rfl (by decide) (G_pc (pc' := 62) rfl ?_)
      refine G_get (o := 9) (c := 3) (k := 3) (v := M 9 3) d_Li_ask_62 fl_Li_25 rfl (by decide) (by decide) rfl rfl (G_pc (pc' := 65) rfl ?_)
      refine G_mem (fun hmo _ => ?_)
      have t1306 := tok_i (Eq.mp (congrArg (tok .int) (show rd gt (mset M 11 (M 9 3) p) 9 ((3 : Nat) : Int) = M 9 3 from rfl)) (hmo 9 (by decide) (by decide) 3 rfl 3 (by decide)))
      clear hmo
      refine G_aload (i := 0) (n := 1) (len := 1) (Or.inl ⟨0, rfl, rfl, d_Li_ask_65⟩) rfl (by decide) (G_pc (pc' := 66) rfl ?_)
      refine G_get (o := 9) (c := 3) (k := 4) (v := M 9 4) d_Li_ask_66 fl_Li_29 rfl (by decide) (by decide) rfl rfl (G_pc (pc' := 69) rfl ?_)
      refine G_mem (fun hmo _ => ?_)
      have t1307 := tok_i (Eq.mp (congrArg (tok .int) (show rd gt (mset M 11 (M 9 3) p) 9 ((4 : Nat) : Int) = M 9 4 from rfl)) (hmo 9 (by decide) (by decide) 3 rfl 4 (by decide)))
      clear hmo
      refine G_iastore (o := 12) (n := 364) (i := M 9 3) (x := M 9 4) d_Li_ask_69 rfl ⟨by decide, by decide⟩ (by decide) (gt_arr rfl _) (by omega) (tokI (by omega)) (G_pc (pc' := 70) rfl ?_)
      refine G_aload (i := 0) (n := 1) (len := 1) (Or.inl ⟨0, rfl, rfl, d_Li_ask_70⟩) rfl (by decide) (G_pc (pc' := 71) rfl ?_)
      refine G_dup d_Li_ask_71 (fun _ h => by cases h) (G_pc (pc' := 72) rfl ?_)
      refine G_get (o := 9) (c := 3) (k := 3) (v := M 9 3) d_Li_ask_72 fl_Li_25 rfl (by decide) (by decide) rfl rfl (G_pc (pc' := 75) rfl ?_)
      refine G_mem (fun hmo _ => ?_)
      have t1308 := tok_i (Eq.mp (congrArg (tok .int) (show rd gt (mset (mset M 11 (M 9 3) p) 12 (M 9 3) (M 9 4)) 9 ((3 : Nat) : Int) = M 9 3 from rfl)) (hmo 9 (by decide) (by decide) 3 rfl 3 (by decide)))
      clear hmo
      refine G_iconst (n := 1) d_Li_ask_75 (by decide) (G_pc (pc' := 76) rfl ?_)
      refine G_iadd d_Li_ask_76 (by omega) (G_pc (pc' := 77) rfl ?_)
      refine G_putL (o := 9) (c := 3) (k := 3) (ki := 3) (x := (M 9 3) + 1) d_Li_ask_77 fl_Li_25 rfl rfl (by decide) (by decide) (by decide) rfl rfl (tokI (by omega)) rfl (G_pc (pc' := 80) rfl ?_)
      refine G_aload (i := 0) (n := 1) (len := 1) (Or.inl ⟨0, rfl, rfl, d_Li_ask_80⟩) rfl (by decide) (G_pc (pc' := 81) rfl ?_)
      refine G_dup d_Li_ask_81 (fun _ h => by cases h) (G_pc (pc' := 82) rfl ?_)
      refine G_get (o := 9) (c := 3) (k := 4) (v := M 9 4) d_Li_ask_82 fl_Li_29 rfl (by decide) (by decide) rfl rfl (G_pc (pc' := 85) rfl ?_)
      refine G_mem (fun hmo _ => ?_)
      have t1309 := tok_i (Eq.mp (congrArg (tok .int) (show rd gt (mset (mset (mset M 11 (M 9 3) p) 12 (M 9 3) (M 9 4)) 9 3 ((M 9 3) + 1)) 9 ((4 : Nat) : Int) = M 9 4 from rfl)) (hmo 9 (by decide) (by decide) 3 rfl 4 (by decide)))
      clear hmo
      refine G_iconst (n := 1) d_Li_ask_85 (by decide) (G_pc (pc' := 86) rfl ?_)
      refine G_iadd d_Li_ask_86 (by omega) (G_pc (pc' := 87) rfl ?_)
      refine G_putL (o := 9) (c := 3) (k := 4) (ki := 4) (x := (M 9 4) + 1) d_Li_ask_87 fl_Li_29 rfl rfl (by decide) (by decide) (by decide) rfl rfl (tokI (by omega)) rfl (G_pc (pc' := 90) rfl ?_)
      refine G_iconst (n := 1) d_Li_ask_90 (by decide) (G_pc (pc' := 91) rfl ?_)
      refine G_iret d_Li_ask_91 rfl (tokZ (by decide)) rfl rfl ?_
      exact ⟨fun h => absurd h (by omega), fun _ => ⟨rfl, fun ⟨q, q1, q2, q3⟩ => absurd q3 (hno q q1 (by omega)), fun _ => rfl⟩⟩
    | succ n ih =>
      intro k h1 h2 hno h0
      refine G_iload (i := 2) (n := 0) (len := 1) (Or.inl ⟨2, rfl, rfl, d_Li_ask_11⟩) rfl (G_pc (pc' := 12) rfl ?_)
      refine G_aload (i := 0) (n := 1) (len := 1) (Or.inl ⟨0, rfl, rfl, d_Li_ask_12⟩) rfl (by decide) (G_pc (pc' := 13) rfl ?_)
      refine G_get (o := 9) (c := 3) (k := 3) (v := M 9 3) d_Li_ask_13 fl_Li_25 rfl (by decide) (by decide) rfl rfl (G_pc (pc' := 16) rfl ?_)
      refine G_mem (fun hmo _ => ?_)
      have t1401 := tok_i (Eq.mp (congrArg (tok .int) (show rd gt M 9 ((3 : Nat) : Int) = M 9 3 from rfl)) (hmo 9 (by decide) (by decide) 3 rfl 3 (by decide)))
      clear hmo
      refine G_icmp_ge (tgt := 37) d_Li_ask_16 (by decide) (fun h1402 => absurd h1402 (by omega)) (fun h1402 => G_pc (pc' := 19) rfl ?_)
      refine G_aload (i := 0) (n := 1) (len := 1) (Or.inl ⟨0, rfl, rfl, d_Li_ask_19⟩) rfl (by decide) (G_pc (pc' := 20) rfl ?_)
      refine G_get (o := 9) (c := 3) (k := 1) (v := 11) d_Li_ask_20 fl_Li_15 rfl (by decide) (by decide) rfl rfl (G_pc (pc' := 23) rfl ?_)
      refine G_iload (i := 2) (n := 0) (len := 1) (Or.inl ⟨2, rfl, rfl, d_Li_ask_23⟩) rfl (G_pc (pc' := 24) rfl ?_)
      refine G_iaload (o := 11) (n := 364) (i := k) (v := M 11 k) d_Li_ask_24 rfl ⟨by decide, by decide⟩ (by omega) (rd_arr rfl) (fun t1403 => G_pc (pc' := 25) rfl ?_)
      have t1403 := tok_i t1403
      refine G_iload (i := 1) (n := 2) (len := 1) (Or.inl ⟨1, rfl, rfl, d_Li_ask_25⟩) rfl (G_pc (pc' := 26) rfl ?_)
      refine G_icmp_ne (tgt := 31) d_Li_ask_26 (by decide) (fun h1404 => ?_) (fun h1404 => G_pc (pc' := 29) rfl ?_)
      · skip
        refine G_iinc (i := 2) (n := 0) (z := 1) (ls' := [(2, vi (k + 1)), (0, vr 9), (1, vi p)]) d_Li_ask_31 rfl (by decide) (by omega) rfl (G_pc (pc' := 34) rfl ?_)
        refine G_goto (tgt := 11) d_Li_ask_34 (by decide) ?_
        exact ih (k + 1) (by omega) (by omega) (ext_lt hno (by omega)) h0
      · skip
        refine G_iconst (n := 1) d_Li_ask_29 (by decide) (G_pc (pc' := 30) rfl ?_)
        refine G_iret d_Li_ask_30 rfl (tokZ (by decide)) rfl rfl ?_
        exact ⟨fun h => absurd h (by omega), fun _ => ⟨rfl, fun _ => rfl, fun h => absurd ⟨k, by omega, by omega, by omega⟩ h⟩⟩
  refine G_aload (i := 0) (n := 0) (len := 1) (Or.inl ⟨0, rfl, rfl, d_Li_ask_0⟩) rfl (by decide) (G_pc (pc' := 1) rfl ?_)
  refine G_get (o := 9) (c := 3) (k := 5) (v := M 9 5) d_Li_ask_1 fl_Li_21 rfl (by decide) (by decide) rfl rfl (G_pc (pc' := 4) rfl ?_)
  refine G_mem (fun hmo _ => ?_)
  have t1 := tok_z (Eq.mp (congrArg (tok .boolean) (show rd gt M 9 ((5 : Nat) : Int) = M 9 5 from rfl)) (hmo 9 (by decide) (by decide) 3 rfl 5 (by decide)))
  clear hmo
  refine G_if_eq (tgt := 9) d_Li_ask_4 (by decide) (fun h2 => ?_) (fun h2 => G_pc (pc' := 7) rfl ?_)
  · skip
    refine G_iconst (n := 0) d_Li_ask_9 (by decide) (G_pc (pc' := 10) rfl ?_)
    refine G_istore (i := 2) (len := 1) (ls' := [(2, vi 0), (0, vr 9), (1, vi p)]) (Or.inl ⟨2, rfl, rfl, d_Li_ask_10⟩) (by decide) rfl (G_pc (pc' := 11) rfl ?_)
    exact loop (M 9 3).toNat 0 (by omega) (by omega) (fun q h7 h8 => absurd h8 (by omega)) (by omega)
  · skip
    refine G_iconst (n := 0) d_Li_ask_7 (by decide) (G_pc (pc' := 8) rfl ?_)
    refine G_iret d_Li_ask_8 rfl (tokZ (by decide)) rfl rfl ?_
    exact ⟨fun _ => ⟨rfl, rfl⟩, fun h => absurd h (by omega)⟩

theorem d_Li_hasRequest_0 : decode b_Li_hasRequest 0 = .ok (.iload_n 1, 1) := by decide +kernel
theorem d_Li_hasRequest_1 : decode b_Li_hasRequest 1 = .ok (.ifCond .lt 15, 3) := by decide +kernel
theorem d_Li_hasRequest_4 : decode b_Li_hasRequest 4 = .ok (.iload_n 1, 1) := by decide +kernel
theorem d_Li_hasRequest_5 : decode b_Li_hasRequest 5 = .ok (.aload_n 0, 1) := by decide +kernel
theorem d_Li_hasRequest_6 : decode b_Li_hasRequest 6 = .ok (.getfield 25, 3) := by decide +kernel
theorem d_Li_hasRequest_9 : decode b_Li_hasRequest 9 = .ok (.if_icmp .ge 7, 3) := by decide +kernel
theorem d_Li_hasRequest_12 : decode b_Li_hasRequest 12 = .ok (.iconst 1, 1) := by decide +kernel
theorem d_Li_hasRequest_13 : decode b_Li_hasRequest 13 = .ok (.goto 4, 3) := by decide +kernel
theorem d_Li_hasRequest_16 : decode b_Li_hasRequest 16 = .ok (.iconst 0, 1) := by decide +kernel
theorem d_Li_hasRequest_17 : decode b_Li_hasRequest 17 = .ok (.ireturn, 1) := by decide +kernel
theorem g_Li_hasRequest {X : WX} {d : Nat} (hd : 0 ≤ d) (k : Int) (M : Mem)  : MG X gt d KE KE y_Li_hasRequest b_Li_hasRequest 2 (some .boolean) [vr 9, vi k] M (fun r M' => r = some (vi (b2i (inB k (M 9 3)))) ∧ M' = M) := by
  refine MG_of_G (by decide) (Nat.le_of_ble_eq_true rfl) (Nat.le_refl _) (by decide) ?_
  show G X gt d KE KE y_Li_hasRequest b_Li_hasRequest 2 (some .boolean) _ 0 [(0, vr 9), (1, vi k)] [] KE M
  refine G_rngl (i := 1) rfl (fun hr1 => ?_)
  refine G_iload (i := 1) (n := 1) (len := 1) (Or.inl ⟨1, rfl, rfl, d_Li_hasRequest_0⟩) rfl (G_pc (pc' := 1) rfl ?_)
  refine G_if_lt (tgt := 16) d_Li_hasRequest_1 (by decide) (fun h1 => ?_) (fun h1 => G_pc (pc' := 4) rfl ?_)
  · skip
    refine G_iconst (n := 0) d_Li_hasRequest_16 (by decide) (G_pc (pc' := 17) rfl ?_)
    refine G_iret d_Li_hasRequest_17 rfl (tokZ (by decide)) rfl rfl ?_
    exact ret_f (inB_f.mpr (by omega)) rfl
  · skip
    refine G_iload (i := 1) (n := 1) (len := 1) (Or.inl ⟨1, rfl, rfl, d_Li_hasRequest_4⟩) rfl (G_pc (pc' := 5) rfl ?_)
    refine G_aload (i := 0) (n := 0) (len := 1) (Or.inl ⟨0, rfl, rfl, d_Li_hasRequest_5⟩) rfl (by decide) (G_pc (pc' := 6) rfl ?_)
    refine G_get (o := 9) (c := 3) (k := 3) (v := M 9 3) d_Li_hasRequest_6 fl_Li_25 rfl (by decide) (by decide) rfl rfl (G_pc (pc' := 9) rfl ?_)
    refine G_mem (fun hmo _ => ?_)
    have t2 := tok_i (Eq.mp (congrArg (tok .int) (show rd gt M 9 ((3 : Nat) : Int) = M 9 3 from rfl)) (hmo 9 (by decide) (by decide) 3 rfl 3 (by decide)))
    clear hmo
    refine G_icmp_ge (tgt := 16) d_Li_hasRequest_9 (by decide) (fun h3 => ?_) (fun h3 => G_pc (pc' := 12) rfl ?_)
    · skip
      refine G_iconst (n := 0) d_Li_hasRequest_16 (by decide) (G_pc (pc' := 17) rfl ?_)
      refine G_iret d_Li_hasRequest_17 rfl (tokZ (by decide)) rfl rfl ?_
      exact ret_f (inB_f.mpr (by omega)) rfl
    · skip
      refine G_iconst (n := 1) d_Li_hasRequest_12 (by decide) (G_pc (pc' := 13) rfl ?_)
      refine G_goto (tgt := 17) d_Li_hasRequest_13 (by decide) ?_
      refine G_iret d_Li_hasRequest_17 rfl (tokZ (by decide)) rfl rfl ?_
      exact ret_t (inB_t.mpr (by omega)) rfl

theorem d_Li_placeAsked_0 : decode b_Li_placeAsked 0 = .ok (.aload_n 0, 1) := by decide +kernel
theorem d_Li_placeAsked_1 : decode b_Li_placeAsked 1 = .ok (.getfield 15, 3) := by decide +kernel
theorem d_Li_placeAsked_4 : decode b_Li_placeAsked 4 = .ok (.iload_n 1, 1) := by decide +kernel
theorem d_Li_placeAsked_5 : decode b_Li_placeAsked 5 = .ok (.iaload, 1) := by decide +kernel
theorem d_Li_placeAsked_6 : decode b_Li_placeAsked 6 = .ok (.ireturn, 1) := by decide +kernel
theorem g_Li_placeAsked {X : WX} {d : Nat} (hd : 0 ≤ d) (k : Int) (M : Mem) (hk : 0 ≤ k ∧ k < 364) : MG X gt d KE KE y_Li_placeAsked b_Li_placeAsked 2 (some .int) [vr 9, vi k] M (fun r M' => r = some (vi (M 11 k)) ∧ M' = M) := by
  refine MG_of_G (by decide) (Nat.le_of_ble_eq_true rfl) (Nat.le_refl _) (by decide) ?_
  show G X gt d KE KE y_Li_placeAsked b_Li_placeAsked 2 (some .int) _ 0 [(0, vr 9), (1, vi k)] [] KE M
  refine G_rngl (i := 1) rfl (fun hr1 => ?_)
  refine G_aload (i := 0) (n := 0) (len := 1) (Or.inl ⟨0, rfl, rfl, d_Li_placeAsked_0⟩) rfl (by decide) (G_pc (pc' := 1) rfl ?_)
  refine G_get (o := 9) (c := 3) (k := 1) (v := 11) d_Li_placeAsked_1 fl_Li_15 rfl (by decide) (by decide) rfl rfl (G_pc (pc' := 4) rfl ?_)
  refine G_iload (i := 1) (n := 1) (len := 1) (Or.inl ⟨1, rfl, rfl, d_Li_placeAsked_4⟩) rfl (G_pc (pc' := 5) rfl ?_)
  refine G_iaload (o := 11) (n := 364) (i := k) (v := M 11 k) d_Li_placeAsked_5 rfl ⟨by decide, by decide⟩ (by omega) (rd_arr rfl) (fun t1 => G_pc (pc' := 6) rfl ?_)
  have t1 := tok_i t1
  refine G_iret d_Li_placeAsked_6 rfl (tokI (by omega)) rfl rfl ?_
  exact ret_e rfl rfl

theorem d_Li_sentBefore_0 : decode b_Li_sentBefore 0 = .ok (.aload_n 0, 1) := by decide +kernel
theorem d_Li_sentBefore_1 : decode b_Li_sentBefore 1 = .ok (.getfield 18, 3) := by decide +kernel
theorem d_Li_sentBefore_4 : decode b_Li_sentBefore 4 = .ok (.iload_n 1, 1) := by decide +kernel
theorem d_Li_sentBefore_5 : decode b_Li_sentBefore 5 = .ok (.iaload, 1) := by decide +kernel
theorem d_Li_sentBefore_6 : decode b_Li_sentBefore 6 = .ok (.ireturn, 1) := by decide +kernel
theorem g_Li_sentBefore {X : WX} {d : Nat} (hd : 0 ≤ d) (k : Int) (M : Mem) (hk : 0 ≤ k ∧ k < 364) : MG X gt d KE KE y_Li_sentBefore b_Li_sentBefore 2 (some .int) [vr 9, vi k] M (fun r M' => r = some (vi (M 12 k)) ∧ M' = M) := by
  refine MG_of_G (by decide) (Nat.le_of_ble_eq_true rfl) (Nat.le_refl _) (by decide) ?_
  show G X gt d KE KE y_Li_sentBefore b_Li_sentBefore 2 (some .int) _ 0 [(0, vr 9), (1, vi k)] [] KE M
  refine G_rngl (i := 1) rfl (fun hr1 => ?_)
  refine G_aload (i := 0) (n := 0) (len := 1) (Or.inl ⟨0, rfl, rfl, d_Li_sentBefore_0⟩) rfl (by decide) (G_pc (pc' := 1) rfl ?_)
  refine G_get (o := 9) (c := 3) (k := 2) (v := 12) d_Li_sentBefore_1 fl_Li_18 rfl (by decide) (by decide) rfl rfl (G_pc (pc' := 4) rfl ?_)
  refine G_iload (i := 1) (n := 1) (len := 1) (Or.inl ⟨1, rfl, rfl, d_Li_sentBefore_4⟩) rfl (G_pc (pc' := 5) rfl ?_)
  refine G_iaload (o := 12) (n := 364) (i := k) (v := M 12 k) d_Li_sentBefore_5 rfl ⟨by decide, by decide⟩ (by omega) (rd_arr rfl) (fun t1 => G_pc (pc' := 6) rfl ?_)
  have t1 := tok_i t1
  refine G_iret d_Li_sentBefore_6 rfl (tokI (by omega)) rfl rfl ?_
  exact ret_e rfl rfl

theorem d_Li_waitingCount_0 : decode b_Li_waitingCount 0 = .ok (.aload_n 0, 1) := by decide +kernel
theorem d_Li_waitingCount_1 : decode b_Li_waitingCount 1 = .ok (.getfield 25, 3) := by decide +kernel
theorem d_Li_waitingCount_4 : decode b_Li_waitingCount 4 = .ok (.ireturn, 1) := by decide +kernel
theorem g_Li_waitingCount {X : WX} {d : Nat} (hd : 0 ≤ d)  (M : Mem)  : MG X gt d KE KE y_Li_waitingCount b_Li_waitingCount 1 (some .int) [vr 9] M (fun r M' => r = some (vi (M 9 3)) ∧ M' = M) := by
  refine MG_of_G (by decide) (Nat.le_of_ble_eq_true rfl) (Nat.le_refl _) (by decide) ?_
  show G X gt d KE KE y_Li_waitingCount b_Li_waitingCount 1 (some .int) _ 0 [(0, vr 9)] [] KE M
  refine G_aload (i := 0) (n := 0) (len := 1) (Or.inl ⟨0, rfl, rfl, d_Li_waitingCount_0⟩) rfl (by decide) (G_pc (pc' := 1) rfl ?_)
  refine G_get (o := 9) (c := 3) (k := 3) (v := M 9 3) d_Li_waitingCount_1 fl_Li_25 rfl (by decide) (by decide) rfl rfl (G_pc (pc' := 4) rfl ?_)
  refine G_mem (fun hmo _ => ?_)
  have t1 := tok_i (Eq.mp (congrArg (tok .int) (show rd gt M 9 ((3 : Nat) : Int) = M 9 3 from rfl)) (hmo 9 (by decide) (by decide) 3 rfl 3 (by decide)))
  clear hmo
  refine G_iret d_Li_waitingCount_4 rfl (tokI (by omega)) rfl rfl ?_
  exact ret_e rfl rfl

theorem d_Li_sentCount_0 : decode b_Li_sentCount 0 = .ok (.aload_n 0, 1) := by decide +kernel
theorem d_Li_sentCount_1 : decode b_Li_sentCount 1 = .ok (.getfield 29, 3) := by decide +kernel
theorem d_Li_sentCount_4 : decode b_Li_sentCount 4 = .ok (.ireturn, 1) := by decide +kernel
theorem g_Li_sentCount {X : WX} {d : Nat} (hd : 0 ≤ d)  (M : Mem)  : MG X gt d KE KE y_Li_sentCount b_Li_sentCount 1 (some .int) [vr 9] M (fun r M' => r = some (vi (M 9 4)) ∧ M' = M) := by
  refine MG_of_G (by decide) (Nat.le_of_ble_eq_true rfl) (Nat.le_refl _) (by decide) ?_
  show G X gt d KE KE y_Li_sentCount b_Li_sentCount 1 (some .int) _ 0 [(0, vr 9)] [] KE M
  refine G_aload (i := 0) (n := 0) (len := 1) (Or.inl ⟨0, rfl, rfl, d_Li_sentCount_0⟩) rfl (by decide) (G_pc (pc' := 1) rfl ?_)
  refine G_get (o := 9) (c := 3) (k := 4) (v := M 9 4) d_Li_sentCount_1 fl_Li_29 rfl (by decide) (by decide) rfl rfl (G_pc (pc' := 4) rfl ?_)
  refine G_mem (fun hmo _ => ?_)
  have t1 := tok_i (Eq.mp (congrArg (tok .int) (show rd gt M 9 ((4 : Nat) : Int) = M 9 4 from rfl)) (hmo 9 (by decide) (by decide) 3 rfl 4 (by decide)))
  clear hmo
  refine G_iret d_Li_sentCount_4 rfl (tokI (by omega)) rfl rfl ?_
  exact ret_e rfl rfl

def shD (M : Mem) (k n : Int) : Mem := fun c i => if (c = 11 ∨ c = 12) ∧ k ≤ i ∧ i < n then M c (i + 1) else M c i
theorem shD_0 {M : Mem} {k : Int} : shD M k k = M := by
  funext c i; unfold shD; rw [if_neg (by omega)]
theorem shD_at {M : Mem} {k n : Int} (c : Nat) (i : Int) (h : n ≤ i) : shD M k n c i = M c i := by
  unfold shD; rw [if_neg (by omega)]
theorem shD_s {M : Mem} {k n x y : Int} (h : k ≤ n) (hx : x = M 11 (n + 1)) (hy : y = M 12 (n + 1)) : mset (mset (shD M k n) 11 n x) 12 n y = shD M k (n + 1) := by
  funext c i; unfold shD mset; grind
def dropD (M : Mem) (k : Int) : Mem := shD (mset M 9 3 (M 9 3 - 1)) k (M 9 3 - 1)
theorem d_Li_drop_0 : decode b_Li_drop 0 = .ok (.aload_n 0, 1) := by decide +kernel
theorem d_Li_drop_1 : decode b_Li_drop 1 = .ok (.dup, 1) := by decide +kernel
theorem d_Li_drop_2 : decode b_Li_drop 2 = .ok (.getfield 25, 3) := by decide +kernel
theorem d_Li_drop_5 : decode b_Li_drop 5 = .ok (.iconst 1, 1) := by decide +kernel
theorem d_Li_drop_6 : decode b_Li_drop 6 = .ok (.isub, 1) := by decide +kernel
theorem d_Li_drop_7 : decode b_Li_drop 7 = .ok (.putfield 25, 3) := by decide +kernel
theorem d_Li_drop_10 : decode b_Li_drop 10 = .ok (.iload_n 1, 1) := by decide +kernel
theorem d_Li_drop_11 : decode b_Li_drop 11 = .ok (.istore_n 2, 1) := by decide +kernel
theorem d_Li_drop_12 : decode b_Li_drop 12 = .ok (.iload_n 2, 1) := by decide +kernel
theorem d_Li_drop_13 : decode b_Li_drop 13 = .ok (.aload_n 0, 1) := by decide +kernel
theorem d_Li_drop_14 : decode b_Li_drop 14 = .ok (.getfield 25, 3) := by decide +kernel
theorem d_Li_drop_17 : decode b_Li_drop 17 = .ok (.if_icmp .ge 37, 3) := by decide +kernel
theorem d_Li_drop_20 : decode b_Li_drop 20 = .ok (.aload_n 0, 1) := by decide +kernel
theorem d_Li_drop_21 : decode b_Li_drop 21 = .ok (.getfield 15, 3) := by decide +kernel
theorem d_Li_drop_24 : decode b_Li_drop 24 = .ok (.iload_n 2, 1) := by decide +kernel
theorem d_Li_drop_25 : decode b_Li_drop 25 = .ok (.aload_n 0, 1) := by decide +kernel
theorem d_Li_drop_26 : decode b_Li_drop 26 = .ok (.getfield 15, 3) := by decide +kernel
theorem d_Li_drop_29 : decode b_Li_drop 29 = .ok (.iload_n 2, 1) := by decide +kernel
theorem d_Li_drop_30 : decode b_Li_drop 30 = .ok (.iconst 1, 1) := by decide +kernel
theorem d_Li_drop_31 : decode b_Li_drop 31 = .ok (.iadd, 1) := by decide +kernel
theorem d_Li_drop_32 : decode b_Li_drop 32 = .ok (.iaload, 1) := by decide +kernel
theorem d_Li_drop_33 : decode b_Li_drop 33 = .ok (.iastore, 1) := by decide +kernel
theorem d_Li_drop_34 : decode b_Li_drop 34 = .ok (.aload_n 0, 1) := by decide +kernel
theorem d_Li_drop_35 : decode b_Li_drop 35 = .ok (.getfield 18, 3) := by decide +kernel
theorem d_Li_drop_38 : decode b_Li_drop 38 = .ok (.iload_n 2, 1) := by decide +kernel
theorem d_Li_drop_39 : decode b_Li_drop 39 = .ok (.aload_n 0, 1) := by decide +kernel
theorem d_Li_drop_40 : decode b_Li_drop 40 = .ok (.getfield 18, 3) := by decide +kernel
theorem d_Li_drop_43 : decode b_Li_drop 43 = .ok (.iload_n 2, 1) := by decide +kernel
theorem d_Li_drop_44 : decode b_Li_drop 44 = .ok (.iconst 1, 1) := by decide +kernel
theorem d_Li_drop_45 : decode b_Li_drop 45 = .ok (.iadd, 1) := by decide +kernel
theorem d_Li_drop_46 : decode b_Li_drop 46 = .ok (.iaload, 1) := by decide +kernel
theorem d_Li_drop_47 : decode b_Li_drop 47 = .ok (.iastore, 1) := by decide +kernel
theorem d_Li_drop_48 : decode b_Li_drop 48 = .ok (.iinc 2 1, 3) := by decide +kernel
theorem d_Li_drop_51 : decode b_Li_drop 51 = .ok (.goto (-39), 3) := by decide +kernel
theorem d_Li_drop_54 : decode b_Li_drop 54 = .ok (.return_, 1) := by decide +kernel
theorem g_Li_drop {X : WX} {d : Nat} (hd : 0 ≤ d) (k : Int) (M : Mem) (hw : 0 ≤ M 9 3 ∧ M 9 3 ≤ 300) (hk : 0 ≤ k ∧ k < M 9 3) : MG X gt d KE KE y_Li_drop b_Li_drop 3 none [vr 9, vi k] M (fun r M' => r = none ∧ M' = dropD M k) := by
  refine MG_of_G (by decide) (Nat.le_of_ble_eq_true rfl) (Nat.le_refl _) (by decide) ?_
  show G X gt d KE KE y_Li_drop b_Li_drop 3 none _ 0 [(0, vr 9), (1, vi k)] [] KE M
  refine G_rngl (i := 1) rfl (fun hr1 => ?_)
  have loop : ∀ (n : Nat) (i : Int), i + n + 1 = M 9 3 → k ≤ i → (0 ≤ M 9 3 ∧ M 9 3 ≤ 300) → G X gt d KE KE y_Li_drop b_Li_drop 3 none (fun r M' => r = none ∧ M' = dropD M k) 12 [(2, vi i), (0, vr 9), (1, vi k)] [] KE (shD (mset M 9 3 (M 9 3 - 1)) k i) := by
    intro n
    induction n with
    | zero =>
      intro i h1 h2 hw9
      refine G_iload (i := 2) (n := 0) (len := 1) (Or.inl ⟨2, rfl, rfl, d_Li_drop_12⟩) rfl (G_pc (pc' := 13) rfl ?_)
      refine G_aload (i := 0) (n := 1) (len := 1) (Or.inl ⟨0, rfl, rfl, d_Li_drop_13⟩) rfl (by decide) (G_pc (pc' := 14) rfl ?_)
      refine G_get (o := 9) (c := 3) (k := 3) (v := (shD (mset M 9 3 (M 9 3 - 1)) k i) 9 3) d_Li_drop_14 fl_Li_25 rfl (by decide) (by decide) (rdw rfl (by first | rfl | (repeat (first | rfl | exact mset_eq (by omega) | refine (mset_ne (by omega)).trans ?_ | refine (mset_ni (by omega)).trans ?_)))) rfl (G_pc (pc' := 17) rfl ?_)
      refine G_icmp_ge (tgt := 54) d_Li_drop_17 (by decide) (fun h1501 => ?_) (fun h1501 => absurd h1501 (by have h93 : shD (mset M 9 3 (M 9 3 - 1)) k i 9 3 = M 9 3 - 1 := rfl; omega))
      refine G_vret d_Li_drop_54 rfl rfl ?_
      exact ⟨rfl, by unfold dropD; rw [show M 9 3 - 1 = i by omega]⟩
    | succ n ih =>
      intro i h1 h2 hw9
      refine G_iload (i := 2) (n := 0) (len := 1) (Or.inl ⟨2, rfl, rfl, d_Li_drop_12⟩) rfl (G_pc (pc' := 13) rfl ?_)
      refine G_aload (i := 0) (n := 1) (len := 1) (Or.inl ⟨0, rfl, rfl, d_Li_drop_13⟩) rfl (by decide) (G_pc (pc' := 14) rfl ?_)
      refine G_get (o := 9) (c := 3) (k := 3) (v := (shD (mset M 9 3 (M 9 3 - 1)) k i) 9 3) d_Li_drop_14 fl_Li_25 rfl (by decide) (by decide) (rdw rfl (by first | rfl | (repeat (first | rfl | exact mset_eq (by omega) | refine (mset_ne (by omega)).trans ?_ | refine (mset_ni (by omega)).trans ?_)))) rfl (G_pc (pc' := 17) rfl ?_)
      refine G_icmp_ge (tgt := 54) d_Li_drop_17 (by decide) (fun h1601 => absurd h1601 (by have h93 : shD (mset M 9 3 (M 9 3 - 1)) k i 9 3 = M 9 3 - 1 := rfl; omega)) (fun h1601 => G_pc (pc' := 20) rfl ?_)
      refine G_aload (i := 0) (n := 1) (len := 1) (Or.inl ⟨0, rfl, rfl, d_Li_drop_20⟩) rfl (by decide) (G_pc (pc' := 21) rfl ?_)
      refine G_get (o := 9) (c := 3) (k := 1) (v := 11) d_Li_drop_21 fl_Li_15 rfl (by decide) (by decide) rfl rfl (G_pc (pc' := 24) rfl ?_)
      refine G_iload (i := 2) (n := 0) (len := 1) (Or.inl ⟨2, rfl, rfl, d_Li_drop_24⟩) rfl (G_pc (pc' := 25) rfl ?_)
      refine G_aload (i := 0) (n := 1) (len := 1) (Or.inl ⟨0, rfl, rfl, d_Li_drop_25⟩) rfl (by decide) (G_pc (pc' := 26) rfl ?_)
      refine G_get (o := 9) (c := 3) (k := 1) (v := 11) d_Li_drop_26 fl_Li_15 rfl (by decide) (by decide) rfl rfl (G_pc (pc' := 29) rfl ?_)
      refine G_iload (i := 2) (n := 0) (len := 1) (Or.inl ⟨2, rfl, rfl, d_Li_drop_29⟩) rfl (G_pc (pc' := 30) rfl ?_)
      refine G_iconst (n := 1) d_Li_drop_30 (by decide) (G_pc (pc' := 31) rfl ?_)
      refine G_iadd d_Li_drop_31 (by omega) (G_pc (pc' := 32) rfl ?_)
      refine G_iaload (o := 11) (n := 364) (i := i + 1) (v := (shD (mset M 9 3 (M 9 3 - 1)) k i) 11 (i + 1)) d_Li_drop_32 rfl ⟨by decide, by decide⟩ (by omega) (rdw (gt_arr rfl _) (by first | rfl | (repeat (first | rfl | exact mset_eq (by omega) | refine (mset_ne (by omega)).trans ?_ | refine (mset_ni (by omega)).trans ?_)))) (fun t1602 => G_pc (pc' := 33) rfl ?_)
      have t1602 := tok_i t1602
      refine G_iastore (o := 11) (n := 364) (i := i) (x := (shD (mset M 9 3 (M 9 3 - 1)) k i) 11 (i + 1)) d_Li_drop_33 rfl ⟨by decide, by decide⟩ (by decide) (gt_arr rfl _) (by omega) (tokI (by omega)) (G_pc (pc' := 34) rfl ?_)
      refine G_aload (i := 0) (n := 1) (len := 1) (Or.inl ⟨0, rfl, rfl, d_Li_drop_34⟩) rfl (by decide) (G_pc (pc' := 35) rfl ?_)
      refine G_get (o := 9) (c := 3) (k := 2) (v := 12) d_Li_drop_35 fl_Li_18 rfl (by decide) (by decide) rfl rfl (G_pc (pc' := 38) rfl ?_)
      refine G_iload (i := 2) (n := 0) (len := 1) (Or.inl ⟨2, rfl, rfl, d_Li_drop_38⟩) rfl (G_pc (pc' := 39) rfl ?_)
      refine G_aload (i := 0) (n := 1) (len := 1) (Or.inl ⟨0, rfl, rfl, d_Li_drop_39⟩) rfl (by decide) (G_pc (pc' := 40) rfl ?_)
      refine G_get (o := 9) (c := 3) (k := 2) (v := 12) d_Li_drop_40 fl_Li_18 rfl (by decide) (by decide) rfl rfl (G_pc (pc' := 43) rfl ?_)
      refine G_iload (i := 2) (n := 0) (len := 1) (Or.inl ⟨2, rfl, rfl, d_Li_drop_43⟩) rfl (G_pc (pc' := 44) rfl ?_)
      refine G_iconst (n := 1) d_Li_drop_44 (by decide) (G_pc (pc' := 45) rfl ?_)
      refine G_iadd d_Li_drop_45 (by omega) (G_pc (pc' := 46) rfl ?_)
      refine G_iaload (o := 12) (n := 364) (i := i + 1) (v := (shD (mset M 9 3 (M 9 3 - 1)) k i) 12 (i + 1)) d_Li_drop_46 rfl ⟨by decide, by decide⟩ (by omega) (rdw (gt_arr rfl _) (by first | rfl | (repeat (first | rfl | exact mset_eq (by omega) | refine (mset_ne (by omega)).trans ?_ | refine (mset_ni (by omega)).trans ?_)))) (fun t1603 => G_pc (pc' := 47) rfl ?_)
      have t1603 := tok_i t1603
      refine G_iastore (o := 12) (n := 364) (i := i) (x := (shD (mset M 9 3 (M 9 3 - 1)) k i) 12 (i + 1)) d_Li_drop_47 rfl ⟨by decide, by decide⟩ (by decide) (gt_arr rfl _) (by omega) (tokI (by omega)) (G_pc (pc' := 48) rfl ?_)
      refine G_iinc (i := 2) (n := 0) (z := 1) (ls' := [(2, vi (i + 1)), (0, vr 9), (1, vi k)]) d_Li_drop_48 rfl (by decide) (by omega) rfl (G_pc (pc' := 51) rfl ?_)
      refine G_goto (tgt := 12) d_Li_drop_51 (by decide) ?_
      rw [shD_s (by omega) (shD_at _ _ (by omega)) (shD_at _ _ (by omega))]
      exact ih (i + 1) (by omega) (by omega) hw9
  refine G_aload (i := 0) (n := 0) (len := 1) (Or.inl ⟨0, rfl, rfl, d_Li_drop_0⟩) rfl (by decide) (G_pc (pc' := 1) rfl ?_)
  refine G_dup d_Li_drop_1 (fun _ h => by cases h) (G_pc (pc' := 2) rfl ?_)
  refine G_get (o := 9) (c := 3) (k := 3) (v := M 9 3) d_Li_drop_2 fl_Li_25 rfl (by decide) (by decide) rfl rfl (G_pc (pc' := 5) rfl ?_)
  refine G_iconst (n := 1) d_Li_drop_5 (by decide) (G_pc (pc' := 6) rfl ?_)
  refine G_isub d_Li_drop_6 (by omega) (G_pc (pc' := 7) rfl ?_)
  refine G_putL (o := 9) (c := 3) (k := 3) (ki := 3) (x := (M 9 3) - 1) d_Li_drop_7 fl_Li_25 rfl rfl (by decide) (by decide) (by decide) rfl rfl (tokI (by omega)) rfl (G_pc (pc' := 10) rfl ?_)
  refine G_iload (i := 1) (n := 1) (len := 1) (Or.inl ⟨1, rfl, rfl, d_Li_drop_10⟩) rfl (G_pc (pc' := 11) rfl ?_)
  refine G_istore (i := 2) (len := 1) (ls' := [(2, vi k), (0, vr 9), (1, vi k)]) (Or.inl ⟨2, rfl, rfl, d_Li_drop_11⟩) (by decide) rfl (G_pc (pc' := 12) rfl ?_)
  have h9 := loop (M 9 3 - 1 - k).toNat k (by omega) (by omega) hw
  rw [shD_0] at h9
  exact h9

theorem alen_10 : kd 10 = .inr (.int, 13) := rfl
theorem d_Ja_fill_0 : decode b_Ja_fill 0 = .ok (.iconst 0, 1) := by decide +kernel
theorem d_Ja_fill_1 : decode b_Ja_fill 1 = .ok (.istore_n 2, 1) := by decide +kernel
theorem d_Ja_fill_2 : decode b_Ja_fill 2 = .ok (.aload_n 0, 1) := by decide +kernel
theorem d_Ja_fill_3 : decode b_Ja_fill 3 = .ok (.arraylength, 1) := by decide +kernel
theorem d_Ja_fill_4 : decode b_Ja_fill 4 = .ok (.istore_n 3, 1) := by decide +kernel
theorem d_Ja_fill_5 : decode b_Ja_fill 5 = .ok (.iload_n 2, 1) := by decide +kernel
theorem d_Ja_fill_6 : decode b_Ja_fill 6 = .ok (.iload_n 3, 1) := by decide +kernel
theorem d_Ja_fill_7 : decode b_Ja_fill 7 = .ok (.if_icmp .ge 13, 3) := by decide +kernel
theorem d_Ja_fill_10 : decode b_Ja_fill 10 = .ok (.aload_n 0, 1) := by decide +kernel
theorem d_Ja_fill_11 : decode b_Ja_fill 11 = .ok (.iload_n 2, 1) := by decide +kernel
theorem d_Ja_fill_12 : decode b_Ja_fill 12 = .ok (.iload_n 1, 1) := by decide +kernel
theorem d_Ja_fill_13 : decode b_Ja_fill 13 = .ok (.iastore, 1) := by decide +kernel
theorem d_Ja_fill_14 : decode b_Ja_fill 14 = .ok (.iinc 2 1, 3) := by decide +kernel
theorem d_Ja_fill_17 : decode b_Ja_fill 17 = .ok (.goto (-12), 3) := by decide +kernel
theorem d_Ja_fill_20 : decode b_Ja_fill 20 = .ok (.return_, 1) := by decide +kernel
theorem g_Ja_fill {X : WX} {d : Nat} (hd : 0 ≤ d) (v : Int) (M : Mem)  : MG X gt d KE KE y_Ja_fill b_Ja_fill 4 none [vr 10, vi v] M (fun r M' => r = none ∧ M' = fillM M 10 13 v) := by
  refine MG_of_G (by decide) (Nat.le_of_ble_eq_true rfl) (Nat.le_refl _) (by decide) ?_
  show G X gt d KE KE y_Ja_fill b_Ja_fill 4 none _ 0 [(0, vr 10), (1, vi v)] [] KE M
  refine G_rngl (i := 1) rfl (fun hr1 => ?_)
  have loop : ∀ (n : Nat) (i : Int), i + n = 13 → 0 ≤ i → (-2147483648 ≤ v ∧ v < 2147483648) → G X gt d KE KE y_Ja_fill b_Ja_fill 4 none (fun r M' => r = none ∧ M' = fillM M 10 13 v) 5 [(3, vi 13), (2, vi i), (0, vr 10), (1, vi v)] [] KE (fillM M 10 i v) := by
    intro n
    induction n with
    | zero =>
      intro i h1 h2 hv9
      refine G_iload (i := 2) (n := 1) (len := 1) (Or.inl ⟨2, rfl, rfl, d_Ja_fill_5⟩) rfl (G_pc (pc' := 6) rfl ?_)
      refine G_iload (i := 3) (n := 0) (len := 1) (Or.inl ⟨3, rfl, rfl, d_Ja_fill_6⟩) rfl (G_pc (pc' := 7) rfl ?_)
      refine G_icmp_ge (tgt := 20) d_Ja_fill_7 (by decide) (fun h1701 => ?_) (fun h1701 => absurd h1701 (by omega))
      refine G_vret d_Ja_fill_20 rfl rfl ?_
      exact ⟨rfl, by rw [show (13 : Int) = i by omega]⟩
    | succ n ih =>
      intro i h1 h2 hv9
      refine G_iload (i := 2) (n := 1) (len := 1) (Or.inl ⟨2, rfl, rfl, d_Ja_fill_5⟩) rfl (G_pc (pc' := 6) rfl ?_)
      refine G_iload (i := 3) (n := 0) (len := 1) (Or.inl ⟨3, rfl, rfl, d_Ja_fill_6⟩) rfl (G_pc (pc' := 7) rfl ?_)
      refine G_icmp_ge (tgt := 20) d_Ja_fill_7 (by decide) (fun h1801 => absurd h1801 (by omega)) (fun h1801 => G_pc (pc' := 10) rfl ?_)
      refine G_aload (i := 0) (n := 2) (len := 1) (Or.inl ⟨0, rfl, rfl, d_Ja_fill_10⟩) rfl (by decide) (G_pc (pc' := 11) rfl ?_)
      refine G_iload (i := 2) (n := 1) (len := 1) (Or.inl ⟨2, rfl, rfl, d_Ja_fill_11⟩) rfl (G_pc (pc' := 12) rfl ?_)
      refine G_iload (i := 1) (n := 3) (len := 1) (Or.inl ⟨1, rfl, rfl, d_Ja_fill_12⟩) rfl (G_pc (pc' := 13) rfl ?_)
      refine G_iastore (o := 10) (n := 13) (i := i) (x := v) d_Ja_fill_13 rfl ⟨by decide, by decide⟩ (by decide) (gt_arr rfl _) (by omega) (tokI (by omega)) (G_pc (pc' := 14) rfl ?_)
      refine G_iinc (i := 2) (n := 1) (z := 1) (ls' := [(2, vi (i + 1)), (3, vi 13), (0, vr 10), (1, vi v)]) d_Ja_fill_14 rfl (by decide) (by omega) rfl (G_pc (pc' := 17) rfl ?_)
      refine G_goto (tgt := 5) d_Ja_fill_17 (by decide) ?_
      refine G_ls (ls' := [(3, vi 13), (2, vi (i + 1)), (0, vr 10), (1, vi v)]) (by intro z hz; simp only [List.mem_cons] at hz ⊢; grind) ?_
      rw [fillM_s (by omega)]
      exact ih (i + 1) (by omega) (by omega) hv9
  refine G_iconst (n := 0) d_Ja_fill_0 (by decide) (G_pc (pc' := 1) rfl ?_)
  refine G_istore (i := 2) (len := 1) (ls' := [(2, vi 0), (0, vr 10), (1, vi v)]) (Or.inl ⟨2, rfl, rfl, d_Ja_fill_1⟩) (by decide) rfl (G_pc (pc' := 2) rfl ?_)
  refine G_aload (i := 0) (n := 1) (len := 1) (Or.inl ⟨0, rfl, rfl, d_Ja_fill_2⟩) rfl (by decide) (G_pc (pc' := 3) rfl ?_)
  refine G_alen (o := 10) (n := 13) d_Ja_fill_3 rfl (by decide) (by decide) (by decide) (G_pc (pc' := 4) rfl ?_)
  refine G_istore (i := 3) (len := 1) (ls' := [(3, vi 13), (2, vi 0), (0, vr 10), (1, vi v)]) (Or.inl ⟨3, rfl, rfl, d_Ja_fill_4⟩) (by decide) rfl (G_pc (pc' := 5) rfl ?_)
  have h9 := loop 13 0 (by omega) (by omega) (by omega)
  rw [fillM_0] at h9
  exact h9

theorem d_Li_forget_0 : decode b_Li_forget 0 = .ok (.aload_n 0, 1) := by decide +kernel
theorem d_Li_forget_1 : decode b_Li_forget 1 = .ok (.iconst 0, 1) := by decide +kernel
theorem d_Li_forget_2 : decode b_Li_forget 2 = .ok (.putfield 25, 3) := by decide +kernel
theorem d_Li_forget_5 : decode b_Li_forget 5 = .ok (.aload_n 0, 1) := by decide +kernel
theorem d_Li_forget_6 : decode b_Li_forget 6 = .ok (.getfield 9, 3) := by decide +kernel
theorem d_Li_forget_9 : decode b_Li_forget 9 = .ok (.iconst 0, 1) := by decide +kernel
theorem d_Li_forget_10 : decode b_Li_forget 10 = .ok (.invokestatic 32, 3) := by decide +kernel
theorem d_Li_forget_13 : decode b_Li_forget 13 = .ok (.return_, 1) := by decide +kernel
theorem g_Li_forget {X : WX} {d : Nat} (hd : 1 ≤ d)  (M : Mem)  : MG X gt d KE KE y_Li_forget b_Li_forget 1 none [vr 9] M (fun r M' => r = none ∧ M' = fillM (mset M 9 3 0) 10 13 0) := by
  refine MG_of_G (by decide) (Nat.le_of_ble_eq_true rfl) (Nat.le_refl _) (by decide) ?_
  show G X gt d KE KE y_Li_forget b_Li_forget 1 none _ 0 [(0, vr 9)] [] KE M
  refine G_aload (i := 0) (n := 0) (len := 1) (Or.inl ⟨0, rfl, rfl, d_Li_forget_0⟩) rfl (by decide) (G_pc (pc' := 1) rfl ?_)
  refine G_iconst (n := 0) d_Li_forget_1 (by decide) (G_pc (pc' := 2) rfl ?_)
  refine G_putL (o := 9) (c := 3) (k := 3) (ki := 3) (x := 0) d_Li_forget_2 fl_Li_25 rfl rfl (by decide) (by decide) (by decide) rfl rfl (tokI (by decide)) rfl (G_pc (pc' := 5) rfl ?_)
  refine G_aload (i := 0) (n := 0) (len := 1) (Or.inl ⟨0, rfl, rfl, d_Li_forget_5⟩) rfl (by decide) (G_pc (pc' := 6) rfl ?_)
  refine G_get (o := 9) (c := 3) (k := 0) (v := 10) d_Li_forget_6 fl_Li_9 rfl (by decide) (by decide) rfl rfl (G_pc (pc' := 9) rfl ?_)
  refine G_iconst (n := 0) d_Li_forget_9 (by decide) (G_pc (pc' := 10) rfl ?_)
  refine G_callS (K1 := KE) (d2 := 0) (as := [vr 10, vi 0]) (rest := []) d_Li_forget_10 mf_Ja_fill ml_Li_32 rfl rfl (Nat.le_of_ble_eq_true rfl) (by omega) ⟨Nat.le_refl _, Nat.le_refl _⟩ (g_Ja_fill (by omega) 0 _) (fun r1 M2 kq3 q3 => ?_)
  clear kq3; obtain ⟨q3a, q3b⟩ := q3; subst r1; subst M2
  refine G_ps (pc' := 13) (st' := []) rfl rfl ?_
  refine G_vret d_Li_forget_13 rfl rfl ?_
  exact ⟨rfl, rfl⟩

