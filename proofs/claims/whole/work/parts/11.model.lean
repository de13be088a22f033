def foF (p f : Int → Int) (name : Int) : Nat → Int → Int
  | 0, _ => -1
  | n + 1, c => if c < 0 then -1 else if 0 ≤ f (26 * c + name) then f (26 * c + name) else foF p f name n (p c)
theorem foF_neg {p f : Int → Int} {name : Int} {n : Nat} {c : Int} (h : c < 0) : foF p f name n c = -1 := by cases n <;> simp [foF, h]
theorem foF_hit {p f : Int → Int} {name : Int} {n : Nat} {c : Int} (h : ¬ c < 0) (h2 : 0 ≤ f (26 * c + name)) : foF p f name (n + 1) c = f (26 * c + name) := by simp [foF, h, h2]
theorem foF_s {p f : Int → Int} {name : Int} {n : Nat} {c : Int} (h : ¬ c < 0) (h2 : ¬ 0 ≤ f (26 * c + name)) : foF p f name (n + 1) c = foF p f name n (p c) := by simp [foF, h, h2]
def fieldM (M : Mem) (c name : Int) : Int := foF (fun j => M 56 j) (fun j => M 57 j) name 6 c
theorem d_Mo_fieldOf_0 : decode b_Mo_fieldOf 0 = .ok (.iload_n 1, 1) := by decide +kernel
theorem d_Mo_fieldOf_1 : decode b_Mo_fieldOf 1 = .ok (.istore_n 3, 1) := by decide +kernel
theorem d_Mo_fieldOf_2 : decode b_Mo_fieldOf 2 = .ok (.iconst 0, 1) := by decide +kernel
theorem d_Mo_fieldOf_3 : decode b_Mo_fieldOf 3 = .ok (.istore 4, 2) := by decide +kernel
theorem d_Mo_fieldOf_5 : decode b_Mo_fieldOf 5 = .ok (.iload 4, 2) := by decide +kernel
theorem d_Mo_fieldOf_7 : decode b_Mo_fieldOf 7 = .ok (.bipush 6, 2) := by decide +kernel
theorem d_Mo_fieldOf_9 : decode b_Mo_fieldOf 9 = .ok (.if_icmp .ge 46, 3) := by decide +kernel
theorem d_Mo_fieldOf_12 : decode b_Mo_fieldOf 12 = .ok (.iload_n 3, 1) := by decide +kernel
theorem d_Mo_fieldOf_13 : decode b_Mo_fieldOf 13 = .ok (.ifCond .lt 42, 3) := by decide +kernel
theorem d_Mo_fieldOf_16 : decode b_Mo_fieldOf 16 = .ok (.aload_n 0, 1) := by decide +kernel
theorem d_Mo_fieldOf_17 : decode b_Mo_fieldOf 17 = .ok (.getfield 13, 3) := by decide +kernel
theorem d_Mo_fieldOf_20 : decode b_Mo_fieldOf 20 = .ok (.bipush 26, 2) := by decide +kernel
theorem d_Mo_fieldOf_22 : decode b_Mo_fieldOf 22 = .ok (.iload_n 3, 1) := by decide +kernel
theorem d_Mo_fieldOf_23 : decode b_Mo_fieldOf 23 = .ok (.imul, 1) := by decide +kernel
theorem d_Mo_fieldOf_24 : decode b_Mo_fieldOf 24 = .ok (.iload_n 2, 1) := by decide +kernel
theorem d_Mo_fieldOf_25 : decode b_Mo_fieldOf 25 = .ok (.iadd, 1) := by decide +kernel
theorem d_Mo_fieldOf_26 : decode b_Mo_fieldOf 26 = .ok (.iaload, 1) := by decide +kernel
theorem d_Mo_fieldOf_27 : decode b_Mo_fieldOf 27 = .ok (.ifCond .lt 15, 3) := by decide +kernel
theorem d_Mo_fieldOf_30 : decode b_Mo_fieldOf 30 = .ok (.aload_n 0, 1) := by decide +kernel
theorem d_Mo_fieldOf_31 : decode b_Mo_fieldOf 31 = .ok (.getfield 13, 3) := by decide +kernel
theorem d_Mo_fieldOf_34 : decode b_Mo_fieldOf 34 = .ok (.bipush 26, 2) := by decide +kernel
theorem d_Mo_fieldOf_36 : decode b_Mo_fieldOf 36 = .ok (.iload_n 3, 1) := by decide +kernel
theorem d_Mo_fieldOf_37 : decode b_Mo_fieldOf 37 = .ok (.imul, 1) := by decide +kernel
theorem d_Mo_fieldOf_38 : decode b_Mo_fieldOf 38 = .ok (.iload_n 2, 1) := by decide +kernel
theorem d_Mo_fieldOf_39 : decode b_Mo_fieldOf 39 = .ok (.iadd, 1) := by decide +kernel
theorem d_Mo_fieldOf_40 : decode b_Mo_fieldOf 40 = .ok (.iaload, 1) := by decide +kernel
theorem d_Mo_fieldOf_41 : decode b_Mo_fieldOf 41 = .ok (.ireturn, 1) := by decide +kernel
theorem d_Mo_fieldOf_42 : decode b_Mo_fieldOf 42 = .ok (.aload_n 0, 1) := by decide +kernel
theorem d_Mo_fieldOf_43 : decode b_Mo_fieldOf 43 = .ok (.getfield 7, 3) := by decide +kernel
theorem d_Mo_fieldOf_46 : decode b_Mo_fieldOf 46 = .ok (.iload_n 3, 1) := by decide +kernel
theorem d_Mo_fieldOf_47 : decode b_Mo_fieldOf 47 = .ok (.iaload, 1) := by decide +kernel
theorem d_Mo_fieldOf_48 : decode b_Mo_fieldOf 48 = .ok (.istore_n 3, 1) := by decide +kernel
theorem d_Mo_fieldOf_49 : decode b_Mo_fieldOf 49 = .ok (.iinc 4 1, 3) := by decide +kernel
theorem d_Mo_fieldOf_52 : decode b_Mo_fieldOf 52 = .ok (.goto (-47), 3) := by decide +kernel
theorem d_Mo_fieldOf_55 : decode b_Mo_fieldOf 55 = .ok (.iconst (-1), 1) := by decide +kernel
theorem d_Mo_fieldOf_56 : decode b_Mo_fieldOf 56 = .ok (.ireturn, 1) := by decide +kernel
theorem g_Mo_fieldOf {X : WX} {d : Nat} (hd : 0 ≤ d) (c0 name : Int) (M : Mem) (hP : okP M) (hc0 : -1 ≤ c0 ∧ c0 < 6) (hname : 0 ≤ name ∧ name < 26) : MG X gt d KE KE y_Mo_fieldOf b_Mo_fieldOf 5 (some .int) [vr 55, vi c0, vi name] M (fun r M' => r = some (vi (fieldM M c0 name)) ∧ M' = M) := by
  refine MG_of_G (by decide) (Nat.le_of_ble_eq_true rfl) (Nat.le_refl _) (by decide) ?_
  show G X gt d KE KE y_Mo_fieldOf b_Mo_fieldOf 5 (some .int) _ 0 [(0, vr 55), (1, vi c0), (2, vi name)] [] KE M
  refine G_rngl (i := 1) rfl (fun hr1 => ?_)
  refine G_rngl (i := 2) rfl (fun hr2 => ?_)
  have loop : ∀ (n : Nat) (k c : Int), k + n = 6 → 0 ≤ k → -1 ≤ c ∧ c < 6 → foF (fun j => M 56 j) (fun j => M 57 j) name n c = fieldM M c0 name → G X gt d KE KE y_Mo_fieldOf b_Mo_fieldOf 5 (some .int) (fun r M' => r = some (vi (fieldM M c0 name)) ∧ M' = M) 5 [(4, vi k), (3, vi c), (0, vr 55), (1, vi c0), (2, vi name)] [] KE M := by
    intro n
    induction n with
    | zero =>
      intro k c h1 h2 h3 h4
      refine G_iload (i := 4) (n := 0) (len := 2) (Or.inr ⟨rfl, d_Mo_fieldOf_5⟩) rfl (G_pc (pc' := 7) rfl ?_)
      refine G_bipush (n := 6) d_Mo_fieldOf_7 (by decide) (G_pc (pc' := 9) rfl ?_)
      refine G_icmp_ge (tgt := 55) d_Mo_fieldOf_9 (by decide) (fun h701 => ?_) (fun h701 => absurd h701 (by omega))
      refine G_iconst (n := (-1)) d_Mo_fieldOf_55 (by decide) (G_pc (pc' := 56) rfl ?_)
      refine G_iret d_Mo_fieldOf_56 rfl (tokI (by decide)) rfl rfl ?_
      first | exact ret_e (h4.symm.trans (foF_neg (by omega))).symm rfl | exact ret_e h4 rfl | (exfalso; omega)
    | succ n ih =>
      intro k c h1 h2 h3 h4
      refine G_iload (i := 4) (n := 0) (len := 2) (Or.inr ⟨rfl, d_Mo_fieldOf_5⟩) rfl (G_pc (pc' := 7) rfl ?_)
      refine G_bipush (n := 6) d_Mo_fieldOf_7 (by decide) (G_pc (pc' := 9) rfl ?_)
      refine G_icmp_ge (tgt := 55) d_Mo_fieldOf_9 (by decide) (fun h801 => absurd h801 (by omega)) (fun h801 => G_pc (pc' := 12) rfl ?_)
      refine G_iload (i := 3) (n := 1) (len := 1) (Or.inl ⟨3, rfl, rfl, d_Mo_fieldOf_12⟩) rfl (G_pc (pc' := 13) rfl ?_)
      refine G_if_lt (tgt := 55) d_Mo_fieldOf_13 (by decide) (fun h802 => ?_) (fun h802 => G_pc (pc' := 16) rfl ?_)
      · skip
        refine G_iconst (n := (-1)) d_Mo_fieldOf_55 (by decide) (G_pc (pc' := 56) rfl ?_)
        refine G_iret d_Mo_fieldOf_56 rfl (tokI (by decide)) rfl rfl ?_
        first | exact ret_e (h4.symm.trans (foF_neg (by omega))).symm rfl | exact ret_e h4 rfl | (exfalso; omega)
      · skip
        refine G_aload (i := 0) (n := 2) (len := 1) (Or.inl ⟨0, rfl, rfl, d_Mo_fieldOf_16⟩) rfl (by decide) (G_pc (pc' := 17) rfl ?_)
        refine G_get (o := 55) (c := 9) (k := 2) (v := 57) d_Mo_fieldOf_17 fl_Mo_13 rfl (by decide) (by decide) rfl rfl (G_pc (pc' := 20) rfl ?_)
        refine G_bipush (n := 26) d_Mo_fieldOf_20 (by decide) (G_pc (pc' := 22) rfl ?_)
        refine G_iload (i := 3) (n := 1) (len := 1) (Or.inl ⟨3, rfl, rfl, d_Mo_fieldOf_22⟩) rfl (G_pc (pc' := 23) rfl ?_)
        refine G_imul d_Mo_fieldOf_23 (by omega) (G_pc (pc' := 24) rfl ?_)
        refine G_iload (i := 2) (n := 4) (len := 1) (Or.inl ⟨2, rfl, rfl, d_Mo_fieldOf_24⟩) rfl (G_pc (pc' := 25) rfl ?_)
        refine G_iadd d_Mo_fieldOf_25 (by omega) (G_pc (pc' := 26) rfl ?_)
        refine G_iaload (o := 57) (n := 156) (i := (26 * c) + name) (v := M 57 ((26 * c) + name)) d_Mo_fieldOf_26 rfl ⟨by decide, by decide⟩ (by omega) (rd_arr rfl) (fun t803 => G_pc (pc' := 27) rfl ?_)
        have t803 := tok_i t803
        refine G_if_lt (tgt := 42) d_Mo_fieldOf_27 (by decide) (fun h804 => ?_) (fun h804 => G_pc (pc' := 30) rfl ?_)
        · skip
          refine G_aload (i := 0) (n := 2) (len := 1) (Or.inl ⟨0, rfl, rfl, d_Mo_fieldOf_42⟩) rfl (by decide) (G_pc (pc' := 43) rfl ?_)
          refine G_get (o := 55) (c := 9) (k := 1) (v := 56) d_Mo_fieldOf_43 fl_Mo_7 rfl (by decide) (by decide) rfl rfl (G_pc (pc' := 46) rfl ?_)
          refine G_iload (i := 3) (n := 1) (len := 1) (Or.inl ⟨3, rfl, rfl, d_Mo_fieldOf_46⟩) rfl (G_pc (pc' := 47) rfl ?_)
          refine G_iaload (o := 56) (n := 6) (i := c) (v := M 56 c) d_Mo_fieldOf_47 rfl ⟨by decide, by decide⟩ (by omega) (rd_arr rfl) (fun t805 => G_pc (pc' := 48) rfl ?_)
          have t805 := tok_i t805
          refine G_istore (i := 3) (len := 1) (ls' := [(3, vi (M 56 c)), (4, vi k), (0, vr 55), (1, vi c0), (2, vi name)]) (Or.inl ⟨3, rfl, rfl, d_Mo_fieldOf_48⟩) (by decide) rfl (G_pc (pc' := 49) rfl ?_)
          refine G_iinc (i := 4) (n := 1) (z := 1) (ls' := [(4, vi (k + 1)), (3, vi (M 56 c)), (0, vr 55), (1, vi c0), (2, vi name)]) d_Mo_fieldOf_49 rfl (by decide) (by omega) rfl (G_pc (pc' := 52) rfl ?_)
          refine G_goto (tgt := 5) d_Mo_fieldOf_52 (by decide) ?_
          exact ih (k + 1) (M 56 c) (by omega) (by omega) (hP _ (by omega) (by omega)) (h4 ▸ (foF_s (by omega) (by omega)).symm)
        · skip
          refine G_aload (i := 0) (n := 2) (len := 1) (Or.inl ⟨0, rfl, rfl, d_Mo_fieldOf_30⟩) rfl (by decide) (G_pc (pc' := 31) rfl ?_)
          refine G_get (o := 55) (c := 9) (k := 2) (v := 57) d_Mo_fieldOf_31 fl_Mo_13 rfl (by decide) (by decide) rfl rfl (G_pc (pc' := 34) rfl ?_)
          refine G_bipush (n := 26) d_Mo_fieldOf_34 (by decide) (G_pc (pc' := 36) rfl ?_)
          refine G_iload (i := 3) (n := 1) (len := 1) (Or.inl ⟨3, rfl, rfl, d_Mo_fieldOf_36⟩) rfl (G_pc (pc' := 37) rfl ?_)
          refine G_imul d_Mo_fieldOf_37 (by omega) (G_pc (pc' := 38) rfl ?_)
          refine G_iload (i := 2) (n := 4) (len := 1) (Or.inl ⟨2, rfl, rfl, d_Mo_fieldOf_38⟩) rfl (G_pc (pc' := 39) rfl ?_)
          refine G_iadd d_Mo_fieldOf_39 (by omega) (G_pc (pc' := 40) rfl ?_)
          refine G_iaload (o := 57) (n := 156) (i := (26 * c) + name) (v := M 57 ((26 * c) + name)) d_Mo_fieldOf_40 rfl ⟨by decide, by decide⟩ (by omega) (rd_arr rfl) (fun t806 => G_pc (pc' := 41) rfl ?_)
          have t806 := tok_i t806
          refine G_iret d_Mo_fieldOf_41 rfl (tokI (by omega)) rfl rfl ?_
          exact ret_e ((foF_hit (by omega) (by omega)).symm.trans h4) rfl
  refine G_iload (i := 1) (n := 1) (len := 1) (Or.inl ⟨1, rfl, rfl, d_Mo_fieldOf_0⟩) rfl (G_pc (pc' := 1) rfl ?_)
  refine G_istore (i := 3) (len := 1) (ls' := [(3, vi c0), (0, vr 55), (1, vi c0), (2, vi name)]) (Or.inl ⟨3, rfl, rfl, d_Mo_fieldOf_1⟩) (by decide) rfl (G_pc (pc' := 2) rfl ?_)
  refine G_iconst (n := 0) d_Mo_fieldOf_2 (by decide) (G_pc (pc' := 3) rfl ?_)
  refine G_istore (i := 4) (len := 2) (ls' := [(4, vi 0), (3, vi c0), (0, vr 55), (1, vi c0), (2, vi name)]) (Or.inr ⟨rfl, d_Mo_fieldOf_3⟩) (by decide) rfl (G_pc (pc' := 5) rfl ?_)
  exact loop 6 0 c0 (by omega) (by omega) (by omega) rfl

def elemM (a : Int) : Int := if a = 10 then 0 else a - 7
theorem d_Mo_elementOf_0 : decode b_Mo_elementOf 0 = .ok (.iload_n 0, 1) := by decide +kernel
theorem d_Mo_elementOf_1 : decode b_Mo_elementOf 1 = .ok (.bipush 10, 2) := by decide +kernel
theorem d_Mo_elementOf_3 : decode b_Mo_elementOf 3 = .ok (.if_icmp .ne 7, 3) := by decide +kernel
theorem d_Mo_elementOf_6 : decode b_Mo_elementOf 6 = .ok (.iconst 0, 1) := by decide +kernel
theorem d_Mo_elementOf_7 : decode b_Mo_elementOf 7 = .ok (.goto 7, 3) := by decide +kernel
theorem d_Mo_elementOf_10 : decode b_Mo_elementOf 10 = .ok (.iload_n 0, 1) := by decide +kernel
theorem d_Mo_elementOf_11 : decode b_Mo_elementOf 11 = .ok (.bipush 7, 2) := by decide +kernel
theorem d_Mo_elementOf_13 : decode b_Mo_elementOf 13 = .ok (.isub, 1) := by decide +kernel
theorem d_Mo_elementOf_14 : decode b_Mo_elementOf 14 = .ok (.ireturn, 1) := by decide +kernel
theorem g_Mo_elementOf {X : WX} {d : Nat} (hd : 0 ≤ d) (a : Int) (M : Mem) (ha : 0 ≤ a ∧ a < 18) : MG X gt d KE KE y_Mo_elementOf b_Mo_elementOf 1 (some .int) [vi a] M (fun r M' => r = some (vi (elemM a)) ∧ M' = M) := by
  refine MG_of_G (by decide) (Nat.le_of_ble_eq_true rfl) (Nat.le_refl _) (by decide) ?_
  show G X gt d KE KE y_Mo_elementOf b_Mo_elementOf 1 (some .int) _ 0 [(0, vi a)] [] KE M
  refine G_rngl (i := 0) rfl (fun hr0 => ?_)
  refine G_iload (i := 0) (n := 0) (len := 1) (Or.inl ⟨0, rfl, rfl, d_Mo_elementOf_0⟩) rfl (G_pc (pc' := 1) rfl ?_)
  refine G_bipush (n := 10) d_Mo_elementOf_1 (by decide) (G_pc (pc' := 3) rfl ?_)
  refine G_icmp_ne (tgt := 10) d_Mo_elementOf_3 (by decide) (fun h1 => ?_) (fun h1 => G_pc (pc' := 6) rfl ?_)
  · skip
    refine G_iload (i := 0) (n := 0) (len := 1) (Or.inl ⟨0, rfl, rfl, d_Mo_elementOf_10⟩) rfl (G_pc (pc' := 11) rfl ?_)
    refine G_bipush (n := 7) d_Mo_elementOf_11 (by decide) (G_pc (pc' := 13) rfl ?_)
    refine G_isub d_Mo_elementOf_13 (by omega) (G_pc (pc' := 14) rfl ?_)
    refine G_iret d_Mo_elementOf_14 rfl (tokI (by omega)) rfl rfl ?_
    exact ret_e (by simp [elemM, *]) rfl
  · skip
    refine G_iconst (n := 0) d_Mo_elementOf_6 (by decide) (G_pc (pc' := 7) rfl ?_)
    refine G_goto (tgt := 14) d_Mo_elementOf_7 (by decide) ?_
    refine G_iret d_Mo_elementOf_14 rfl (tokI (by decide)) rfl rfl ?_
    exact ret_e (by simp [elemM, *]) rfl

def validB (M : Mem) (kind v : Int) : Bool :=
  if kind = 0 then decide (v = w32 v) else if kind < 4 then decide (kind = 1) || (decide (0 ≤ v) && decide (v ≤ if kind = 2 then 65535 else 1))
  else decide (v = 0) || (decide (0 < v) && decide (v ≤ M 55 5) && suitsB M (M 60 v) kind)
def okK (M : Mem) : Prop := ∀ o, 1 ≤ o → o ≤ M 55 5 → 4 ≤ M 60 o ∧ M 60 o < 17
theorem w32_small {v : Int} (h : 0 ≤ v ∧ v < 2147483648) : w32 v = v := w32_id (by omega)
theorem d_Mo_valid_0 : decode b_Mo_valid 0 = .ok (.iload_n 1, 1) := by decide +kernel
theorem d_Mo_valid_1 : decode b_Mo_valid 1 = .ok (.ifCond .ne 17, 3) := by decide +kernel
theorem d_Mo_valid_4 : decode b_Mo_valid 4 = .ok (.lload_n 2, 1) := by decide +kernel
theorem d_Mo_valid_5 : decode b_Mo_valid 5 = .ok (.lload_n 2, 1) := by decide +kernel
theorem d_Mo_valid_6 : decode b_Mo_valid 6 = .ok (.l2i, 1) := by decide +kernel
theorem d_Mo_valid_7 : decode b_Mo_valid 7 = .ok (.i2l, 1) := by decide +kernel
theorem d_Mo_valid_8 : decode b_Mo_valid 8 = .ok (.lcmp, 1) := by decide +kernel
theorem d_Mo_valid_9 : decode b_Mo_valid 9 = .ok (.ifCond .ne 7, 3) := by decide +kernel
theorem d_Mo_valid_12 : decode b_Mo_valid 12 = .ok (.iconst 1, 1) := by decide +kernel
theorem d_Mo_valid_13 : decode b_Mo_valid 13 = .ok (.goto 4, 3) := by decide +kernel
theorem d_Mo_valid_16 : decode b_Mo_valid 16 = .ok (.iconst 0, 1) := by decide +kernel
theorem d_Mo_valid_17 : decode b_Mo_valid 17 = .ok (.ireturn, 1) := by decide +kernel
theorem d_Mo_valid_18 : decode b_Mo_valid 18 = .ok (.iload_n 1, 1) := by decide +kernel
theorem d_Mo_valid_19 : decode b_Mo_valid 19 = .ok (.iconst 4, 1) := by decide +kernel
theorem d_Mo_valid_20 : decode b_Mo_valid 20 = .ok (.if_icmp .ge 37, 3) := by decide +kernel
theorem d_Mo_valid_23 : decode b_Mo_valid 23 = .ok (.iload_n 1, 1) := by decide +kernel
theorem d_Mo_valid_24 : decode b_Mo_valid 24 = .ok (.iconst 1, 1) := by decide +kernel
theorem d_Mo_valid_25 : decode b_Mo_valid 25 = .ok (.if_icmp .eq 26, 3) := by decide +kernel
theorem d_Mo_valid_28 : decode b_Mo_valid 28 = .ok (.lload_n 2, 1) := by decide +kernel
theorem d_Mo_valid_29 : decode b_Mo_valid 29 = .ok (.lconst 0, 1) := by decide +kernel
theorem d_Mo_valid_30 : decode b_Mo_valid 30 = .ok (.lcmp, 1) := by decide +kernel
theorem d_Mo_valid_31 : decode b_Mo_valid 31 = .ok (.ifCond .lt 24, 3) := by decide +kernel
theorem d_Mo_valid_34 : decode b_Mo_valid 34 = .ok (.lload_n 2, 1) := by decide +kernel
theorem d_Mo_valid_35 : decode b_Mo_valid 35 = .ok (.iload_n 1, 1) := by decide +kernel
theorem d_Mo_valid_36 : decode b_Mo_valid 36 = .ok (.iconst 2, 1) := by decide +kernel
theorem d_Mo_valid_37 : decode b_Mo_valid 37 = .ok (.if_icmp .ne 9, 3) := by decide +kernel
theorem d_Mo_valid_40 : decode b_Mo_valid 40 = .ok (.ldc2_w 136, 3) := by decide +kernel
theorem d_Mo_valid_43 : decode b_Mo_valid 43 = .ok (.goto 4, 3) := by decide +kernel
theorem d_Mo_valid_46 : decode b_Mo_valid 46 = .ok (.lconst 1, 1) := by decide +kernel
theorem d_Mo_valid_47 : decode b_Mo_valid 47 = .ok (.lcmp, 1) := by decide +kernel
theorem d_Mo_valid_48 : decode b_Mo_valid 48 = .ok (.ifCond .gt 7, 3) := by decide +kernel
theorem d_Mo_valid_51 : decode b_Mo_valid 51 = .ok (.iconst 1, 1) := by decide +kernel
theorem d_Mo_valid_52 : decode b_Mo_valid 52 = .ok (.goto 4, 3) := by decide +kernel
theorem d_Mo_valid_55 : decode b_Mo_valid 55 = .ok (.iconst 0, 1) := by decide +kernel
theorem d_Mo_valid_56 : decode b_Mo_valid 56 = .ok (.ireturn, 1) := by decide +kernel
theorem d_Mo_valid_57 : decode b_Mo_valid 57 = .ok (.lload_n 2, 1) := by decide +kernel
theorem d_Mo_valid_58 : decode b_Mo_valid 58 = .ok (.lconst 0, 1) := by decide +kernel
theorem d_Mo_valid_59 : decode b_Mo_valid 59 = .ok (.lcmp, 1) := by decide +kernel
theorem d_Mo_valid_60 : decode b_Mo_valid 60 = .ok (.ifCond .eq 34, 3) := by decide +kernel
theorem d_Mo_valid_63 : decode b_Mo_valid 63 = .ok (.lload_n 2, 1) := by decide +kernel
theorem d_Mo_valid_64 : decode b_Mo_valid 64 = .ok (.lconst 0, 1) := by decide +kernel
theorem d_Mo_valid_65 : decode b_Mo_valid 65 = .ok (.lcmp, 1) := by decide +kernel
theorem d_Mo_valid_66 : decode b_Mo_valid 66 = .ok (.ifCond .le 32, 3) := by decide +kernel
theorem d_Mo_valid_69 : decode b_Mo_valid 69 = .ok (.lload_n 2, 1) := by decide +kernel
theorem d_Mo_valid_70 : decode b_Mo_valid 70 = .ok (.aload_n 0, 1) := by decide +kernel
theorem d_Mo_valid_71 : decode b_Mo_valid 71 = .ok (.getfield 130, 3) := by decide +kernel
theorem d_Mo_valid_74 : decode b_Mo_valid 74 = .ok (.i2l, 1) := by decide +kernel
theorem d_Mo_valid_75 : decode b_Mo_valid 75 = .ok (.lcmp, 1) := by decide +kernel
theorem d_Mo_valid_76 : decode b_Mo_valid 76 = .ok (.ifCond .gt 22, 3) := by decide +kernel
theorem d_Mo_valid_79 : decode b_Mo_valid 79 = .ok (.aload_n 0, 1) := by decide +kernel
theorem d_Mo_valid_80 : decode b_Mo_valid 80 = .ok (.aload_n 0, 1) := by decide +kernel
theorem d_Mo_valid_81 : decode b_Mo_valid 81 = .ok (.getfield 23, 3) := by decide +kernel
theorem d_Mo_valid_84 : decode b_Mo_valid 84 = .ok (.lload_n 2, 1) := by decide +kernel
theorem d_Mo_valid_85 : decode b_Mo_valid 85 = .ok (.l2i, 1) := by decide +kernel
theorem d_Mo_valid_86 : decode b_Mo_valid 86 = .ok (.iaload, 1) := by decide +kernel
theorem d_Mo_valid_87 : decode b_Mo_valid 87 = .ok (.iload_n 1, 1) := by decide +kernel
theorem d_Mo_valid_88 : decode b_Mo_valid 88 = .ok (.invokevirtual 120, 3) := by decide +kernel
theorem d_Mo_valid_91 : decode b_Mo_valid 91 = .ok (.ifCond .eq 7, 3) := by decide +kernel
theorem d_Mo_valid_94 : decode b_Mo_valid 94 = .ok (.iconst 1, 1) := by decide +kernel
theorem d_Mo_valid_95 : decode b_Mo_valid 95 = .ok (.goto 4, 3) := by decide +kernel
theorem d_Mo_valid_98 : decode b_Mo_valid 98 = .ok (.iconst 0, 1) := by decide +kernel
theorem d_Mo_valid_99 : decode b_Mo_valid 99 = .ok (.ireturn, 1) := by decide +kernel
theorem g_Mo_valid {X : WX} {d : Nat} (hd : 2 ≤ d) (kind v : Int) (M : Mem) (hP : okP M) (hO : 0 ≤ M 55 5 ∧ M 55 5 ≤ 12) (hk : okK M) (hkind : 0 ≤ kind ∧ kind < 17) : MG X gt d KE KE y_Mo_valid b_Mo_valid 4 (some .boolean) [vr 55, vi kind, vl v] M (fun r M' => r = some (vi (b2i (validB M kind v))) ∧ M' = M) := by
  refine MG_of_G (by decide) (Nat.le_of_ble_eq_true rfl) (Nat.le_refl _) (by decide) ?_
  show G X gt d KE KE y_Mo_valid b_Mo_valid 4 (some .boolean) _ 0 [(0, vr 55), (1, vi kind), (2, vl v)] [] KE M
  refine G_rngl (i := 1) rfl (fun hr1 => ?_)
  refine G_rngL (i := 2) rfl (fun hr2 => ?_)
  refine G_iload (i := 1) (n := 1) (len := 1) (Or.inl ⟨1, rfl, rfl, d_Mo_valid_0⟩) rfl (G_pc (pc' := 1) rfl ?_)
  refine G_if_ne (tgt := 18) d_Mo_valid_1 (by decide) (fun h1 => ?_) (fun h1 => G_pc (pc' := 4) rfl ?_)
  · skip
    refine G_iload (i := 1) (n := 1) (len := 1) (Or.inl ⟨1, rfl, rfl, d_Mo_valid_18⟩) rfl (G_pc (pc' := 19) rfl ?_)
    refine G_iconst (n := 4) d_Mo_valid_19 (by decide) (G_pc (pc' := 20) rfl ?_)
    refine G_icmp_ge (tgt := 57) d_Mo_valid_20 (by decide) (fun h2 => ?_) (fun h2 => G_pc (pc' := 23) rfl ?_)
    · skip
      refine G_lload (i := 2) (n := 2) (len := 1) (Or.inl ⟨2, rfl, rfl, d_Mo_valid_57⟩) rfl (G_pc (pc' := 58) rfl ?_)
      refine G_lconst0 d_Mo_valid_58 (G_pc (pc' := 59) rfl ?_)
      refine G_lcmp_eq (tgt := 94) d_Mo_valid_59 d_Mo_valid_60 (by decide) (fun h3 => ?_) (fun h3 => G_pc (pc' := 63) rfl ?_)
      · skip
        refine G_iconst (n := 1) d_Mo_valid_94 (by decide) (G_pc (pc' := 95) rfl ?_)
        refine G_goto (tgt := 99) d_Mo_valid_95 (by decide) ?_
        refine G_iret d_Mo_valid_99 rfl (tokZ (by decide)) rfl rfl ?_
        exact ret_t (by unfold validB; grind) rfl
      · skip
        refine G_lload (i := 2) (n := 2) (len := 1) (Or.inl ⟨2, rfl, rfl, d_Mo_valid_63⟩) rfl (G_pc (pc' := 64) rfl ?_)
        refine G_lconst0 d_Mo_valid_64 (G_pc (pc' := 65) rfl ?_)
        refine G_lcmp_le (tgt := 98) d_Mo_valid_65 d_Mo_valid_66 (by decide) (fun h4 => ?_) (fun h4 => G_pc (pc' := 69) rfl ?_)
        · skip
          refine G_iconst (n := 0) d_Mo_valid_98 (by decide) (G_pc (pc' := 99) rfl ?_)
          refine G_iret d_Mo_valid_99 rfl (tokZ (by decide)) rfl rfl ?_
          exact ret_f (by unfold validB; grind) rfl
        · skip
          refine G_lload (i := 2) (n := 2) (len := 1) (Or.inl ⟨2, rfl, rfl, d_Mo_valid_69⟩) rfl (G_pc (pc' := 70) rfl ?_)
          refine G_aload (i := 0) (n := 0) (len := 1) (Or.inl ⟨0, rfl, rfl, d_Mo_valid_70⟩) rfl (by decide) (G_pc (pc' := 71) rfl ?_)
          refine G_get (o := 55) (c := 9) (k := 5) (v := M 55 5) d_Mo_valid_71 fl_Mo_130 rfl (by decide) (by decide) rfl rfl (G_pc (pc' := 74) rfl ?_)
          refine G_i2l d_Mo_valid_74 (G_pc (pc' := 75) rfl ?_)
          refine G_lcmp_gt (tgt := 98) d_Mo_valid_75 d_Mo_valid_76 (by decide) (fun h5 => ?_) (fun h5 => G_pc (pc' := 79) rfl ?_)
          · skip
            refine G_iconst (n := 0) d_Mo_valid_98 (by decide) (G_pc (pc' := 99) rfl ?_)
            refine G_iret d_Mo_valid_99 rfl (tokZ (by decide)) rfl rfl ?_
            exact ret_f (by unfold validB; grind) rfl
          · skip
            refine G_aload (i := 0) (n := 0) (len := 1) (Or.inl ⟨0, rfl, rfl, d_Mo_valid_79⟩) rfl (by decide) (G_pc (pc' := 80) rfl ?_)
            refine G_aload (i := 0) (n := 0) (len := 1) (Or.inl ⟨0, rfl, rfl, d_Mo_valid_80⟩) rfl (by decide) (G_pc (pc' := 81) rfl ?_)
            refine G_get (o := 55) (c := 9) (k := 6) (v := 60) d_Mo_valid_81 fl_Mo_23 rfl (by decide) (by decide) rfl rfl (G_pc (pc' := 84) rfl ?_)
            refine G_lload (i := 2) (n := 2) (len := 1) (Or.inl ⟨2, rfl, rfl, d_Mo_valid_84⟩) rfl (G_pc (pc' := 85) rfl ?_)
            refine G_l2i d_Mo_valid_85 (G_pc (pc' := 86) rfl ?_)
            rw [w32_small (show 0 ≤ v ∧ v < 2147483648 by omega)]
            refine G_iaload (o := 60) (n := 13) (i := v) (v := M 60 v) d_Mo_valid_86 rfl ⟨by decide, by decide⟩ (by omega) (rd_arr rfl) (fun t6 => G_pc (pc' := 87) rfl ?_)
            have t6 := tok_i t6
            refine G_iload (i := 1) (n := 1) (len := 1) (Or.inl ⟨1, rfl, rfl, d_Mo_valid_87⟩) rfl (G_pc (pc' := 88) rfl ?_)
            refine G_callV (K1 := KE) (d2 := 1) (o := 55) (cl := 9) (as := [vi (M 60 v), vi kind]) (rest := []) d_Mo_valid_88 mf_Mo_suits ml_Mo_120 rfl rfl (by decide) rfl rfl (by decide) (by omega) ⟨Nat.le_refl _, Nat.le_refl _⟩ (g_Mo_suits (by omega) (M 60 v) kind _ hP ⟨by have := hk v (by omega) (by omega); omega, by have := hk v (by omega) (by omega); omega⟩ (by omega)) (fun r7 M8 kq9 q9 => ?_)
            clear kq9; obtain ⟨q9a, q9b⟩ := q9; subst r7; subst M8
            refine G_ps (pc' := 91) (st' := [vi (b2i (suitsB M (M 60 v) kind))]) rfl rfl ?_
            refine G_if_eq (tgt := 98) d_Mo_valid_91 (by decide) (fun h10 => ?_) (fun h10 => G_pc (pc' := 94) rfl ?_)
            · skip
              replace h10 := b2i_0.mp h10
              refine G_iconst (n := 0) d_Mo_valid_98 (by decide) (G_pc (pc' := 99) rfl ?_)
              refine G_iret d_Mo_valid_99 rfl (tokZ (by decide)) rfl rfl ?_
              exact ret_f (by unfold validB; grind) rfl
            · skip
              replace h10 := b2i_nz.mp h10
              refine G_iconst (n := 1) d_Mo_valid_94 (by decide) (G_pc (pc' := 95) rfl ?_)
              refine G_goto (tgt := 99) d_Mo_valid_95 (by decide) ?_
              refine G_iret d_Mo_valid_99 rfl (tokZ (by decide)) rfl rfl ?_
              exact ret_t (by unfold validB; grind) rfl
    · skip
      refine G_iload (i := 1) (n := 1) (len := 1) (Or.inl ⟨1, rfl, rfl, d_Mo_valid_23⟩) rfl (G_pc (pc' := 24) rfl ?_)
      refine G_iconst (n := 1) d_Mo_valid_24 (by decide) (G_pc (pc' := 25) rfl ?_)
      refine G_icmp_eq (tgt := 51) d_Mo_valid_25 (by decide) (fun h11 => ?_) (fun h11 => G_pc (pc' := 28) rfl ?_)
      · skip
        refine G_iconst (n := 1) d_Mo_valid_51 (by decide) (G_pc (pc' := 52) rfl ?_)
        refine G_goto (tgt := 56) d_Mo_valid_52 (by decide) ?_
        refine G_iret d_Mo_valid_56 rfl (tokZ (by decide)) rfl rfl ?_
        exact ret_t (by unfold validB; grind) rfl
      · skip
        refine G_lload (i := 2) (n := 2) (len := 1) (Or.inl ⟨2, rfl, rfl, d_Mo_valid_28⟩) rfl (G_pc (pc' := 29) rfl ?_)
        refine G_lconst0 d_Mo_valid_29 (G_pc (pc' := 30) rfl ?_)
        refine G_lcmp_lt (tgt := 55) d_Mo_valid_30 d_Mo_valid_31 (by decide) (fun h12 => ?_) (fun h12 => G_pc (pc' := 34) rfl ?_)
        · skip
          refine G_iconst (n := 0) d_Mo_valid_55 (by decide) (G_pc (pc' := 56) rfl ?_)
          refine G_iret d_Mo_valid_56 rfl (tokZ (by decide)) rfl rfl ?_
          exact ret_f (by unfold validB; grind) rfl
        · skip
          refine G_lload (i := 2) (n := 2) (len := 1) (Or.inl ⟨2, rfl, rfl, d_Mo_valid_34⟩) rfl (G_pc (pc' := 35) rfl ?_)
          refine G_iload (i := 1) (n := 1) (len := 1) (Or.inl ⟨1, rfl, rfl, d_Mo_valid_35⟩) rfl (G_pc (pc' := 36) rfl ?_)
          refine G_iconst (n := 2) d_Mo_valid_36 (by decide) (G_pc (pc' := 37) rfl ?_)
          refine G_icmp_ne (tgt := 46) d_Mo_valid_37 (by decide) (fun h13 => ?_) (fun h13 => G_pc (pc' := 40) rfl ?_)
          · skip
            refine G_lconst1 d_Mo_valid_46 (G_pc (pc' := 47) rfl ?_)
            refine G_lcmp_gt (tgt := 55) d_Mo_valid_47 d_Mo_valid_48 (by decide) (fun h14 => ?_) (fun h14 => G_pc (pc' := 51) rfl ?_)
            · skip
              refine G_iconst (n := 0) d_Mo_valid_55 (by decide) (G_pc (pc' := 56) rfl ?_)
              refine G_iret d_Mo_valid_56 rfl (tokZ (by decide)) rfl rfl ?_
              exact ret_f (by unfold validB; grind) rfl
            · skip
              refine G_iconst (n := 1) d_Mo_valid_51 (by decide) (G_pc (pc' := 52) rfl ?_)
              refine G_goto (tgt := 56) d_Mo_valid_52 (by decide) ?_
              refine G_iret d_Mo_valid_56 rfl (tokZ (by decide)) rfl rfl ?_
              exact ret_t (by unfold validB; grind) rfl
          · skip
            refine G_ldc2 (x := 65535) d_Mo_valid_40 k2_Mo_136 (by decide) (G_pc (pc' := 43) rfl ?_)
            refine G_goto (tgt := 47) d_Mo_valid_43 (by decide) ?_
            refine G_lcmp_gt (tgt := 55) d_Mo_valid_47 d_Mo_valid_48 (by decide) (fun h15 => ?_) (fun h15 => G_pc (pc' := 51) rfl ?_)
            · skip
              refine G_iconst (n := 0) d_Mo_valid_55 (by decide) (G_pc (pc' := 56) rfl ?_)
              refine G_iret d_Mo_valid_56 rfl (tokZ (by decide)) rfl rfl ?_
              exact ret_f (by unfold validB; grind) rfl
            · skip
              refine G_iconst (n := 1) d_Mo_valid_51 (by decide) (G_pc (pc' := 52) rfl ?_)
              refine G_goto (tgt := 56) d_Mo_valid_52 (by decide) ?_
              refine G_iret d_Mo_valid_56 rfl (tokZ (by decide)) rfl rfl ?_
              exact ret_t (by unfold validB; grind) rfl
  · skip
    refine G_lload (i := 2) (n := 2) (len := 1) (Or.inl ⟨2, rfl, rfl, d_Mo_valid_4⟩) rfl (G_pc (pc' := 5) rfl ?_)
    refine G_lload (i := 2) (n := 2) (len := 1) (Or.inl ⟨2, rfl, rfl, d_Mo_valid_5⟩) rfl (G_pc (pc' := 6) rfl ?_)
    refine G_l2i d_Mo_valid_6 (G_pc (pc' := 7) rfl ?_)
    refine G_i2l d_Mo_valid_7 (G_pc (pc' := 8) rfl ?_)
    refine G_lcmp_ne (tgt := 16) d_Mo_valid_8 d_Mo_valid_9 (by decide) (fun h16 => ?_) (fun h16 => G_pc (pc' := 12) rfl ?_)
    · skip
      refine G_iconst (n := 0) d_Mo_valid_16 (by decide) (G_pc (pc' := 17) rfl ?_)
      refine G_iret d_Mo_valid_17 rfl (tokZ (by decide)) rfl rfl ?_
      exact ret_f (by unfold validB; grind) rfl
    · skip
      refine G_iconst (n := 1) d_Mo_valid_12 (by decide) (G_pc (pc' := 13) rfl ?_)
      refine G_goto (tgt := 17) d_Mo_valid_13 (by decide) ?_
      refine G_iret d_Mo_valid_17 rfl (tokZ (by decide)) rfl rfl ?_
      exact ret_t (by unfold validB; grind) rfl

