def hasReq (M : Mem) (p : Int) : Prop := ∃ k, 0 ≤ k ∧ k < M 55 21 ∧ M 72 k = p
def sendM (M : Mem) (p : Int) : Mem := mset (mset (mset (mset M 72 (M 55 21) p) 73 (M 55 21) (M 55 24)) 55 21 (M 55 21 + 1)) 55 24 (M 55 24 + 1)
theorem d_Mo_send_0 : decode b_Mo_send 0 = .ok (.iconst 0, 1) := by decide +kernel
theorem d_Mo_send_1 : decode b_Mo_send 1 = .ok (.istore_n 2, 1) := by decide +kernel
theorem d_Mo_send_2 : decode b_Mo_send 2 = .ok (.iload_n 2, 1) := by decide +kernel
theorem d_Mo_send_3 : decode b_Mo_send 3 = .ok (.aload_n 0, 1) := by decide +kernel
theorem d_Mo_send_4 : decode b_Mo_send 4 = .ok (.getfield 150, 3) := by decide +kernel
theorem d_Mo_send_7 : decode b_Mo_send 7 = .ok (.if_icmp .ge 20, 3) := by decide +kernel
theorem d_Mo_send_10 : decode b_Mo_send 10 = .ok (.aload_n 0, 1) := by decide +kernel
theorem d_Mo_send_11 : decode b_Mo_send 11 = .ok (.getfield 60, 3) := by decide +kernel
theorem d_Mo_send_14 : decode b_Mo_send 14 = .ok (.iload_n 2, 1) := by decide +kernel
theorem d_Mo_send_15 : decode b_Mo_send 15 = .ok (.iaload, 1) := by decide +kernel
theorem d_Mo_send_16 : decode b_Mo_send 16 = .ok (.iload_n 1, 1) := by decide +kernel
theorem d_Mo_send_17 : decode b_Mo_send 17 = .ok (.if_icmp .ne 4, 3) := by decide +kernel
theorem d_Mo_send_20 : decode b_Mo_send 20 = .ok (.return_, 1) := by decide +kernel
theorem d_Mo_send_21 : decode b_Mo_send 21 = .ok (.iinc 2 1, 3) := by decide +kernel
theorem d_Mo_send_24 : decode b_Mo_send 24 = .ok (.goto (-22), 3) := by decide +kernel
theorem d_Mo_send_27 : decode b_Mo_send 27 = .ok (.aload_n 0, 1) := by decide +kernel
theorem d_Mo_send_28 : decode b_Mo_send 28 = .ok (.getfield 60, 3) := by decide +kernel
theorem d_Mo_send_31 : decode b_Mo_send 31 = .ok (.aload_n 0, 1) := by decide +kernel
theorem d_Mo_send_32 : decode b_Mo_send 32 = .ok (.getfield 150, 3) := by decide +kernel
theorem d_Mo_send_35 : decode b_Mo_send 35 = .ok (.iload_n 1, 1) := by decide +kernel
theorem d_Mo_send_36 : decode b_Mo_send 36 = .ok (.iastore, 1) := by decide +kernel
theorem d_Mo_send_37 : decode b_Mo_send 37 = .ok (.aload_n 0, 1) := by decide +kernel
theorem d_Mo_send_38 : decode b_Mo_send 38 = .ok (.getfield 63, 3) := by decide +kernel
theorem d_Mo_send_41 : decode b_Mo_send 41 = .ok (.aload_n 0, 1) := by decide +kernel
theorem d_Mo_send_42 : decode b_Mo_send 42 = .ok (.getfield 150, 3) := by decide +kernel
theorem d_Mo_send_45 : decode b_Mo_send 45 = .ok (.aload_n 0, 1) := by decide +kernel
theorem d_Mo_send_46 : decode b_Mo_send 46 = .ok (.getfield 322, 3) := by decide +kernel
theorem d_Mo_send_49 : decode b_Mo_send 49 = .ok (.iastore, 1) := by decide +kernel
theorem d_Mo_send_50 : decode b_Mo_send 50 = .ok (.aload_n 0, 1) := by decide +kernel
theorem d_Mo_send_51 : decode b_Mo_send 51 = .ok (.dup, 1) := by decide +kernel
theorem d_Mo_send_52 : decode b_Mo_send 52 = .ok (.getfield 150, 3) := by decide +kernel
theorem d_Mo_send_55 : decode b_Mo_send 55 = .ok (.iconst 1, 1) := by decide +kernel
theorem d_Mo_send_56 : decode b_Mo_send 56 = .ok (.iadd, 1) := by decide +kernel
theorem d_Mo_send_57 : decode b_Mo_send 57 = .ok (.putfield 150, 3) := by decide +kernel
theorem d_Mo_send_60 : decode b_Mo_send 60 = .ok (.aload_n 0, 1) := by decide +kernel
theorem d_Mo_send_61 : decode b_Mo_send 61 = .ok (.dup, 1) := by decide +kernel
theorem d_Mo_send_62 : decode b_Mo_send 62 = .ok (.getfield 322, 3) := by decide +kernel
theorem d_Mo_send_65 : decode b_Mo_send 65 = .ok (.iconst 1, 1) := by decide +kernel
theorem d_Mo_send_66 : decode b_Mo_send 66 = .ok (.iadd, 1) := by decide +kernel
theorem d_Mo_send_67 : decode b_Mo_send 67 = .ok (.putfield 322, 3) := by decide +kernel
theorem d_Mo_send_70 : decode b_Mo_send 70 = .ok (.return_, 1) := by decide +kernel
theorem g_Mo_send {X : WX} {d : Nat} (hd : 0 ≤ d) (q : Int) (M : Mem) (hR : 0 ≤ M 55 21 ∧ M 55 21 ≤ 400) (hS : 0 ≤ M 55 24 ∧ M 55 24 ≤ 400) : MG X gt d KE KE y_Mo_send b_Mo_send 3 none [vr 55, vi q] M (fun r M' => r = none ∧ (hasReq M q → M' = M) ∧ (¬ hasReq M q → M' = sendM M q)) := by
  refine MG_of_G (by decide) (Nat.le_of_ble_eq_true rfl) (Nat.le_refl _) (by decide) ?_
  show G X gt d KE KE y_Mo_send b_Mo_send 3 none _ 0 [(0, vr 55), (1, vi q)] [] KE M
  refine G_rngl (i := 1) rfl (fun hr1 => ?_)
  have loop : ∀ (n : Nat) (k : Int), k + n = M 55 21 → 0 ≤ k → (∀ j, 0 ≤ j → j < k → ¬ M 72 j = q) → G X gt d KE KE y_Mo_send b_Mo_send 3 none (fun r M' => r = none ∧ (hasReq M q → M' = M) ∧ (¬ hasReq M q → M' = sendM M q)) 2 [(2, vi k), (0, vr 55), (1, vi q)] [] KE M := by
    intro n
    induction n with
    | zero =>
      intro k h1 h2 hno
      refine G_iload (i := 2) (n := 0) (len := 1) (Or.inl ⟨2, rfl, rfl, d_Mo_send_2⟩) rfl (G_pc (pc' := 3) rfl ?_)
      refine G_aload (i := 0) (n := 1) (len := 1) (Or.inl ⟨0, rfl, rfl, d_Mo_send_3⟩) rfl (by decide) (G_pc (pc' := 4) rfl ?_)
      refine G_get (o := 55) (c := 9) (k := 21) (v := M 55 21) d_Mo_send_4 fl_Mo_150 rfl (by decide) (by decide) rfl rfl (G_pc (pc' := 7) rfl ?_)
      refine G_icmp_ge (tgt := 27) d_Mo_send_7 (by decide) (fun h1501 => ?_) (fun h1501 => absurd h1501 (by omega))
      refine G_aload (i := 0) (n := 1) (len := 1) (Or.inl ⟨0, rfl, rfl, d_Mo_send_27⟩) rfl (by decide) (G_pc (pc' := 28) rfl ?_)
      refine G_get (o := 55) (c := 9) (k := 22) (v := 72) d_Mo_send_28 fl_Mo_60 rfl (by decide) (by decide) rfl rfl (G_pc (pc' := 31) rfl ?_)
      refine G_aload (i := 0) (n := 1) (len := 1) (Or.inl ⟨0, rfl, rfl, d_Mo_send_31⟩) rfl (by decide) (G_pc (pc' := 32) rfl ?_)
      refine G_get (o := 55) (c := 9) (k := 21) (v := M 55 21) d_Mo_send_32 fl_Mo_150 rfl (by decide) (by decide) rfl rfl (G_pc (pc' := 35) rfl ?_)
      refine G_iload (i := 1) (n := 2) (len := 1) (Or.inl ⟨1, rfl, rfl, d_Mo_send_35⟩) rfl (G_pc (pc' := 36) rfl ?_)
      refine G_iastore (o := 72) (n := 423) (i := M 55 21) (x := q) d_Mo_send_36 rfl ⟨by decide, by decide⟩ (by decide) (gt_arr rfl _) (by omega) (tokI (by omega)) (G_pc (pc' := 37) rfl ?_)
      refine G_aload (i := 0) (n := 1) (len := 1) (Or.inl ⟨0, rfl, rfl, d_Mo_send_37⟩) rfl (by decide) (G_pc (pc' := 38) rfl ?_)
      refine G_get (o := 55) (c := 9) (k := 23) (v := 73) d_Mo_send_38 fl_Mo_63 rfl (by decide) (by decide) rfl rfl (G_pc (pc' := 41) rfl ?_)
      refine G_aload (i := 0) (n := 1) (len := 1) (Or.inl ⟨0, rfl, rfl, d_Mo_send_41⟩) rfl (by decide) (G_pc (pc' := 42) rfl ?_)
      refine G_get (o := 55) (c := 9) (k := 21) (v := M 55 21) d_Mo_send_42 fl_Mo_150 rfl (by decide) (by decide) rfl rfl (G_pc (pc' := 45) rfl ?_)
      refine G_aload (i := 0) (n := 1) (len := 1) (Or.inl ⟨0, rfl, rfl, d_Mo_send_45⟩) rfl (by decide) (G_pc (pc' := 46) rfl ?_)
      refine G_get (o := 55) (c := 9) (k := 24) (v := M 55 24) d_Mo_send_46 fl_Mo_322 rfl (by decide) (by decide) rfl rfl (G_pc (pc' := 49) rfl ?_)
      refine G_iastore (o := 73) (n := 423) (i := M 55 21) (x := M 55 24) d_Mo_send_49 rfl ⟨by decide, by decide⟩ (by decide) (gt_arr rfl _) (by omega) (tokI (by omega)) (G_pc (pc' := 50) rfl ?_)
      refine G_aload (i := 0) (n := 1) (len := 1) (Or.inl ⟨0, rfl, rfl, d_Mo_send_50⟩) rfl (by decide) (G_pc (pc' := 51) rfl ?_)
      refine G_dup d_Mo_send_51 (fun _ h => by cases h) (G_pc (pc' := 52) rfl ?_)
      refine G_get (o := 55) (c := 9) (k := 21) (v := M 55 21) d_Mo_send_52 fl_Mo_150 rfl (by decide) (by decide) rfl rfl (G_pc (pc' := 55) rfl ?_)
      refine G_iconst (n := 1) d_Mo_send_55 (by decide) (G_pc (pc' := 56) rfl ?_)
      refine G_iadd d_Mo_send_56 (by omega) (G_pc (pc' := 57) rfl ?_)
      refine G_putL (o := 55) (c := 9) (k := 21) (ki := 21) (x := (M 55 21) + 1) d_Mo_send_57 fl_Mo_150 rfl rfl (by decide) (by decide) (by decide) rfl rfl (tokI (by omega)) rfl (G_pc (pc' := 60) rfl ?_)
      refine G_aload (i := 0) (n := 1) (len := 1) (Or.inl ⟨0, rfl, rfl, d_Mo_send_60⟩) rfl (by decide) (G_pc (pc' := 61) rfl ?_)
      refine G_dup d_Mo_send_61 (fun _ h => by cases h) (G_pc (pc' := 62) rfl ?_)
      refine G_get (o := 55) (c := 9) (k := 24) (v := M 55 24) d_Mo_send_62 fl_Mo_322 rfl (by decide) (by decide) rfl rfl (G_pc (pc' := 65) rfl ?_)
      refine G_iconst (n := 1) d_Mo_send_65 (by decide) (G_pc (pc' := 66) rfl ?_)
      refine G_iadd d_Mo_send_66 (by omega) (G_pc (pc' := 67) rfl ?_)
      refine G_putL (o := 55) (c := 9) (k := 24) (ki := 24) (x := (M 55 24) + 1) d_Mo_send_67 fl_Mo_322 rfl rfl (by decide) (by decide) (by decide) rfl rfl (tokI (by omega)) rfl (G_pc (pc' := 70) rfl ?_)
      refine G_vret d_Mo_send_70 rfl rfl ?_
      exact ⟨rfl, fun h => by exfalso; obtain ⟨j, j1, j2, j3⟩ := h; exact hno j j1 (by omega) j3, fun _ => rfl⟩
    | succ n ih =>
      intro k h1 h2 hno
      refine G_iload (i := 2) (n := 0) (len := 1) (Or.inl ⟨2, rfl, rfl, d_Mo_send_2⟩) rfl (G_pc (pc' := 3) rfl ?_)
      refine G_aload (i := 0) (n := 1) (len := 1) (Or.inl ⟨0, rfl, rfl, d_Mo_send_3⟩) rfl (by decide) (G_pc (pc' := 4) rfl ?_)
      refine G_get (o := 55) (c := 9) (k := 21) (v := M 55 21) d_Mo_send_4 fl_Mo_150 rfl (by decide) (by decide) rfl rfl (G_pc (pc' := 7) rfl ?_)
      refine G_icmp_ge (tgt := 27) d_Mo_send_7 (by decide) (fun h1601 => absurd h1601 (by omega)) (fun h1601 => G_pc (pc' := 10) rfl ?_)
      refine G_aload (i := 0) (n := 1) (len := 1) (Or.inl ⟨0, rfl, rfl, d_Mo_send_10⟩) rfl (by decide) (G_pc (pc' := 11) rfl ?_)
      refine G_get (o := 55) (c := 9) (k := 22) (v := 72) d_Mo_send_11 fl_Mo_60 rfl (by decide) (by decide) rfl rfl (G_pc (pc' := 14) rfl ?_)
      refine G_iload (i := 2) (n := 0) (len := 1) (Or.inl ⟨2, rfl, rfl, d_Mo_send_14⟩) rfl (G_pc (pc' := 15) rfl ?_)
      refine G_iaload (o := 72) (n := 423) (i := k) (v := M 72 k) d_Mo_send_15 rfl ⟨by decide, by decide⟩ (by omega) (rd_arr rfl) (fun t1602 => G_pc (pc' := 16) rfl ?_)
      have t1602 := tok_i t1602
      refine G_iload (i := 1) (n := 2) (len := 1) (Or.inl ⟨1, rfl, rfl, d_Mo_send_16⟩) rfl (G_pc (pc' := 17) rfl ?_)
      refine G_icmp_ne (tgt := 21) d_Mo_send_17 (by decide) (fun h1603 => ?_) (fun h1603 => G_pc (pc' := 20) rfl ?_)
      · skip
        refine G_iinc (i := 2) (n := 0) (z := 1) (ls' := [(2, vi (k + 1)), (0, vr 55), (1, vi q)]) d_Mo_send_21 rfl (by decide) (by omega) rfl (G_pc (pc' := 24) rfl ?_)
        refine G_goto (tgt := 2) d_Mo_send_24 (by decide) ?_
        exact ih (k + 1) (by omega) (by omega) (ext_lt hno (by omega))
      · skip
        refine G_vret d_Mo_send_20 rfl rfl ?_
        exact ⟨rfl, fun _ => rfl, fun h => by exfalso; exact h ⟨k, by omega, by omega, by omega⟩⟩
  refine G_iconst (n := 0) d_Mo_send_0 (by decide) (G_pc (pc' := 1) rfl ?_)
  refine G_istore (i := 2) (len := 1) (ls' := [(2, vi 0), (0, vr 55), (1, vi q)]) (Or.inl ⟨2, rfl, rfl, d_Mo_send_1⟩) (by decide) rfl (G_pc (pc' := 2) rfl ?_)
  exact loop (M 55 21).toNat 0 (by omega) (by omega) (fun j h7 h8 => absurd h8 (by omega))

def shM (M : Mem) (k n : Int) : Mem := fun c i => if (c = 72 ∨ c = 73) ∧ k ≤ i ∧ i < n then M c (i + 1) else M c i
theorem shM_0 {M : Mem} {k : Int} : shM M k k = M := by
  funext c i; unfold shM; rw [if_neg (by omega)]
theorem shM_at {M : Mem} {k n : Int} (c : Nat) (i : Int) (h : n ≤ i) : shM M k n c i = M c i := by
  unfold shM; rw [if_neg (by omega)]
theorem shM_s {M : Mem} {k n x y : Int} (h : k ≤ n) (hx : x = M 72 (n + 1)) (hy : y = M 73 (n + 1)) : mset (mset (shM M k n) 72 n x) 73 n y = shM M k (n + 1) := by
  funext c i; unfold shM mset; grind
def takeOutM (M : Mem) (k : Int) : Mem := mset (shM M k (M 55 21 - 1)) 55 21 (M 55 21 - 1)
theorem d_Mo_takeOut_0 : decode b_Mo_takeOut 0 = .ok (.aload_n 0, 1) := by decide +kernel
theorem d_Mo_takeOut_1 : decode b_Mo_takeOut 1 = .ok (.getfield 60, 3) := by decide +kernel
theorem d_Mo_takeOut_4 : decode b_Mo_takeOut 4 = .ok (.iload_n 1, 1) := by decide +kernel
theorem d_Mo_takeOut_5 : decode b_Mo_takeOut 5 = .ok (.iaload, 1) := by decide +kernel
theorem d_Mo_takeOut_6 : decode b_Mo_takeOut 6 = .ok (.istore_n 2, 1) := by decide +kernel
theorem d_Mo_takeOut_7 : decode b_Mo_takeOut 7 = .ok (.iload_n 1, 1) := by decide +kernel
theorem d_Mo_takeOut_8 : decode b_Mo_takeOut 8 = .ok (.istore_n 3, 1) := by decide +kernel
theorem d_Mo_takeOut_9 : decode b_Mo_takeOut 9 = .ok (.iload_n 3, 1) := by decide +kernel
theorem d_Mo_takeOut_10 : decode b_Mo_takeOut 10 = .ok (.iconst 1, 1) := by decide +kernel
theorem d_Mo_takeOut_11 : decode b_Mo_takeOut 11 = .ok (.iadd, 1) := by decide +kernel
theorem d_Mo_takeOut_12 : decode b_Mo_takeOut 12 = .ok (.aload_n 0, 1) := by decide +kernel
theorem d_Mo_takeOut_13 : decode b_Mo_takeOut 13 = .ok (.getfield 150, 3) := by decide +kernel
theorem d_Mo_takeOut_16 : decode b_Mo_takeOut 16 = .ok (.if_icmp .ge 37, 3) := by decide +kernel
theorem d_Mo_takeOut_19 : decode b_Mo_takeOut 19 = .ok (.aload_n 0, 1) := by decide +kernel
theorem d_Mo_takeOut_20 : decode b_Mo_takeOut 20 = .ok (.getfield 60, 3) := by decide +kernel
theorem d_Mo_takeOut_23 : decode b_Mo_takeOut 23 = .ok (.iload_n 3, 1) := by decide +kernel
theorem d_Mo_takeOut_24 : decode b_Mo_takeOut 24 = .ok (.aload_n 0, 1) := by decide +kernel
theorem d_Mo_takeOut_25 : decode b_Mo_takeOut 25 = .ok (.getfield 60, 3) := by decide +kernel
theorem d_Mo_takeOut_28 : decode b_Mo_takeOut 28 = .ok (.iload_n 3, 1) := by decide +kernel
theorem d_Mo_takeOut_29 : decode b_Mo_takeOut 29 = .ok (.iconst 1, 1) := by decide +kernel
theorem d_Mo_takeOut_30 : decode b_Mo_takeOut 30 = .ok (.iadd, 1) := by decide +kernel
theorem d_Mo_takeOut_31 : decode b_Mo_takeOut 31 = .ok (.iaload, 1) := by decide +kernel
theorem d_Mo_takeOut_32 : decode b_Mo_takeOut 32 = .ok (.iastore, 1) := by decide +kernel
theorem d_Mo_takeOut_33 : decode b_Mo_takeOut 33 = .ok (.aload_n 0, 1) := by decide +kernel
theorem d_Mo_takeOut_34 : decode b_Mo_takeOut 34 = .ok (.getfield 63, 3) := by decide +kernel
theorem d_Mo_takeOut_37 : decode b_Mo_takeOut 37 = .ok (.iload_n 3, 1) := by decide +kernel
theorem d_Mo_takeOut_38 : decode b_Mo_takeOut 38 = .ok (.aload_n 0, 1) := by decide +kernel
theorem d_Mo_takeOut_39 : decode b_Mo_takeOut 39 = .ok (.getfield 63, 3) := by decide +kernel
theorem d_Mo_takeOut_42 : decode b_Mo_takeOut 42 = .ok (.iload_n 3, 1) := by decide +kernel
theorem d_Mo_takeOut_43 : decode b_Mo_takeOut 43 = .ok (.iconst 1, 1) := by decide +kernel
theorem d_Mo_takeOut_44 : decode b_Mo_takeOut 44 = .ok (.iadd, 1) := by decide +kernel
theorem d_Mo_takeOut_45 : decode b_Mo_takeOut 45 = .ok (.iaload, 1) := by decide +kernel
theorem d_Mo_takeOut_46 : decode b_Mo_takeOut 46 = .ok (.iastore, 1) := by decide +kernel
theorem d_Mo_takeOut_47 : decode b_Mo_takeOut 47 = .ok (.iinc 3 1, 3) := by decide +kernel
theorem d_Mo_takeOut_50 : decode b_Mo_takeOut 50 = .ok (.goto (-41), 3) := by decide +kernel
theorem d_Mo_takeOut_53 : decode b_Mo_takeOut 53 = .ok (.aload_n 0, 1) := by decide +kernel
theorem d_Mo_takeOut_54 : decode b_Mo_takeOut 54 = .ok (.dup, 1) := by decide +kernel
theorem d_Mo_takeOut_55 : decode b_Mo_takeOut 55 = .ok (.getfield 150, 3) := by decide +kernel
theorem d_Mo_takeOut_58 : decode b_Mo_takeOut 58 = .ok (.iconst 1, 1) := by decide +kernel
theorem d_Mo_takeOut_59 : decode b_Mo_takeOut 59 = .ok (.isub, 1) := by decide +kernel
theorem d_Mo_takeOut_60 : decode b_Mo_takeOut 60 = .ok (.putfield 150, 3) := by decide +kernel
theorem d_Mo_takeOut_63 : decode b_Mo_takeOut 63 = .ok (.iload_n 2, 1) := by decide +kernel
theorem d_Mo_takeOut_64 : decode b_Mo_takeOut 64 = .ok (.ireturn, 1) := by decide +kernel
theorem g_Mo_takeOut {X : WX} {d : Nat} (hd : 0 ≤ d) (k : Int) (M : Mem) (hR : 0 ≤ M 55 21 ∧ M 55 21 ≤ 400) (hk : 0 ≤ k ∧ k < M 55 21) : MG X gt d KE KE y_Mo_takeOut b_Mo_takeOut 4 (some .int) [vr 55, vi k] M (fun r M' => r = some (vi (M 72 k)) ∧ M' = takeOutM M k) := by
  refine MG_of_G (by decide) (Nat.le_of_ble_eq_true rfl) (Nat.le_refl _) (by decide) ?_
  show G X gt d KE KE y_Mo_takeOut b_Mo_takeOut 4 (some .int) _ 0 [(0, vr 55), (1, vi k)] [] KE M
  refine G_rngl (i := 1) rfl (fun hr1 => ?_)
  have loop : ∀ (n : Nat) (i : Int), i + n + 1 = M 55 21 → k ≤ i → -2147483648 ≤ M 72 k ∧ M 72 k < 2147483648 → G X gt d KE KE y_Mo_takeOut b_Mo_takeOut 4 (some .int) (fun r M' => r = some (vi (M 72 k)) ∧ M' = takeOutM M k) 9 [(3, vi i), (2, vi (M 72 k)), (0, vr 55), (1, vi k)] [] KE (shM M k i) := by
    intro n
    induction n with
    | zero =>
      intro i h1 h2 hp
      refine G_iload (i := 3) (n := 0) (len := 1) (Or.inl ⟨3, rfl, rfl, d_Mo_takeOut_9⟩) rfl (G_pc (pc' := 10) rfl ?_)
      refine G_iconst (n := 1) d_Mo_takeOut_10 (by decide) (G_pc (pc' := 11) rfl ?_)
      refine G_iadd d_Mo_takeOut_11 (by omega) (G_pc (pc' := 12) rfl ?_)
      refine G_aload (i := 0) (n := 2) (len := 1) (Or.inl ⟨0, rfl, rfl, d_Mo_takeOut_12⟩) rfl (by decide) (G_pc (pc' := 13) rfl ?_)
      refine G_get (o := 55) (c := 9) (k := 21) (v := (shM M k i) 55 21) d_Mo_takeOut_13 fl_Mo_150 rfl (by decide) (by decide) rfl rfl (G_pc (pc' := 16) rfl ?_)
      refine G_icmp_ge (tgt := 53) d_Mo_takeOut_16 (by decide) (fun h1701 => ?_) (fun h1701 => absurd h1701 (by have : shM M k i 55 21 = M 55 21 := rfl; omega))
      have h55 : shM M k i 55 21 = M 55 21 := rfl
      refine G_aload (i := 0) (n := 2) (len := 1) (Or.inl ⟨0, rfl, rfl, d_Mo_takeOut_53⟩) rfl (by decide) (G_pc (pc' := 54) rfl ?_)
      refine G_dup d_Mo_takeOut_54 (fun _ h => by cases h) (G_pc (pc' := 55) rfl ?_)
      refine G_get (o := 55) (c := 9) (k := 21) (v := (shM M k i) 55 21) d_Mo_takeOut_55 fl_Mo_150 rfl (by decide) (by decide) rfl rfl (G_pc (pc' := 58) rfl ?_)
      refine G_iconst (n := 1) d_Mo_takeOut_58 (by decide) (G_pc (pc' := 59) rfl ?_)
      refine G_isub d_Mo_takeOut_59 (by omega) (G_pc (pc' := 60) rfl ?_)
      refine G_putL (o := 55) (c := 9) (k := 21) (ki := 21) (x := ((shM M k i) 55 21) - 1) d_Mo_takeOut_60 fl_Mo_150 rfl rfl (by decide) (by decide) (by decide) rfl rfl (tokI (by omega)) rfl (G_pc (pc' := 63) rfl ?_)
      refine G_iload (i := 2) (n := 1) (len := 1) (Or.inl ⟨2, rfl, rfl, d_Mo_takeOut_63⟩) rfl (G_pc (pc' := 64) rfl ?_)
      refine G_iret d_Mo_takeOut_64 rfl (tokI (by omega)) rfl rfl ?_
      exact ⟨rfl, by unfold takeOutM; rw [h55, show M 55 21 - 1 = i by omega]⟩
    | succ n ih =>
      intro i h1 h2 hp
      refine G_iload (i := 3) (n := 0) (len := 1) (Or.inl ⟨3, rfl, rfl, d_Mo_takeOut_9⟩) rfl (G_pc (pc' := 10) rfl ?_)
      refine G_iconst (n := 1) d_Mo_takeOut_10 (by decide) (G_pc (pc' := 11) rfl ?_)
      refine G_iadd d_Mo_takeOut_11 (by omega) (G_pc (pc' := 12) rfl ?_)
      refine G_aload (i := 0) (n := 2) (len := 1) (Or.inl ⟨0, rfl, rfl, d_Mo_takeOut_12⟩) rfl (by decide) (G_pc (pc' := 13) rfl ?_)
      refine G_get (o := 55) (c := 9) (k := 21) (v := (shM M k i) 55 21) d_Mo_takeOut_13 fl_Mo_150 rfl (by decide) (by decide) rfl rfl (G_pc (pc' := 16) rfl ?_)
      refine G_icmp_ge (tgt := 53) d_Mo_takeOut_16 (by decide) (fun h1801 => absurd h1801 (by have : shM M k i 55 21 = M 55 21 := rfl; omega)) (fun h1801 => G_pc (pc' := 19) rfl ?_)
      refine G_aload (i := 0) (n := 2) (len := 1) (Or.inl ⟨0, rfl, rfl, d_Mo_takeOut_19⟩) rfl (by decide) (G_pc (pc' := 20) rfl ?_)
      refine G_get (o := 55) (c := 9) (k := 22) (v := 72) d_Mo_takeOut_20 fl_Mo_60 rfl (by decide) (by decide) rfl rfl (G_pc (pc' := 23) rfl ?_)
      refine G_iload (i := 3) (n := 0) (len := 1) (Or.inl ⟨3, rfl, rfl, d_Mo_takeOut_23⟩) rfl (G_pc (pc' := 24) rfl ?_)
      refine G_aload (i := 0) (n := 2) (len := 1) (Or.inl ⟨0, rfl, rfl, d_Mo_takeOut_24⟩) rfl (by decide) (G_pc (pc' := 25) rfl ?_)
      refine G_get (o := 55) (c := 9) (k := 22) (v := 72) d_Mo_takeOut_25 fl_Mo_60 rfl (by decide) (by decide) rfl rfl (G_pc (pc' := 28) rfl ?_)
      refine G_iload (i := 3) (n := 0) (len := 1) (Or.inl ⟨3, rfl, rfl, d_Mo_takeOut_28⟩) rfl (G_pc (pc' := 29) rfl ?_)
      refine G_iconst (n := 1) d_Mo_takeOut_29 (by decide) (G_pc (pc' := 30) rfl ?_)
      refine G_iadd d_Mo_takeOut_30 (by omega) (G_pc (pc' := 31) rfl ?_)
      refine G_iaload (o := 72) (n := 423) (i := i + 1) (v := (shM M k i) 72 (i + 1)) d_Mo_takeOut_31 rfl ⟨by decide, by decide⟩ (by omega) (rd_arr rfl) (fun t1802 => G_pc (pc' := 32) rfl ?_)
      have t1802 := tok_i t1802
      refine G_iastore (o := 72) (n := 423) (i := i) (x := (shM M k i) 72 (i + 1)) d_Mo_takeOut_32 rfl ⟨by decide, by decide⟩ (by decide) (gt_arr rfl _) (by omega) (tokI (by omega)) (G_pc (pc' := 33) rfl ?_)
      refine G_aload (i := 0) (n := 2) (len := 1) (Or.inl ⟨0, rfl, rfl, d_Mo_takeOut_33⟩) rfl (by decide) (G_pc (pc' := 34) rfl ?_)
      refine G_get (o := 55) (c := 9) (k := 23) (v := 73) d_Mo_takeOut_34 fl_Mo_63 rfl (by decide) (by decide) rfl rfl (G_pc (pc' := 37) rfl ?_)
      refine G_iload (i := 3) (n := 0) (len := 1) (Or.inl ⟨3, rfl, rfl, d_Mo_takeOut_37⟩) rfl (G_pc (pc' := 38) rfl ?_)
      refine G_aload (i := 0) (n := 2) (len := 1) (Or.inl ⟨0, rfl, rfl, d_Mo_takeOut_38⟩) rfl (by decide) (G_pc (pc' := 39) rfl ?_)
      refine G_get (o := 55) (c := 9) (k := 23) (v := 73) d_Mo_takeOut_39 fl_Mo_63 rfl (by decide) (by decide) rfl rfl (G_pc (pc' := 42) rfl ?_)
      refine G_iload (i := 3) (n := 0) (len := 1) (Or.inl ⟨3, rfl, rfl, d_Mo_takeOut_42⟩) rfl (G_pc (pc' := 43) rfl ?_)
      refine G_iconst (n := 1) d_Mo_takeOut_43 (by decide) (G_pc (pc' := 44) rfl ?_)
      refine G_iadd d_Mo_takeOut_44 (by omega) (G_pc (pc' := 45) rfl ?_)
      refine G_iaload (o := 73) (n := 423) (i := i + 1) (v := (shM M k i) 73 (i + 1)) d_Mo_takeOut_45 rfl ⟨by decide, by decide⟩ (by omega) (rd_arr rfl) (fun t1803 => G_pc (pc' := 46) rfl ?_)
      have t1803 := tok_i t1803
      refine G_iastore (o := 73) (n := 423) (i := i) (x := (shM M k i) 73 (i + 1)) d_Mo_takeOut_46 rfl ⟨by decide, by decide⟩ (by decide) (gt_arr rfl _) (by omega) (tokI (by omega)) (G_pc (pc' := 47) rfl ?_)
      refine G_iinc (i := 3) (n := 0) (z := 1) (ls' := [(3, vi (i + 1)), (2, vi (M 72 k)), (0, vr 55), (1, vi k)]) d_Mo_takeOut_47 rfl (by decide) (by omega) rfl (G_pc (pc' := 50) rfl ?_)
      refine G_goto (tgt := 9) d_Mo_takeOut_50 (by decide) ?_
      rw [shM_s (by omega) (shM_at _ _ (by omega)) (shM_at _ _ (by omega))]
      exact ih (i + 1) (by omega) (by omega) hp
  refine G_aload (i := 0) (n := 0) (len := 1) (Or.inl ⟨0, rfl, rfl, d_Mo_takeOut_0⟩) rfl (by decide) (G_pc (pc' := 1) rfl ?_)
  refine G_get (o := 55) (c := 9) (k := 22) (v := 72) d_Mo_takeOut_1 fl_Mo_60 rfl (by decide) (by decide) rfl rfl (G_pc (pc' := 4) rfl ?_)
  refine G_iload (i := 1) (n := 1) (len := 1) (Or.inl ⟨1, rfl, rfl, d_Mo_takeOut_4⟩) rfl (G_pc (pc' := 5) rfl ?_)
  refine G_iaload (o := 72) (n := 423) (i := k) (v := M 72 k) d_Mo_takeOut_5 rfl ⟨by decide, by decide⟩ (by omega) (rd_arr rfl) (fun t1 => G_pc (pc' := 6) rfl ?_)
  have t1 := tok_i t1
  refine G_istore (i := 2) (len := 1) (ls' := [(2, vi (M 72 k)), (0, vr 55), (1, vi k)]) (Or.inl ⟨2, rfl, rfl, d_Mo_takeOut_6⟩) (by decide) rfl (G_pc (pc' := 7) rfl ?_)
  refine G_iload (i := 1) (n := 2) (len := 1) (Or.inl ⟨1, rfl, rfl, d_Mo_takeOut_7⟩) rfl (G_pc (pc' := 8) rfl ?_)
  refine G_istore (i := 3) (len := 1) (ls' := [(3, vi k), (2, vi (M 72 k)), (0, vr 55), (1, vi k)]) (Or.inl ⟨3, rfl, rfl, d_Mo_takeOut_8⟩) (by decide) rfl (G_pc (pc' := 9) rfl ?_)
  have h9 := loop (M 55 21 - 1 - k).toNat k (by omega) (by omega) (by omega)
  rw [shM_0] at h9
  exact h9

def pieceM (what a b : Int) : Int := if what = 0 then a else if what = 1 then 27 + 26 * (a - 1) + b else if what = 2 then 339 + 5 * (a - 1) + b else if what = 3 then 398 + a else 410 + a
theorem d_Mo_pieceOf_0 : decode b_Mo_pieceOf 0 = .ok (.iload_n 1, 1) := by decide +kernel
theorem d_Mo_pieceOf_1 : decode b_Mo_pieceOf 1 = .ok (.ifCond .ne 7, 3) := by decide +kernel
theorem d_Mo_pieceOf_4 : decode b_Mo_pieceOf 4 = .ok (.iload_n 2, 1) := by decide +kernel
theorem d_Mo_pieceOf_5 : decode b_Mo_pieceOf 5 = .ok (.goto 59, 3) := by decide +kernel
theorem d_Mo_pieceOf_8 : decode b_Mo_pieceOf 8 = .ok (.iload_n 1, 1) := by decide +kernel
theorem d_Mo_pieceOf_9 : decode b_Mo_pieceOf 9 = .ok (.iconst 1, 1) := by decide +kernel
theorem d_Mo_pieceOf_10 : decode b_Mo_pieceOf 10 = .ok (.if_icmp .ne 17, 3) := by decide +kernel
theorem d_Mo_pieceOf_13 : decode b_Mo_pieceOf 13 = .ok (.bipush 27, 2) := by decide +kernel
theorem d_Mo_pieceOf_15 : decode b_Mo_pieceOf 15 = .ok (.bipush 26, 2) := by decide +kernel
theorem d_Mo_pieceOf_17 : decode b_Mo_pieceOf 17 = .ok (.iload_n 2, 1) := by decide +kernel
theorem d_Mo_pieceOf_18 : decode b_Mo_pieceOf 18 = .ok (.iconst 1, 1) := by decide +kernel
theorem d_Mo_pieceOf_19 : decode b_Mo_pieceOf 19 = .ok (.isub, 1) := by decide +kernel
theorem d_Mo_pieceOf_20 : decode b_Mo_pieceOf 20 = .ok (.imul, 1) := by decide +kernel
theorem d_Mo_pieceOf_21 : decode b_Mo_pieceOf 21 = .ok (.iadd, 1) := by decide +kernel
theorem d_Mo_pieceOf_22 : decode b_Mo_pieceOf 22 = .ok (.iload_n 3, 1) := by decide +kernel
theorem d_Mo_pieceOf_23 : decode b_Mo_pieceOf 23 = .ok (.iadd, 1) := by decide +kernel
theorem d_Mo_pieceOf_24 : decode b_Mo_pieceOf 24 = .ok (.goto 40, 3) := by decide +kernel
theorem d_Mo_pieceOf_27 : decode b_Mo_pieceOf 27 = .ok (.iload_n 1, 1) := by decide +kernel
theorem d_Mo_pieceOf_28 : decode b_Mo_pieceOf 28 = .ok (.iconst 2, 1) := by decide +kernel
theorem d_Mo_pieceOf_29 : decode b_Mo_pieceOf 29 = .ok (.if_icmp .ne 17, 3) := by decide +kernel
theorem d_Mo_pieceOf_32 : decode b_Mo_pieceOf 32 = .ok (.sipush 339, 3) := by decide +kernel
theorem d_Mo_pieceOf_35 : decode b_Mo_pieceOf 35 = .ok (.iconst 5, 1) := by decide +kernel
theorem d_Mo_pieceOf_36 : decode b_Mo_pieceOf 36 = .ok (.iload_n 2, 1) := by decide +kernel
theorem d_Mo_pieceOf_37 : decode b_Mo_pieceOf 37 = .ok (.iconst 1, 1) := by decide +kernel
theorem d_Mo_pieceOf_38 : decode b_Mo_pieceOf 38 = .ok (.isub, 1) := by decide +kernel
theorem d_Mo_pieceOf_39 : decode b_Mo_pieceOf 39 = .ok (.imul, 1) := by decide +kernel
theorem d_Mo_pieceOf_40 : decode b_Mo_pieceOf 40 = .ok (.iadd, 1) := by decide +kernel
theorem d_Mo_pieceOf_41 : decode b_Mo_pieceOf 41 = .ok (.iload_n 3, 1) := by decide +kernel
theorem d_Mo_pieceOf_42 : decode b_Mo_pieceOf 42 = .ok (.iadd, 1) := by decide +kernel
theorem d_Mo_pieceOf_43 : decode b_Mo_pieceOf 43 = .ok (.goto 21, 3) := by decide +kernel
theorem d_Mo_pieceOf_46 : decode b_Mo_pieceOf 46 = .ok (.iload_n 1, 1) := by decide +kernel
theorem d_Mo_pieceOf_47 : decode b_Mo_pieceOf 47 = .ok (.iconst 3, 1) := by decide +kernel
theorem d_Mo_pieceOf_48 : decode b_Mo_pieceOf 48 = .ok (.if_icmp .ne 11, 3) := by decide +kernel
theorem d_Mo_pieceOf_51 : decode b_Mo_pieceOf 51 = .ok (.sipush 398, 3) := by decide +kernel
theorem d_Mo_pieceOf_54 : decode b_Mo_pieceOf 54 = .ok (.iload_n 2, 1) := by decide +kernel
theorem d_Mo_pieceOf_55 : decode b_Mo_pieceOf 55 = .ok (.iadd, 1) := by decide +kernel
theorem d_Mo_pieceOf_56 : decode b_Mo_pieceOf 56 = .ok (.goto 8, 3) := by decide +kernel
theorem d_Mo_pieceOf_59 : decode b_Mo_pieceOf 59 = .ok (.sipush 410, 3) := by decide +kernel
theorem d_Mo_pieceOf_62 : decode b_Mo_pieceOf 62 = .ok (.iload_n 2, 1) := by decide +kernel
theorem d_Mo_pieceOf_63 : decode b_Mo_pieceOf 63 = .ok (.iadd, 1) := by decide +kernel
theorem d_Mo_pieceOf_64 : decode b_Mo_pieceOf 64 = .ok (.ireturn, 1) := by decide +kernel
theorem g_Mo_pieceOf {X : WX} {d : Nat} (hd : 0 ≤ d) (what a b : Int) (M : Mem) (ha : 0 ≤ a ∧ a ≤ 1000) (hb : 0 ≤ b ∧ b ≤ 1000) : MG X gt d KE KE y_Mo_pieceOf b_Mo_pieceOf 4 (some .int) [vr 55, vi what, vi a, vi b] M (fun r M' => r = some (vi (pieceM what a b)) ∧ M' = M) := by
  refine MG_of_G (by decide) (Nat.le_of_ble_eq_true rfl) (Nat.le_refl _) (by decide) ?_
  show G X gt d KE KE y_Mo_pieceOf b_Mo_pieceOf 4 (some .int) _ 0 [(0, vr 55), (1, vi what), (2, vi a), (3, vi b)] [] KE M
  refine G_rngl (i := 1) rfl (fun hr1 => ?_)
  refine G_rngl (i := 2) rfl (fun hr2 => ?_)
  refine G_rngl (i := 3) rfl (fun hr3 => ?_)
  refine G_iload (i := 1) (n := 1) (len := 1) (Or.inl ⟨1, rfl, rfl, d_Mo_pieceOf_0⟩) rfl (G_pc (pc' := 1) rfl ?_)
  refine G_if_ne (tgt := 8) d_Mo_pieceOf_1 (by decide) (fun h1 => ?_) (fun h1 => G_pc (pc' := 4) rfl ?_)
  · skip
    refine G_iload (i := 1) (n := 1) (len := 1) (Or.inl ⟨1, rfl, rfl, d_Mo_pieceOf_8⟩) rfl (G_pc (pc' := 9) rfl ?_)
    refine G_iconst (n := 1) d_Mo_pieceOf_9 (by decide) (G_pc (pc' := 10) rfl ?_)
    refine G_icmp_ne (tgt := 27) d_Mo_pieceOf_10 (by decide) (fun h2 => ?_) (fun h2 => G_pc (pc' := 13) rfl ?_)
    · skip
      refine G_iload (i := 1) (n := 1) (len := 1) (Or.inl ⟨1, rfl, rfl, d_Mo_pieceOf_27⟩) rfl (G_pc (pc' := 28) rfl ?_)
      refine G_iconst (n := 2) d_Mo_pieceOf_28 (by decide) (G_pc (pc' := 29) rfl ?_)
      refine G_icmp_ne (tgt := 46) d_Mo_pieceOf_29 (by decide) (fun h3 => ?_) (fun h3 => G_pc (pc' := 32) rfl ?_)
      · skip
        refine G_iload (i := 1) (n := 1) (len := 1) (Or.inl ⟨1, rfl, rfl, d_Mo_pieceOf_46⟩) rfl (G_pc (pc' := 47) rfl ?_)
        refine G_iconst (n := 3) d_Mo_pieceOf_47 (by decide) (G_pc (pc' := 48) rfl ?_)
        refine G_icmp_ne (tgt := 59) d_Mo_pieceOf_48 (by decide) (fun h4 => ?_) (fun h4 => G_pc (pc' := 51) rfl ?_)
        · skip
          refine G_sipush (n := 410) d_Mo_pieceOf_59 (by decide) (G_pc (pc' := 62) rfl ?_)
          refine G_iload (i := 2) (n := 2) (len := 1) (Or.inl ⟨2, rfl, rfl, d_Mo_pieceOf_62⟩) rfl (G_pc (pc' := 63) rfl ?_)
          refine G_iadd d_Mo_pieceOf_63 (by omega) (G_pc (pc' := 64) rfl ?_)
          refine G_iret d_Mo_pieceOf_64 rfl (tokI (by omega)) rfl rfl ?_
          exact ret_e (by unfold pieceM; grind) rfl
        · skip
          refine G_sipush (n := 398) d_Mo_pieceOf_51 (by decide) (G_pc (pc' := 54) rfl ?_)
          refine G_iload (i := 2) (n := 2) (len := 1) (Or.inl ⟨2, rfl, rfl, d_Mo_pieceOf_54⟩) rfl (G_pc (pc' := 55) rfl ?_)
          refine G_iadd d_Mo_pieceOf_55 (by omega) (G_pc (pc' := 56) rfl ?_)
          refine G_goto (tgt := 64) d_Mo_pieceOf_56 (by decide) ?_
          refine G_iret d_Mo_pieceOf_64 rfl (tokI (by omega)) rfl rfl ?_
          exact ret_e (by unfold pieceM; grind) rfl
      · skip
        refine G_sipush (n := 339) d_Mo_pieceOf_32 (by decide) (G_pc (pc' := 35) rfl ?_)
        refine G_iconst (n := 5) d_Mo_pieceOf_35 (by decide) (G_pc (pc' := 36) rfl ?_)
        refine G_iload (i := 2) (n := 2) (len := 1) (Or.inl ⟨2, rfl, rfl, d_Mo_pieceOf_36⟩) rfl (G_pc (pc' := 37) rfl ?_)
        refine G_iconst (n := 1) d_Mo_pieceOf_37 (by decide) (G_pc (pc' := 38) rfl ?_)
        refine G_isub d_Mo_pieceOf_38 (by omega) (G_pc (pc' := 39) rfl ?_)
        refine G_imul d_Mo_pieceOf_39 (by omega) (G_pc (pc' := 40) rfl ?_)
        refine G_iadd d_Mo_pieceOf_40 (by omega) (G_pc (pc' := 41) rfl ?_)
        refine G_iload (i := 3) (n := 3) (len := 1) (Or.inl ⟨3, rfl, rfl, d_Mo_pieceOf_41⟩) rfl (G_pc (pc' := 42) rfl ?_)
        refine G_iadd d_Mo_pieceOf_42 (by omega) (G_pc (pc' := 43) rfl ?_)
        refine G_goto (tgt := 64) d_Mo_pieceOf_43 (by decide) ?_
        refine G_iret d_Mo_pieceOf_64 rfl (tokI (by omega)) rfl rfl ?_
        exact ret_e (by unfold pieceM; grind) rfl
    · skip
      refine G_bipush (n := 27) d_Mo_pieceOf_13 (by decide) (G_pc (pc' := 15) rfl ?_)
      refine G_bipush (n := 26) d_Mo_pieceOf_15 (by decide) (G_pc (pc' := 17) rfl ?_)
      refine G_iload (i := 2) (n := 2) (len := 1) (Or.inl ⟨2, rfl, rfl, d_Mo_pieceOf_17⟩) rfl (G_pc (pc' := 18) rfl ?_)
      refine G_iconst (n := 1) d_Mo_pieceOf_18 (by decide) (G_pc (pc' := 19) rfl ?_)
      refine G_isub d_Mo_pieceOf_19 (by omega) (G_pc (pc' := 20) rfl ?_)
      refine G_imul d_Mo_pieceOf_20 (by omega) (G_pc (pc' := 21) rfl ?_)
      refine G_iadd d_Mo_pieceOf_21 (by omega) (G_pc (pc' := 22) rfl ?_)
      refine G_iload (i := 3) (n := 3) (len := 1) (Or.inl ⟨3, rfl, rfl, d_Mo_pieceOf_22⟩) rfl (G_pc (pc' := 23) rfl ?_)
      refine G_iadd d_Mo_pieceOf_23 (by omega) (G_pc (pc' := 24) rfl ?_)
      refine G_goto (tgt := 64) d_Mo_pieceOf_24 (by decide) ?_
      refine G_iret d_Mo_pieceOf_64 rfl (tokI (by omega)) rfl rfl ?_
      exact ret_e (by unfold pieceM; grind) rfl
  · skip
    refine G_iload (i := 2) (n := 2) (len := 1) (Or.inl ⟨2, rfl, rfl, d_Mo_pieceOf_4⟩) rfl (G_pc (pc' := 5) rfl ?_)
    refine G_goto (tgt := 64) d_Mo_pieceOf_5 (by decide) ?_
    refine G_iret d_Mo_pieceOf_64 rfl (tokI (by omega)) rfl rfl ?_
    exact ret_e (by unfold pieceM; grind) rfl

def lookM (M : Mem) (e what : Int) : Int := if (0 ≤ e ∧ e < 4) ∧ (0 ≤ what ∧ what < 3) then (if what = 0 then M 66 e else if what = 1 then M 67 e else if M 66 e = 3 then M 68 e else 0) else -1
def valueM (M : Mem) (e : Int) : Int := if (0 ≤ e ∧ e < 4) ∧ M 66 e = 2 then M 69 e else 0
theorem d_Mo_look_0 : decode b_Mo_look 0 = .ok (.iload_n 1, 1) := by decide +kernel
theorem d_Mo_look_1 : decode b_Mo_look 1 = .ok (.iconst 4, 1) := by decide +kernel
theorem d_Mo_look_2 : decode b_Mo_look 2 = .ok (.invokestatic 105, 3) := by decide +kernel
theorem d_Mo_look_5 : decode b_Mo_look 5 = .ok (.ifCond .eq 11, 3) := by decide +kernel
theorem d_Mo_look_8 : decode b_Mo_look 8 = .ok (.iload_n 2, 1) := by decide +kernel
theorem d_Mo_look_9 : decode b_Mo_look 9 = .ok (.iconst 3, 1) := by decide +kernel
theorem d_Mo_look_10 : decode b_Mo_look 10 = .ok (.invokestatic 105, 3) := by decide +kernel
theorem d_Mo_look_13 : decode b_Mo_look 13 = .ok (.ifCond .ne 5, 3) := by decide +kernel
theorem d_Mo_look_16 : decode b_Mo_look 16 = .ok (.iconst (-1), 1) := by decide +kernel
theorem d_Mo_look_17 : decode b_Mo_look 17 = .ok (.ireturn, 1) := by decide +kernel
theorem d_Mo_look_18 : decode b_Mo_look 18 = .ok (.iload_n 2, 1) := by decide +kernel
theorem d_Mo_look_19 : decode b_Mo_look 19 = .ok (.ifCond .ne 12, 3) := by decide +kernel
theorem d_Mo_look_22 : decode b_Mo_look 22 = .ok (.aload_n 0, 1) := by decide +kernel
theorem d_Mo_look_23 : decode b_Mo_look 23 = .ok (.getfield 42, 3) := by decide +kernel
theorem d_Mo_look_26 : decode b_Mo_look 26 = .ok (.iload_n 1, 1) := by decide +kernel
theorem d_Mo_look_27 : decode b_Mo_look 27 = .ok (.iaload, 1) := by decide +kernel
theorem d_Mo_look_28 : decode b_Mo_look 28 = .ok (.goto 37, 3) := by decide +kernel
theorem d_Mo_look_31 : decode b_Mo_look 31 = .ok (.iload_n 2, 1) := by decide +kernel
theorem d_Mo_look_32 : decode b_Mo_look 32 = .ok (.iconst 1, 1) := by decide +kernel
theorem d_Mo_look_33 : decode b_Mo_look 33 = .ok (.if_icmp .ne 12, 3) := by decide +kernel
theorem d_Mo_look_36 : decode b_Mo_look 36 = .ok (.aload_n 0, 1) := by decide +kernel
theorem d_Mo_look_37 : decode b_Mo_look 37 = .ok (.getfield 45, 3) := by decide +kernel
theorem d_Mo_look_40 : decode b_Mo_look 40 = .ok (.iload_n 1, 1) := by decide +kernel
theorem d_Mo_look_41 : decode b_Mo_look 41 = .ok (.iaload, 1) := by decide +kernel
theorem d_Mo_look_42 : decode b_Mo_look 42 = .ok (.goto 23, 3) := by decide +kernel
theorem d_Mo_look_45 : decode b_Mo_look 45 = .ok (.aload_n 0, 1) := by decide +kernel
theorem d_Mo_look_46 : decode b_Mo_look 46 = .ok (.getfield 42, 3) := by decide +kernel
theorem d_Mo_look_49 : decode b_Mo_look 49 = .ok (.iload_n 1, 1) := by decide +kernel
theorem d_Mo_look_50 : decode b_Mo_look 50 = .ok (.iaload, 1) := by decide +kernel
theorem d_Mo_look_51 : decode b_Mo_look 51 = .ok (.iconst 3, 1) := by decide +kernel
theorem d_Mo_look_52 : decode b_Mo_look 52 = .ok (.if_icmp .ne 12, 3) := by decide +kernel
theorem d_Mo_look_55 : decode b_Mo_look 55 = .ok (.aload_n 0, 1) := by decide +kernel
theorem d_Mo_look_56 : decode b_Mo_look 56 = .ok (.getfield 48, 3) := by decide +kernel
theorem d_Mo_look_59 : decode b_Mo_look 59 = .ok (.iload_n 1, 1) := by decide +kernel
theorem d_Mo_look_60 : decode b_Mo_look 60 = .ok (.iaload, 1) := by decide +kernel
theorem d_Mo_look_61 : decode b_Mo_look 61 = .ok (.goto 4, 3) := by decide +kernel
theorem d_Mo_look_64 : decode b_Mo_look 64 = .ok (.iconst 0, 1) := by decide +kernel
theorem d_Mo_look_65 : decode b_Mo_look 65 = .ok (.ireturn, 1) := by decide +kernel
theorem g_Mo_look {X : WX} {d : Nat} (hd : 1 ≤ d) (e what : Int) (M : Mem)  : MG X gt d KE KE y_Mo_look b_Mo_look 3 (some .int) [vr 55, vi e, vi what] M (fun r M' => r = some (vi (lookM M e what)) ∧ M' = M) := by
  refine MG_of_G (by decide) (Nat.le_of_ble_eq_true rfl) (Nat.le_refl _) (by decide) ?_
  show G X gt d KE KE y_Mo_look b_Mo_look 3 (some .int) _ 0 [(0, vr 55), (1, vi e), (2, vi what)] [] KE M
  refine G_rngl (i := 1) rfl (fun hr1 => ?_)
  refine G_rngl (i := 2) rfl (fun hr2 => ?_)
  refine G_iload (i := 1) (n := 1) (len := 1) (Or.inl ⟨1, rfl, rfl, d_Mo_look_0⟩) rfl (G_pc (pc' := 1) rfl ?_)
  refine G_iconst (n := 4) d_Mo_look_1 (by decide) (G_pc (pc' := 2) rfl ?_)
  refine G_callS (K1 := KE) (d2 := 0) (as := [vi e, vi 4]) (rest := []) d_Mo_look_2 mf_Mo_in ml_Mo_105 rfl rfl (by decide) (by omega) ⟨Nat.le_refl _, Nat.le_refl _⟩ (g_Mo_in (by omega) e 4 _) (fun r1 M2 kq3 q3 => ?_)
  clear kq3; obtain ⟨q3a, q3b⟩ := q3; subst r1; subst M2
  refine G_ps (pc' := 5) (st' := [vi (b2i (inB e 4))]) rfl rfl ?_
  refine G_if_eq (tgt := 16) d_Mo_look_5 (by decide) (fun h4 => ?_) (fun h4 => G_pc (pc' := 8) rfl ?_)
  · skip
    replace h4 := b2i_0.mp h4
    replace h4 := inB_f.mp h4
    refine G_iconst (n := (-1)) d_Mo_look_16 (by decide) (G_pc (pc' := 17) rfl ?_)
    refine G_iret d_Mo_look_17 rfl (tokI (by decide)) rfl rfl ?_
    exact ret_e (by unfold lookM; grind) rfl
  · skip
    replace h4 := b2i_nz.mp h4
    replace h4 := inB_t.mp h4
    refine G_iload (i := 2) (n := 2) (len := 1) (Or.inl ⟨2, rfl, rfl, d_Mo_look_8⟩) rfl (G_pc (pc' := 9) rfl ?_)
    refine G_iconst (n := 3) d_Mo_look_9 (by decide) (G_pc (pc' := 10) rfl ?_)
    refine G_callS (K1 := KE) (d2 := 0) (as := [vi what, vi 3]) (rest := []) d_Mo_look_10 mf_Mo_in ml_Mo_105 rfl rfl (by decide) (by omega) ⟨Nat.le_refl _, Nat.le_refl _⟩ (g_Mo_in (by omega) what 3 _) (fun r5 M6 kq7 q7 => ?_)
    clear kq7; obtain ⟨q7a, q7b⟩ := q7; subst r5; subst M6
    refine G_ps (pc' := 13) (st' := [vi (b2i (inB what 3))]) rfl rfl ?_
    refine G_if_ne (tgt := 18) d_Mo_look_13 (by decide) (fun h8 => ?_) (fun h8 => G_pc (pc' := 16) rfl ?_)
    · skip
      replace h8 := b2i_nz.mp h8
      replace h8 := inB_t.mp h8
      refine G_iload (i := 2) (n := 2) (len := 1) (Or.inl ⟨2, rfl, rfl, d_Mo_look_18⟩) rfl (G_pc (pc' := 19) rfl ?_)
      refine G_if_ne (tgt := 31) d_Mo_look_19 (by decide) (fun h9 => ?_) (fun h9 => G_pc (pc' := 22) rfl ?_)
      · skip
        refine G_iload (i := 2) (n := 2) (len := 1) (Or.inl ⟨2, rfl, rfl, d_Mo_look_31⟩) rfl (G_pc (pc' := 32) rfl ?_)
        refine G_iconst (n := 1) d_Mo_look_32 (by decide) (G_pc (pc' := 33) rfl ?_)
        refine G_icmp_ne (tgt := 45) d_Mo_look_33 (by decide) (fun h10 => ?_) (fun h10 => G_pc (pc' := 36) rfl ?_)
        · skip
          refine G_aload (i := 0) (n := 0) (len := 1) (Or.inl ⟨0, rfl, rfl, d_Mo_look_45⟩) rfl (by decide) (G_pc (pc' := 46) rfl ?_)
          refine G_get (o := 55) (c := 9) (k := 15) (v := 66) d_Mo_look_46 fl_Mo_42 rfl (by decide) (by decide) rfl rfl (G_pc (pc' := 49) rfl ?_)
          refine G_iload (i := 1) (n := 1) (len := 1) (Or.inl ⟨1, rfl, rfl, d_Mo_look_49⟩) rfl (G_pc (pc' := 50) rfl ?_)
          refine G_iaload (o := 66) (n := 4) (i := e) (v := M 66 e) d_Mo_look_50 rfl ⟨by decide, by decide⟩ (by omega) (rd_arr rfl) (fun t11 => G_pc (pc' := 51) rfl ?_)
          have t11 := tok_i t11
          refine G_iconst (n := 3) d_Mo_look_51 (by decide) (G_pc (pc' := 52) rfl ?_)
          refine G_icmp_ne (tgt := 64) d_Mo_look_52 (by decide) (fun h12 => ?_) (fun h12 => G_pc (pc' := 55) rfl ?_)
          · skip
            refine G_iconst (n := 0) d_Mo_look_64 (by decide) (G_pc (pc' := 65) rfl ?_)
            refine G_iret d_Mo_look_65 rfl (tokI (by decide)) rfl rfl ?_
            exact ret_e (by unfold lookM; grind) rfl
          · skip
            refine G_aload (i := 0) (n := 0) (len := 1) (Or.inl ⟨0, rfl, rfl, d_Mo_look_55⟩) rfl (by decide) (G_pc (pc' := 56) rfl ?_)
            refine G_get (o := 55) (c := 9) (k := 17) (v := 68) d_Mo_look_56 fl_Mo_48 rfl (by decide) (by decide) rfl rfl (G_pc (pc' := 59) rfl ?_)
            refine G_iload (i := 1) (n := 1) (len := 1) (Or.inl ⟨1, rfl, rfl, d_Mo_look_59⟩) rfl (G_pc (pc' := 60) rfl ?_)
            refine G_iaload (o := 68) (n := 4) (i := e) (v := M 68 e) d_Mo_look_60 rfl ⟨by decide, by decide⟩ (by omega) (rd_arr rfl) (fun t13 => G_pc (pc' := 61) rfl ?_)
            have t13 := tok_i t13
            refine G_goto (tgt := 65) d_Mo_look_61 (by decide) ?_
            refine G_iret d_Mo_look_65 rfl (tokI (by omega)) rfl rfl ?_
            exact ret_e (by unfold lookM; grind) rfl
        · skip
          refine G_aload (i := 0) (n := 0) (len := 1) (Or.inl ⟨0, rfl, rfl, d_Mo_look_36⟩) rfl (by decide) (G_pc (pc' := 37) rfl ?_)
          refine G_get (o := 55) (c := 9) (k := 16) (v := 67) d_Mo_look_37 fl_Mo_45 rfl (by decide) (by decide) rfl rfl (G_pc (pc' := 40) rfl ?_)
          refine G_iload (i := 1) (n := 1) (len := 1) (Or.inl ⟨1, rfl, rfl, d_Mo_look_40⟩) rfl (G_pc (pc' := 41) rfl ?_)
          refine G_iaload (o := 67) (n := 4) (i := e) (v := M 67 e) d_Mo_look_41 rfl ⟨by decide, by decide⟩ (by omega) (rd_arr rfl) (fun t14 => G_pc (pc' := 42) rfl ?_)
          have t14 := tok_i t14
          refine G_goto (tgt := 65) d_Mo_look_42 (by decide) ?_
          refine G_iret d_Mo_look_65 rfl (tokI (by omega)) rfl rfl ?_
          exact ret_e (by unfold lookM; grind) rfl
      · skip
        refine G_aload (i := 0) (n := 0) (len := 1) (Or.inl ⟨0, rfl, rfl, d_Mo_look_22⟩) rfl (by decide) (G_pc (pc' := 23) rfl ?_)
        refine G_get (o := 55) (c := 9) (k := 15) (v := 66) d_Mo_look_23 fl_Mo_42 rfl (by decide) (by decide) rfl rfl (G_pc (pc' := 26) rfl ?_)
        refine G_iload (i := 1) (n := 1) (len := 1) (Or.inl ⟨1, rfl, rfl, d_Mo_look_26⟩) rfl (G_pc (pc' := 27) rfl ?_)
        refine G_iaload (o := 66) (n := 4) (i := e) (v := M 66 e) d_Mo_look_27 rfl ⟨by decide, by decide⟩ (by omega) (rd_arr rfl) (fun t15 => G_pc (pc' := 28) rfl ?_)
        have t15 := tok_i t15
        refine G_goto (tgt := 65) d_Mo_look_28 (by decide) ?_
        refine G_iret d_Mo_look_65 rfl (tokI (by omega)) rfl rfl ?_
        exact ret_e (by unfold lookM; grind) rfl
    · skip
      replace h8 := b2i_0.mp h8
      replace h8 := inB_f.mp h8
      refine G_iconst (n := (-1)) d_Mo_look_16 (by decide) (G_pc (pc' := 17) rfl ?_)
      refine G_iret d_Mo_look_17 rfl (tokI (by decide)) rfl rfl ?_
      exact ret_e (by unfold lookM; grind) rfl

theorem d_Mo_value_0 : decode b_Mo_value 0 = .ok (.iload_n 1, 1) := by decide +kernel
theorem d_Mo_value_1 : decode b_Mo_value 1 = .ok (.iconst 4, 1) := by decide +kernel
theorem d_Mo_value_2 : decode b_Mo_value 2 = .ok (.invokestatic 105, 3) := by decide +kernel
theorem d_Mo_value_5 : decode b_Mo_value 5 = .ok (.ifCond .eq 22, 3) := by decide +kernel
theorem d_Mo_value_8 : decode b_Mo_value 8 = .ok (.aload_n 0, 1) := by decide +kernel
theorem d_Mo_value_9 : decode b_Mo_value 9 = .ok (.getfield 42, 3) := by decide +kernel
theorem d_Mo_value_12 : decode b_Mo_value 12 = .ok (.iload_n 1, 1) := by decide +kernel
theorem d_Mo_value_13 : decode b_Mo_value 13 = .ok (.iaload, 1) := by decide +kernel
theorem d_Mo_value_14 : decode b_Mo_value 14 = .ok (.iconst 2, 1) := by decide +kernel
theorem d_Mo_value_15 : decode b_Mo_value 15 = .ok (.if_icmp .ne 12, 3) := by decide +kernel
theorem d_Mo_value_18 : decode b_Mo_value 18 = .ok (.aload_n 0, 1) := by decide +kernel
theorem d_Mo_value_19 : decode b_Mo_value 19 = .ok (.getfield 51, 3) := by decide +kernel
theorem d_Mo_value_22 : decode b_Mo_value 22 = .ok (.iload_n 1, 1) := by decide +kernel
theorem d_Mo_value_23 : decode b_Mo_value 23 = .ok (.laload, 1) := by decide +kernel
theorem d_Mo_value_24 : decode b_Mo_value 24 = .ok (.goto 4, 3) := by decide +kernel
theorem d_Mo_value_27 : decode b_Mo_value 27 = .ok (.lconst 0, 1) := by decide +kernel
theorem d_Mo_value_28 : decode b_Mo_value 28 = .ok (.lreturn, 1) := by decide +kernel
theorem g_Mo_value {X : WX} {d : Nat} (hd : 1 ≤ d) (e : Int) (M : Mem)  : MG X gt d KE KE y_Mo_value b_Mo_value 2 (some .long) [vr 55, vi e] M (fun r M' => r = some (vl (valueM M e)) ∧ M' = M) := by
  refine MG_of_G (by decide) (Nat.le_of_ble_eq_true rfl) (Nat.le_refl _) (by decide) ?_
  show G X gt d KE KE y_Mo_value b_Mo_value 2 (some .long) _ 0 [(0, vr 55), (1, vi e)] [] KE M
  refine G_rngl (i := 1) rfl (fun hr1 => ?_)
  refine G_iload (i := 1) (n := 1) (len := 1) (Or.inl ⟨1, rfl, rfl, d_Mo_value_0⟩) rfl (G_pc (pc' := 1) rfl ?_)
  refine G_iconst (n := 4) d_Mo_value_1 (by decide) (G_pc (pc' := 2) rfl ?_)
  refine G_callS (K1 := KE) (d2 := 0) (as := [vi e, vi 4]) (rest := []) d_Mo_value_2 mf_Mo_in ml_Mo_105 rfl rfl (by decide) (by omega) ⟨Nat.le_refl _, Nat.le_refl _⟩ (g_Mo_in (by omega) e 4 _) (fun r1 M2 kq3 q3 => ?_)
  clear kq3; obtain ⟨q3a, q3b⟩ := q3; subst r1; subst M2
  refine G_ps (pc' := 5) (st' := [vi (b2i (inB e 4))]) rfl rfl ?_
  refine G_if_eq (tgt := 27) d_Mo_value_5 (by decide) (fun h4 => ?_) (fun h4 => G_pc (pc' := 8) rfl ?_)
  · skip
    replace h4 := b2i_0.mp h4
    replace h4 := inB_f.mp h4
    refine G_lconst0 d_Mo_value_27 (G_pc (pc' := 28) rfl ?_)
    refine G_lret d_Mo_value_28 rfl rfl ?_
    exact ret_l (by unfold valueM; grind) rfl
  · skip
    replace h4 := b2i_nz.mp h4
    replace h4 := inB_t.mp h4
    refine G_aload (i := 0) (n := 0) (len := 1) (Or.inl ⟨0, rfl, rfl, d_Mo_value_8⟩) rfl (by decide) (G_pc (pc' := 9) rfl ?_)
    refine G_get (o := 55) (c := 9) (k := 15) (v := 66) d_Mo_value_9 fl_Mo_42 rfl (by decide) (by decide) rfl rfl (G_pc (pc' := 12) rfl ?_)
    refine G_iload (i := 1) (n := 1) (len := 1) (Or.inl ⟨1, rfl, rfl, d_Mo_value_12⟩) rfl (G_pc (pc' := 13) rfl ?_)
    refine G_iaload (o := 66) (n := 4) (i := e) (v := M 66 e) d_Mo_value_13 rfl ⟨by decide, by decide⟩ (by omega) (rd_arr rfl) (fun t5 => G_pc (pc' := 14) rfl ?_)
    have t5 := tok_i t5
    refine G_iconst (n := 2) d_Mo_value_14 (by decide) (G_pc (pc' := 15) rfl ?_)
    refine G_icmp_ne (tgt := 27) d_Mo_value_15 (by decide) (fun h6 => ?_) (fun h6 => G_pc (pc' := 18) rfl ?_)
    · skip
      refine G_lconst0 d_Mo_value_27 (G_pc (pc' := 28) rfl ?_)
      refine G_lret d_Mo_value_28 rfl rfl ?_
      exact ret_l (by unfold valueM; grind) rfl
    · skip
      refine G_aload (i := 0) (n := 0) (len := 1) (Or.inl ⟨0, rfl, rfl, d_Mo_value_18⟩) rfl (by decide) (G_pc (pc' := 19) rfl ?_)
      refine G_get (o := 55) (c := 9) (k := 18) (v := 69) d_Mo_value_19 fl_Mo_51 rfl (by decide) (by decide) rfl rfl (G_pc (pc' := 22) rfl ?_)
      refine G_iload (i := 1) (n := 1) (len := 1) (Or.inl ⟨1, rfl, rfl, d_Mo_value_22⟩) rfl (G_pc (pc' := 23) rfl ?_)
      refine G_laload (o := 69) (n := 4) (i := e) (v := M 69 e) d_Mo_value_23 rfl ⟨by decide, by decide⟩ (by omega) (rd_arr rfl) (fun t7 => G_pc (pc' := 24) rfl ?_)
      have t7 := tok_l t7
      refine G_goto (tgt := 28) d_Mo_value_24 (by decide) ?_
      refine G_lret d_Mo_value_28 rfl rfl ?_
      exact ret_l (by unfold valueM; grind) rfl

def cntM (M : Mem) : Nat → Int
  | 0 => 0
  | n + 1 => cntM M n + (if M 71 n ≠ 0 then 1 else 0)
theorem cntM_rng (M : Mem) (n : Nat) : 0 ≤ cntM M n ∧ cntM M n ≤ n := by
  induction n with
  | zero => simp [cntM]
  | succ n ih => unfold cntM; split <;> omega
def countM (M : Mem) (what : Int) : Int := if what = 3 then cntM M 423 else if what = 0 then M 64 4 else if what = 1 then M 55 21 else if what = 2 then M 55 24 else -1
theorem d_Mo_count_0 : decode b_Mo_count 0 = .ok (.iload_n 1, 1) := by decide +kernel
theorem d_Mo_count_1 : decode b_Mo_count 1 = .ok (.iconst 3, 1) := by decide +kernel
theorem d_Mo_count_2 : decode b_Mo_count 2 = .ok (.if_icmp .ne 39, 3) := by decide +kernel
theorem d_Mo_count_5 : decode b_Mo_count 5 = .ok (.iconst 0, 1) := by decide +kernel
theorem d_Mo_count_6 : decode b_Mo_count 6 = .ok (.istore_n 2, 1) := by decide +kernel
theorem d_Mo_count_7 : decode b_Mo_count 7 = .ok (.iconst 0, 1) := by decide +kernel
theorem d_Mo_count_8 : decode b_Mo_count 8 = .ok (.istore_n 3, 1) := by decide +kernel
theorem d_Mo_count_9 : decode b_Mo_count 9 = .ok (.iload_n 3, 1) := by decide +kernel
theorem d_Mo_count_10 : decode b_Mo_count 10 = .ok (.sipush 423, 3) := by decide +kernel
theorem d_Mo_count_13 : decode b_Mo_count 13 = .ok (.if_icmp .ge 26, 3) := by decide +kernel
theorem d_Mo_count_16 : decode b_Mo_count 16 = .ok (.aload_n 0, 1) := by decide +kernel
theorem d_Mo_count_17 : decode b_Mo_count 17 = .ok (.getfield 57, 3) := by decide +kernel
theorem d_Mo_count_20 : decode b_Mo_count 20 = .ok (.iload_n 3, 1) := by decide +kernel
theorem d_Mo_count_21 : decode b_Mo_count 21 = .ok (.baload, 1) := by decide +kernel
theorem d_Mo_count_22 : decode b_Mo_count 22 = .ok (.ifCond .eq 9, 3) := by decide +kernel
theorem d_Mo_count_25 : decode b_Mo_count 25 = .ok (.iload_n 2, 1) := by decide +kernel
theorem d_Mo_count_26 : decode b_Mo_count 26 = .ok (.iconst 1, 1) := by decide +kernel
theorem d_Mo_count_27 : decode b_Mo_count 27 = .ok (.iadd, 1) := by decide +kernel
theorem d_Mo_count_28 : decode b_Mo_count 28 = .ok (.goto 4, 3) := by decide +kernel
theorem d_Mo_count_31 : decode b_Mo_count 31 = .ok (.iload_n 2, 1) := by decide +kernel
theorem d_Mo_count_32 : decode b_Mo_count 32 = .ok (.istore_n 2, 1) := by decide +kernel
theorem d_Mo_count_33 : decode b_Mo_count 33 = .ok (.iinc 3 1, 3) := by decide +kernel
theorem d_Mo_count_36 : decode b_Mo_count 36 = .ok (.goto (-27), 3) := by decide +kernel
theorem d_Mo_count_39 : decode b_Mo_count 39 = .ok (.iload_n 2, 1) := by decide +kernel
theorem d_Mo_count_40 : decode b_Mo_count 40 = .ok (.ireturn, 1) := by decide +kernel
theorem d_Mo_count_41 : decode b_Mo_count 41 = .ok (.iload_n 1, 1) := by decide +kernel
theorem d_Mo_count_42 : decode b_Mo_count 42 = .ok (.ifCond .ne 12, 3) := by decide +kernel
theorem d_Mo_count_45 : decode b_Mo_count 45 = .ok (.aload_n 0, 1) := by decide +kernel
theorem d_Mo_count_46 : decode b_Mo_count 46 = .ok (.getfield 35, 3) := by decide +kernel
theorem d_Mo_count_49 : decode b_Mo_count 49 = .ok (.iconst 4, 1) := by decide +kernel
theorem d_Mo_count_50 : decode b_Mo_count 50 = .ok (.iaload, 1) := by decide +kernel
theorem d_Mo_count_51 : decode b_Mo_count 51 = .ok (.goto 28, 3) := by decide +kernel
theorem d_Mo_count_54 : decode b_Mo_count 54 = .ok (.iload_n 1, 1) := by decide +kernel
theorem d_Mo_count_55 : decode b_Mo_count 55 = .ok (.iconst 1, 1) := by decide +kernel
theorem d_Mo_count_56 : decode b_Mo_count 56 = .ok (.if_icmp .ne 10, 3) := by decide +kernel
theorem d_Mo_count_59 : decode b_Mo_count 59 = .ok (.aload_n 0, 1) := by decide +kernel
theorem d_Mo_count_60 : decode b_Mo_count 60 = .ok (.getfield 150, 3) := by decide +kernel
theorem d_Mo_count_63 : decode b_Mo_count 63 = .ok (.goto 16, 3) := by decide +kernel
theorem d_Mo_count_66 : decode b_Mo_count 66 = .ok (.iload_n 1, 1) := by decide +kernel
theorem d_Mo_count_67 : decode b_Mo_count 67 = .ok (.iconst 2, 1) := by decide +kernel
theorem d_Mo_count_68 : decode b_Mo_count 68 = .ok (.if_icmp .ne 10, 3) := by decide +kernel
theorem d_Mo_count_71 : decode b_Mo_count 71 = .ok (.aload_n 0, 1) := by decide +kernel
theorem d_Mo_count_72 : decode b_Mo_count 72 = .ok (.getfield 322, 3) := by decide +kernel
theorem d_Mo_count_75 : decode b_Mo_count 75 = .ok (.goto 4, 3) := by decide +kernel
theorem d_Mo_count_78 : decode b_Mo_count 78 = .ok (.iconst (-1), 1) := by decide +kernel
theorem d_Mo_count_79 : decode b_Mo_count 79 = .ok (.ireturn, 1) := by decide +kernel
theorem g_Mo_count {X : WX} {d : Nat} (hd : 0 ≤ d) (what : Int) (M : Mem) (hR : 0 ≤ M 55 21 ∧ M 55 21 ≤ 400) (hS : 0 ≤ M 55 24 ∧ M 55 24 ≤ 400) : MG X gt d KE KE y_Mo_count b_Mo_count 4 (some .int) [vr 55, vi what] M (fun r M' => r = some (vi (countM M what)) ∧ M' = M) := by
  refine MG_of_G (by decide) (Nat.le_of_ble_eq_true rfl) (Nat.le_refl _) (by decide) ?_
  show G X gt d KE KE y_Mo_count b_Mo_count 4 (some .int) _ 0 [(0, vr 55), (1, vi what)] [] KE M
  refine G_rngl (i := 1) rfl (fun hr1 => ?_)
  have loop : ∀ (n : Nat) (k z : Int), k + n = 423 → 0 ≤ k → what = 3 → z = cntM M k.toNat → G X gt d KE KE y_Mo_count b_Mo_count 4 (some .int) (fun r M' => r = some (vi (countM M what)) ∧ M' = M) 9 [(3, vi k), (2, vi z), (0, vr 55), (1, vi what)] [] KE M := by
    intro n
    induction n with
    | zero =>
      intro k z h1 h2 h3 hz
      refine G_iload (i := 3) (n := 0) (len := 1) (Or.inl ⟨3, rfl, rfl, d_Mo_count_9⟩) rfl (G_pc (pc' := 10) rfl ?_)
      refine G_sipush (n := 423) d_Mo_count_10 (by decide) (G_pc (pc' := 13) rfl ?_)
      refine G_icmp_ge (tgt := 39) d_Mo_count_13 (by decide) (fun h1901 => ?_) (fun h1901 => absurd h1901 (by omega))
      refine G_iload (i := 2) (n := 1) (len := 1) (Or.inl ⟨2, rfl, rfl, d_Mo_count_39⟩) rfl (G_pc (pc' := 40) rfl ?_)
      refine G_iret d_Mo_count_40 rfl (tokI (by have := cntM_rng M k.toNat; omega)) rfl rfl ?_
      exact ret_e (by unfold countM; rw [if_pos (by omega)]; have := cntM_rng M 423; rw [hz, show k.toNat = 423 by omega]) rfl
    | succ n ih =>
      intro k z h1 h2 h3 hz
      refine G_iload (i := 3) (n := 0) (len := 1) (Or.inl ⟨3, rfl, rfl, d_Mo_count_9⟩) rfl (G_pc (pc' := 10) rfl ?_)
      refine G_sipush (n := 423) d_Mo_count_10 (by decide) (G_pc (pc' := 13) rfl ?_)
      refine G_icmp_ge (tgt := 39) d_Mo_count_13 (by decide) (fun h2001 => absurd h2001 (by omega)) (fun h2001 => G_pc (pc' := 16) rfl ?_)
      refine G_aload (i := 0) (n := 2) (len := 1) (Or.inl ⟨0, rfl, rfl, d_Mo_count_16⟩) rfl (by decide) (G_pc (pc' := 17) rfl ?_)
      refine G_get (o := 55) (c := 9) (k := 20) (v := 71) d_Mo_count_17 fl_Mo_57 rfl (by decide) (by decide) rfl rfl (G_pc (pc' := 20) rfl ?_)
      refine G_iload (i := 3) (n := 0) (len := 1) (Or.inl ⟨3, rfl, rfl, d_Mo_count_20⟩) rfl (G_pc (pc' := 21) rfl ?_)
      refine G_zaload (o := 71) (n := 423) (i := k) (v := M 71 k) d_Mo_count_21 rfl ⟨by decide, by decide⟩ (by have := cntM_rng M k.toNat; omega) (rd_arr rfl) (fun t2002 => G_pc (pc' := 22) rfl ?_)
      have t2002 := tok_z t2002
      refine G_if_eq (tgt := 31) d_Mo_count_22 (by decide) (fun h2003 => ?_) (fun h2003 => G_pc (pc' := 25) rfl ?_)
      · skip
        refine G_iload (i := 2) (n := 1) (len := 1) (Or.inl ⟨2, rfl, rfl, d_Mo_count_31⟩) rfl (G_pc (pc' := 32) rfl ?_)
        refine G_istore (i := 2) (len := 1) (ls' := [(2, vi z), (3, vi k), (0, vr 55), (1, vi what)]) (Or.inl ⟨2, rfl, rfl, d_Mo_count_32⟩) (by decide) rfl (G_pc (pc' := 33) rfl ?_)
        refine G_iinc (i := 3) (n := 1) (z := 1) (ls' := [(3, vi (k + 1)), (2, vi z), (0, vr 55), (1, vi what)]) d_Mo_count_33 rfl (by decide) (by have := cntM_rng M k.toNat; omega) rfl (G_pc (pc' := 36) rfl ?_)
        refine G_goto (tgt := 9) d_Mo_count_36 (by decide) ?_
        exact ih (k + 1) (z) (by omega) (by omega) (by omega) (by rw [show (k + 1).toNat = k.toNat + 1 by omega]; unfold cntM; rw [show ((k.toNat : Nat) : Int) = k by omega]; grind)
      · skip
        refine G_iload (i := 2) (n := 1) (len := 1) (Or.inl ⟨2, rfl, rfl, d_Mo_count_25⟩) rfl (G_pc (pc' := 26) rfl ?_)
        refine G_iconst (n := 1) d_Mo_count_26 (by decide) (G_pc (pc' := 27) rfl ?_)
        refine G_iadd d_Mo_count_27 (by have := cntM_rng M k.toNat; omega) (G_pc (pc' := 28) rfl ?_)
        refine G_goto (tgt := 32) d_Mo_count_28 (by decide) ?_
        refine G_istore (i := 2) (len := 1) (ls' := [(2, vi (z + 1)), (3, vi k), (0, vr 55), (1, vi what)]) (Or.inl ⟨2, rfl, rfl, d_Mo_count_32⟩) (by decide) rfl (G_pc (pc' := 33) rfl ?_)
        refine G_iinc (i := 3) (n := 1) (z := 1) (ls' := [(3, vi (k + 1)), (2, vi (z + 1)), (0, vr 55), (1, vi what)]) d_Mo_count_33 rfl (by decide) (by have := cntM_rng M k.toNat; omega) rfl (G_pc (pc' := 36) rfl ?_)
        refine G_goto (tgt := 9) d_Mo_count_36 (by decide) ?_
        exact ih (k + 1) (z + 1) (by omega) (by omega) (by omega) (by rw [show (k + 1).toNat = k.toNat + 1 by omega]; unfold cntM; rw [show ((k.toNat : Nat) : Int) = k by omega]; grind)
  refine G_iload (i := 1) (n := 1) (len := 1) (Or.inl ⟨1, rfl, rfl, d_Mo_count_0⟩) rfl (G_pc (pc' := 1) rfl ?_)
  refine G_iconst (n := 3) d_Mo_count_1 (by decide) (G_pc (pc' := 2) rfl ?_)
  refine G_icmp_ne (tgt := 41) d_Mo_count_2 (by decide) (fun h1 => ?_) (fun h1 => G_pc (pc' := 5) rfl ?_)
  · skip
    refine G_iload (i := 1) (n := 1) (len := 1) (Or.inl ⟨1, rfl, rfl, d_Mo_count_41⟩) rfl (G_pc (pc' := 42) rfl ?_)
    refine G_if_ne (tgt := 54) d_Mo_count_42 (by decide) (fun h2 => ?_) (fun h2 => G_pc (pc' := 45) rfl ?_)
    · skip
      refine G_iload (i := 1) (n := 1) (len := 1) (Or.inl ⟨1, rfl, rfl, d_Mo_count_54⟩) rfl (G_pc (pc' := 55) rfl ?_)
      refine G_iconst (n := 1) d_Mo_count_55 (by decide) (G_pc (pc' := 56) rfl ?_)
      refine G_icmp_ne (tgt := 66) d_Mo_count_56 (by decide) (fun h3 => ?_) (fun h3 => G_pc (pc' := 59) rfl ?_)
      · skip
        refine G_iload (i := 1) (n := 1) (len := 1) (Or.inl ⟨1, rfl, rfl, d_Mo_count_66⟩) rfl (G_pc (pc' := 67) rfl ?_)
        refine G_iconst (n := 2) d_Mo_count_67 (by decide) (G_pc (pc' := 68) rfl ?_)
        refine G_icmp_ne (tgt := 78) d_Mo_count_68 (by decide) (fun h4 => ?_) (fun h4 => G_pc (pc' := 71) rfl ?_)
        · skip
          refine G_iconst (n := (-1)) d_Mo_count_78 (by decide) (G_pc (pc' := 79) rfl ?_)
          refine G_iret d_Mo_count_79 rfl (tokI (by decide)) rfl rfl ?_
          exact ret_e (by unfold countM; grind) rfl
        · skip
          refine G_aload (i := 0) (n := 0) (len := 1) (Or.inl ⟨0, rfl, rfl, d_Mo_count_71⟩) rfl (by decide) (G_pc (pc' := 72) rfl ?_)
          refine G_get (o := 55) (c := 9) (k := 24) (v := M 55 24) d_Mo_count_72 fl_Mo_322 rfl (by decide) (by decide) rfl rfl (G_pc (pc' := 75) rfl ?_)
          refine G_goto (tgt := 79) d_Mo_count_75 (by decide) ?_
          refine G_iret d_Mo_count_79 rfl (tokI (by omega)) rfl rfl ?_
          exact ret_e (by unfold countM; grind) rfl
      · skip
        refine G_aload (i := 0) (n := 0) (len := 1) (Or.inl ⟨0, rfl, rfl, d_Mo_count_59⟩) rfl (by decide) (G_pc (pc' := 60) rfl ?_)
        refine G_get (o := 55) (c := 9) (k := 21) (v := M 55 21) d_Mo_count_60 fl_Mo_150 rfl (by decide) (by decide) rfl rfl (G_pc (pc' := 63) rfl ?_)
        refine G_goto (tgt := 79) d_Mo_count_63 (by decide) ?_
        refine G_iret d_Mo_count_79 rfl (tokI (by omega)) rfl rfl ?_
        exact ret_e (by unfold countM; grind) rfl
    · skip
      refine G_aload (i := 0) (n := 0) (len := 1) (Or.inl ⟨0, rfl, rfl, d_Mo_count_45⟩) rfl (by decide) (G_pc (pc' := 46) rfl ?_)
      refine G_get (o := 55) (c := 9) (k := 13) (v := 64) d_Mo_count_46 fl_Mo_35 rfl (by decide) (by decide) rfl rfl (G_pc (pc' := 49) rfl ?_)
      refine G_iconst (n := 4) d_Mo_count_49 (by decide) (G_pc (pc' := 50) rfl ?_)
      refine G_iaload (o := 64) (n := 5) (i := 4) (v := M 64 4) d_Mo_count_50 rfl ⟨by decide, by decide⟩ (by omega) (rd_arr rfl) (fun t5 => G_pc (pc' := 51) rfl ?_)
      have t5 := tok_i t5
      refine G_goto (tgt := 79) d_Mo_count_51 (by decide) ?_
      refine G_iret d_Mo_count_79 rfl (tokI (by omega)) rfl rfl ?_
      exact ret_e (by unfold countM; grind) rfl
  · skip
    refine G_iconst (n := 0) d_Mo_count_5 (by decide) (G_pc (pc' := 6) rfl ?_)
    refine G_istore (i := 2) (len := 1) (ls' := [(2, vi 0), (0, vr 55), (1, vi what)]) (Or.inl ⟨2, rfl, rfl, d_Mo_count_6⟩) (by decide) rfl (G_pc (pc' := 7) rfl ?_)
    refine G_iconst (n := 0) d_Mo_count_7 (by decide) (G_pc (pc' := 8) rfl ?_)
    refine G_istore (i := 3) (len := 1) (ls' := [(3, vi 0), (2, vi 0), (0, vr 55), (1, vi what)]) (Or.inl ⟨3, rfl, rfl, d_Mo_count_8⟩) (by decide) rfl (G_pc (pc' := 9) rfl ?_)
    exact loop 423 0 0 (by omega) (by omega) (by omega) rfl

def wb (M : Mem) (p e : Int) : Int := if M 66 e = 1 ∧ M 70 e = p then 1 else 0
theorem wb_rng (M : Mem) (p e : Int) : 0 ≤ wb M p e ∧ wb M p e ≤ 1 := by unfold wb; split <;> omega
def waitM (M : Mem) (p : Int) : Int := wb M p 0 + 2 * wb M p 1 + 4 * wb M p 2 + 8 * wb M p 3
theorem waitM_rng (M : Mem) (p : Int) : 0 ≤ waitM M p ∧ waitM M p < 16 := by
  have := wb_rng M p 0; have := wb_rng M p 1; have := wb_rng M p 2; have := wb_rng M p 3
  unfold waitM; omega
theorem ior_0 : ∀ s : Nat, s < 1 → o_ior s (o_ishl 1 0) = s + 1 := by decide +kernel
theorem ior_1 : ∀ s : Nat, s < 2 → o_ior s (o_ishl 1 1) = s + 2 := by decide +kernel
theorem ior_2 : ∀ s : Nat, s < 4 → o_ior s (o_ishl 1 2) = s + 4 := by decide +kernel
theorem ior_3 : ∀ s : Nat, s < 8 → o_ior s (o_ishl 1 3) = s + 8 := by decide +kernel
theorem ior_at {b : Nat} {e p : Int} (h : ∀ s : Nat, s < b → o_ior s (o_ishl 1 e) = s + p) {s : Int} (hs : 0 ≤ s ∧ s < b) : o_ior s (o_ishl 1 e) = s + p := by
  obtain ⟨n, rfl⟩ := Int.eq_ofNat_of_zero_le hs.1
  exact h n (by omega)
theorem bit_at : ∀ s : Nat, s < 16 → ∀ e : Nat, e < 4 → o_iand (o_ishr s e) 1 = ((s / 2 ^ e % 2 : Nat) : Int) := by decide +kernel
theorem bit_0 : ∀ s : Nat, s < 16 → o_iand s 1 = ((s % 2 : Nat) : Int) := by decide +kernel
theorem bit_e {s e : Int} (hs : 0 ≤ s ∧ s < 16) (he : 0 ≤ e ∧ e < 4) : o_iand (o_ishr s e) 1 = s / 2 ^ e.toNat % 2 := by
  obtain ⟨n, rfl⟩ := Int.eq_ofNat_of_zero_le hs.1
  obtain ⟨m, rfl⟩ := Int.eq_ofNat_of_zero_le he.1
  rw [bit_at n (by omega) m (by omega)]
  simp
theorem bit_e0 {s : Int} (hs : 0 ≤ s ∧ s < 16) : o_iand s 1 = s % 2 := by
  obtain ⟨n, rfl⟩ := Int.eq_ofNat_of_zero_le hs.1
  rw [bit_0 n (by omega)]
  omega
theorem bits_of {a b c d : Int} (ha : 0 ≤ a ∧ a ≤ 1) (hb : 0 ≤ b ∧ b ≤ 1) (hc : 0 ≤ c ∧ c ≤ 1) (hd : 0 ≤ d ∧ d ≤ 1) : (a + 2 * b + 4 * c + 8 * d) % 2 = a ∧ (a + 2 * b + 4 * c + 8 * d) / 2 % 2 = b ∧ (a + 2 * b + 4 * c + 8 * d) / 4 % 2 = c ∧ (a + 2 * b + 4 * c + 8 * d) / 8 % 2 = d := by omega
theorem d_Mo_waiting_0 : decode b_Mo_waiting 0 = .ok (.iconst 0, 1) := by decide +kernel
theorem d_Mo_waiting_1 : decode b_Mo_waiting 1 = .ok (.istore_n 2, 1) := by decide +kernel
theorem d_Mo_waiting_2 : decode b_Mo_waiting 2 = .ok (.iconst 0, 1) := by decide +kernel
theorem d_Mo_waiting_3 : decode b_Mo_waiting 3 = .ok (.istore_n 3, 1) := by decide +kernel
theorem d_Mo_waiting_4 : decode b_Mo_waiting 4 = .ok (.iload_n 3, 1) := by decide +kernel
theorem d_Mo_waiting_5 : decode b_Mo_waiting 5 = .ok (.iconst 4, 1) := by decide +kernel
theorem d_Mo_waiting_6 : decode b_Mo_waiting 6 = .ok (.if_icmp .ge 39, 3) := by decide +kernel
theorem d_Mo_waiting_9 : decode b_Mo_waiting 9 = .ok (.aload_n 0, 1) := by decide +kernel
theorem d_Mo_waiting_10 : decode b_Mo_waiting 10 = .ok (.getfield 42, 3) := by decide +kernel
theorem d_Mo_waiting_13 : decode b_Mo_waiting 13 = .ok (.iload_n 3, 1) := by decide +kernel
theorem d_Mo_waiting_14 : decode b_Mo_waiting 14 = .ok (.iaload, 1) := by decide +kernel
theorem d_Mo_waiting_15 : decode b_Mo_waiting 15 = .ok (.iconst 1, 1) := by decide +kernel
theorem d_Mo_waiting_16 : decode b_Mo_waiting 16 = .ok (.if_icmp .ne 21, 3) := by decide +kernel
theorem d_Mo_waiting_19 : decode b_Mo_waiting 19 = .ok (.aload_n 0, 1) := by decide +kernel
theorem d_Mo_waiting_20 : decode b_Mo_waiting 20 = .ok (.getfield 54, 3) := by decide +kernel
theorem d_Mo_waiting_23 : decode b_Mo_waiting 23 = .ok (.iload_n 3, 1) := by decide +kernel
theorem d_Mo_waiting_24 : decode b_Mo_waiting 24 = .ok (.iaload, 1) := by decide +kernel
theorem d_Mo_waiting_25 : decode b_Mo_waiting 25 = .ok (.iload_n 1, 1) := by decide +kernel
theorem d_Mo_waiting_26 : decode b_Mo_waiting 26 = .ok (.if_icmp .ne 11, 3) := by decide +kernel
theorem d_Mo_waiting_29 : decode b_Mo_waiting 29 = .ok (.iload_n 2, 1) := by decide +kernel
theorem d_Mo_waiting_30 : decode b_Mo_waiting 30 = .ok (.iconst 1, 1) := by decide +kernel
theorem d_Mo_waiting_31 : decode b_Mo_waiting 31 = .ok (.iload_n 3, 1) := by decide +kernel
theorem d_Mo_waiting_32 : decode b_Mo_waiting 32 = .ok (.ishl, 1) := by decide +kernel
theorem d_Mo_waiting_33 : decode b_Mo_waiting 33 = .ok (.ior, 1) := by decide +kernel
theorem d_Mo_waiting_34 : decode b_Mo_waiting 34 = .ok (.goto 4, 3) := by decide +kernel
theorem d_Mo_waiting_37 : decode b_Mo_waiting 37 = .ok (.iload_n 2, 1) := by decide +kernel
theorem d_Mo_waiting_38 : decode b_Mo_waiting 38 = .ok (.istore_n 2, 1) := by decide +kernel
theorem d_Mo_waiting_39 : decode b_Mo_waiting 39 = .ok (.iinc 3 1, 3) := by decide +kernel
theorem d_Mo_waiting_42 : decode b_Mo_waiting 42 = .ok (.goto (-38), 3) := by decide +kernel
theorem d_Mo_waiting_45 : decode b_Mo_waiting 45 = .ok (.iload_n 2, 1) := by decide +kernel
theorem d_Mo_waiting_46 : decode b_Mo_waiting 46 = .ok (.ireturn, 1) := by decide +kernel
theorem g_Mo_waiting {X : WX} {d : Nat} (hd : 0 ≤ d) (q : Int) (M : Mem)  : MG X gt d KE KE y_Mo_waiting b_Mo_waiting 4 (some .int) [vr 55, vi q] M (fun r M' => r = some (vi (waitM M q)) ∧ M' = M) := by
  refine MG_of_G (by decide) (Nat.le_of_ble_eq_true rfl) (Nat.le_refl _) (by decide) ?_
  show G X gt d KE KE y_Mo_waiting b_Mo_waiting 4 (some .int) _ 0 [(0, vr 55), (1, vi q)] [] KE M
  refine G_rngl (i := 1) rfl (fun hr1 => ?_)
  have it4 : ∀ s : Int, s = waitM M q → G X gt d KE KE y_Mo_waiting b_Mo_waiting 4 (some .int) (fun r M' => r = some (vi (waitM M q)) ∧ M' = M) 4 [(3, vi 4), (2, vi s), (0, vr 55), (1, vi q)] [] KE M := by
    intro s hs
    refine G_iload (i := 3) (n := 0) (len := 1) (Or.inl ⟨3, rfl, rfl, d_Mo_waiting_4⟩) rfl (G_pc (pc' := 5) rfl ?_)
    refine G_iconst (n := 4) d_Mo_waiting_5 (by decide) (G_pc (pc' := 6) rfl ?_)
    refine G_icmp_ge (tgt := 45) d_Mo_waiting_6 (by decide) (fun h2101 => ?_) (fun h2101 => absurd h2101 (by decide))
    refine G_iload (i := 2) (n := 1) (len := 1) (Or.inl ⟨2, rfl, rfl, d_Mo_waiting_45⟩) rfl (G_pc (pc' := 46) rfl ?_)
    refine G_iret d_Mo_waiting_46 rfl (tokI (by have := waitM_rng M q; omega)) rfl rfl ?_
    exact ret_e hs rfl
  have it3 : ∀ s : Int, s = wb M q 0 + 2 * wb M q 1 + 4 * wb M q 2 → G X gt d KE KE y_Mo_waiting b_Mo_waiting 4 (some .int) (fun r M' => r = some (vi (waitM M q)) ∧ M' = M) 4 [(3, vi 3), (2, vi s), (0, vr 55), (1, vi q)] [] KE M := by
    intro s hs
    have hb0 := wb_rng M q 0
    have hb1 := wb_rng M q 1
    have hb2 := wb_rng M q 2
    refine G_iload (i := 3) (n := 0) (len := 1) (Or.inl ⟨3, rfl, rfl, d_Mo_waiting_4⟩) rfl (G_pc (pc' := 5) rfl ?_)
    refine G_iconst (n := 4) d_Mo_waiting_5 (by decide) (G_pc (pc' := 6) rfl ?_)
    refine G_icmp_ge (tgt := 45) d_Mo_waiting_6 (by decide) (fun h2201 => absurd h2201 (by decide)) (fun h2201 => G_pc (pc' := 9) rfl ?_)
    refine G_aload (i := 0) (n := 2) (len := 1) (Or.inl ⟨0, rfl, rfl, d_Mo_waiting_9⟩) rfl (by decide) (G_pc (pc' := 10) rfl ?_)
    refine G_get (o := 55) (c := 9) (k := 15) (v := 66) d_Mo_waiting_10 fl_Mo_42 rfl (by decide) (by decide) rfl rfl (G_pc (pc' := 13) rfl ?_)
    refine G_iload (i := 3) (n := 0) (len := 1) (Or.inl ⟨3, rfl, rfl, d_Mo_waiting_13⟩) rfl (G_pc (pc' := 14) rfl ?_)
    refine G_iaload (o := 66) (n := 4) (i := 3) (v := M 66 3) d_Mo_waiting_14 rfl ⟨by decide, by decide⟩ (by omega) (rd_arr rfl) (fun t2202 => G_pc (pc' := 15) rfl ?_)
    have t2202 := tok_i t2202
    refine G_iconst (n := 1) d_Mo_waiting_15 (by decide) (G_pc (pc' := 16) rfl ?_)
    refine G_icmp_ne (tgt := 37) d_Mo_waiting_16 (by decide) (fun h2203 => ?_) (fun h2203 => G_pc (pc' := 19) rfl ?_)
    · skip
      refine G_iload (i := 2) (n := 1) (len := 1) (Or.inl ⟨2, rfl, rfl, d_Mo_waiting_37⟩) rfl (G_pc (pc' := 38) rfl ?_)
      refine G_istore (i := 2) (len := 1) (ls' := [(2, vi s), (3, vi 3), (0, vr 55), (1, vi q)]) (Or.inl ⟨2, rfl, rfl, d_Mo_waiting_38⟩) (by decide) rfl (G_pc (pc' := 39) rfl ?_)
      refine G_iinc (i := 3) (n := 1) (z := 1) (ls' := [(3, vi 4), (2, vi s), (0, vr 55), (1, vi q)]) d_Mo_waiting_39 rfl (by decide) (by omega) rfl (G_pc (pc' := 42) rfl ?_)
      refine G_goto (tgt := 4) d_Mo_waiting_42 (by decide) ?_
      refine G_ls (ls' := [(3, vi 4), (2, vi s), (0, vr 55), (1, vi q)]) (by intro z hz; simp at hz ⊢; omega) ?_
      exact it4 _ (by have hw : wb M q 3 = 0 := if_neg (by omega); unfold waitM; omega)
    · skip
      refine G_aload (i := 0) (n := 2) (len := 1) (Or.inl ⟨0, rfl, rfl, d_Mo_waiting_19⟩) rfl (by decide) (G_pc (pc' := 20) rfl ?_)
      refine G_get (o := 55) (c := 9) (k := 19) (v := 70) d_Mo_waiting_20 fl_Mo_54 rfl (by decide) (by decide) rfl rfl (G_pc (pc' := 23) rfl ?_)
      refine G_iload (i := 3) (n := 0) (len := 1) (Or.inl ⟨3, rfl, rfl, d_Mo_waiting_23⟩) rfl (G_pc (pc' := 24) rfl ?_)
      refine G_iaload (o := 70) (n := 4) (i := 3) (v := M 70 3) d_Mo_waiting_24 rfl ⟨by decide, by decide⟩ (by omega) (rd_arr rfl) (fun t2204 => G_pc (pc' := 25) rfl ?_)
      have t2204 := tok_i t2204
      refine G_iload (i := 1) (n := 3) (len := 1) (Or.inl ⟨1, rfl, rfl, d_Mo_waiting_25⟩) rfl (G_pc (pc' := 26) rfl ?_)
      refine G_icmp_ne (tgt := 37) d_Mo_waiting_26 (by decide) (fun h2205 => ?_) (fun h2205 => G_pc (pc' := 29) rfl ?_)
      · skip
        refine G_iload (i := 2) (n := 1) (len := 1) (Or.inl ⟨2, rfl, rfl, d_Mo_waiting_37⟩) rfl (G_pc (pc' := 38) rfl ?_)
        refine G_istore (i := 2) (len := 1) (ls' := [(2, vi s), (3, vi 3), (0, vr 55), (1, vi q)]) (Or.inl ⟨2, rfl, rfl, d_Mo_waiting_38⟩) (by decide) rfl (G_pc (pc' := 39) rfl ?_)
        refine G_iinc (i := 3) (n := 1) (z := 1) (ls' := [(3, vi 4), (2, vi s), (0, vr 55), (1, vi q)]) d_Mo_waiting_39 rfl (by decide) (by omega) rfl (G_pc (pc' := 42) rfl ?_)
        refine G_goto (tgt := 4) d_Mo_waiting_42 (by decide) ?_
        refine G_ls (ls' := [(3, vi 4), (2, vi s), (0, vr 55), (1, vi q)]) (by intro z hz; simp at hz ⊢; omega) ?_
        exact it4 _ (by have hw : wb M q 3 = 0 := if_neg (by omega); unfold waitM; omega)
      · skip
        refine G_iload (i := 2) (n := 1) (len := 1) (Or.inl ⟨2, rfl, rfl, d_Mo_waiting_29⟩) rfl (G_pc (pc' := 30) rfl ?_)
        refine G_iconst (n := 1) d_Mo_waiting_30 (by decide) (G_pc (pc' := 31) rfl ?_)
        refine G_iload (i := 3) (n := 0) (len := 1) (Or.inl ⟨3, rfl, rfl, d_Mo_waiting_31⟩) rfl (G_pc (pc' := 32) rfl ?_)
        refine G_ishl d_Mo_waiting_32 (G_pc (pc' := 33) rfl ?_)
        refine G_ior d_Mo_waiting_33 (G_pc (pc' := 34) rfl ?_)
        refine G_goto (tgt := 38) d_Mo_waiting_34 (by decide) ?_
        refine G_istore (i := 2) (len := 1) (ls' := [(2, vi (o_ior s (o_ishl 1 3))), (3, vi 3), (0, vr 55), (1, vi q)]) (Or.inl ⟨2, rfl, rfl, d_Mo_waiting_38⟩) (by decide) rfl (G_pc (pc' := 39) rfl ?_)
        refine G_iinc (i := 3) (n := 1) (z := 1) (ls' := [(3, vi 4), (2, vi (o_ior s (o_ishl 1 3))), (0, vr 55), (1, vi q)]) d_Mo_waiting_39 rfl (by decide) (by omega) rfl (G_pc (pc' := 42) rfl ?_)
        refine G_goto (tgt := 4) d_Mo_waiting_42 (by decide) ?_
        refine G_ls (ls' := [(3, vi 4), (2, vi (o_ior s (o_ishl 1 3))), (0, vr 55), (1, vi q)]) (by intro z hz; simp at hz ⊢; omega) ?_
        exact it4 _ (by rw [ior_at ior_3 (by omega)]; have hw : wb M q 3 = 1 := if_pos ⟨by omega, by omega⟩; unfold waitM; omega)
  have it2 : ∀ s : Int, s = wb M q 0 + 2 * wb M q 1 → G X gt d KE KE y_Mo_waiting b_Mo_waiting 4 (some .int) (fun r M' => r = some (vi (waitM M q)) ∧ M' = M) 4 [(3, vi 2), (2, vi s), (0, vr 55), (1, vi q)] [] KE M := by
    intro s hs
    have hb0 := wb_rng M q 0
    have hb1 := wb_rng M q 1
    refine G_iload (i := 3) (n := 0) (len := 1) (Or.inl ⟨3, rfl, rfl, d_Mo_waiting_4⟩) rfl (G_pc (pc' := 5) rfl ?_)
    refine G_iconst (n := 4) d_Mo_waiting_5 (by decide) (G_pc (pc' := 6) rfl ?_)
    refine G_icmp_ge (tgt := 45) d_Mo_waiting_6 (by decide) (fun h2301 => absurd h2301 (by decide)) (fun h2301 => G_pc (pc' := 9) rfl ?_)
    refine G_aload (i := 0) (n := 2) (len := 1) (Or.inl ⟨0, rfl, rfl, d_Mo_waiting_9⟩) rfl (by decide) (G_pc (pc' := 10) rfl ?_)
    refine G_get (o := 55) (c := 9) (k := 15) (v := 66) d_Mo_waiting_10 fl_Mo_42 rfl (by decide) (by decide) rfl rfl (G_pc (pc' := 13) rfl ?_)
    refine G_iload (i := 3) (n := 0) (len := 1) (Or.inl ⟨3, rfl, rfl, d_Mo_waiting_13⟩) rfl (G_pc (pc' := 14) rfl ?_)
    refine G_iaload (o := 66) (n := 4) (i := 2) (v := M 66 2) d_Mo_waiting_14 rfl ⟨by decide, by decide⟩ (by omega) (rd_arr rfl) (fun t2302 => G_pc (pc' := 15) rfl ?_)
    have t2302 := tok_i t2302
    refine G_iconst (n := 1) d_Mo_waiting_15 (by decide) (G_pc (pc' := 16) rfl ?_)
    refine G_icmp_ne (tgt := 37) d_Mo_waiting_16 (by decide) (fun h2303 => ?_) (fun h2303 => G_pc (pc' := 19) rfl ?_)
    · skip
      refine G_iload (i := 2) (n := 1) (len := 1) (Or.inl ⟨2, rfl, rfl, d_Mo_waiting_37⟩) rfl (G_pc (pc' := 38) rfl ?_)
      refine G_istore (i := 2) (len := 1) (ls' := [(2, vi s), (3, vi 2), (0, vr 55), (1, vi q)]) (Or.inl ⟨2, rfl, rfl, d_Mo_waiting_38⟩) (by decide) rfl (G_pc (pc' := 39) rfl ?_)
      refine G_iinc (i := 3) (n := 1) (z := 1) (ls' := [(3, vi 3), (2, vi s), (0, vr 55), (1, vi q)]) d_Mo_waiting_39 rfl (by decide) (by omega) rfl (G_pc (pc' := 42) rfl ?_)
      refine G_goto (tgt := 4) d_Mo_waiting_42 (by decide) ?_
      refine G_ls (ls' := [(3, vi 3), (2, vi s), (0, vr 55), (1, vi q)]) (by intro z hz; simp at hz ⊢; omega) ?_
      exact it3 _ (by have hw : wb M q 2 = 0 := if_neg (by omega); omega)
    · skip
      refine G_aload (i := 0) (n := 2) (len := 1) (Or.inl ⟨0, rfl, rfl, d_Mo_waiting_19⟩) rfl (by decide) (G_pc (pc' := 20) rfl ?_)
      refine G_get (o := 55) (c := 9) (k := 19) (v := 70) d_Mo_waiting_20 fl_Mo_54 rfl (by decide) (by decide) rfl rfl (G_pc (pc' := 23) rfl ?_)
      refine G_iload (i := 3) (n := 0) (len := 1) (Or.inl ⟨3, rfl, rfl, d_Mo_waiting_23⟩) rfl (G_pc (pc' := 24) rfl ?_)
      refine G_iaload (o := 70) (n := 4) (i := 2) (v := M 70 2) d_Mo_waiting_24 rfl ⟨by decide, by decide⟩ (by omega) (rd_arr rfl) (fun t2304 => G_pc (pc' := 25) rfl ?_)
      have t2304 := tok_i t2304
      refine G_iload (i := 1) (n := 3) (len := 1) (Or.inl ⟨1, rfl, rfl, d_Mo_waiting_25⟩) rfl (G_pc (pc' := 26) rfl ?_)
      refine G_icmp_ne (tgt := 37) d_Mo_waiting_26 (by decide) (fun h2305 => ?_) (fun h2305 => G_pc (pc' := 29) rfl ?_)
      · skip
        refine G_iload (i := 2) (n := 1) (len := 1) (Or.inl ⟨2, rfl, rfl, d_Mo_waiting_37⟩) rfl (G_pc (pc' := 38) rfl ?_)
        refine G_istore (i := 2) (len := 1) (ls' := [(2, vi s), (3, vi 2), (0, vr 55), (1, vi q)]) (Or.inl ⟨2, rfl, rfl, d_Mo_waiting_38⟩) (by decide) rfl (G_pc (pc' := 39) rfl ?_)
        refine G_iinc (i := 3) (n := 1) (z := 1) (ls' := [(3, vi 3), (2, vi s), (0, vr 55), (1, vi q)]) d_Mo_waiting_39 rfl (by decide) (by omega) rfl (G_pc (pc' := 42) rfl ?_)
        refine G_goto (tgt := 4) d_Mo_waiting_42 (by decide) ?_
        refine G_ls (ls' := [(3, vi 3), (2, vi s), (0, vr 55), (1, vi q)]) (by intro z hz; simp at hz ⊢; omega) ?_
        exact it3 _ (by have hw : wb M q 2 = 0 := if_neg (by omega); omega)
      · skip
        refine G_iload (i := 2) (n := 1) (len := 1) (Or.inl ⟨2, rfl, rfl, d_Mo_waiting_29⟩) rfl (G_pc (pc' := 30) rfl ?_)
        refine G_iconst (n := 1) d_Mo_waiting_30 (by decide) (G_pc (pc' := 31) rfl ?_)
        refine G_iload (i := 3) (n := 0) (len := 1) (Or.inl ⟨3, rfl, rfl, d_Mo_waiting_31⟩) rfl (G_pc (pc' := 32) rfl ?_)
        refine G_ishl d_Mo_waiting_32 (G_pc (pc' := 33) rfl ?_)
        refine G_ior d_Mo_waiting_33 (G_pc (pc' := 34) rfl ?_)
        refine G_goto (tgt := 38) d_Mo_waiting_34 (by decide) ?_
        refine G_istore (i := 2) (len := 1) (ls' := [(2, vi (o_ior s (o_ishl 1 2))), (3, vi 2), (0, vr 55), (1, vi q)]) (Or.inl ⟨2, rfl, rfl, d_Mo_waiting_38⟩) (by decide) rfl (G_pc (pc' := 39) rfl ?_)
        refine G_iinc (i := 3) (n := 1) (z := 1) (ls' := [(3, vi 3), (2, vi (o_ior s (o_ishl 1 2))), (0, vr 55), (1, vi q)]) d_Mo_waiting_39 rfl (by decide) (by omega) rfl (G_pc (pc' := 42) rfl ?_)
        refine G_goto (tgt := 4) d_Mo_waiting_42 (by decide) ?_
        refine G_ls (ls' := [(3, vi 3), (2, vi (o_ior s (o_ishl 1 2))), (0, vr 55), (1, vi q)]) (by intro z hz; simp at hz ⊢; omega) ?_
        exact it3 _ (by rw [ior_at ior_2 (by omega)]; have hw : wb M q 2 = 1 := if_pos ⟨by omega, by omega⟩; omega)
  have it1 : ∀ s : Int, s = wb M q 0 → G X gt d KE KE y_Mo_waiting b_Mo_waiting 4 (some .int) (fun r M' => r = some (vi (waitM M q)) ∧ M' = M) 4 [(3, vi 1), (2, vi s), (0, vr 55), (1, vi q)] [] KE M := by
    intro s hs
    have hb0 := wb_rng M q 0
    refine G_iload (i := 3) (n := 0) (len := 1) (Or.inl ⟨3, rfl, rfl, d_Mo_waiting_4⟩) rfl (G_pc (pc' := 5) rfl ?_)
    refine G_iconst (n := 4) d_Mo_waiting_5 (by decide) (G_pc (pc' := 6) rfl ?_)
    refine G_icmp_ge (tgt := 45) d_Mo_waiting_6 (by decide) (fun h2401 => absurd h2401 (by decide)) (fun h2401 => G_pc (pc' := 9) rfl ?_)
    refine G_aload (i := 0) (n := 2) (len := 1) (Or.inl ⟨0, rfl, rfl, d_Mo_waiting_9⟩) rfl (by decide) (G_pc (pc' := 10) rfl ?_)
    refine G_get (o := 55) (c := 9) (k := 15) (v := 66) d_Mo_waiting_10 fl_Mo_42 rfl (by decide) (by decide) rfl rfl (G_pc (pc' := 13) rfl ?_)
    refine G_iload (i := 3) (n := 0) (len := 1) (Or.inl ⟨3, rfl, rfl, d_Mo_waiting_13⟩) rfl (G_pc (pc' := 14) rfl ?_)
    refine G_iaload (o := 66) (n := 4) (i := 1) (v := M 66 1) d_Mo_waiting_14 rfl ⟨by decide, by decide⟩ (by omega) (rd_arr rfl) (fun t2402 => G_pc (pc' := 15) rfl ?_)
    have t2402 := tok_i t2402
    refine G_iconst (n := 1) d_Mo_waiting_15 (by decide) (G_pc (pc' := 16) rfl ?_)
    refine G_icmp_ne (tgt := 37) d_Mo_waiting_16 (by decide) (fun h2403 => ?_) (fun h2403 => G_pc (pc' := 19) rfl ?_)
    · skip
      refine G_iload (i := 2) (n := 1) (len := 1) (Or.inl ⟨2, rfl, rfl, d_Mo_waiting_37⟩) rfl (G_pc (pc' := 38) rfl ?_)
      refine G_istore (i := 2) (len := 1) (ls' := [(2, vi s), (3, vi 1), (0, vr 55), (1, vi q)]) (Or.inl ⟨2, rfl, rfl, d_Mo_waiting_38⟩) (by decide) rfl (G_pc (pc' := 39) rfl ?_)
      refine G_iinc (i := 3) (n := 1) (z := 1) (ls' := [(3, vi 2), (2, vi s), (0, vr 55), (1, vi q)]) d_Mo_waiting_39 rfl (by decide) (by omega) rfl (G_pc (pc' := 42) rfl ?_)
      refine G_goto (tgt := 4) d_Mo_waiting_42 (by decide) ?_
      refine G_ls (ls' := [(3, vi 2), (2, vi s), (0, vr 55), (1, vi q)]) (by intro z hz; simp at hz ⊢; omega) ?_
      exact it2 _ (by have hw : wb M q 1 = 0 := if_neg (by omega); omega)
    · skip
      refine G_aload (i := 0) (n := 2) (len := 1) (Or.inl ⟨0, rfl, rfl, d_Mo_waiting_19⟩) rfl (by decide) (G_pc (pc' := 20) rfl ?_)
      refine G_get (o := 55) (c := 9) (k := 19) (v := 70) d_Mo_waiting_20 fl_Mo_54 rfl (by decide) (by decide) rfl rfl (G_pc (pc' := 23) rfl ?_)
      refine G_iload (i := 3) (n := 0) (len := 1) (Or.inl ⟨3, rfl, rfl, d_Mo_waiting_23⟩) rfl (G_pc (pc' := 24) rfl ?_)
      refine G_iaload (o := 70) (n := 4) (i := 1) (v := M 70 1) d_Mo_waiting_24 rfl ⟨by decide, by decide⟩ (by omega) (rd_arr rfl) (fun t2404 => G_pc (pc' := 25) rfl ?_)
      have t2404 := tok_i t2404
      refine G_iload (i := 1) (n := 3) (len := 1) (Or.inl ⟨1, rfl, rfl, d_Mo_waiting_25⟩) rfl (G_pc (pc' := 26) rfl ?_)
      refine G_icmp_ne (tgt := 37) d_Mo_waiting_26 (by decide) (fun h2405 => ?_) (fun h2405 => G_pc (pc' := 29) rfl ?_)
      · skip
        refine G_iload (i := 2) (n := 1) (len := 1) (Or.inl ⟨2, rfl, rfl, d_Mo_waiting_37⟩) rfl (G_pc (pc' := 38) rfl ?_)
        refine G_istore (i := 2) (len := 1) (ls' := [(2, vi s), (3, vi 1), (0, vr 55), (1, vi q)]) (Or.inl ⟨2, rfl, rfl, d_Mo_waiting_38⟩) (by decide) rfl (G_pc (pc' := 39) rfl ?_)
        refine G_iinc (i := 3) (n := 1) (z := 1) (ls' := [(3, vi 2), (2, vi s), (0, vr 55), (1, vi q)]) d_Mo_waiting_39 rfl (by decide) (by omega) rfl (G_pc (pc' := 42) rfl ?_)
        refine G_goto (tgt := 4) d_Mo_waiting_42 (by decide) ?_
        refine G_ls (ls' := [(3, vi 2), (2, vi s), (0, vr 55), (1, vi q)]) (by intro z hz; simp at hz ⊢; omega) ?_
        exact it2 _ (by have hw : wb M q 1 = 0 := if_neg (by omega); omega)
      · skip
        refine G_iload (i := 2) (n := 1) (len := 1) (Or.inl ⟨2, rfl, rfl, d_Mo_waiting_29⟩) rfl (G_pc (pc' := 30) rfl ?_)
        refine G_iconst (n := 1) d_Mo_waiting_30 (by decide) (G_pc (pc' := 31) rfl ?_)
        refine G_iload (i := 3) (n := 0) (len := 1) (Or.inl ⟨3, rfl, rfl, d_Mo_waiting_31⟩) rfl (G_pc (pc' := 32) rfl ?_)
        refine G_ishl d_Mo_waiting_32 (G_pc (pc' := 33) rfl ?_)
        refine G_ior d_Mo_waiting_33 (G_pc (pc' := 34) rfl ?_)
        refine G_goto (tgt := 38) d_Mo_waiting_34 (by decide) ?_
        refine G_istore (i := 2) (len := 1) (ls' := [(2, vi (o_ior s (o_ishl 1 1))), (3, vi 1), (0, vr 55), (1, vi q)]) (Or.inl ⟨2, rfl, rfl, d_Mo_waiting_38⟩) (by decide) rfl (G_pc (pc' := 39) rfl ?_)
        refine G_iinc (i := 3) (n := 1) (z := 1) (ls' := [(3, vi 2), (2, vi (o_ior s (o_ishl 1 1))), (0, vr 55), (1, vi q)]) d_Mo_waiting_39 rfl (by decide) (by omega) rfl (G_pc (pc' := 42) rfl ?_)
        refine G_goto (tgt := 4) d_Mo_waiting_42 (by decide) ?_
        refine G_ls (ls' := [(3, vi 2), (2, vi (o_ior s (o_ishl 1 1))), (0, vr 55), (1, vi q)]) (by intro z hz; simp at hz ⊢; omega) ?_
        exact it2 _ (by rw [ior_at ior_1 (by omega)]; have hw : wb M q 1 = 1 := if_pos ⟨by omega, by omega⟩; omega)
  refine G_iconst (n := 0) d_Mo_waiting_0 (by decide) (G_pc (pc' := 1) rfl ?_)
  refine G_istore (i := 2) (len := 1) (ls' := [(2, vi 0), (0, vr 55), (1, vi q)]) (Or.inl ⟨2, rfl, rfl, d_Mo_waiting_1⟩) (by decide) rfl (G_pc (pc' := 2) rfl ?_)
  refine G_iconst (n := 0) d_Mo_waiting_2 (by decide) (G_pc (pc' := 3) rfl ?_)
  refine G_istore (i := 3) (len := 1) (ls' := [(3, vi 0), (2, vi 0), (0, vr 55), (1, vi q)]) (Or.inl ⟨3, rfl, rfl, d_Mo_waiting_3⟩) (by decide) rfl (G_pc (pc' := 4) rfl ?_)
  refine G_iload (i := 3) (n := 0) (len := 1) (Or.inl ⟨3, rfl, rfl, d_Mo_waiting_4⟩) rfl (G_pc (pc' := 5) rfl ?_)
  refine G_iconst (n := 4) d_Mo_waiting_5 (by decide) (G_pc (pc' := 6) rfl ?_)
  refine G_icmp_ge (tgt := 45) d_Mo_waiting_6 (by decide) (fun h1 => absurd h1 (by decide)) (fun h1 => G_pc (pc' := 9) rfl ?_)
  refine G_aload (i := 0) (n := 2) (len := 1) (Or.inl ⟨0, rfl, rfl, d_Mo_waiting_9⟩) rfl (by decide) (G_pc (pc' := 10) rfl ?_)
  refine G_get (o := 55) (c := 9) (k := 15) (v := 66) d_Mo_waiting_10 fl_Mo_42 rfl (by decide) (by decide) rfl rfl (G_pc (pc' := 13) rfl ?_)
  refine G_iload (i := 3) (n := 0) (len := 1) (Or.inl ⟨3, rfl, rfl, d_Mo_waiting_13⟩) rfl (G_pc (pc' := 14) rfl ?_)
  refine G_iaload (o := 66) (n := 4) (i := 0) (v := M 66 0) d_Mo_waiting_14 rfl ⟨by decide, by decide⟩ (by omega) (rd_arr rfl) (fun t2 => G_pc (pc' := 15) rfl ?_)
  have t2 := tok_i t2
  refine G_iconst (n := 1) d_Mo_waiting_15 (by decide) (G_pc (pc' := 16) rfl ?_)
  refine G_icmp_ne (tgt := 37) d_Mo_waiting_16 (by decide) (fun h3 => ?_) (fun h3 => G_pc (pc' := 19) rfl ?_)
  · skip
    refine G_iload (i := 2) (n := 1) (len := 1) (Or.inl ⟨2, rfl, rfl, d_Mo_waiting_37⟩) rfl (G_pc (pc' := 38) rfl ?_)
    refine G_istore (i := 2) (len := 1) (ls' := [(2, vi 0), (3, vi 0), (0, vr 55), (1, vi q)]) (Or.inl ⟨2, rfl, rfl, d_Mo_waiting_38⟩) (by decide) rfl (G_pc (pc' := 39) rfl ?_)
    refine G_iinc (i := 3) (n := 1) (z := 1) (ls' := [(3, vi 1), (2, vi 0), (0, vr 55), (1, vi q)]) d_Mo_waiting_39 rfl (by decide) (by omega) rfl (G_pc (pc' := 42) rfl ?_)
    refine G_goto (tgt := 4) d_Mo_waiting_42 (by decide) ?_
    refine G_ls (ls' := [(3, vi 1), (2, vi 0), (0, vr 55), (1, vi q)]) (by intro z hz; simp at hz ⊢; omega) ?_
    exact it1 _ (by have hw : wb M q 0 = 0 := if_neg (by omega); omega)
  · skip
    refine G_aload (i := 0) (n := 2) (len := 1) (Or.inl ⟨0, rfl, rfl, d_Mo_waiting_19⟩) rfl (by decide) (G_pc (pc' := 20) rfl ?_)
    refine G_get (o := 55) (c := 9) (k := 19) (v := 70) d_Mo_waiting_20 fl_Mo_54 rfl (by decide) (by decide) rfl rfl (G_pc (pc' := 23) rfl ?_)
    refine G_iload (i := 3) (n := 0) (len := 1) (Or.inl ⟨3, rfl, rfl, d_Mo_waiting_23⟩) rfl (G_pc (pc' := 24) rfl ?_)
    refine G_iaload (o := 70) (n := 4) (i := 0) (v := M 70 0) d_Mo_waiting_24 rfl ⟨by decide, by decide⟩ (by omega) (rd_arr rfl) (fun t4 => G_pc (pc' := 25) rfl ?_)
    have t4 := tok_i t4
    refine G_iload (i := 1) (n := 3) (len := 1) (Or.inl ⟨1, rfl, rfl, d_Mo_waiting_25⟩) rfl (G_pc (pc' := 26) rfl ?_)
    refine G_icmp_ne (tgt := 37) d_Mo_waiting_26 (by decide) (fun h5 => ?_) (fun h5 => G_pc (pc' := 29) rfl ?_)
    · skip
      refine G_iload (i := 2) (n := 1) (len := 1) (Or.inl ⟨2, rfl, rfl, d_Mo_waiting_37⟩) rfl (G_pc (pc' := 38) rfl ?_)
      refine G_istore (i := 2) (len := 1) (ls' := [(2, vi 0), (3, vi 0), (0, vr 55), (1, vi q)]) (Or.inl ⟨2, rfl, rfl, d_Mo_waiting_38⟩) (by decide) rfl (G_pc (pc' := 39) rfl ?_)
      refine G_iinc (i := 3) (n := 1) (z := 1) (ls' := [(3, vi 1), (2, vi 0), (0, vr 55), (1, vi q)]) d_Mo_waiting_39 rfl (by decide) (by omega) rfl (G_pc (pc' := 42) rfl ?_)
      refine G_goto (tgt := 4) d_Mo_waiting_42 (by decide) ?_
      refine G_ls (ls' := [(3, vi 1), (2, vi 0), (0, vr 55), (1, vi q)]) (by intro z hz; simp at hz ⊢; omega) ?_
      exact it1 _ (by have hw : wb M q 0 = 0 := if_neg (by omega); omega)
    · skip
      refine G_iload (i := 2) (n := 1) (len := 1) (Or.inl ⟨2, rfl, rfl, d_Mo_waiting_29⟩) rfl (G_pc (pc' := 30) rfl ?_)
      refine G_iconst (n := 1) d_Mo_waiting_30 (by decide) (G_pc (pc' := 31) rfl ?_)
      refine G_iload (i := 3) (n := 0) (len := 1) (Or.inl ⟨3, rfl, rfl, d_Mo_waiting_31⟩) rfl (G_pc (pc' := 32) rfl ?_)
      refine G_ishl d_Mo_waiting_32 (G_pc (pc' := 33) rfl ?_)
      refine G_ior d_Mo_waiting_33 (G_pc (pc' := 34) rfl ?_)
      refine G_goto (tgt := 38) d_Mo_waiting_34 (by decide) ?_
      refine G_istore (i := 2) (len := 1) (ls' := [(2, vi (o_ior 0 (o_ishl 1 0))), (3, vi 0), (0, vr 55), (1, vi q)]) (Or.inl ⟨2, rfl, rfl, d_Mo_waiting_38⟩) (by decide) rfl (G_pc (pc' := 39) rfl ?_)
      refine G_iinc (i := 3) (n := 1) (z := 1) (ls' := [(3, vi 1), (2, vi (o_ior 0 (o_ishl 1 0))), (0, vr 55), (1, vi q)]) d_Mo_waiting_39 rfl (by decide) (by omega) rfl (G_pc (pc' := 42) rfl ?_)
      refine G_goto (tgt := 4) d_Mo_waiting_42 (by decide) ?_
      refine G_ls (ls' := [(3, vi 1), (2, vi (o_ior 0 (o_ishl 1 0))), (0, vr 55), (1, vi q)]) (by intro z hz; simp at hz ⊢; omega) ?_
      exact it1 _ (by rw [ior_at ior_0 (by omega)]; have hw : wb M q 0 = 1 := if_pos ⟨by omega, by omega⟩; omega)

def onesM (s : Int) : Int := s % 2 + s / 2 % 2 + s / 4 % 2 + s / 8 % 2
theorem d_Mo_ones_0 : decode b_Mo_ones 0 = .ok (.iload_n 0, 1) := by decide +kernel
theorem d_Mo_ones_1 : decode b_Mo_ones 1 = .ok (.iconst 1, 1) := by decide +kernel
theorem d_Mo_ones_2 : decode b_Mo_ones 2 = .ok (.iand, 1) := by decide +kernel
theorem d_Mo_ones_3 : decode b_Mo_ones 3 = .ok (.iload_n 0, 1) := by decide +kernel
theorem d_Mo_ones_4 : decode b_Mo_ones 4 = .ok (.iconst 1, 1) := by decide +kernel
theorem d_Mo_ones_5 : decode b_Mo_ones 5 = .ok (.ishr, 1) := by decide +kernel
theorem d_Mo_ones_6 : decode b_Mo_ones 6 = .ok (.iconst 1, 1) := by decide +kernel
theorem d_Mo_ones_7 : decode b_Mo_ones 7 = .ok (.iand, 1) := by decide +kernel
theorem d_Mo_ones_8 : decode b_Mo_ones 8 = .ok (.iadd, 1) := by decide +kernel
theorem d_Mo_ones_9 : decode b_Mo_ones 9 = .ok (.iload_n 0, 1) := by decide +kernel
theorem d_Mo_ones_10 : decode b_Mo_ones 10 = .ok (.iconst 2, 1) := by decide +kernel
theorem d_Mo_ones_11 : decode b_Mo_ones 11 = .ok (.ishr, 1) := by decide +kernel
theorem d_Mo_ones_12 : decode b_Mo_ones 12 = .ok (.iconst 1, 1) := by decide +kernel
theorem d_Mo_ones_13 : decode b_Mo_ones 13 = .ok (.iand, 1) := by decide +kernel
theorem d_Mo_ones_14 : decode b_Mo_ones 14 = .ok (.iadd, 1) := by decide +kernel
theorem d_Mo_ones_15 : decode b_Mo_ones 15 = .ok (.iload_n 0, 1) := by decide +kernel
theorem d_Mo_ones_16 : decode b_Mo_ones 16 = .ok (.iconst 3, 1) := by decide +kernel
theorem d_Mo_ones_17 : decode b_Mo_ones 17 = .ok (.ishr, 1) := by decide +kernel
theorem d_Mo_ones_18 : decode b_Mo_ones 18 = .ok (.iconst 1, 1) := by decide +kernel
theorem d_Mo_ones_19 : decode b_Mo_ones 19 = .ok (.iand, 1) := by decide +kernel
theorem d_Mo_ones_20 : decode b_Mo_ones 20 = .ok (.iadd, 1) := by decide +kernel
theorem d_Mo_ones_21 : decode b_Mo_ones 21 = .ok (.ireturn, 1) := by decide +kernel
theorem g_Mo_ones {X : WX} {d : Nat} (hd : 0 ≤ d) (s : Int) (M : Mem) (hs : 0 ≤ s ∧ s < 16) : MG X gt d KE KE y_Mo_ones b_Mo_ones 1 (some .int) [vi s] M (fun r M' => r = some (vi (onesM s)) ∧ M' = M) := by
  refine MG_of_G (by decide) (Nat.le_of_ble_eq_true rfl) (Nat.le_refl _) (by decide) ?_
  show G X gt d KE KE y_Mo_ones b_Mo_ones 1 (some .int) _ 0 [(0, vi s)] [] KE M
  refine G_rngl (i := 0) rfl (fun hr0 => ?_)
  refine G_iload (i := 0) (n := 0) (len := 1) (Or.inl ⟨0, rfl, rfl, d_Mo_ones_0⟩) rfl (G_pc (pc' := 1) rfl ?_)
  refine G_iconst (n := 1) d_Mo_ones_1 (by decide) (G_pc (pc' := 2) rfl ?_)
  refine G_iand d_Mo_ones_2 (G_pc (pc' := 3) rfl ?_)
  refine G_iload (i := 0) (n := 0) (len := 1) (Or.inl ⟨0, rfl, rfl, d_Mo_ones_3⟩) rfl (G_pc (pc' := 4) rfl ?_)
  refine G_iconst (n := 1) d_Mo_ones_4 (by decide) (G_pc (pc' := 5) rfl ?_)
  refine G_ishr d_Mo_ones_5 (G_pc (pc' := 6) rfl ?_)
  refine G_iconst (n := 1) d_Mo_ones_6 (by decide) (G_pc (pc' := 7) rfl ?_)
  refine G_iand d_Mo_ones_7 (G_pc (pc' := 8) rfl ?_)
  refine G_iadd d_Mo_ones_8 (by rw [bit_e0 hs, bit_e hs (by omega)]; (try rw [bit_e hs (by omega)]); (try rw [bit_e hs (by omega)]); simp; omega) (G_pc (pc' := 9) rfl ?_)
  refine G_iload (i := 0) (n := 0) (len := 1) (Or.inl ⟨0, rfl, rfl, d_Mo_ones_9⟩) rfl (G_pc (pc' := 10) rfl ?_)
  refine G_iconst (n := 2) d_Mo_ones_10 (by decide) (G_pc (pc' := 11) rfl ?_)
  refine G_ishr d_Mo_ones_11 (G_pc (pc' := 12) rfl ?_)
  refine G_iconst (n := 1) d_Mo_ones_12 (by decide) (G_pc (pc' := 13) rfl ?_)
  refine G_iand d_Mo_ones_13 (G_pc (pc' := 14) rfl ?_)
  refine G_iadd d_Mo_ones_14 (by rw [bit_e0 hs, bit_e hs (by omega)]; (try rw [bit_e hs (by omega)]); (try rw [bit_e hs (by omega)]); simp; omega) (G_pc (pc' := 15) rfl ?_)
  refine G_iload (i := 0) (n := 0) (len := 1) (Or.inl ⟨0, rfl, rfl, d_Mo_ones_15⟩) rfl (G_pc (pc' := 16) rfl ?_)
  refine G_iconst (n := 3) d_Mo_ones_16 (by decide) (G_pc (pc' := 17) rfl ?_)
  refine G_ishr d_Mo_ones_17 (G_pc (pc' := 18) rfl ?_)
  refine G_iconst (n := 1) d_Mo_ones_18 (by decide) (G_pc (pc' := 19) rfl ?_)
  refine G_iand d_Mo_ones_19 (G_pc (pc' := 20) rfl ?_)
  refine G_iadd d_Mo_ones_20 (by rw [bit_e0 hs, bit_e hs (by omega)]; (try rw [bit_e hs (by omega)]); (try rw [bit_e hs (by omega)]); simp; omega) (G_pc (pc' := 21) rfl ?_)
  refine G_iret d_Mo_ones_21 rfl (tokI (by rw [bit_e0 hs, bit_e hs (by omega)]; (try rw [bit_e hs (by omega)]); (try rw [bit_e hs (by omega)]); simp; omega)) rfl rfl ?_
  exact ret_e (by rw [bit_e0 hs, bit_e hs (by omega), bit_e hs (by omega), bit_e hs (by omega)]; unfold onesM; simp) rfl

