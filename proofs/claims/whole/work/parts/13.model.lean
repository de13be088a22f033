def fillM (M : Mem) (c : Nat) (n v : Int) : Mem := fun c' i => if c' = c ∧ 0 ≤ i ∧ i < n then v else M c' i
theorem fillM_0 {M : Mem} {c : Nat} {v : Int} : fillM M c 0 v = M := by
  funext c' i; unfold fillM; rw [if_neg (by omega)]
theorem fillM_s {M : Mem} {c : Nat} {n v : Int} (h : 0 ≤ n) : mset (fillM M c n v) c n v = fillM M c (n + 1) v := by
  funext c' i; unfold fillM mset; grind
def swapM (M : Mem) (c : Nat) (n a b : Int) : Mem := fun c' i => if c' = c ∧ 0 ≤ i ∧ i < n ∧ M c' i = a then b else M c' i
theorem swapM_0 {M : Mem} {c : Nat} {a b : Int} : swapM M c 0 a b = M := by
  funext c' i; unfold swapM; rw [if_neg (by omega)]
theorem swapM_at {M : Mem} {c : Nat} {n a b : Int} : swapM M c n a b c n = M c n := by
  unfold swapM; rw [if_neg (by omega)]
theorem swapM_t {M : Mem} {c : Nat} {n a b : Int} (h : 0 ≤ n) (h2 : M c n = a) : mset (swapM M c n a b) c n b = swapM M c (n + 1) a b := by
  funext c' i; unfold swapM mset; grind
theorem swapM_f {M : Mem} {c : Nat} {n a b x : Int} (h : 0 ≤ n) (h2 : M c n ≠ a) (hx : x = M c n) : mset (swapM M c n a b) c n x = swapM M c (n + 1) a b := by
  funext c' i; unfold swapM mset; grind
def forgetM (M : Mem) (to : Int) : Mem := swapM (fillM (mset M 55 21 0) 71 423 0) 66 4 1 to
theorem d_Mo_forget_0 : decode b_Mo_forget 0 = .ok (.aload_n 0, 1) := by decide +kernel
theorem d_Mo_forget_1 : decode b_Mo_forget 1 = .ok (.iconst 0, 1) := by decide +kernel
theorem d_Mo_forget_2 : decode b_Mo_forget 2 = .ok (.putfield 150, 3) := by decide +kernel
theorem d_Mo_forget_5 : decode b_Mo_forget 5 = .ok (.iconst 0, 1) := by decide +kernel
theorem d_Mo_forget_6 : decode b_Mo_forget 6 = .ok (.istore_n 2, 1) := by decide +kernel
theorem d_Mo_forget_7 : decode b_Mo_forget 7 = .ok (.iload_n 2, 1) := by decide +kernel
theorem d_Mo_forget_8 : decode b_Mo_forget 8 = .ok (.sipush 423, 3) := by decide +kernel
theorem d_Mo_forget_11 : decode b_Mo_forget 11 = .ok (.if_icmp .ge 16, 3) := by decide +kernel
theorem d_Mo_forget_14 : decode b_Mo_forget 14 = .ok (.aload_n 0, 1) := by decide +kernel
theorem d_Mo_forget_15 : decode b_Mo_forget 15 = .ok (.getfield 57, 3) := by decide +kernel
theorem d_Mo_forget_18 : decode b_Mo_forget 18 = .ok (.iload_n 2, 1) := by decide +kernel
theorem d_Mo_forget_19 : decode b_Mo_forget 19 = .ok (.iconst 0, 1) := by decide +kernel
theorem d_Mo_forget_20 : decode b_Mo_forget 20 = .ok (.bastore, 1) := by decide +kernel
theorem d_Mo_forget_21 : decode b_Mo_forget 21 = .ok (.iinc 2 1, 3) := by decide +kernel
theorem d_Mo_forget_24 : decode b_Mo_forget 24 = .ok (.goto (-17), 3) := by decide +kernel
theorem d_Mo_forget_27 : decode b_Mo_forget 27 = .ok (.iconst 0, 1) := by decide +kernel
theorem d_Mo_forget_28 : decode b_Mo_forget 28 = .ok (.istore_n 2, 1) := by decide +kernel
theorem d_Mo_forget_29 : decode b_Mo_forget 29 = .ok (.iload_n 2, 1) := by decide +kernel
theorem d_Mo_forget_30 : decode b_Mo_forget 30 = .ok (.iconst 4, 1) := by decide +kernel
theorem d_Mo_forget_31 : decode b_Mo_forget 31 = .ok (.if_icmp .ge 35, 3) := by decide +kernel
theorem d_Mo_forget_34 : decode b_Mo_forget 34 = .ok (.aload_n 0, 1) := by decide +kernel
theorem d_Mo_forget_35 : decode b_Mo_forget 35 = .ok (.getfield 42, 3) := by decide +kernel
theorem d_Mo_forget_38 : decode b_Mo_forget 38 = .ok (.iload_n 2, 1) := by decide +kernel
theorem d_Mo_forget_39 : decode b_Mo_forget 39 = .ok (.aload_n 0, 1) := by decide +kernel
theorem d_Mo_forget_40 : decode b_Mo_forget 40 = .ok (.getfield 42, 3) := by decide +kernel
theorem d_Mo_forget_43 : decode b_Mo_forget 43 = .ok (.iload_n 2, 1) := by decide +kernel
theorem d_Mo_forget_44 : decode b_Mo_forget 44 = .ok (.iaload, 1) := by decide +kernel
theorem d_Mo_forget_45 : decode b_Mo_forget 45 = .ok (.iconst 1, 1) := by decide +kernel
theorem d_Mo_forget_46 : decode b_Mo_forget 46 = .ok (.if_icmp .ne 7, 3) := by decide +kernel
theorem d_Mo_forget_49 : decode b_Mo_forget 49 = .ok (.iload_n 1, 1) := by decide +kernel
theorem d_Mo_forget_50 : decode b_Mo_forget 50 = .ok (.goto 9, 3) := by decide +kernel
theorem d_Mo_forget_53 : decode b_Mo_forget 53 = .ok (.aload_n 0, 1) := by decide +kernel
theorem d_Mo_forget_54 : decode b_Mo_forget 54 = .ok (.getfield 42, 3) := by decide +kernel
theorem d_Mo_forget_57 : decode b_Mo_forget 57 = .ok (.iload_n 2, 1) := by decide +kernel
theorem d_Mo_forget_58 : decode b_Mo_forget 58 = .ok (.iaload, 1) := by decide +kernel
theorem d_Mo_forget_59 : decode b_Mo_forget 59 = .ok (.iastore, 1) := by decide +kernel
theorem d_Mo_forget_60 : decode b_Mo_forget 60 = .ok (.iinc 2 1, 3) := by decide +kernel
theorem d_Mo_forget_63 : decode b_Mo_forget 63 = .ok (.goto (-34), 3) := by decide +kernel
theorem d_Mo_forget_66 : decode b_Mo_forget 66 = .ok (.return_, 1) := by decide +kernel
theorem g_Mo_forget {X : WX} {d : Nat} (hd : 0 ≤ d) (to : Int) (M : Mem)  : MG X gt d KE KE y_Mo_forget b_Mo_forget 3 none [vr 55, vi to] M (fun r M' => r = none ∧ M' = forgetM M to) := by
  refine MG_of_G (by decide) (Nat.le_of_ble_eq_true rfl) (Nat.le_refl _) (by decide) ?_
  show G X gt d KE KE y_Mo_forget b_Mo_forget 3 none _ 0 [(0, vr 55), (1, vi to)] [] KE M
  refine G_rngl (i := 1) rfl (fun hr1 => ?_)
  have loop2 : ∀ (n : Nat) (e : Int), e + n = 4 → 0 ≤ e → G X gt d KE KE y_Mo_forget b_Mo_forget 3 none (fun r M' => r = none ∧ M' = forgetM M to) 29 [(2, vi e), (0, vr 55), (1, vi to)] [] KE (swapM (fillM (mset M 55 21 0) 71 423 0) 66 e 1 to) := by
    intro n
    induction n with
    | zero =>
      intro e h1 h2
      refine G_iload (i := 2) (n := 0) (len := 1) (Or.inl ⟨2, rfl, rfl, d_Mo_forget_29⟩) rfl (G_pc (pc' := 30) rfl ?_)
      refine G_iconst (n := 4) d_Mo_forget_30 (by decide) (G_pc (pc' := 31) rfl ?_)
      refine G_icmp_ge (tgt := 66) d_Mo_forget_31 (by decide) (fun h901 => ?_) (fun h901 => absurd h901 (by omega))
      refine G_vret d_Mo_forget_66 rfl rfl ?_
      exact ⟨rfl, by unfold forgetM; rw [show (4 : Int) = e by omega]⟩
    | succ n ih =>
      intro e h1 h2
      refine G_iload (i := 2) (n := 0) (len := 1) (Or.inl ⟨2, rfl, rfl, d_Mo_forget_29⟩) rfl (G_pc (pc' := 30) rfl ?_)
      refine G_iconst (n := 4) d_Mo_forget_30 (by decide) (G_pc (pc' := 31) rfl ?_)
      refine G_icmp_ge (tgt := 66) d_Mo_forget_31 (by decide) (fun h1001 => absurd h1001 (by omega)) (fun h1001 => G_pc (pc' := 34) rfl ?_)
      refine G_aload (i := 0) (n := 1) (len := 1) (Or.inl ⟨0, rfl, rfl, d_Mo_forget_34⟩) rfl (by decide) (G_pc (pc' := 35) rfl ?_)
      refine G_get (o := 55) (c := 9) (k := 15) (v := 66) d_Mo_forget_35 fl_Mo_42 rfl (by decide) (by decide) rfl rfl (G_pc (pc' := 38) rfl ?_)
      refine G_iload (i := 2) (n := 0) (len := 1) (Or.inl ⟨2, rfl, rfl, d_Mo_forget_38⟩) rfl (G_pc (pc' := 39) rfl ?_)
      refine G_aload (i := 0) (n := 1) (len := 1) (Or.inl ⟨0, rfl, rfl, d_Mo_forget_39⟩) rfl (by decide) (G_pc (pc' := 40) rfl ?_)
      refine G_get (o := 55) (c := 9) (k := 15) (v := 66) d_Mo_forget_40 fl_Mo_42 rfl (by decide) (by decide) rfl rfl (G_pc (pc' := 43) rfl ?_)
      refine G_iload (i := 2) (n := 0) (len := 1) (Or.inl ⟨2, rfl, rfl, d_Mo_forget_43⟩) rfl (G_pc (pc' := 44) rfl ?_)
      refine G_iaload (o := 66) (n := 4) (i := e) (v := (swapM (fillM (mset M 55 21 0) 71 423 0) 66 e 1 to) 66 e) d_Mo_forget_44 rfl ⟨by decide, by decide⟩ (by omega) (rd_arr rfl) (fun t1002 => G_pc (pc' := 45) rfl ?_)
      have t1002 := tok_i t1002
      refine G_iconst (n := 1) d_Mo_forget_45 (by decide) (G_pc (pc' := 46) rfl ?_)
      refine G_icmp_ne (tgt := 53) d_Mo_forget_46 (by decide) (fun h1003 => ?_) (fun h1003 => G_pc (pc' := 49) rfl ?_)
      · skip
        refine G_aload (i := 0) (n := 1) (len := 1) (Or.inl ⟨0, rfl, rfl, d_Mo_forget_53⟩) rfl (by decide) (G_pc (pc' := 54) rfl ?_)
        refine G_get (o := 55) (c := 9) (k := 15) (v := 66) d_Mo_forget_54 fl_Mo_42 rfl (by decide) (by decide) rfl rfl (G_pc (pc' := 57) rfl ?_)
        refine G_iload (i := 2) (n := 0) (len := 1) (Or.inl ⟨2, rfl, rfl, d_Mo_forget_57⟩) rfl (G_pc (pc' := 58) rfl ?_)
        refine G_iaload (o := 66) (n := 4) (i := e) (v := (swapM (fillM (mset M 55 21 0) 71 423 0) 66 e 1 to) 66 e) d_Mo_forget_58 rfl ⟨by decide, by decide⟩ (by omega) (rd_arr rfl) (fun t1004 => G_pc (pc' := 59) rfl ?_)
        have t1004 := tok_i t1004
        refine G_iastore (o := 66) (n := 4) (i := e) (x := (swapM (fillM (mset M 55 21 0) 71 423 0) 66 e 1 to) 66 e) d_Mo_forget_59 rfl ⟨by decide, by decide⟩ (by decide) (gt_arr rfl _) (by omega) (tokI (by omega)) (G_pc (pc' := 60) rfl ?_)
        refine G_iinc (i := 2) (n := 0) (z := 1) (ls' := [(2, vi (e + 1)), (0, vr 55), (1, vi to)]) d_Mo_forget_60 rfl (by decide) (by omega) rfl (G_pc (pc' := 63) rfl ?_)
        refine G_goto (tgt := 29) d_Mo_forget_63 (by decide) ?_
        rw [swapM_f (by omega) (by have := swapM_at (M := (fillM (mset M 55 21 0) 71 423 0)) (c := 66) (n := e) (a := 1) (b := to); omega) swapM_at]
        exact ih (e + 1) (by omega) (by omega)
      · skip
        refine G_iload (i := 1) (n := 2) (len := 1) (Or.inl ⟨1, rfl, rfl, d_Mo_forget_49⟩) rfl (G_pc (pc' := 50) rfl ?_)
        refine G_goto (tgt := 59) d_Mo_forget_50 (by decide) ?_
        refine G_iastore (o := 66) (n := 4) (i := e) (x := to) d_Mo_forget_59 rfl ⟨by decide, by decide⟩ (by decide) (gt_arr rfl _) (by omega) (tokI (by omega)) (G_pc (pc' := 60) rfl ?_)
        refine G_iinc (i := 2) (n := 0) (z := 1) (ls' := [(2, vi (e + 1)), (0, vr 55), (1, vi to)]) d_Mo_forget_60 rfl (by decide) (by omega) rfl (G_pc (pc' := 63) rfl ?_)
        refine G_goto (tgt := 29) d_Mo_forget_63 (by decide) ?_
        rw [swapM_t (by omega) (by have := swapM_at (M := (fillM (mset M 55 21 0) 71 423 0)) (c := 66) (n := e) (a := 1) (b := to); omega)]
        exact ih (e + 1) (by omega) (by omega)
  have loop1 : ∀ (n : Nat) (k : Int), k + n = 423 → 0 ≤ k → G X gt d KE KE y_Mo_forget b_Mo_forget 3 none (fun r M' => r = none ∧ M' = forgetM M to) 7 [(2, vi k), (0, vr 55), (1, vi to)] [] KE (fillM (mset M 55 21 0) 71 k 0) := by
    intro n
    induction n with
    | zero =>
      intro k h1 h2
      refine G_iload (i := 2) (n := 0) (len := 1) (Or.inl ⟨2, rfl, rfl, d_Mo_forget_7⟩) rfl (G_pc (pc' := 8) rfl ?_)
      refine G_sipush (n := 423) d_Mo_forget_8 (by decide) (G_pc (pc' := 11) rfl ?_)
      refine G_icmp_ge (tgt := 27) d_Mo_forget_11 (by decide) (fun h1101 => ?_) (fun h1101 => absurd h1101 (by omega))
      refine G_iconst (n := 0) d_Mo_forget_27 (by decide) (G_pc (pc' := 28) rfl ?_)
      refine G_istore (i := 2) (len := 1) (ls' := [(2, vi 0), (0, vr 55), (1, vi to)]) (Or.inl ⟨2, rfl, rfl, d_Mo_forget_28⟩) (by decide) rfl (G_pc (pc' := 29) rfl ?_)
      have hk9 : k = 423 := by omega
      subst hk9
      refine G_ls (ls' := [(2, vi 0), (0, vr 55), (1, vi to)]) (by intro q hq; simp at hq ⊢; omega) ?_
      have h9 := loop2 4 0 (by omega) (by omega)
      rw [swapM_0] at h9
      exact h9
    | succ n ih =>
      intro k h1 h2
      refine G_iload (i := 2) (n := 0) (len := 1) (Or.inl ⟨2, rfl, rfl, d_Mo_forget_7⟩) rfl (G_pc (pc' := 8) rfl ?_)
      refine G_sipush (n := 423) d_Mo_forget_8 (by decide) (G_pc (pc' := 11) rfl ?_)
      refine G_icmp_ge (tgt := 27) d_Mo_forget_11 (by decide) (fun h1201 => absurd h1201 (by omega)) (fun h1201 => G_pc (pc' := 14) rfl ?_)
      refine G_aload (i := 0) (n := 1) (len := 1) (Or.inl ⟨0, rfl, rfl, d_Mo_forget_14⟩) rfl (by decide) (G_pc (pc' := 15) rfl ?_)
      refine G_get (o := 55) (c := 9) (k := 20) (v := 71) d_Mo_forget_15 fl_Mo_57 rfl (by decide) (by decide) rfl rfl (G_pc (pc' := 18) rfl ?_)
      refine G_iload (i := 2) (n := 0) (len := 1) (Or.inl ⟨2, rfl, rfl, d_Mo_forget_18⟩) rfl (G_pc (pc' := 19) rfl ?_)
      refine G_iconst (n := 0) d_Mo_forget_19 (by decide) (G_pc (pc' := 20) rfl ?_)
      refine G_zastore (o := 71) (n := 423) (i := k) (x := 0) d_Mo_forget_20 rfl ⟨by decide, by decide⟩ (by decide) (gt_arr rfl _) (by omega) (tokZ (by decide)) (G_pc (pc' := 21) rfl ?_)
      refine G_iinc (i := 2) (n := 0) (z := 1) (ls' := [(2, vi (k + 1)), (0, vr 55), (1, vi to)]) d_Mo_forget_21 rfl (by decide) (by omega) rfl (G_pc (pc' := 24) rfl ?_)
      refine G_goto (tgt := 7) d_Mo_forget_24 (by decide) ?_
      rw [fillM_s (by omega)]
      exact ih (k + 1) (by omega) (by omega)
  refine G_aload (i := 0) (n := 0) (len := 1) (Or.inl ⟨0, rfl, rfl, d_Mo_forget_0⟩) rfl (by decide) (G_pc (pc' := 1) rfl ?_)
  refine G_iconst (n := 0) d_Mo_forget_1 (by decide) (G_pc (pc' := 2) rfl ?_)
  refine G_putL (o := 55) (c := 9) (k := 21) (ki := 21) (x := 0) d_Mo_forget_2 fl_Mo_150 rfl rfl (by decide) (by decide) (by decide) rfl rfl (tokI (by decide)) rfl (G_pc (pc' := 5) rfl ?_)
  refine G_iconst (n := 0) d_Mo_forget_5 (by decide) (G_pc (pc' := 6) rfl ?_)
  refine G_istore (i := 2) (len := 1) (ls' := [(2, vi 0), (0, vr 55), (1, vi to)]) (Or.inl ⟨2, rfl, rfl, d_Mo_forget_6⟩) (by decide) rfl (G_pc (pc' := 7) rfl ?_)
  have h9 := loop1 423 0 (by omega) (by omega)
  rw [fillM_0] at h9
  exact h9

