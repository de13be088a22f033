theorem rd_arr {o : Nat} {M : Mem} {i : Int} (h : gtl.getD o [] = []) : rd gt M o i = M o i := by
  unfold rd
  rw [gt_arr h]
def isAf (p : Int → Int) : Nat → Int → Int → Bool
  | 0, c, b => decide (c = b)
  | n + 1, c, b => if c = b then true else if c < 0 then false else isAf p n (p c) b
theorem isAf_eq {p : Int → Int} {n : Nat} {c b : Int} (h : c = b) : isAf p n c b = true := by cases n <;> simp [isAf, h]
theorem isAf_neg {p : Int → Int} {n : Nat} {c b : Int} (h : c ≠ b) (h2 : c < 0) : isAf p n c b = false := by cases n <;> simp [isAf, h, h2]
theorem isAf_0 {p : Int → Int} {c b : Int} (h : c ≠ b) : isAf p 0 c b = false := by simp [isAf, h]
theorem isAf_s {p : Int → Int} {n : Nat} {c b : Int} (h : c ≠ b) (h2 : ¬ c < 0) : isAf p (n + 1) c b = isAf p n (p c) b := by simp [isAf, h, h2]
def isAm (M : Mem) (a b : Int) : Bool := isAf (fun j => M 56 j) 6 a b
def okP (M : Mem) : Prop := ∀ c, 0 ≤ c → c < 6 → -1 ≤ M 56 c ∧ M 56 c < 6
theorem d_Mo_isA_0 : decode b_Mo_isA 0 = .ok (.iload_n 1, 1) := by decide +kernel
theorem d_Mo_isA_1 : decode b_Mo_isA 1 = .ok (.istore_n 3, 1) := by decide +kernel
theorem d_Mo_isA_2 : decode b_Mo_isA 2 = .ok (.iconst 0, 1) := by decide +kernel
theorem d_Mo_isA_3 : decode b_Mo_isA 3 = .ok (.istore 4, 2) := by decide +kernel
theorem d_Mo_isA_5 : decode b_Mo_isA 5 = .ok (.iload 4, 2) := by decide +kernel
theorem d_Mo_isA_7 : decode b_Mo_isA 7 = .ok (.bipush 6, 2) := by decide +kernel
theorem d_Mo_isA_9 : decode b_Mo_isA 9 = .ok (.if_icmp .ge 25, 3) := by decide +kernel
theorem d_Mo_isA_12 : decode b_Mo_isA 12 = .ok (.iload_n 3, 1) := by decide +kernel
theorem d_Mo_isA_13 : decode b_Mo_isA 13 = .ok (.ifCond .lt 21, 3) := by decide +kernel
theorem d_Mo_isA_16 : decode b_Mo_isA 16 = .ok (.iload_n 3, 1) := by decide +kernel
theorem d_Mo_isA_17 : decode b_Mo_isA 17 = .ok (.iload_n 2, 1) := by decide +kernel
theorem d_Mo_isA_18 : decode b_Mo_isA 18 = .ok (.if_icmp .eq 16, 3) := by decide +kernel
theorem d_Mo_isA_21 : decode b_Mo_isA 21 = .ok (.aload_n 0, 1) := by decide +kernel
theorem d_Mo_isA_22 : decode b_Mo_isA 22 = .ok (.getfield 7, 3) := by decide +kernel
theorem d_Mo_isA_25 : decode b_Mo_isA 25 = .ok (.iload_n 3, 1) := by decide +kernel
theorem d_Mo_isA_26 : decode b_Mo_isA 26 = .ok (.iaload, 1) := by decide +kernel
theorem d_Mo_isA_27 : decode b_Mo_isA 27 = .ok (.istore_n 3, 1) := by decide +kernel
theorem d_Mo_isA_28 : decode b_Mo_isA 28 = .ok (.iinc 4 1, 3) := by decide +kernel
theorem d_Mo_isA_31 : decode b_Mo_isA 31 = .ok (.goto (-26), 3) := by decide +kernel
theorem d_Mo_isA_34 : decode b_Mo_isA 34 = .ok (.iload_n 3, 1) := by decide +kernel
theorem d_Mo_isA_35 : decode b_Mo_isA 35 = .ok (.iload_n 2, 1) := by decide +kernel
theorem d_Mo_isA_36 : decode b_Mo_isA 36 = .ok (.if_icmp .ne 7, 3) := by decide +kernel
theorem d_Mo_isA_39 : decode b_Mo_isA 39 = .ok (.iconst 1, 1) := by decide +kernel
theorem d_Mo_isA_40 : decode b_Mo_isA 40 = .ok (.goto 4, 3) := by decide +kernel
theorem d_Mo_isA_43 : decode b_Mo_isA 43 = .ok (.iconst 0, 1) := by decide +kernel
theorem d_Mo_isA_44 : decode b_Mo_isA 44 = .ok (.ireturn, 1) := by decide +kernel
theorem g_Mo_isA {X : WX} {d : Nat} (hd : 0 ≤ d) (a b : Int) (M : Mem) (hP : okP M) (ha : -1 ≤ a ∧ a < 6) : MG X gt d KE KE y_Mo_isA b_Mo_isA 5 (some .boolean) [vr 55, vi a, vi b] M (fun r M' => r = some (vi (b2i (isAm M a b))) ∧ M' = M) := by
  refine MG_of_G (by decide) (Nat.le_of_ble_eq_true rfl) (Nat.le_refl _) (by decide) ?_
  show G X gt d KE KE y_Mo_isA b_Mo_isA 5 (some .boolean) _ 0 [(0, vr 55), (1, vi a), (2, vi b)] [] KE M
  refine G_rngl (i := 1) rfl (fun hr1 => ?_)
  refine G_rngl (i := 2) rfl (fun hr2 => ?_)
  have loop : ∀ (n : Nat) (k c : Int), k + n = 6 → 0 ≤ k → -1 ≤ c ∧ c < 6 → isAf (fun j => M 56 j) n c b = isAm M a b → G X gt d KE KE y_Mo_isA b_Mo_isA 5 (some .boolean) (fun r M' => r = some (vi (b2i (isAm M a b))) ∧ M' = M) 5 [(4, vi k), (3, vi c), (0, vr 55), (1, vi a), (2, vi b)] [] KE M := by
    intro n
    induction n with
    | zero =>
      intro k c h1 h2 h3 h4
      refine G_iload (i := 4) (n := 0) (len := 2) (Or.inr ⟨rfl, d_Mo_isA_5⟩) rfl (G_pc (pc' := 7) rfl ?_)
      refine G_bipush (n := 6) d_Mo_isA_7 (by decide) (G_pc (pc' := 9) rfl ?_)
      refine G_icmp_ge (tgt := 34) d_Mo_isA_9 (by decide) (fun h501 => ?_) (fun h501 => absurd h501 (by omega))
      refine G_iload (i := 3) (n := 1) (len := 1) (Or.inl ⟨3, rfl, rfl, d_Mo_isA_34⟩) rfl (G_pc (pc' := 35) rfl ?_)
      refine G_iload (i := 2) (n := 4) (len := 1) (Or.inl ⟨2, rfl, rfl, d_Mo_isA_35⟩) rfl (G_pc (pc' := 36) rfl ?_)
      refine G_icmp_ne (tgt := 43) d_Mo_isA_36 (by decide) (fun h502 => ?_) (fun h502 => G_pc (pc' := 39) rfl ?_)
      · skip
        refine G_iconst (n := 0) d_Mo_isA_43 (by decide) (G_pc (pc' := 44) rfl ?_)
        refine G_iret d_Mo_isA_44 rfl (tokZ (by decide)) rfl rfl ?_
        first | exact ret_f (h4.symm.trans (isAf_0 (by omega))) rfl | exact ret_f (h4.symm.trans (isAf_neg (by omega) (by omega))) rfl | (exfalso; omega)
      · skip
        refine G_iconst (n := 1) d_Mo_isA_39 (by decide) (G_pc (pc' := 40) rfl ?_)
        refine G_goto (tgt := 44) d_Mo_isA_40 (by decide) ?_
        refine G_iret d_Mo_isA_44 rfl (tokZ (by decide)) rfl rfl ?_
        exact ret_t (h4.symm.trans (isAf_eq (by omega))) rfl
    | succ n ih =>
      intro k c h1 h2 h3 h4
      refine G_iload (i := 4) (n := 0) (len := 2) (Or.inr ⟨rfl, d_Mo_isA_5⟩) rfl (G_pc (pc' := 7) rfl ?_)
      refine G_bipush (n := 6) d_Mo_isA_7 (by decide) (G_pc (pc' := 9) rfl ?_)
      refine G_icmp_ge (tgt := 34) d_Mo_isA_9 (by decide) (fun h601 => absurd h601 (by omega)) (fun h601 => G_pc (pc' := 12) rfl ?_)
      refine G_iload (i := 3) (n := 1) (len := 1) (Or.inl ⟨3, rfl, rfl, d_Mo_isA_12⟩) rfl (G_pc (pc' := 13) rfl ?_)
      refine G_if_lt (tgt := 34) d_Mo_isA_13 (by decide) (fun h602 => ?_) (fun h602 => G_pc (pc' := 16) rfl ?_)
      · skip
        refine G_iload (i := 3) (n := 1) (len := 1) (Or.inl ⟨3, rfl, rfl, d_Mo_isA_34⟩) rfl (G_pc (pc' := 35) rfl ?_)
        refine G_iload (i := 2) (n := 4) (len := 1) (Or.inl ⟨2, rfl, rfl, d_Mo_isA_35⟩) rfl (G_pc (pc' := 36) rfl ?_)
        refine G_icmp_ne (tgt := 43) d_Mo_isA_36 (by decide) (fun h603 => ?_) (fun h603 => G_pc (pc' := 39) rfl ?_)
        · skip
          refine G_iconst (n := 0) d_Mo_isA_43 (by decide) (G_pc (pc' := 44) rfl ?_)
          refine G_iret d_Mo_isA_44 rfl (tokZ (by decide)) rfl rfl ?_
          first | exact ret_f (h4.symm.trans (isAf_0 (by omega))) rfl | exact ret_f (h4.symm.trans (isAf_neg (by omega) (by omega))) rfl | (exfalso; omega)
        · skip
          refine G_iconst (n := 1) d_Mo_isA_39 (by decide) (G_pc (pc' := 40) rfl ?_)
          refine G_goto (tgt := 44) d_Mo_isA_40 (by decide) ?_
          refine G_iret d_Mo_isA_44 rfl (tokZ (by decide)) rfl rfl ?_
          exact ret_t (h4.symm.trans (isAf_eq (by omega))) rfl
      · skip
        refine G_iload (i := 3) (n := 1) (len := 1) (Or.inl ⟨3, rfl, rfl, d_Mo_isA_16⟩) rfl (G_pc (pc' := 17) rfl ?_)
        refine G_iload (i := 2) (n := 4) (len := 1) (Or.inl ⟨2, rfl, rfl, d_Mo_isA_17⟩) rfl (G_pc (pc' := 18) rfl ?_)
        refine G_icmp_eq (tgt := 34) d_Mo_isA_18 (by decide) (fun h604 => ?_) (fun h604 => G_pc (pc' := 21) rfl ?_)
        · skip
          refine G_iload (i := 3) (n := 1) (len := 1) (Or.inl ⟨3, rfl, rfl, d_Mo_isA_34⟩) rfl (G_pc (pc' := 35) rfl ?_)
          refine G_iload (i := 2) (n := 4) (len := 1) (Or.inl ⟨2, rfl, rfl, d_Mo_isA_35⟩) rfl (G_pc (pc' := 36) rfl ?_)
          refine G_icmp_ne (tgt := 43) d_Mo_isA_36 (by decide) (fun h605 => ?_) (fun h605 => G_pc (pc' := 39) rfl ?_)
          · skip
            refine G_iconst (n := 0) d_Mo_isA_43 (by decide) (G_pc (pc' := 44) rfl ?_)
            refine G_iret d_Mo_isA_44 rfl (tokZ (by decide)) rfl rfl ?_
            first | exact ret_f (h4.symm.trans (isAf_0 (by omega))) rfl | exact ret_f (h4.symm.trans (isAf_neg (by omega) (by omega))) rfl | (exfalso; omega)
          · skip
            refine G_iconst (n := 1) d_Mo_isA_39 (by decide) (G_pc (pc' := 40) rfl ?_)
            refine G_goto (tgt := 44) d_Mo_isA_40 (by decide) ?_
            refine G_iret d_Mo_isA_44 rfl (tokZ (by decide)) rfl rfl ?_
            exact ret_t (h4.symm.trans (isAf_eq (by omega))) rfl
        · skip
          refine G_aload (i := 0) (n := 2) (len := 1) (Or.inl ⟨0, rfl, rfl, d_Mo_isA_21⟩) rfl (by decide) (G_pc (pc' := 22) rfl ?_)
          refine G_get (o := 55) (c := 9) (k := 1) (v := 56) d_Mo_isA_22 fl_Mo_7 rfl (by decide) (by decide) rfl rfl (G_pc (pc' := 25) rfl ?_)
          refine G_iload (i := 3) (n := 1) (len := 1) (Or.inl ⟨3, rfl, rfl, d_Mo_isA_25⟩) rfl (G_pc (pc' := 26) rfl ?_)
          refine G_iaload (o := 56) (n := 6) (i := c) (v := M 56 c) d_Mo_isA_26 rfl ⟨by decide, by decide⟩ (by omega) (rd_arr rfl) (fun t606 => G_pc (pc' := 27) rfl ?_)
          have t606 := tok_i t606
          refine G_istore (i := 3) (len := 1) (ls' := [(3, vi (M 56 c)), (4, vi k), (0, vr 55), (1, vi a), (2, vi b)]) (Or.inl ⟨3, rfl, rfl, d_Mo_isA_27⟩) (by decide) rfl (G_pc (pc' := 28) rfl ?_)
          refine G_iinc (i := 4) (n := 1) (z := 1) (ls' := [(4, vi (k + 1)), (3, vi (M 56 c)), (0, vr 55), (1, vi a), (2, vi b)]) d_Mo_isA_28 rfl (by decide) (by omega) rfl (G_pc (pc' := 31) rfl ?_)
          refine G_goto (tgt := 5) d_Mo_isA_31 (by decide) ?_
          exact ih (k + 1) (M 56 c) (by omega) (by omega) (hP _ (by omega) (by omega)) (h4 ▸ (isAf_s (by omega) (by omega)).symm)
  refine G_iload (i := 1) (n := 1) (len := 1) (Or.inl ⟨1, rfl, rfl, d_Mo_isA_0⟩) rfl (G_pc (pc' := 1) rfl ?_)
  refine G_istore (i := 3) (len := 1) (ls' := [(3, vi a), (0, vr 55), (1, vi a), (2, vi b)]) (Or.inl ⟨3, rfl, rfl, d_Mo_isA_1⟩) (by decide) rfl (G_pc (pc' := 2) rfl ?_)
  refine G_iconst (n := 0) d_Mo_isA_2 (by decide) (G_pc (pc' := 3) rfl ?_)
  refine G_istore (i := 4) (len := 2) (ls' := [(4, vi 0), (3, vi a), (0, vr 55), (1, vi a), (2, vi b)]) (Or.inr ⟨rfl, d_Mo_isA_3⟩) (by decide) rfl (G_pc (pc' := 5) rfl ?_)
  exact loop 6 0 a (by omega) (by omega) (by omega) rfl

def suitsB (M : Mem) (a b : Int) : Bool := decide (a = b) || (decide (a = 17) && refB b) || (decide (4 ≤ a ∧ a < 10 ∧ 4 ≤ b ∧ b < 10) && isAm M (a - 4) (b - 4))
def relB (M : Mem) (a b : Int) : Bool := refB a && refB b && (suitsB M a b || suitsB M b a)
theorem d_Mo_suits_0 : decode b_Mo_suits 0 = .ok (.iload_n 1, 1) := by decide +kernel
theorem d_Mo_suits_1 : decode b_Mo_suits 1 = .ok (.iload_n 2, 1) := by decide +kernel
theorem d_Mo_suits_2 : decode b_Mo_suits 2 = .ok (.if_icmp .eq 51, 3) := by decide +kernel
theorem d_Mo_suits_5 : decode b_Mo_suits 5 = .ok (.iload_n 1, 1) := by decide +kernel
theorem d_Mo_suits_6 : decode b_Mo_suits 6 = .ok (.bipush 17, 2) := by decide +kernel
theorem d_Mo_suits_8 : decode b_Mo_suits 8 = .ok (.if_icmp .ne 10, 3) := by decide +kernel
theorem d_Mo_suits_11 : decode b_Mo_suits 11 = .ok (.iload_n 2, 1) := by decide +kernel
theorem d_Mo_suits_12 : decode b_Mo_suits 12 = .ok (.invokestatic 113, 3) := by decide +kernel
theorem d_Mo_suits_15 : decode b_Mo_suits 15 = .ok (.ifCond .ne 38, 3) := by decide +kernel
theorem d_Mo_suits_18 : decode b_Mo_suits 18 = .ok (.iload_n 1, 1) := by decide +kernel
theorem d_Mo_suits_19 : decode b_Mo_suits 19 = .ok (.iconst 4, 1) := by decide +kernel
theorem d_Mo_suits_20 : decode b_Mo_suits 20 = .ok (.if_icmp .lt 37, 3) := by decide +kernel
theorem d_Mo_suits_23 : decode b_Mo_suits 23 = .ok (.iload_n 1, 1) := by decide +kernel
theorem d_Mo_suits_24 : decode b_Mo_suits 24 = .ok (.bipush 10, 2) := by decide +kernel
theorem d_Mo_suits_26 : decode b_Mo_suits 26 = .ok (.if_icmp .ge 31, 3) := by decide +kernel
theorem d_Mo_suits_29 : decode b_Mo_suits 29 = .ok (.iload_n 2, 1) := by decide +kernel
theorem d_Mo_suits_30 : decode b_Mo_suits 30 = .ok (.iconst 4, 1) := by decide +kernel
theorem d_Mo_suits_31 : decode b_Mo_suits 31 = .ok (.if_icmp .lt 26, 3) := by decide +kernel
theorem d_Mo_suits_34 : decode b_Mo_suits 34 = .ok (.iload_n 2, 1) := by decide +kernel
theorem d_Mo_suits_35 : decode b_Mo_suits 35 = .ok (.bipush 10, 2) := by decide +kernel
theorem d_Mo_suits_37 : decode b_Mo_suits 37 = .ok (.if_icmp .ge 20, 3) := by decide +kernel
theorem d_Mo_suits_40 : decode b_Mo_suits 40 = .ok (.aload_n 0, 1) := by decide +kernel
theorem d_Mo_suits_41 : decode b_Mo_suits 41 = .ok (.iload_n 1, 1) := by decide +kernel
theorem d_Mo_suits_42 : decode b_Mo_suits 42 = .ok (.iconst 4, 1) := by decide +kernel
theorem d_Mo_suits_43 : decode b_Mo_suits 43 = .ok (.isub, 1) := by decide +kernel
theorem d_Mo_suits_44 : decode b_Mo_suits 44 = .ok (.iload_n 2, 1) := by decide +kernel
theorem d_Mo_suits_45 : decode b_Mo_suits 45 = .ok (.iconst 4, 1) := by decide +kernel
theorem d_Mo_suits_46 : decode b_Mo_suits 46 = .ok (.isub, 1) := by decide +kernel
theorem d_Mo_suits_47 : decode b_Mo_suits 47 = .ok (.invokevirtual 117, 3) := by decide +kernel
theorem d_Mo_suits_50 : decode b_Mo_suits 50 = .ok (.ifCond .eq 7, 3) := by decide +kernel
theorem d_Mo_suits_53 : decode b_Mo_suits 53 = .ok (.iconst 1, 1) := by decide +kernel
theorem d_Mo_suits_54 : decode b_Mo_suits 54 = .ok (.goto 4, 3) := by decide +kernel
theorem d_Mo_suits_57 : decode b_Mo_suits 57 = .ok (.iconst 0, 1) := by decide +kernel
theorem d_Mo_suits_58 : decode b_Mo_suits 58 = .ok (.ireturn, 1) := by decide +kernel
theorem g_Mo_suits {X : WX} {d : Nat} (hd : 1 ≤ d) (a b : Int) (M : Mem) (hP : okP M) (ha : 0 ≤ a ∧ a < 18) (hb : 0 ≤ b ∧ b < 18) : MG X gt d KE KE y_Mo_suits b_Mo_suits 3 (some .boolean) [vr 55, vi a, vi b] M (fun r M' => r = some (vi (b2i (suitsB M a b))) ∧ M' = M) := by
  refine MG_of_G (by decide) (Nat.le_of_ble_eq_true rfl) (Nat.le_refl _) (by decide) ?_
  show G X gt d KE KE y_Mo_suits b_Mo_suits 3 (some .boolean) _ 0 [(0, vr 55), (1, vi a), (2, vi b)] [] KE M
  refine G_rngl (i := 1) rfl (fun hr1 => ?_)
  refine G_rngl (i := 2) rfl (fun hr2 => ?_)
  refine G_iload (i := 1) (n := 1) (len := 1) (Or.inl ⟨1, rfl, rfl, d_Mo_suits_0⟩) rfl (G_pc (pc' := 1) rfl ?_)
  refine G_iload (i := 2) (n := 2) (len := 1) (Or.inl ⟨2, rfl, rfl, d_Mo_suits_1⟩) rfl (G_pc (pc' := 2) rfl ?_)
  refine G_icmp_eq (tgt := 53) d_Mo_suits_2 (by decide) (fun h1 => ?_) (fun h1 => G_pc (pc' := 5) rfl ?_)
  · skip
    refine G_iconst (n := 1) d_Mo_suits_53 (by decide) (G_pc (pc' := 54) rfl ?_)
    refine G_goto (tgt := 58) d_Mo_suits_54 (by decide) ?_
    refine G_iret d_Mo_suits_58 rfl (tokZ (by decide)) rfl rfl ?_
    exact ret_t (by simp [suitsB, refB, numB, isKindB, inB, *] <;> omega) rfl
  · skip
    refine G_iload (i := 1) (n := 1) (len := 1) (Or.inl ⟨1, rfl, rfl, d_Mo_suits_5⟩) rfl (G_pc (pc' := 6) rfl ?_)
    refine G_bipush (n := 17) d_Mo_suits_6 (by decide) (G_pc (pc' := 8) rfl ?_)
    refine G_icmp_ne (tgt := 18) d_Mo_suits_8 (by decide) (fun h2 => ?_) (fun h2 => G_pc (pc' := 11) rfl ?_)
    · skip
      refine G_iload (i := 1) (n := 1) (len := 1) (Or.inl ⟨1, rfl, rfl, d_Mo_suits_18⟩) rfl (G_pc (pc' := 19) rfl ?_)
      refine G_iconst (n := 4) d_Mo_suits_19 (by decide) (G_pc (pc' := 20) rfl ?_)
      refine G_icmp_lt (tgt := 57) d_Mo_suits_20 (by decide) (fun h3 => ?_) (fun h3 => G_pc (pc' := 23) rfl ?_)
      · skip
        refine G_iconst (n := 0) d_Mo_suits_57 (by decide) (G_pc (pc' := 58) rfl ?_)
        refine G_iret d_Mo_suits_58 rfl (tokZ (by decide)) rfl rfl ?_
        exact ret_f (by simp [suitsB, refB, numB, isKindB, inB, *] <;> omega) rfl
      · skip
        refine G_iload (i := 1) (n := 1) (len := 1) (Or.inl ⟨1, rfl, rfl, d_Mo_suits_23⟩) rfl (G_pc (pc' := 24) rfl ?_)
        refine G_bipush (n := 10) d_Mo_suits_24 (by decide) (G_pc (pc' := 26) rfl ?_)
        refine G_icmp_ge (tgt := 57) d_Mo_suits_26 (by decide) (fun h4 => ?_) (fun h4 => G_pc (pc' := 29) rfl ?_)
        · skip
          refine G_iconst (n := 0) d_Mo_suits_57 (by decide) (G_pc (pc' := 58) rfl ?_)
          refine G_iret d_Mo_suits_58 rfl (tokZ (by decide)) rfl rfl ?_
          exact ret_f (by simp [suitsB, refB, numB, isKindB, inB, *] <;> omega) rfl
        · skip
          refine G_iload (i := 2) (n := 2) (len := 1) (Or.inl ⟨2, rfl, rfl, d_Mo_suits_29⟩) rfl (G_pc (pc' := 30) rfl ?_)
          refine G_iconst (n := 4) d_Mo_suits_30 (by decide) (G_pc (pc' := 31) rfl ?_)
          refine G_icmp_lt (tgt := 57) d_Mo_suits_31 (by decide) (fun h5 => ?_) (fun h5 => G_pc (pc' := 34) rfl ?_)
          · skip
            refine G_iconst (n := 0) d_Mo_suits_57 (by decide) (G_pc (pc' := 58) rfl ?_)
            refine G_iret d_Mo_suits_58 rfl (tokZ (by decide)) rfl rfl ?_
            exact ret_f (by simp [suitsB, refB, numB, isKindB, inB, *] <;> omega) rfl
          · skip
            refine G_iload (i := 2) (n := 2) (len := 1) (Or.inl ⟨2, rfl, rfl, d_Mo_suits_34⟩) rfl (G_pc (pc' := 35) rfl ?_)
            refine G_bipush (n := 10) d_Mo_suits_35 (by decide) (G_pc (pc' := 37) rfl ?_)
            refine G_icmp_ge (tgt := 57) d_Mo_suits_37 (by decide) (fun h6 => ?_) (fun h6 => G_pc (pc' := 40) rfl ?_)
            · skip
              refine G_iconst (n := 0) d_Mo_suits_57 (by decide) (G_pc (pc' := 58) rfl ?_)
              refine G_iret d_Mo_suits_58 rfl (tokZ (by decide)) rfl rfl ?_
              exact ret_f (by simp [suitsB, refB, numB, isKindB, inB, *] <;> omega) rfl
            · skip
              refine G_aload (i := 0) (n := 0) (len := 1) (Or.inl ⟨0, rfl, rfl, d_Mo_suits_40⟩) rfl (by decide) (G_pc (pc' := 41) rfl ?_)
              refine G_iload (i := 1) (n := 1) (len := 1) (Or.inl ⟨1, rfl, rfl, d_Mo_suits_41⟩) rfl (G_pc (pc' := 42) rfl ?_)
              refine G_iconst (n := 4) d_Mo_suits_42 (by decide) (G_pc (pc' := 43) rfl ?_)
              refine G_isub d_Mo_suits_43 (by omega) (G_pc (pc' := 44) rfl ?_)
              refine G_iload (i := 2) (n := 2) (len := 1) (Or.inl ⟨2, rfl, rfl, d_Mo_suits_44⟩) rfl (G_pc (pc' := 45) rfl ?_)
              refine G_iconst (n := 4) d_Mo_suits_45 (by decide) (G_pc (pc' := 46) rfl ?_)
              refine G_isub d_Mo_suits_46 (by omega) (G_pc (pc' := 47) rfl ?_)
              refine G_callV (K1 := KE) (d2 := 0) (o := 55) (cl := 9) (as := [vi (a - 4), vi (b - 4)]) (rest := []) d_Mo_suits_47 mf_Mo_isA ml_Mo_117 rfl rfl (by decide) rfl rfl (by decide) (by omega) ⟨Nat.le_refl _, Nat.le_refl _⟩ (g_Mo_isA (by omega) (a - 4) (b - 4) _ hP ⟨by omega, by omega⟩) (fun r7 M8 kq9 q9 => ?_)
              clear kq9; obtain ⟨q9a, q9b⟩ := q9; subst r7; subst M8
              refine G_ps (pc' := 50) (st' := [vi (b2i (isAm M (a - 4) (b - 4)))]) rfl rfl ?_
              refine G_if_eq (tgt := 57) d_Mo_suits_50 (by decide) (fun h10 => ?_) (fun h10 => G_pc (pc' := 53) rfl ?_)
              · skip
                replace h10 := b2i_0.mp h10
                refine G_iconst (n := 0) d_Mo_suits_57 (by decide) (G_pc (pc' := 58) rfl ?_)
                refine G_iret d_Mo_suits_58 rfl (tokZ (by decide)) rfl rfl ?_
                exact ret_f (by simp [suitsB, refB, numB, isKindB, inB, *] <;> omega) rfl
              · skip
                replace h10 := b2i_nz.mp h10
                refine G_iconst (n := 1) d_Mo_suits_53 (by decide) (G_pc (pc' := 54) rfl ?_)
                refine G_goto (tgt := 58) d_Mo_suits_54 (by decide) ?_
                refine G_iret d_Mo_suits_58 rfl (tokZ (by decide)) rfl rfl ?_
                exact ret_t (by simp [suitsB, refB, numB, isKindB, inB, *] <;> omega) rfl
    · skip
      refine G_iload (i := 2) (n := 2) (len := 1) (Or.inl ⟨2, rfl, rfl, d_Mo_suits_11⟩) rfl (G_pc (pc' := 12) rfl ?_)
      refine G_callS (K1 := KE) (d2 := 0) (as := [vi b]) (rest := []) d_Mo_suits_12 mf_Mo_reference ml_Mo_113 rfl rfl (by decide) (by omega) ⟨Nat.le_refl _, Nat.le_refl _⟩ (g_Mo_reference (by omega) b _) (fun r11 M12 kq13 q13 => ?_)
      clear kq13; obtain ⟨q13a, q13b⟩ := q13; subst r11; subst M12
      refine G_ps (pc' := 15) (st' := [vi (b2i (refB b))]) rfl rfl ?_
      refine G_if_ne (tgt := 53) d_Mo_suits_15 (by decide) (fun h14 => ?_) (fun h14 => G_pc (pc' := 18) rfl ?_)
      · skip
        replace h14 := b2i_nz.mp h14
        replace h14 := refB_t.mp h14
        refine G_iconst (n := 1) d_Mo_suits_53 (by decide) (G_pc (pc' := 54) rfl ?_)
        refine G_goto (tgt := 58) d_Mo_suits_54 (by decide) ?_
        refine G_iret d_Mo_suits_58 rfl (tokZ (by decide)) rfl rfl ?_
        exact ret_t (by simp [suitsB, refB, numB, isKindB, inB, *] <;> omega) rfl
      · skip
        replace h14 := b2i_0.mp h14
        replace h14 := refB_f.mp h14
        refine G_iload (i := 1) (n := 1) (len := 1) (Or.inl ⟨1, rfl, rfl, d_Mo_suits_18⟩) rfl (G_pc (pc' := 19) rfl ?_)
        refine G_iconst (n := 4) d_Mo_suits_19 (by decide) (G_pc (pc' := 20) rfl ?_)
        refine G_icmp_lt (tgt := 57) d_Mo_suits_20 (by decide) (fun h15 => ?_) (fun h15 => G_pc (pc' := 23) rfl ?_)
        · skip
          refine G_iconst (n := 0) d_Mo_suits_57 (by decide) (G_pc (pc' := 58) rfl ?_)
          refine G_iret d_Mo_suits_58 rfl (tokZ (by decide)) rfl rfl ?_
          exact ret_f (by simp [suitsB, refB, numB, isKindB, inB, *] <;> omega) rfl
        · skip
          refine G_iload (i := 1) (n := 1) (len := 1) (Or.inl ⟨1, rfl, rfl, d_Mo_suits_23⟩) rfl (G_pc (pc' := 24) rfl ?_)
          refine G_bipush (n := 10) d_Mo_suits_24 (by decide) (G_pc (pc' := 26) rfl ?_)
          refine G_icmp_ge (tgt := 57) d_Mo_suits_26 (by decide) (fun h16 => ?_) (fun h16 => G_pc (pc' := 29) rfl ?_)
          · skip
            refine G_iconst (n := 0) d_Mo_suits_57 (by decide) (G_pc (pc' := 58) rfl ?_)
            refine G_iret d_Mo_suits_58 rfl (tokZ (by decide)) rfl rfl ?_
            exact ret_f (by simp [suitsB, refB, numB, isKindB, inB, *] <;> omega) rfl
          · skip
            refine G_iload (i := 2) (n := 2) (len := 1) (Or.inl ⟨2, rfl, rfl, d_Mo_suits_29⟩) rfl (G_pc (pc' := 30) rfl ?_)
            refine G_iconst (n := 4) d_Mo_suits_30 (by decide) (G_pc (pc' := 31) rfl ?_)
            refine G_icmp_lt (tgt := 57) d_Mo_suits_31 (by decide) (fun h17 => ?_) (fun h17 => G_pc (pc' := 34) rfl ?_)
            · skip
              refine G_iconst (n := 0) d_Mo_suits_57 (by decide) (G_pc (pc' := 58) rfl ?_)
              refine G_iret d_Mo_suits_58 rfl (tokZ (by decide)) rfl rfl ?_
              exact ret_f (by simp [suitsB, refB, numB, isKindB, inB, *] <;> omega) rfl
            · skip
              refine G_iload (i := 2) (n := 2) (len := 1) (Or.inl ⟨2, rfl, rfl, d_Mo_suits_34⟩) rfl (G_pc (pc' := 35) rfl ?_)
              refine G_bipush (n := 10) d_Mo_suits_35 (by decide) (G_pc (pc' := 37) rfl ?_)
              refine G_icmp_ge (tgt := 57) d_Mo_suits_37 (by decide) (fun h18 => ?_) (fun h18 => G_pc (pc' := 40) rfl ?_)
              · skip
                refine G_iconst (n := 0) d_Mo_suits_57 (by decide) (G_pc (pc' := 58) rfl ?_)
                refine G_iret d_Mo_suits_58 rfl (tokZ (by decide)) rfl rfl ?_
                exact ret_f (by simp [suitsB, refB, numB, isKindB, inB, *] <;> omega) rfl
              · skip
                refine G_aload (i := 0) (n := 0) (len := 1) (Or.inl ⟨0, rfl, rfl, d_Mo_suits_40⟩) rfl (by decide) (G_pc (pc' := 41) rfl ?_)
                refine G_iload (i := 1) (n := 1) (len := 1) (Or.inl ⟨1, rfl, rfl, d_Mo_suits_41⟩) rfl (G_pc (pc' := 42) rfl ?_)
                refine G_iconst (n := 4) d_Mo_suits_42 (by decide) (G_pc (pc' := 43) rfl ?_)
                refine G_isub d_Mo_suits_43 (by omega) (G_pc (pc' := 44) rfl ?_)
                refine G_iload (i := 2) (n := 2) (len := 1) (Or.inl ⟨2, rfl, rfl, d_Mo_suits_44⟩) rfl (G_pc (pc' := 45) rfl ?_)
                refine G_iconst (n := 4) d_Mo_suits_45 (by decide) (G_pc (pc' := 46) rfl ?_)
                refine G_isub d_Mo_suits_46 (by omega) (G_pc (pc' := 47) rfl ?_)
                refine G_callV (K1 := KE) (d2 := 0) (o := 55) (cl := 9) (as := [vi (a - 4), vi (b - 4)]) (rest := []) d_Mo_suits_47 mf_Mo_isA ml_Mo_117 rfl rfl (by decide) rfl rfl (by decide) (by omega) ⟨Nat.le_refl _, Nat.le_refl _⟩ (g_Mo_isA (by omega) (a - 4) (b - 4) _ hP ⟨by omega, by omega⟩) (fun r19 M20 kq21 q21 => ?_)
                clear kq21; obtain ⟨q21a, q21b⟩ := q21; subst r19; subst M20
                refine G_ps (pc' := 50) (st' := [vi (b2i (isAm M (a - 4) (b - 4)))]) rfl rfl ?_
                refine G_if_eq (tgt := 57) d_Mo_suits_50 (by decide) (fun h22 => ?_) (fun h22 => G_pc (pc' := 53) rfl ?_)
                · skip
                  replace h22 := b2i_0.mp h22
                  refine G_iconst (n := 0) d_Mo_suits_57 (by decide) (G_pc (pc' := 58) rfl ?_)
                  refine G_iret d_Mo_suits_58 rfl (tokZ (by decide)) rfl rfl ?_
                  exact ret_f (by simp [suitsB, refB, numB, isKindB, inB, *] <;> omega) rfl
                · skip
                  replace h22 := b2i_nz.mp h22
                  refine G_iconst (n := 1) d_Mo_suits_53 (by decide) (G_pc (pc' := 54) rfl ?_)
                  refine G_goto (tgt := 58) d_Mo_suits_54 (by decide) ?_
                  refine G_iret d_Mo_suits_58 rfl (tokZ (by decide)) rfl rfl ?_
                  exact ret_t (by simp [suitsB, refB, numB, isKindB, inB, *] <;> omega) rfl

theorem d_Mo_related_0 : decode b_Mo_related 0 = .ok (.iload_n 1, 1) := by decide +kernel
theorem d_Mo_related_1 : decode b_Mo_related 1 = .ok (.invokestatic 113, 3) := by decide +kernel
theorem d_Mo_related_4 : decode b_Mo_related 4 = .ok (.ifCond .eq 32, 3) := by decide +kernel
theorem d_Mo_related_7 : decode b_Mo_related 7 = .ok (.iload_n 2, 1) := by decide +kernel
theorem d_Mo_related_8 : decode b_Mo_related 8 = .ok (.invokestatic 113, 3) := by decide +kernel
theorem d_Mo_related_11 : decode b_Mo_related 11 = .ok (.ifCond .eq 25, 3) := by decide +kernel
theorem d_Mo_related_14 : decode b_Mo_related 14 = .ok (.aload_n 0, 1) := by decide +kernel
theorem d_Mo_related_15 : decode b_Mo_related 15 = .ok (.iload_n 1, 1) := by decide +kernel
theorem d_Mo_related_16 : decode b_Mo_related 16 = .ok (.iload_n 2, 1) := by decide +kernel
theorem d_Mo_related_17 : decode b_Mo_related 17 = .ok (.invokevirtual 120, 3) := by decide +kernel
theorem d_Mo_related_20 : decode b_Mo_related 20 = .ok (.ifCond .ne 12, 3) := by decide +kernel
theorem d_Mo_related_23 : decode b_Mo_related 23 = .ok (.aload_n 0, 1) := by decide +kernel
theorem d_Mo_related_24 : decode b_Mo_related 24 = .ok (.iload_n 2, 1) := by decide +kernel
theorem d_Mo_related_25 : decode b_Mo_related 25 = .ok (.iload_n 1, 1) := by decide +kernel
theorem d_Mo_related_26 : decode b_Mo_related 26 = .ok (.invokevirtual 120, 3) := by decide +kernel
theorem d_Mo_related_29 : decode b_Mo_related 29 = .ok (.ifCond .eq 7, 3) := by decide +kernel
theorem d_Mo_related_32 : decode b_Mo_related 32 = .ok (.iconst 1, 1) := by decide +kernel
theorem d_Mo_related_33 : decode b_Mo_related 33 = .ok (.goto 4, 3) := by decide +kernel
theorem d_Mo_related_36 : decode b_Mo_related 36 = .ok (.iconst 0, 1) := by decide +kernel
theorem d_Mo_related_37 : decode b_Mo_related 37 = .ok (.ireturn, 1) := by decide +kernel
theorem g_Mo_related {X : WX} {d : Nat} (hd : 2 ≤ d) (a b : Int) (M : Mem) (hP : okP M) (ha : 0 ≤ a ∧ a < 18) (hb : 0 ≤ b ∧ b < 18) : MG X gt d KE KE y_Mo_related b_Mo_related 3 (some .boolean) [vr 55, vi a, vi b] M (fun r M' => r = some (vi (b2i (relB M a b))) ∧ M' = M) := by
  refine MG_of_G (by decide) (Nat.le_of_ble_eq_true rfl) (Nat.le_refl _) (by decide) ?_
  show G X gt d KE KE y_Mo_related b_Mo_related 3 (some .boolean) _ 0 [(0, vr 55), (1, vi a), (2, vi b)] [] KE M
  refine G_rngl (i := 1) rfl (fun hr1 => ?_)
  refine G_rngl (i := 2) rfl (fun hr2 => ?_)
  refine G_iload (i := 1) (n := 1) (len := 1) (Or.inl ⟨1, rfl, rfl, d_Mo_related_0⟩) rfl (G_pc (pc' := 1) rfl ?_)
  refine G_callS (K1 := KE) (d2 := 0) (as := [vi a]) (rest := []) d_Mo_related_1 mf_Mo_reference ml_Mo_113 rfl rfl (by decide) (by omega) ⟨Nat.le_refl _, Nat.le_refl _⟩ (g_Mo_reference (by omega) a _) (fun r1 M2 kq3 q3 => ?_)
  clear kq3; obtain ⟨q3a, q3b⟩ := q3; subst r1; subst M2
  refine G_ps (pc' := 4) (st' := [vi (b2i (refB a))]) rfl rfl ?_
  refine G_if_eq (tgt := 36) d_Mo_related_4 (by decide) (fun h4 => ?_) (fun h4 => G_pc (pc' := 7) rfl ?_)
  · skip
    replace h4 := b2i_0.mp h4
    replace h4 := refB_f.mp h4
    refine G_iconst (n := 0) d_Mo_related_36 (by decide) (G_pc (pc' := 37) rfl ?_)
    refine G_iret d_Mo_related_37 rfl (tokZ (by decide)) rfl rfl ?_
    exact ret_f (by simp [relB, refB, numB, isKindB, inB, *] <;> omega) rfl
  · skip
    replace h4 := b2i_nz.mp h4
    replace h4 := refB_t.mp h4
    refine G_iload (i := 2) (n := 2) (len := 1) (Or.inl ⟨2, rfl, rfl, d_Mo_related_7⟩) rfl (G_pc (pc' := 8) rfl ?_)
    refine G_callS (K1 := KE) (d2 := 0) (as := [vi b]) (rest := []) d_Mo_related_8 mf_Mo_reference ml_Mo_113 rfl rfl (by decide) (by omega) ⟨Nat.le_refl _, Nat.le_refl _⟩ (g_Mo_reference (by omega) b _) (fun r5 M6 kq7 q7 => ?_)
    clear kq7; obtain ⟨q7a, q7b⟩ := q7; subst r5; subst M6
    refine G_ps (pc' := 11) (st' := [vi (b2i (refB b))]) rfl rfl ?_
    refine G_if_eq (tgt := 36) d_Mo_related_11 (by decide) (fun h8 => ?_) (fun h8 => G_pc (pc' := 14) rfl ?_)
    · skip
      replace h8 := b2i_0.mp h8
      replace h8 := refB_f.mp h8
      refine G_iconst (n := 0) d_Mo_related_36 (by decide) (G_pc (pc' := 37) rfl ?_)
      refine G_iret d_Mo_related_37 rfl (tokZ (by decide)) rfl rfl ?_
      exact ret_f (by simp [relB, refB, numB, isKindB, inB, *] <;> omega) rfl
    · skip
      replace h8 := b2i_nz.mp h8
      replace h8 := refB_t.mp h8
      refine G_aload (i := 0) (n := 0) (len := 1) (Or.inl ⟨0, rfl, rfl, d_Mo_related_14⟩) rfl (by decide) (G_pc (pc' := 15) rfl ?_)
      refine G_iload (i := 1) (n := 1) (len := 1) (Or.inl ⟨1, rfl, rfl, d_Mo_related_15⟩) rfl (G_pc (pc' := 16) rfl ?_)
      refine G_iload (i := 2) (n := 2) (len := 1) (Or.inl ⟨2, rfl, rfl, d_Mo_related_16⟩) rfl (G_pc (pc' := 17) rfl ?_)
      refine G_callV (K1 := KE) (d2 := 1) (o := 55) (cl := 9) (as := [vi a, vi b]) (rest := []) d_Mo_related_17 mf_Mo_suits ml_Mo_120 rfl rfl (by decide) rfl rfl (by decide) (by omega) ⟨Nat.le_refl _, Nat.le_refl _⟩ (g_Mo_suits (by omega) a b _ hP (by omega) (by omega)) (fun r9 M10 kq11 q11 => ?_)
      clear kq11; obtain ⟨q11a, q11b⟩ := q11; subst r9; subst M10
      refine G_ps (pc' := 20) (st' := [vi (b2i (suitsB M a b))]) rfl rfl ?_
      refine G_if_ne (tgt := 32) d_Mo_related_20 (by decide) (fun h12 => ?_) (fun h12 => G_pc (pc' := 23) rfl ?_)
      · skip
        replace h12 := b2i_nz.mp h12
        refine G_iconst (n := 1) d_Mo_related_32 (by decide) (G_pc (pc' := 33) rfl ?_)
        refine G_goto (tgt := 37) d_Mo_related_33 (by decide) ?_
        refine G_iret d_Mo_related_37 rfl (tokZ (by decide)) rfl rfl ?_
        exact ret_t (by simp [relB, refB, numB, isKindB, inB, *] <;> omega) rfl
      · skip
        replace h12 := b2i_0.mp h12
        refine G_aload (i := 0) (n := 0) (len := 1) (Or.inl ⟨0, rfl, rfl, d_Mo_related_23⟩) rfl (by decide) (G_pc (pc' := 24) rfl ?_)
        refine G_iload (i := 2) (n := 2) (len := 1) (Or.inl ⟨2, rfl, rfl, d_Mo_related_24⟩) rfl (G_pc (pc' := 25) rfl ?_)
        refine G_iload (i := 1) (n := 1) (len := 1) (Or.inl ⟨1, rfl, rfl, d_Mo_related_25⟩) rfl (G_pc (pc' := 26) rfl ?_)
        refine G_callV (K1 := KE) (d2 := 1) (o := 55) (cl := 9) (as := [vi b, vi a]) (rest := []) d_Mo_related_26 mf_Mo_suits ml_Mo_120 rfl rfl (by decide) rfl rfl (by decide) (by omega) ⟨Nat.le_refl _, Nat.le_refl _⟩ (g_Mo_suits (by omega) b a _ hP (by omega) (by omega)) (fun r13 M14 kq15 q15 => ?_)
        clear kq15; obtain ⟨q15a, q15b⟩ := q15; subst r13; subst M14
        refine G_ps (pc' := 29) (st' := [vi (b2i (suitsB M b a))]) rfl rfl ?_
        refine G_if_eq (tgt := 36) d_Mo_related_29 (by decide) (fun h16 => ?_) (fun h16 => G_pc (pc' := 32) rfl ?_)
        · skip
          replace h16 := b2i_0.mp h16
          refine G_iconst (n := 0) d_Mo_related_36 (by decide) (G_pc (pc' := 37) rfl ?_)
          refine G_iret d_Mo_related_37 rfl (tokZ (by decide)) rfl rfl ?_
          exact ret_f (by simp [relB, refB, numB, isKindB, inB, *] <;> omega) rfl
        · skip
          replace h16 := b2i_nz.mp h16
          refine G_iconst (n := 1) d_Mo_related_32 (by decide) (G_pc (pc' := 33) rfl ?_)
          refine G_goto (tgt := 37) d_Mo_related_33 (by decide) ?_
          refine G_iret d_Mo_related_37 rfl (tokZ (by decide)) rfl rfl ?_
          exact ret_t (by simp [relB, refB, numB, isKindB, inB, *] <;> omega) rfl

