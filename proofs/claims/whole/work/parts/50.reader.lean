section LO
variable (X : WX) (d e : Nat) (n : Int) (M0 : Mem) (b : Int) (R : DS → Option DS) (dep o : Int)
/-- at the head of the loop over the parts -/
def LO : Prop := ∀ (N : List ND) (S : List SD) (k a cnt : Int) (M : Mem), 5 * (n - k) + 1 ≤ b → RD e M0 M S k o a → (0 ≤ k ∧ k ≤ n) → (0 ≤ a ∧ a ≤ 4) → (S.length : Int) + 1 ≤ 2 * k → 1 ≤ S.length → (0 ≤ cnt ∧ cnt < k) → dep + 1 ≤ k → G X gt d KE KE y_Re_readOperand b_Re_readOperand 5 (some .int) (RQ e M0 o (R (k, N, S, o, a, 0))) 8 [(3, vi cnt), (2, vi (ts S)), (0, vr 13), (1, vi dep)] [] KE M
end LO
theorem d_Re_readOperand_8 : decode b_Re_readOperand 8 = .ok (.iload_n 3, 1) := by decide +kernel
theorem d_Re_readOperand_9 : decode b_Re_readOperand 9 = .ok (.bipush 24, 2) := by decide +kernel
theorem d_Re_readOperand_11 : decode b_Re_readOperand 11 = .ok (.if_icmp .ge 79, 3) := by decide +kernel
theorem d_Re_readOperand_14 : decode b_Re_readOperand 14 = .ok (.iload_n 2, 1) := by decide +kernel
theorem d_Re_readOperand_15 : decode b_Re_readOperand 15 = .ok (.iconst (-1), 1) := by decide +kernel
theorem d_Re_readOperand_16 : decode b_Re_readOperand 16 = .ok (.if_icmp .eq 74, 3) := by decide +kernel
theorem d_Re_readOperand_19 : decode b_Re_readOperand 19 = .ok (.aload_n 0, 1) := by decide +kernel
theorem d_Re_readOperand_20 : decode b_Re_readOperand 20 = .ok (.bipush 46, 2) := by decide +kernel
theorem d_Re_readOperand_22 : decode b_Re_readOperand 22 = .ok (.invokevirtual 52, 3) := by decide +kernel
theorem d_Re_readOperand_25 : decode b_Re_readOperand 25 = .ok (.ifCond .eq 12, 3) := by decide +kernel
theorem d_Re_readOperand_28 : decode b_Re_readOperand 28 = .ok (.aload_n 0, 1) := by decide +kernel
theorem d_Re_readOperand_29 : decode b_Re_readOperand 29 = .ok (.iload_n 2, 1) := by decide +kernel
theorem d_Re_readOperand_30 : decode b_Re_readOperand 30 = .ok (.invokevirtual 120, 3) := by decide +kernel
theorem d_Re_readOperand_33 : decode b_Re_readOperand 33 = .ok (.istore_n 2, 1) := by decide +kernel
theorem d_Re_readOperand_34 : decode b_Re_readOperand 34 = .ok (.goto 50, 3) := by decide +kernel
theorem d_Re_readOperand_37 : decode b_Re_readOperand 37 = .ok (.aload_n 0, 1) := by decide +kernel
theorem d_Re_readOperand_38 : decode b_Re_readOperand 38 = .ok (.bipush 91, 2) := by decide +kernel
theorem d_Re_readOperand_40 : decode b_Re_readOperand 40 = .ok (.invokevirtual 52, 3) := by decide +kernel
theorem d_Re_readOperand_43 : decode b_Re_readOperand 43 = .ok (.ifCond .eq 39, 3) := by decide +kernel
theorem d_Re_readOperand_46 : decode b_Re_readOperand 46 = .ok (.aload_n 0, 1) := by decide +kernel
theorem d_Re_readOperand_47 : decode b_Re_readOperand 47 = .ok (.bipush 93, 2) := by decide +kernel
theorem d_Re_readOperand_49 : decode b_Re_readOperand 49 = .ok (.iload_n 1, 1) := by decide +kernel
theorem d_Re_readOperand_50 : decode b_Re_readOperand 50 = .ok (.invokevirtual 123, 3) := by decide +kernel
theorem d_Re_readOperand_53 : decode b_Re_readOperand 53 = .ok (.istore 4, 2) := by decide +kernel
theorem d_Re_readOperand_55 : decode b_Re_readOperand 55 = .ok (.iload 4, 2) := by decide +kernel
theorem d_Re_readOperand_57 : decode b_Re_readOperand 57 = .ok (.iconst (-1), 1) := by decide +kernel
theorem d_Re_readOperand_58 : decode b_Re_readOperand 58 = .ok (.if_icmp .ne 7, 3) := by decide +kernel
theorem d_Re_readOperand_61 : decode b_Re_readOperand 61 = .ok (.iconst (-1), 1) := by decide +kernel
theorem d_Re_readOperand_62 : decode b_Re_readOperand 62 = .ok (.goto 16, 3) := by decide +kernel
theorem d_Re_readOperand_65 : decode b_Re_readOperand 65 = .ok (.aload_n 0, 1) := by decide +kernel
theorem d_Re_readOperand_66 : decode b_Re_readOperand 66 = .ok (.getfield 18, 3) := by decide +kernel
theorem d_Re_readOperand_69 : decode b_Re_readOperand 69 = .ok (.sipush 145, 3) := by decide +kernel
theorem d_Re_readOperand_72 : decode b_Re_readOperand 72 = .ok (.iload_n 2, 1) := by decide +kernel
theorem d_Re_readOperand_73 : decode b_Re_readOperand 73 = .ok (.iload 4, 2) := by decide +kernel
theorem d_Re_readOperand_75 : decode b_Re_readOperand 75 = .ok (.invokevirtual 56, 3) := by decide +kernel
theorem d_Re_readOperand_78 : decode b_Re_readOperand 78 = .ok (.istore_n 2, 1) := by decide +kernel
theorem d_Re_readOperand_79 : decode b_Re_readOperand 79 = .ok (.goto 5, 3) := by decide +kernel
theorem d_Re_readOperand_82 : decode b_Re_readOperand 82 = .ok (.iload_n 2, 1) := by decide +kernel
theorem d_Re_readOperand_83 : decode b_Re_readOperand 83 = .ok (.ireturn, 1) := by decide +kernel
theorem d_Re_readOperand_84 : decode b_Re_readOperand 84 = .ok (.iinc 3 1, 3) := by decide +kernel
theorem d_Re_readOperand_87 : decode b_Re_readOperand 87 = .ok (.goto (-79), 3) := by decide +kernel
theorem d_Re_readOperand_90 : decode b_Re_readOperand 90 = .ok (.iload_n 2, 1) := by decide +kernel
theorem d_Re_readOperand_91 : decode b_Re_readOperand 91 = .ok (.ireturn, 1) := by decide +kernel
set_option maxHeartbeats 400000 in
theorem l_operand {X : WX} {d : Nat} (hd : 3 ≤ d) (e : Nat) (T W : Int → Int) (n : Int) (M0 : Mem) (b : Int) (N : List ND) (S : List SD) (k o a dep : Int) (c cnt : Int) (R0 L : DS → Option DS) (d0 : Nat) (M : Mem) (he : e < 4) (hTR : TR M0 T W n) (hst : M0 13 1 = ((20 + 9 * e : Nat) : Int)) (hR : RD e M0 M S k o a) (hk : 0 ≤ k ∧ k ≤ n) (ho : 0 ≤ o ∧ o ≤ 6) (ha : 0 ≤ a ∧ a ≤ 4) (hS : (S.length : Int) + 1 ≤ 2 * k) (hS1 : 1 ≤ S.length) (hcnt : 0 ≤ cnt ∧ cnt < k) (hdep : 0 ≤ dep ∧ dep + 1 ≤ k) (h10 : 10 ≤ d0) (hd0 : d0 + 3 ≤ d) (hC0 : CH X d0 e n M0 b R0) (hJ0 : J1 n R0) (hL : LO X d e n M0 b L dep o) (hb : 5 * (n - k) ≤ b) : G X gt d KE KE y_Re_readOperand b_Re_readOperand 5 (some .int) (RQ e M0 o (partsD T W R0 L (k, N, S, o, a, c))) 8 [(3, vi cnt), (2, vi (ts S)), (0, vr 13), (1, vi dep)] [] KE M := by
  have hn2 := hTR.2.1
  have hts : ts S = (S.length : Int) - 1 := rfl
  have hq0 := (TR_T hTR (k := k) (by omega)).2
  refine G_iload (i := 3) (n := 0) (len := 1) (Or.inl ⟨3, rfl, rfl, d_Re_readOperand_8⟩) rfl (G_pc (pc' := 9) rfl ?_)
  refine G_bipush (n := 24) d_Re_readOperand_9 (by decide) (G_pc (pc' := 11) rfl ?_)
  refine G_icmp_ge (tgt := 90) d_Re_readOperand_11 (by decide) (fun h1 => absurd h1 (by omega)) (fun h1 => G_pc (pc' := 14) rfl ?_)
  refine G_iload (i := 2) (n := 1) (len := 1) (Or.inl ⟨2, rfl, rfl, d_Re_readOperand_14⟩) rfl (G_pc (pc' := 15) rfl ?_)
  refine G_iconst (n := (-1)) d_Re_readOperand_15 (by decide) (G_pc (pc' := 16) rfl ?_)
  refine G_icmp_eq (tgt := 90) d_Re_readOperand_16 (by decide) (fun h2 => absurd h2 (by omega)) (fun h2 => G_pc (pc' := 19) rfl ?_)
  refine G_aload (i := 0) (n := 2) (len := 1) (Or.inl ⟨0, rfl, rfl, d_Re_readOperand_19⟩) rfl (by decide) (G_pc (pc' := 20) rfl ?_)
  refine G_bipush (n := 46) d_Re_readOperand_20 (by decide) (G_pc (pc' := 22) rfl ?_)
  refine G_callV (K1 := KE) (d2 := 1) (o := 13) (cl := 4) (as := [vi 46]) (rest := []) d_Re_readOperand_22 mf_Re_takes ml_Re_52 rfl rfl (by decide) rfl rfl (Nat.le_of_ble_eq_true rfl) (by omega) ⟨Nat.le_refl _, Nat.le_refl _⟩ (g_Re_takes (by omega) e T W n M0 46 S k o a M he hTR hR (by omega)) (fun r3 M4 kq5 q5 => ?_)
  clear kq5
  by_cases hc6 : tcode (T k) = 46
  · skip
    obtain ⟨q5a, q5b⟩ := q5.1 hc6
    subst r3; subst M4
    rw [tc_46 (TR_T hTR (by omega)).1] at hc6
    refine G_ps (pc' := 25) (st' := [vi 1]) rfl rfl ?_
    refine G_abs (R := fun M9 => RD e M0 M9 S (k + 1) o a) (RD_nk (RD_sk hR) (by omega)) (fun M7 hR8 => ?_)
    refine G_if_eq (tgt := 37) d_Re_readOperand_25 (by decide) (fun h9 => absurd h9 (by decide)) (fun h9 => G_pc (pc' := 28) rfl ?_)
    refine G_aload (i := 0) (n := 2) (len := 1) (Or.inl ⟨0, rfl, rfl, d_Re_readOperand_28⟩) rfl (by decide) (G_pc (pc' := 29) rfl ?_)
    refine G_iload (i := 2) (n := 1) (len := 1) (Or.inl ⟨2, rfl, rfl, d_Re_readOperand_29⟩) rfl (G_pc (pc' := 30) rfl ?_)
    refine G_callV (K1 := KE) (d2 := 2) (o := 13) (cl := 4) (as := [vi (ts S)]) (rest := []) d_Re_readOperand_30 mf_Re_readPart ml_Re_120 rfl rfl (by decide) rfl rfl (Nat.le_of_ble_eq_true rfl) (by omega) ⟨Nat.le_refl _, Nat.le_refl _⟩ (g_Re_readPart (by omega) e T W n M0 N S k o a c M7 he hTR hR8 hst (by omega) (by omega) (by omega) (by omega) (by omega)) (fun r10 M11 kq12 q12 => ?_)
    clear kq12
    rcases q12 with ⟨hE_13, rfl, hf_13, ho_13⟩ | ⟨k_13, N_13, S_13, o_13, a_13, c_13, hE_13, rfl, hR_13⟩
    · skip
      refine G_ps (pc' := 33) (st' := [vi (-1)]) rfl rfl ?_
      refine G_istore (i := 2) (len := 1) (ls' := [(2, vi (-1)), (3, vi cnt), (0, vr 13), (1, vi dep)]) (Or.inl ⟨2, rfl, rfl, d_Re_readOperand_33⟩) (by decide) rfl (G_pc (pc' := 34) rfl ?_)
      refine G_goto (tgt := 84) d_Re_readOperand_34 (by decide) ?_
      refine G_iinc (i := 3) (n := 1) (z := 1) (ls' := [(3, vi (cnt + 1)), (2, vi (-1)), (0, vr 13), (1, vi dep)]) d_Re_readOperand_84 rfl (by decide) (by omega) rfl (G_pc (pc' := 87) rfl ?_)
      refine G_goto (tgt := 8) d_Re_readOperand_87 (by decide) ?_
      refine G_iload (i := 3) (n := 0) (len := 1) (Or.inl ⟨3, rfl, rfl, d_Re_readOperand_8⟩) rfl (G_pc (pc' := 9) rfl ?_)
      refine G_bipush (n := 24) d_Re_readOperand_9 (by decide) (G_pc (pc' := 11) rfl ?_)
      refine G_icmp_ge (tgt := 90) d_Re_readOperand_11 (by decide) (fun h14 => ?_) (fun h14 => G_pc (pc' := 14) rfl ?_)
      · skip
        refine G_iload (i := 2) (n := 1) (len := 1) (Or.inl ⟨2, rfl, rfl, d_Re_readOperand_90⟩) rfl (G_pc (pc' := 91) rfl ?_)
        refine G_iret d_Re_readOperand_91 rfl (tokI (by decide)) rfl rfl ?_
        exact Or.inl ⟨(parts_24 (by omega)).trans (bind_n hE_13), rfl, hf_13, ho_13⟩
      · skip
        refine G_iload (i := 2) (n := 1) (len := 1) (Or.inl ⟨2, rfl, rfl, d_Re_readOperand_14⟩) rfl (G_pc (pc' := 15) rfl ?_)
        refine G_iconst (n := (-1)) d_Re_readOperand_15 (by decide) (G_pc (pc' := 16) rfl ?_)
        refine G_icmp_eq (tgt := 90) d_Re_readOperand_16 (by decide) (fun h15 => ?_) (fun h15 => absurd h15 (by decide))
        refine G_iload (i := 2) (n := 1) (len := 1) (Or.inl ⟨2, rfl, rfl, d_Re_readOperand_90⟩) rfl (G_pc (pc' := 91) rfl ?_)
        refine G_iret d_Re_readOperand_91 rfl (tokI (by decide)) rfl rfl ?_
        exact Or.inl ⟨(parts_24 (by omega)).trans (bind_n hE_13), rfl, hf_13, ho_13⟩
    · skip
      obtain ⟨ja_13, jb_13, jc_13, jd_13, je_13, jf_13⟩ := part_inv (TR_tkn hTR) hE_13
      rw [jd_13] at hE_13 hR_13; rw [jf_13] at hE_13
      have jt_13 : ts S_13 = (S_13.length : Int) - 1 := rfl
      refine G_ps (pc' := 33) (st' := [vi (ts S_13)]) rfl rfl ?_
      refine G_istore (i := 2) (len := 1) (ls' := [(2, vi (ts S_13)), (3, vi cnt), (0, vr 13), (1, vi dep)]) (Or.inl ⟨2, rfl, rfl, d_Re_readOperand_33⟩) (by decide) rfl (G_pc (pc' := 34) rfl ?_)
      refine G_goto (tgt := 84) d_Re_readOperand_34 (by decide) ?_
      refine G_iinc (i := 3) (n := 1) (z := 1) (ls' := [(3, vi (cnt + 1)), (2, vi (ts S_13)), (0, vr 13), (1, vi dep)]) d_Re_readOperand_84 rfl (by decide) (by omega) rfl (G_pc (pc' := 87) rfl ?_)
      refine G_goto (tgt := 8) d_Re_readOperand_87 (by decide) ?_
      rw [parts_24 (by omega), bind_s hE_13]
      exact hL _ _ _ _ _ _ (by omega) hR_13 (by omega) (by omega) (by omega) (by omega) (by omega) (by omega)
  · skip
    obtain ⟨q5a, q5b⟩ := q5.2 hc6
    subst r3; subst M4
    rw [tc_46 (TR_T hTR (by omega)).1] at hc6
    refine G_ps (pc' := 25) (st' := [vi 0]) rfl rfl ?_
    refine G_if_eq (tgt := 37) d_Re_readOperand_25 (by decide) (fun h16 => ?_) (fun h16 => absurd h16 (by decide))
    refine G_aload (i := 0) (n := 2) (len := 1) (Or.inl ⟨0, rfl, rfl, d_Re_readOperand_37⟩) rfl (by decide) (G_pc (pc' := 38) rfl ?_)
    refine G_bipush (n := 91) d_Re_readOperand_38 (by decide) (G_pc (pc' := 40) rfl ?_)
    refine G_callV (K1 := KE) (d2 := 1) (o := 13) (cl := 4) (as := [vi 91]) (rest := []) d_Re_readOperand_40 mf_Re_takes ml_Re_52 rfl rfl (by decide) rfl rfl (Nat.le_of_ble_eq_true rfl) (by omega) ⟨Nat.le_refl _, Nat.le_refl _⟩ (g_Re_takes (by omega) e T W n M0 91 S k o a M he hTR hR (by omega)) (fun r17 M18 kq19 q19 => ?_)
    clear kq19
    by_cases hc20 : tcode (T k) = 91
    · skip
      obtain ⟨q19a, q19b⟩ := q19.1 hc20
      subst r17; subst M18
      rw [tc_91 (TR_T hTR (by omega)).1] at hc20
      refine G_ps (pc' := 43) (st' := [vi 1]) rfl rfl ?_
      refine G_abs (R := fun M9 => RD e M0 M9 S (k + 1) o a) (RD_nk (RD_sk hR) (by omega)) (fun M21 hR22 => ?_)
      refine G_if_eq (tgt := 82) d_Re_readOperand_43 (by decide) (fun h23 => absurd h23 (by decide)) (fun h23 => G_pc (pc' := 46) rfl ?_)
      refine G_aload (i := 0) (n := 2) (len := 1) (Or.inl ⟨0, rfl, rfl, d_Re_readOperand_46⟩) rfl (by decide) (G_pc (pc' := 47) rfl ?_)
      refine G_bipush (n := 93) d_Re_readOperand_47 (by decide) (G_pc (pc' := 49) rfl ?_)
      refine G_iload (i := 1) (n := 3) (len := 1) (Or.inl ⟨1, rfl, rfl, d_Re_readOperand_49⟩) rfl (G_pc (pc' := 50) rfl ?_)
      refine G_callV (K1 := KE) (d2 := (d0 + 1)) (o := 13) (cl := 4) (as := [vi 93, vi dep]) (rest := []) d_Re_readOperand_50 mf_Re_readEnclosed ml_Re_123 rfl rfl (by decide) rfl rfl (Nat.le_of_ble_eq_true rfl) (by omega) ⟨Nat.le_refl _, Nat.le_refl _⟩ (g_Re_readEnclosed (by omega) e T W n M0 b N S (k + 1) o a dep R0 93 23 d0 M21 he hTR hst hR22 (by omega) (by omega) (by omega) (by omega) (by omega) (by omega) hC0 hJ0 (by omega) (fun h9 => tc_93 h9)) (fun r24 M25 kq26 q26 => ?_)
      clear kq26
      rcases q26 with ⟨hE_27, rfl, hf_27, ho_27⟩ | ⟨k_27, N_27, S_27, o_27, a_27, c_27, hE_27, rfl, hR_27⟩
      · skip
        refine G_ps (pc' := 53) (st' := [vi (-1)]) rfl rfl ?_
        refine G_istore (i := 4) (len := 2) (ls' := [(4, vi (-1)), (3, vi cnt), (2, vi (ts S)), (0, vr 13), (1, vi dep)]) (Or.inr ⟨rfl, d_Re_readOperand_53⟩) (by decide) rfl (G_pc (pc' := 55) rfl ?_)
        refine G_iload (i := 4) (n := 0) (len := 2) (Or.inr ⟨rfl, d_Re_readOperand_55⟩) rfl (G_pc (pc' := 57) rfl ?_)
        refine G_iconst (n := (-1)) d_Re_readOperand_57 (by decide) (G_pc (pc' := 58) rfl ?_)
        refine G_icmp_ne (tgt := 65) d_Re_readOperand_58 (by decide) (fun h28 => absurd h28 (by decide)) (fun h28 => G_pc (pc' := 61) rfl ?_)
        refine G_iconst (n := (-1)) d_Re_readOperand_61 (by decide) (G_pc (pc' := 62) rfl ?_)
        refine G_goto (tgt := 78) d_Re_readOperand_62 (by decide) ?_
        refine G_istore (i := 2) (len := 1) (ls' := [(2, vi (-1)), (4, vi (-1)), (3, vi cnt), (0, vr 13), (1, vi dep)]) (Or.inl ⟨2, rfl, rfl, d_Re_readOperand_78⟩) (by decide) rfl (G_pc (pc' := 79) rfl ?_)
        refine G_goto (tgt := 84) d_Re_readOperand_79 (by decide) ?_
        refine G_iinc (i := 3) (n := 2) (z := 1) (ls' := [(3, vi (cnt + 1)), (2, vi (-1)), (4, vi (-1)), (0, vr 13), (1, vi dep)]) d_Re_readOperand_84 rfl (by decide) (by omega) rfl (G_pc (pc' := 87) rfl ?_)
        refine G_goto (tgt := 8) d_Re_readOperand_87 (by decide) ?_
        refine G_iload (i := 3) (n := 0) (len := 1) (Or.inl ⟨3, rfl, rfl, d_Re_readOperand_8⟩) rfl (G_pc (pc' := 9) rfl ?_)
        refine G_bipush (n := 24) d_Re_readOperand_9 (by decide) (G_pc (pc' := 11) rfl ?_)
        refine G_icmp_ge (tgt := 90) d_Re_readOperand_11 (by decide) (fun h29 => ?_) (fun h29 => G_pc (pc' := 14) rfl ?_)
        · skip
          refine G_iload (i := 2) (n := 1) (len := 1) (Or.inl ⟨2, rfl, rfl, d_Re_readOperand_90⟩) rfl (G_pc (pc' := 91) rfl ?_)
          refine G_iret d_Re_readOperand_91 rfl (tokI (by decide)) rfl rfl ?_
          exact Or.inl ⟨(parts_22 (by omega)).trans (bind_n hE_27), rfl, hf_27, ho_27⟩
        · skip
          refine G_iload (i := 2) (n := 1) (len := 1) (Or.inl ⟨2, rfl, rfl, d_Re_readOperand_14⟩) rfl (G_pc (pc' := 15) rfl ?_)
          refine G_iconst (n := (-1)) d_Re_readOperand_15 (by decide) (G_pc (pc' := 16) rfl ?_)
          refine G_icmp_eq (tgt := 90) d_Re_readOperand_16 (by decide) (fun h30 => ?_) (fun h30 => absurd h30 (by decide))
          refine G_iload (i := 2) (n := 1) (len := 1) (Or.inl ⟨2, rfl, rfl, d_Re_readOperand_90⟩) rfl (G_pc (pc' := 91) rfl ?_)
          refine G_iret d_Re_readOperand_91 rfl (tokI (by decide)) rfl rfl ?_
          exact Or.inl ⟨(parts_22 (by omega)).trans (bind_n hE_27), rfl, hf_27, ho_27⟩
      · skip
        obtain ⟨⟨jk_27, ⟨ja_27, jb_27, jc_27, jd_27, je_27, jf_27⟩, jl_27, jz_27⟩, jg_27⟩ := j_encl (TR_tkn hTR) hJ0 (by omega) (by omega) (by omega) (by decide) hE_27
        simp only at jk_27 jl_27 jz_27 jg_27
        have jc1_27 := jc_27.1; have jc2_27 := jc_27.2.1
        rw [jd_27] at hE_27 hR_27; rw [jz_27] at hE_27
        have jt_27 : ts S_27 = (S_27.length : Int) - 1 := rfl
        refine G_ps (pc' := 53) (st' := [vi (ts S_27)]) rfl rfl ?_
        refine G_istore (i := 4) (len := 2) (ls' := [(4, vi (ts S_27)), (3, vi cnt), (2, vi (ts S)), (0, vr 13), (1, vi dep)]) (Or.inr ⟨rfl, d_Re_readOperand_53⟩) (by decide) rfl (G_pc (pc' := 55) rfl ?_)
        refine G_iload (i := 4) (n := 0) (len := 2) (Or.inr ⟨rfl, d_Re_readOperand_55⟩) rfl (G_pc (pc' := 57) rfl ?_)
        refine G_iconst (n := (-1)) d_Re_readOperand_57 (by decide) (G_pc (pc' := 58) rfl ?_)
        refine G_icmp_ne (tgt := 65) d_Re_readOperand_58 (by decide) (fun h31 => ?_) (fun h31 => absurd h31 (by omega))
        refine G_aload (i := 0) (n := 3) (len := 1) (Or.inl ⟨0, rfl, rfl, d_Re_readOperand_65⟩) rfl (by decide) (G_pc (pc' := 66) rfl ?_)
        refine G_get (o := 13) (c := 4) (k := 1) (v := M25 13 1) d_Re_readOperand_66 fl_Re_18 rfl (by decide) (by decide) rfl rfl (G_pc (pc' := 69) rfl ?_)
        rw [show M25 13 1 = ((20 + 9 * e : Nat) : Int) from RD_st hR_27 he hst]
        refine G_sipush (n := 145) d_Re_readOperand_69 (by decide) (G_pc (pc' := 72) rfl ?_)
        refine G_iload (i := 2) (n := 2) (len := 1) (Or.inl ⟨2, rfl, rfl, d_Re_readOperand_72⟩) rfl (G_pc (pc' := 73) rfl ?_)
        refine G_iload (i := 4) (n := 0) (len := 2) (Or.inr ⟨rfl, d_Re_readOperand_73⟩) rfl (G_pc (pc' := 75) rfl ?_)
        refine G_callV (K1 := KE) (d2 := 1) (o := (20 + 9 * e)) (cl := 5) (as := [vi 145, vi (ts S), vi (ts S_27)]) (rest := []) d_Re_readOperand_75 mf_St_add ml_Re_56 (kd_St he) rfl (by show 20 + 9 * e < 87; omega) rfl rfl (Nat.le_of_ble_eq_true rfl) (by omega) ⟨Nat.le_refl _, Nat.le_refl _⟩ (g_St_add (by omega) e 145 (ts S) (ts S_27) M25 he (by have h9 := RD_n hR_27; omega)) (fun r32 M33 kq34 q34 => ?_)
        clear kq34; obtain ⟨q34a, q34b⟩ := q34; subst r32; subst M33
        rw [RD_n hR_27]
        refine G_ps (pc' := 78) (st' := [vi ((S_27).length : Int)]) rfl rfl ?_
        refine G_abs (R := fun M9 => RD e M0 M9 (S_27 ++ [(145, ts S, ts S_27, 0, 0, 0)]) k_27 o a_27) (RD_add hR_27 (by first | decide | omega) he) (fun M35 hR36 => ?_)
        have hl37 : ((S_27 ++ [(145, ts S, ts S_27, 0, 0, 0)]).length : Int) = (S_27).length + 1 := len_add _ _
        refine G_istore (i := 2) (len := 1) (ls' := [(2, vi ((S_27).length : Int)), (4, vi (ts S_27)), (3, vi cnt), (0, vr 13), (1, vi dep)]) (Or.inl ⟨2, rfl, rfl, d_Re_readOperand_78⟩) (by decide) rfl (G_pc (pc' := 79) rfl ?_)
        refine G_goto (tgt := 84) d_Re_readOperand_79 (by decide) ?_
        refine G_iinc (i := 3) (n := 2) (z := 1) (ls' := [(3, vi (cnt + 1)), (2, vi ((S_27).length : Int)), (4, vi (ts S_27)), (0, vr 13), (1, vi dep)]) d_Re_readOperand_84 rfl (by decide) (by omega) rfl (G_pc (pc' := 87) rfl ?_)
        refine G_goto (tgt := 8) d_Re_readOperand_87 (by decide) ?_
        refine G_ls (ls' := [(3, vi (cnt + 1)), (2, vi ((S_27).length : Int)), (0, vr 13), (1, vi dep)]) (by intro z hz; simp only [List.mem_cons] at hz ⊢; grind) ?_
        rw [parts_22 (by omega), bind_s hE_27]
        refine G_lse (ls' := [(3, vi (cnt + 1)), (2, vi (ts (S_27 ++ [(145, ts S, ts S_27, 0, 0, 0)]))), (0, vr 13), (1, vi dep)]) (by rw [ts_add]) ?_
        exact hL _ _ _ _ _ _ (by omega) hR36 (by omega) (by omega) (by omega) (by omega) (by omega) (by omega)
    · skip
      obtain ⟨q19a, q19b⟩ := q19.2 hc20
      subst r17; subst M18
      rw [tc_91 (TR_T hTR (by omega)).1] at hc20
      refine G_ps (pc' := 43) (st' := [vi 0]) rfl rfl ?_
      refine G_if_eq (tgt := 82) d_Re_readOperand_43 (by decide) (fun h38 => ?_) (fun h38 => absurd h38 (by decide))
      refine G_iload (i := 2) (n := 1) (len := 1) (Or.inl ⟨2, rfl, rfl, d_Re_readOperand_82⟩) rfl (G_pc (pc' := 83) rfl ?_)
      refine G_iret d_Re_readOperand_83 rfl (tokI (by omega)) rfl rfl ?_
      exact Or.inr ⟨_, _, _, _, _, _, parts_x (by omega) (by omega), rfl, hR⟩

theorem first_c0 {T W : Int → Int} {R : DS → Option DS} {σ : DS} {k o a c : Int} {N : List ND} {S : List SD} (h : firstD T W R σ = some (k, N, S, o, a, c)) : c = 0 := by
  obtain ⟨k0, N0, S0, o0, a0, c0⟩ := σ
  simp only [firstD] at h
  split at h
  · unfold enclD at h; simp only [] at h
    split at h
    · cases h
    split at h
    · cases h
    · split at h
      · cases h; rfl
      · cases h
  split at h
  · split at h
    · cases h
    · cases h; rfl
  split at h
  · cases h; rfl
  split at h
  · cases h; rfl
  · cases h
theorem d_Re_readOperand_0 : decode b_Re_readOperand 0 = .ok (.aload_n 0, 1) := by decide +kernel
theorem d_Re_readOperand_1 : decode b_Re_readOperand 1 = .ok (.iload_n 1, 1) := by decide +kernel
theorem d_Re_readOperand_2 : decode b_Re_readOperand 2 = .ok (.invokevirtual 117, 3) := by decide +kernel
theorem d_Re_readOperand_5 : decode b_Re_readOperand 5 = .ok (.istore_n 2, 1) := by decide +kernel
theorem d_Re_readOperand_6 : decode b_Re_readOperand 6 = .ok (.iconst 0, 1) := by decide +kernel
theorem d_Re_readOperand_7 : decode b_Re_readOperand 7 = .ok (.istore_n 3, 1) := by decide +kernel
set_option maxHeartbeats 400000 in
theorem g_Re_readOperand {X : WX} {d : Nat} (hd : 0 ≤ d) (e : Nat) (T W : Int → Int) (n : Int) (M0 : Mem) (b : Int) (N : List ND) (S : List SD) (k o a dep : Int) (R0 L : DS → Option DS) (d0 : Nat) (M : Mem) (he : e < 4) (hTR : TR M0 T W n) (hst : M0 13 1 = ((20 + 9 * e : Nat) : Int)) (hR : RD e M0 M S k o a) (hk : 0 ≤ k ∧ k ≤ n) (ho : 0 ≤ o ∧ o ≤ 6) (ha : 0 ≤ a ∧ a ≤ 4) (hS : (S.length : Int) ≤ 2 * k) (hdep : 0 ≤ dep ∧ dep ≤ k) (h10 : 10 ≤ d0) (hd0 : d0 + 3 ≤ d) (hC0 : CH X d0 e n M0 b R0) (hJ0 : J1 n R0) (hL : LO X d e n M0 b L dep o) (hb : 5 * (n - k) + 1 ≤ b) : MG X gt d KE KE y_Re_readOperand b_Re_readOperand 5 (some .int) [vr 13, vi dep] M (RQ e M0 o ((firstD T W R0 (k, N, S, o, a, 0)).bind L)) := by
  refine MG_of_G (by decide) (Nat.le_of_ble_eq_true rfl) (Nat.le_refl _) (by decide) ?_
  show G X gt d KE KE y_Re_readOperand b_Re_readOperand 5 (some .int) _ 0 [(0, vr 13), (1, vi dep)] [] KE M
  have hn2 := hTR.2.1
  refine G_aload (i := 0) (n := 0) (len := 1) (Or.inl ⟨0, rfl, rfl, d_Re_readOperand_0⟩) rfl (by decide) (G_pc (pc' := 1) rfl ?_)
  refine G_iload (i := 1) (n := 1) (len := 1) (Or.inl ⟨1, rfl, rfl, d_Re_readOperand_1⟩) rfl (G_pc (pc' := 2) rfl ?_)
  refine G_callV (K1 := KE) (d2 := (d0 + 2)) (o := 13) (cl := 4) (as := [vi dep]) (rest := []) d_Re_readOperand_2 mf_Re_readFirst ml_Re_117 rfl rfl (by decide) rfl rfl (Nat.le_of_ble_eq_true rfl) (by omega) ⟨Nat.le_refl _, Nat.le_refl _⟩ (g_Re_readFirst (by omega) e T W n M0 b N S k o a dep d0 R0 M he hTR hst hR (by omega) (by omega) (by omega) (by omega) (by omega) h10 (Nat.le_refl _) hC0 hJ0 (by omega)) (fun r1 M2 kq3 q3 => ?_)
  clear kq3
  rcases q3 with ⟨hE_4, rfl, hf_4, ho_4⟩ | ⟨k_4, N_4, S_4, o_4, a_4, c_4, hE_4, rfl, hR_4⟩
  · skip
    refine G_ps (pc' := 5) (st' := [vi (-1)]) rfl rfl ?_
    refine G_istore (i := 2) (len := 1) (ls' := [(2, vi (-1)), (0, vr 13), (1, vi dep)]) (Or.inl ⟨2, rfl, rfl, d_Re_readOperand_5⟩) (by decide) rfl (G_pc (pc' := 6) rfl ?_)
    refine G_iconst (n := 0) d_Re_readOperand_6 (by decide) (G_pc (pc' := 7) rfl ?_)
    refine G_istore (i := 3) (len := 1) (ls' := [(3, vi 0), (2, vi (-1)), (0, vr 13), (1, vi dep)]) (Or.inl ⟨3, rfl, rfl, d_Re_readOperand_7⟩) (by decide) rfl (G_pc (pc' := 8) rfl ?_)
    refine G_iload (i := 3) (n := 0) (len := 1) (Or.inl ⟨3, rfl, rfl, d_Re_readOperand_8⟩) rfl (G_pc (pc' := 9) rfl ?_)
    refine G_bipush (n := 24) d_Re_readOperand_9 (by decide) (G_pc (pc' := 11) rfl ?_)
    refine G_icmp_ge (tgt := 90) d_Re_readOperand_11 (by decide) (fun h5 => absurd h5 (by decide)) (fun h5 => G_pc (pc' := 14) rfl ?_)
    refine G_iload (i := 2) (n := 1) (len := 1) (Or.inl ⟨2, rfl, rfl, d_Re_readOperand_14⟩) rfl (G_pc (pc' := 15) rfl ?_)
    refine G_iconst (n := (-1)) d_Re_readOperand_15 (by decide) (G_pc (pc' := 16) rfl ?_)
    refine G_icmp_eq (tgt := 90) d_Re_readOperand_16 (by decide) (fun h6 => ?_) (fun h6 => absurd h6 (by decide))
    refine G_iload (i := 2) (n := 1) (len := 1) (Or.inl ⟨2, rfl, rfl, d_Re_readOperand_90⟩) rfl (G_pc (pc' := 91) rfl ?_)
    refine G_iret d_Re_readOperand_91 rfl (tokI (by decide)) rfl rfl ?_
    exact Or.inl ⟨bind_n hE_4, rfl, hf_4, ho_4⟩
  · skip
    obtain ⟨⟨ja_4, jb_4, jc_4, jd_4, je_4, jf_4⟩, jg_4⟩ := (j_first (T := T) (W := W) (TR_tkn hTR) hJ0) k N S o a _ (by omega) (by omega) (by omega) hE_4
    have jc1_4 := jc_4.1; have jc2_4 := jc_4.2.1
    have jt_4 : ts S_4 = (S_4.length : Int) - 1 := rfl
    (try simp only [List.length_append, List.length_cons, List.length_nil, patch_len] at jc1_4 jc2_4)
    rw [jd_4] at hE_4 hR_4
    rw [first_c0 hE_4] at hE_4
    refine G_ps (pc' := 5) (st' := [vi (ts S_4)]) rfl rfl ?_
    refine G_istore (i := 2) (len := 1) (ls' := [(2, vi (ts S_4)), (0, vr 13), (1, vi dep)]) (Or.inl ⟨2, rfl, rfl, d_Re_readOperand_5⟩) (by decide) rfl (G_pc (pc' := 6) rfl ?_)
    refine G_iconst (n := 0) d_Re_readOperand_6 (by decide) (G_pc (pc' := 7) rfl ?_)
    refine G_istore (i := 3) (len := 1) (ls' := [(3, vi 0), (2, vi (ts S_4)), (0, vr 13), (1, vi dep)]) (Or.inl ⟨3, rfl, rfl, d_Re_readOperand_7⟩) (by decide) rfl (G_pc (pc' := 8) rfl ?_)
    rw [bind_s hE_4]
    exact hL _ _ _ _ _ _ (by omega) hR_4 (by omega) (by omega) (by omega) (by omega) (by omega) (by omega)

section LB
variable (X : WX) (d e : Nat) (T : Int → Int) (n : Int) (M0 : Mem) (b lev : Int) (R : DS → Option DS) (dep o : Int)
/-- at the head of the loop over the signs of a level -/
def LB : Prop := ∀ (N : List ND) (S : List SD) (k a c m cnt : Int) (M : Mem), 5 * (n - k) + 1 ≤ b → RD e M0 M S k o a → (0 ≤ k ∧ k ≤ n) → (0 ≤ a ∧ a ≤ 4) → (S.length : Int) + 1 ≤ 2 * k → 1 ≤ S.length → (0 ≤ cnt ∧ cnt < k) → dep + 1 ≤ k → (c = 0 ∨ c = 1) → (0 ≤ m ∧ m ≤ 10) → (bq (T k) ≤ m ∨ (c = 1 ∧ 7 < bq (T k))) → (c = 1 → m ≤ 7) → G X gt d KE KE y_Re_readBinary b_Re_readBinary 7 (some .int) (RQ e M0 o (R (k, N, S, o, a, c))) 13 [(5, vi cnt), (4, vi m), (3, vi (ts S)), (0, vr 13), (1, vi lev), (2, vi dep)] [] KE M
end LB
theorem d_Re_readBinary_13 : decode b_Re_readBinary 13 = .ok (.iload 5, 2) := by decide +kernel
theorem d_Re_readBinary_15 : decode b_Re_readBinary 15 = .ok (.bipush 24, 2) := by decide +kernel
theorem d_Re_readBinary_17 : decode b_Re_readBinary 17 = .ok (.if_icmp .ge 90, 3) := by decide +kernel
theorem d_Re_readBinary_20 : decode b_Re_readBinary 20 = .ok (.iload_n 3, 1) := by decide +kernel
theorem d_Re_readBinary_21 : decode b_Re_readBinary 21 = .ok (.iconst (-1), 1) := by decide +kernel
theorem d_Re_readBinary_22 : decode b_Re_readBinary 22 = .ok (.if_icmp .eq 85, 3) := by decide +kernel
theorem d_Re_readBinary_25 : decode b_Re_readBinary 25 = .ok (.aload_n 0, 1) := by decide +kernel
theorem d_Re_readBinary_26 : decode b_Re_readBinary 26 = .ok (.getfield 12, 3) := by decide +kernel
theorem d_Re_readBinary_29 : decode b_Re_readBinary 29 = .ok (.aload_n 0, 1) := by decide +kernel
theorem d_Re_readBinary_30 : decode b_Re_readBinary 30 = .ok (.getfield 27, 3) := by decide +kernel
theorem d_Re_readBinary_33 : decode b_Re_readBinary 33 = .ok (.invokevirtual 45, 3) := by decide +kernel
theorem d_Re_readBinary_36 : decode b_Re_readBinary 36 = .ok (.istore 6, 2) := by decide +kernel
theorem d_Re_readBinary_38 : decode b_Re_readBinary 38 = .ok (.iload 6, 2) := by decide +kernel
theorem d_Re_readBinary_40 : decode b_Re_readBinary 40 = .ok (.invokestatic 75, 3) := by decide +kernel
theorem d_Re_readBinary_43 : decode b_Re_readBinary 43 = .ok (.iload_n 1, 1) := by decide +kernel
theorem d_Re_readBinary_44 : decode b_Re_readBinary 44 = .ok (.if_icmp .lt 13, 3) := by decide +kernel
theorem d_Re_readBinary_47 : decode b_Re_readBinary 47 = .ok (.iload 6, 2) := by decide +kernel
theorem d_Re_readBinary_49 : decode b_Re_readBinary 49 = .ok (.invokestatic 75, 3) := by decide +kernel
theorem d_Re_readBinary_52 : decode b_Re_readBinary 52 = .ok (.iload 4, 2) := by decide +kernel
theorem d_Re_readBinary_54 : decode b_Re_readBinary 54 = .ok (.if_icmp .le 5, 3) := by decide +kernel
theorem d_Re_readBinary_57 : decode b_Re_readBinary 57 = .ok (.iload_n 3, 1) := by decide +kernel
theorem d_Re_readBinary_58 : decode b_Re_readBinary 58 = .ok (.ireturn, 1) := by decide +kernel
theorem d_Re_readBinary_59 : decode b_Re_readBinary 59 = .ok (.aload_n 0, 1) := by decide +kernel
theorem d_Re_readBinary_60 : decode b_Re_readBinary 60 = .ok (.dup, 1) := by decide +kernel
theorem d_Re_readBinary_61 : decode b_Re_readBinary 61 = .ok (.getfield 27, 3) := by decide +kernel
theorem d_Re_readBinary_64 : decode b_Re_readBinary 64 = .ok (.iconst 1, 1) := by decide +kernel
theorem d_Re_readBinary_65 : decode b_Re_readBinary 65 = .ok (.iadd, 1) := by decide +kernel
theorem d_Re_readBinary_66 : decode b_Re_readBinary 66 = .ok (.putfield 27, 3) := by decide +kernel
theorem d_Re_readBinary_69 : decode b_Re_readBinary 69 = .ok (.iload 6, 2) := by decide +kernel
theorem d_Re_readBinary_71 : decode b_Re_readBinary 71 = .ok (.invokestatic 75, 3) := by decide +kernel
theorem d_Re_readBinary_74 : decode b_Re_readBinary 74 = .ok (.istore 4, 2) := by decide +kernel
theorem d_Re_readBinary_76 : decode b_Re_readBinary 76 = .ok (.iload 6, 2) := by decide +kernel
theorem d_Re_readBinary_78 : decode b_Re_readBinary 78 = .ok (.sipush 141, 3) := by decide +kernel
theorem d_Re_readBinary_81 : decode b_Re_readBinary 81 = .ok (.if_icmp .ne 11, 3) := by decide +kernel
theorem d_Re_readBinary_84 : decode b_Re_readBinary 84 = .ok (.aload_n 0, 1) := by decide +kernel
theorem d_Re_readBinary_85 : decode b_Re_readBinary 85 = .ok (.iload_n 3, 1) := by decide +kernel
theorem d_Re_readBinary_86 : decode b_Re_readBinary 86 = .ok (.invokevirtual 78, 3) := by decide +kernel
theorem d_Re_readBinary_89 : decode b_Re_readBinary 89 = .ok (.goto 11, 3) := by decide +kernel
theorem d_Re_readBinary_92 : decode b_Re_readBinary 92 = .ok (.aload_n 0, 1) := by decide +kernel
theorem d_Re_readBinary_93 : decode b_Re_readBinary 93 = .ok (.iload 6, 2) := by decide +kernel
theorem d_Re_readBinary_95 : decode b_Re_readBinary 95 = .ok (.iload_n 3, 1) := by decide +kernel
theorem d_Re_readBinary_96 : decode b_Re_readBinary 96 = .ok (.iload_n 2, 1) := by decide +kernel
theorem d_Re_readBinary_97 : decode b_Re_readBinary 97 = .ok (.invokevirtual 81, 3) := by decide +kernel
theorem d_Re_readBinary_100 : decode b_Re_readBinary 100 = .ok (.istore_n 3, 1) := by decide +kernel
theorem d_Re_readBinary_101 : decode b_Re_readBinary 101 = .ok (.iinc 5 1, 3) := by decide +kernel
theorem d_Re_readBinary_104 : decode b_Re_readBinary 104 = .ok (.goto (-91), 3) := by decide +kernel
theorem d_Re_readBinary_107 : decode b_Re_readBinary 107 = .ok (.iload_n 3, 1) := by decide +kernel
theorem d_Re_readBinary_108 : decode b_Re_readBinary 108 = .ok (.ireturn, 1) := by decide +kernel
set_option maxHeartbeats 400000 in
theorem l_binary {X : WX} {d : Nat} (hd : 3 ≤ d) (e : Nat) (T W : Int → Int) (n : Int) (M0 : Mem) (b : Int) (N : List ND) (S : List SD) (k o a dep : Int) (c m cnt lev : Int) (BB : Int → DS → Option DS) (L : DS → Option DS) (d0 : Nat) (M : Mem) (he : e < 4) (hTR : TR M0 T W n) (hst : M0 13 1 = ((20 + 9 * e : Nat) : Int)) (hR : RD e M0 M S k o a) (hk : 0 ≤ k ∧ k ≤ n) (ho : 0 ≤ o ∧ o ≤ 6) (ha : 0 ≤ a ∧ a ≤ 4) (hS : (S.length : Int) + 1 ≤ 2 * k) (hS1 : 1 ≤ S.length) (hcnt : 0 ≤ cnt ∧ cnt < k) (hdep : 0 ≤ dep ∧ dep + 1 ≤ k) (hc : c = 0 ∨ c = 1) (hm0 : 0 ≤ m ∧ m ≤ 10) (hm1 : bq (T k) ≤ m ∨ (c = 1 ∧ 7 < bq (T k))) (hm2 : c = 1 → m ≤ 7) (hlev : 1 ≤ lev ∧ lev ≤ 11) (h10 : 10 ≤ d0) (hd0 : d0 + 2 ≤ d) (hC : ∀ l, 1 ≤ l → l ≤ 11 → CB X d0 e n M0 b (BB l) l) (hJ : ∀ l, 1 ≤ l → l ≤ 11 → J1 n (BB l)) (hE2 : ∀ l, 1 ≤ l → l ≤ 11 → E1 T l (BB l)) (hL : LB X d e T n M0 b lev L dep o) (hb : 5 * (n - k) ≤ b) : G X gt d KE KE y_Re_readBinary b_Re_readBinary 7 (some .int) (RQ e M0 o (loopD T W lev BB L (k, N, S, o, a, c))) 13 [(5, vi cnt), (4, vi m), (3, vi (ts S)), (0, vr 13), (1, vi lev), (2, vi dep)] [] KE M := by
  have hn2 := hTR.2.1
  have hts : ts S = (S.length : Int) - 1 := rfl
  have hok0 := TR_T hTR (k := k) (by omega)
  refine G_iload (i := 5) (n := 0) (len := 2) (Or.inr ⟨rfl, d_Re_readBinary_13⟩) rfl (G_pc (pc' := 15) rfl ?_)
  refine G_bipush (n := 24) d_Re_readBinary_15 (by decide) (G_pc (pc' := 17) rfl ?_)
  refine G_icmp_ge (tgt := 107) d_Re_readBinary_17 (by decide) (fun h1 => absurd h1 (by omega)) (fun h1 => G_pc (pc' := 20) rfl ?_)
  refine G_iload (i := 3) (n := 2) (len := 1) (Or.inl ⟨3, rfl, rfl, d_Re_readBinary_20⟩) rfl (G_pc (pc' := 21) rfl ?_)
  refine G_iconst (n := (-1)) d_Re_readBinary_21 (by decide) (G_pc (pc' := 22) rfl ?_)
  refine G_icmp_eq (tgt := 107) d_Re_readBinary_22 (by decide) (fun h2 => absurd h2 (by omega)) (fun h2 => G_pc (pc' := 25) rfl ?_)
  refine G_aload (i := 0) (n := 3) (len := 1) (Or.inl ⟨0, rfl, rfl, d_Re_readBinary_25⟩) rfl (by decide) (G_pc (pc' := 26) rfl ?_)
  refine G_get (o := 13) (c := 4) (k := 0) (v := 14) d_Re_readBinary_26 fl_Re_12 rfl (by decide) (by decide) rfl rfl (G_pc (pc' := 29) rfl ?_)
  refine G_aload (i := 0) (n := 3) (len := 1) (Or.inl ⟨0, rfl, rfl, d_Re_readBinary_29⟩) rfl (by decide) (G_pc (pc' := 30) rfl ?_)
  refine G_get (o := 13) (c := 4) (k := 2) (v := M 13 2) d_Re_readBinary_30 fl_Re_27 rfl (by decide) (by decide) rfl rfl (G_pc (pc' := 33) rfl ?_)
  rw [show M 13 2 = k from RD_k hR]
  refine G_callV (K1 := KE) (d2 := 0) (o := 14) (cl := 7) (as := [vi k]) (rest := []) d_Re_readBinary_33 mf_To_codeAt ml_Re_45 rfl rfl (by decide) rfl rfl (Nat.le_of_ble_eq_true rfl) (by omega) ⟨Nat.le_refl _, Nat.le_refl _⟩ (g_To_codeAt (by omega) T W n k M (RD_TR hR he hTR) (by omega)) (fun r3 M4 kq5 q5 => ?_)
  clear kq5; obtain ⟨q5a, q5b⟩ := q5; subst r3; subst M4
  refine G_ps (pc' := 36) (st' := [vi (tcode (T k))]) rfl rfl ?_
  have ok6 := TR_T hTR (k := k) (by omega)
  have rgok6 := tcode_rng ok6.1
  refine G_istore (i := 6) (len := 2) (ls' := [(6, vi (tcode (T k))), (5, vi cnt), (4, vi m), (3, vi (ts S)), (0, vr 13), (1, vi lev), (2, vi dep)]) (Or.inr ⟨rfl, d_Re_readBinary_36⟩) (by decide) rfl (G_pc (pc' := 38) rfl ?_)
  have tz1 := tc_141 hok0.1; have tz2 := bq_rng (T k); have tz3 := bd_rng (T k)
  have tz5 : ¬ T k = 13 → bq (T k) = bdV (T k) := fun h9 => bq_13 h9
  have tz6 : T k = 13 → bq (T k) = 7 := fun h9 => by rw [h9]; decide
  have tz7 : T k = 0 → bq (T k) = 0 := fun h9 => by rw [h9]; decide
  have tz8 := hok0.2
  refine G_iload (i := 6) (n := 0) (len := 2) (Or.inr ⟨rfl, d_Re_readBinary_38⟩) rfl (G_pc (pc' := 40) rfl ?_)
  refine G_callS (K1 := KE) (d2 := 0) (as := [vi (tcode (T k))]) (rest := []) d_Re_readBinary_40 mf_Re_levelOf ml_Re_75 rfl rfl (Nat.le_of_ble_eq_true rfl) (by omega) ⟨Nat.le_refl _, Nat.le_refl _⟩ (g_Re_levelOf (by omega) (tcode (T k)) M) (fun r7 M8 kq9 q9 => ?_)
  clear kq9; obtain ⟨q9a, q9b⟩ := q9; subst r7; subst M8
  rw [lv_t (TR_T hTR (by omega)).1]
  refine G_ps (pc' := 43) (st' := [vi (bq (T k))]) rfl rfl ?_
  have hb10 := bq_rng (T k)
  refine G_iload (i := 1) (n := 5) (len := 1) (Or.inl ⟨1, rfl, rfl, d_Re_readBinary_43⟩) rfl (G_pc (pc' := 44) rfl ?_)
  refine G_icmp_lt (tgt := 57) d_Re_readBinary_44 (by decide) (fun h11 => ?_) (fun h11 => G_pc (pc' := 47) rfl ?_)
  · skip
    refine G_iload (i := 3) (n := 3) (len := 1) (Or.inl ⟨3, rfl, rfl, d_Re_readBinary_57⟩) rfl (G_pc (pc' := 58) rfl ?_)
    refine G_iret d_Re_readBinary_58 rfl (tokI (by omega)) rfl rfl ?_
    exact Or.inr ⟨_, _, _, _, _, _, loop_x (by omega), rfl, hR⟩
  · skip
    refine G_iload (i := 6) (n := 0) (len := 2) (Or.inr ⟨rfl, d_Re_readBinary_47⟩) rfl (G_pc (pc' := 49) rfl ?_)
    refine G_callS (K1 := KE) (d2 := 0) (as := [vi (tcode (T k))]) (rest := []) d_Re_readBinary_49 mf_Re_levelOf ml_Re_75 rfl rfl (Nat.le_of_ble_eq_true rfl) (by omega) ⟨Nat.le_refl _, Nat.le_refl _⟩ (g_Re_levelOf (by omega) (tcode (T k)) M) (fun r12 M13 kq14 q14 => ?_)
    clear kq14; obtain ⟨q14a, q14b⟩ := q14; subst r12; subst M13
    rw [lv_t (TR_T hTR (by omega)).1]
    refine G_ps (pc' := 52) (st' := [vi (bq (T k))]) rfl rfl ?_
    have hb15 := bq_rng (T k)
    refine G_iload (i := 4) (n := 2) (len := 2) (Or.inr ⟨rfl, d_Re_readBinary_52⟩) rfl (G_pc (pc' := 54) rfl ?_)
    refine G_icmp_le (tgt := 59) d_Re_readBinary_54 (by decide) (fun h16 => ?_) (fun h16 => G_pc (pc' := 57) rfl ?_)
    · skip
      refine G_aload (i := 0) (n := 4) (len := 1) (Or.inl ⟨0, rfl, rfl, d_Re_readBinary_59⟩) rfl (by decide) (G_pc (pc' := 60) rfl ?_)
      refine G_dup d_Re_readBinary_60 (fun _ h => by cases h) (G_pc (pc' := 61) rfl ?_)
      refine G_get (o := 13) (c := 4) (k := 2) (v := M 13 2) d_Re_readBinary_61 fl_Re_27 rfl (by decide) (by decide) rfl rfl (G_pc (pc' := 64) rfl ?_)
      rw [show M 13 2 = k from RD_k hR]
      refine G_iconst (n := 1) d_Re_readBinary_64 (by decide) (G_pc (pc' := 65) rfl ?_)
      refine G_iadd d_Re_readBinary_65 (by omega) (G_pc (pc' := 66) rfl ?_)
      refine G_putL (o := 13) (c := 4) (k := 2) (ki := 2) (x := k + 1) d_Re_readBinary_66 fl_Re_27 rfl rfl (by decide) (by decide) (by decide) rfl rfl (tokI (by omega)) rfl (G_pc (pc' := 69) rfl ?_)
      refine G_abs (R := fun M9 => RD e M0 M9 S (k + 1) o a) (RD_nk (RD_sk hR) (by omega)) (fun M17 hR18 => ?_)
      refine G_iload (i := 6) (n := 0) (len := 2) (Or.inr ⟨rfl, d_Re_readBinary_69⟩) rfl (G_pc (pc' := 71) rfl ?_)
      refine G_callS (K1 := KE) (d2 := 0) (as := [vi (tcode (T k))]) (rest := []) d_Re_readBinary_71 mf_Re_levelOf ml_Re_75 rfl rfl (Nat.le_of_ble_eq_true rfl) (by omega) ⟨Nat.le_refl _, Nat.le_refl _⟩ (g_Re_levelOf (by omega) (tcode (T k)) M17) (fun r19 M20 kq21 q21 => ?_)
      clear kq21; obtain ⟨q21a, q21b⟩ := q21; subst r19; subst M20
      rw [lv_t (TR_T hTR (by omega)).1]
      refine G_ps (pc' := 74) (st' := [vi (bq (T k))]) rfl rfl ?_
      have hb22 := bq_rng (T k)
      refine G_istore (i := 4) (len := 2) (ls' := [(4, vi (bq (T k))), (6, vi (tcode (T k))), (5, vi cnt), (3, vi (ts S)), (0, vr 13), (1, vi lev), (2, vi dep)]) (Or.inr ⟨rfl, d_Re_readBinary_74⟩) (by decide) rfl (G_pc (pc' := 76) rfl ?_)
      refine G_iload (i := 6) (n := 1) (len := 2) (Or.inr ⟨rfl, d_Re_readBinary_76⟩) rfl (G_pc (pc' := 78) rfl ?_)
      refine G_sipush (n := 141) d_Re_readBinary_78 (by decide) (G_pc (pc' := 81) rfl ?_)
      refine G_icmp_ne (tgt := 92) d_Re_readBinary_81 (by decide) (fun h23 => ?_) (fun h23 => G_pc (pc' := 84) rfl ?_)
      · skip
        refine G_aload (i := 0) (n := 4) (len := 1) (Or.inl ⟨0, rfl, rfl, d_Re_readBinary_92⟩) rfl (by decide) (G_pc (pc' := 93) rfl ?_)
        refine G_iload (i := 6) (n := 1) (len := 2) (Or.inr ⟨rfl, d_Re_readBinary_93⟩) rfl (G_pc (pc' := 95) rfl ?_)
        refine G_iload (i := 3) (n := 3) (len := 1) (Or.inl ⟨3, rfl, rfl, d_Re_readBinary_95⟩) rfl (G_pc (pc' := 96) rfl ?_)
        refine G_iload (i := 2) (n := 6) (len := 1) (Or.inl ⟨2, rfl, rfl, d_Re_readBinary_96⟩) rfl (G_pc (pc' := 97) rfl ?_)
        refine G_callV (K1 := KE) (d2 := (d0 + 1)) (o := 13) (cl := 4) (as := [vi (tcode (T k)), vi (ts S), vi dep]) (rest := []) d_Re_readBinary_97 mf_Re_readRight ml_Re_81 rfl rfl (by decide) rfl rfl (Nat.le_of_ble_eq_true rfl) (by omega) ⟨Nat.le_refl _, Nat.le_refl _⟩ (g_Re_readRight (by omega) e T W n M0 b N S (k + 1) o a dep (BB (bdV (T k) + 1)) (T k) d0 M17 he hTR hst hR18 (by omega) (by omega) (by omega) (by omega) (by omega) (by omega) h10 (Nat.le_refl _) hok0.1 (by omega) (hC _ (by omega) (by omega)) (hJ _ (by omega) (by omega)) (by omega)) (fun r24 M25 kq26 q26 => ?_)
        clear kq26
        rcases q26 with ⟨hE_27, rfl, hf_27, ho_27⟩ | ⟨k_27, N_27, S_27, o_27, a_27, c_27, hE_27, rfl, hR_27⟩
        · skip
          refine G_ps (pc' := 100) (st' := [vi (-1)]) rfl rfl ?_
          refine G_istore (i := 3) (len := 1) (ls' := [(3, vi (-1)), (4, vi (bq (T k))), (6, vi (tcode (T k))), (5, vi cnt), (0, vr 13), (1, vi lev), (2, vi dep)]) (Or.inl ⟨3, rfl, rfl, d_Re_readBinary_100⟩) (by decide) rfl (G_pc (pc' := 101) rfl ?_)
          refine G_iinc (i := 5) (n := 3) (z := 1) (ls' := [(5, vi (cnt + 1)), (3, vi (-1)), (4, vi (bq (T k))), (6, vi (tcode (T k))), (0, vr 13), (1, vi lev), (2, vi dep)]) d_Re_readBinary_101 rfl (by decide) (by omega) rfl (G_pc (pc' := 104) rfl ?_)
          refine G_goto (tgt := 13) d_Re_readBinary_104 (by decide) ?_
          refine G_iload (i := 5) (n := 0) (len := 2) (Or.inr ⟨rfl, d_Re_readBinary_13⟩) rfl (G_pc (pc' := 15) rfl ?_)
          refine G_bipush (n := 24) d_Re_readBinary_15 (by decide) (G_pc (pc' := 17) rfl ?_)
          refine G_icmp_ge (tgt := 107) d_Re_readBinary_17 (by decide) (fun h28 => ?_) (fun h28 => G_pc (pc' := 20) rfl ?_)
          · skip
            refine G_iload (i := 3) (n := 1) (len := 1) (Or.inl ⟨3, rfl, rfl, d_Re_readBinary_107⟩) rfl (G_pc (pc' := 108) rfl ?_)
            refine G_iret d_Re_readBinary_108 rfl (tokI (by decide)) rfl rfl ?_
            exact Or.inl ⟨(loop_r (by omega) (by omega)).trans (bind_n hE_27), rfl, hf_27, ho_27⟩
          · skip
            refine G_iload (i := 3) (n := 1) (len := 1) (Or.inl ⟨3, rfl, rfl, d_Re_readBinary_20⟩) rfl (G_pc (pc' := 21) rfl ?_)
            refine G_iconst (n := (-1)) d_Re_readBinary_21 (by decide) (G_pc (pc' := 22) rfl ?_)
            refine G_icmp_eq (tgt := 107) d_Re_readBinary_22 (by decide) (fun h29 => ?_) (fun h29 => absurd h29 (by decide))
            refine G_iload (i := 3) (n := 1) (len := 1) (Or.inl ⟨3, rfl, rfl, d_Re_readBinary_107⟩) rfl (G_pc (pc' := 108) rfl ?_)
            refine G_iret d_Re_readBinary_108 rfl (tokI (by decide)) rfl rfl ?_
            exact Or.inl ⟨(loop_r (by omega) (by omega)).trans (bind_n hE_27), rfl, hf_27, ho_27⟩
        · skip
          obtain ⟨ja_27, jc_27, jd_27, je_27, jf_27, jx_27, jy_27⟩ := right_inv (hJ _ (by omega) (by omega)) (hE2 _ (by omega) (by omega)) (by omega) (by omega) (by omega) hE_27
          rw [jd_27] at hE_27 hR_27
          have jt_27 : ts S_27 = (S_27.length : Int) - 1 := rfl
          refine G_ps (pc' := 100) (st' := [vi (ts S_27)]) rfl rfl ?_
          refine G_istore (i := 3) (len := 1) (ls' := [(3, vi (ts S_27)), (4, vi (bq (T k))), (6, vi (tcode (T k))), (5, vi cnt), (0, vr 13), (1, vi lev), (2, vi dep)]) (Or.inl ⟨3, rfl, rfl, d_Re_readBinary_100⟩) (by decide) rfl (G_pc (pc' := 101) rfl ?_)
          refine G_iinc (i := 5) (n := 3) (z := 1) (ls' := [(5, vi (cnt + 1)), (3, vi (ts S_27)), (4, vi (bq (T k))), (6, vi (tcode (T k))), (0, vr 13), (1, vi lev), (2, vi dep)]) d_Re_readBinary_101 rfl (by decide) (by omega) rfl (G_pc (pc' := 104) rfl ?_)
          refine G_goto (tgt := 13) d_Re_readBinary_104 (by decide) ?_
          refine G_ls (ls' := [(5, vi (cnt + 1)), (4, vi (bq (T k))), (3, vi (ts S_27)), (0, vr 13), (1, vi lev), (2, vi dep)]) (by intro z hz; simp only [List.mem_cons] at hz ⊢; grind) ?_
          rw [loop_r (by omega) (by omega), bind_s hE_27]
          exact hL _ _ _ _ _ _ _ _ (by omega) hR_27 (by omega) (by omega) (by omega) (by omega) (by omega) (by omega) (by omega) (by omega) (by omega) (by omega)
      · skip
        refine G_aload (i := 0) (n := 4) (len := 1) (Or.inl ⟨0, rfl, rfl, d_Re_readBinary_84⟩) rfl (by decide) (G_pc (pc' := 85) rfl ?_)
        refine G_iload (i := 3) (n := 3) (len := 1) (Or.inl ⟨3, rfl, rfl, d_Re_readBinary_85⟩) rfl (G_pc (pc' := 86) rfl ?_)
        refine G_callV (K1 := KE) (d2 := 2) (o := 13) (cl := 4) (as := [vi (ts S)]) (rest := []) d_Re_readBinary_86 mf_Re_readClassBehind ml_Re_78 rfl rfl (by decide) rfl rfl (Nat.le_of_ble_eq_true rfl) (by omega) ⟨Nat.le_refl _, Nat.le_refl _⟩ (g_Re_readClassBehind (by omega) e T W n M0 N S k o a M17 he hTR hR18 hst (by omega) (by omega) (by omega) (by omega) (by omega)) (fun r30 M31 kq32 q32 => ?_)
        clear kq32
        rcases q32 with ⟨hE_33, rfl, hf_33, ho_33⟩ | ⟨k_33, N_33, S_33, o_33, a_33, c_33, hE_33, rfl, hR_33⟩
        · skip
          refine G_ps (pc' := 89) (st' := [vi (-1)]) rfl rfl ?_
          refine G_goto (tgt := 100) d_Re_readBinary_89 (by decide) ?_
          refine G_istore (i := 3) (len := 1) (ls' := [(3, vi (-1)), (4, vi (bq (T k))), (6, vi (tcode (T k))), (5, vi cnt), (0, vr 13), (1, vi lev), (2, vi dep)]) (Or.inl ⟨3, rfl, rfl, d_Re_readBinary_100⟩) (by decide) rfl (G_pc (pc' := 101) rfl ?_)
          refine G_iinc (i := 5) (n := 3) (z := 1) (ls' := [(5, vi (cnt + 1)), (3, vi (-1)), (4, vi (bq (T k))), (6, vi (tcode (T k))), (0, vr 13), (1, vi lev), (2, vi dep)]) d_Re_readBinary_101 rfl (by decide) (by omega) rfl (G_pc (pc' := 104) rfl ?_)
          refine G_goto (tgt := 13) d_Re_readBinary_104 (by decide) ?_
          refine G_iload (i := 5) (n := 0) (len := 2) (Or.inr ⟨rfl, d_Re_readBinary_13⟩) rfl (G_pc (pc' := 15) rfl ?_)
          refine G_bipush (n := 24) d_Re_readBinary_15 (by decide) (G_pc (pc' := 17) rfl ?_)
          refine G_icmp_ge (tgt := 107) d_Re_readBinary_17 (by decide) (fun h34 => ?_) (fun h34 => G_pc (pc' := 20) rfl ?_)
          · skip
            refine G_iload (i := 3) (n := 1) (len := 1) (Or.inl ⟨3, rfl, rfl, d_Re_readBinary_107⟩) rfl (G_pc (pc' := 108) rfl ?_)
            refine G_iret d_Re_readBinary_108 rfl (tokI (by decide)) rfl rfl ?_
            exact Or.inl ⟨(loop_13 (by omega) (by omega)).trans (bind_n hE_33), rfl, hf_33, ho_33⟩
          · skip
            refine G_iload (i := 3) (n := 1) (len := 1) (Or.inl ⟨3, rfl, rfl, d_Re_readBinary_20⟩) rfl (G_pc (pc' := 21) rfl ?_)
            refine G_iconst (n := (-1)) d_Re_readBinary_21 (by decide) (G_pc (pc' := 22) rfl ?_)
            refine G_icmp_eq (tgt := 107) d_Re_readBinary_22 (by decide) (fun h35 => ?_) (fun h35 => absurd h35 (by decide))
            refine G_iload (i := 3) (n := 1) (len := 1) (Or.inl ⟨3, rfl, rfl, d_Re_readBinary_107⟩) rfl (G_pc (pc' := 108) rfl ?_)
            refine G_iret d_Re_readBinary_108 rfl (tokI (by decide)) rfl rfl ?_
            exact Or.inl ⟨(loop_13 (by omega) (by omega)).trans (bind_n hE_33), rfl, hf_33, ho_33⟩
        · skip
          obtain ⟨ja_33, jb_33, jc_33, jd_33, je_33, jf_33⟩ := of_inv (TR_tkn hTR) hE_33
          rw [jd_33] at hE_33 hR_33
          have jt_33 : ts S_33 = (S_33.length : Int) - 1 := rfl
          refine G_ps (pc' := 89) (st' := [vi (ts S_33)]) rfl rfl ?_
          refine G_goto (tgt := 100) d_Re_readBinary_89 (by decide) ?_
          refine G_istore (i := 3) (len := 1) (ls' := [(3, vi (ts S_33)), (4, vi (bq (T k))), (6, vi (tcode (T k))), (5, vi cnt), (0, vr 13), (1, vi lev), (2, vi dep)]) (Or.inl ⟨3, rfl, rfl, d_Re_readBinary_100⟩) (by decide) rfl (G_pc (pc' := 101) rfl ?_)
          refine G_iinc (i := 5) (n := 3) (z := 1) (ls' := [(5, vi (cnt + 1)), (3, vi (ts S_33)), (4, vi (bq (T k))), (6, vi (tcode (T k))), (0, vr 13), (1, vi lev), (2, vi dep)]) d_Re_readBinary_101 rfl (by decide) (by omega) rfl (G_pc (pc' := 104) rfl ?_)
          refine G_goto (tgt := 13) d_Re_readBinary_104 (by decide) ?_
          refine G_ls (ls' := [(5, vi (cnt + 1)), (4, vi (bq (T k))), (3, vi (ts S_33)), (0, vr 13), (1, vi lev), (2, vi dep)]) (by intro z hz; simp only [List.mem_cons] at hz ⊢; grind) ?_
          rw [loop_13 (by omega) (by omega), bind_s hE_33]
          exact hL _ _ _ _ _ _ _ _ (by omega) hR_33 (by omega) (by omega) (by omega) (by omega) (by omega) (by omega) (by omega) (by omega) (by omega) (by omega)
    · skip
      refine G_iload (i := 3) (n := 3) (len := 1) (Or.inl ⟨3, rfl, rfl, d_Re_readBinary_57⟩) rfl (G_pc (pc' := 58) rfl ?_)
      refine G_iret d_Re_readBinary_58 rfl (tokI (by omega)) rfl rfl ?_
      exact Or.inr ⟨_, _, _, _, _, _, loop_x (by omega), rfl, hR⟩

theorem d_Re_readBinary_0 : decode b_Re_readBinary 0 = .ok (.aload_n 0, 1) := by decide +kernel
theorem d_Re_readBinary_1 : decode b_Re_readBinary 1 = .ok (.iload_n 2, 1) := by decide +kernel
theorem d_Re_readBinary_2 : decode b_Re_readBinary 2 = .ok (.invokevirtual 72, 3) := by decide +kernel
theorem d_Re_readBinary_5 : decode b_Re_readBinary 5 = .ok (.istore_n 3, 1) := by decide +kernel
theorem d_Re_readBinary_6 : decode b_Re_readBinary 6 = .ok (.bipush 10, 2) := by decide +kernel
theorem d_Re_readBinary_8 : decode b_Re_readBinary 8 = .ok (.istore 4, 2) := by decide +kernel
theorem d_Re_readBinary_10 : decode b_Re_readBinary 10 = .ok (.iconst 0, 1) := by decide +kernel
theorem d_Re_readBinary_11 : decode b_Re_readBinary 11 = .ok (.istore 5, 2) := by decide +kernel
set_option maxHeartbeats 400000 in
theorem g_Re_readBinary {X : WX} {d : Nat} (hd : 0 ≤ d) (e : Nat) (T W : Int → Int) (n : Int) (M0 : Mem) (b : Int) (N : List ND) (S : List SD) (k o a dep : Int) (lev : Int) (U L : DS → Option DS) (d0 : Nat) (M : Mem) (he : e < 4) (hTR : TR M0 T W n) (hst : M0 13 1 = ((20 + 9 * e : Nat) : Int)) (hR : RD e M0 M S k o a) (hk : 0 ≤ k ∧ k ≤ n) (ho : 0 ≤ o ∧ o ≤ 6) (ha : 0 ≤ a ∧ a ≤ 4) (hS : (S.length : Int) ≤ 2 * k) (hdep : 0 ≤ dep ∧ dep ≤ k) (h10 : 10 ≤ d0) (hd0 : d0 + 2 ≤ d) (hU : CU X d0 e n M0 b U) (hJU : J1 n U) (hE3 : E3 U) (hL : LB X d e T n M0 b lev L dep o) (hb : 5 * (n - k) + 3 ≤ b) : MG X gt d KE KE y_Re_readBinary b_Re_readBinary 7 (some .int) [vr 13, vi lev, vi dep] M (RQ e M0 o ((U (k, N, S, o, a, 0)).bind L)) := by
  refine MG_of_G (by decide) (Nat.le_of_ble_eq_true rfl) (Nat.le_refl _) (by decide) ?_
  show G X gt d KE KE y_Re_readBinary b_Re_readBinary 7 (some .int) _ 0 [(0, vr 13), (1, vi lev), (2, vi dep)] [] KE M
  have hn2 := hTR.2.1
  refine G_aload (i := 0) (n := 0) (len := 1) (Or.inl ⟨0, rfl, rfl, d_Re_readBinary_0⟩) rfl (by decide) (G_pc (pc' := 1) rfl ?_)
  refine G_iload (i := 2) (n := 2) (len := 1) (Or.inl ⟨2, rfl, rfl, d_Re_readBinary_1⟩) rfl (G_pc (pc' := 2) rfl ?_)
  refine G_callV (K1 := KE) (d2 := d0) (o := 13) (cl := 4) (as := [vi dep]) (rest := []) d_Re_readBinary_2 mf_Re_readUnary ml_Re_72 rfl rfl (by decide) rfl rfl (Nat.le_of_ble_eq_true rfl) (by omega) ⟨Nat.le_refl _, Nat.le_refl _⟩ (hU N S k o a dep M (by omega) hR (by omega) (by omega) (by omega) (by omega) (by omega)) (fun r1 M2 kq3 q3 => ?_)
  clear kq3
  rcases q3 with ⟨hE_4, rfl, hf_4, ho_4⟩ | ⟨k_4, N_4, S_4, o_4, a_4, c_4, hE_4, rfl, hR_4⟩
  · skip
    refine G_ps (pc' := 5) (st' := [vi (-1)]) rfl rfl ?_
    refine G_istore (i := 3) (len := 1) (ls' := [(3, vi (-1)), (0, vr 13), (1, vi lev), (2, vi dep)]) (Or.inl ⟨3, rfl, rfl, d_Re_readBinary_5⟩) (by decide) rfl (G_pc (pc' := 6) rfl ?_)
    refine G_bipush (n := 10) d_Re_readBinary_6 (by decide) (G_pc (pc' := 8) rfl ?_)
    refine G_istore (i := 4) (len := 2) (ls' := [(4, vi 10), (3, vi (-1)), (0, vr 13), (1, vi lev), (2, vi dep)]) (Or.inr ⟨rfl, d_Re_readBinary_8⟩) (by decide) rfl (G_pc (pc' := 10) rfl ?_)
    refine G_iconst (n := 0) d_Re_readBinary_10 (by decide) (G_pc (pc' := 11) rfl ?_)
    refine G_istore (i := 5) (len := 2) (ls' := [(5, vi 0), (4, vi 10), (3, vi (-1)), (0, vr 13), (1, vi lev), (2, vi dep)]) (Or.inr ⟨rfl, d_Re_readBinary_11⟩) (by decide) rfl (G_pc (pc' := 13) rfl ?_)
    refine G_iload (i := 5) (n := 0) (len := 2) (Or.inr ⟨rfl, d_Re_readBinary_13⟩) rfl (G_pc (pc' := 15) rfl ?_)
    refine G_bipush (n := 24) d_Re_readBinary_15 (by decide) (G_pc (pc' := 17) rfl ?_)
    refine G_icmp_ge (tgt := 107) d_Re_readBinary_17 (by decide) (fun h5 => absurd h5 (by decide)) (fun h5 => G_pc (pc' := 20) rfl ?_)
    refine G_iload (i := 3) (n := 2) (len := 1) (Or.inl ⟨3, rfl, rfl, d_Re_readBinary_20⟩) rfl (G_pc (pc' := 21) rfl ?_)
    refine G_iconst (n := (-1)) d_Re_readBinary_21 (by decide) (G_pc (pc' := 22) rfl ?_)
    refine G_icmp_eq (tgt := 107) d_Re_readBinary_22 (by decide) (fun h6 => ?_) (fun h6 => absurd h6 (by decide))
    refine G_iload (i := 3) (n := 2) (len := 1) (Or.inl ⟨3, rfl, rfl, d_Re_readBinary_107⟩) rfl (G_pc (pc' := 108) rfl ?_)
    refine G_iret d_Re_readBinary_108 rfl (tokI (by decide)) rfl rfl ?_
    exact Or.inl ⟨bind_n hE_4, rfl, hf_4, ho_4⟩
  · skip
    obtain ⟨⟨ja_4, jb_4, jc_4, jd_4, je_4, jf_4⟩, jg_4⟩ := hJU k N S o a _ (by omega) (by omega) (by omega) hE_4
    have jc1_4 := jc_4.1; have jc2_4 := jc_4.2.1
    have jt_4 : ts S_4 = (S_4.length : Int) - 1 := rfl
    (try simp only [List.length_append, List.length_cons, List.length_nil, patch_len] at jc1_4 jc2_4)
    rw [jd_4] at hE_4 hR_4
    have jx_4 := hE3 _ _ _ _ _ _ _ hE_4
    refine G_ps (pc' := 5) (st' := [vi (ts S_4)]) rfl rfl ?_
    refine G_istore (i := 3) (len := 1) (ls' := [(3, vi (ts S_4)), (0, vr 13), (1, vi lev), (2, vi dep)]) (Or.inl ⟨3, rfl, rfl, d_Re_readBinary_5⟩) (by decide) rfl (G_pc (pc' := 6) rfl ?_)
    refine G_bipush (n := 10) d_Re_readBinary_6 (by decide) (G_pc (pc' := 8) rfl ?_)
    refine G_istore (i := 4) (len := 2) (ls' := [(4, vi 10), (3, vi (ts S_4)), (0, vr 13), (1, vi lev), (2, vi dep)]) (Or.inr ⟨rfl, d_Re_readBinary_8⟩) (by decide) rfl (G_pc (pc' := 10) rfl ?_)
    refine G_iconst (n := 0) d_Re_readBinary_10 (by decide) (G_pc (pc' := 11) rfl ?_)
    refine G_istore (i := 5) (len := 2) (ls' := [(5, vi 0), (4, vi 10), (3, vi (ts S_4)), (0, vr 13), (1, vi lev), (2, vi dep)]) (Or.inr ⟨rfl, d_Re_readBinary_11⟩) (by decide) rfl (G_pc (pc' := 13) rfl ?_)
    rw [bind_s hE_4]
    exact hL _ _ _ _ _ _ _ _ (by omega) hR_4 (by omega) (by omega) (by omega) (by omega) (by omega) (by omega) (by omega) (by omega) (by have := bq_rng (T k_4); omega) (by omega)

