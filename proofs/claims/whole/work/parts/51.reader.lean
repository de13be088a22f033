theorem d_Re_readChoice_0 : decode b_Re_readChoice 0 = .ok (.aload_n 0, 1) := by decide +kernel
theorem d_Re_readChoice_1 : decode b_Re_readChoice 1 = .ok (.iconst 1, 1) := by decide +kernel
theorem d_Re_readChoice_2 : decode b_Re_readChoice 2 = .ok (.iload_n 1, 1) := by decide +kernel
theorem d_Re_readChoice_3 : decode b_Re_readChoice 3 = .ok (.invokevirtual 48, 3) := by decide +kernel
theorem d_Re_readChoice_6 : decode b_Re_readChoice 6 = .ok (.istore_n 2, 1) := by decide +kernel
theorem d_Re_readChoice_7 : decode b_Re_readChoice 7 = .ok (.iload_n 2, 1) := by decide +kernel
theorem d_Re_readChoice_8 : decode b_Re_readChoice 8 = .ok (.iconst (-1), 1) := by decide +kernel
theorem d_Re_readChoice_9 : decode b_Re_readChoice 9 = .ok (.if_icmp .eq 12, 3) := by decide +kernel
theorem d_Re_readChoice_12 : decode b_Re_readChoice 12 = .ok (.aload_n 0, 1) := by decide +kernel
theorem d_Re_readChoice_13 : decode b_Re_readChoice 13 = .ok (.bipush 63, 2) := by decide +kernel
theorem d_Re_readChoice_15 : decode b_Re_readChoice 15 = .ok (.invokevirtual 52, 3) := by decide +kernel
theorem d_Re_readChoice_18 : decode b_Re_readChoice 18 = .ok (.ifCond .ne 5, 3) := by decide +kernel
theorem d_Re_readChoice_21 : decode b_Re_readChoice 21 = .ok (.iload_n 2, 1) := by decide +kernel
theorem d_Re_readChoice_22 : decode b_Re_readChoice 22 = .ok (.ireturn, 1) := by decide +kernel
theorem d_Re_readChoice_23 : decode b_Re_readChoice 23 = .ok (.aload_n 0, 1) := by decide +kernel
theorem d_Re_readChoice_24 : decode b_Re_readChoice 24 = .ok (.dup, 1) := by decide +kernel
theorem d_Re_readChoice_25 : decode b_Re_readChoice 25 = .ok (.getfield 34, 3) := by decide +kernel
theorem d_Re_readChoice_28 : decode b_Re_readChoice 28 = .ok (.iconst 1, 1) := by decide +kernel
theorem d_Re_readChoice_29 : decode b_Re_readChoice 29 = .ok (.iadd, 1) := by decide +kernel
theorem d_Re_readChoice_30 : decode b_Re_readChoice 30 = .ok (.putfield 34, 3) := by decide +kernel
theorem d_Re_readChoice_33 : decode b_Re_readChoice 33 = .ok (.aload_n 0, 1) := by decide +kernel
theorem d_Re_readChoice_34 : decode b_Re_readChoice 34 = .ok (.getfield 18, 3) := by decide +kernel
theorem d_Re_readChoice_37 : decode b_Re_readChoice 37 = .ok (.sipush 151, 3) := by decide +kernel
theorem d_Re_readChoice_40 : decode b_Re_readChoice 40 = .ok (.iload_n 2, 1) := by decide +kernel
theorem d_Re_readChoice_41 : decode b_Re_readChoice 41 = .ok (.iconst 0, 1) := by decide +kernel
theorem d_Re_readChoice_42 : decode b_Re_readChoice 42 = .ok (.invokevirtual 56, 3) := by decide +kernel
theorem d_Re_readChoice_45 : decode b_Re_readChoice 45 = .ok (.istore_n 3, 1) := by decide +kernel
theorem d_Re_readChoice_46 : decode b_Re_readChoice 46 = .ok (.aload_n 0, 1) := by decide +kernel
theorem d_Re_readChoice_47 : decode b_Re_readChoice 47 = .ok (.getfield 34, 3) := by decide +kernel
theorem d_Re_readChoice_50 : decode b_Re_readChoice 50 = .ok (.iconst 4, 1) := by decide +kernel
theorem d_Re_readChoice_51 : decode b_Re_readChoice 51 = .ok (.if_icmp .gt 8, 3) := by decide +kernel
theorem d_Re_readChoice_54 : decode b_Re_readChoice 54 = .ok (.iload_n 3, 1) := by decide +kernel
theorem d_Re_readChoice_55 : decode b_Re_readChoice 55 = .ok (.iconst (-1), 1) := by decide +kernel
theorem d_Re_readChoice_56 : decode b_Re_readChoice 56 = .ok (.if_icmp .ne 7, 3) := by decide +kernel
theorem d_Re_readChoice_59 : decode b_Re_readChoice 59 = .ok (.iconst (-1), 1) := by decide +kernel
theorem d_Re_readChoice_60 : decode b_Re_readChoice 60 = .ok (.goto 10, 3) := by decide +kernel
theorem d_Re_readChoice_63 : decode b_Re_readChoice 63 = .ok (.aload_n 0, 1) := by decide +kernel
theorem d_Re_readChoice_64 : decode b_Re_readChoice 64 = .ok (.iload_n 1, 1) := by decide +kernel
theorem d_Re_readChoice_65 : decode b_Re_readChoice 65 = .ok (.iconst 1, 1) := by decide +kernel
theorem d_Re_readChoice_66 : decode b_Re_readChoice 66 = .ok (.iadd, 1) := by decide +kernel
theorem d_Re_readChoice_67 : decode b_Re_readChoice 67 = .ok (.invokevirtual 41, 3) := by decide +kernel
theorem d_Re_readChoice_70 : decode b_Re_readChoice 70 = .ok (.istore 4, 2) := by decide +kernel
theorem d_Re_readChoice_72 : decode b_Re_readChoice 72 = .ok (.iload 4, 2) := by decide +kernel
theorem d_Re_readChoice_74 : decode b_Re_readChoice 74 = .ok (.iconst (-1), 1) := by decide +kernel
theorem d_Re_readChoice_75 : decode b_Re_readChoice 75 = .ok (.if_icmp .eq 12, 3) := by decide +kernel
theorem d_Re_readChoice_78 : decode b_Re_readChoice 78 = .ok (.aload_n 0, 1) := by decide +kernel
theorem d_Re_readChoice_79 : decode b_Re_readChoice 79 = .ok (.bipush 58, 2) := by decide +kernel
theorem d_Re_readChoice_81 : decode b_Re_readChoice 81 = .ok (.invokevirtual 52, 3) := by decide +kernel
theorem d_Re_readChoice_84 : decode b_Re_readChoice 84 = .ok (.ifCond .ne 5, 3) := by decide +kernel
theorem d_Re_readChoice_87 : decode b_Re_readChoice 87 = .ok (.iconst (-1), 1) := by decide +kernel
theorem d_Re_readChoice_88 : decode b_Re_readChoice 88 = .ok (.ireturn, 1) := by decide +kernel
theorem d_Re_readChoice_89 : decode b_Re_readChoice 89 = .ok (.aload_n 0, 1) := by decide +kernel
theorem d_Re_readChoice_90 : decode b_Re_readChoice 90 = .ok (.getfield 18, 3) := by decide +kernel
theorem d_Re_readChoice_93 : decode b_Re_readChoice 93 = .ok (.sipush 150, 3) := by decide +kernel
theorem d_Re_readChoice_96 : decode b_Re_readChoice 96 = .ok (.iload_n 2, 1) := by decide +kernel
theorem d_Re_readChoice_97 : decode b_Re_readChoice 97 = .ok (.iconst 0, 1) := by decide +kernel
theorem d_Re_readChoice_98 : decode b_Re_readChoice 98 = .ok (.invokevirtual 56, 3) := by decide +kernel
theorem d_Re_readChoice_101 : decode b_Re_readChoice 101 = .ok (.istore 5, 2) := by decide +kernel
theorem d_Re_readChoice_103 : decode b_Re_readChoice 103 = .ok (.aload_n 0, 1) := by decide +kernel
theorem d_Re_readChoice_104 : decode b_Re_readChoice 104 = .ok (.getfield 18, 3) := by decide +kernel
theorem d_Re_readChoice_107 : decode b_Re_readChoice 107 = .ok (.iload_n 3, 1) := by decide +kernel
theorem d_Re_readChoice_108 : decode b_Re_readChoice 108 = .ok (.aload_n 0, 1) := by decide +kernel
theorem d_Re_readChoice_109 : decode b_Re_readChoice 109 = .ok (.getfield 18, 3) := by decide +kernel
theorem d_Re_readChoice_112 : decode b_Re_readChoice 112 = .ok (.invokevirtual 60, 3) := by decide +kernel
theorem d_Re_readChoice_115 : decode b_Re_readChoice 115 = .ok (.invokevirtual 64, 3) := by decide +kernel
theorem d_Re_readChoice_118 : decode b_Re_readChoice 118 = .ok (.iload 5, 2) := by decide +kernel
theorem d_Re_readChoice_120 : decode b_Re_readChoice 120 = .ok (.iconst (-1), 1) := by decide +kernel
theorem d_Re_readChoice_121 : decode b_Re_readChoice 121 = .ok (.if_icmp .ne 7, 3) := by decide +kernel
theorem d_Re_readChoice_128 : decode b_Re_readChoice 128 = .ok (.aload_n 0, 1) := by decide +kernel
theorem d_Re_readChoice_129 : decode b_Re_readChoice 129 = .ok (.iload_n 1, 1) := by decide +kernel
theorem d_Re_readChoice_130 : decode b_Re_readChoice 130 = .ok (.iconst 1, 1) := by decide +kernel
theorem d_Re_readChoice_131 : decode b_Re_readChoice 131 = .ok (.iadd, 1) := by decide +kernel
theorem d_Re_readChoice_132 : decode b_Re_readChoice 132 = .ok (.invokevirtual 41, 3) := by decide +kernel
theorem d_Re_readChoice_135 : decode b_Re_readChoice 135 = .ok (.istore 6, 2) := by decide +kernel
theorem d_Re_readChoice_137 : decode b_Re_readChoice 137 = .ok (.iload 6, 2) := by decide +kernel
theorem d_Re_readChoice_139 : decode b_Re_readChoice 139 = .ok (.iconst (-1), 1) := by decide +kernel
theorem d_Re_readChoice_140 : decode b_Re_readChoice 140 = .ok (.if_icmp .ne 5, 3) := by decide +kernel
theorem d_Re_readChoice_143 : decode b_Re_readChoice 143 = .ok (.iconst (-1), 1) := by decide +kernel
theorem d_Re_readChoice_144 : decode b_Re_readChoice 144 = .ok (.ireturn, 1) := by decide +kernel
theorem d_Re_readChoice_145 : decode b_Re_readChoice 145 = .ok (.aload_n 0, 1) := by decide +kernel
theorem d_Re_readChoice_146 : decode b_Re_readChoice 146 = .ok (.getfield 18, 3) := by decide +kernel
theorem d_Re_readChoice_149 : decode b_Re_readChoice 149 = .ok (.iload 5, 2) := by decide +kernel
theorem d_Re_readChoice_151 : decode b_Re_readChoice 151 = .ok (.aload_n 0, 1) := by decide +kernel
theorem d_Re_readChoice_152 : decode b_Re_readChoice 152 = .ok (.getfield 18, 3) := by decide +kernel
theorem d_Re_readChoice_155 : decode b_Re_readChoice 155 = .ok (.invokevirtual 60, 3) := by decide +kernel
theorem d_Re_readChoice_158 : decode b_Re_readChoice 158 = .ok (.invokevirtual 64, 3) := by decide +kernel
theorem d_Re_readChoice_161 : decode b_Re_readChoice 161 = .ok (.aload_n 0, 1) := by decide +kernel
theorem d_Re_readChoice_162 : decode b_Re_readChoice 162 = .ok (.getfield 18, 3) := by decide +kernel
theorem d_Re_readChoice_165 : decode b_Re_readChoice 165 = .ok (.sipush 149, 3) := by decide +kernel
theorem d_Re_readChoice_168 : decode b_Re_readChoice 168 = .ok (.iload_n 2, 1) := by decide +kernel
theorem d_Re_readChoice_169 : decode b_Re_readChoice 169 = .ok (.iload 4, 2) := by decide +kernel
theorem d_Re_readChoice_171 : decode b_Re_readChoice 171 = .ok (.iload 6, 2) := by decide +kernel
theorem d_Re_readChoice_173 : decode b_Re_readChoice 173 = .ok (.invokevirtual 68, 3) := by decide +kernel
theorem d_Re_readChoice_176 : decode b_Re_readChoice 176 = .ok (.ireturn, 1) := by decide +kernel
set_option maxHeartbeats 800000 in
theorem g_Re_readChoice {X : WX} {d : Nat} (hd : 2 ≤ d) (e : Nat) (T W : Int → Int) (n : Int) (M0 : Mem) (b : Int) (N : List ND) (S : List SD) (k o a dep : Int) (B R : DS → Option DS) (d0 : Nat) (M : Mem) (he : e < 4) (hTR : TR M0 T W n) (hst : M0 13 1 = ((20 + 9 * e : Nat) : Int)) (hR : RD e M0 M S k o a) (hk : 0 ≤ k ∧ k ≤ n) (ho : 0 ≤ o ∧ o ≤ 6) (ha : 0 ≤ a ∧ a ≤ 4) (hS : (S.length : Int) ≤ 2 * k) (hdep : 0 ≤ dep ∧ dep ≤ k) (h10 : 10 ≤ d0) (hd0 : d0 + 1 ≤ d) (hB : CB X d0 e n M0 b B 1) (hJB : J1 n B) (hC : CH X d0 e n M0 b R) (hJ : J1 n R) (hb : 5 * (n - k) + 4 ≤ b) : MG X gt d KE KE y_Re_readChoice b_Re_readChoice 7 (some .int) [vr 13, vi dep] M (RQ e M0 o (choiceD T B R (k, N, S, o, a, 0))) := by
  refine MG_of_G (by decide) (Nat.le_of_ble_eq_true rfl) (Nat.le_refl _) (by decide) ?_
  show G X gt d KE KE y_Re_readChoice b_Re_readChoice 7 (some .int) _ 0 [(0, vr 13), (1, vi dep)] [] KE M
  have hn2 := hTR.2.1
  refine G_aload (i := 0) (n := 0) (len := 1) (Or.inl ⟨0, rfl, rfl, d_Re_readChoice_0⟩) rfl (by decide) (G_pc (pc' := 1) rfl ?_)
  refine G_iconst (n := 1) d_Re_readChoice_1 (by decide) (G_pc (pc' := 2) rfl ?_)
  refine G_iload (i := 1) (n := 1) (len := 1) (Or.inl ⟨1, rfl, rfl, d_Re_readChoice_2⟩) rfl (G_pc (pc' := 3) rfl ?_)
  refine G_callV (K1 := KE) (d2 := d0) (o := 13) (cl := 4) (as := [vi 1, vi dep]) (rest := []) d_Re_readChoice_3 mf_Re_readBinary ml_Re_48 rfl rfl (by decide) rfl rfl (Nat.le_of_ble_eq_true rfl) (by omega) ⟨Nat.le_refl _, Nat.le_refl _⟩ (hB N S k o a dep M (by omega) hR (by omega) (by omega) (by omega) (by omega) (by omega)) (fun r1 M2 kq3 q3 => ?_)
  clear kq3
  rcases q3 with ⟨hE_4, rfl, hf_4, ho_4⟩ | ⟨k_4, N_4, S_4, o_4, a_4, c_4, hE_4, rfl, hR_4⟩
  · skip
    refine G_ps (pc' := 6) (st' := [vi (-1)]) rfl rfl ?_
    refine G_istore (i := 2) (len := 1) (ls' := [(2, vi (-1)), (0, vr 13), (1, vi dep)]) (Or.inl ⟨2, rfl, rfl, d_Re_readChoice_6⟩) (by decide) rfl (G_pc (pc' := 7) rfl ?_)
    refine G_iload (i := 2) (n := 0) (len := 1) (Or.inl ⟨2, rfl, rfl, d_Re_readChoice_7⟩) rfl (G_pc (pc' := 8) rfl ?_)
    refine G_iconst (n := (-1)) d_Re_readChoice_8 (by decide) (G_pc (pc' := 9) rfl ?_)
    refine G_icmp_eq (tgt := 21) d_Re_readChoice_9 (by decide) (fun h5 => ?_) (fun h5 => absurd h5 (by decide))
    refine G_iload (i := 2) (n := 0) (len := 1) (Or.inl ⟨2, rfl, rfl, d_Re_readChoice_21⟩) rfl (G_pc (pc' := 22) rfl ?_)
    refine G_iret d_Re_readChoice_22 rfl (tokI (by decide)) rfl rfl ?_
    exact Or.inl ⟨cho_n hE_4, rfl, hf_4, by omega⟩
  · skip
    obtain ⟨⟨ja_4, jb_4, jc_4, jd_4, je_4, jf_4⟩, jg_4⟩ := hJB k N S o a _ (by omega) (by omega) (by omega) hE_4
    have jc1_4 := jc_4.1; have jc2_4 := jc_4.2.1
    have jt_4 : ts S_4 = (S_4.length : Int) - 1 := rfl
    (try simp only [List.length_append, List.length_cons, List.length_nil, patch_len] at jc1_4 jc2_4)
    refine G_ps (pc' := 6) (st' := [vi (ts S_4)]) rfl rfl ?_
    refine G_istore (i := 2) (len := 1) (ls' := [(2, vi (ts S_4)), (0, vr 13), (1, vi dep)]) (Or.inl ⟨2, rfl, rfl, d_Re_readChoice_6⟩) (by decide) rfl (G_pc (pc' := 7) rfl ?_)
    refine G_iload (i := 2) (n := 0) (len := 1) (Or.inl ⟨2, rfl, rfl, d_Re_readChoice_7⟩) rfl (G_pc (pc' := 8) rfl ?_)
    refine G_iconst (n := (-1)) d_Re_readChoice_8 (by decide) (G_pc (pc' := 9) rfl ?_)
    refine G_icmp_eq (tgt := 21) d_Re_readChoice_9 (by decide) (fun h6 => absurd h6 (by omega)) (fun h6 => G_pc (pc' := 12) rfl ?_)
    refine G_aload (i := 0) (n := 1) (len := 1) (Or.inl ⟨0, rfl, rfl, d_Re_readChoice_12⟩) rfl (by decide) (G_pc (pc' := 13) rfl ?_)
    refine G_bipush (n := 63) d_Re_readChoice_13 (by decide) (G_pc (pc' := 15) rfl ?_)
    refine G_callV (K1 := KE) (d2 := 1) (o := 13) (cl := 4) (as := [vi 63]) (rest := []) d_Re_readChoice_15 mf_Re_takes ml_Re_52 rfl rfl (by decide) rfl rfl (Nat.le_of_ble_eq_true rfl) (by omega) ⟨Nat.le_refl _, Nat.le_refl _⟩ (g_Re_takes (by omega) e T W n M0 63 S_4 k_4 o_4 a_4 M2 he hTR hR_4 (by omega)) (fun r7 M8 kq9 q9 => ?_)
    clear kq9
    by_cases hc10 : tcode (T k_4) = 63
    · skip
      obtain ⟨q9a, q9b⟩ := q9.1 hc10
      subst r7; subst M8
      rw [tc_63 (TR_T hTR (by omega)).1] at hc10
      refine G_ps (pc' := 18) (st' := [vi 1]) rfl rfl ?_
      refine G_abs (R := fun M9 => RD e M0 M9 S_4 (k_4 + 1) o_4 a_4) (RD_nk (RD_sk hR_4) (by omega)) (fun M11 hR12 => ?_)
      have hq13 := (TR_T hTR (k := k_4) (by omega)).2
      refine G_if_ne (tgt := 23) d_Re_readChoice_18 (by decide) (fun h14 => ?_) (fun h14 => absurd h14 (by decide))
      refine G_aload (i := 0) (n := 1) (len := 1) (Or.inl ⟨0, rfl, rfl, d_Re_readChoice_23⟩) rfl (by decide) (G_pc (pc' := 24) rfl ?_)
      refine G_dup d_Re_readChoice_24 (fun _ h => by cases h) (G_pc (pc' := 25) rfl ?_)
      refine G_get (o := 13) (c := 4) (k := 4) (v := M11 13 4) d_Re_readChoice_25 fl_Re_34 rfl (by decide) (by decide) rfl rfl (G_pc (pc' := 28) rfl ?_)
      rw [show M11 13 4 = a_4 from RD_a hR12]
      refine G_iconst (n := 1) d_Re_readChoice_28 (by decide) (G_pc (pc' := 29) rfl ?_)
      refine G_iadd d_Re_readChoice_29 (by omega) (G_pc (pc' := 30) rfl ?_)
      refine G_putL (o := 13) (c := 4) (k := 4) (ki := 4) (x := a_4 + 1) d_Re_readChoice_30 fl_Re_34 rfl rfl (by decide) (by decide) (by decide) rfl rfl (tokI (by omega)) rfl (G_pc (pc' := 33) rfl ?_)
      refine G_abs (R := fun M9 => RD e M0 M9 S_4 (k_4 + 1) o_4 (a_4 + 1)) (RD_sa hR12) (fun M15 hR16 => ?_)
      refine G_aload (i := 0) (n := 1) (len := 1) (Or.inl ⟨0, rfl, rfl, d_Re_readChoice_33⟩) rfl (by decide) (G_pc (pc' := 34) rfl ?_)
      refine G_get (o := 13) (c := 4) (k := 1) (v := M15 13 1) d_Re_readChoice_34 fl_Re_18 rfl (by decide) (by decide) rfl rfl (G_pc (pc' := 37) rfl ?_)
      rw [show M15 13 1 = ((20 + 9 * e : Nat) : Int) from RD_st hR16 he hst]
      refine G_sipush (n := 151) d_Re_readChoice_37 (by decide) (G_pc (pc' := 40) rfl ?_)
      refine G_iload (i := 2) (n := 0) (len := 1) (Or.inl ⟨2, rfl, rfl, d_Re_readChoice_40⟩) rfl (G_pc (pc' := 41) rfl ?_)
      refine G_iconst (n := 0) d_Re_readChoice_41 (by decide) (G_pc (pc' := 42) rfl ?_)
      refine G_callV (K1 := KE) (d2 := 1) (o := (20 + 9 * e)) (cl := 5) (as := [vi 151, vi (ts S_4), vi 0]) (rest := []) d_Re_readChoice_42 mf_St_add ml_Re_56 (kd_St he) rfl (by show 20 + 9 * e < 87; omega) rfl rfl (Nat.le_of_ble_eq_true rfl) (by omega) ⟨Nat.le_refl _, Nat.le_refl _⟩ (g_St_add (by omega) e 151 (ts S_4) 0 M15 he (by have h9 := RD_n hR16; omega)) (fun r17 M18 kq19 q19 => ?_)
      clear kq19; obtain ⟨q19a, q19b⟩ := q19; subst r17; subst M18
      rw [RD_n hR16]
      refine G_ps (pc' := 45) (st' := [vi ((S_4).length : Int)]) rfl rfl ?_
      refine G_abs (R := fun M9 => RD e M0 M9 (S_4 ++ [(151, ts S_4, 0, 0, 0, 0)]) (k_4 + 1) o_4 (a_4 + 1)) (RD_add hR16 (by first | decide | omega) he) (fun M20 hR21 => ?_)
      have hl22 : ((S_4 ++ [(151, ts S_4, 0, 0, 0, 0)]).length : Int) = (S_4).length + 1 := len_add _ _
      refine G_istore (i := 3) (len := 1) (ls' := [(3, vi ((S_4).length : Int)), (2, vi (ts S_4)), (0, vr 13), (1, vi dep)]) (Or.inl ⟨3, rfl, rfl, d_Re_readChoice_45⟩) (by decide) rfl (G_pc (pc' := 46) rfl ?_)
      refine G_aload (i := 0) (n := 2) (len := 1) (Or.inl ⟨0, rfl, rfl, d_Re_readChoice_46⟩) rfl (by decide) (G_pc (pc' := 47) rfl ?_)
      refine G_get (o := 13) (c := 4) (k := 4) (v := M20 13 4) d_Re_readChoice_47 fl_Re_34 rfl (by decide) (by decide) rfl rfl (G_pc (pc' := 50) rfl ?_)
      rw [show M20 13 4 = a_4 + 1 from RD_a hR21]
      refine G_iconst (n := 4) d_Re_readChoice_50 (by decide) (G_pc (pc' := 51) rfl ?_)
      refine G_icmp_gt (tgt := 59) d_Re_readChoice_51 (by decide) (fun h23 => ?_) (fun h23 => G_pc (pc' := 54) rfl ?_)
      · skip
        refine G_iconst (n := (-1)) d_Re_readChoice_59 (by decide) (G_pc (pc' := 60) rfl ?_)
        refine G_goto (tgt := 70) d_Re_readChoice_60 (by decide) ?_
        refine G_istore (i := 4) (len := 2) (ls' := [(4, vi (-1)), (3, vi ((S_4).length : Int)), (2, vi (ts S_4)), (0, vr 13), (1, vi dep)]) (Or.inr ⟨rfl, d_Re_readChoice_70⟩) (by decide) rfl (G_pc (pc' := 72) rfl ?_)
        refine G_iload (i := 4) (n := 0) (len := 2) (Or.inr ⟨rfl, d_Re_readChoice_72⟩) rfl (G_pc (pc' := 74) rfl ?_)
        refine G_iconst (n := (-1)) d_Re_readChoice_74 (by decide) (G_pc (pc' := 75) rfl ?_)
        refine G_icmp_eq (tgt := 87) d_Re_readChoice_75 (by decide) (fun h24 => ?_) (fun h24 => absurd h24 (by decide))
        refine G_iconst (n := (-1)) d_Re_readChoice_87 (by decide) (G_pc (pc' := 88) rfl ?_)
        refine G_iret d_Re_readChoice_88 rfl (tokI (by decide)) rfl rfl ?_
        exact Or.inl ⟨cho_4 hE_4 hc10 (by omega), rfl, hR21.1, by have h9 := RD_o hR21; omega⟩
      · skip
        refine G_iload (i := 3) (n := 0) (len := 1) (Or.inl ⟨3, rfl, rfl, d_Re_readChoice_54⟩) rfl (G_pc (pc' := 55) rfl ?_)
        refine G_iconst (n := (-1)) d_Re_readChoice_55 (by decide) (G_pc (pc' := 56) rfl ?_)
        refine G_icmp_ne (tgt := 63) d_Re_readChoice_56 (by decide) (fun h25 => ?_) (fun h25 => absurd h25 (by omega))
        refine G_aload (i := 0) (n := 2) (len := 1) (Or.inl ⟨0, rfl, rfl, d_Re_readChoice_63⟩) rfl (by decide) (G_pc (pc' := 64) rfl ?_)
        refine G_iload (i := 1) (n := 3) (len := 1) (Or.inl ⟨1, rfl, rfl, d_Re_readChoice_64⟩) rfl (G_pc (pc' := 65) rfl ?_)
        refine G_iconst (n := 1) d_Re_readChoice_65 (by decide) (G_pc (pc' := 66) rfl ?_)
        refine G_iadd d_Re_readChoice_66 (by omega) (G_pc (pc' := 67) rfl ?_)
        refine G_callV (K1 := KE) (d2 := d0) (o := 13) (cl := 4) (as := [vi (dep + 1)]) (rest := []) d_Re_readChoice_67 mf_Re_readChoice ml_Re_41 rfl rfl (by decide) rfl rfl (Nat.le_of_ble_eq_true rfl) (by omega) ⟨Nat.le_refl _, Nat.le_refl _⟩ (hC N_4 (S_4 ++ [(151, ts S_4, 0, 0, 0, 0)]) (k_4 + 1) o_4 (a_4 + 1) (dep + 1) M20 (by omega) hR21 (by omega) (by omega) (by omega) (by omega) (by omega)) (fun r26 M27 kq28 q28 => ?_)
        clear kq28
        rcases q28 with ⟨hE_29, rfl, hf_29, ho_29⟩ | ⟨k_29, N_29, S_29, o_29, a_29, c_29, hE_29, rfl, hR_29⟩
        · skip
          refine G_ps (pc' := 70) (st' := [vi (-1)]) rfl rfl ?_
          refine G_istore (i := 4) (len := 2) (ls' := [(4, vi (-1)), (3, vi ((S_4).length : Int)), (2, vi (ts S_4)), (0, vr 13), (1, vi dep)]) (Or.inr ⟨rfl, d_Re_readChoice_70⟩) (by decide) rfl (G_pc (pc' := 72) rfl ?_)
          refine G_iload (i := 4) (n := 0) (len := 2) (Or.inr ⟨rfl, d_Re_readChoice_72⟩) rfl (G_pc (pc' := 74) rfl ?_)
          refine G_iconst (n := (-1)) d_Re_readChoice_74 (by decide) (G_pc (pc' := 75) rfl ?_)
          refine G_icmp_eq (tgt := 87) d_Re_readChoice_75 (by decide) (fun h30 => ?_) (fun h30 => absurd h30 (by decide))
          refine G_iconst (n := (-1)) d_Re_readChoice_87 (by decide) (G_pc (pc' := 88) rfl ?_)
          refine G_iret d_Re_readChoice_88 rfl (tokI (by decide)) rfl rfl ?_
          exact Or.inl ⟨cho_rn hE_4 hc10 (by omega) hE_29, rfl, hf_29, by omega⟩
        · skip
          obtain ⟨⟨ja_29, jb_29, jc_29, jd_29, je_29, jf_29⟩, jg_29⟩ := hJ (k_4 + 1) N_4 (S_4 ++ [(151, ts S_4, 0, 0, 0, 0)]) o_4 (a_4 + 1) _ (by omega) (by omega) (by omega) hE_29
          have jc1_29 := jc_29.1; have jc2_29 := jc_29.2.1
          have jt_29 : ts S_29 = (S_29.length : Int) - 1 := rfl
          (try simp only [List.length_append, List.length_cons, List.length_nil, patch_len] at jc1_29 jc2_29)
          refine G_ps (pc' := 70) (st' := [vi (ts S_29)]) rfl rfl ?_
          refine G_istore (i := 4) (len := 2) (ls' := [(4, vi (ts S_29)), (3, vi ((S_4).length : Int)), (2, vi (ts S_4)), (0, vr 13), (1, vi dep)]) (Or.inr ⟨rfl, d_Re_readChoice_70⟩) (by decide) rfl (G_pc (pc' := 72) rfl ?_)
          refine G_iload (i := 4) (n := 0) (len := 2) (Or.inr ⟨rfl, d_Re_readChoice_72⟩) rfl (G_pc (pc' := 74) rfl ?_)
          refine G_iconst (n := (-1)) d_Re_readChoice_74 (by decide) (G_pc (pc' := 75) rfl ?_)
          refine G_icmp_eq (tgt := 87) d_Re_readChoice_75 (by decide) (fun h31 => absurd h31 (by omega)) (fun h31 => G_pc (pc' := 78) rfl ?_)
          refine G_aload (i := 0) (n := 3) (len := 1) (Or.inl ⟨0, rfl, rfl, d_Re_readChoice_78⟩) rfl (by decide) (G_pc (pc' := 79) rfl ?_)
          refine G_bipush (n := 58) d_Re_readChoice_79 (by decide) (G_pc (pc' := 81) rfl ?_)
          refine G_callV (K1 := KE) (d2 := 1) (o := 13) (cl := 4) (as := [vi 58]) (rest := []) d_Re_readChoice_81 mf_Re_takes ml_Re_52 rfl rfl (by decide) rfl rfl (Nat.le_of_ble_eq_true rfl) (by omega) ⟨Nat.le_refl _, Nat.le_refl _⟩ (g_Re_takes (by omega) e T W n M0 58 S_29 k_29 o_29 a_29 M27 he hTR hR_29 (by omega)) (fun r32 M33 kq34 q34 => ?_)
          clear kq34
          by_cases hc35 : tcode (T k_29) = 58
          · skip
            obtain ⟨q34a, q34b⟩ := q34.1 hc35
            subst r32; subst M33
            rw [tc_58 (TR_T hTR (by omega)).1] at hc35
            refine G_ps (pc' := 84) (st' := [vi 1]) rfl rfl ?_
            refine G_abs (R := fun M9 => RD e M0 M9 S_29 (k_29 + 1) o_29 a_29) (RD_nk (RD_sk hR_29) (by omega)) (fun M36 hR37 => ?_)
            have hq38 := (TR_T hTR (k := k_29) (by omega)).2
            refine G_if_ne (tgt := 89) d_Re_readChoice_84 (by decide) (fun h39 => ?_) (fun h39 => absurd h39 (by decide))
            refine G_aload (i := 0) (n := 3) (len := 1) (Or.inl ⟨0, rfl, rfl, d_Re_readChoice_89⟩) rfl (by decide) (G_pc (pc' := 90) rfl ?_)
            refine G_get (o := 13) (c := 4) (k := 1) (v := M36 13 1) d_Re_readChoice_90 fl_Re_18 rfl (by decide) (by decide) rfl rfl (G_pc (pc' := 93) rfl ?_)
            rw [show M36 13 1 = ((20 + 9 * e : Nat) : Int) from RD_st hR37 he hst]
            refine G_sipush (n := 150) d_Re_readChoice_93 (by decide) (G_pc (pc' := 96) rfl ?_)
            refine G_iload (i := 2) (n := 2) (len := 1) (Or.inl ⟨2, rfl, rfl, d_Re_readChoice_96⟩) rfl (G_pc (pc' := 97) rfl ?_)
            refine G_iconst (n := 0) d_Re_readChoice_97 (by decide) (G_pc (pc' := 98) rfl ?_)
            refine G_callV (K1 := KE) (d2 := 1) (o := (20 + 9 * e)) (cl := 5) (as := [vi 150, vi (ts S_4), vi 0]) (rest := []) d_Re_readChoice_98 mf_St_add ml_Re_56 (kd_St he) rfl (by show 20 + 9 * e < 87; omega) rfl rfl (Nat.le_of_ble_eq_true rfl) (by omega) ⟨Nat.le_refl _, Nat.le_refl _⟩ (g_St_add (by omega) e 150 (ts S_4) 0 M36 he (by have h9 := RD_n hR37; omega)) (fun r40 M41 kq42 q42 => ?_)
            clear kq42; obtain ⟨q42a, q42b⟩ := q42; subst r40; subst M41
            rw [RD_n hR37]
            refine G_ps (pc' := 101) (st' := [vi ((S_29).length : Int)]) rfl rfl ?_
            refine G_abs (R := fun M9 => RD e M0 M9 (S_29 ++ [(150, ts S_4, 0, 0, 0, 0)]) (k_29 + 1) o_29 a_29) (RD_add hR37 (by first | decide | omega) he) (fun M43 hR44 => ?_)
            have hl45 : ((S_29 ++ [(150, ts S_4, 0, 0, 0, 0)]).length : Int) = (S_29).length + 1 := len_add _ _
            refine G_istore (i := 5) (len := 2) (ls' := [(5, vi ((S_29).length : Int)), (4, vi (ts S_29)), (3, vi ((S_4).length : Int)), (2, vi (ts S_4)), (0, vr 13), (1, vi dep)]) (Or.inr ⟨rfl, d_Re_readChoice_101⟩) (by decide) rfl (G_pc (pc' := 103) rfl ?_)
            refine G_aload (i := 0) (n := 4) (len := 1) (Or.inl ⟨0, rfl, rfl, d_Re_readChoice_103⟩) rfl (by decide) (G_pc (pc' := 104) rfl ?_)
            refine G_get (o := 13) (c := 4) (k := 1) (v := M43 13 1) d_Re_readChoice_104 fl_Re_18 rfl (by decide) (by decide) rfl rfl (G_pc (pc' := 107) rfl ?_)
            rw [show M43 13 1 = ((20 + 9 * e : Nat) : Int) from RD_st hR44 he hst]
            refine G_iload (i := 3) (n := 2) (len := 1) (Or.inl ⟨3, rfl, rfl, d_Re_readChoice_107⟩) rfl (G_pc (pc' := 108) rfl ?_)
            refine G_aload (i := 0) (n := 4) (len := 1) (Or.inl ⟨0, rfl, rfl, d_Re_readChoice_108⟩) rfl (by decide) (G_pc (pc' := 109) rfl ?_)
            refine G_get (o := 13) (c := 4) (k := 1) (v := M43 13 1) d_Re_readChoice_109 fl_Re_18 rfl (by decide) (by decide) rfl rfl (G_pc (pc' := 112) rfl ?_)
            rw [show M43 13 1 = ((20 + 9 * e : Nat) : Int) from RD_st hR44 he hst]
            refine G_callV (K1 := KE) (d2 := 0) (o := (20 + 9 * e)) (cl := 5) (as := []) (rest := [vi ((S_4).length : Int), vr ((20 + 9 * e : Nat) : Int)]) d_Re_readChoice_112 mf_St_size ml_Re_60 (kd_St he) rfl (by show 20 + 9 * e < 87; omega) rfl rfl (Nat.le_of_ble_eq_true rfl) (by omega) ⟨Nat.le_refl _, Nat.le_refl _⟩ (g_St_size (by omega) e M43 he) (fun r46 M47 kq48 q48 => ?_)
            clear kq48; obtain ⟨q48a, q48b⟩ := q48; subst r46; subst M47
            rw [RD_n hR44]
            refine G_ps (pc' := 115) (st' := [vi (((S_29 ++ [(150, ts S_4, 0, 0, 0, 0)])).length : Int), vi ((S_4).length : Int), vr ((20 + 9 * e : Nat) : Int)]) rfl rfl ?_
            rw [len_add]
            refine G_callV (K1 := KE) (d2 := 0) (o := (20 + 9 * e)) (cl := 5) (as := [vi ((S_4).length : Int), vi (((S_29).length : Int) + 1)]) (rest := []) d_Re_readChoice_115 mf_St_leadSkip ml_Re_64 (kd_St he) rfl (by show 20 + 9 * e < 87; omega) rfl rfl (Nat.le_of_ble_eq_true rfl) (by omega) ⟨Nat.le_refl _, Nat.le_refl _⟩ (g_St_leadSkip (by omega) e ((S_4).length : Int) (((S_29).length : Int) + 1) M43 he (by omega)) (fun r49 M50 kq51 q51 => ?_)
            clear kq51; obtain ⟨q51a, q51b⟩ := q51; subst r49; subst M50
            refine G_ps (pc' := 118) (st' := []) rfl rfl ?_
            refine G_abs (R := fun M9 => RD e M0 M9 (patchS (S_29 ++ [(150, ts S_4, 0, 0, 0, 0)]) (S_4).length (((S_29).length : Int) + 1)) (k_29 + 1) o_29 a_29) (RD_lead (i := (S_4).length) hR44 he (by simp only [List.length_append, List.length_cons, List.length_nil, patch_len] at *; omega)) (fun M52 hR53 => ?_)
            have hl54 : ((patchS (S_29 ++ [(150, ts S_4, 0, 0, 0, 0)]) (S_4).length (((S_29).length : Int) + 1))).length = ((S_29 ++ [(150, ts S_4, 0, 0, 0, 0)])).length := patch_len
            refine G_iload (i := 5) (n := 0) (len := 2) (Or.inr ⟨rfl, d_Re_readChoice_118⟩) rfl (G_pc (pc' := 120) rfl ?_)
            refine G_iconst (n := (-1)) d_Re_readChoice_120 (by decide) (G_pc (pc' := 121) rfl ?_)
            refine G_icmp_ne (tgt := 128) d_Re_readChoice_121 (by decide) (fun h55 => ?_) (fun h55 => absurd h55 (by omega))
            refine G_aload (i := 0) (n := 4) (len := 1) (Or.inl ⟨0, rfl, rfl, d_Re_readChoice_128⟩) rfl (by decide) (G_pc (pc' := 129) rfl ?_)
            refine G_iload (i := 1) (n := 5) (len := 1) (Or.inl ⟨1, rfl, rfl, d_Re_readChoice_129⟩) rfl (G_pc (pc' := 130) rfl ?_)
            refine G_iconst (n := 1) d_Re_readChoice_130 (by decide) (G_pc (pc' := 131) rfl ?_)
            refine G_iadd d_Re_readChoice_131 (by omega) (G_pc (pc' := 132) rfl ?_)
            refine G_callV (K1 := KE) (d2 := d0) (o := 13) (cl := 4) (as := [vi (dep + 1)]) (rest := []) d_Re_readChoice_132 mf_Re_readChoice ml_Re_41 rfl rfl (by decide) rfl rfl (Nat.le_of_ble_eq_true rfl) (by omega) ⟨Nat.le_refl _, Nat.le_refl _⟩ (hC N_29 (patchS (S_29 ++ [(150, ts S_4, 0, 0, 0, 0)]) (S_4).length (((S_29).length : Int) + 1)) (k_29 + 1) o_29 a_29 (dep + 1) M52 (by omega) hR53 (by omega) (by omega) (by omega) (by omega) (by omega)) (fun r56 M57 kq58 q58 => ?_)
            clear kq58
            rcases q58 with ⟨hE_59, rfl, hf_59, ho_59⟩ | ⟨k_59, N_59, S_59, o_59, a_59, c_59, hE_59, rfl, hR_59⟩
            · skip
              refine G_ps (pc' := 135) (st' := [vi (-1)]) rfl rfl ?_
              refine G_istore (i := 6) (len := 2) (ls' := [(6, vi (-1)), (5, vi ((S_29).length : Int)), (4, vi (ts S_29)), (3, vi ((S_4).length : Int)), (2, vi (ts S_4)), (0, vr 13), (1, vi dep)]) (Or.inr ⟨rfl, d_Re_readChoice_135⟩) (by decide) rfl (G_pc (pc' := 137) rfl ?_)
              refine G_iload (i := 6) (n := 0) (len := 2) (Or.inr ⟨rfl, d_Re_readChoice_137⟩) rfl (G_pc (pc' := 139) rfl ?_)
              refine G_iconst (n := (-1)) d_Re_readChoice_139 (by decide) (G_pc (pc' := 140) rfl ?_)
              refine G_icmp_ne (tgt := 145) d_Re_readChoice_140 (by decide) (fun h60 => absurd h60 (by decide)) (fun h60 => G_pc (pc' := 143) rfl ?_)
              refine G_iconst (n := (-1)) d_Re_readChoice_143 (by decide) (G_pc (pc' := 144) rfl ?_)
              refine G_iret d_Re_readChoice_144 rfl (tokI (by decide)) rfl rfl ?_
              exact Or.inl ⟨cho_yn hE_4 hc10 (by omega) hE_29 hc35 (hE_59), rfl, hf_59, by omega⟩
            · skip
              obtain ⟨⟨ja_59, jb_59, jc_59, jd_59, je_59, jf_59⟩, jg_59⟩ := hJ (k_29 + 1) N_29 (patchS (S_29 ++ [(150, ts S_4, 0, 0, 0, 0)]) (S_4).length (((S_29).length : Int) + 1)) o_29 a_29 _ (by omega) (by omega) (by omega) hE_59
              have jc1_59 := jc_59.1; have jc2_59 := jc_59.2.1
              have jt_59 : ts S_59 = (S_59.length : Int) - 1 := rfl
              (try simp only [List.length_append, List.length_cons, List.length_nil, patch_len] at jc1_59 jc2_59)
              refine G_ps (pc' := 135) (st' := [vi (ts S_59)]) rfl rfl ?_
              refine G_istore (i := 6) (len := 2) (ls' := [(6, vi (ts S_59)), (5, vi ((S_29).length : Int)), (4, vi (ts S_29)), (3, vi ((S_4).length : Int)), (2, vi (ts S_4)), (0, vr 13), (1, vi dep)]) (Or.inr ⟨rfl, d_Re_readChoice_135⟩) (by decide) rfl (G_pc (pc' := 137) rfl ?_)
              refine G_iload (i := 6) (n := 0) (len := 2) (Or.inr ⟨rfl, d_Re_readChoice_137⟩) rfl (G_pc (pc' := 139) rfl ?_)
              refine G_iconst (n := (-1)) d_Re_readChoice_139 (by decide) (G_pc (pc' := 140) rfl ?_)
              refine G_icmp_ne (tgt := 145) d_Re_readChoice_140 (by decide) (fun h61 => ?_) (fun h61 => absurd h61 (by omega))
              refine G_aload (i := 0) (n := 5) (len := 1) (Or.inl ⟨0, rfl, rfl, d_Re_readChoice_145⟩) rfl (by decide) (G_pc (pc' := 146) rfl ?_)
              refine G_get (o := 13) (c := 4) (k := 1) (v := M57 13 1) d_Re_readChoice_146 fl_Re_18 rfl (by decide) (by decide) rfl rfl (G_pc (pc' := 149) rfl ?_)
              rw [show M57 13 1 = ((20 + 9 * e : Nat) : Int) from RD_st hR_59 he hst]
              refine G_iload (i := 5) (n := 1) (len := 2) (Or.inr ⟨rfl, d_Re_readChoice_149⟩) rfl (G_pc (pc' := 151) rfl ?_)
              refine G_aload (i := 0) (n := 5) (len := 1) (Or.inl ⟨0, rfl, rfl, d_Re_readChoice_151⟩) rfl (by decide) (G_pc (pc' := 152) rfl ?_)
              refine G_get (o := 13) (c := 4) (k := 1) (v := M57 13 1) d_Re_readChoice_152 fl_Re_18 rfl (by decide) (by decide) rfl rfl (G_pc (pc' := 155) rfl ?_)
              rw [show M57 13 1 = ((20 + 9 * e : Nat) : Int) from RD_st hR_59 he hst]
              refine G_callV (K1 := KE) (d2 := 0) (o := (20 + 9 * e)) (cl := 5) (as := []) (rest := [vi ((S_29).length : Int), vr ((20 + 9 * e : Nat) : Int)]) d_Re_readChoice_155 mf_St_size ml_Re_60 (kd_St he) rfl (by show 20 + 9 * e < 87; omega) rfl rfl (Nat.le_of_ble_eq_true rfl) (by omega) ⟨Nat.le_refl _, Nat.le_refl _⟩ (g_St_size (by omega) e M57 he) (fun r62 M63 kq64 q64 => ?_)
              clear kq64; obtain ⟨q64a, q64b⟩ := q64; subst r62; subst M63
              rw [RD_n hR_59]
              refine G_ps (pc' := 158) (st' := [vi ((S_59).length : Int), vi ((S_29).length : Int), vr ((20 + 9 * e : Nat) : Int)]) rfl rfl ?_
              refine G_callV (K1 := KE) (d2 := 0) (o := (20 + 9 * e)) (cl := 5) (as := [vi ((S_29).length : Int), vi ((S_59).length : Int)]) (rest := []) d_Re_readChoice_158 mf_St_leadSkip ml_Re_64 (kd_St he) rfl (by show 20 + 9 * e < 87; omega) rfl rfl (Nat.le_of_ble_eq_true rfl) (by omega) ⟨Nat.le_refl _, Nat.le_refl _⟩ (g_St_leadSkip (by omega) e ((S_29).length : Int) ((S_59).length : Int) M57 he (by omega)) (fun r65 M66 kq67 q67 => ?_)
              clear kq67; obtain ⟨q67a, q67b⟩ := q67; subst r65; subst M66
              refine G_ps (pc' := 161) (st' := []) rfl rfl ?_
              refine G_abs (R := fun M9 => RD e M0 M9 (patchS S_59 (S_29).length ((S_59).length : Int)) k_59 o_59 a_59) (RD_lead (i := (S_29).length) hR_59 he (by simp only [List.length_append, List.length_cons, List.length_nil, patch_len] at *; omega)) (fun M68 hR69 => ?_)
              have hl70 : ((patchS S_59 (S_29).length ((S_59).length : Int))).length = (S_59).length := patch_len
              refine G_aload (i := 0) (n := 5) (len := 1) (Or.inl ⟨0, rfl, rfl, d_Re_readChoice_161⟩) rfl (by decide) (G_pc (pc' := 162) rfl ?_)
              refine G_get (o := 13) (c := 4) (k := 1) (v := M68 13 1) d_Re_readChoice_162 fl_Re_18 rfl (by decide) (by decide) rfl rfl (G_pc (pc' := 165) rfl ?_)
              rw [show M68 13 1 = ((20 + 9 * e : Nat) : Int) from RD_st hR69 he hst]
              refine G_sipush (n := 149) d_Re_readChoice_165 (by decide) (G_pc (pc' := 168) rfl ?_)
              refine G_iload (i := 2) (n := 4) (len := 1) (Or.inl ⟨2, rfl, rfl, d_Re_readChoice_168⟩) rfl (G_pc (pc' := 169) rfl ?_)
              refine G_iload (i := 4) (n := 2) (len := 2) (Or.inr ⟨rfl, d_Re_readChoice_169⟩) rfl (G_pc (pc' := 171) rfl ?_)
              refine G_iload (i := 6) (n := 0) (len := 2) (Or.inr ⟨rfl, d_Re_readChoice_171⟩) rfl (G_pc (pc' := 173) rfl ?_)
              refine G_callV (K1 := KE) (d2 := 0) (o := (20 + 9 * e)) (cl := 5) (as := [vi 149, vi (ts S_4), vi (ts S_29), vi (ts S_59)]) (rest := []) d_Re_readChoice_173 mf_St_addThree ml_Re_68 (kd_St he) rfl (by show 20 + 9 * e < 87; omega) rfl rfl (Nat.le_of_ble_eq_true rfl) (by omega) ⟨Nat.le_refl _, Nat.le_refl _⟩ (g_St_addThree (by omega) e 149 (ts S_4) (ts S_29) (ts S_59) M68 he (by have h9 := RD_n hR69; omega)) (fun r71 M72 kq73 q73 => ?_)
              clear kq73; obtain ⟨q73a, q73b⟩ := q73; subst r71; subst M72
              rw [RD_n hR69]
              refine G_ps (pc' := 176) (st' := [vi (((patchS S_59 (S_29).length ((S_59).length : Int))).length : Int)]) rfl rfl ?_
              refine G_abs (R := fun M9 => RD e M0 M9 ((patchS S_59 (S_29).length ((S_59).length : Int)) ++ [(149, ts S_4, ts S_29, ts S_59, 0, 0)]) k_59 o_59 a_59) (RD_add hR69 (by first | decide | omega) he) (fun M74 hR75 => ?_)
              have hl76 : (((patchS S_59 (S_29).length ((S_59).length : Int)) ++ [(149, ts S_4, ts S_29, ts S_59, 0, 0)]).length : Int) = ((patchS S_59 (S_29).length ((S_59).length : Int))).length + 1 := len_add _ _
              refine G_iret d_Re_readChoice_176 rfl (tokI (by omega)) rfl rfl ?_
              exact Or.inr ⟨_, _, _, _, _, _, cho_s hE_4 hc10 (by omega) hE_29 hc35 hE_59, by rw [ts_add], hR75⟩
          · skip
            obtain ⟨q34a, q34b⟩ := q34.2 hc35
            subst r32; subst M33
            rw [tc_58 (TR_T hTR (by omega)).1] at hc35
            refine G_ps (pc' := 84) (st' := [vi 0]) rfl rfl ?_
            refine G_if_ne (tgt := 89) d_Re_readChoice_84 (by decide) (fun h77 => absurd h77 (by decide)) (fun h77 => G_pc (pc' := 87) rfl ?_)
            refine G_iconst (n := (-1)) d_Re_readChoice_87 (by decide) (G_pc (pc' := 88) rfl ?_)
            refine G_iret d_Re_readChoice_88 rfl (tokI (by decide)) rfl rfl ?_
            exact Or.inl ⟨cho_c hE_4 hc10 (by omega) hE_29 hc35, rfl, hR_29.1, by have h9 := RD_o hR_29; omega⟩
    · skip
      obtain ⟨q9a, q9b⟩ := q9.2 hc10
      subst r7; subst M8
      rw [tc_63 (TR_T hTR (by omega)).1] at hc10
      refine G_ps (pc' := 18) (st' := [vi 0]) rfl rfl ?_
      refine G_if_ne (tgt := 23) d_Re_readChoice_18 (by decide) (fun h78 => absurd h78 (by decide)) (fun h78 => G_pc (pc' := 21) rfl ?_)
      refine G_iload (i := 2) (n := 0) (len := 1) (Or.inl ⟨2, rfl, rfl, d_Re_readChoice_21⟩) rfl (G_pc (pc' := 22) rfl ?_)
      refine G_iret d_Re_readChoice_22 rfl (tokI (by omega)) rfl rfl ?_
      exact Or.inr ⟨_, _, _, _, _, _, cho_x hE_4 hc10, rfl, hR_4⟩

section RA
variable {X : WX} {e : Nat} {T W : Int → Int} {n : Int} {M0 : Mem}
theorem read_all (he : e < 4) (hTR : TR M0 T W n) (hst : M0 13 1 = ((20 + 9 * e : Nat) : Int)) : ∀ (f d : Nat), 3 * f + 30 ≤ d →
    (∀ l, CH X d e n M0 f (desc T W f 0 l)) ∧ (∀ l, 1 ≤ l → l ≤ 11 → CB X d e n M0 f (desc T W f 1 l) l ∧ ∀ dep o, 0 ≤ dep → (0 ≤ o ∧ o ≤ 6) → LB X d e T n M0 f l (desc T W f 2 l) dep o) ∧
    (∀ l, CU X d e n M0 f (desc T W f 3 l) ∧ CO X d e n M0 f (desc T W f 4 l) ∧ ∀ dep o, 0 ≤ dep → (0 ≤ o ∧ o ≤ 6) → LO X d e n M0 f (desc T W f 5 l) dep o) := by
  have hT := TR_tkn hTR
  intro f
  induction f with
  | zero =>
    intro d _
    refine ⟨fun l N S k o a dep M hb hR hk => ?_, fun l _ _ => ⟨fun N S k o a dep M hb hR hk => ?_, fun dep o _ _ N S k a c m cnt M hb hR hk => ?_⟩, fun l => ⟨fun N S k o a dep M hb hR hk => ?_, fun N S k o a dep M hb hR hk => ?_, fun dep o _ _ N S k a cnt M hb hR hk => ?_⟩⟩ <;> (exfalso; simp at hb; omega)
  | succ f ih =>
    intro d hd
    obtain ⟨i0, i1, i3⟩ := ih (d - 3) (by omega)
    obtain ⟨k0, k1, k3⟩ := ih d (by omega)
    obtain ⟨j0, j1, j3⟩ := j_desc (W := W) hT f
    obtain ⟨e1, e3⟩ := e_desc (T := T) (W := W) f
    refine ⟨fun l N S k o a dep M hb hR hk ho ha hS hdep => ?_, fun l l1 l2 => ⟨fun N S k o a dep M hb hR hk ho ha hS hdep => ?_, fun dep o hd0 ho N S k a c m cnt M hb hR hk ha hS hS1 hcnt hdep hc hm0 hm1 hm2 => ?_⟩,
      fun l => ⟨fun N S k o a dep M hb hR hk ho ha hS hdep => ?_, fun N S k o a dep M hb hR hk ho ha hS hdep => ?_, fun dep o hd0 ho N S k a cnt M hb hR hk ha hS hS1 hcnt hdep => ?_⟩⟩
    · exact g_Re_readChoice (by omega) e T W n M0 f N S k o a dep (desc T W f 1 1) (desc T W f 0 0) (d - 3) M he hTR hst hR hk ho ha hS hdep (by omega) (by omega) (i1 1 (by decide) (by decide)).1 (j1 1 (by decide) (by decide)).1 (i0 0) (j0 0) (by omega)
    · exact g_Re_readBinary (by omega) e T W n M0 f N S k o a dep l (desc T W f 3 0) (desc T W f 2 l) (d - 3) M he hTR hst hR hk ho ha hS hdep (by omega) (by omega) (i3 0).1 (j3 0).1 (e3 0).1 ((k1 l l1 l2).2 dep o hdep.1 ho) (by omega)
    · exact l_binary (by omega) e T W n M0 f N S k o a dep c m cnt l (fun l => desc T W f 1 l) (desc T W f 2 l) (d - 3) M he hTR hst hR hk ho ha hS hS1 hcnt ⟨hd0, hdep⟩ hc hm0 hm1 hm2 ⟨l1, l2⟩ (by omega) (by omega) (fun q q1 q2 => (i1 q q1 q2).1) (fun q q1 q2 => (j1 q q1 q2).1) (fun q q1 q2 => (e1 q q1 q2).1) ((k1 l l1 l2).2 dep o hd0 ho) (by omega)
    · exact g_Re_readUnary (by omega) e T W n M0 f N S k o a dep (desc T W f 3 0) (desc T W f 4 0) (d - 3) M he hTR hst hR hk ho ha hS hdep (by omega) (by omega) (i3 0).1 (i3 0).2.1 (j3 0).1 (j_unary hT (j3 0).1 (j3 0).2.1) (by omega)
    · exact g_Re_readOperand (by omega) e T W n M0 f N S k o a dep (desc T W f 0 0) (desc T W f 5 0) (d - 3) M he hTR hst hR hk ho ha hS hdep (by omega) (by omega) (i0 0) (j0 0) ((k3 0).2.2 dep o hdep.1 ho) (by omega)
    · exact l_operand (by omega) e T W n M0 f N S k o a dep 0 cnt (desc T W f 0 0) (desc T W f 5 0) (d - 3) M he hTR hst hR hk ho ha hS hS1 hcnt ⟨hd0, hdep⟩ (by omega) (by omega) (i0 0) (j0 0) ((k3 0).2.2 dep o hd0 ho) (by omega)
end RA
