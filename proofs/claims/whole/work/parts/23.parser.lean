theorem cons1 {O : List Int} (h : 1 ≤ O.length) : ∃ x Y, O = x :: Y := by
  cases O with
  | nil => simp at h
  | cons x Y => exact ⟨x, Y, rfl⟩
theorem cons2 {O : List Int} (h : 2 ≤ O.length) : ∃ x y Y, O = x :: y :: Y := by
  obtain ⟨x, Y, rfl⟩ := cons1 (show 1 ≤ O.length by omega)
  obtain ⟨y, Z, rfl⟩ := @cons1 Y (by simp at h; omega)
  exact ⟨x, y, Z, rfl⟩
theorem cons3 {O : List Int} (h : 3 ≤ O.length) : ∃ x y z Y, O = x :: y :: z :: Y := by
  obtain ⟨x, y, Y, rfl⟩ := cons2 (show 2 ≤ O.length by omega)
  obtain ⟨z, Z, rfl⟩ := @cons1 Y (by simp at h; omega)
  exact ⟨x, y, z, Z, rfl⟩
theorem redL_1 {least t k x : Int} {N : List ND} {O : List Int} {P : List (Int × Int)} (h : isS t = true) : reduceL least N (x :: O) ((t, k) :: P) = reduceL least (N ++ [(t, x, -1, -1, k)]) ((N.length : Int) :: O) P := by
  rw [reduceL_s (by unfold redB; simp [h])]; unfold redN arW; rw [if_pos h, if_pos h]; rfl
theorem redL_2 {least t k x y : Int} {N : List ND} {O : List Int} {P : List (Int × Int)} (h : ¬ isS t = true) (h2 : least ≤ bdV t) (h3 : 0 < bdV t) : reduceL least N (y :: x :: O) ((t, k) :: P) = reduceL least (N ++ [(t, x, y, -1, k)]) ((N.length : Int) :: O) P := by
  have h26 : ¬ t = 26 := fun e => by rw [e] at h3; revert h3; decide
  have h20 : ¬ t = 20 := fun e => by rw [e] at h3; revert h3; decide
  rw [reduceL_s (by unfold redB; simp [h2, h3])]; unfold redN arW; rw [if_neg h, if_neg h, if_neg h26, if_neg h26, if_neg h20]; rfl
theorem redL_3 {least t k x y z : Int} {N : List ND} {O : List Int} {P : List (Int × Int)} (h : t = 26) (h2 : least = 0) : reduceL least N (z :: y :: x :: O) ((t, k) :: P) = reduceL least (N ++ [(65, x, y, z, 0)]) ((N.length : Int) :: O) P := by
  subst h; subst h2
  rw [reduceL_s (by decide)]; rfl
theorem d_Mo_reduce_0 : decode b_Mo_reduce 0 = .ok (.iconst 1, 1) := by decide +kernel
theorem d_Mo_reduce_1 : decode b_Mo_reduce 1 = .ok (.istore_n 2, 1) := by decide +kernel
theorem d_Mo_reduce_2 : decode b_Mo_reduce 2 = .ok (.iload_n 2, 1) := by decide +kernel
theorem d_Mo_reduce_3 : decode b_Mo_reduce 3 = .ok (.ifCond .eq 175, 3) := by decide +kernel
theorem d_Mo_reduce_6 : decode b_Mo_reduce 6 = .ok (.aload_n 0, 1) := by decide +kernel
theorem d_Mo_reduce_7 : decode b_Mo_reduce 7 = .ok (.getfield 213, 3) := by decide +kernel
theorem d_Mo_reduce_10 : decode b_Mo_reduce 10 = .ok (.ifCond .le 168, 3) := by decide +kernel
theorem d_Mo_reduce_13 : decode b_Mo_reduce 13 = .ok (.aload_n 0, 1) := by decide +kernel
theorem d_Mo_reduce_14 : decode b_Mo_reduce 14 = .ok (.invokevirtual 216, 3) := by decide +kernel
theorem d_Mo_reduce_17 : decode b_Mo_reduce 17 = .ok (.istore_n 3, 1) := by decide +kernel
theorem d_Mo_reduce_18 : decode b_Mo_reduce 18 = .ok (.iload_n 3, 1) := by decide +kernel
theorem d_Mo_reduce_19 : decode b_Mo_reduce 19 = .ok (.bipush 100, 2) := by decide +kernel
theorem d_Mo_reduce_21 : decode b_Mo_reduce 21 = .ok (.if_icmp .gt 9, 3) := by decide +kernel
theorem d_Mo_reduce_24 : decode b_Mo_reduce 24 = .ok (.iload_n 3, 1) := by decide +kernel
theorem d_Mo_reduce_25 : decode b_Mo_reduce 25 = .ok (.bipush 64, 2) := by decide +kernel
theorem d_Mo_reduce_27 : decode b_Mo_reduce 27 = .ok (.if_icmp .ne 7, 3) := by decide +kernel
theorem d_Mo_reduce_30 : decode b_Mo_reduce 30 = .ok (.iconst 1, 1) := by decide +kernel
theorem d_Mo_reduce_31 : decode b_Mo_reduce 31 = .ok (.goto 4, 3) := by decide +kernel
theorem d_Mo_reduce_34 : decode b_Mo_reduce 34 = .ok (.iconst 0, 1) := by decide +kernel
theorem d_Mo_reduce_35 : decode b_Mo_reduce 35 = .ok (.istore 4, 2) := by decide +kernel
theorem d_Mo_reduce_37 : decode b_Mo_reduce 37 = .ok (.iload 4, 2) := by decide +kernel
theorem d_Mo_reduce_39 : decode b_Mo_reduce 39 = .ok (.ifCond .ne 28, 3) := by decide +kernel
theorem d_Mo_reduce_42 : decode b_Mo_reduce 42 = .ok (.iload_n 3, 1) := by decide +kernel
theorem d_Mo_reduce_43 : decode b_Mo_reduce 43 = .ok (.invokestatic 220, 3) := by decide +kernel
theorem d_Mo_reduce_46 : decode b_Mo_reduce 46 = .ok (.iload_n 1, 1) := by decide +kernel
theorem d_Mo_reduce_47 : decode b_Mo_reduce 47 = .ok (.if_icmp .lt 10, 3) := by decide +kernel
theorem d_Mo_reduce_50 : decode b_Mo_reduce 50 = .ok (.iload_n 3, 1) := by decide +kernel
theorem d_Mo_reduce_51 : decode b_Mo_reduce 51 = .ok (.invokestatic 220, 3) := by decide +kernel
theorem d_Mo_reduce_54 : decode b_Mo_reduce 54 = .ok (.ifCond .gt 13, 3) := by decide +kernel
theorem d_Mo_reduce_57 : decode b_Mo_reduce 57 = .ok (.iload_n 3, 1) := by decide +kernel
theorem d_Mo_reduce_58 : decode b_Mo_reduce 58 = .ok (.bipush 26, 2) := by decide +kernel
theorem d_Mo_reduce_60 : decode b_Mo_reduce 60 = .ok (.if_icmp .ne 11, 3) := by decide +kernel
theorem d_Mo_reduce_63 : decode b_Mo_reduce 63 = .ok (.iload_n 1, 1) := by decide +kernel
theorem d_Mo_reduce_64 : decode b_Mo_reduce 64 = .ok (.ifCond .ne 7, 3) := by decide +kernel
theorem d_Mo_reduce_67 : decode b_Mo_reduce 67 = .ok (.iconst 1, 1) := by decide +kernel
theorem d_Mo_reduce_68 : decode b_Mo_reduce 68 = .ok (.goto 4, 3) := by decide +kernel
theorem d_Mo_reduce_71 : decode b_Mo_reduce 71 = .ok (.iconst 0, 1) := by decide +kernel
theorem d_Mo_reduce_72 : decode b_Mo_reduce 72 = .ok (.istore_n 2, 1) := by decide +kernel
theorem d_Mo_reduce_73 : decode b_Mo_reduce 73 = .ok (.iload_n 2, 1) := by decide +kernel
theorem d_Mo_reduce_74 : decode b_Mo_reduce 74 = .ok (.ifCond .ne 4, 3) := by decide +kernel
theorem d_Mo_reduce_77 : decode b_Mo_reduce 77 = .ok (.return_, 1) := by decide +kernel
theorem d_Mo_reduce_78 : decode b_Mo_reduce 78 = .ok (.aload_n 0, 1) := by decide +kernel
theorem d_Mo_reduce_79 : decode b_Mo_reduce 79 = .ok (.dup, 1) := by decide +kernel
theorem d_Mo_reduce_80 : decode b_Mo_reduce 80 = .ok (.getfield 213, 3) := by decide +kernel
theorem d_Mo_reduce_83 : decode b_Mo_reduce 83 = .ok (.iconst 1, 1) := by decide +kernel
theorem d_Mo_reduce_84 : decode b_Mo_reduce 84 = .ok (.isub, 1) := by decide +kernel
theorem d_Mo_reduce_85 : decode b_Mo_reduce 85 = .ok (.putfield 213, 3) := by decide +kernel
theorem d_Mo_reduce_88 : decode b_Mo_reduce 88 = .ok (.iload 4, 2) := by decide +kernel
theorem d_Mo_reduce_90 : decode b_Mo_reduce 90 = .ok (.ifCond .eq 7, 3) := by decide +kernel
theorem d_Mo_reduce_93 : decode b_Mo_reduce 93 = .ok (.iconst (-1), 1) := by decide +kernel
theorem d_Mo_reduce_94 : decode b_Mo_reduce 94 = .ok (.goto 7, 3) := by decide +kernel
theorem d_Mo_reduce_97 : decode b_Mo_reduce 97 = .ok (.aload_n 0, 1) := by decide +kernel
theorem d_Mo_reduce_98 : decode b_Mo_reduce 98 = .ok (.invokevirtual 223, 3) := by decide +kernel
theorem d_Mo_reduce_101 : decode b_Mo_reduce 101 = .ok (.istore 5, 2) := by decide +kernel
theorem d_Mo_reduce_103 : decode b_Mo_reduce 103 = .ok (.iload_n 3, 1) := by decide +kernel
theorem d_Mo_reduce_104 : decode b_Mo_reduce 104 = .ok (.bipush 26, 2) := by decide +kernel
theorem d_Mo_reduce_106 : decode b_Mo_reduce 106 = .ok (.if_icmp .ne 10, 3) := by decide +kernel
theorem d_Mo_reduce_109 : decode b_Mo_reduce 109 = .ok (.aload_n 0, 1) := by decide +kernel
theorem d_Mo_reduce_110 : decode b_Mo_reduce 110 = .ok (.invokevirtual 223, 3) := by decide +kernel
theorem d_Mo_reduce_113 : decode b_Mo_reduce 113 = .ok (.goto 4, 3) := by decide +kernel
theorem d_Mo_reduce_116 : decode b_Mo_reduce 116 = .ok (.iconst (-1), 1) := by decide +kernel
theorem d_Mo_reduce_117 : decode b_Mo_reduce 117 = .ok (.istore 6, 2) := by decide +kernel
theorem d_Mo_reduce_119 : decode b_Mo_reduce 119 = .ok (.aload_n 0, 1) := by decide +kernel
theorem d_Mo_reduce_120 : decode b_Mo_reduce 120 = .ok (.invokevirtual 223, 3) := by decide +kernel
theorem d_Mo_reduce_123 : decode b_Mo_reduce 123 = .ok (.istore 7, 2) := by decide +kernel
theorem d_Mo_reduce_125 : decode b_Mo_reduce 125 = .ok (.iload_n 3, 1) := by decide +kernel
theorem d_Mo_reduce_126 : decode b_Mo_reduce 126 = .ok (.bipush 26, 2) := by decide +kernel
theorem d_Mo_reduce_128 : decode b_Mo_reduce 128 = .ok (.if_icmp .ne 23, 3) := by decide +kernel
theorem d_Mo_reduce_131 : decode b_Mo_reduce 131 = .ok (.aload_n 0, 1) := by decide +kernel
theorem d_Mo_reduce_132 : decode b_Mo_reduce 132 = .ok (.aload_n 0, 1) := by decide +kernel
theorem d_Mo_reduce_133 : decode b_Mo_reduce 133 = .ok (.bipush 65, 2) := by decide +kernel
theorem d_Mo_reduce_135 : decode b_Mo_reduce 135 = .ok (.iload 7, 2) := by decide +kernel
theorem d_Mo_reduce_137 : decode b_Mo_reduce 137 = .ok (.iload 6, 2) := by decide +kernel
theorem d_Mo_reduce_139 : decode b_Mo_reduce 139 = .ok (.iload 5, 2) := by decide +kernel
theorem d_Mo_reduce_141 : decode b_Mo_reduce 141 = .ok (.lconst 0, 1) := by decide +kernel
theorem d_Mo_reduce_142 : decode b_Mo_reduce 142 = .ok (.invokevirtual 226, 3) := by decide +kernel
theorem d_Mo_reduce_145 : decode b_Mo_reduce 145 = .ok (.invokevirtual 230, 3) := by decide +kernel
theorem d_Mo_reduce_148 : decode b_Mo_reduce 148 = .ok (.goto 27, 3) := by decide +kernel
theorem d_Mo_reduce_151 : decode b_Mo_reduce 151 = .ok (.aload_n 0, 1) := by decide +kernel
theorem d_Mo_reduce_152 : decode b_Mo_reduce 152 = .ok (.aload_n 0, 1) := by decide +kernel
theorem d_Mo_reduce_153 : decode b_Mo_reduce 153 = .ok (.iload_n 3, 1) := by decide +kernel
theorem d_Mo_reduce_154 : decode b_Mo_reduce 154 = .ok (.iload 7, 2) := by decide +kernel
theorem d_Mo_reduce_156 : decode b_Mo_reduce 156 = .ok (.iload 5, 2) := by decide +kernel
theorem d_Mo_reduce_158 : decode b_Mo_reduce 158 = .ok (.iconst (-1), 1) := by decide +kernel
theorem d_Mo_reduce_159 : decode b_Mo_reduce 159 = .ok (.aload_n 0, 1) := by decide +kernel
theorem d_Mo_reduce_160 : decode b_Mo_reduce 160 = .ok (.getfield 102, 3) := by decide +kernel
theorem d_Mo_reduce_163 : decode b_Mo_reduce 163 = .ok (.aload_n 0, 1) := by decide +kernel
theorem d_Mo_reduce_164 : decode b_Mo_reduce 164 = .ok (.getfield 213, 3) := by decide +kernel
theorem d_Mo_reduce_167 : decode b_Mo_reduce 167 = .ok (.iaload, 1) := by decide +kernel
theorem d_Mo_reduce_168 : decode b_Mo_reduce 168 = .ok (.i2l, 1) := by decide +kernel
theorem d_Mo_reduce_169 : decode b_Mo_reduce 169 = .ok (.invokevirtual 226, 3) := by decide +kernel
theorem d_Mo_reduce_172 : decode b_Mo_reduce 172 = .ok (.invokevirtual 230, 3) := by decide +kernel
theorem d_Mo_reduce_175 : decode b_Mo_reduce 175 = .ok (.goto (-173), 3) := by decide +kernel
theorem d_Mo_reduce_178 : decode b_Mo_reduce 178 = .ok (.return_, 1) := by decide +kernel
set_option maxHeartbeats 1000000 in
theorem g_Mo_reduce {X : WX} {d : Nat} (hd : 1 ≤ d) (least : Int) (M0 : Mem) (N : List ND) (O : List Int) (P : List (Int × Int)) (o a cl w : Int) (F : List ND × List Int × List (Int × Int)) (M : Mem) (hR : RP M0 M N O P o a cl w) (hA : O.length = 1 + arP P) (hB : N.length + P.length ≤ 24) (hC : O.length ≤ N.length) (hF : reduceL least N O P = F) : MG X gt d KE KE y_Mo_reduce b_Mo_reduce 8 none [vr 55, vi least] M (fun r M' => r = none ∧ RP M0 M' F.1 F.2.1 F.2.2 o a cl w) := by
  refine MG_of_G (by decide) (Nat.le_of_ble_eq_true rfl) (Nat.le_refl _) (by decide) ?_
  show G X gt d KE KE y_Mo_reduce b_Mo_reduce 8 none _ 0 [(0, vr 55), (1, vi least)] [] KE M
  refine G_rngl (i := 1) rfl (fun hr1 => ?_)
  have loop : ∀ (P : List (Int × Int)) (M1 : Mem) (N : List ND) (O : List Int), RP M0 M1 N O P o a cl w → O.length = 1 + arP P → N.length + P.length ≤ 24 → O.length ≤ N.length → reduceL least N O P = F → G X gt d KE KE y_Mo_reduce b_Mo_reduce 8 none (fun r M' => r = none ∧ RP M0 M' F.1 F.2.1 F.2.2 o a cl w) 2 [(2, vi 1), (0, vr 55), (1, vi least)] [] KE M1 := by
    intro P
    induction P with
    | nil =>
      intro M1 N O hR hA hB hC hF
      have hp0 : M1 55 39 = 0 := by have := RP_P hR; simpa using this
      refine G_iload (i := 2) (n := 0) (len := 1) (Or.inl ⟨2, rfl, rfl, d_Mo_reduce_2⟩) rfl (G_pc (pc' := 3) rfl ?_)
      refine G_if_eq (tgt := 178) d_Mo_reduce_3 (by decide) (fun h3801 => absurd h3801 (by decide)) (fun h3801 => G_pc (pc' := 6) rfl ?_)
      refine G_aload (i := 0) (n := 1) (len := 1) (Or.inl ⟨0, rfl, rfl, d_Mo_reduce_6⟩) rfl (by decide) (G_pc (pc' := 7) rfl ?_)
      refine G_get (o := 55) (c := 9) (k := 39) (v := M1 55 39) d_Mo_reduce_7 fl_Mo_213 rfl (by decide) (by decide) rfl rfl (G_pc (pc' := 10) rfl ?_)
      refine G_if_le (tgt := 178) d_Mo_reduce_10 (by decide) (fun h3802 => ?_) (fun h3802 => absurd h3802 (by omega))
      refine G_vret d_Mo_reduce_178 rfl rfl ?_
      exact ⟨rfl, by rw [← hF]; exact hR⟩
    | cons x P ih =>
      obtain ⟨t, k⟩ := x
      intro M1 N O hR hA hB hC hF
      obtain ⟨hd1, hd2, hd3, hd4⟩ := RP_drop hR
      have hp0 := RP_P hR
      have hn0 := RP_N hR
      have ho0 := RP_O hR
      simp only [List.length_cons] at hp0 hB
      have hA1 : O.length = 1 + (arW t + arP P) := hA
      refine G_iload (i := 2) (n := 0) (len := 1) (Or.inl ⟨2, rfl, rfl, d_Mo_reduce_2⟩) rfl (G_pc (pc' := 3) rfl ?_)
      refine G_if_eq (tgt := 178) d_Mo_reduce_3 (by decide) (fun h3901 => absurd h3901 (by decide)) (fun h3901 => G_pc (pc' := 6) rfl ?_)
      refine G_aload (i := 0) (n := 1) (len := 1) (Or.inl ⟨0, rfl, rfl, d_Mo_reduce_6⟩) rfl (by decide) (G_pc (pc' := 7) rfl ?_)
      refine G_get (o := 55) (c := 9) (k := 39) (v := M1 55 39) d_Mo_reduce_7 fl_Mo_213 rfl (by decide) (by decide) rfl rfl (G_pc (pc' := 10) rfl ?_)
      refine G_if_le (tgt := 178) d_Mo_reduce_10 (by decide) (fun h3902 => absurd h3902 (by omega)) (fun h3902 => G_pc (pc' := 13) rfl ?_)
      refine G_aload (i := 0) (n := 1) (len := 1) (Or.inl ⟨0, rfl, rfl, d_Mo_reduce_13⟩) rfl (by decide) (G_pc (pc' := 14) rfl ?_)
      refine G_callV (K1 := KE) (d2 := 0) (o := 55) (cl := 9) (as := []) (rest := []) d_Mo_reduce_14 mf_Mo_top ml_Mo_216 rfl rfl (by decide) rfl rfl (Nat.le_of_ble_eq_true rfl) (by omega) ⟨Nat.le_refl _, Nat.le_refl _⟩ (g_Mo_top (by omega)  _ (by omega)) (fun r3903 M3904 kq3905 q3905 => ?_)
      clear kq3905; obtain ⟨q3905a, q3905b⟩ := q3905; subst r3903; subst M3904
      refine G_ps (pc' := 17) (st' := [vi (topM M1)]) rfl rfl ?_
      rw [hd3]
      refine G_istore (i := 3) (len := 1) (ls' := [(3, vi t), (2, vi 1), (0, vr 55), (1, vi least)]) (Or.inl ⟨3, rfl, rfl, d_Mo_reduce_17⟩) (by decide) rfl (G_pc (pc' := 18) rfl ?_)
      refine G_iload (i := 3) (n := 0) (len := 1) (Or.inl ⟨3, rfl, rfl, d_Mo_reduce_18⟩) rfl (G_pc (pc' := 19) rfl ?_)
      refine G_bipush (n := 100) d_Mo_reduce_19 (by decide) (G_pc (pc' := 21) rfl ?_)
      refine G_icmp_gt (tgt := 30) d_Mo_reduce_21 (by decide) (fun h3906 => ?_) (fun h3906 => G_pc (pc' := 24) rfl ?_)
      · skip
        refine G_iconst (n := 1) d_Mo_reduce_30 (by decide) (G_pc (pc' := 31) rfl ?_)
        refine G_goto (tgt := 35) d_Mo_reduce_31 (by decide) ?_
        refine G_istore (i := 4) (len := 2) (ls' := [(4, vi 1), (3, vi t), (2, vi 1), (0, vr 55), (1, vi least)]) (Or.inr ⟨rfl, d_Mo_reduce_35⟩) (by decide) rfl (G_pc (pc' := 37) rfl ?_)
        refine G_iload (i := 4) (n := 0) (len := 2) (Or.inr ⟨rfl, d_Mo_reduce_37⟩) rfl (G_pc (pc' := 39) rfl ?_)
        refine G_if_ne (tgt := 67) d_Mo_reduce_39 (by decide) (fun h3907 => ?_) (fun h3907 => absurd h3907 (by decide))
        refine G_iconst (n := 1) d_Mo_reduce_67 (by decide) (G_pc (pc' := 68) rfl ?_)
        refine G_goto (tgt := 72) d_Mo_reduce_68 (by decide) ?_
        refine G_istore (i := 2) (len := 1) (ls' := [(2, vi 1), (4, vi 1), (3, vi t), (0, vr 55), (1, vi least)]) (Or.inl ⟨2, rfl, rfl, d_Mo_reduce_72⟩) (by decide) rfl (G_pc (pc' := 73) rfl ?_)
        refine G_iload (i := 2) (n := 0) (len := 1) (Or.inl ⟨2, rfl, rfl, d_Mo_reduce_73⟩) rfl (G_pc (pc' := 74) rfl ?_)
        refine G_if_ne (tgt := 78) d_Mo_reduce_74 (by decide) (fun h3908 => ?_) (fun h3908 => absurd h3908 (by decide))
        have hS : isS t = true := by unfold isS; grind
        have haw : arW t = 0 := by unfold arW; rw [if_pos hS]
        obtain ⟨x1, O, rfl⟩ := cons1 (show 1 ≤ O.length by omega)
        simp only [List.length_cons] at hA1 hC ho0
        have hR1 := hd4
        have hn1 := RP_N hR1
        have ho1 := RP_O hR1
        have hp1 := RP_P hR1
        (try simp only [List.length_cons] at ho1)
        refine G_aload (i := 0) (n := 3) (len := 1) (Or.inl ⟨0, rfl, rfl, d_Mo_reduce_78⟩) rfl (by decide) (G_pc (pc' := 79) rfl ?_)
        refine G_dup d_Mo_reduce_79 (fun _ h => by cases h) (G_pc (pc' := 80) rfl ?_)
        refine G_get (o := 55) (c := 9) (k := 39) (v := M1 55 39) d_Mo_reduce_80 fl_Mo_213 rfl (by decide) (by decide) rfl rfl (G_pc (pc' := 83) rfl ?_)
        refine G_iconst (n := 1) d_Mo_reduce_83 (by decide) (G_pc (pc' := 84) rfl ?_)
        refine G_isub d_Mo_reduce_84 (by omega) (G_pc (pc' := 85) rfl ?_)
        refine G_putL (o := 55) (c := 9) (k := 39) (ki := 39) (x := (M1 55 39) - 1) d_Mo_reduce_85 fl_Mo_213 rfl rfl (by decide) (by decide) (by decide) rfl rfl (tokI (by omega)) rfl (G_pc (pc' := 88) rfl ?_)
        refine G_iload (i := 4) (n := 1) (len := 2) (Or.inr ⟨rfl, d_Mo_reduce_88⟩) rfl (G_pc (pc' := 90) rfl ?_)
        refine G_if_eq (tgt := 97) d_Mo_reduce_90 (by decide) (fun h3909 => absurd h3909 (by decide)) (fun h3909 => G_pc (pc' := 93) rfl ?_)
        refine G_iconst (n := (-1)) d_Mo_reduce_93 (by decide) (G_pc (pc' := 94) rfl ?_)
        refine G_goto (tgt := 101) d_Mo_reduce_94 (by decide) ?_
        refine G_istore (i := 5) (len := 2) (ls' := [(5, vi (-1)), (2, vi 1), (4, vi 1), (3, vi t), (0, vr 55), (1, vi least)]) (Or.inr ⟨rfl, d_Mo_reduce_101⟩) (by decide) rfl (G_pc (pc' := 103) rfl ?_)
        refine G_iload (i := 3) (n := 3) (len := 1) (Or.inl ⟨3, rfl, rfl, d_Mo_reduce_103⟩) rfl (G_pc (pc' := 104) rfl ?_)
        refine G_bipush (n := 26) d_Mo_reduce_104 (by decide) (G_pc (pc' := 106) rfl ?_)
        refine G_icmp_ne (tgt := 116) d_Mo_reduce_106 (by decide) (fun h3910 => ?_) (fun h3910 => absurd h3910 (by omega))
        refine G_iconst (n := (-1)) d_Mo_reduce_116 (by decide) (G_pc (pc' := 117) rfl ?_)
        refine G_istore (i := 6) (len := 2) (ls' := [(6, vi (-1)), (5, vi (-1)), (2, vi 1), (4, vi 1), (3, vi t), (0, vr 55), (1, vi least)]) (Or.inr ⟨rfl, d_Mo_reduce_117⟩) (by decide) rfl (G_pc (pc' := 119) rfl ?_)
        refine G_aload (i := 0) (n := 5) (len := 1) (Or.inl ⟨0, rfl, rfl, d_Mo_reduce_119⟩) rfl (by decide) (G_pc (pc' := 120) rfl ?_)
        refine G_callV (K1 := KE) (d2 := 0) (o := 55) (cl := 9) (as := []) (rest := []) d_Mo_reduce_120 mf_Mo_pop ml_Mo_223 rfl rfl (by decide) rfl rfl (Nat.le_of_ble_eq_true rfl) (by omega) ⟨Nat.le_refl _, Nat.le_refl _⟩ (g_Mo_pop (by omega)  _ (by omega)) (fun r3911 M3912 kq3913 q3913 => ?_)
        clear kq3913; obtain ⟨q3913a, q3913b⟩ := q3913; subst r3911; subst M3912
        refine G_ps (pc' := 123) (st' := [vi ((mset M1 55 39 ((M1 55 39) - 1)) 84 ((mset M1 55 39 ((M1 55 39) - 1)) 55 37 - 1))]) rfl rfl ?_
        obtain ⟨hv1, hR2⟩ := RP_pop hR1
        have hn2 := RP_N hR2
        have ho2 := RP_O hR2
        have hp2 := RP_P hR2
        (try simp only [List.length_cons] at ho2)
        rw [hv1]
        refine G_istore (i := 7) (len := 2) (ls' := [(7, vi x1), (6, vi (-1)), (5, vi (-1)), (2, vi 1), (4, vi 1), (3, vi t), (0, vr 55), (1, vi least)]) (Or.inr ⟨rfl, d_Mo_reduce_123⟩) (by decide) rfl (G_pc (pc' := 125) rfl ?_)
        refine G_iload (i := 3) (n := 5) (len := 1) (Or.inl ⟨3, rfl, rfl, d_Mo_reduce_125⟩) rfl (G_pc (pc' := 126) rfl ?_)
        refine G_bipush (n := 26) d_Mo_reduce_126 (by decide) (G_pc (pc' := 128) rfl ?_)
        refine G_icmp_ne (tgt := 151) d_Mo_reduce_128 (by decide) (fun h3914 => ?_) (fun h3914 => absurd h3914 (by omega))
        refine G_aload (i := 0) (n := 6) (len := 1) (Or.inl ⟨0, rfl, rfl, d_Mo_reduce_151⟩) rfl (by decide) (G_pc (pc' := 152) rfl ?_)
        refine G_aload (i := 0) (n := 6) (len := 1) (Or.inl ⟨0, rfl, rfl, d_Mo_reduce_152⟩) rfl (by decide) (G_pc (pc' := 153) rfl ?_)
        refine G_iload (i := 3) (n := 5) (len := 1) (Or.inl ⟨3, rfl, rfl, d_Mo_reduce_153⟩) rfl (G_pc (pc' := 154) rfl ?_)
        refine G_iload (i := 7) (n := 0) (len := 2) (Or.inr ⟨rfl, d_Mo_reduce_154⟩) rfl (G_pc (pc' := 156) rfl ?_)
        refine G_iload (i := 5) (n := 2) (len := 2) (Or.inr ⟨rfl, d_Mo_reduce_156⟩) rfl (G_pc (pc' := 158) rfl ?_)
        refine G_iconst (n := (-1)) d_Mo_reduce_158 (by decide) (G_pc (pc' := 159) rfl ?_)
        refine G_aload (i := 0) (n := 6) (len := 1) (Or.inl ⟨0, rfl, rfl, d_Mo_reduce_159⟩) rfl (by decide) (G_pc (pc' := 160) rfl ?_)
        refine G_get (o := 55) (c := 9) (k := 41) (v := 86) d_Mo_reduce_160 fl_Mo_102 rfl (by decide) (by decide) rfl rfl (G_pc (pc' := 163) rfl ?_)
        refine G_aload (i := 0) (n := 6) (len := 1) (Or.inl ⟨0, rfl, rfl, d_Mo_reduce_163⟩) rfl (by decide) (G_pc (pc' := 164) rfl ?_)
        refine G_get (o := 55) (c := 9) (k := 39) (v := (popM (mset M1 55 39 ((M1 55 39) - 1))) 55 39) d_Mo_reduce_164 fl_Mo_213 rfl (by decide) (by decide) rfl rfl (G_pc (pc' := 167) rfl ?_)
        refine G_iaload (o := 86) (n := 32) (i := (popM (mset M1 55 39 ((M1 55 39) - 1))) 55 39) (v := (popM (mset M1 55 39 ((M1 55 39) - 1))) 86 ((popM (mset M1 55 39 ((M1 55 39) - 1))) 55 39)) d_Mo_reduce_167 rfl ⟨by decide, by decide⟩ (by omega) (rd_arr rfl) (fun t3915 => G_pc (pc' := 168) rfl ?_)
        have t3915 := tok_i t3915
        refine G_i2l d_Mo_reduce_168 (G_pc (pc' := 169) rfl ?_)
        rw [show (popM (mset M1 55 39 ((M1 55 39) - 1))) 86 ((popM (mset M1 55 39 ((M1 55 39) - 1))) 55 39) = k from hd2]
        refine G_callV (K1 := KE) (d2 := 0) (o := 55) (cl := 9) (as := [vi t, vi x1, vi (-1), vi (-1), vl k]) (rest := [vr 55]) d_Mo_reduce_169 mf_Mo_node ml_Mo_226 rfl rfl (by decide) rfl rfl (Nat.le_of_ble_eq_true rfl) (by omega) ⟨Nat.le_refl _, Nat.le_refl _⟩ (g_Mo_node (by omega) t x1 (-1) (-1) k _ (by omega)) (fun r3916 M3917 kq3918 q3918 => ?_)
        clear kq3918; obtain ⟨q3918a, q3918b⟩ := q3918; subst r3916; subst M3917
        refine G_ps (pc' := 172) (st' := [vi ((popM (mset M1 55 39 ((M1 55 39) - 1))) 55 28), vr 55]) rfl rfl ?_
        rw [hn2]
        skip
        have hR8 := RP_node (x := t) (y := x1) (z := -1) (v := -1) (t := k) hR2
        have ho8 := RP_O hR8
        refine G_callV (K1 := KE) (d2 := 0) (o := 55) (cl := 9) (as := [vi (N.length : Int)]) (rest := []) d_Mo_reduce_172 mf_Mo_push ml_Mo_230 rfl rfl (by decide) rfl rfl (Nat.le_of_ble_eq_true rfl) (by omega) ⟨Nat.le_refl _, Nat.le_refl _⟩ (g_Mo_push (by omega) (N.length : Int) _ (by omega)) (fun r3919 M3920 kq3921 q3921 => ?_)
        clear kq3921; obtain ⟨q3921a, q3921b⟩ := q3921; subst r3919; subst M3920
        refine G_ps (pc' := 175) (st' := []) rfl rfl ?_
        refine G_goto (tgt := 2) d_Mo_reduce_175 (by decide) ?_
        refine G_ls (ls' := [(2, vi 1), (0, vr 55), (1, vi least)]) (by intro z hz; simp only [List.mem_cons] at hz ⊢; grind) ?_
        refine ih _ _ _ (RP_push (n := (N.length : Int)) hR8) (by simp only [List.length_cons]; omega) (by simp only [List.length_append, List.length_cons, List.length_nil]; omega) (by simp only [List.length_append, List.length_cons, List.length_nil]; omega) ((redL_1 hS).symm.trans hF)
      · skip
        refine G_iload (i := 3) (n := 0) (len := 1) (Or.inl ⟨3, rfl, rfl, d_Mo_reduce_24⟩) rfl (G_pc (pc' := 25) rfl ?_)
        refine G_bipush (n := 64) d_Mo_reduce_25 (by decide) (G_pc (pc' := 27) rfl ?_)
        refine G_icmp_ne (tgt := 34) d_Mo_reduce_27 (by decide) (fun h3922 => ?_) (fun h3922 => G_pc (pc' := 30) rfl ?_)
        · skip
          refine G_iconst (n := 0) d_Mo_reduce_34 (by decide) (G_pc (pc' := 35) rfl ?_)
          refine G_istore (i := 4) (len := 2) (ls' := [(4, vi 0), (3, vi t), (2, vi 1), (0, vr 55), (1, vi least)]) (Or.inr ⟨rfl, d_Mo_reduce_35⟩) (by decide) rfl (G_pc (pc' := 37) rfl ?_)
          refine G_iload (i := 4) (n := 0) (len := 2) (Or.inr ⟨rfl, d_Mo_reduce_37⟩) rfl (G_pc (pc' := 39) rfl ?_)
          refine G_if_ne (tgt := 67) d_Mo_reduce_39 (by decide) (fun h3923 => absurd h3923 (by decide)) (fun h3923 => G_pc (pc' := 42) rfl ?_)
          refine G_iload (i := 3) (n := 1) (len := 1) (Or.inl ⟨3, rfl, rfl, d_Mo_reduce_42⟩) rfl (G_pc (pc' := 43) rfl ?_)
          refine G_callS (K1 := KE) (d2 := 0) (as := [vi t]) (rest := []) d_Mo_reduce_43 mf_Mo_binds ml_Mo_220 rfl rfl (Nat.le_of_ble_eq_true rfl) (by omega) ⟨Nat.le_refl _, Nat.le_refl _⟩ (g_Mo_binds (by omega) t _) (fun r3924 M3925 kq3926 q3926 => ?_)
          clear kq3926; obtain ⟨q3926a, q3926b⟩ := q3926; subst r3924; subst M3925
          refine G_ps (pc' := 46) (st' := [vi (bdV t)]) rfl rfl ?_
          refine G_iload (i := 1) (n := 4) (len := 1) (Or.inl ⟨1, rfl, rfl, d_Mo_reduce_46⟩) rfl (G_pc (pc' := 47) rfl ?_)
          refine G_icmp_lt (tgt := 57) d_Mo_reduce_47 (by decide) (fun h3927 => ?_) (fun h3927 => G_pc (pc' := 50) rfl ?_)
          · skip
            refine G_iload (i := 3) (n := 1) (len := 1) (Or.inl ⟨3, rfl, rfl, d_Mo_reduce_57⟩) rfl (G_pc (pc' := 58) rfl ?_)
            refine G_bipush (n := 26) d_Mo_reduce_58 (by decide) (G_pc (pc' := 60) rfl ?_)
            refine G_icmp_ne (tgt := 71) d_Mo_reduce_60 (by decide) (fun h3928 => ?_) (fun h3928 => G_pc (pc' := 63) rfl ?_)
            · skip
              refine G_iconst (n := 0) d_Mo_reduce_71 (by decide) (G_pc (pc' := 72) rfl ?_)
              refine G_istore (i := 2) (len := 1) (ls' := [(2, vi 0), (4, vi 0), (3, vi t), (0, vr 55), (1, vi least)]) (Or.inl ⟨2, rfl, rfl, d_Mo_reduce_72⟩) (by decide) rfl (G_pc (pc' := 73) rfl ?_)
              refine G_iload (i := 2) (n := 0) (len := 1) (Or.inl ⟨2, rfl, rfl, d_Mo_reduce_73⟩) rfl (G_pc (pc' := 74) rfl ?_)
              refine G_if_ne (tgt := 78) d_Mo_reduce_74 (by decide) (fun h3929 => absurd h3929 (by decide)) (fun h3929 => G_pc (pc' := 77) rfl ?_)
              refine G_vret d_Mo_reduce_77 rfl rfl ?_
              exact ⟨rfl, by rw [← hF, reduceL_n (by unfold redB isS; grind)]; exact hR⟩
            · skip
              refine G_iload (i := 1) (n := 4) (len := 1) (Or.inl ⟨1, rfl, rfl, d_Mo_reduce_63⟩) rfl (G_pc (pc' := 64) rfl ?_)
              refine G_if_ne (tgt := 71) d_Mo_reduce_64 (by decide) (fun h3930 => ?_) (fun h3930 => G_pc (pc' := 67) rfl ?_)
              · skip
                refine G_iconst (n := 0) d_Mo_reduce_71 (by decide) (G_pc (pc' := 72) rfl ?_)
                refine G_istore (i := 2) (len := 1) (ls' := [(2, vi 0), (4, vi 0), (3, vi t), (0, vr 55), (1, vi least)]) (Or.inl ⟨2, rfl, rfl, d_Mo_reduce_72⟩) (by decide) rfl (G_pc (pc' := 73) rfl ?_)
                refine G_iload (i := 2) (n := 0) (len := 1) (Or.inl ⟨2, rfl, rfl, d_Mo_reduce_73⟩) rfl (G_pc (pc' := 74) rfl ?_)
                refine G_if_ne (tgt := 78) d_Mo_reduce_74 (by decide) (fun h3931 => absurd h3931 (by decide)) (fun h3931 => G_pc (pc' := 77) rfl ?_)
                refine G_vret d_Mo_reduce_77 rfl rfl ?_
                exact ⟨rfl, by rw [← hF, reduceL_n (by unfold redB isS; grind)]; exact hR⟩
              · skip
                refine G_iconst (n := 1) d_Mo_reduce_67 (by decide) (G_pc (pc' := 68) rfl ?_)
                refine G_goto (tgt := 72) d_Mo_reduce_68 (by decide) ?_
                refine G_istore (i := 2) (len := 1) (ls' := [(2, vi 1), (4, vi 0), (3, vi t), (0, vr 55), (1, vi least)]) (Or.inl ⟨2, rfl, rfl, d_Mo_reduce_72⟩) (by decide) rfl (G_pc (pc' := 73) rfl ?_)
                refine G_iload (i := 2) (n := 0) (len := 1) (Or.inl ⟨2, rfl, rfl, d_Mo_reduce_73⟩) rfl (G_pc (pc' := 74) rfl ?_)
                refine G_if_ne (tgt := 78) d_Mo_reduce_74 (by decide) (fun h3932 => ?_) (fun h3932 => absurd h3932 (by decide))
                rcases (show (t = 26 ∧ least = 0) ∨ (least ≤ bdV t ∧ 0 < bdV t) by omega) with ⟨h26, hl0⟩ | ⟨hb1, hb2⟩
                · skip
                  have hS : ¬ isS t = true := by unfold isS; grind
                  have hb26 : bdV t = 0 := by rw [h26]; decide
                  have haw : arW t = 2 := by rw [h26]; decide
                  obtain ⟨x3, x2, x1, O, rfl⟩ := cons3 (show 3 ≤ O.length by omega)
                  simp only [List.length_cons] at hA1 hC ho0
                  have hR1 := hd4
                  have hn1 := RP_N hR1
                  have ho1 := RP_O hR1
                  have hp1 := RP_P hR1
                  (try simp only [List.length_cons] at ho1)
                  refine G_aload (i := 0) (n := 3) (len := 1) (Or.inl ⟨0, rfl, rfl, d_Mo_reduce_78⟩) rfl (by decide) (G_pc (pc' := 79) rfl ?_)
                  refine G_dup d_Mo_reduce_79 (fun _ h => by cases h) (G_pc (pc' := 80) rfl ?_)
                  refine G_get (o := 55) (c := 9) (k := 39) (v := M1 55 39) d_Mo_reduce_80 fl_Mo_213 rfl (by decide) (by decide) rfl rfl (G_pc (pc' := 83) rfl ?_)
                  refine G_iconst (n := 1) d_Mo_reduce_83 (by decide) (G_pc (pc' := 84) rfl ?_)
                  refine G_isub d_Mo_reduce_84 (by omega) (G_pc (pc' := 85) rfl ?_)
                  refine G_putL (o := 55) (c := 9) (k := 39) (ki := 39) (x := (M1 55 39) - 1) d_Mo_reduce_85 fl_Mo_213 rfl rfl (by decide) (by decide) (by decide) rfl rfl (tokI (by omega)) rfl (G_pc (pc' := 88) rfl ?_)
                  refine G_iload (i := 4) (n := 1) (len := 2) (Or.inr ⟨rfl, d_Mo_reduce_88⟩) rfl (G_pc (pc' := 90) rfl ?_)
                  refine G_if_eq (tgt := 97) d_Mo_reduce_90 (by decide) (fun h3933 => ?_) (fun h3933 => absurd h3933 (by decide))
                  refine G_aload (i := 0) (n := 3) (len := 1) (Or.inl ⟨0, rfl, rfl, d_Mo_reduce_97⟩) rfl (by decide) (G_pc (pc' := 98) rfl ?_)
                  refine G_callV (K1 := KE) (d2 := 0) (o := 55) (cl := 9) (as := []) (rest := []) d_Mo_reduce_98 mf_Mo_pop ml_Mo_223 rfl rfl (by decide) rfl rfl (Nat.le_of_ble_eq_true rfl) (by omega) ⟨Nat.le_refl _, Nat.le_refl _⟩ (g_Mo_pop (by omega)  _ (by omega)) (fun r3934 M3935 kq3936 q3936 => ?_)
                  clear kq3936; obtain ⟨q3936a, q3936b⟩ := q3936; subst r3934; subst M3935
                  refine G_ps (pc' := 101) (st' := [vi ((mset M1 55 39 ((M1 55 39) - 1)) 84 ((mset M1 55 39 ((M1 55 39) - 1)) 55 37 - 1))]) rfl rfl ?_
                  obtain ⟨hv1, hR2⟩ := RP_pop hR1
                  have hn2 := RP_N hR2
                  have ho2 := RP_O hR2
                  have hp2 := RP_P hR2
                  (try simp only [List.length_cons] at ho2)
                  rw [hv1]
                  refine G_istore (i := 5) (len := 2) (ls' := [(5, vi x3), (2, vi 1), (4, vi 0), (3, vi t), (0, vr 55), (1, vi least)]) (Or.inr ⟨rfl, d_Mo_reduce_101⟩) (by decide) rfl (G_pc (pc' := 103) rfl ?_)
                  refine G_iload (i := 3) (n := 3) (len := 1) (Or.inl ⟨3, rfl, rfl, d_Mo_reduce_103⟩) rfl (G_pc (pc' := 104) rfl ?_)
                  refine G_bipush (n := 26) d_Mo_reduce_104 (by decide) (G_pc (pc' := 106) rfl ?_)
                  refine G_icmp_ne (tgt := 116) d_Mo_reduce_106 (by decide) (fun h3937 => absurd h3937 (by omega)) (fun h3937 => G_pc (pc' := 109) rfl ?_)
                  refine G_aload (i := 0) (n := 4) (len := 1) (Or.inl ⟨0, rfl, rfl, d_Mo_reduce_109⟩) rfl (by decide) (G_pc (pc' := 110) rfl ?_)
                  refine G_callV (K1 := KE) (d2 := 0) (o := 55) (cl := 9) (as := []) (rest := []) d_Mo_reduce_110 mf_Mo_pop ml_Mo_223 rfl rfl (by decide) rfl rfl (Nat.le_of_ble_eq_true rfl) (by omega) ⟨Nat.le_refl _, Nat.le_refl _⟩ (g_Mo_pop (by omega)  _ (by omega)) (fun r3938 M3939 kq3940 q3940 => ?_)
                  clear kq3940; obtain ⟨q3940a, q3940b⟩ := q3940; subst r3938; subst M3939
                  refine G_ps (pc' := 113) (st' := [vi ((popM (mset M1 55 39 ((M1 55 39) - 1))) 84 ((popM (mset M1 55 39 ((M1 55 39) - 1))) 55 37 - 1))]) rfl rfl ?_
                  refine G_goto (tgt := 117) d_Mo_reduce_113 (by decide) ?_
                  obtain ⟨hv2, hR3⟩ := RP_pop hR2
                  have hn3 := RP_N hR3
                  have ho3 := RP_O hR3
                  have hp3 := RP_P hR3
                  (try simp only [List.length_cons] at ho3)
                  rw [hv2]
                  refine G_istore (i := 6) (len := 2) (ls' := [(6, vi x2), (5, vi x3), (2, vi 1), (4, vi 0), (3, vi t), (0, vr 55), (1, vi least)]) (Or.inr ⟨rfl, d_Mo_reduce_117⟩) (by decide) rfl (G_pc (pc' := 119) rfl ?_)
                  refine G_aload (i := 0) (n := 5) (len := 1) (Or.inl ⟨0, rfl, rfl, d_Mo_reduce_119⟩) rfl (by decide) (G_pc (pc' := 120) rfl ?_)
                  refine G_callV (K1 := KE) (d2 := 0) (o := 55) (cl := 9) (as := []) (rest := []) d_Mo_reduce_120 mf_Mo_pop ml_Mo_223 rfl rfl (by decide) rfl rfl (Nat.le_of_ble_eq_true rfl) (by omega) ⟨Nat.le_refl _, Nat.le_refl _⟩ (g_Mo_pop (by omega)  _ (by omega)) (fun r3941 M3942 kq3943 q3943 => ?_)
                  clear kq3943; obtain ⟨q3943a, q3943b⟩ := q3943; subst r3941; subst M3942
                  refine G_ps (pc' := 123) (st' := [vi ((popM (popM (mset M1 55 39 ((M1 55 39) - 1)))) 84 ((popM (popM (mset M1 55 39 ((M1 55 39) - 1)))) 55 37 - 1))]) rfl rfl ?_
                  obtain ⟨hv3, hR4⟩ := RP_pop hR3
                  have hn4 := RP_N hR4
                  have ho4 := RP_O hR4
                  have hp4 := RP_P hR4
                  (try simp only [List.length_cons] at ho4)
                  rw [hv3]
                  refine G_istore (i := 7) (len := 2) (ls' := [(7, vi x1), (6, vi x2), (5, vi x3), (2, vi 1), (4, vi 0), (3, vi t), (0, vr 55), (1, vi least)]) (Or.inr ⟨rfl, d_Mo_reduce_123⟩) (by decide) rfl (G_pc (pc' := 125) rfl ?_)
                  refine G_iload (i := 3) (n := 5) (len := 1) (Or.inl ⟨3, rfl, rfl, d_Mo_reduce_125⟩) rfl (G_pc (pc' := 126) rfl ?_)
                  refine G_bipush (n := 26) d_Mo_reduce_126 (by decide) (G_pc (pc' := 128) rfl ?_)
                  refine G_icmp_ne (tgt := 151) d_Mo_reduce_128 (by decide) (fun h3944 => absurd h3944 (by omega)) (fun h3944 => G_pc (pc' := 131) rfl ?_)
                  refine G_aload (i := 0) (n := 6) (len := 1) (Or.inl ⟨0, rfl, rfl, d_Mo_reduce_131⟩) rfl (by decide) (G_pc (pc' := 132) rfl ?_)
                  refine G_aload (i := 0) (n := 6) (len := 1) (Or.inl ⟨0, rfl, rfl, d_Mo_reduce_132⟩) rfl (by decide) (G_pc (pc' := 133) rfl ?_)
                  refine G_bipush (n := 65) d_Mo_reduce_133 (by decide) (G_pc (pc' := 135) rfl ?_)
                  refine G_iload (i := 7) (n := 0) (len := 2) (Or.inr ⟨rfl, d_Mo_reduce_135⟩) rfl (G_pc (pc' := 137) rfl ?_)
                  refine G_iload (i := 6) (n := 1) (len := 2) (Or.inr ⟨rfl, d_Mo_reduce_137⟩) rfl (G_pc (pc' := 139) rfl ?_)
                  refine G_iload (i := 5) (n := 2) (len := 2) (Or.inr ⟨rfl, d_Mo_reduce_139⟩) rfl (G_pc (pc' := 141) rfl ?_)
                  refine G_lconst0 d_Mo_reduce_141 (G_pc (pc' := 142) rfl ?_)
                  refine G_callV (K1 := KE) (d2 := 0) (o := 55) (cl := 9) (as := [vi 65, vi x1, vi x2, vi x3, vl 0]) (rest := [vr 55]) d_Mo_reduce_142 mf_Mo_node ml_Mo_226 rfl rfl (by decide) rfl rfl (Nat.le_of_ble_eq_true rfl) (by omega) ⟨Nat.le_refl _, Nat.le_refl _⟩ (g_Mo_node (by omega) 65 x1 x2 x3 0 _ (by omega)) (fun r3945 M3946 kq3947 q3947 => ?_)
                  clear kq3947; obtain ⟨q3947a, q3947b⟩ := q3947; subst r3945; subst M3946
                  refine G_ps (pc' := 145) (st' := [vi ((popM (popM (popM (mset M1 55 39 ((M1 55 39) - 1))))) 55 28), vr 55]) rfl rfl ?_
                  rw [hn4]
                  have hR8 := RP_node (x := 65) (y := x1) (z := x2) (v := x3) (t := 0) hR4
                  have ho8 := RP_O hR8
                  refine G_callV (K1 := KE) (d2 := 0) (o := 55) (cl := 9) (as := [vi (N.length : Int)]) (rest := []) d_Mo_reduce_145 mf_Mo_push ml_Mo_230 rfl rfl (by decide) rfl rfl (Nat.le_of_ble_eq_true rfl) (by omega) ⟨Nat.le_refl _, Nat.le_refl _⟩ (g_Mo_push (by omega) (N.length : Int) _ (by omega)) (fun r3948 M3949 kq3950 q3950 => ?_)
                  clear kq3950; obtain ⟨q3950a, q3950b⟩ := q3950; subst r3948; subst M3949
                  refine G_ps (pc' := 148) (st' := []) rfl rfl ?_
                  refine G_goto (tgt := 175) d_Mo_reduce_148 (by decide) ?_
                  refine G_goto (tgt := 2) d_Mo_reduce_175 (by decide) ?_
                  refine G_ls (ls' := [(2, vi 1), (0, vr 55), (1, vi least)]) (by intro z hz; simp only [List.mem_cons] at hz ⊢; grind) ?_
                  refine ih _ _ _ (RP_push (n := (N.length : Int)) hR8) (by simp only [List.length_cons]; omega) (by simp only [List.length_append, List.length_cons, List.length_nil]; omega) (by simp only [List.length_append, List.length_cons, List.length_nil]; omega) ((redL_3 h26 (by omega)).symm.trans hF)
                · skip
                  have hS : ¬ isS t = true := by unfold isS; grind
                  have h20 : ¬ t = 20 := fun e => by have : bdV t = 0 := (by rw [e]; decide); omega
                  have h26 : ¬ t = 26 := fun e => by have : bdV t = 0 := (by rw [e]; decide); omega
                  have haw : arW t = 1 := by unfold arW; rw [if_neg hS, if_neg h26, if_neg h20]
                  obtain ⟨x2, x1, O, rfl⟩ := cons2 (show 2 ≤ O.length by omega)
                  simp only [List.length_cons] at hA1 hC ho0
                  have hR1 := hd4
                  have hn1 := RP_N hR1
                  have ho1 := RP_O hR1
                  have hp1 := RP_P hR1
                  (try simp only [List.length_cons] at ho1)
                  refine G_aload (i := 0) (n := 3) (len := 1) (Or.inl ⟨0, rfl, rfl, d_Mo_reduce_78⟩) rfl (by decide) (G_pc (pc' := 79) rfl ?_)
                  refine G_dup d_Mo_reduce_79 (fun _ h => by cases h) (G_pc (pc' := 80) rfl ?_)
                  refine G_get (o := 55) (c := 9) (k := 39) (v := M1 55 39) d_Mo_reduce_80 fl_Mo_213 rfl (by decide) (by decide) rfl rfl (G_pc (pc' := 83) rfl ?_)
                  refine G_iconst (n := 1) d_Mo_reduce_83 (by decide) (G_pc (pc' := 84) rfl ?_)
                  refine G_isub d_Mo_reduce_84 (by omega) (G_pc (pc' := 85) rfl ?_)
                  refine G_putL (o := 55) (c := 9) (k := 39) (ki := 39) (x := (M1 55 39) - 1) d_Mo_reduce_85 fl_Mo_213 rfl rfl (by decide) (by decide) (by decide) rfl rfl (tokI (by omega)) rfl (G_pc (pc' := 88) rfl ?_)
                  refine G_iload (i := 4) (n := 1) (len := 2) (Or.inr ⟨rfl, d_Mo_reduce_88⟩) rfl (G_pc (pc' := 90) rfl ?_)
                  refine G_if_eq (tgt := 97) d_Mo_reduce_90 (by decide) (fun h3951 => ?_) (fun h3951 => absurd h3951 (by decide))
                  refine G_aload (i := 0) (n := 3) (len := 1) (Or.inl ⟨0, rfl, rfl, d_Mo_reduce_97⟩) rfl (by decide) (G_pc (pc' := 98) rfl ?_)
                  refine G_callV (K1 := KE) (d2 := 0) (o := 55) (cl := 9) (as := []) (rest := []) d_Mo_reduce_98 mf_Mo_pop ml_Mo_223 rfl rfl (by decide) rfl rfl (Nat.le_of_ble_eq_true rfl) (by omega) ⟨Nat.le_refl _, Nat.le_refl _⟩ (g_Mo_pop (by omega)  _ (by omega)) (fun r3952 M3953 kq3954 q3954 => ?_)
                  clear kq3954; obtain ⟨q3954a, q3954b⟩ := q3954; subst r3952; subst M3953
                  refine G_ps (pc' := 101) (st' := [vi ((mset M1 55 39 ((M1 55 39) - 1)) 84 ((mset M1 55 39 ((M1 55 39) - 1)) 55 37 - 1))]) rfl rfl ?_
                  obtain ⟨hv1, hR2⟩ := RP_pop hR1
                  have hn2 := RP_N hR2
                  have ho2 := RP_O hR2
                  have hp2 := RP_P hR2
                  (try simp only [List.length_cons] at ho2)
                  rw [hv1]
                  refine G_istore (i := 5) (len := 2) (ls' := [(5, vi x2), (2, vi 1), (4, vi 0), (3, vi t), (0, vr 55), (1, vi least)]) (Or.inr ⟨rfl, d_Mo_reduce_101⟩) (by decide) rfl (G_pc (pc' := 103) rfl ?_)
                  refine G_iload (i := 3) (n := 3) (len := 1) (Or.inl ⟨3, rfl, rfl, d_Mo_reduce_103⟩) rfl (G_pc (pc' := 104) rfl ?_)
                  refine G_bipush (n := 26) d_Mo_reduce_104 (by decide) (G_pc (pc' := 106) rfl ?_)
                  refine G_icmp_ne (tgt := 116) d_Mo_reduce_106 (by decide) (fun h3955 => ?_) (fun h3955 => absurd h3955 (by omega))
                  refine G_iconst (n := (-1)) d_Mo_reduce_116 (by decide) (G_pc (pc' := 117) rfl ?_)
                  refine G_istore (i := 6) (len := 2) (ls' := [(6, vi (-1)), (5, vi x2), (2, vi 1), (4, vi 0), (3, vi t), (0, vr 55), (1, vi least)]) (Or.inr ⟨rfl, d_Mo_reduce_117⟩) (by decide) rfl (G_pc (pc' := 119) rfl ?_)
                  refine G_aload (i := 0) (n := 5) (len := 1) (Or.inl ⟨0, rfl, rfl, d_Mo_reduce_119⟩) rfl (by decide) (G_pc (pc' := 120) rfl ?_)
                  refine G_callV (K1 := KE) (d2 := 0) (o := 55) (cl := 9) (as := []) (rest := []) d_Mo_reduce_120 mf_Mo_pop ml_Mo_223 rfl rfl (by decide) rfl rfl (Nat.le_of_ble_eq_true rfl) (by omega) ⟨Nat.le_refl _, Nat.le_refl _⟩ (g_Mo_pop (by omega)  _ (by omega)) (fun r3956 M3957 kq3958 q3958 => ?_)
                  clear kq3958; obtain ⟨q3958a, q3958b⟩ := q3958; subst r3956; subst M3957
                  refine G_ps (pc' := 123) (st' := [vi ((popM (mset M1 55 39 ((M1 55 39) - 1))) 84 ((popM (mset M1 55 39 ((M1 55 39) - 1))) 55 37 - 1))]) rfl rfl ?_
                  obtain ⟨hv2, hR3⟩ := RP_pop hR2
                  have hn3 := RP_N hR3
                  have ho3 := RP_O hR3
                  have hp3 := RP_P hR3
                  (try simp only [List.length_cons] at ho3)
                  rw [hv2]
                  refine G_istore (i := 7) (len := 2) (ls' := [(7, vi x1), (6, vi (-1)), (5, vi x2), (2, vi 1), (4, vi 0), (3, vi t), (0, vr 55), (1, vi least)]) (Or.inr ⟨rfl, d_Mo_reduce_123⟩) (by decide) rfl (G_pc (pc' := 125) rfl ?_)
                  refine G_iload (i := 3) (n := 5) (len := 1) (Or.inl ⟨3, rfl, rfl, d_Mo_reduce_125⟩) rfl (G_pc (pc' := 126) rfl ?_)
                  refine G_bipush (n := 26) d_Mo_reduce_126 (by decide) (G_pc (pc' := 128) rfl ?_)
                  refine G_icmp_ne (tgt := 151) d_Mo_reduce_128 (by decide) (fun h3959 => ?_) (fun h3959 => absurd h3959 (by omega))
                  refine G_aload (i := 0) (n := 6) (len := 1) (Or.inl ⟨0, rfl, rfl, d_Mo_reduce_151⟩) rfl (by decide) (G_pc (pc' := 152) rfl ?_)
                  refine G_aload (i := 0) (n := 6) (len := 1) (Or.inl ⟨0, rfl, rfl, d_Mo_reduce_152⟩) rfl (by decide) (G_pc (pc' := 153) rfl ?_)
                  refine G_iload (i := 3) (n := 5) (len := 1) (Or.inl ⟨3, rfl, rfl, d_Mo_reduce_153⟩) rfl (G_pc (pc' := 154) rfl ?_)
                  refine G_iload (i := 7) (n := 0) (len := 2) (Or.inr ⟨rfl, d_Mo_reduce_154⟩) rfl (G_pc (pc' := 156) rfl ?_)
                  refine G_iload (i := 5) (n := 2) (len := 2) (Or.inr ⟨rfl, d_Mo_reduce_156⟩) rfl (G_pc (pc' := 158) rfl ?_)
                  refine G_iconst (n := (-1)) d_Mo_reduce_158 (by decide) (G_pc (pc' := 159) rfl ?_)
                  refine G_aload (i := 0) (n := 6) (len := 1) (Or.inl ⟨0, rfl, rfl, d_Mo_reduce_159⟩) rfl (by decide) (G_pc (pc' := 160) rfl ?_)
                  refine G_get (o := 55) (c := 9) (k := 41) (v := 86) d_Mo_reduce_160 fl_Mo_102 rfl (by decide) (by decide) rfl rfl (G_pc (pc' := 163) rfl ?_)
                  refine G_aload (i := 0) (n := 6) (len := 1) (Or.inl ⟨0, rfl, rfl, d_Mo_reduce_163⟩) rfl (by decide) (G_pc (pc' := 164) rfl ?_)
                  refine G_get (o := 55) (c := 9) (k := 39) (v := (popM (popM (mset M1 55 39 ((M1 55 39) - 1)))) 55 39) d_Mo_reduce_164 fl_Mo_213 rfl (by decide) (by decide) rfl rfl (G_pc (pc' := 167) rfl ?_)
                  refine G_iaload (o := 86) (n := 32) (i := (popM (popM (mset M1 55 39 ((M1 55 39) - 1)))) 55 39) (v := (popM (popM (mset M1 55 39 ((M1 55 39) - 1)))) 86 ((popM (popM (mset M1 55 39 ((M1 55 39) - 1)))) 55 39)) d_Mo_reduce_167 rfl ⟨by decide, by decide⟩ (by omega) (rd_arr rfl) (fun t3960 => G_pc (pc' := 168) rfl ?_)
                  have t3960 := tok_i t3960
                  refine G_i2l d_Mo_reduce_168 (G_pc (pc' := 169) rfl ?_)
                  rw [show (popM (popM (mset M1 55 39 ((M1 55 39) - 1)))) 86 ((popM (popM (mset M1 55 39 ((M1 55 39) - 1)))) 55 39) = k from hd2]
                  refine G_callV (K1 := KE) (d2 := 0) (o := 55) (cl := 9) (as := [vi t, vi x1, vi x2, vi (-1), vl k]) (rest := [vr 55]) d_Mo_reduce_169 mf_Mo_node ml_Mo_226 rfl rfl (by decide) rfl rfl (Nat.le_of_ble_eq_true rfl) (by omega) ⟨Nat.le_refl _, Nat.le_refl _⟩ (g_Mo_node (by omega) t x1 x2 (-1) k _ (by omega)) (fun r3961 M3962 kq3963 q3963 => ?_)
                  clear kq3963; obtain ⟨q3963a, q3963b⟩ := q3963; subst r3961; subst M3962
                  refine G_ps (pc' := 172) (st' := [vi ((popM (popM (mset M1 55 39 ((M1 55 39) - 1)))) 55 28), vr 55]) rfl rfl ?_
                  rw [hn3]
                  skip
                  have hR8 := RP_node (x := t) (y := x1) (z := x2) (v := -1) (t := k) hR3
                  have ho8 := RP_O hR8
                  refine G_callV (K1 := KE) (d2 := 0) (o := 55) (cl := 9) (as := [vi (N.length : Int)]) (rest := []) d_Mo_reduce_172 mf_Mo_push ml_Mo_230 rfl rfl (by decide) rfl rfl (Nat.le_of_ble_eq_true rfl) (by omega) ⟨Nat.le_refl _, Nat.le_refl _⟩ (g_Mo_push (by omega) (N.length : Int) _ (by omega)) (fun r3964 M3965 kq3966 q3966 => ?_)
                  clear kq3966; obtain ⟨q3966a, q3966b⟩ := q3966; subst r3964; subst M3965
                  refine G_ps (pc' := 175) (st' := []) rfl rfl ?_
                  refine G_goto (tgt := 2) d_Mo_reduce_175 (by decide) ?_
                  refine G_ls (ls' := [(2, vi 1), (0, vr 55), (1, vi least)]) (by intro z hz; simp only [List.mem_cons] at hz ⊢; grind) ?_
                  refine ih _ _ _ (RP_push (n := (N.length : Int)) hR8) (by simp only [List.length_cons]; omega) (by simp only [List.length_append, List.length_cons, List.length_nil]; omega) (by simp only [List.length_append, List.length_cons, List.length_nil]; omega) ((redL_2 hS (by omega) (by omega)).symm.trans hF)
          · skip
            refine G_iload (i := 3) (n := 1) (len := 1) (Or.inl ⟨3, rfl, rfl, d_Mo_reduce_50⟩) rfl (G_pc (pc' := 51) rfl ?_)
            refine G_callS (K1 := KE) (d2 := 0) (as := [vi t]) (rest := []) d_Mo_reduce_51 mf_Mo_binds ml_Mo_220 rfl rfl (Nat.le_of_ble_eq_true rfl) (by omega) ⟨Nat.le_refl _, Nat.le_refl _⟩ (g_Mo_binds (by omega) t _) (fun r3967 M3968 kq3969 q3969 => ?_)
            clear kq3969; obtain ⟨q3969a, q3969b⟩ := q3969; subst r3967; subst M3968
            refine G_ps (pc' := 54) (st' := [vi (bdV t)]) rfl rfl ?_
            refine G_if_gt (tgt := 67) d_Mo_reduce_54 (by decide) (fun h3970 => ?_) (fun h3970 => G_pc (pc' := 57) rfl ?_)
            · skip
              refine G_iconst (n := 1) d_Mo_reduce_67 (by decide) (G_pc (pc' := 68) rfl ?_)
              refine G_goto (tgt := 72) d_Mo_reduce_68 (by decide) ?_
              refine G_istore (i := 2) (len := 1) (ls' := [(2, vi 1), (4, vi 0), (3, vi t), (0, vr 55), (1, vi least)]) (Or.inl ⟨2, rfl, rfl, d_Mo_reduce_72⟩) (by decide) rfl (G_pc (pc' := 73) rfl ?_)
              refine G_iload (i := 2) (n := 0) (len := 1) (Or.inl ⟨2, rfl, rfl, d_Mo_reduce_73⟩) rfl (G_pc (pc' := 74) rfl ?_)
              refine G_if_ne (tgt := 78) d_Mo_reduce_74 (by decide) (fun h3971 => ?_) (fun h3971 => absurd h3971 (by decide))
              rcases (show (t = 26 ∧ least = 0) ∨ (least ≤ bdV t ∧ 0 < bdV t) by omega) with ⟨h26, hl0⟩ | ⟨hb1, hb2⟩
              · skip
                have hS : ¬ isS t = true := by unfold isS; grind
                have hb26 : bdV t = 0 := by rw [h26]; decide
                have haw : arW t = 2 := by rw [h26]; decide
                obtain ⟨x3, x2, x1, O, rfl⟩ := cons3 (show 3 ≤ O.length by omega)
                simp only [List.length_cons] at hA1 hC ho0
                have hR1 := hd4
                have hn1 := RP_N hR1
                have ho1 := RP_O hR1
                have hp1 := RP_P hR1
                (try simp only [List.length_cons] at ho1)
                refine G_aload (i := 0) (n := 3) (len := 1) (Or.inl ⟨0, rfl, rfl, d_Mo_reduce_78⟩) rfl (by decide) (G_pc (pc' := 79) rfl ?_)
                refine G_dup d_Mo_reduce_79 (fun _ h => by cases h) (G_pc (pc' := 80) rfl ?_)
                refine G_get (o := 55) (c := 9) (k := 39) (v := M1 55 39) d_Mo_reduce_80 fl_Mo_213 rfl (by decide) (by decide) rfl rfl (G_pc (pc' := 83) rfl ?_)
                refine G_iconst (n := 1) d_Mo_reduce_83 (by decide) (G_pc (pc' := 84) rfl ?_)
                refine G_isub d_Mo_reduce_84 (by omega) (G_pc (pc' := 85) rfl ?_)
                refine G_putL (o := 55) (c := 9) (k := 39) (ki := 39) (x := (M1 55 39) - 1) d_Mo_reduce_85 fl_Mo_213 rfl rfl (by decide) (by decide) (by decide) rfl rfl (tokI (by omega)) rfl (G_pc (pc' := 88) rfl ?_)
                refine G_iload (i := 4) (n := 1) (len := 2) (Or.inr ⟨rfl, d_Mo_reduce_88⟩) rfl (G_pc (pc' := 90) rfl ?_)
                refine G_if_eq (tgt := 97) d_Mo_reduce_90 (by decide) (fun h3972 => ?_) (fun h3972 => absurd h3972 (by decide))
                refine G_aload (i := 0) (n := 3) (len := 1) (Or.inl ⟨0, rfl, rfl, d_Mo_reduce_97⟩) rfl (by decide) (G_pc (pc' := 98) rfl ?_)
                refine G_callV (K1 := KE) (d2 := 0) (o := 55) (cl := 9) (as := []) (rest := []) d_Mo_reduce_98 mf_Mo_pop ml_Mo_223 rfl rfl (by decide) rfl rfl (Nat.le_of_ble_eq_true rfl) (by omega) ⟨Nat.le_refl _, Nat.le_refl _⟩ (g_Mo_pop (by omega)  _ (by omega)) (fun r3973 M3974 kq3975 q3975 => ?_)
                clear kq3975; obtain ⟨q3975a, q3975b⟩ := q3975; subst r3973; subst M3974
                refine G_ps (pc' := 101) (st' := [vi ((mset M1 55 39 ((M1 55 39) - 1)) 84 ((mset M1 55 39 ((M1 55 39) - 1)) 55 37 - 1))]) rfl rfl ?_
                obtain ⟨hv1, hR2⟩ := RP_pop hR1
                have hn2 := RP_N hR2
                have ho2 := RP_O hR2
                have hp2 := RP_P hR2
                (try simp only [List.length_cons] at ho2)
                rw [hv1]
                refine G_istore (i := 5) (len := 2) (ls' := [(5, vi x3), (2, vi 1), (4, vi 0), (3, vi t), (0, vr 55), (1, vi least)]) (Or.inr ⟨rfl, d_Mo_reduce_101⟩) (by decide) rfl (G_pc (pc' := 103) rfl ?_)
                refine G_iload (i := 3) (n := 3) (len := 1) (Or.inl ⟨3, rfl, rfl, d_Mo_reduce_103⟩) rfl (G_pc (pc' := 104) rfl ?_)
                refine G_bipush (n := 26) d_Mo_reduce_104 (by decide) (G_pc (pc' := 106) rfl ?_)
                refine G_icmp_ne (tgt := 116) d_Mo_reduce_106 (by decide) (fun h3976 => absurd h3976 (by omega)) (fun h3976 => G_pc (pc' := 109) rfl ?_)
                refine G_aload (i := 0) (n := 4) (len := 1) (Or.inl ⟨0, rfl, rfl, d_Mo_reduce_109⟩) rfl (by decide) (G_pc (pc' := 110) rfl ?_)
                refine G_callV (K1 := KE) (d2 := 0) (o := 55) (cl := 9) (as := []) (rest := []) d_Mo_reduce_110 mf_Mo_pop ml_Mo_223 rfl rfl (by decide) rfl rfl (Nat.le_of_ble_eq_true rfl) (by omega) ⟨Nat.le_refl _, Nat.le_refl _⟩ (g_Mo_pop (by omega)  _ (by omega)) (fun r3977 M3978 kq3979 q3979 => ?_)
                clear kq3979; obtain ⟨q3979a, q3979b⟩ := q3979; subst r3977; subst M3978
                refine G_ps (pc' := 113) (st' := [vi ((popM (mset M1 55 39 ((M1 55 39) - 1))) 84 ((popM (mset M1 55 39 ((M1 55 39) - 1))) 55 37 - 1))]) rfl rfl ?_
                refine G_goto (tgt := 117) d_Mo_reduce_113 (by decide) ?_
                obtain ⟨hv2, hR3⟩ := RP_pop hR2
                have hn3 := RP_N hR3
                have ho3 := RP_O hR3
                have hp3 := RP_P hR3
                (try simp only [List.length_cons] at ho3)
                rw [hv2]
                refine G_istore (i := 6) (len := 2) (ls' := [(6, vi x2), (5, vi x3), (2, vi 1), (4, vi 0), (3, vi t), (0, vr 55), (1, vi least)]) (Or.inr ⟨rfl, d_Mo_reduce_117⟩) (by decide) rfl (G_pc (pc' := 119) rfl ?_)
                refine G_aload (i := 0) (n := 5) (len := 1) (Or.inl ⟨0, rfl, rfl, d_Mo_reduce_119⟩) rfl (by decide) (G_pc (pc' := 120) rfl ?_)
                refine G_callV (K1 := KE) (d2 := 0) (o := 55) (cl := 9) (as := []) (rest := []) d_Mo_reduce_120 mf_Mo_pop ml_Mo_223 rfl rfl (by decide) rfl rfl (Nat.le_of_ble_eq_true rfl) (by omega) ⟨Nat.le_refl _, Nat.le_refl _⟩ (g_Mo_pop (by omega)  _ (by omega)) (fun r3980 M3981 kq3982 q3982 => ?_)
                clear kq3982; obtain ⟨q3982a, q3982b⟩ := q3982; subst r3980; subst M3981
                refine G_ps (pc' := 123) (st' := [vi ((popM (popM (mset M1 55 39 ((M1 55 39) - 1)))) 84 ((popM (popM (mset M1 55 39 ((M1 55 39) - 1)))) 55 37 - 1))]) rfl rfl ?_
                obtain ⟨hv3, hR4⟩ := RP_pop hR3
                have hn4 := RP_N hR4
                have ho4 := RP_O hR4
                have hp4 := RP_P hR4
                (try simp only [List.length_cons] at ho4)
                rw [hv3]
                refine G_istore (i := 7) (len := 2) (ls' := [(7, vi x1), (6, vi x2), (5, vi x3), (2, vi 1), (4, vi 0), (3, vi t), (0, vr 55), (1, vi least)]) (Or.inr ⟨rfl, d_Mo_reduce_123⟩) (by decide) rfl (G_pc (pc' := 125) rfl ?_)
                refine G_iload (i := 3) (n := 5) (len := 1) (Or.inl ⟨3, rfl, rfl, d_Mo_reduce_125⟩) rfl (G_pc (pc' := 126) rfl ?_)
                refine G_bipush (n := 26) d_Mo_reduce_126 (by decide) (G_pc (pc' := 128) rfl ?_)
                refine G_icmp_ne (tgt := 151) d_Mo_reduce_128 (by decide) (fun h3983 => absurd h3983 (by omega)) (fun h3983 => G_pc (pc' := 131) rfl ?_)
                refine G_aload (i := 0) (n := 6) (len := 1) (Or.inl ⟨0, rfl, rfl, d_Mo_reduce_131⟩) rfl (by decide) (G_pc (pc' := 132) rfl ?_)
                refine G_aload (i := 0) (n := 6) (len := 1) (Or.inl ⟨0, rfl, rfl, d_Mo_reduce_132⟩) rfl (by decide) (G_pc (pc' := 133) rfl ?_)
                refine G_bipush (n := 65) d_Mo_reduce_133 (by decide) (G_pc (pc' := 135) rfl ?_)
                refine G_iload (i := 7) (n := 0) (len := 2) (Or.inr ⟨rfl, d_Mo_reduce_135⟩) rfl (G_pc (pc' := 137) rfl ?_)
                refine G_iload (i := 6) (n := 1) (len := 2) (Or.inr ⟨rfl, d_Mo_reduce_137⟩) rfl (G_pc (pc' := 139) rfl ?_)
                refine G_iload (i := 5) (n := 2) (len := 2) (Or.inr ⟨rfl, d_Mo_reduce_139⟩) rfl (G_pc (pc' := 141) rfl ?_)
                refine G_lconst0 d_Mo_reduce_141 (G_pc (pc' := 142) rfl ?_)
                refine G_callV (K1 := KE) (d2 := 0) (o := 55) (cl := 9) (as := [vi 65, vi x1, vi x2, vi x3, vl 0]) (rest := [vr 55]) d_Mo_reduce_142 mf_Mo_node ml_Mo_226 rfl rfl (by decide) rfl rfl (Nat.le_of_ble_eq_true rfl) (by omega) ⟨Nat.le_refl _, Nat.le_refl _⟩ (g_Mo_node (by omega) 65 x1 x2 x3 0 _ (by omega)) (fun r3984 M3985 kq3986 q3986 => ?_)
                clear kq3986; obtain ⟨q3986a, q3986b⟩ := q3986; subst r3984; subst M3985
                refine G_ps (pc' := 145) (st' := [vi ((popM (popM (popM (mset M1 55 39 ((M1 55 39) - 1))))) 55 28), vr 55]) rfl rfl ?_
                rw [hn4]
                have hR8 := RP_node (x := 65) (y := x1) (z := x2) (v := x3) (t := 0) hR4
                have ho8 := RP_O hR8
                refine G_callV (K1 := KE) (d2 := 0) (o := 55) (cl := 9) (as := [vi (N.length : Int)]) (rest := []) d_Mo_reduce_145 mf_Mo_push ml_Mo_230 rfl rfl (by decide) rfl rfl (Nat.le_of_ble_eq_true rfl) (by omega) ⟨Nat.le_refl _, Nat.le_refl _⟩ (g_Mo_push (by omega) (N.length : Int) _ (by omega)) (fun r3987 M3988 kq3989 q3989 => ?_)
                clear kq3989; obtain ⟨q3989a, q3989b⟩ := q3989; subst r3987; subst M3988
                refine G_ps (pc' := 148) (st' := []) rfl rfl ?_
                refine G_goto (tgt := 175) d_Mo_reduce_148 (by decide) ?_
                refine G_goto (tgt := 2) d_Mo_reduce_175 (by decide) ?_
                refine G_ls (ls' := [(2, vi 1), (0, vr 55), (1, vi least)]) (by intro z hz; simp only [List.mem_cons] at hz ⊢; grind) ?_
                refine ih _ _ _ (RP_push (n := (N.length : Int)) hR8) (by simp only [List.length_cons]; omega) (by simp only [List.length_append, List.length_cons, List.length_nil]; omega) (by simp only [List.length_append, List.length_cons, List.length_nil]; omega) ((redL_3 h26 (by omega)).symm.trans hF)
              · skip
                have hS : ¬ isS t = true := by unfold isS; grind
                have h20 : ¬ t = 20 := fun e => by have : bdV t = 0 := (by rw [e]; decide); omega
                have h26 : ¬ t = 26 := fun e => by have : bdV t = 0 := (by rw [e]; decide); omega
                have haw : arW t = 1 := by unfold arW; rw [if_neg hS, if_neg h26, if_neg h20]
                obtain ⟨x2, x1, O, rfl⟩ := cons2 (show 2 ≤ O.length by omega)
                simp only [List.length_cons] at hA1 hC ho0
                have hR1 := hd4
                have hn1 := RP_N hR1
                have ho1 := RP_O hR1
                have hp1 := RP_P hR1
                (try simp only [List.length_cons] at ho1)
                refine G_aload (i := 0) (n := 3) (len := 1) (Or.inl ⟨0, rfl, rfl, d_Mo_reduce_78⟩) rfl (by decide) (G_pc (pc' := 79) rfl ?_)
                refine G_dup d_Mo_reduce_79 (fun _ h => by cases h) (G_pc (pc' := 80) rfl ?_)
                refine G_get (o := 55) (c := 9) (k := 39) (v := M1 55 39) d_Mo_reduce_80 fl_Mo_213 rfl (by decide) (by decide) rfl rfl (G_pc (pc' := 83) rfl ?_)
                refine G_iconst (n := 1) d_Mo_reduce_83 (by decide) (G_pc (pc' := 84) rfl ?_)
                refine G_isub d_Mo_reduce_84 (by omega) (G_pc (pc' := 85) rfl ?_)
                refine G_putL (o := 55) (c := 9) (k := 39) (ki := 39) (x := (M1 55 39) - 1) d_Mo_reduce_85 fl_Mo_213 rfl rfl (by decide) (by decide) (by decide) rfl rfl (tokI (by omega)) rfl (G_pc (pc' := 88) rfl ?_)
                refine G_iload (i := 4) (n := 1) (len := 2) (Or.inr ⟨rfl, d_Mo_reduce_88⟩) rfl (G_pc (pc' := 90) rfl ?_)
                refine G_if_eq (tgt := 97) d_Mo_reduce_90 (by decide) (fun h3990 => ?_) (fun h3990 => absurd h3990 (by decide))
                refine G_aload (i := 0) (n := 3) (len := 1) (Or.inl ⟨0, rfl, rfl, d_Mo_reduce_97⟩) rfl (by decide) (G_pc (pc' := 98) rfl ?_)
                refine G_callV (K1 := KE) (d2 := 0) (o := 55) (cl := 9) (as := []) (rest := []) d_Mo_reduce_98 mf_Mo_pop ml_Mo_223 rfl rfl (by decide) rfl rfl (Nat.le_of_ble_eq_true rfl) (by omega) ⟨Nat.le_refl _, Nat.le_refl _⟩ (g_Mo_pop (by omega)  _ (by omega)) (fun r3991 M3992 kq3993 q3993 => ?_)
                clear kq3993; obtain ⟨q3993a, q3993b⟩ := q3993; subst r3991; subst M3992
                refine G_ps (pc' := 101) (st' := [vi ((mset M1 55 39 ((M1 55 39) - 1)) 84 ((mset M1 55 39 ((M1 55 39) - 1)) 55 37 - 1))]) rfl rfl ?_
                obtain ⟨hv1, hR2⟩ := RP_pop hR1
                have hn2 := RP_N hR2
                have ho2 := RP_O hR2
                have hp2 := RP_P hR2
                (try simp only [List.length_cons] at ho2)
                rw [hv1]
                refine G_istore (i := 5) (len := 2) (ls' := [(5, vi x2), (2, vi 1), (4, vi 0), (3, vi t), (0, vr 55), (1, vi least)]) (Or.inr ⟨rfl, d_Mo_reduce_101⟩) (by decide) rfl (G_pc (pc' := 103) rfl ?_)
                refine G_iload (i := 3) (n := 3) (len := 1) (Or.inl ⟨3, rfl, rfl, d_Mo_reduce_103⟩) rfl (G_pc (pc' := 104) rfl ?_)
                refine G_bipush (n := 26) d_Mo_reduce_104 (by decide) (G_pc (pc' := 106) rfl ?_)
                refine G_icmp_ne (tgt := 116) d_Mo_reduce_106 (by decide) (fun h3994 => ?_) (fun h3994 => absurd h3994 (by omega))
                refine G_iconst (n := (-1)) d_Mo_reduce_116 (by decide) (G_pc (pc' := 117) rfl ?_)
                refine G_istore (i := 6) (len := 2) (ls' := [(6, vi (-1)), (5, vi x2), (2, vi 1), (4, vi 0), (3, vi t), (0, vr 55), (1, vi least)]) (Or.inr ⟨rfl, d_Mo_reduce_117⟩) (by decide) rfl (G_pc (pc' := 119) rfl ?_)
                refine G_aload (i := 0) (n := 5) (len := 1) (Or.inl ⟨0, rfl, rfl, d_Mo_reduce_119⟩) rfl (by decide) (G_pc (pc' := 120) rfl ?_)
                refine G_callV (K1 := KE) (d2 := 0) (o := 55) (cl := 9) (as := []) (rest := []) d_Mo_reduce_120 mf_Mo_pop ml_Mo_223 rfl rfl (by decide) rfl rfl (Nat.le_of_ble_eq_true rfl) (by omega) ⟨Nat.le_refl _, Nat.le_refl _⟩ (g_Mo_pop (by omega)  _ (by omega)) (fun r3995 M3996 kq3997 q3997 => ?_)
                clear kq3997; obtain ⟨q3997a, q3997b⟩ := q3997; subst r3995; subst M3996
                refine G_ps (pc' := 123) (st' := [vi ((popM (mset M1 55 39 ((M1 55 39) - 1))) 84 ((popM (mset M1 55 39 ((M1 55 39) - 1))) 55 37 - 1))]) rfl rfl ?_
                obtain ⟨hv2, hR3⟩ := RP_pop hR2
                have hn3 := RP_N hR3
                have ho3 := RP_O hR3
                have hp3 := RP_P hR3
                (try simp only [List.length_cons] at ho3)
                rw [hv2]
                refine G_istore (i := 7) (len := 2) (ls' := [(7, vi x1), (6, vi (-1)), (5, vi x2), (2, vi 1), (4, vi 0), (3, vi t), (0, vr 55), (1, vi least)]) (Or.inr ⟨rfl, d_Mo_reduce_123⟩) (by decide) rfl (G_pc (pc' := 125) rfl ?_)
                refine G_iload (i := 3) (n := 5) (len := 1) (Or.inl ⟨3, rfl, rfl, d_Mo_reduce_125⟩) rfl (G_pc (pc' := 126) rfl ?_)
                refine G_bipush (n := 26) d_Mo_reduce_126 (by decide) (G_pc (pc' := 128) rfl ?_)
                refine G_icmp_ne (tgt := 151) d_Mo_reduce_128 (by decide) (fun h3998 => ?_) (fun h3998 => absurd h3998 (by omega))
                refine G_aload (i := 0) (n := 6) (len := 1) (Or.inl ⟨0, rfl, rfl, d_Mo_reduce_151⟩) rfl (by decide) (G_pc (pc' := 152) rfl ?_)
                refine G_aload (i := 0) (n := 6) (len := 1) (Or.inl ⟨0, rfl, rfl, d_Mo_reduce_152⟩) rfl (by decide) (G_pc (pc' := 153) rfl ?_)
                refine G_iload (i := 3) (n := 5) (len := 1) (Or.inl ⟨3, rfl, rfl, d_Mo_reduce_153⟩) rfl (G_pc (pc' := 154) rfl ?_)
                refine G_iload (i := 7) (n := 0) (len := 2) (Or.inr ⟨rfl, d_Mo_reduce_154⟩) rfl (G_pc (pc' := 156) rfl ?_)
                refine G_iload (i := 5) (n := 2) (len := 2) (Or.inr ⟨rfl, d_Mo_reduce_156⟩) rfl (G_pc (pc' := 158) rfl ?_)
                refine G_iconst (n := (-1)) d_Mo_reduce_158 (by decide) (G_pc (pc' := 159) rfl ?_)
                refine G_aload (i := 0) (n := 6) (len := 1) (Or.inl ⟨0, rfl, rfl, d_Mo_reduce_159⟩) rfl (by decide) (G_pc (pc' := 160) rfl ?_)
                refine G_get (o := 55) (c := 9) (k := 41) (v := 86) d_Mo_reduce_160 fl_Mo_102 rfl (by decide) (by decide) rfl rfl (G_pc (pc' := 163) rfl ?_)
                refine G_aload (i := 0) (n := 6) (len := 1) (Or.inl ⟨0, rfl, rfl, d_Mo_reduce_163⟩) rfl (by decide) (G_pc (pc' := 164) rfl ?_)
                refine G_get (o := 55) (c := 9) (k := 39) (v := (popM (popM (mset M1 55 39 ((M1 55 39) - 1)))) 55 39) d_Mo_reduce_164 fl_Mo_213 rfl (by decide) (by decide) rfl rfl (G_pc (pc' := 167) rfl ?_)
                refine G_iaload (o := 86) (n := 32) (i := (popM (popM (mset M1 55 39 ((M1 55 39) - 1)))) 55 39) (v := (popM (popM (mset M1 55 39 ((M1 55 39) - 1)))) 86 ((popM (popM (mset M1 55 39 ((M1 55 39) - 1)))) 55 39)) d_Mo_reduce_167 rfl ⟨by decide, by decide⟩ (by omega) (rd_arr rfl) (fun t3999 => G_pc (pc' := 168) rfl ?_)
                have t3999 := tok_i t3999
                refine G_i2l d_Mo_reduce_168 (G_pc (pc' := 169) rfl ?_)
                rw [show (popM (popM (mset M1 55 39 ((M1 55 39) - 1)))) 86 ((popM (popM (mset M1 55 39 ((M1 55 39) - 1)))) 55 39) = k from hd2]
                refine G_callV (K1 := KE) (d2 := 0) (o := 55) (cl := 9) (as := [vi t, vi x1, vi x2, vi (-1), vl k]) (rest := [vr 55]) d_Mo_reduce_169 mf_Mo_node ml_Mo_226 rfl rfl (by decide) rfl rfl (Nat.le_of_ble_eq_true rfl) (by omega) ⟨Nat.le_refl _, Nat.le_refl _⟩ (g_Mo_node (by omega) t x1 x2 (-1) k _ (by omega)) (fun r4000 M4001 kq4002 q4002 => ?_)
                clear kq4002; obtain ⟨q4002a, q4002b⟩ := q4002; subst r4000; subst M4001
                refine G_ps (pc' := 172) (st' := [vi ((popM (popM (mset M1 55 39 ((M1 55 39) - 1)))) 55 28), vr 55]) rfl rfl ?_
                rw [hn3]
                skip
                have hR8 := RP_node (x := t) (y := x1) (z := x2) (v := -1) (t := k) hR3
                have ho8 := RP_O hR8
                refine G_callV (K1 := KE) (d2 := 0) (o := 55) (cl := 9) (as := [vi (N.length : Int)]) (rest := []) d_Mo_reduce_172 mf_Mo_push ml_Mo_230 rfl rfl (by decide) rfl rfl (Nat.le_of_ble_eq_true rfl) (by omega) ⟨Nat.le_refl _, Nat.le_refl _⟩ (g_Mo_push (by omega) (N.length : Int) _ (by omega)) (fun r4003 M4004 kq4005 q4005 => ?_)
                clear kq4005; obtain ⟨q4005a, q4005b⟩ := q4005; subst r4003; subst M4004
                refine G_ps (pc' := 175) (st' := []) rfl rfl ?_
                refine G_goto (tgt := 2) d_Mo_reduce_175 (by decide) ?_
                refine G_ls (ls' := [(2, vi 1), (0, vr 55), (1, vi least)]) (by intro z hz; simp only [List.mem_cons] at hz ⊢; grind) ?_
                refine ih _ _ _ (RP_push (n := (N.length : Int)) hR8) (by simp only [List.length_cons]; omega) (by simp only [List.length_append, List.length_cons, List.length_nil]; omega) (by simp only [List.length_append, List.length_cons, List.length_nil]; omega) ((redL_2 hS (by omega) (by omega)).symm.trans hF)
            · skip
              refine G_iload (i := 3) (n := 1) (len := 1) (Or.inl ⟨3, rfl, rfl, d_Mo_reduce_57⟩) rfl (G_pc (pc' := 58) rfl ?_)
              refine G_bipush (n := 26) d_Mo_reduce_58 (by decide) (G_pc (pc' := 60) rfl ?_)
              refine G_icmp_ne (tgt := 71) d_Mo_reduce_60 (by decide) (fun h4006 => ?_) (fun h4006 => G_pc (pc' := 63) rfl ?_)
              · skip
                refine G_iconst (n := 0) d_Mo_reduce_71 (by decide) (G_pc (pc' := 72) rfl ?_)
                refine G_istore (i := 2) (len := 1) (ls' := [(2, vi 0), (4, vi 0), (3, vi t), (0, vr 55), (1, vi least)]) (Or.inl ⟨2, rfl, rfl, d_Mo_reduce_72⟩) (by decide) rfl (G_pc (pc' := 73) rfl ?_)
                refine G_iload (i := 2) (n := 0) (len := 1) (Or.inl ⟨2, rfl, rfl, d_Mo_reduce_73⟩) rfl (G_pc (pc' := 74) rfl ?_)
                refine G_if_ne (tgt := 78) d_Mo_reduce_74 (by decide) (fun h4007 => absurd h4007 (by decide)) (fun h4007 => G_pc (pc' := 77) rfl ?_)
                refine G_vret d_Mo_reduce_77 rfl rfl ?_
                exact ⟨rfl, by rw [← hF, reduceL_n (by unfold redB isS; grind)]; exact hR⟩
              · skip
                refine G_iload (i := 1) (n := 4) (len := 1) (Or.inl ⟨1, rfl, rfl, d_Mo_reduce_63⟩) rfl (G_pc (pc' := 64) rfl ?_)
                refine G_if_ne (tgt := 71) d_Mo_reduce_64 (by decide) (fun h4008 => ?_) (fun h4008 => G_pc (pc' := 67) rfl ?_)
                · skip
                  refine G_iconst (n := 0) d_Mo_reduce_71 (by decide) (G_pc (pc' := 72) rfl ?_)
                  refine G_istore (i := 2) (len := 1) (ls' := [(2, vi 0), (4, vi 0), (3, vi t), (0, vr 55), (1, vi least)]) (Or.inl ⟨2, rfl, rfl, d_Mo_reduce_72⟩) (by decide) rfl (G_pc (pc' := 73) rfl ?_)
                  refine G_iload (i := 2) (n := 0) (len := 1) (Or.inl ⟨2, rfl, rfl, d_Mo_reduce_73⟩) rfl (G_pc (pc' := 74) rfl ?_)
                  refine G_if_ne (tgt := 78) d_Mo_reduce_74 (by decide) (fun h4009 => absurd h4009 (by decide)) (fun h4009 => G_pc (pc' := 77) rfl ?_)
                  refine G_vret d_Mo_reduce_77 rfl rfl ?_
                  exact ⟨rfl, by rw [← hF, reduceL_n (by unfold redB isS; grind)]; exact hR⟩
                · skip
                  refine G_iconst (n := 1) d_Mo_reduce_67 (by decide) (G_pc (pc' := 68) rfl ?_)
                  refine G_goto (tgt := 72) d_Mo_reduce_68 (by decide) ?_
                  refine G_istore (i := 2) (len := 1) (ls' := [(2, vi 1), (4, vi 0), (3, vi t), (0, vr 55), (1, vi least)]) (Or.inl ⟨2, rfl, rfl, d_Mo_reduce_72⟩) (by decide) rfl (G_pc (pc' := 73) rfl ?_)
                  refine G_iload (i := 2) (n := 0) (len := 1) (Or.inl ⟨2, rfl, rfl, d_Mo_reduce_73⟩) rfl (G_pc (pc' := 74) rfl ?_)
                  refine G_if_ne (tgt := 78) d_Mo_reduce_74 (by decide) (fun h4010 => ?_) (fun h4010 => absurd h4010 (by decide))
                  rcases (show (t = 26 ∧ least = 0) ∨ (least ≤ bdV t ∧ 0 < bdV t) by omega) with ⟨h26, hl0⟩ | ⟨hb1, hb2⟩
                  · skip
                    have hS : ¬ isS t = true := by unfold isS; grind
                    have hb26 : bdV t = 0 := by rw [h26]; decide
                    have haw : arW t = 2 := by rw [h26]; decide
                    obtain ⟨x3, x2, x1, O, rfl⟩ := cons3 (show 3 ≤ O.length by omega)
                    simp only [List.length_cons] at hA1 hC ho0
                    have hR1 := hd4
                    have hn1 := RP_N hR1
                    have ho1 := RP_O hR1
                    have hp1 := RP_P hR1
                    (try simp only [List.length_cons] at ho1)
                    refine G_aload (i := 0) (n := 3) (len := 1) (Or.inl ⟨0, rfl, rfl, d_Mo_reduce_78⟩) rfl (by decide) (G_pc (pc' := 79) rfl ?_)
                    refine G_dup d_Mo_reduce_79 (fun _ h => by cases h) (G_pc (pc' := 80) rfl ?_)
                    refine G_get (o := 55) (c := 9) (k := 39) (v := M1 55 39) d_Mo_reduce_80 fl_Mo_213 rfl (by decide) (by decide) rfl rfl (G_pc (pc' := 83) rfl ?_)
                    refine G_iconst (n := 1) d_Mo_reduce_83 (by decide) (G_pc (pc' := 84) rfl ?_)
                    refine G_isub d_Mo_reduce_84 (by omega) (G_pc (pc' := 85) rfl ?_)
                    refine G_putL (o := 55) (c := 9) (k := 39) (ki := 39) (x := (M1 55 39) - 1) d_Mo_reduce_85 fl_Mo_213 rfl rfl (by decide) (by decide) (by decide) rfl rfl (tokI (by omega)) rfl (G_pc (pc' := 88) rfl ?_)
                    refine G_iload (i := 4) (n := 1) (len := 2) (Or.inr ⟨rfl, d_Mo_reduce_88⟩) rfl (G_pc (pc' := 90) rfl ?_)
                    refine G_if_eq (tgt := 97) d_Mo_reduce_90 (by decide) (fun h4011 => ?_) (fun h4011 => absurd h4011 (by decide))
                    refine G_aload (i := 0) (n := 3) (len := 1) (Or.inl ⟨0, rfl, rfl, d_Mo_reduce_97⟩) rfl (by decide) (G_pc (pc' := 98) rfl ?_)
                    refine G_callV (K1 := KE) (d2 := 0) (o := 55) (cl := 9) (as := []) (rest := []) d_Mo_reduce_98 mf_Mo_pop ml_Mo_223 rfl rfl (by decide) rfl rfl (Nat.le_of_ble_eq_true rfl) (by omega) ⟨Nat.le_refl _, Nat.le_refl _⟩ (g_Mo_pop (by omega)  _ (by omega)) (fun r4012 M4013 kq4014 q4014 => ?_)
                    clear kq4014; obtain ⟨q4014a, q4014b⟩ := q4014; subst r4012; subst M4013
                    refine G_ps (pc' := 101) (st' := [vi ((mset M1 55 39 ((M1 55 39) - 1)) 84 ((mset M1 55 39 ((M1 55 39) - 1)) 55 37 - 1))]) rfl rfl ?_
                    obtain ⟨hv1, hR2⟩ := RP_pop hR1
                    have hn2 := RP_N hR2
                    have ho2 := RP_O hR2
                    have hp2 := RP_P hR2
                    (try simp only [List.length_cons] at ho2)
                    rw [hv1]
                    refine G_istore (i := 5) (len := 2) (ls' := [(5, vi x3), (2, vi 1), (4, vi 0), (3, vi t), (0, vr 55), (1, vi least)]) (Or.inr ⟨rfl, d_Mo_reduce_101⟩) (by decide) rfl (G_pc (pc' := 103) rfl ?_)
                    refine G_iload (i := 3) (n := 3) (len := 1) (Or.inl ⟨3, rfl, rfl, d_Mo_reduce_103⟩) rfl (G_pc (pc' := 104) rfl ?_)
                    refine G_bipush (n := 26) d_Mo_reduce_104 (by decide) (G_pc (pc' := 106) rfl ?_)
                    refine G_icmp_ne (tgt := 116) d_Mo_reduce_106 (by decide) (fun h4015 => absurd h4015 (by omega)) (fun h4015 => G_pc (pc' := 109) rfl ?_)
                    refine G_aload (i := 0) (n := 4) (len := 1) (Or.inl ⟨0, rfl, rfl, d_Mo_reduce_109⟩) rfl (by decide) (G_pc (pc' := 110) rfl ?_)
                    refine G_callV (K1 := KE) (d2 := 0) (o := 55) (cl := 9) (as := []) (rest := []) d_Mo_reduce_110 mf_Mo_pop ml_Mo_223 rfl rfl (by decide) rfl rfl (Nat.le_of_ble_eq_true rfl) (by omega) ⟨Nat.le_refl _, Nat.le_refl _⟩ (g_Mo_pop (by omega)  _ (by omega)) (fun r4016 M4017 kq4018 q4018 => ?_)
                    clear kq4018; obtain ⟨q4018a, q4018b⟩ := q4018; subst r4016; subst M4017
                    refine G_ps (pc' := 113) (st' := [vi ((popM (mset M1 55 39 ((M1 55 39) - 1))) 84 ((popM (mset M1 55 39 ((M1 55 39) - 1))) 55 37 - 1))]) rfl rfl ?_
                    refine G_goto (tgt := 117) d_Mo_reduce_113 (by decide) ?_
                    obtain ⟨hv2, hR3⟩ := RP_pop hR2
                    have hn3 := RP_N hR3
                    have ho3 := RP_O hR3
                    have hp3 := RP_P hR3
                    (try simp only [List.length_cons] at ho3)
                    rw [hv2]
                    refine G_istore (i := 6) (len := 2) (ls' := [(6, vi x2), (5, vi x3), (2, vi 1), (4, vi 0), (3, vi t), (0, vr 55), (1, vi least)]) (Or.inr ⟨rfl, d_Mo_reduce_117⟩) (by decide) rfl (G_pc (pc' := 119) rfl ?_)
                    refine G_aload (i := 0) (n := 5) (len := 1) (Or.inl ⟨0, rfl, rfl, d_Mo_reduce_119⟩) rfl (by decide) (G_pc (pc' := 120) rfl ?_)
                    refine G_callV (K1 := KE) (d2 := 0) (o := 55) (cl := 9) (as := []) (rest := []) d_Mo_reduce_120 mf_Mo_pop ml_Mo_223 rfl rfl (by decide) rfl rfl (Nat.le_of_ble_eq_true rfl) (by omega) ⟨Nat.le_refl _, Nat.le_refl _⟩ (g_Mo_pop (by omega)  _ (by omega)) (fun r4019 M4020 kq4021 q4021 => ?_)
                    clear kq4021; obtain ⟨q4021a, q4021b⟩ := q4021; subst r4019; subst M4020
                    refine G_ps (pc' := 123) (st' := [vi ((popM (popM (mset M1 55 39 ((M1 55 39) - 1)))) 84 ((popM (popM (mset M1 55 39 ((M1 55 39) - 1)))) 55 37 - 1))]) rfl rfl ?_
                    obtain ⟨hv3, hR4⟩ := RP_pop hR3
                    have hn4 := RP_N hR4
                    have ho4 := RP_O hR4
                    have hp4 := RP_P hR4
                    (try simp only [List.length_cons] at ho4)
                    rw [hv3]
                    refine G_istore (i := 7) (len := 2) (ls' := [(7, vi x1), (6, vi x2), (5, vi x3), (2, vi 1), (4, vi 0), (3, vi t), (0, vr 55), (1, vi least)]) (Or.inr ⟨rfl, d_Mo_reduce_123⟩) (by decide) rfl (G_pc (pc' := 125) rfl ?_)
                    refine G_iload (i := 3) (n := 5) (len := 1) (Or.inl ⟨3, rfl, rfl, d_Mo_reduce_125⟩) rfl (G_pc (pc' := 126) rfl ?_)
                    refine G_bipush (n := 26) d_Mo_reduce_126 (by decide) (G_pc (pc' := 128) rfl ?_)
                    refine G_icmp_ne (tgt := 151) d_Mo_reduce_128 (by decide) (fun h4022 => absurd h4022 (by omega)) (fun h4022 => G_pc (pc' := 131) rfl ?_)
                    refine G_aload (i := 0) (n := 6) (len := 1) (Or.inl ⟨0, rfl, rfl, d_Mo_reduce_131⟩) rfl (by decide) (G_pc (pc' := 132) rfl ?_)
                    refine G_aload (i := 0) (n := 6) (len := 1) (Or.inl ⟨0, rfl, rfl, d_Mo_reduce_132⟩) rfl (by decide) (G_pc (pc' := 133) rfl ?_)
                    refine G_bipush (n := 65) d_Mo_reduce_133 (by decide) (G_pc (pc' := 135) rfl ?_)
                    refine G_iload (i := 7) (n := 0) (len := 2) (Or.inr ⟨rfl, d_Mo_reduce_135⟩) rfl (G_pc (pc' := 137) rfl ?_)
                    refine G_iload (i := 6) (n := 1) (len := 2) (Or.inr ⟨rfl, d_Mo_reduce_137⟩) rfl (G_pc (pc' := 139) rfl ?_)
                    refine G_iload (i := 5) (n := 2) (len := 2) (Or.inr ⟨rfl, d_Mo_reduce_139⟩) rfl (G_pc (pc' := 141) rfl ?_)
                    refine G_lconst0 d_Mo_reduce_141 (G_pc (pc' := 142) rfl ?_)
                    refine G_callV (K1 := KE) (d2 := 0) (o := 55) (cl := 9) (as := [vi 65, vi x1, vi x2, vi x3, vl 0]) (rest := [vr 55]) d_Mo_reduce_142 mf_Mo_node ml_Mo_226 rfl rfl (by decide) rfl rfl (Nat.le_of_ble_eq_true rfl) (by omega) ⟨Nat.le_refl _, Nat.le_refl _⟩ (g_Mo_node (by omega) 65 x1 x2 x3 0 _ (by omega)) (fun r4023 M4024 kq4025 q4025 => ?_)
                    clear kq4025; obtain ⟨q4025a, q4025b⟩ := q4025; subst r4023; subst M4024
                    refine G_ps (pc' := 145) (st' := [vi ((popM (popM (popM (mset M1 55 39 ((M1 55 39) - 1))))) 55 28), vr 55]) rfl rfl ?_
                    rw [hn4]
                    have hR8 := RP_node (x := 65) (y := x1) (z := x2) (v := x3) (t := 0) hR4
                    have ho8 := RP_O hR8
                    refine G_callV (K1 := KE) (d2 := 0) (o := 55) (cl := 9) (as := [vi (N.length : Int)]) (rest := []) d_Mo_reduce_145 mf_Mo_push ml_Mo_230 rfl rfl (by decide) rfl rfl (Nat.le_of_ble_eq_true rfl) (by omega) ⟨Nat.le_refl _, Nat.le_refl _⟩ (g_Mo_push (by omega) (N.length : Int) _ (by omega)) (fun r4026 M4027 kq4028 q4028 => ?_)
                    clear kq4028; obtain ⟨q4028a, q4028b⟩ := q4028; subst r4026; subst M4027
                    refine G_ps (pc' := 148) (st' := []) rfl rfl ?_
                    refine G_goto (tgt := 175) d_Mo_reduce_148 (by decide) ?_
                    refine G_goto (tgt := 2) d_Mo_reduce_175 (by decide) ?_
                    refine G_ls (ls' := [(2, vi 1), (0, vr 55), (1, vi least)]) (by intro z hz; simp only [List.mem_cons] at hz ⊢; grind) ?_
                    refine ih _ _ _ (RP_push (n := (N.length : Int)) hR8) (by simp only [List.length_cons]; omega) (by simp only [List.length_append, List.length_cons, List.length_nil]; omega) (by simp only [List.length_append, List.length_cons, List.length_nil]; omega) ((redL_3 h26 (by omega)).symm.trans hF)
                  · skip
                    have hS : ¬ isS t = true := by unfold isS; grind
                    have h20 : ¬ t = 20 := fun e => by have : bdV t = 0 := (by rw [e]; decide); omega
                    have h26 : ¬ t = 26 := fun e => by have : bdV t = 0 := (by rw [e]; decide); omega
                    have haw : arW t = 1 := by unfold arW; rw [if_neg hS, if_neg h26, if_neg h20]
                    obtain ⟨x2, x1, O, rfl⟩ := cons2 (show 2 ≤ O.length by omega)
                    simp only [List.length_cons] at hA1 hC ho0
                    have hR1 := hd4
                    have hn1 := RP_N hR1
                    have ho1 := RP_O hR1
                    have hp1 := RP_P hR1
                    (try simp only [List.length_cons] at ho1)
                    refine G_aload (i := 0) (n := 3) (len := 1) (Or.inl ⟨0, rfl, rfl, d_Mo_reduce_78⟩) rfl (by decide) (G_pc (pc' := 79) rfl ?_)
                    refine G_dup d_Mo_reduce_79 (fun _ h => by cases h) (G_pc (pc' := 80) rfl ?_)
                    refine G_get (o := 55) (c := 9) (k := 39) (v := M1 55 39) d_Mo_reduce_80 fl_Mo_213 rfl (by decide) (by decide) rfl rfl (G_pc (pc' := 83) rfl ?_)
                    refine G_iconst (n := 1) d_Mo_reduce_83 (by decide) (G_pc (pc' := 84) rfl ?_)
                    refine G_isub d_Mo_reduce_84 (by omega) (G_pc (pc' := 85) rfl ?_)
                    refine G_putL (o := 55) (c := 9) (k := 39) (ki := 39) (x := (M1 55 39) - 1) d_Mo_reduce_85 fl_Mo_213 rfl rfl (by decide) (by decide) (by decide) rfl rfl (tokI (by omega)) rfl (G_pc (pc' := 88) rfl ?_)
                    refine G_iload (i := 4) (n := 1) (len := 2) (Or.inr ⟨rfl, d_Mo_reduce_88⟩) rfl (G_pc (pc' := 90) rfl ?_)
                    refine G_if_eq (tgt := 97) d_Mo_reduce_90 (by decide) (fun h4029 => ?_) (fun h4029 => absurd h4029 (by decide))
                    refine G_aload (i := 0) (n := 3) (len := 1) (Or.inl ⟨0, rfl, rfl, d_Mo_reduce_97⟩) rfl (by decide) (G_pc (pc' := 98) rfl ?_)
                    refine G_callV (K1 := KE) (d2 := 0) (o := 55) (cl := 9) (as := []) (rest := []) d_Mo_reduce_98 mf_Mo_pop ml_Mo_223 rfl rfl (by decide) rfl rfl (Nat.le_of_ble_eq_true rfl) (by omega) ⟨Nat.le_refl _, Nat.le_refl _⟩ (g_Mo_pop (by omega)  _ (by omega)) (fun r4030 M4031 kq4032 q4032 => ?_)
                    clear kq4032; obtain ⟨q4032a, q4032b⟩ := q4032; subst r4030; subst M4031
                    refine G_ps (pc' := 101) (st' := [vi ((mset M1 55 39 ((M1 55 39) - 1)) 84 ((mset M1 55 39 ((M1 55 39) - 1)) 55 37 - 1))]) rfl rfl ?_
                    obtain ⟨hv1, hR2⟩ := RP_pop hR1
                    have hn2 := RP_N hR2
                    have ho2 := RP_O hR2
                    have hp2 := RP_P hR2
                    (try simp only [List.length_cons] at ho2)
                    rw [hv1]
                    refine G_istore (i := 5) (len := 2) (ls' := [(5, vi x2), (2, vi 1), (4, vi 0), (3, vi t), (0, vr 55), (1, vi least)]) (Or.inr ⟨rfl, d_Mo_reduce_101⟩) (by decide) rfl (G_pc (pc' := 103) rfl ?_)
                    refine G_iload (i := 3) (n := 3) (len := 1) (Or.inl ⟨3, rfl, rfl, d_Mo_reduce_103⟩) rfl (G_pc (pc' := 104) rfl ?_)
                    refine G_bipush (n := 26) d_Mo_reduce_104 (by decide) (G_pc (pc' := 106) rfl ?_)
                    refine G_icmp_ne (tgt := 116) d_Mo_reduce_106 (by decide) (fun h4033 => ?_) (fun h4033 => absurd h4033 (by omega))
                    refine G_iconst (n := (-1)) d_Mo_reduce_116 (by decide) (G_pc (pc' := 117) rfl ?_)
                    refine G_istore (i := 6) (len := 2) (ls' := [(6, vi (-1)), (5, vi x2), (2, vi 1), (4, vi 0), (3, vi t), (0, vr 55), (1, vi least)]) (Or.inr ⟨rfl, d_Mo_reduce_117⟩) (by decide) rfl (G_pc (pc' := 119) rfl ?_)
                    refine G_aload (i := 0) (n := 5) (len := 1) (Or.inl ⟨0, rfl, rfl, d_Mo_reduce_119⟩) rfl (by decide) (G_pc (pc' := 120) rfl ?_)
                    refine G_callV (K1 := KE) (d2 := 0) (o := 55) (cl := 9) (as := []) (rest := []) d_Mo_reduce_120 mf_Mo_pop ml_Mo_223 rfl rfl (by decide) rfl rfl (Nat.le_of_ble_eq_true rfl) (by omega) ⟨Nat.le_refl _, Nat.le_refl _⟩ (g_Mo_pop (by omega)  _ (by omega)) (fun r4034 M4035 kq4036 q4036 => ?_)
                    clear kq4036; obtain ⟨q4036a, q4036b⟩ := q4036; subst r4034; subst M4035
                    refine G_ps (pc' := 123) (st' := [vi ((popM (mset M1 55 39 ((M1 55 39) - 1))) 84 ((popM (mset M1 55 39 ((M1 55 39) - 1))) 55 37 - 1))]) rfl rfl ?_
                    obtain ⟨hv2, hR3⟩ := RP_pop hR2
                    have hn3 := RP_N hR3
                    have ho3 := RP_O hR3
                    have hp3 := RP_P hR3
                    (try simp only [List.length_cons] at ho3)
                    rw [hv2]
                    refine G_istore (i := 7) (len := 2) (ls' := [(7, vi x1), (6, vi (-1)), (5, vi x2), (2, vi 1), (4, vi 0), (3, vi t), (0, vr 55), (1, vi least)]) (Or.inr ⟨rfl, d_Mo_reduce_123⟩) (by decide) rfl (G_pc (pc' := 125) rfl ?_)
                    refine G_iload (i := 3) (n := 5) (len := 1) (Or.inl ⟨3, rfl, rfl, d_Mo_reduce_125⟩) rfl (G_pc (pc' := 126) rfl ?_)
                    refine G_bipush (n := 26) d_Mo_reduce_126 (by decide) (G_pc (pc' := 128) rfl ?_)
                    refine G_icmp_ne (tgt := 151) d_Mo_reduce_128 (by decide) (fun h4037 => ?_) (fun h4037 => absurd h4037 (by omega))
                    refine G_aload (i := 0) (n := 6) (len := 1) (Or.inl ⟨0, rfl, rfl, d_Mo_reduce_151⟩) rfl (by decide) (G_pc (pc' := 152) rfl ?_)
                    refine G_aload (i := 0) (n := 6) (len := 1) (Or.inl ⟨0, rfl, rfl, d_Mo_reduce_152⟩) rfl (by decide) (G_pc (pc' := 153) rfl ?_)
                    refine G_iload (i := 3) (n := 5) (len := 1) (Or.inl ⟨3, rfl, rfl, d_Mo_reduce_153⟩) rfl (G_pc (pc' := 154) rfl ?_)
                    refine G_iload (i := 7) (n := 0) (len := 2) (Or.inr ⟨rfl, d_Mo_reduce_154⟩) rfl (G_pc (pc' := 156) rfl ?_)
                    refine G_iload (i := 5) (n := 2) (len := 2) (Or.inr ⟨rfl, d_Mo_reduce_156⟩) rfl (G_pc (pc' := 158) rfl ?_)
                    refine G_iconst (n := (-1)) d_Mo_reduce_158 (by decide) (G_pc (pc' := 159) rfl ?_)
                    refine G_aload (i := 0) (n := 6) (len := 1) (Or.inl ⟨0, rfl, rfl, d_Mo_reduce_159⟩) rfl (by decide) (G_pc (pc' := 160) rfl ?_)
                    refine G_get (o := 55) (c := 9) (k := 41) (v := 86) d_Mo_reduce_160 fl_Mo_102 rfl (by decide) (by decide) rfl rfl (G_pc (pc' := 163) rfl ?_)
                    refine G_aload (i := 0) (n := 6) (len := 1) (Or.inl ⟨0, rfl, rfl, d_Mo_reduce_163⟩) rfl (by decide) (G_pc (pc' := 164) rfl ?_)
                    refine G_get (o := 55) (c := 9) (k := 39) (v := (popM (popM (mset M1 55 39 ((M1 55 39) - 1)))) 55 39) d_Mo_reduce_164 fl_Mo_213 rfl (by decide) (by decide) rfl rfl (G_pc (pc' := 167) rfl ?_)
                    refine G_iaload (o := 86) (n := 32) (i := (popM (popM (mset M1 55 39 ((M1 55 39) - 1)))) 55 39) (v := (popM (popM (mset M1 55 39 ((M1 55 39) - 1)))) 86 ((popM (popM (mset M1 55 39 ((M1 55 39) - 1)))) 55 39)) d_Mo_reduce_167 rfl ⟨by decide, by decide⟩ (by omega) (rd_arr rfl) (fun t4038 => G_pc (pc' := 168) rfl ?_)
                    have t4038 := tok_i t4038
                    refine G_i2l d_Mo_reduce_168 (G_pc (pc' := 169) rfl ?_)
                    rw [show (popM (popM (mset M1 55 39 ((M1 55 39) - 1)))) 86 ((popM (popM (mset M1 55 39 ((M1 55 39) - 1)))) 55 39) = k from hd2]
                    refine G_callV (K1 := KE) (d2 := 0) (o := 55) (cl := 9) (as := [vi t, vi x1, vi x2, vi (-1), vl k]) (rest := [vr 55]) d_Mo_reduce_169 mf_Mo_node ml_Mo_226 rfl rfl (by decide) rfl rfl (Nat.le_of_ble_eq_true rfl) (by omega) ⟨Nat.le_refl _, Nat.le_refl _⟩ (g_Mo_node (by omega) t x1 x2 (-1) k _ (by omega)) (fun r4039 M4040 kq4041 q4041 => ?_)
                    clear kq4041; obtain ⟨q4041a, q4041b⟩ := q4041; subst r4039; subst M4040
                    refine G_ps (pc' := 172) (st' := [vi ((popM (popM (mset M1 55 39 ((M1 55 39) - 1)))) 55 28), vr 55]) rfl rfl ?_
                    rw [hn3]
                    skip
                    have hR8 := RP_node (x := t) (y := x1) (z := x2) (v := -1) (t := k) hR3
                    have ho8 := RP_O hR8
                    refine G_callV (K1 := KE) (d2 := 0) (o := 55) (cl := 9) (as := [vi (N.length : Int)]) (rest := []) d_Mo_reduce_172 mf_Mo_push ml_Mo_230 rfl rfl (by decide) rfl rfl (Nat.le_of_ble_eq_true rfl) (by omega) ⟨Nat.le_refl _, Nat.le_refl _⟩ (g_Mo_push (by omega) (N.length : Int) _ (by omega)) (fun r4042 M4043 kq4044 q4044 => ?_)
                    clear kq4044; obtain ⟨q4044a, q4044b⟩ := q4044; subst r4042; subst M4043
                    refine G_ps (pc' := 175) (st' := []) rfl rfl ?_
                    refine G_goto (tgt := 2) d_Mo_reduce_175 (by decide) ?_
                    refine G_ls (ls' := [(2, vi 1), (0, vr 55), (1, vi least)]) (by intro z hz; simp only [List.mem_cons] at hz ⊢; grind) ?_
                    refine ih _ _ _ (RP_push (n := (N.length : Int)) hR8) (by simp only [List.length_cons]; omega) (by simp only [List.length_append, List.length_cons, List.length_nil]; omega) (by simp only [List.length_append, List.length_cons, List.length_nil]; omega) ((redL_2 hS (by omega) (by omega)).symm.trans hF)
        · skip
          refine G_iconst (n := 1) d_Mo_reduce_30 (by decide) (G_pc (pc' := 31) rfl ?_)
          refine G_goto (tgt := 35) d_Mo_reduce_31 (by decide) ?_
          refine G_istore (i := 4) (len := 2) (ls' := [(4, vi 1), (3, vi t), (2, vi 1), (0, vr 55), (1, vi least)]) (Or.inr ⟨rfl, d_Mo_reduce_35⟩) (by decide) rfl (G_pc (pc' := 37) rfl ?_)
          refine G_iload (i := 4) (n := 0) (len := 2) (Or.inr ⟨rfl, d_Mo_reduce_37⟩) rfl (G_pc (pc' := 39) rfl ?_)
          refine G_if_ne (tgt := 67) d_Mo_reduce_39 (by decide) (fun h4045 => ?_) (fun h4045 => absurd h4045 (by decide))
          refine G_iconst (n := 1) d_Mo_reduce_67 (by decide) (G_pc (pc' := 68) rfl ?_)
          refine G_goto (tgt := 72) d_Mo_reduce_68 (by decide) ?_
          refine G_istore (i := 2) (len := 1) (ls' := [(2, vi 1), (4, vi 1), (3, vi t), (0, vr 55), (1, vi least)]) (Or.inl ⟨2, rfl, rfl, d_Mo_reduce_72⟩) (by decide) rfl (G_pc (pc' := 73) rfl ?_)
          refine G_iload (i := 2) (n := 0) (len := 1) (Or.inl ⟨2, rfl, rfl, d_Mo_reduce_73⟩) rfl (G_pc (pc' := 74) rfl ?_)
          refine G_if_ne (tgt := 78) d_Mo_reduce_74 (by decide) (fun h4046 => ?_) (fun h4046 => absurd h4046 (by decide))
          have hS : isS t = true := by unfold isS; grind
          have haw : arW t = 0 := by unfold arW; rw [if_pos hS]
          obtain ⟨x1, O, rfl⟩ := cons1 (show 1 ≤ O.length by omega)
          simp only [List.length_cons] at hA1 hC ho0
          have hR1 := hd4
          have hn1 := RP_N hR1
          have ho1 := RP_O hR1
          have hp1 := RP_P hR1
          (try simp only [List.length_cons] at ho1)
          refine G_aload (i := 0) (n := 3) (len := 1) (Or.inl ⟨0, rfl, rfl, d_Mo_reduce_78⟩) rfl (by decide) (G_pc (pc' := 79) rfl ?_)
          refine G_dup d_Mo_reduce_79 (fun _ h => by cases h) (G_pc (pc' := 80) rfl ?_)
          refine G_get (o := 55) (c := 9) (k := 39) (v := M1 55 39) d_Mo_reduce_80 fl_Mo_213 rfl (by decide) (by decide) rfl rfl (G_pc (pc' := 83) rfl ?_)
          refine G_iconst (n := 1) d_Mo_reduce_83 (by decide) (G_pc (pc' := 84) rfl ?_)
          refine G_isub d_Mo_reduce_84 (by omega) (G_pc (pc' := 85) rfl ?_)
          refine G_putL (o := 55) (c := 9) (k := 39) (ki := 39) (x := (M1 55 39) - 1) d_Mo_reduce_85 fl_Mo_213 rfl rfl (by decide) (by decide) (by decide) rfl rfl (tokI (by omega)) rfl (G_pc (pc' := 88) rfl ?_)
          refine G_iload (i := 4) (n := 1) (len := 2) (Or.inr ⟨rfl, d_Mo_reduce_88⟩) rfl (G_pc (pc' := 90) rfl ?_)
          refine G_if_eq (tgt := 97) d_Mo_reduce_90 (by decide) (fun h4047 => absurd h4047 (by decide)) (fun h4047 => G_pc (pc' := 93) rfl ?_)
          refine G_iconst (n := (-1)) d_Mo_reduce_93 (by decide) (G_pc (pc' := 94) rfl ?_)
          refine G_goto (tgt := 101) d_Mo_reduce_94 (by decide) ?_
          refine G_istore (i := 5) (len := 2) (ls' := [(5, vi (-1)), (2, vi 1), (4, vi 1), (3, vi t), (0, vr 55), (1, vi least)]) (Or.inr ⟨rfl, d_Mo_reduce_101⟩) (by decide) rfl (G_pc (pc' := 103) rfl ?_)
          refine G_iload (i := 3) (n := 3) (len := 1) (Or.inl ⟨3, rfl, rfl, d_Mo_reduce_103⟩) rfl (G_pc (pc' := 104) rfl ?_)
          refine G_bipush (n := 26) d_Mo_reduce_104 (by decide) (G_pc (pc' := 106) rfl ?_)
          refine G_icmp_ne (tgt := 116) d_Mo_reduce_106 (by decide) (fun h4048 => ?_) (fun h4048 => absurd h4048 (by omega))
          refine G_iconst (n := (-1)) d_Mo_reduce_116 (by decide) (G_pc (pc' := 117) rfl ?_)
          refine G_istore (i := 6) (len := 2) (ls' := [(6, vi (-1)), (5, vi (-1)), (2, vi 1), (4, vi 1), (3, vi t), (0, vr 55), (1, vi least)]) (Or.inr ⟨rfl, d_Mo_reduce_117⟩) (by decide) rfl (G_pc (pc' := 119) rfl ?_)
          refine G_aload (i := 0) (n := 5) (len := 1) (Or.inl ⟨0, rfl, rfl, d_Mo_reduce_119⟩) rfl (by decide) (G_pc (pc' := 120) rfl ?_)
          refine G_callV (K1 := KE) (d2 := 0) (o := 55) (cl := 9) (as := []) (rest := []) d_Mo_reduce_120 mf_Mo_pop ml_Mo_223 rfl rfl (by decide) rfl rfl (Nat.le_of_ble_eq_true rfl) (by omega) ⟨Nat.le_refl _, Nat.le_refl _⟩ (g_Mo_pop (by omega)  _ (by omega)) (fun r4049 M4050 kq4051 q4051 => ?_)
          clear kq4051; obtain ⟨q4051a, q4051b⟩ := q4051; subst r4049; subst M4050
          refine G_ps (pc' := 123) (st' := [vi ((mset M1 55 39 ((M1 55 39) - 1)) 84 ((mset M1 55 39 ((M1 55 39) - 1)) 55 37 - 1))]) rfl rfl ?_
          obtain ⟨hv1, hR2⟩ := RP_pop hR1
          have hn2 := RP_N hR2
          have ho2 := RP_O hR2
          have hp2 := RP_P hR2
          (try simp only [List.length_cons] at ho2)
          rw [hv1]
          refine G_istore (i := 7) (len := 2) (ls' := [(7, vi x1), (6, vi (-1)), (5, vi (-1)), (2, vi 1), (4, vi 1), (3, vi t), (0, vr 55), (1, vi least)]) (Or.inr ⟨rfl, d_Mo_reduce_123⟩) (by decide) rfl (G_pc (pc' := 125) rfl ?_)
          refine G_iload (i := 3) (n := 5) (len := 1) (Or.inl ⟨3, rfl, rfl, d_Mo_reduce_125⟩) rfl (G_pc (pc' := 126) rfl ?_)
          refine G_bipush (n := 26) d_Mo_reduce_126 (by decide) (G_pc (pc' := 128) rfl ?_)
          refine G_icmp_ne (tgt := 151) d_Mo_reduce_128 (by decide) (fun h4052 => ?_) (fun h4052 => absurd h4052 (by omega))
          refine G_aload (i := 0) (n := 6) (len := 1) (Or.inl ⟨0, rfl, rfl, d_Mo_reduce_151⟩) rfl (by decide) (G_pc (pc' := 152) rfl ?_)
          refine G_aload (i := 0) (n := 6) (len := 1) (Or.inl ⟨0, rfl, rfl, d_Mo_reduce_152⟩) rfl (by decide) (G_pc (pc' := 153) rfl ?_)
          refine G_iload (i := 3) (n := 5) (len := 1) (Or.inl ⟨3, rfl, rfl, d_Mo_reduce_153⟩) rfl (G_pc (pc' := 154) rfl ?_)
          refine G_iload (i := 7) (n := 0) (len := 2) (Or.inr ⟨rfl, d_Mo_reduce_154⟩) rfl (G_pc (pc' := 156) rfl ?_)
          refine G_iload (i := 5) (n := 2) (len := 2) (Or.inr ⟨rfl, d_Mo_reduce_156⟩) rfl (G_pc (pc' := 158) rfl ?_)
          refine G_iconst (n := (-1)) d_Mo_reduce_158 (by decide) (G_pc (pc' := 159) rfl ?_)
          refine G_aload (i := 0) (n := 6) (len := 1) (Or.inl ⟨0, rfl, rfl, d_Mo_reduce_159⟩) rfl (by decide) (G_pc (pc' := 160) rfl ?_)
          refine G_get (o := 55) (c := 9) (k := 41) (v := 86) d_Mo_reduce_160 fl_Mo_102 rfl (by decide) (by decide) rfl rfl (G_pc (pc' := 163) rfl ?_)
          refine G_aload (i := 0) (n := 6) (len := 1) (Or.inl ⟨0, rfl, rfl, d_Mo_reduce_163⟩) rfl (by decide) (G_pc (pc' := 164) rfl ?_)
          refine G_get (o := 55) (c := 9) (k := 39) (v := (popM (mset M1 55 39 ((M1 55 39) - 1))) 55 39) d_Mo_reduce_164 fl_Mo_213 rfl (by decide) (by decide) rfl rfl (G_pc (pc' := 167) rfl ?_)
          refine G_iaload (o := 86) (n := 32) (i := (popM (mset M1 55 39 ((M1 55 39) - 1))) 55 39) (v := (popM (mset M1 55 39 ((M1 55 39) - 1))) 86 ((popM (mset M1 55 39 ((M1 55 39) - 1))) 55 39)) d_Mo_reduce_167 rfl ⟨by decide, by decide⟩ (by omega) (rd_arr rfl) (fun t4053 => G_pc (pc' := 168) rfl ?_)
          have t4053 := tok_i t4053
          refine G_i2l d_Mo_reduce_168 (G_pc (pc' := 169) rfl ?_)
          rw [show (popM (mset M1 55 39 ((M1 55 39) - 1))) 86 ((popM (mset M1 55 39 ((M1 55 39) - 1))) 55 39) = k from hd2]
          refine G_callV (K1 := KE) (d2 := 0) (o := 55) (cl := 9) (as := [vi t, vi x1, vi (-1), vi (-1), vl k]) (rest := [vr 55]) d_Mo_reduce_169 mf_Mo_node ml_Mo_226 rfl rfl (by decide) rfl rfl (Nat.le_of_ble_eq_true rfl) (by omega) ⟨Nat.le_refl _, Nat.le_refl _⟩ (g_Mo_node (by omega) t x1 (-1) (-1) k _ (by omega)) (fun r4054 M4055 kq4056 q4056 => ?_)
          clear kq4056; obtain ⟨q4056a, q4056b⟩ := q4056; subst r4054; subst M4055
          refine G_ps (pc' := 172) (st' := [vi ((popM (mset M1 55 39 ((M1 55 39) - 1))) 55 28), vr 55]) rfl rfl ?_
          rw [hn2]
          skip
          have hR8 := RP_node (x := t) (y := x1) (z := -1) (v := -1) (t := k) hR2
          have ho8 := RP_O hR8
          refine G_callV (K1 := KE) (d2 := 0) (o := 55) (cl := 9) (as := [vi (N.length : Int)]) (rest := []) d_Mo_reduce_172 mf_Mo_push ml_Mo_230 rfl rfl (by decide) rfl rfl (Nat.le_of_ble_eq_true rfl) (by omega) ⟨Nat.le_refl _, Nat.le_refl _⟩ (g_Mo_push (by omega) (N.length : Int) _ (by omega)) (fun r4057 M4058 kq4059 q4059 => ?_)
          clear kq4059; obtain ⟨q4059a, q4059b⟩ := q4059; subst r4057; subst M4058
          refine G_ps (pc' := 175) (st' := []) rfl rfl ?_
          refine G_goto (tgt := 2) d_Mo_reduce_175 (by decide) ?_
          refine G_ls (ls' := [(2, vi 1), (0, vr 55), (1, vi least)]) (by intro z hz; simp only [List.mem_cons] at hz ⊢; grind) ?_
          refine ih _ _ _ (RP_push (n := (N.length : Int)) hR8) (by simp only [List.length_cons]; omega) (by simp only [List.length_append, List.length_cons, List.length_nil]; omega) (by simp only [List.length_append, List.length_cons, List.length_nil]; omega) ((redL_1 hS).symm.trans hF)
  refine G_iconst (n := 1) d_Mo_reduce_0 (by decide) (G_pc (pc' := 1) rfl ?_)
  refine G_istore (i := 2) (len := 1) (ls' := [(2, vi 1), (0, vr 55), (1, vi least)]) (Or.inl ⟨2, rfl, rfl, d_Mo_reduce_1⟩) (by decide) rfl (G_pc (pc' := 2) rfl ?_)
  exact loop P M N O hR hA hB hC hF

