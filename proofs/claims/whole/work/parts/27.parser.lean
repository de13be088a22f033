theorem d_Mo_parse_0 : decode b_Mo_parse 0 = .ok (.aload_n 0, 1) := by decide +kernel
theorem d_Mo_parse_1 : decode b_Mo_parse 1 = .ok (.iconst 0, 1) := by decide +kernel
theorem d_Mo_parse_2 : decode b_Mo_parse 2 = .ok (.putfield 207, 3) := by decide +kernel
theorem d_Mo_parse_5 : decode b_Mo_parse 5 = .ok (.aload_n 0, 1) := by decide +kernel
theorem d_Mo_parse_6 : decode b_Mo_parse 6 = .ok (.iconst 0, 1) := by decide +kernel
theorem d_Mo_parse_7 : decode b_Mo_parse 7 = .ok (.putfield 210, 3) := by decide +kernel
theorem d_Mo_parse_10 : decode b_Mo_parse 10 = .ok (.aload_n 0, 1) := by decide +kernel
theorem d_Mo_parse_11 : decode b_Mo_parse 11 = .ok (.iconst 0, 1) := by decide +kernel
theorem d_Mo_parse_12 : decode b_Mo_parse 12 = .ok (.putfield 213, 3) := by decide +kernel
theorem d_Mo_parse_15 : decode b_Mo_parse 15 = .ok (.aload_n 0, 1) := by decide +kernel
theorem d_Mo_parse_16 : decode b_Mo_parse 16 = .ok (.iconst 0, 1) := by decide +kernel
theorem d_Mo_parse_17 : decode b_Mo_parse 17 = .ok (.putfield 233, 3) := by decide +kernel
theorem d_Mo_parse_20 : decode b_Mo_parse 20 = .ok (.aload_n 0, 1) := by decide +kernel
theorem d_Mo_parse_21 : decode b_Mo_parse 21 = .ok (.iconst 0, 1) := by decide +kernel
theorem d_Mo_parse_22 : decode b_Mo_parse 22 = .ok (.putfield 236, 3) := by decide +kernel
theorem d_Mo_parse_25 : decode b_Mo_parse 25 = .ok (.aload_n 0, 1) := by decide +kernel
theorem d_Mo_parse_26 : decode b_Mo_parse 26 = .ok (.iconst 0, 1) := by decide +kernel
theorem d_Mo_parse_27 : decode b_Mo_parse 27 = .ok (.putfield 239, 3) := by decide +kernel
theorem d_Mo_parse_30 : decode b_Mo_parse 30 = .ok (.iconst 1, 1) := by decide +kernel
theorem d_Mo_parse_31 : decode b_Mo_parse 31 = .ok (.istore_n 1, 1) := by decide +kernel
theorem d_Mo_parse_32 : decode b_Mo_parse 32 = .ok (.iconst 0, 1) := by decide +kernel
theorem d_Mo_parse_33 : decode b_Mo_parse 33 = .ok (.istore_n 2, 1) := by decide +kernel
theorem d_Mo_parse_34 : decode b_Mo_parse 34 = .ok (.iload_n 2, 1) := by decide +kernel
theorem d_Mo_parse_35 : decode b_Mo_parse 35 = .ok (.aload_n 0, 1) := by decide +kernel
theorem d_Mo_parse_36 : decode b_Mo_parse 36 = .ok (.getfield 163, 3) := by decide +kernel
theorem d_Mo_parse_39 : decode b_Mo_parse 39 = .ok (.if_icmp .ge 122, 3) := by decide +kernel
theorem d_Mo_parse_42 : decode b_Mo_parse 42 = .ok (.aload_n 0, 1) := by decide +kernel
theorem d_Mo_parse_43 : decode b_Mo_parse 43 = .ok (.getfield 166, 3) := by decide +kernel
theorem d_Mo_parse_46 : decode b_Mo_parse 46 = .ok (.ifCond .ne 115, 3) := by decide +kernel
theorem d_Mo_parse_49 : decode b_Mo_parse 49 = .ok (.aload_n 0, 1) := by decide +kernel
theorem d_Mo_parse_50 : decode b_Mo_parse 50 = .ok (.getfield 66, 3) := by decide +kernel
theorem d_Mo_parse_53 : decode b_Mo_parse 53 = .ok (.iload_n 2, 1) := by decide +kernel
theorem d_Mo_parse_54 : decode b_Mo_parse 54 = .ok (.iaload, 1) := by decide +kernel
theorem d_Mo_parse_55 : decode b_Mo_parse 55 = .ok (.istore_n 3, 1) := by decide +kernel
theorem d_Mo_parse_56 : decode b_Mo_parse 56 = .ok (.iload_n 1, 1) := by decide +kernel
theorem d_Mo_parse_57 : decode b_Mo_parse 57 = .ok (.ifCond .eq 53, 3) := by decide +kernel
theorem d_Mo_parse_60 : decode b_Mo_parse 60 = .ok (.iload_n 3, 1) := by decide +kernel
theorem d_Mo_parse_61 : decode b_Mo_parse 61 = .ok (.bipush 7, 2) := by decide +kernel
theorem d_Mo_parse_63 : decode b_Mo_parse 63 = .ok (.if_icmp .gt 7, 3) := by decide +kernel
theorem d_Mo_parse_66 : decode b_Mo_parse 66 = .ok (.iconst 1, 1) := by decide +kernel
theorem d_Mo_parse_67 : decode b_Mo_parse 67 = .ok (.goto 4, 3) := by decide +kernel
theorem d_Mo_parse_70 : decode b_Mo_parse 70 = .ok (.iconst 0, 1) := by decide +kernel
theorem d_Mo_parse_71 : decode b_Mo_parse 71 = .ok (.istore 4, 2) := by decide +kernel
theorem d_Mo_parse_73 : decode b_Mo_parse 73 = .ok (.iload 4, 2) := by decide +kernel
theorem d_Mo_parse_75 : decode b_Mo_parse 75 = .ok (.ifCond .eq 11, 3) := by decide +kernel
theorem d_Mo_parse_78 : decode b_Mo_parse 78 = .ok (.aload_n 0, 1) := by decide +kernel
theorem d_Mo_parse_79 : decode b_Mo_parse 79 = .ok (.iload_n 2, 1) := by decide +kernel
theorem d_Mo_parse_80 : decode b_Mo_parse 80 = .ok (.invokevirtual 242, 3) := by decide +kernel
theorem d_Mo_parse_83 : decode b_Mo_parse 83 = .ok (.goto 8, 3) := by decide +kernel
theorem d_Mo_parse_86 : decode b_Mo_parse 86 = .ok (.aload_n 0, 1) := by decide +kernel
theorem d_Mo_parse_87 : decode b_Mo_parse 87 = .ok (.iload_n 2, 1) := by decide +kernel
theorem d_Mo_parse_88 : decode b_Mo_parse 88 = .ok (.invokevirtual 245, 3) := by decide +kernel
theorem d_Mo_parse_91 : decode b_Mo_parse 91 = .ok (.istore 5, 2) := by decide +kernel
theorem d_Mo_parse_93 : decode b_Mo_parse 93 = .ok (.iload 4, 2) := by decide +kernel
theorem d_Mo_parse_95 : decode b_Mo_parse 95 = .ok (.ifCond .ne 7, 3) := by decide +kernel
theorem d_Mo_parse_98 : decode b_Mo_parse 98 = .ok (.iconst 1, 1) := by decide +kernel
theorem d_Mo_parse_99 : decode b_Mo_parse 99 = .ok (.goto 4, 3) := by decide +kernel
theorem d_Mo_parse_102 : decode b_Mo_parse 102 = .ok (.iconst 0, 1) := by decide +kernel
theorem d_Mo_parse_103 : decode b_Mo_parse 103 = .ok (.istore_n 1, 1) := by decide +kernel
theorem d_Mo_parse_104 : decode b_Mo_parse 104 = .ok (.iload 5, 2) := by decide +kernel
theorem d_Mo_parse_106 : decode b_Mo_parse 106 = .ok (.istore_n 2, 1) := by decide +kernel
theorem d_Mo_parse_107 : decode b_Mo_parse 107 = .ok (.goto 51, 3) := by decide +kernel
theorem d_Mo_parse_110 : decode b_Mo_parse 110 = .ok (.iload_n 3, 1) := by decide +kernel
theorem d_Mo_parse_111 : decode b_Mo_parse 111 = .ok (.bipush 21, 2) := by decide +kernel
theorem d_Mo_parse_113 : decode b_Mo_parse 113 = .ok (.if_icmp .eq 21, 3) := by decide +kernel
theorem d_Mo_parse_116 : decode b_Mo_parse 116 = .ok (.iload_n 3, 1) := by decide +kernel
theorem d_Mo_parse_117 : decode b_Mo_parse 117 = .ok (.bipush 23, 2) := by decide +kernel
theorem d_Mo_parse_119 : decode b_Mo_parse 119 = .ok (.if_icmp .eq 15, 3) := by decide +kernel
theorem d_Mo_parse_122 : decode b_Mo_parse 122 = .ok (.iload_n 3, 1) := by decide +kernel
theorem d_Mo_parse_123 : decode b_Mo_parse 123 = .ok (.bipush 24, 2) := by decide +kernel
theorem d_Mo_parse_125 : decode b_Mo_parse 125 = .ok (.if_icmp .eq 9, 3) := by decide +kernel
theorem d_Mo_parse_128 : decode b_Mo_parse 128 = .ok (.iload_n 3, 1) := by decide +kernel
theorem d_Mo_parse_129 : decode b_Mo_parse 129 = .ok (.bipush 13, 2) := by decide +kernel
theorem d_Mo_parse_131 : decode b_Mo_parse 131 = .ok (.if_icmp .ne 7, 3) := by decide +kernel
theorem d_Mo_parse_134 : decode b_Mo_parse 134 = .ok (.iconst 1, 1) := by decide +kernel
theorem d_Mo_parse_135 : decode b_Mo_parse 135 = .ok (.goto 4, 3) := by decide +kernel
theorem d_Mo_parse_138 : decode b_Mo_parse 138 = .ok (.iconst 0, 1) := by decide +kernel
theorem d_Mo_parse_139 : decode b_Mo_parse 139 = .ok (.istore 4, 2) := by decide +kernel
theorem d_Mo_parse_141 : decode b_Mo_parse 141 = .ok (.aload_n 0, 1) := by decide +kernel
theorem d_Mo_parse_142 : decode b_Mo_parse 142 = .ok (.iload_n 2, 1) := by decide +kernel
theorem d_Mo_parse_143 : decode b_Mo_parse 143 = .ok (.invokevirtual 248, 3) := by decide +kernel
theorem d_Mo_parse_146 : decode b_Mo_parse 146 = .ok (.istore_n 2, 1) := by decide +kernel
theorem d_Mo_parse_147 : decode b_Mo_parse 147 = .ok (.iload 4, 2) := by decide +kernel
theorem d_Mo_parse_149 : decode b_Mo_parse 149 = .ok (.ifCond .ne 7, 3) := by decide +kernel
theorem d_Mo_parse_152 : decode b_Mo_parse 152 = .ok (.iconst 1, 1) := by decide +kernel
theorem d_Mo_parse_153 : decode b_Mo_parse 153 = .ok (.goto 4, 3) := by decide +kernel
theorem d_Mo_parse_156 : decode b_Mo_parse 156 = .ok (.iconst 0, 1) := by decide +kernel
theorem d_Mo_parse_157 : decode b_Mo_parse 157 = .ok (.istore_n 1, 1) := by decide +kernel
theorem d_Mo_parse_158 : decode b_Mo_parse 158 = .ok (.goto (-124), 3) := by decide +kernel
theorem d_Mo_parse_161 : decode b_Mo_parse 161 = .ok (.aload_n 0, 1) := by decide +kernel
theorem d_Mo_parse_162 : decode b_Mo_parse 162 = .ok (.aload_n 0, 1) := by decide +kernel
theorem d_Mo_parse_163 : decode b_Mo_parse 163 = .ok (.getfield 166, 3) := by decide +kernel
theorem d_Mo_parse_166 : decode b_Mo_parse 166 = .ok (.ifCond .ne 7, 3) := by decide +kernel
theorem d_Mo_parse_169 : decode b_Mo_parse 169 = .ok (.iload_n 1, 1) := by decide +kernel
theorem d_Mo_parse_170 : decode b_Mo_parse 170 = .ok (.ifCond .eq 7, 3) := by decide +kernel
theorem d_Mo_parse_173 : decode b_Mo_parse 173 = .ok (.iconst 1, 1) := by decide +kernel
theorem d_Mo_parse_174 : decode b_Mo_parse 174 = .ok (.goto 4, 3) := by decide +kernel
theorem d_Mo_parse_177 : decode b_Mo_parse 177 = .ok (.iconst 0, 1) := by decide +kernel
theorem d_Mo_parse_178 : decode b_Mo_parse 178 = .ok (.putfield 166, 3) := by decide +kernel
theorem d_Mo_parse_181 : decode b_Mo_parse 181 = .ok (.aload_n 0, 1) := by decide +kernel
theorem d_Mo_parse_182 : decode b_Mo_parse 182 = .ok (.getfield 166, 3) := by decide +kernel
theorem d_Mo_parse_185 : decode b_Mo_parse 185 = .ok (.ifCond .ne 24, 3) := by decide +kernel
theorem d_Mo_parse_188 : decode b_Mo_parse 188 = .ok (.aload_n 0, 1) := by decide +kernel
theorem d_Mo_parse_189 : decode b_Mo_parse 189 = .ok (.iconst 0, 1) := by decide +kernel
theorem d_Mo_parse_190 : decode b_Mo_parse 190 = .ok (.invokevirtual 251, 3) := by decide +kernel
theorem d_Mo_parse_193 : decode b_Mo_parse 193 = .ok (.aload_n 0, 1) := by decide +kernel
theorem d_Mo_parse_194 : decode b_Mo_parse 194 = .ok (.aload_n 0, 1) := by decide +kernel
theorem d_Mo_parse_195 : decode b_Mo_parse 195 = .ok (.getfield 213, 3) := by decide +kernel
theorem d_Mo_parse_198 : decode b_Mo_parse 198 = .ok (.ifCond .le 7, 3) := by decide +kernel
theorem d_Mo_parse_201 : decode b_Mo_parse 201 = .ok (.iconst 1, 1) := by decide +kernel
theorem d_Mo_parse_202 : decode b_Mo_parse 202 = .ok (.goto 4, 3) := by decide +kernel
theorem d_Mo_parse_205 : decode b_Mo_parse 205 = .ok (.iconst 0, 1) := by decide +kernel
theorem d_Mo_parse_206 : decode b_Mo_parse 206 = .ok (.putfield 166, 3) := by decide +kernel
theorem d_Mo_parse_209 : decode b_Mo_parse 209 = .ok (.return_, 1) := by decide +kernel
set_option maxHeartbeats 2000000 in
theorem g_Mo_parse {X : WX} {d : Nat} (hd : 3 ≤ d)  (M : Mem) (hT : 0 ≤ M 55 25 ∧ M 55 25 ≤ 24) (hV : ∀ j, 8 ≤ tkA M j → tkA M j ≤ 12 → 0 ≤ M 75 j ∧ M 75 j < 6) (hw : M 55 44 = 0) : MG X gt d KE KE y_Mo_parse b_Mo_parse 6 none [vr 55] M (fun r M' => r = none ∧ parseQ M M') := by
  refine MG_of_G (by decide) (Nat.le_of_ble_eq_true rfl) (Nat.le_refl _) (by decide) ?_
  show G X gt d KE KE y_Mo_parse b_Mo_parse 6 none _ 0 [(0, vr 55)] [] KE M
  have bad : ∀ (M1 : Mem) (k e : Int), frP M M1 → M1 55 44 = 1 → parseF M = none → (e = 0 ∨ e = 1) → G X gt d KE KE y_Mo_parse b_Mo_parse 6 none (fun r M' => r = none ∧ parseQ M M') 34 [(2, vi k), (1, vi e), (0, vr 55)] [] KE M1 := by
    intro M1 k e hf hw1 hF he
    have hn25 : M1 55 25 = M 55 25 := hf 55 25 (by simp [pcell])
    refine G_iload (i := 2) (n := 0) (len := 1) (Or.inl ⟨2, rfl, rfl, d_Mo_parse_34⟩) rfl (G_pc (pc' := 35) rfl ?_)
    refine G_aload (i := 0) (n := 2) (len := 1) (Or.inl ⟨0, rfl, rfl, d_Mo_parse_35⟩) rfl (by decide) (G_pc (pc' := 36) rfl ?_)
    refine G_get (o := 55) (c := 9) (k := 25) (v := M1 55 25) d_Mo_parse_36 fl_Mo_163 rfl (by decide) (by decide) rfl rfl (G_pc (pc' := 39) rfl ?_)
    refine G_icmp_ge (tgt := 161) d_Mo_parse_39 (by decide) (fun h4001 => ?_) (fun h4001 => G_pc (pc' := 42) rfl ?_)
    · skip
      refine G_aload (i := 0) (n := 2) (len := 1) (Or.inl ⟨0, rfl, rfl, d_Mo_parse_161⟩) rfl (by decide) (G_pc (pc' := 162) rfl ?_)
      refine G_aload (i := 0) (n := 2) (len := 1) (Or.inl ⟨0, rfl, rfl, d_Mo_parse_162⟩) rfl (by decide) (G_pc (pc' := 163) rfl ?_)
      refine G_get (o := 55) (c := 9) (k := 44) (v := M1 55 44) d_Mo_parse_163 fl_Mo_166 rfl (by decide) (by decide) rfl rfl (G_pc (pc' := 166) rfl ?_)
      refine G_if_ne (tgt := 173) d_Mo_parse_166 (by decide) (fun h4002 => ?_) (fun h4002 => G_pc (pc' := 169) rfl ?_)
      · skip
        refine G_iconst (n := 1) d_Mo_parse_173 (by decide) (G_pc (pc' := 174) rfl ?_)
        refine G_goto (tgt := 178) d_Mo_parse_174 (by decide) ?_
        refine G_putL (o := 55) (c := 9) (k := 44) (ki := 44) (x := 1) d_Mo_parse_178 fl_Mo_166 rfl rfl (by decide) (by decide) (by decide) rfl rfl (tokZ (by decide)) rfl (G_pc (pc' := 181) rfl ?_)
        refine G_aload (i := 0) (n := 2) (len := 1) (Or.inl ⟨0, rfl, rfl, d_Mo_parse_181⟩) rfl (by decide) (G_pc (pc' := 182) rfl ?_)
        refine G_get (o := 55) (c := 9) (k := 44) (v := 1) d_Mo_parse_182 fl_Mo_166 rfl (by decide) (by decide) rfl rfl (G_pc (pc' := 185) rfl ?_)
        refine G_if_ne (tgt := 209) d_Mo_parse_185 (by decide) (fun h4003 => ?_) (fun h4003 => absurd h4003 (by decide))
        refine G_vret d_Mo_parse_209 rfl rfl ?_
        exact ⟨rfl, Or.inl ⟨hF, frP_set hf (by simp [pcell]), rfl⟩⟩
      · skip
        exfalso; omega
    · skip
      refine G_aload (i := 0) (n := 2) (len := 1) (Or.inl ⟨0, rfl, rfl, d_Mo_parse_42⟩) rfl (by decide) (G_pc (pc' := 43) rfl ?_)
      refine G_get (o := 55) (c := 9) (k := 44) (v := M1 55 44) d_Mo_parse_43 fl_Mo_166 rfl (by decide) (by decide) rfl rfl (G_pc (pc' := 46) rfl ?_)
      refine G_if_ne (tgt := 161) d_Mo_parse_46 (by decide) (fun h4004 => ?_) (fun h4004 => G_pc (pc' := 49) rfl ?_)
      · skip
        refine G_aload (i := 0) (n := 2) (len := 1) (Or.inl ⟨0, rfl, rfl, d_Mo_parse_161⟩) rfl (by decide) (G_pc (pc' := 162) rfl ?_)
        refine G_aload (i := 0) (n := 2) (len := 1) (Or.inl ⟨0, rfl, rfl, d_Mo_parse_162⟩) rfl (by decide) (G_pc (pc' := 163) rfl ?_)
        refine G_get (o := 55) (c := 9) (k := 44) (v := M1 55 44) d_Mo_parse_163 fl_Mo_166 rfl (by decide) (by decide) rfl rfl (G_pc (pc' := 166) rfl ?_)
        refine G_if_ne (tgt := 173) d_Mo_parse_166 (by decide) (fun h4005 => ?_) (fun h4005 => G_pc (pc' := 169) rfl ?_)
        · skip
          refine G_iconst (n := 1) d_Mo_parse_173 (by decide) (G_pc (pc' := 174) rfl ?_)
          refine G_goto (tgt := 178) d_Mo_parse_174 (by decide) ?_
          refine G_putL (o := 55) (c := 9) (k := 44) (ki := 44) (x := 1) d_Mo_parse_178 fl_Mo_166 rfl rfl (by decide) (by decide) (by decide) rfl rfl (tokZ (by decide)) rfl (G_pc (pc' := 181) rfl ?_)
          refine G_aload (i := 0) (n := 2) (len := 1) (Or.inl ⟨0, rfl, rfl, d_Mo_parse_181⟩) rfl (by decide) (G_pc (pc' := 182) rfl ?_)
          refine G_get (o := 55) (c := 9) (k := 44) (v := 1) d_Mo_parse_182 fl_Mo_166 rfl (by decide) (by decide) rfl rfl (G_pc (pc' := 185) rfl ?_)
          refine G_if_ne (tgt := 209) d_Mo_parse_185 (by decide) (fun h4006 => ?_) (fun h4006 => absurd h4006 (by decide))
          refine G_vret d_Mo_parse_209 rfl rfl ?_
          exact ⟨rfl, Or.inl ⟨hF, frP_set hf (by simp [pcell]), rfl⟩⟩
        · skip
          exfalso; omega
      · skip
        exfalso; omega
  have loop : ∀ (n : Nat) (M1 : Mem) (m k e : Int) (N : List ND) (O : List Int) (P : List (Int × Int)) (o a cl : Int), M 55 25 ≤ k + n → 0 ≤ k → k ≤ 40 → (e = 0 ∨ e = 1) → RP M M1 N O P o a cl 0 → invS m k e (N, O, P, o, a, cl) → m + n ≤ 24 → parseL (tkA M) (M 75) (M 55 25) n k e (N, O, P, o, a, cl) = parseF M → G X gt d KE KE y_Mo_parse b_Mo_parse 6 none (fun r M' => r = none ∧ parseQ M M') 34 [(2, vi k), (1, vi e), (0, vr 55)] [] KE M1 := by
    intro n
    induction n with
    | zero =>
      intro M1 m k e N O P o a cl h1 h2 h3 he hR hI hm hF
      have hRN := RP_N hR
      have hRO := RP_O hR
      have hRP := RP_P hR
      obtain ⟨hI1, hI2, hI3, hI4, hI5⟩ := hI
      refine G_iload (i := 2) (n := 0) (len := 1) (Or.inl ⟨2, rfl, rfl, d_Mo_parse_34⟩) rfl (G_pc (pc' := 35) rfl ?_)
      refine G_aload (i := 0) (n := 2) (len := 1) (Or.inl ⟨0, rfl, rfl, d_Mo_parse_35⟩) rfl (by decide) (G_pc (pc' := 36) rfl ?_)
      refine G_get (o := 55) (c := 9) (k := 25) (v := M1 55 25) d_Mo_parse_36 fl_Mo_163 rfl (by decide) (by decide) rfl rfl (G_pc (pc' := 39) rfl ?_)
      rw [show M1 55 25 = M 55 25 from RP_n hR]
      refine G_icmp_ge (tgt := 161) d_Mo_parse_39 (by decide) (fun h4101 => ?_) (fun h4101 => absurd h4101 (by omega))
      refine G_aload (i := 0) (n := 2) (len := 1) (Or.inl ⟨0, rfl, rfl, d_Mo_parse_161⟩) rfl (by decide) (G_pc (pc' := 162) rfl ?_)
      refine G_aload (i := 0) (n := 2) (len := 1) (Or.inl ⟨0, rfl, rfl, d_Mo_parse_162⟩) rfl (by decide) (G_pc (pc' := 163) rfl ?_)
      refine G_get (o := 55) (c := 9) (k := 44) (v := M1 55 44) d_Mo_parse_163 fl_Mo_166 rfl (by decide) (by decide) rfl rfl (G_pc (pc' := 166) rfl ?_)
      rw [show M1 55 44 = 0 from (show M1 55 44 = 0 from RP_W hR)]
      refine G_if_ne (tgt := 173) d_Mo_parse_166 (by decide) (fun h4102 => absurd h4102 (by decide)) (fun h4102 => G_pc (pc' := 169) rfl ?_)
      refine G_iload (i := 1) (n := 1) (len := 1) (Or.inl ⟨1, rfl, rfl, d_Mo_parse_169⟩) rfl (G_pc (pc' := 170) rfl ?_)
      refine G_if_eq (tgt := 177) d_Mo_parse_170 (by decide) (fun h4103 => ?_) (fun h4103 => G_pc (pc' := 173) rfl ?_)
      · skip
        refine G_iconst (n := 0) d_Mo_parse_177 (by decide) (G_pc (pc' := 178) rfl ?_)
        refine G_putL (o := 55) (c := 9) (k := 44) (ki := 44) (x := 0) d_Mo_parse_178 fl_Mo_166 rfl rfl (by decide) (by decide) (by decide) rfl rfl (tokZ (by decide)) rfl (G_pc (pc' := 181) rfl ?_)
        have hR4104 : RP M (mset M1 55 44 0) N O P o a cl 0 := RP_w hR
        have hR4104N := RP_N hR4104
        (try simp only [List.length_cons, List.length_append, List.length_nil] at hR4104N)
        have hR4104O := RP_O hR4104
        (try simp only [List.length_cons, List.length_append, List.length_nil] at hR4104O)
        have hR4104P := RP_P hR4104
        (try simp only [List.length_cons, List.length_append, List.length_nil] at hR4104P)
        refine G_aload (i := 0) (n := 2) (len := 1) (Or.inl ⟨0, rfl, rfl, d_Mo_parse_181⟩) rfl (by decide) (G_pc (pc' := 182) rfl ?_)
        refine G_get (o := 55) (c := 9) (k := 44) (v := 0) d_Mo_parse_182 fl_Mo_166 rfl (by decide) (by decide) rfl rfl (G_pc (pc' := 185) rfl ?_)
        refine G_if_ne (tgt := 209) d_Mo_parse_185 (by decide) (fun h4105 => absurd h4105 (by decide)) (fun h4105 => G_pc (pc' := 188) rfl ?_)
        refine G_aload (i := 0) (n := 2) (len := 1) (Or.inl ⟨0, rfl, rfl, d_Mo_parse_188⟩) rfl (by decide) (G_pc (pc' := 189) rfl ?_)
        refine G_iconst (n := 0) d_Mo_parse_189 (by decide) (G_pc (pc' := 190) rfl ?_)
        refine G_callV (K1 := KE) (d2 := 1) (o := 55) (cl := 9) (as := [vi 0]) (rest := []) d_Mo_parse_190 mf_Mo_reduce ml_Mo_251 rfl rfl (by decide) rfl rfl (Nat.le_of_ble_eq_true rfl) (by omega) ⟨Nat.le_refl _, Nat.le_refl _⟩ (g_Mo_reduce (by omega) 0 M _ _ _ _ _ _ _ (reduceL 0 N O P) _ hR4104 (by omega) (by omega) (by omega) rfl) (fun r4107 M4108 kq4109 q4109 => ?_)
        clear kq4109; obtain ⟨q4109a, q4109b⟩ := q4109; subst r4107
        obtain ⟨N_4106, O_4106, P_4106, hF_4106⟩ : ∃ N1 O1 P1, (reduceL 0 N O P) = (N1, O1, P1) := ⟨_, _, _, rfl⟩
        rw [hF_4106] at q4109b
        have hI_4106 := reduceL_inv hF_4106 (by omega) (by omega)
        refine G_ps (pc' := 193) (st' := []) rfl rfl ?_
        have hR4110 : RP M M4108 N_4106 O_4106 P_4106 o a cl 0 := q4109b
        have hR4110N := RP_N hR4110
        (try simp only [List.length_cons, List.length_append, List.length_nil] at hR4110N)
        have hR4110O := RP_O hR4110
        (try simp only [List.length_cons, List.length_append, List.length_nil] at hR4110O)
        have hR4110P := RP_P hR4110
        (try simp only [List.length_cons, List.length_append, List.length_nil] at hR4110P)
        refine G_aload (i := 0) (n := 2) (len := 1) (Or.inl ⟨0, rfl, rfl, d_Mo_parse_193⟩) rfl (by decide) (G_pc (pc' := 194) rfl ?_)
        refine G_aload (i := 0) (n := 2) (len := 1) (Or.inl ⟨0, rfl, rfl, d_Mo_parse_194⟩) rfl (by decide) (G_pc (pc' := 195) rfl ?_)
        refine G_get (o := 55) (c := 9) (k := 39) (v := M4108 55 39) d_Mo_parse_195 fl_Mo_213 rfl (by decide) (by decide) rfl rfl (G_pc (pc' := 198) rfl ?_)
        refine G_if_le (tgt := 205) d_Mo_parse_198 (by decide) (fun h4111 => ?_) (fun h4111 => G_pc (pc' := 201) rfl ?_)
        · skip
          refine G_iconst (n := 0) d_Mo_parse_205 (by decide) (G_pc (pc' := 206) rfl ?_)
          refine G_putL (o := 55) (c := 9) (k := 44) (ki := 44) (x := 0) d_Mo_parse_206 fl_Mo_166 rfl rfl (by decide) (by decide) (by decide) rfl rfl (tokZ (by decide)) rfl (G_pc (pc' := 209) rfl ?_)
          have hR4112 : RP M (mset M4108 55 44 0) N_4106 O_4106 P_4106 o a cl 0 := RP_w hR4110
          have hR4112N := RP_N hR4112
          (try simp only [List.length_cons, List.length_append, List.length_nil] at hR4112N)
          have hR4112O := RP_O hR4112
          (try simp only [List.length_cons, List.length_append, List.length_nil] at hR4112O)
          have hR4112P := RP_P hR4112
          (try simp only [List.length_cons, List.length_append, List.length_nil] at hR4112P)
          refine G_vret d_Mo_parse_209 rfl rfl ?_
          have hfin := parseL_out (T := tkA M) (W := M 75) (n := M 55 25) (f := 0) (k := k) (e := e) (S := (N, O, P, o, a, cl)) (by omega)
          rw [hF] at hfin
          have he1 : ¬ e = 1 := by omega
          unfold finS at hfin
          rw [if_neg he1, redS_e hF_4106] at hfin
          have hP0 : P_4106 = [] := List.eq_nil_of_length_eq_zero (by omega)
          rw [if_pos hP0] at hfin
          subst hP0
          exact ⟨rfl, Or.inr ⟨_, _, _, _, _, hfin, hR4112⟩⟩
        · skip
          refine G_iconst (n := 1) d_Mo_parse_201 (by decide) (G_pc (pc' := 202) rfl ?_)
          refine G_goto (tgt := 206) d_Mo_parse_202 (by decide) ?_
          refine G_putL (o := 55) (c := 9) (k := 44) (ki := 44) (x := 1) d_Mo_parse_206 fl_Mo_166 rfl rfl (by decide) (by decide) (by decide) rfl rfl (tokZ (by decide)) rfl (G_pc (pc' := 209) rfl ?_)
          have hR4113 : RP M (mset M4108 55 44 1) N_4106 O_4106 P_4106 o a cl 1 := RP_w hR4110
          have hR4113N := RP_N hR4113
          (try simp only [List.length_cons, List.length_append, List.length_nil] at hR4113N)
          have hR4113O := RP_O hR4113
          (try simp only [List.length_cons, List.length_append, List.length_nil] at hR4113O)
          have hR4113P := RP_P hR4113
          (try simp only [List.length_cons, List.length_append, List.length_nil] at hR4113P)
          refine G_vret d_Mo_parse_209 rfl rfl ?_
          have hfin := parseL_out (T := tkA M) (W := M 75) (n := M 55 25) (f := 0) (k := k) (e := e) (S := (N, O, P, o, a, cl)) (by omega)
          rw [hF] at hfin
          have he1 : ¬ e = 1 := by omega
          unfold finS at hfin
          rw [if_neg he1, redS_e hF_4106] at hfin
          rw [if_neg (by intro e9; simp only [] at e9; have e10 := congrArg List.length e9; simp only [List.length_nil] at e10; omega)] at hfin
          exact ⟨rfl, Or.inl ⟨hfin, hR4113.1, RP_W hR4113⟩⟩
      · skip
        refine G_iconst (n := 1) d_Mo_parse_173 (by decide) (G_pc (pc' := 174) rfl ?_)
        refine G_goto (tgt := 178) d_Mo_parse_174 (by decide) ?_
        refine G_putL (o := 55) (c := 9) (k := 44) (ki := 44) (x := 1) d_Mo_parse_178 fl_Mo_166 rfl rfl (by decide) (by decide) (by decide) rfl rfl (tokZ (by decide)) rfl (G_pc (pc' := 181) rfl ?_)
        have hR4114 : RP M (mset M1 55 44 1) N O P o a cl 1 := RP_w hR
        have hR4114N := RP_N hR4114
        (try simp only [List.length_cons, List.length_append, List.length_nil] at hR4114N)
        have hR4114O := RP_O hR4114
        (try simp only [List.length_cons, List.length_append, List.length_nil] at hR4114O)
        have hR4114P := RP_P hR4114
        (try simp only [List.length_cons, List.length_append, List.length_nil] at hR4114P)
        refine G_aload (i := 0) (n := 2) (len := 1) (Or.inl ⟨0, rfl, rfl, d_Mo_parse_181⟩) rfl (by decide) (G_pc (pc' := 182) rfl ?_)
        refine G_get (o := 55) (c := 9) (k := 44) (v := 1) d_Mo_parse_182 fl_Mo_166 rfl (by decide) (by decide) rfl rfl (G_pc (pc' := 185) rfl ?_)
        refine G_if_ne (tgt := 209) d_Mo_parse_185 (by decide) (fun h4115 => ?_) (fun h4115 => absurd h4115 (by decide))
        refine G_vret d_Mo_parse_209 rfl rfl ?_
        have hfin := parseL_out (T := tkA M) (W := M 75) (n := M 55 25) (f := 0) (k := k) (e := e) (S := (N, O, P, o, a, cl)) (by omega)
        rw [hF] at hfin
        have he1 : e = 1 := by omega
        exact ⟨rfl, Or.inl ⟨by rw [hfin]; unfold finS; rw [if_pos he1], hR4114.1, RP_W hR4114⟩⟩
    | succ n ih =>
      intro M1 m k e N O P o a cl h1 h2 h3 he hR hI hm hF
      have hRN := RP_N hR
      have hRO := RP_O hR
      have hRP := RP_P hR
      obtain ⟨hI1, hI2, hI3, hI4, hI5⟩ := hI
      refine G_iload (i := 2) (n := 0) (len := 1) (Or.inl ⟨2, rfl, rfl, d_Mo_parse_34⟩) rfl (G_pc (pc' := 35) rfl ?_)
      refine G_aload (i := 0) (n := 2) (len := 1) (Or.inl ⟨0, rfl, rfl, d_Mo_parse_35⟩) rfl (by decide) (G_pc (pc' := 36) rfl ?_)
      refine G_get (o := 55) (c := 9) (k := 25) (v := M1 55 25) d_Mo_parse_36 fl_Mo_163 rfl (by decide) (by decide) rfl rfl (G_pc (pc' := 39) rfl ?_)
      rw [show M1 55 25 = M 55 25 from RP_n hR]
      refine G_icmp_ge (tgt := 161) d_Mo_parse_39 (by decide) (fun h4201 => ?_) (fun h4201 => G_pc (pc' := 42) rfl ?_)
      · skip
        refine G_aload (i := 0) (n := 2) (len := 1) (Or.inl ⟨0, rfl, rfl, d_Mo_parse_161⟩) rfl (by decide) (G_pc (pc' := 162) rfl ?_)
        refine G_aload (i := 0) (n := 2) (len := 1) (Or.inl ⟨0, rfl, rfl, d_Mo_parse_162⟩) rfl (by decide) (G_pc (pc' := 163) rfl ?_)
        refine G_get (o := 55) (c := 9) (k := 44) (v := M1 55 44) d_Mo_parse_163 fl_Mo_166 rfl (by decide) (by decide) rfl rfl (G_pc (pc' := 166) rfl ?_)
        rw [show M1 55 44 = 0 from (show M1 55 44 = 0 from RP_W hR)]
        refine G_if_ne (tgt := 173) d_Mo_parse_166 (by decide) (fun h4202 => absurd h4202 (by decide)) (fun h4202 => G_pc (pc' := 169) rfl ?_)
        refine G_iload (i := 1) (n := 1) (len := 1) (Or.inl ⟨1, rfl, rfl, d_Mo_parse_169⟩) rfl (G_pc (pc' := 170) rfl ?_)
        refine G_if_eq (tgt := 177) d_Mo_parse_170 (by decide) (fun h4203 => ?_) (fun h4203 => G_pc (pc' := 173) rfl ?_)
        · skip
          refine G_iconst (n := 0) d_Mo_parse_177 (by decide) (G_pc (pc' := 178) rfl ?_)
          refine G_putL (o := 55) (c := 9) (k := 44) (ki := 44) (x := 0) d_Mo_parse_178 fl_Mo_166 rfl rfl (by decide) (by decide) (by decide) rfl rfl (tokZ (by decide)) rfl (G_pc (pc' := 181) rfl ?_)
          have hR4204 : RP M (mset M1 55 44 0) N O P o a cl 0 := RP_w hR
          have hR4204N := RP_N hR4204
          (try simp only [List.length_cons, List.length_append, List.length_nil] at hR4204N)
          have hR4204O := RP_O hR4204
          (try simp only [List.length_cons, List.length_append, List.length_nil] at hR4204O)
          have hR4204P := RP_P hR4204
          (try simp only [List.length_cons, List.length_append, List.length_nil] at hR4204P)
          refine G_aload (i := 0) (n := 2) (len := 1) (Or.inl ⟨0, rfl, rfl, d_Mo_parse_181⟩) rfl (by decide) (G_pc (pc' := 182) rfl ?_)
          refine G_get (o := 55) (c := 9) (k := 44) (v := 0) d_Mo_parse_182 fl_Mo_166 rfl (by decide) (by decide) rfl rfl (G_pc (pc' := 185) rfl ?_)
          refine G_if_ne (tgt := 209) d_Mo_parse_185 (by decide) (fun h4205 => absurd h4205 (by decide)) (fun h4205 => G_pc (pc' := 188) rfl ?_)
          refine G_aload (i := 0) (n := 2) (len := 1) (Or.inl ⟨0, rfl, rfl, d_Mo_parse_188⟩) rfl (by decide) (G_pc (pc' := 189) rfl ?_)
          refine G_iconst (n := 0) d_Mo_parse_189 (by decide) (G_pc (pc' := 190) rfl ?_)
          refine G_callV (K1 := KE) (d2 := 1) (o := 55) (cl := 9) (as := [vi 0]) (rest := []) d_Mo_parse_190 mf_Mo_reduce ml_Mo_251 rfl rfl (by decide) rfl rfl (Nat.le_of_ble_eq_true rfl) (by omega) ⟨Nat.le_refl _, Nat.le_refl _⟩ (g_Mo_reduce (by omega) 0 M _ _ _ _ _ _ _ (reduceL 0 N O P) _ hR4204 (by omega) (by omega) (by omega) rfl) (fun r4207 M4208 kq4209 q4209 => ?_)
          clear kq4209; obtain ⟨q4209a, q4209b⟩ := q4209; subst r4207
          obtain ⟨N_4206, O_4206, P_4206, hF_4206⟩ : ∃ N1 O1 P1, (reduceL 0 N O P) = (N1, O1, P1) := ⟨_, _, _, rfl⟩
          rw [hF_4206] at q4209b
          have hI_4206 := reduceL_inv hF_4206 (by omega) (by omega)
          refine G_ps (pc' := 193) (st' := []) rfl rfl ?_
          have hR4210 : RP M M4208 N_4206 O_4206 P_4206 o a cl 0 := q4209b
          have hR4210N := RP_N hR4210
          (try simp only [List.length_cons, List.length_append, List.length_nil] at hR4210N)
          have hR4210O := RP_O hR4210
          (try simp only [List.length_cons, List.length_append, List.length_nil] at hR4210O)
          have hR4210P := RP_P hR4210
          (try simp only [List.length_cons, List.length_append, List.length_nil] at hR4210P)
          refine G_aload (i := 0) (n := 2) (len := 1) (Or.inl ⟨0, rfl, rfl, d_Mo_parse_193⟩) rfl (by decide) (G_pc (pc' := 194) rfl ?_)
          refine G_aload (i := 0) (n := 2) (len := 1) (Or.inl ⟨0, rfl, rfl, d_Mo_parse_194⟩) rfl (by decide) (G_pc (pc' := 195) rfl ?_)
          refine G_get (o := 55) (c := 9) (k := 39) (v := M4208 55 39) d_Mo_parse_195 fl_Mo_213 rfl (by decide) (by decide) rfl rfl (G_pc (pc' := 198) rfl ?_)
          refine G_if_le (tgt := 205) d_Mo_parse_198 (by decide) (fun h4211 => ?_) (fun h4211 => G_pc (pc' := 201) rfl ?_)
          · skip
            refine G_iconst (n := 0) d_Mo_parse_205 (by decide) (G_pc (pc' := 206) rfl ?_)
            refine G_putL (o := 55) (c := 9) (k := 44) (ki := 44) (x := 0) d_Mo_parse_206 fl_Mo_166 rfl rfl (by decide) (by decide) (by decide) rfl rfl (tokZ (by decide)) rfl (G_pc (pc' := 209) rfl ?_)
            have hR4212 : RP M (mset M4208 55 44 0) N_4206 O_4206 P_4206 o a cl 0 := RP_w hR4210
            have hR4212N := RP_N hR4212
            (try simp only [List.length_cons, List.length_append, List.length_nil] at hR4212N)
            have hR4212O := RP_O hR4212
            (try simp only [List.length_cons, List.length_append, List.length_nil] at hR4212O)
            have hR4212P := RP_P hR4212
            (try simp only [List.length_cons, List.length_append, List.length_nil] at hR4212P)
            refine G_vret d_Mo_parse_209 rfl rfl ?_
            have hfin := parseL_out (T := tkA M) (W := M 75) (n := M 55 25) (f := n + 1) (k := k) (e := e) (S := (N, O, P, o, a, cl)) (by omega)
            rw [hF] at hfin
            have he1 : ¬ e = 1 := by omega
            unfold finS at hfin
            rw [if_neg he1, redS_e hF_4206] at hfin
            have hP0 : P_4206 = [] := List.eq_nil_of_length_eq_zero (by omega)
            rw [if_pos hP0] at hfin
            subst hP0
            exact ⟨rfl, Or.inr ⟨_, _, _, _, _, hfin, hR4212⟩⟩
          · skip
            refine G_iconst (n := 1) d_Mo_parse_201 (by decide) (G_pc (pc' := 202) rfl ?_)
            refine G_goto (tgt := 206) d_Mo_parse_202 (by decide) ?_
            refine G_putL (o := 55) (c := 9) (k := 44) (ki := 44) (x := 1) d_Mo_parse_206 fl_Mo_166 rfl rfl (by decide) (by decide) (by decide) rfl rfl (tokZ (by decide)) rfl (G_pc (pc' := 209) rfl ?_)
            have hR4213 : RP M (mset M4208 55 44 1) N_4206 O_4206 P_4206 o a cl 1 := RP_w hR4210
            have hR4213N := RP_N hR4213
            (try simp only [List.length_cons, List.length_append, List.length_nil] at hR4213N)
            have hR4213O := RP_O hR4213
            (try simp only [List.length_cons, List.length_append, List.length_nil] at hR4213O)
            have hR4213P := RP_P hR4213
            (try simp only [List.length_cons, List.length_append, List.length_nil] at hR4213P)
            refine G_vret d_Mo_parse_209 rfl rfl ?_
            have hfin := parseL_out (T := tkA M) (W := M 75) (n := M 55 25) (f := n + 1) (k := k) (e := e) (S := (N, O, P, o, a, cl)) (by omega)
            rw [hF] at hfin
            have he1 : ¬ e = 1 := by omega
            unfold finS at hfin
            rw [if_neg he1, redS_e hF_4206] at hfin
            rw [if_neg (by intro e9; simp only [] at e9; have e10 := congrArg List.length e9; simp only [List.length_nil] at e10; omega)] at hfin
            exact ⟨rfl, Or.inl ⟨hfin, hR4213.1, RP_W hR4213⟩⟩
        · skip
          refine G_iconst (n := 1) d_Mo_parse_173 (by decide) (G_pc (pc' := 174) rfl ?_)
          refine G_goto (tgt := 178) d_Mo_parse_174 (by decide) ?_
          refine G_putL (o := 55) (c := 9) (k := 44) (ki := 44) (x := 1) d_Mo_parse_178 fl_Mo_166 rfl rfl (by decide) (by decide) (by decide) rfl rfl (tokZ (by decide)) rfl (G_pc (pc' := 181) rfl ?_)
          have hR4214 : RP M (mset M1 55 44 1) N O P o a cl 1 := RP_w hR
          have hR4214N := RP_N hR4214
          (try simp only [List.length_cons, List.length_append, List.length_nil] at hR4214N)
          have hR4214O := RP_O hR4214
          (try simp only [List.length_cons, List.length_append, List.length_nil] at hR4214O)
          have hR4214P := RP_P hR4214
          (try simp only [List.length_cons, List.length_append, List.length_nil] at hR4214P)
          refine G_aload (i := 0) (n := 2) (len := 1) (Or.inl ⟨0, rfl, rfl, d_Mo_parse_181⟩) rfl (by decide) (G_pc (pc' := 182) rfl ?_)
          refine G_get (o := 55) (c := 9) (k := 44) (v := 1) d_Mo_parse_182 fl_Mo_166 rfl (by decide) (by decide) rfl rfl (G_pc (pc' := 185) rfl ?_)
          refine G_if_ne (tgt := 209) d_Mo_parse_185 (by decide) (fun h4215 => ?_) (fun h4215 => absurd h4215 (by decide))
          refine G_vret d_Mo_parse_209 rfl rfl ?_
          have hfin := parseL_out (T := tkA M) (W := M 75) (n := M 55 25) (f := n + 1) (k := k) (e := e) (S := (N, O, P, o, a, cl)) (by omega)
          rw [hF] at hfin
          have he1 : e = 1 := by omega
          exact ⟨rfl, Or.inl ⟨by rw [hfin]; unfold finS; rw [if_pos he1], hR4214.1, RP_W hR4214⟩⟩
      · skip
        refine G_aload (i := 0) (n := 2) (len := 1) (Or.inl ⟨0, rfl, rfl, d_Mo_parse_42⟩) rfl (by decide) (G_pc (pc' := 43) rfl ?_)
        refine G_get (o := 55) (c := 9) (k := 44) (v := M1 55 44) d_Mo_parse_43 fl_Mo_166 rfl (by decide) (by decide) rfl rfl (G_pc (pc' := 46) rfl ?_)
        rw [show M1 55 44 = 0 from (show M1 55 44 = 0 from RP_W hR)]
        refine G_if_ne (tgt := 161) d_Mo_parse_46 (by decide) (fun h4216 => absurd h4216 (by decide)) (fun h4216 => G_pc (pc' := 49) rfl ?_)
        refine G_aload (i := 0) (n := 2) (len := 1) (Or.inl ⟨0, rfl, rfl, d_Mo_parse_49⟩) rfl (by decide) (G_pc (pc' := 50) rfl ?_)
        refine G_get (o := 55) (c := 9) (k := 26) (v := 74) d_Mo_parse_50 fl_Mo_66 rfl (by decide) (by decide) rfl rfl (G_pc (pc' := 53) rfl ?_)
        refine G_iload (i := 2) (n := 0) (len := 1) (Or.inl ⟨2, rfl, rfl, d_Mo_parse_53⟩) rfl (G_pc (pc' := 54) rfl ?_)
        refine G_iaload (o := 74) (n := 25) (i := k) (v := M1 74 k) d_Mo_parse_54 rfl ⟨by decide, by decide⟩ (by omega) (rd_arr rfl) (fun t4217 => G_pc (pc' := 55) rfl ?_)
        have t4217 := tok_i t4217
        rw [show M1 74 k = tkA M k from RP_t hR (by omega)]
        refine G_istore (i := 3) (len := 1) (ls' := [(3, vi (tkA M k)), (2, vi k), (1, vi e), (0, vr 55)]) (Or.inl ⟨3, rfl, rfl, d_Mo_parse_55⟩) (by decide) rfl (G_pc (pc' := 56) rfl ?_)
        refine G_iload (i := 1) (n := 2) (len := 1) (Or.inl ⟨1, rfl, rfl, d_Mo_parse_56⟩) rfl (G_pc (pc' := 57) rfl ?_)
        refine G_if_eq (tgt := 110) d_Mo_parse_57 (by decide) (fun h4218 => ?_) (fun h4218 => G_pc (pc' := 60) rfl ?_)
        · skip
          refine G_iload (i := 3) (n := 0) (len := 1) (Or.inl ⟨3, rfl, rfl, d_Mo_parse_110⟩) rfl (G_pc (pc' := 111) rfl ?_)
          refine G_bipush (n := 21) d_Mo_parse_111 (by decide) (G_pc (pc' := 113) rfl ?_)
          refine G_icmp_eq (tgt := 134) d_Mo_parse_113 (by decide) (fun h4219 => ?_) (fun h4219 => G_pc (pc' := 116) rfl ?_)
          · skip
            refine G_iconst (n := 1) d_Mo_parse_134 (by decide) (G_pc (pc' := 135) rfl ?_)
            refine G_goto (tgt := 139) d_Mo_parse_135 (by decide) ?_
            refine G_istore (i := 4) (len := 2) (ls' := [(4, vi 1), (3, vi (tkA M k)), (2, vi k), (1, vi e), (0, vr 55)]) (Or.inr ⟨rfl, d_Mo_parse_139⟩) (by decide) rfl (G_pc (pc' := 141) rfl ?_)
            refine G_aload (i := 0) (n := 4) (len := 1) (Or.inl ⟨0, rfl, rfl, d_Mo_parse_141⟩) rfl (by decide) (G_pc (pc' := 142) rfl ?_)
            refine G_iload (i := 2) (n := 2) (len := 1) (Or.inl ⟨2, rfl, rfl, d_Mo_parse_142⟩) rfl (G_pc (pc' := 143) rfl ?_)
            refine G_callV (K1 := KE) (d2 := 2) (o := 55) (cl := 9) (as := [vi k]) (rest := []) d_Mo_parse_143 mf_Mo_behind ml_Mo_248 rfl rfl (by decide) rfl rfl (Nat.le_of_ble_eq_true rfl) (by omega) ⟨Nat.le_refl _, Nat.le_refl _⟩ (g_Mo_behind (by omega) k M _ _ _ _ _ _ _ hR (by omega) (by omega) (by omega) (by omega) (by omega) (by omega) (by omega)) (fun r4220 M4221 kq4222 q4222 => ?_)
            clear kq4222
            rcases q4222 with ⟨hbn_4223, hbf_4223, hbw_4223, kb_4223, rfl⟩ | ⟨k_4223, N_4223, O_4223, P_4223, o_4223, a_4223, cl_4223, hg_4223, rfl, hR_4223⟩
            · skip
              refine G_ps (pc' := 146) (st' := [vi kb_4223]) rfl rfl ?_
              refine G_istore (i := 2) (len := 1) (ls' := [(2, vi kb_4223), (4, vi 1), (3, vi (tkA M k)), (1, vi e), (0, vr 55)]) (Or.inl ⟨2, rfl, rfl, d_Mo_parse_146⟩) (by decide) rfl (G_pc (pc' := 147) rfl ?_)
              refine G_iload (i := 4) (n := 1) (len := 2) (Or.inr ⟨rfl, d_Mo_parse_147⟩) rfl (G_pc (pc' := 149) rfl ?_)
              refine G_if_ne (tgt := 156) d_Mo_parse_149 (by decide) (fun h4224 => ?_) (fun h4224 => absurd h4224 (by decide))
              refine G_iconst (n := 0) d_Mo_parse_156 (by decide) (G_pc (pc' := 157) rfl ?_)
              refine G_istore (i := 1) (len := 1) (ls' := [(1, vi 0), (2, vi kb_4223), (4, vi 1), (3, vi (tkA M k)), (0, vr 55)]) (Or.inl ⟨1, rfl, rfl, d_Mo_parse_157⟩) (by decide) rfl (G_pc (pc' := 158) rfl ?_)
              refine G_goto (tgt := 34) d_Mo_parse_158 (by decide) ?_
              refine G_ls (ls' := [(2, vi kb_4223), (1, vi 0), (0, vr 55)]) (by intro z hz; simp only [List.mem_cons] at hz ⊢; grind) ?_
              refine bad _ _ _ hbf_4223 hbw_4223 ?_ (by omega)
              rw [← hF]; refine parseL_bad (by omega) ?_
              unfold stepS; first | (rw [if_pos (by omega), if_pos (by omega)]; exact atS_n hbn_4223) | (rw [if_pos (by omega), if_neg (by omega)]; exact atS_n hbn_4223) | (rw [if_neg (by omega)]; exact atS_n hbn_4223)
            · skip
              refine G_ps (pc' := 146) (st' := [vi k_4223]) rfl rfl ?_
              refine G_istore (i := 2) (len := 1) (ls' := [(2, vi k_4223), (4, vi 1), (3, vi (tkA M k)), (1, vi e), (0, vr 55)]) (Or.inl ⟨2, rfl, rfl, d_Mo_parse_146⟩) (by decide) rfl (G_pc (pc' := 147) rfl ?_)
              refine G_iload (i := 4) (n := 1) (len := 2) (Or.inr ⟨rfl, d_Mo_parse_147⟩) rfl (G_pc (pc' := 149) rfl ?_)
              refine G_if_ne (tgt := 156) d_Mo_parse_149 (by decide) (fun h4225 => ?_) (fun h4225 => absurd h4225 (by decide))
              refine G_iconst (n := 0) d_Mo_parse_156 (by decide) (G_pc (pc' := 157) rfl ?_)
              refine G_istore (i := 1) (len := 1) (ls' := [(1, vi 0), (2, vi k_4223), (4, vi 1), (3, vi (tkA M k)), (0, vr 55)]) (Or.inl ⟨1, rfl, rfl, d_Mo_parse_157⟩) (by decide) rfl (G_pc (pc' := 158) rfl ?_)
              refine G_goto (tgt := 34) d_Mo_parse_158 (by decide) ?_
              refine G_ls (ls' := [(2, vi k_4223), (1, vi 0), (0, vr 55)]) (by intro z hz; simp only [List.mem_cons] at hz ⊢; grind) ?_
              have hst : stepS (tkA M) (M 75) k e (N, O, P, o, a, cl) = some (k_4223, 0, (N_4223, O_4223, P_4223, o_4223, a_4223, cl_4223)) := by
                unfold stepS; first | (rw [if_pos (by omega), if_pos (by omega)]; exact atS_s hg_4223) | (rw [if_pos (by omega), if_neg (by omega)]; exact atS_s hg_4223) | (rw [if_neg (by omega), show endsB (tkA M k) = 0 by unfold endsB; first | rw [if_pos (by omega)] | rw [if_neg (by omega)]]; exact atS_s hg_4223)
              obtain ⟨hs1, hs2, hs3⟩ := invS_step he ⟨hI1, hI2, hI3, hI4, hI5⟩ hst
              exact ih _ _ _ _ _ _ _ _ _ _ (by omega) (by omega) (by omega) hs2 hR_4223 hs3 (by omega) ((parseL_s (by omega) hst).symm.trans hF)
          · skip
            refine G_iload (i := 3) (n := 0) (len := 1) (Or.inl ⟨3, rfl, rfl, d_Mo_parse_116⟩) rfl (G_pc (pc' := 117) rfl ?_)
            refine G_bipush (n := 23) d_Mo_parse_117 (by decide) (G_pc (pc' := 119) rfl ?_)
            refine G_icmp_eq (tgt := 134) d_Mo_parse_119 (by decide) (fun h4226 => ?_) (fun h4226 => G_pc (pc' := 122) rfl ?_)
            · skip
              refine G_iconst (n := 1) d_Mo_parse_134 (by decide) (G_pc (pc' := 135) rfl ?_)
              refine G_goto (tgt := 139) d_Mo_parse_135 (by decide) ?_
              refine G_istore (i := 4) (len := 2) (ls' := [(4, vi 1), (3, vi (tkA M k)), (2, vi k), (1, vi e), (0, vr 55)]) (Or.inr ⟨rfl, d_Mo_parse_139⟩) (by decide) rfl (G_pc (pc' := 141) rfl ?_)
              refine G_aload (i := 0) (n := 4) (len := 1) (Or.inl ⟨0, rfl, rfl, d_Mo_parse_141⟩) rfl (by decide) (G_pc (pc' := 142) rfl ?_)
              refine G_iload (i := 2) (n := 2) (len := 1) (Or.inl ⟨2, rfl, rfl, d_Mo_parse_142⟩) rfl (G_pc (pc' := 143) rfl ?_)
              refine G_callV (K1 := KE) (d2 := 2) (o := 55) (cl := 9) (as := [vi k]) (rest := []) d_Mo_parse_143 mf_Mo_behind ml_Mo_248 rfl rfl (by decide) rfl rfl (Nat.le_of_ble_eq_true rfl) (by omega) ⟨Nat.le_refl _, Nat.le_refl _⟩ (g_Mo_behind (by omega) k M _ _ _ _ _ _ _ hR (by omega) (by omega) (by omega) (by omega) (by omega) (by omega) (by omega)) (fun r4227 M4228 kq4229 q4229 => ?_)
              clear kq4229
              rcases q4229 with ⟨hbn_4230, hbf_4230, hbw_4230, kb_4230, rfl⟩ | ⟨k_4230, N_4230, O_4230, P_4230, o_4230, a_4230, cl_4230, hg_4230, rfl, hR_4230⟩
              · skip
                refine G_ps (pc' := 146) (st' := [vi kb_4230]) rfl rfl ?_
                refine G_istore (i := 2) (len := 1) (ls' := [(2, vi kb_4230), (4, vi 1), (3, vi (tkA M k)), (1, vi e), (0, vr 55)]) (Or.inl ⟨2, rfl, rfl, d_Mo_parse_146⟩) (by decide) rfl (G_pc (pc' := 147) rfl ?_)
                refine G_iload (i := 4) (n := 1) (len := 2) (Or.inr ⟨rfl, d_Mo_parse_147⟩) rfl (G_pc (pc' := 149) rfl ?_)
                refine G_if_ne (tgt := 156) d_Mo_parse_149 (by decide) (fun h4231 => ?_) (fun h4231 => absurd h4231 (by decide))
                refine G_iconst (n := 0) d_Mo_parse_156 (by decide) (G_pc (pc' := 157) rfl ?_)
                refine G_istore (i := 1) (len := 1) (ls' := [(1, vi 0), (2, vi kb_4230), (4, vi 1), (3, vi (tkA M k)), (0, vr 55)]) (Or.inl ⟨1, rfl, rfl, d_Mo_parse_157⟩) (by decide) rfl (G_pc (pc' := 158) rfl ?_)
                refine G_goto (tgt := 34) d_Mo_parse_158 (by decide) ?_
                refine G_ls (ls' := [(2, vi kb_4230), (1, vi 0), (0, vr 55)]) (by intro z hz; simp only [List.mem_cons] at hz ⊢; grind) ?_
                refine bad _ _ _ hbf_4230 hbw_4230 ?_ (by omega)
                rw [← hF]; refine parseL_bad (by omega) ?_
                unfold stepS; first | (rw [if_pos (by omega), if_pos (by omega)]; exact atS_n hbn_4230) | (rw [if_pos (by omega), if_neg (by omega)]; exact atS_n hbn_4230) | (rw [if_neg (by omega)]; exact atS_n hbn_4230)
              · skip
                refine G_ps (pc' := 146) (st' := [vi k_4230]) rfl rfl ?_
                refine G_istore (i := 2) (len := 1) (ls' := [(2, vi k_4230), (4, vi 1), (3, vi (tkA M k)), (1, vi e), (0, vr 55)]) (Or.inl ⟨2, rfl, rfl, d_Mo_parse_146⟩) (by decide) rfl (G_pc (pc' := 147) rfl ?_)
                refine G_iload (i := 4) (n := 1) (len := 2) (Or.inr ⟨rfl, d_Mo_parse_147⟩) rfl (G_pc (pc' := 149) rfl ?_)
                refine G_if_ne (tgt := 156) d_Mo_parse_149 (by decide) (fun h4232 => ?_) (fun h4232 => absurd h4232 (by decide))
                refine G_iconst (n := 0) d_Mo_parse_156 (by decide) (G_pc (pc' := 157) rfl ?_)
                refine G_istore (i := 1) (len := 1) (ls' := [(1, vi 0), (2, vi k_4230), (4, vi 1), (3, vi (tkA M k)), (0, vr 55)]) (Or.inl ⟨1, rfl, rfl, d_Mo_parse_157⟩) (by decide) rfl (G_pc (pc' := 158) rfl ?_)
                refine G_goto (tgt := 34) d_Mo_parse_158 (by decide) ?_
                refine G_ls (ls' := [(2, vi k_4230), (1, vi 0), (0, vr 55)]) (by intro z hz; simp only [List.mem_cons] at hz ⊢; grind) ?_
                have hst : stepS (tkA M) (M 75) k e (N, O, P, o, a, cl) = some (k_4230, 0, (N_4230, O_4230, P_4230, o_4230, a_4230, cl_4230)) := by
                  unfold stepS; first | (rw [if_pos (by omega), if_pos (by omega)]; exact atS_s hg_4230) | (rw [if_pos (by omega), if_neg (by omega)]; exact atS_s hg_4230) | (rw [if_neg (by omega), show endsB (tkA M k) = 0 by unfold endsB; first | rw [if_pos (by omega)] | rw [if_neg (by omega)]]; exact atS_s hg_4230)
                obtain ⟨hs1, hs2, hs3⟩ := invS_step he ⟨hI1, hI2, hI3, hI4, hI5⟩ hst
                exact ih _ _ _ _ _ _ _ _ _ _ (by omega) (by omega) (by omega) hs2 hR_4230 hs3 (by omega) ((parseL_s (by omega) hst).symm.trans hF)
            · skip
              refine G_iload (i := 3) (n := 0) (len := 1) (Or.inl ⟨3, rfl, rfl, d_Mo_parse_122⟩) rfl (G_pc (pc' := 123) rfl ?_)
              refine G_bipush (n := 24) d_Mo_parse_123 (by decide) (G_pc (pc' := 125) rfl ?_)
              refine G_icmp_eq (tgt := 134) d_Mo_parse_125 (by decide) (fun h4233 => ?_) (fun h4233 => G_pc (pc' := 128) rfl ?_)
              · skip
                refine G_iconst (n := 1) d_Mo_parse_134 (by decide) (G_pc (pc' := 135) rfl ?_)
                refine G_goto (tgt := 139) d_Mo_parse_135 (by decide) ?_
                refine G_istore (i := 4) (len := 2) (ls' := [(4, vi 1), (3, vi (tkA M k)), (2, vi k), (1, vi e), (0, vr 55)]) (Or.inr ⟨rfl, d_Mo_parse_139⟩) (by decide) rfl (G_pc (pc' := 141) rfl ?_)
                refine G_aload (i := 0) (n := 4) (len := 1) (Or.inl ⟨0, rfl, rfl, d_Mo_parse_141⟩) rfl (by decide) (G_pc (pc' := 142) rfl ?_)
                refine G_iload (i := 2) (n := 2) (len := 1) (Or.inl ⟨2, rfl, rfl, d_Mo_parse_142⟩) rfl (G_pc (pc' := 143) rfl ?_)
                refine G_callV (K1 := KE) (d2 := 2) (o := 55) (cl := 9) (as := [vi k]) (rest := []) d_Mo_parse_143 mf_Mo_behind ml_Mo_248 rfl rfl (by decide) rfl rfl (Nat.le_of_ble_eq_true rfl) (by omega) ⟨Nat.le_refl _, Nat.le_refl _⟩ (g_Mo_behind (by omega) k M _ _ _ _ _ _ _ hR (by omega) (by omega) (by omega) (by omega) (by omega) (by omega) (by omega)) (fun r4234 M4235 kq4236 q4236 => ?_)
                clear kq4236
                rcases q4236 with ⟨hbn_4237, hbf_4237, hbw_4237, kb_4237, rfl⟩ | ⟨k_4237, N_4237, O_4237, P_4237, o_4237, a_4237, cl_4237, hg_4237, rfl, hR_4237⟩
                · skip
                  refine G_ps (pc' := 146) (st' := [vi kb_4237]) rfl rfl ?_
                  refine G_istore (i := 2) (len := 1) (ls' := [(2, vi kb_4237), (4, vi 1), (3, vi (tkA M k)), (1, vi e), (0, vr 55)]) (Or.inl ⟨2, rfl, rfl, d_Mo_parse_146⟩) (by decide) rfl (G_pc (pc' := 147) rfl ?_)
                  refine G_iload (i := 4) (n := 1) (len := 2) (Or.inr ⟨rfl, d_Mo_parse_147⟩) rfl (G_pc (pc' := 149) rfl ?_)
                  refine G_if_ne (tgt := 156) d_Mo_parse_149 (by decide) (fun h4238 => ?_) (fun h4238 => absurd h4238 (by decide))
                  refine G_iconst (n := 0) d_Mo_parse_156 (by decide) (G_pc (pc' := 157) rfl ?_)
                  refine G_istore (i := 1) (len := 1) (ls' := [(1, vi 0), (2, vi kb_4237), (4, vi 1), (3, vi (tkA M k)), (0, vr 55)]) (Or.inl ⟨1, rfl, rfl, d_Mo_parse_157⟩) (by decide) rfl (G_pc (pc' := 158) rfl ?_)
                  refine G_goto (tgt := 34) d_Mo_parse_158 (by decide) ?_
                  refine G_ls (ls' := [(2, vi kb_4237), (1, vi 0), (0, vr 55)]) (by intro z hz; simp only [List.mem_cons] at hz ⊢; grind) ?_
                  refine bad _ _ _ hbf_4237 hbw_4237 ?_ (by omega)
                  rw [← hF]; refine parseL_bad (by omega) ?_
                  unfold stepS; first | (rw [if_pos (by omega), if_pos (by omega)]; exact atS_n hbn_4237) | (rw [if_pos (by omega), if_neg (by omega)]; exact atS_n hbn_4237) | (rw [if_neg (by omega)]; exact atS_n hbn_4237)
                · skip
                  refine G_ps (pc' := 146) (st' := [vi k_4237]) rfl rfl ?_
                  refine G_istore (i := 2) (len := 1) (ls' := [(2, vi k_4237), (4, vi 1), (3, vi (tkA M k)), (1, vi e), (0, vr 55)]) (Or.inl ⟨2, rfl, rfl, d_Mo_parse_146⟩) (by decide) rfl (G_pc (pc' := 147) rfl ?_)
                  refine G_iload (i := 4) (n := 1) (len := 2) (Or.inr ⟨rfl, d_Mo_parse_147⟩) rfl (G_pc (pc' := 149) rfl ?_)
                  refine G_if_ne (tgt := 156) d_Mo_parse_149 (by decide) (fun h4239 => ?_) (fun h4239 => absurd h4239 (by decide))
                  refine G_iconst (n := 0) d_Mo_parse_156 (by decide) (G_pc (pc' := 157) rfl ?_)
                  refine G_istore (i := 1) (len := 1) (ls' := [(1, vi 0), (2, vi k_4237), (4, vi 1), (3, vi (tkA M k)), (0, vr 55)]) (Or.inl ⟨1, rfl, rfl, d_Mo_parse_157⟩) (by decide) rfl (G_pc (pc' := 158) rfl ?_)
                  refine G_goto (tgt := 34) d_Mo_parse_158 (by decide) ?_
                  refine G_ls (ls' := [(2, vi k_4237), (1, vi 0), (0, vr 55)]) (by intro z hz; simp only [List.mem_cons] at hz ⊢; grind) ?_
                  have hst : stepS (tkA M) (M 75) k e (N, O, P, o, a, cl) = some (k_4237, 0, (N_4237, O_4237, P_4237, o_4237, a_4237, cl_4237)) := by
                    unfold stepS; first | (rw [if_pos (by omega), if_pos (by omega)]; exact atS_s hg_4237) | (rw [if_pos (by omega), if_neg (by omega)]; exact atS_s hg_4237) | (rw [if_neg (by omega), show endsB (tkA M k) = 0 by unfold endsB; first | rw [if_pos (by omega)] | rw [if_neg (by omega)]]; exact atS_s hg_4237)
                  obtain ⟨hs1, hs2, hs3⟩ := invS_step he ⟨hI1, hI2, hI3, hI4, hI5⟩ hst
                  exact ih _ _ _ _ _ _ _ _ _ _ (by omega) (by omega) (by omega) hs2 hR_4237 hs3 (by omega) ((parseL_s (by omega) hst).symm.trans hF)
              · skip
                refine G_iload (i := 3) (n := 0) (len := 1) (Or.inl ⟨3, rfl, rfl, d_Mo_parse_128⟩) rfl (G_pc (pc' := 129) rfl ?_)
                refine G_bipush (n := 13) d_Mo_parse_129 (by decide) (G_pc (pc' := 131) rfl ?_)
                refine G_icmp_ne (tgt := 138) d_Mo_parse_131 (by decide) (fun h4240 => ?_) (fun h4240 => G_pc (pc' := 134) rfl ?_)
                · skip
                  refine G_iconst (n := 0) d_Mo_parse_138 (by decide) (G_pc (pc' := 139) rfl ?_)
                  refine G_istore (i := 4) (len := 2) (ls' := [(4, vi 0), (3, vi (tkA M k)), (2, vi k), (1, vi e), (0, vr 55)]) (Or.inr ⟨rfl, d_Mo_parse_139⟩) (by decide) rfl (G_pc (pc' := 141) rfl ?_)
                  refine G_aload (i := 0) (n := 4) (len := 1) (Or.inl ⟨0, rfl, rfl, d_Mo_parse_141⟩) rfl (by decide) (G_pc (pc' := 142) rfl ?_)
                  refine G_iload (i := 2) (n := 2) (len := 1) (Or.inl ⟨2, rfl, rfl, d_Mo_parse_142⟩) rfl (G_pc (pc' := 143) rfl ?_)
                  refine G_callV (K1 := KE) (d2 := 2) (o := 55) (cl := 9) (as := [vi k]) (rest := []) d_Mo_parse_143 mf_Mo_behind ml_Mo_248 rfl rfl (by decide) rfl rfl (Nat.le_of_ble_eq_true rfl) (by omega) ⟨Nat.le_refl _, Nat.le_refl _⟩ (g_Mo_behind (by omega) k M _ _ _ _ _ _ _ hR (by omega) (by omega) (by omega) (by omega) (by omega) (by omega) (by omega)) (fun r4241 M4242 kq4243 q4243 => ?_)
                  clear kq4243
                  rcases q4243 with ⟨hbn_4244, hbf_4244, hbw_4244, kb_4244, rfl⟩ | ⟨k_4244, N_4244, O_4244, P_4244, o_4244, a_4244, cl_4244, hg_4244, rfl, hR_4244⟩
                  · skip
                    refine G_ps (pc' := 146) (st' := [vi kb_4244]) rfl rfl ?_
                    refine G_istore (i := 2) (len := 1) (ls' := [(2, vi kb_4244), (4, vi 0), (3, vi (tkA M k)), (1, vi e), (0, vr 55)]) (Or.inl ⟨2, rfl, rfl, d_Mo_parse_146⟩) (by decide) rfl (G_pc (pc' := 147) rfl ?_)
                    refine G_iload (i := 4) (n := 1) (len := 2) (Or.inr ⟨rfl, d_Mo_parse_147⟩) rfl (G_pc (pc' := 149) rfl ?_)
                    refine G_if_ne (tgt := 156) d_Mo_parse_149 (by decide) (fun h4245 => absurd h4245 (by decide)) (fun h4245 => G_pc (pc' := 152) rfl ?_)
                    refine G_iconst (n := 1) d_Mo_parse_152 (by decide) (G_pc (pc' := 153) rfl ?_)
                    refine G_goto (tgt := 157) d_Mo_parse_153 (by decide) ?_
                    refine G_istore (i := 1) (len := 1) (ls' := [(1, vi 1), (2, vi kb_4244), (4, vi 0), (3, vi (tkA M k)), (0, vr 55)]) (Or.inl ⟨1, rfl, rfl, d_Mo_parse_157⟩) (by decide) rfl (G_pc (pc' := 158) rfl ?_)
                    refine G_goto (tgt := 34) d_Mo_parse_158 (by decide) ?_
                    refine G_ls (ls' := [(2, vi kb_4244), (1, vi 1), (0, vr 55)]) (by intro z hz; simp only [List.mem_cons] at hz ⊢; grind) ?_
                    refine bad _ _ _ hbf_4244 hbw_4244 ?_ (by omega)
                    rw [← hF]; refine parseL_bad (by omega) ?_
                    unfold stepS; first | (rw [if_pos (by omega), if_pos (by omega)]; exact atS_n hbn_4244) | (rw [if_pos (by omega), if_neg (by omega)]; exact atS_n hbn_4244) | (rw [if_neg (by omega)]; exact atS_n hbn_4244)
                  · skip
                    refine G_ps (pc' := 146) (st' := [vi k_4244]) rfl rfl ?_
                    refine G_istore (i := 2) (len := 1) (ls' := [(2, vi k_4244), (4, vi 0), (3, vi (tkA M k)), (1, vi e), (0, vr 55)]) (Or.inl ⟨2, rfl, rfl, d_Mo_parse_146⟩) (by decide) rfl (G_pc (pc' := 147) rfl ?_)
                    refine G_iload (i := 4) (n := 1) (len := 2) (Or.inr ⟨rfl, d_Mo_parse_147⟩) rfl (G_pc (pc' := 149) rfl ?_)
                    refine G_if_ne (tgt := 156) d_Mo_parse_149 (by decide) (fun h4246 => absurd h4246 (by decide)) (fun h4246 => G_pc (pc' := 152) rfl ?_)
                    refine G_iconst (n := 1) d_Mo_parse_152 (by decide) (G_pc (pc' := 153) rfl ?_)
                    refine G_goto (tgt := 157) d_Mo_parse_153 (by decide) ?_
                    refine G_istore (i := 1) (len := 1) (ls' := [(1, vi 1), (2, vi k_4244), (4, vi 0), (3, vi (tkA M k)), (0, vr 55)]) (Or.inl ⟨1, rfl, rfl, d_Mo_parse_157⟩) (by decide) rfl (G_pc (pc' := 158) rfl ?_)
                    refine G_goto (tgt := 34) d_Mo_parse_158 (by decide) ?_
                    refine G_ls (ls' := [(2, vi k_4244), (1, vi 1), (0, vr 55)]) (by intro z hz; simp only [List.mem_cons] at hz ⊢; grind) ?_
                    have hst : stepS (tkA M) (M 75) k e (N, O, P, o, a, cl) = some (k_4244, 1, (N_4244, O_4244, P_4244, o_4244, a_4244, cl_4244)) := by
                      unfold stepS; first | (rw [if_pos (by omega), if_pos (by omega)]; exact atS_s hg_4244) | (rw [if_pos (by omega), if_neg (by omega)]; exact atS_s hg_4244) | (rw [if_neg (by omega), show endsB (tkA M k) = 1 by unfold endsB; first | rw [if_pos (by omega)] | rw [if_neg (by omega)]]; exact atS_s hg_4244)
                    obtain ⟨hs1, hs2, hs3⟩ := invS_step he ⟨hI1, hI2, hI3, hI4, hI5⟩ hst
                    exact ih _ _ _ _ _ _ _ _ _ _ (by omega) (by omega) (by omega) hs2 hR_4244 hs3 (by omega) ((parseL_s (by omega) hst).symm.trans hF)
                · skip
                  refine G_iconst (n := 1) d_Mo_parse_134 (by decide) (G_pc (pc' := 135) rfl ?_)
                  refine G_goto (tgt := 139) d_Mo_parse_135 (by decide) ?_
                  refine G_istore (i := 4) (len := 2) (ls' := [(4, vi 1), (3, vi (tkA M k)), (2, vi k), (1, vi e), (0, vr 55)]) (Or.inr ⟨rfl, d_Mo_parse_139⟩) (by decide) rfl (G_pc (pc' := 141) rfl ?_)
                  refine G_aload (i := 0) (n := 4) (len := 1) (Or.inl ⟨0, rfl, rfl, d_Mo_parse_141⟩) rfl (by decide) (G_pc (pc' := 142) rfl ?_)
                  refine G_iload (i := 2) (n := 2) (len := 1) (Or.inl ⟨2, rfl, rfl, d_Mo_parse_142⟩) rfl (G_pc (pc' := 143) rfl ?_)
                  refine G_callV (K1 := KE) (d2 := 2) (o := 55) (cl := 9) (as := [vi k]) (rest := []) d_Mo_parse_143 mf_Mo_behind ml_Mo_248 rfl rfl (by decide) rfl rfl (Nat.le_of_ble_eq_true rfl) (by omega) ⟨Nat.le_refl _, Nat.le_refl _⟩ (g_Mo_behind (by omega) k M _ _ _ _ _ _ _ hR (by omega) (by omega) (by omega) (by omega) (by omega) (by omega) (by omega)) (fun r4247 M4248 kq4249 q4249 => ?_)
                  clear kq4249
                  rcases q4249 with ⟨hbn_4250, hbf_4250, hbw_4250, kb_4250, rfl⟩ | ⟨k_4250, N_4250, O_4250, P_4250, o_4250, a_4250, cl_4250, hg_4250, rfl, hR_4250⟩
                  · skip
                    refine G_ps (pc' := 146) (st' := [vi kb_4250]) rfl rfl ?_
                    refine G_istore (i := 2) (len := 1) (ls' := [(2, vi kb_4250), (4, vi 1), (3, vi (tkA M k)), (1, vi e), (0, vr 55)]) (Or.inl ⟨2, rfl, rfl, d_Mo_parse_146⟩) (by decide) rfl (G_pc (pc' := 147) rfl ?_)
                    refine G_iload (i := 4) (n := 1) (len := 2) (Or.inr ⟨rfl, d_Mo_parse_147⟩) rfl (G_pc (pc' := 149) rfl ?_)
                    refine G_if_ne (tgt := 156) d_Mo_parse_149 (by decide) (fun h4251 => ?_) (fun h4251 => absurd h4251 (by decide))
                    refine G_iconst (n := 0) d_Mo_parse_156 (by decide) (G_pc (pc' := 157) rfl ?_)
                    refine G_istore (i := 1) (len := 1) (ls' := [(1, vi 0), (2, vi kb_4250), (4, vi 1), (3, vi (tkA M k)), (0, vr 55)]) (Or.inl ⟨1, rfl, rfl, d_Mo_parse_157⟩) (by decide) rfl (G_pc (pc' := 158) rfl ?_)
                    refine G_goto (tgt := 34) d_Mo_parse_158 (by decide) ?_
                    refine G_ls (ls' := [(2, vi kb_4250), (1, vi 0), (0, vr 55)]) (by intro z hz; simp only [List.mem_cons] at hz ⊢; grind) ?_
                    refine bad _ _ _ hbf_4250 hbw_4250 ?_ (by omega)
                    rw [← hF]; refine parseL_bad (by omega) ?_
                    unfold stepS; first | (rw [if_pos (by omega), if_pos (by omega)]; exact atS_n hbn_4250) | (rw [if_pos (by omega), if_neg (by omega)]; exact atS_n hbn_4250) | (rw [if_neg (by omega)]; exact atS_n hbn_4250)
                  · skip
                    refine G_ps (pc' := 146) (st' := [vi k_4250]) rfl rfl ?_
                    refine G_istore (i := 2) (len := 1) (ls' := [(2, vi k_4250), (4, vi 1), (3, vi (tkA M k)), (1, vi e), (0, vr 55)]) (Or.inl ⟨2, rfl, rfl, d_Mo_parse_146⟩) (by decide) rfl (G_pc (pc' := 147) rfl ?_)
                    refine G_iload (i := 4) (n := 1) (len := 2) (Or.inr ⟨rfl, d_Mo_parse_147⟩) rfl (G_pc (pc' := 149) rfl ?_)
                    refine G_if_ne (tgt := 156) d_Mo_parse_149 (by decide) (fun h4252 => ?_) (fun h4252 => absurd h4252 (by decide))
                    refine G_iconst (n := 0) d_Mo_parse_156 (by decide) (G_pc (pc' := 157) rfl ?_)
                    refine G_istore (i := 1) (len := 1) (ls' := [(1, vi 0), (2, vi k_4250), (4, vi 1), (3, vi (tkA M k)), (0, vr 55)]) (Or.inl ⟨1, rfl, rfl, d_Mo_parse_157⟩) (by decide) rfl (G_pc (pc' := 158) rfl ?_)
                    refine G_goto (tgt := 34) d_Mo_parse_158 (by decide) ?_
                    refine G_ls (ls' := [(2, vi k_4250), (1, vi 0), (0, vr 55)]) (by intro z hz; simp only [List.mem_cons] at hz ⊢; grind) ?_
                    have hst : stepS (tkA M) (M 75) k e (N, O, P, o, a, cl) = some (k_4250, 0, (N_4250, O_4250, P_4250, o_4250, a_4250, cl_4250)) := by
                      unfold stepS; first | (rw [if_pos (by omega), if_pos (by omega)]; exact atS_s hg_4250) | (rw [if_pos (by omega), if_neg (by omega)]; exact atS_s hg_4250) | (rw [if_neg (by omega), show endsB (tkA M k) = 0 by unfold endsB; first | rw [if_pos (by omega)] | rw [if_neg (by omega)]]; exact atS_s hg_4250)
                    obtain ⟨hs1, hs2, hs3⟩ := invS_step he ⟨hI1, hI2, hI3, hI4, hI5⟩ hst
                    exact ih _ _ _ _ _ _ _ _ _ _ (by omega) (by omega) (by omega) hs2 hR_4250 hs3 (by omega) ((parseL_s (by omega) hst).symm.trans hF)
        · skip
          refine G_iload (i := 3) (n := 0) (len := 1) (Or.inl ⟨3, rfl, rfl, d_Mo_parse_60⟩) rfl (G_pc (pc' := 61) rfl ?_)
          refine G_bipush (n := 7) d_Mo_parse_61 (by decide) (G_pc (pc' := 63) rfl ?_)
          refine G_icmp_gt (tgt := 70) d_Mo_parse_63 (by decide) (fun h4253 => ?_) (fun h4253 => G_pc (pc' := 66) rfl ?_)
          · skip
            refine G_iconst (n := 0) d_Mo_parse_70 (by decide) (G_pc (pc' := 71) rfl ?_)
            refine G_istore (i := 4) (len := 2) (ls' := [(4, vi 0), (3, vi (tkA M k)), (2, vi k), (1, vi e), (0, vr 55)]) (Or.inr ⟨rfl, d_Mo_parse_71⟩) (by decide) rfl (G_pc (pc' := 73) rfl ?_)
            refine G_iload (i := 4) (n := 0) (len := 2) (Or.inr ⟨rfl, d_Mo_parse_73⟩) rfl (G_pc (pc' := 75) rfl ?_)
            refine G_if_eq (tgt := 86) d_Mo_parse_75 (by decide) (fun h4254 => ?_) (fun h4254 => absurd h4254 (by decide))
            refine G_aload (i := 0) (n := 4) (len := 1) (Or.inl ⟨0, rfl, rfl, d_Mo_parse_86⟩) rfl (by decide) (G_pc (pc' := 87) rfl ?_)
            refine G_iload (i := 2) (n := 2) (len := 1) (Or.inl ⟨2, rfl, rfl, d_Mo_parse_87⟩) rfl (G_pc (pc' := 88) rfl ?_)
            refine G_callV (K1 := KE) (d2 := 1) (o := 55) (cl := 9) (as := [vi k]) (rest := []) d_Mo_parse_88 mf_Mo_before ml_Mo_245 rfl rfl (by decide) rfl rfl (Nat.le_of_ble_eq_true rfl) (by omega) ⟨Nat.le_refl _, Nat.le_refl _⟩ (g_Mo_before (by omega) k M _ _ _ _ _ _ _ hR (by omega) (by omega) (by omega) (by omega) (by omega) hV) (fun r4255 M4256 kq4257 q4257 => ?_)
            clear kq4257
            rcases q4257 with ⟨hbn_4258, hbf_4258, hbw_4258, kb_4258, rfl⟩ | ⟨k_4258, N_4258, O_4258, P_4258, o_4258, a_4258, cl_4258, hg_4258, rfl, hR_4258⟩
            · skip
              refine G_ps (pc' := 91) (st' := [vi kb_4258]) rfl rfl ?_
              refine G_istore (i := 5) (len := 2) (ls' := [(5, vi kb_4258), (4, vi 0), (3, vi (tkA M k)), (2, vi k), (1, vi e), (0, vr 55)]) (Or.inr ⟨rfl, d_Mo_parse_91⟩) (by decide) rfl (G_pc (pc' := 93) rfl ?_)
              refine G_iload (i := 4) (n := 1) (len := 2) (Or.inr ⟨rfl, d_Mo_parse_93⟩) rfl (G_pc (pc' := 95) rfl ?_)
              refine G_if_ne (tgt := 102) d_Mo_parse_95 (by decide) (fun h4259 => absurd h4259 (by decide)) (fun h4259 => G_pc (pc' := 98) rfl ?_)
              refine G_iconst (n := 1) d_Mo_parse_98 (by decide) (G_pc (pc' := 99) rfl ?_)
              refine G_goto (tgt := 103) d_Mo_parse_99 (by decide) ?_
              refine G_istore (i := 1) (len := 1) (ls' := [(1, vi 1), (5, vi kb_4258), (4, vi 0), (3, vi (tkA M k)), (2, vi k), (0, vr 55)]) (Or.inl ⟨1, rfl, rfl, d_Mo_parse_103⟩) (by decide) rfl (G_pc (pc' := 104) rfl ?_)
              refine G_iload (i := 5) (n := 1) (len := 2) (Or.inr ⟨rfl, d_Mo_parse_104⟩) rfl (G_pc (pc' := 106) rfl ?_)
              refine G_istore (i := 2) (len := 1) (ls' := [(2, vi kb_4258), (1, vi 1), (5, vi kb_4258), (4, vi 0), (3, vi (tkA M k)), (0, vr 55)]) (Or.inl ⟨2, rfl, rfl, d_Mo_parse_106⟩) (by decide) rfl (G_pc (pc' := 107) rfl ?_)
              refine G_goto (tgt := 158) d_Mo_parse_107 (by decide) ?_
              refine G_goto (tgt := 34) d_Mo_parse_158 (by decide) ?_
              refine G_ls (ls' := [(2, vi kb_4258), (1, vi 1), (0, vr 55)]) (by intro z hz; simp only [List.mem_cons] at hz ⊢; grind) ?_
              refine bad _ _ _ hbf_4258 hbw_4258 ?_ (by omega)
              rw [← hF]; refine parseL_bad (by omega) ?_
              unfold stepS; first | (rw [if_pos (by omega), if_pos (by omega)]; exact atS_n hbn_4258) | (rw [if_pos (by omega), if_neg (by omega)]; exact atS_n hbn_4258) | (rw [if_neg (by omega)]; exact atS_n hbn_4258)
            · skip
              refine G_ps (pc' := 91) (st' := [vi k_4258]) rfl rfl ?_
              refine G_istore (i := 5) (len := 2) (ls' := [(5, vi k_4258), (4, vi 0), (3, vi (tkA M k)), (2, vi k), (1, vi e), (0, vr 55)]) (Or.inr ⟨rfl, d_Mo_parse_91⟩) (by decide) rfl (G_pc (pc' := 93) rfl ?_)
              refine G_iload (i := 4) (n := 1) (len := 2) (Or.inr ⟨rfl, d_Mo_parse_93⟩) rfl (G_pc (pc' := 95) rfl ?_)
              refine G_if_ne (tgt := 102) d_Mo_parse_95 (by decide) (fun h4260 => absurd h4260 (by decide)) (fun h4260 => G_pc (pc' := 98) rfl ?_)
              refine G_iconst (n := 1) d_Mo_parse_98 (by decide) (G_pc (pc' := 99) rfl ?_)
              refine G_goto (tgt := 103) d_Mo_parse_99 (by decide) ?_
              refine G_istore (i := 1) (len := 1) (ls' := [(1, vi 1), (5, vi k_4258), (4, vi 0), (3, vi (tkA M k)), (2, vi k), (0, vr 55)]) (Or.inl ⟨1, rfl, rfl, d_Mo_parse_103⟩) (by decide) rfl (G_pc (pc' := 104) rfl ?_)
              refine G_iload (i := 5) (n := 1) (len := 2) (Or.inr ⟨rfl, d_Mo_parse_104⟩) rfl (G_pc (pc' := 106) rfl ?_)
              refine G_istore (i := 2) (len := 1) (ls' := [(2, vi k_4258), (1, vi 1), (5, vi k_4258), (4, vi 0), (3, vi (tkA M k)), (0, vr 55)]) (Or.inl ⟨2, rfl, rfl, d_Mo_parse_106⟩) (by decide) rfl (G_pc (pc' := 107) rfl ?_)
              refine G_goto (tgt := 158) d_Mo_parse_107 (by decide) ?_
              refine G_goto (tgt := 34) d_Mo_parse_158 (by decide) ?_
              refine G_ls (ls' := [(2, vi k_4258), (1, vi 1), (0, vr 55)]) (by intro z hz; simp only [List.mem_cons] at hz ⊢; grind) ?_
              have hst : stepS (tkA M) (M 75) k e (N, O, P, o, a, cl) = some (k_4258, 1, (N_4258, O_4258, P_4258, o_4258, a_4258, cl_4258)) := by
                unfold stepS; first | (rw [if_pos (by omega), if_pos (by omega)]; exact atS_s hg_4258) | (rw [if_pos (by omega), if_neg (by omega)]; exact atS_s hg_4258) | (rw [if_neg (by omega), show endsB (tkA M k) = 1 by unfold endsB; first | rw [if_pos (by omega)] | rw [if_neg (by omega)]]; exact atS_s hg_4258)
              obtain ⟨hs1, hs2, hs3⟩ := invS_step he ⟨hI1, hI2, hI3, hI4, hI5⟩ hst
              exact ih _ _ _ _ _ _ _ _ _ _ (by omega) (by omega) (by omega) hs2 hR_4258 hs3 (by omega) ((parseL_s (by omega) hst).symm.trans hF)
          · skip
            refine G_iconst (n := 1) d_Mo_parse_66 (by decide) (G_pc (pc' := 67) rfl ?_)
            refine G_goto (tgt := 71) d_Mo_parse_67 (by decide) ?_
            refine G_istore (i := 4) (len := 2) (ls' := [(4, vi 1), (3, vi (tkA M k)), (2, vi k), (1, vi e), (0, vr 55)]) (Or.inr ⟨rfl, d_Mo_parse_71⟩) (by decide) rfl (G_pc (pc' := 73) rfl ?_)
            refine G_iload (i := 4) (n := 0) (len := 2) (Or.inr ⟨rfl, d_Mo_parse_73⟩) rfl (G_pc (pc' := 75) rfl ?_)
            refine G_if_eq (tgt := 86) d_Mo_parse_75 (by decide) (fun h4261 => absurd h4261 (by decide)) (fun h4261 => G_pc (pc' := 78) rfl ?_)
            refine G_aload (i := 0) (n := 4) (len := 1) (Or.inl ⟨0, rfl, rfl, d_Mo_parse_78⟩) rfl (by decide) (G_pc (pc' := 79) rfl ?_)
            refine G_iload (i := 2) (n := 2) (len := 1) (Or.inl ⟨2, rfl, rfl, d_Mo_parse_79⟩) rfl (G_pc (pc' := 80) rfl ?_)
            refine G_callV (K1 := KE) (d2 := 1) (o := 55) (cl := 9) (as := [vi k]) (rest := []) d_Mo_parse_80 mf_Mo_leaf ml_Mo_242 rfl rfl (by decide) rfl rfl (Nat.le_of_ble_eq_true rfl) (by omega) ⟨Nat.le_refl _, Nat.le_refl _⟩ (g_Mo_leaf (by omega) k M _ _ _ _ _ _ _ hR (by omega) (by omega) (by omega) (by omega) (by omega)) (fun r4262 M4263 kq4264 q4264 => ?_)
            clear kq4264
            rcases q4264 with ⟨hbn_4265, hbf_4265, hbw_4265, kb_4265, rfl⟩ | ⟨k_4265, N_4265, O_4265, P_4265, o_4265, a_4265, cl_4265, hg_4265, rfl, hR_4265⟩
            · skip
              refine G_ps (pc' := 83) (st' := [vi kb_4265]) rfl rfl ?_
              refine G_goto (tgt := 91) d_Mo_parse_83 (by decide) ?_
              refine G_istore (i := 5) (len := 2) (ls' := [(5, vi kb_4265), (4, vi 1), (3, vi (tkA M k)), (2, vi k), (1, vi e), (0, vr 55)]) (Or.inr ⟨rfl, d_Mo_parse_91⟩) (by decide) rfl (G_pc (pc' := 93) rfl ?_)
              refine G_iload (i := 4) (n := 1) (len := 2) (Or.inr ⟨rfl, d_Mo_parse_93⟩) rfl (G_pc (pc' := 95) rfl ?_)
              refine G_if_ne (tgt := 102) d_Mo_parse_95 (by decide) (fun h4266 => ?_) (fun h4266 => absurd h4266 (by decide))
              refine G_iconst (n := 0) d_Mo_parse_102 (by decide) (G_pc (pc' := 103) rfl ?_)
              refine G_istore (i := 1) (len := 1) (ls' := [(1, vi 0), (5, vi kb_4265), (4, vi 1), (3, vi (tkA M k)), (2, vi k), (0, vr 55)]) (Or.inl ⟨1, rfl, rfl, d_Mo_parse_103⟩) (by decide) rfl (G_pc (pc' := 104) rfl ?_)
              refine G_iload (i := 5) (n := 1) (len := 2) (Or.inr ⟨rfl, d_Mo_parse_104⟩) rfl (G_pc (pc' := 106) rfl ?_)
              refine G_istore (i := 2) (len := 1) (ls' := [(2, vi kb_4265), (1, vi 0), (5, vi kb_4265), (4, vi 1), (3, vi (tkA M k)), (0, vr 55)]) (Or.inl ⟨2, rfl, rfl, d_Mo_parse_106⟩) (by decide) rfl (G_pc (pc' := 107) rfl ?_)
              refine G_goto (tgt := 158) d_Mo_parse_107 (by decide) ?_
              refine G_goto (tgt := 34) d_Mo_parse_158 (by decide) ?_
              refine G_ls (ls' := [(2, vi kb_4265), (1, vi 0), (0, vr 55)]) (by intro z hz; simp only [List.mem_cons] at hz ⊢; grind) ?_
              refine bad _ _ _ hbf_4265 hbw_4265 ?_ (by omega)
              rw [← hF]; refine parseL_bad (by omega) ?_
              unfold stepS; first | (rw [if_pos (by omega), if_pos (by omega)]; exact atS_n hbn_4265) | (rw [if_pos (by omega), if_neg (by omega)]; exact atS_n hbn_4265) | (rw [if_neg (by omega)]; exact atS_n hbn_4265)
            · skip
              refine G_ps (pc' := 83) (st' := [vi k_4265]) rfl rfl ?_
              refine G_goto (tgt := 91) d_Mo_parse_83 (by decide) ?_
              refine G_istore (i := 5) (len := 2) (ls' := [(5, vi k_4265), (4, vi 1), (3, vi (tkA M k)), (2, vi k), (1, vi e), (0, vr 55)]) (Or.inr ⟨rfl, d_Mo_parse_91⟩) (by decide) rfl (G_pc (pc' := 93) rfl ?_)
              refine G_iload (i := 4) (n := 1) (len := 2) (Or.inr ⟨rfl, d_Mo_parse_93⟩) rfl (G_pc (pc' := 95) rfl ?_)
              refine G_if_ne (tgt := 102) d_Mo_parse_95 (by decide) (fun h4267 => ?_) (fun h4267 => absurd h4267 (by decide))
              refine G_iconst (n := 0) d_Mo_parse_102 (by decide) (G_pc (pc' := 103) rfl ?_)
              refine G_istore (i := 1) (len := 1) (ls' := [(1, vi 0), (5, vi k_4265), (4, vi 1), (3, vi (tkA M k)), (2, vi k), (0, vr 55)]) (Or.inl ⟨1, rfl, rfl, d_Mo_parse_103⟩) (by decide) rfl (G_pc (pc' := 104) rfl ?_)
              refine G_iload (i := 5) (n := 1) (len := 2) (Or.inr ⟨rfl, d_Mo_parse_104⟩) rfl (G_pc (pc' := 106) rfl ?_)
              refine G_istore (i := 2) (len := 1) (ls' := [(2, vi k_4265), (1, vi 0), (5, vi k_4265), (4, vi 1), (3, vi (tkA M k)), (0, vr 55)]) (Or.inl ⟨2, rfl, rfl, d_Mo_parse_106⟩) (by decide) rfl (G_pc (pc' := 107) rfl ?_)
              refine G_goto (tgt := 158) d_Mo_parse_107 (by decide) ?_
              refine G_goto (tgt := 34) d_Mo_parse_158 (by decide) ?_
              refine G_ls (ls' := [(2, vi k_4265), (1, vi 0), (0, vr 55)]) (by intro z hz; simp only [List.mem_cons] at hz ⊢; grind) ?_
              have hst : stepS (tkA M) (M 75) k e (N, O, P, o, a, cl) = some (k_4265, 0, (N_4265, O_4265, P_4265, o_4265, a_4265, cl_4265)) := by
                unfold stepS; first | (rw [if_pos (by omega), if_pos (by omega)]; exact atS_s hg_4265) | (rw [if_pos (by omega), if_neg (by omega)]; exact atS_s hg_4265) | (rw [if_neg (by omega), show endsB (tkA M k) = 0 by unfold endsB; first | rw [if_pos (by omega)] | rw [if_neg (by omega)]]; exact atS_s hg_4265)
              obtain ⟨hs1, hs2, hs3⟩ := invS_step he ⟨hI1, hI2, hI3, hI4, hI5⟩ hst
              exact ih _ _ _ _ _ _ _ _ _ _ (by omega) (by omega) (by omega) hs2 hR_4265 hs3 (by omega) ((parseL_s (by omega) hst).symm.trans hF)
  refine G_aload (i := 0) (n := 0) (len := 1) (Or.inl ⟨0, rfl, rfl, d_Mo_parse_0⟩) rfl (by decide) (G_pc (pc' := 1) rfl ?_)
  refine G_iconst (n := 0) d_Mo_parse_1 (by decide) (G_pc (pc' := 2) rfl ?_)
  refine G_putL (o := 55) (c := 9) (k := 28) (ki := 28) (x := 0) d_Mo_parse_2 fl_Mo_207 rfl rfl (by decide) (by decide) (by decide) rfl rfl (tokI (by decide)) rfl (G_pc (pc' := 5) rfl ?_)
  refine G_aload (i := 0) (n := 0) (len := 1) (Or.inl ⟨0, rfl, rfl, d_Mo_parse_5⟩) rfl (by decide) (G_pc (pc' := 6) rfl ?_)
  refine G_iconst (n := 0) d_Mo_parse_6 (by decide) (G_pc (pc' := 7) rfl ?_)
  refine G_putL (o := 55) (c := 9) (k := 37) (ki := 37) (x := 0) d_Mo_parse_7 fl_Mo_210 rfl rfl (by decide) (by decide) (by decide) rfl rfl (tokI (by decide)) rfl (G_pc (pc' := 10) rfl ?_)
  refine G_aload (i := 0) (n := 0) (len := 1) (Or.inl ⟨0, rfl, rfl, d_Mo_parse_10⟩) rfl (by decide) (G_pc (pc' := 11) rfl ?_)
  refine G_iconst (n := 0) d_Mo_parse_11 (by decide) (G_pc (pc' := 12) rfl ?_)
  refine G_putL (o := 55) (c := 9) (k := 39) (ki := 39) (x := 0) d_Mo_parse_12 fl_Mo_213 rfl rfl (by decide) (by decide) (by decide) rfl rfl (tokI (by decide)) rfl (G_pc (pc' := 15) rfl ?_)
  refine G_aload (i := 0) (n := 0) (len := 1) (Or.inl ⟨0, rfl, rfl, d_Mo_parse_15⟩) rfl (by decide) (G_pc (pc' := 16) rfl ?_)
  refine G_iconst (n := 0) d_Mo_parse_16 (by decide) (G_pc (pc' := 17) rfl ?_)
  refine G_putL (o := 55) (c := 9) (k := 42) (ki := 42) (x := 0) d_Mo_parse_17 fl_Mo_233 rfl rfl (by decide) (by decide) (by decide) rfl rfl (tokI (by decide)) rfl (G_pc (pc' := 20) rfl ?_)
  refine G_aload (i := 0) (n := 0) (len := 1) (Or.inl ⟨0, rfl, rfl, d_Mo_parse_20⟩) rfl (by decide) (G_pc (pc' := 21) rfl ?_)
  refine G_iconst (n := 0) d_Mo_parse_21 (by decide) (G_pc (pc' := 22) rfl ?_)
  refine G_putL (o := 55) (c := 9) (k := 43) (ki := 43) (x := 0) d_Mo_parse_22 fl_Mo_236 rfl rfl (by decide) (by decide) (by decide) rfl rfl (tokI (by decide)) rfl (G_pc (pc' := 25) rfl ?_)
  refine G_aload (i := 0) (n := 0) (len := 1) (Or.inl ⟨0, rfl, rfl, d_Mo_parse_25⟩) rfl (by decide) (G_pc (pc' := 26) rfl ?_)
  refine G_iconst (n := 0) d_Mo_parse_26 (by decide) (G_pc (pc' := 27) rfl ?_)
  refine G_putL (o := 55) (c := 9) (k := 45) (ki := 45) (x := 0) d_Mo_parse_27 fl_Mo_239 rfl rfl (by decide) (by decide) (by decide) rfl rfl (tokZ (by decide)) rfl (G_pc (pc' := 30) rfl ?_)
  refine G_iconst (n := 1) d_Mo_parse_30 (by decide) (G_pc (pc' := 31) rfl ?_)
  refine G_istore (i := 1) (len := 1) (ls' := [(1, vi 1), (0, vr 55)]) (Or.inl ⟨1, rfl, rfl, d_Mo_parse_31⟩) (by decide) rfl (G_pc (pc' := 32) rfl ?_)
  refine G_iconst (n := 0) d_Mo_parse_32 (by decide) (G_pc (pc' := 33) rfl ?_)
  refine G_istore (i := 2) (len := 1) (ls' := [(2, vi 0), (1, vi 1), (0, vr 55)]) (Or.inl ⟨2, rfl, rfl, d_Mo_parse_33⟩) (by decide) rfl (G_pc (pc' := 34) rfl ?_)
  have hR0 := RP_init (M := M)
  rw [hw] at hR0
  exact loop 24 _ 0 0 1 [] [] [] 0 0 0 (by omega) (by omega) (by omega) (by omega) hR0 ⟨by simp [arP], by simp, by simp, by omega, by omega⟩ (by omega) rfl

