def unF (o x : Int) : Int := if o = 133 then o_lsub 1 x else if o = 132 then o_lxor x (-1) else if o = 128 then o_lneg x else x
def cmpF (M : Mem) (n : Int) : Int × Int :=
  if M 76 n < 6 then (0, if M 76 n = 5 then 0 else M 80 n)
  else if M 76 n = 6 then needF M 26 (M 59 26) else if M 76 n = 7 then needF M (w32 (M 80 n)) (M 59 (w32 (M 80 n)))
  else if 100 < M 76 n then (0, unF (M 76 n) (M 83 (M 77 n)))
  else if M 76 n = 60 ∨ M 76 n = 61 ∨ M 76 n = 62 then intoF M (M 76 n) (w32 (M 80 n)) (w32 (M 83 (M 77 n))) (M 83 (M 78 n))
  else if M 76 n = 63 ∨ M 76 n = 64 then fitF M (M 76 n) (w32 (M 80 n)) (M 83 (M 77 n)) (M 81 (M 77 n))
  else if M 76 n = 65 then (0, if M 83 (M 77 n) = 0 then M 83 (M 79 n) else M 83 (M 78 n))
  else if M 76 n = 44 then (0, if M 83 (M 77 n) = 0 then M 83 (M 77 n) else M 83 (M 78 n))
  else if M 76 n = 46 then (0, if M 83 (M 77 n) = 0 then M 83 (M 78 n) else M 83 (M 77 n))
  else reckF (M 76 n) (M 81 n) (M 83 (M 77 n)) (M 83 (M 78 n))
theorem pieceM_0 {a : Int} : pieceM 0 a 0 = a := rfl
theorem d_Mo_fit_0 : decode b_Mo_fit 0 = .ok (.aload_n 0, 1) := by decide +kernel
theorem d_Mo_fit_1 : decode b_Mo_fit 1 = .ok (.getfield 93, 3) := by decide +kernel
theorem d_Mo_fit_4 : decode b_Mo_fit 4 = .ok (.aload_n 0, 1) := by decide +kernel
theorem d_Mo_fit_5 : decode b_Mo_fit 5 = .ok (.getfield 75, 3) := by decide +kernel
theorem d_Mo_fit_8 : decode b_Mo_fit 8 = .ok (.iload_n 1, 1) := by decide +kernel
theorem d_Mo_fit_9 : decode b_Mo_fit 9 = .ok (.iaload, 1) := by decide +kernel
theorem d_Mo_fit_10 : decode b_Mo_fit 10 = .ok (.laload, 1) := by decide +kernel
theorem d_Mo_fit_11 : decode b_Mo_fit 11 = .ok (.lstore_n 2, 1) := by decide +kernel
theorem d_Mo_fit_12 : decode b_Mo_fit 12 = .ok (.aload_n 0, 1) := by decide +kernel
theorem d_Mo_fit_13 : decode b_Mo_fit 13 = .ok (.getfield 87, 3) := by decide +kernel
theorem d_Mo_fit_16 : decode b_Mo_fit 16 = .ok (.aload_n 0, 1) := by decide +kernel
theorem d_Mo_fit_17 : decode b_Mo_fit 17 = .ok (.getfield 75, 3) := by decide +kernel
theorem d_Mo_fit_20 : decode b_Mo_fit 20 = .ok (.iload_n 1, 1) := by decide +kernel
theorem d_Mo_fit_21 : decode b_Mo_fit 21 = .ok (.iaload, 1) := by decide +kernel
theorem d_Mo_fit_22 : decode b_Mo_fit 22 = .ok (.iaload, 1) := by decide +kernel
theorem d_Mo_fit_23 : decode b_Mo_fit 23 = .ok (.istore 4, 2) := by decide +kernel
theorem d_Mo_fit_25 : decode b_Mo_fit 25 = .ok (.aload_n 0, 1) := by decide +kernel
theorem d_Mo_fit_26 : decode b_Mo_fit 26 = .ok (.getfield 72, 3) := by decide +kernel
theorem d_Mo_fit_29 : decode b_Mo_fit 29 = .ok (.iload_n 1, 1) := by decide +kernel
theorem d_Mo_fit_30 : decode b_Mo_fit 30 = .ok (.iaload, 1) := by decide +kernel
theorem d_Mo_fit_31 : decode b_Mo_fit 31 = .ok (.bipush 63, 2) := by decide +kernel
theorem d_Mo_fit_33 : decode b_Mo_fit 33 = .ok (.if_icmp .ne 15, 3) := by decide +kernel
theorem d_Mo_fit_36 : decode b_Mo_fit 36 = .ok (.iconst 4, 1) := by decide +kernel
theorem d_Mo_fit_37 : decode b_Mo_fit 37 = .ok (.aload_n 0, 1) := by decide +kernel
theorem d_Mo_fit_38 : decode b_Mo_fit 38 = .ok (.getfield 84, 3) := by decide +kernel
theorem d_Mo_fit_41 : decode b_Mo_fit 41 = .ok (.iload_n 1, 1) := by decide +kernel
theorem d_Mo_fit_42 : decode b_Mo_fit 42 = .ok (.laload, 1) := by decide +kernel
theorem d_Mo_fit_43 : decode b_Mo_fit 43 = .ok (.l2i, 1) := by decide +kernel
theorem d_Mo_fit_44 : decode b_Mo_fit 44 = .ok (.iadd, 1) := by decide +kernel
theorem d_Mo_fit_45 : decode b_Mo_fit 45 = .ok (.goto 10, 3) := by decide +kernel
theorem d_Mo_fit_48 : decode b_Mo_fit 48 = .ok (.aload_n 0, 1) := by decide +kernel
theorem d_Mo_fit_49 : decode b_Mo_fit 49 = .ok (.getfield 84, 3) := by decide +kernel
theorem d_Mo_fit_52 : decode b_Mo_fit 52 = .ok (.iload_n 1, 1) := by decide +kernel
theorem d_Mo_fit_53 : decode b_Mo_fit 53 = .ok (.laload, 1) := by decide +kernel
theorem d_Mo_fit_54 : decode b_Mo_fit 54 = .ok (.l2i, 1) := by decide +kernel
theorem d_Mo_fit_55 : decode b_Mo_fit 55 = .ok (.istore 5, 2) := by decide +kernel
theorem d_Mo_fit_57 : decode b_Mo_fit 57 = .ok (.iload 5, 2) := by decide +kernel
theorem d_Mo_fit_59 : decode b_Mo_fit 59 = .ok (.invokestatic 113, 3) := by decide +kernel
theorem d_Mo_fit_62 : decode b_Mo_fit 62 = .ok (.ifCond .ne 35, 3) := by decide +kernel
theorem d_Mo_fit_65 : decode b_Mo_fit 65 = .ok (.aload_n 0, 1) := by decide +kernel
theorem d_Mo_fit_66 : decode b_Mo_fit 66 = .ok (.iload_n 1, 1) := by decide +kernel
theorem d_Mo_fit_67 : decode b_Mo_fit 67 = .ok (.iload 5, 2) := by decide +kernel
theorem d_Mo_fit_69 : decode b_Mo_fit 69 = .ok (.iconst 2, 1) := by decide +kernel
theorem d_Mo_fit_70 : decode b_Mo_fit 70 = .ok (.if_icmp .ne 11, 3) := by decide +kernel
theorem d_Mo_fit_73 : decode b_Mo_fit 73 = .ok (.lload_n 2, 1) := by decide +kernel
theorem d_Mo_fit_74 : decode b_Mo_fit 74 = .ok (.ldc2_w 136, 3) := by decide +kernel
theorem d_Mo_fit_77 : decode b_Mo_fit 77 = .ok (.land, 1) := by decide +kernel
theorem d_Mo_fit_78 : decode b_Mo_fit 78 = .ok (.goto 15, 3) := by decide +kernel
theorem d_Mo_fit_81 : decode b_Mo_fit 81 = .ok (.iload 5, 2) := by decide +kernel
theorem d_Mo_fit_83 : decode b_Mo_fit 83 = .ok (.ifCond .ne 9, 3) := by decide +kernel
theorem d_Mo_fit_86 : decode b_Mo_fit 86 = .ok (.lload_n 2, 1) := by decide +kernel
theorem d_Mo_fit_87 : decode b_Mo_fit 87 = .ok (.l2i, 1) := by decide +kernel
theorem d_Mo_fit_88 : decode b_Mo_fit 88 = .ok (.i2l, 1) := by decide +kernel
theorem d_Mo_fit_89 : decode b_Mo_fit 89 = .ok (.goto 4, 3) := by decide +kernel
theorem d_Mo_fit_92 : decode b_Mo_fit 92 = .ok (.lload_n 2, 1) := by decide +kernel
theorem d_Mo_fit_93 : decode b_Mo_fit 93 = .ok (.invokevirtual 289, 3) := by decide +kernel
theorem d_Mo_fit_96 : decode b_Mo_fit 96 = .ok (.return_, 1) := by decide +kernel
theorem d_Mo_fit_97 : decode b_Mo_fit 97 = .ok (.lload_n 2, 1) := by decide +kernel
theorem d_Mo_fit_98 : decode b_Mo_fit 98 = .ok (.lconst 0, 1) := by decide +kernel
theorem d_Mo_fit_99 : decode b_Mo_fit 99 = .ok (.lcmp, 1) := by decide +kernel
theorem d_Mo_fit_100 : decode b_Mo_fit 100 = .ok (.ifCond .eq 14, 3) := by decide +kernel
theorem d_Mo_fit_103 : decode b_Mo_fit 103 = .ok (.aload_n 0, 1) := by decide +kernel
theorem d_Mo_fit_104 : decode b_Mo_fit 104 = .ok (.iload 4, 2) := by decide +kernel
theorem d_Mo_fit_106 : decode b_Mo_fit 106 = .ok (.iload 5, 2) := by decide +kernel
theorem d_Mo_fit_108 : decode b_Mo_fit 108 = .ok (.invokevirtual 120, 3) := by decide +kernel
theorem d_Mo_fit_111 : decode b_Mo_fit 111 = .ok (.ifCond .eq 7, 3) := by decide +kernel
theorem d_Mo_fit_114 : decode b_Mo_fit 114 = .ok (.iconst 1, 1) := by decide +kernel
theorem d_Mo_fit_115 : decode b_Mo_fit 115 = .ok (.goto 4, 3) := by decide +kernel
theorem d_Mo_fit_118 : decode b_Mo_fit 118 = .ok (.iconst 0, 1) := by decide +kernel
theorem d_Mo_fit_119 : decode b_Mo_fit 119 = .ok (.istore 6, 2) := by decide +kernel
theorem d_Mo_fit_121 : decode b_Mo_fit 121 = .ok (.iload 6, 2) := by decide +kernel
theorem d_Mo_fit_123 : decode b_Mo_fit 123 = .ok (.ifCond .ne 15, 3) := by decide +kernel
theorem d_Mo_fit_126 : decode b_Mo_fit 126 = .ok (.aload_n 0, 1) := by decide +kernel
theorem d_Mo_fit_127 : decode b_Mo_fit 127 = .ok (.iconst 4, 1) := by decide +kernel
theorem d_Mo_fit_128 : decode b_Mo_fit 128 = .ok (.lload_n 2, 1) := by decide +kernel
theorem d_Mo_fit_129 : decode b_Mo_fit 129 = .ok (.l2i, 1) := by decide +kernel
theorem d_Mo_fit_130 : decode b_Mo_fit 130 = .ok (.iconst 0, 1) := by decide +kernel
theorem d_Mo_fit_131 : decode b_Mo_fit 131 = .ok (.invokevirtual 292, 3) := by decide +kernel
theorem d_Mo_fit_134 : decode b_Mo_fit 134 = .ok (.ifCond .ne 4, 3) := by decide +kernel
theorem d_Mo_fit_137 : decode b_Mo_fit 137 = .ok (.return_, 1) := by decide +kernel
theorem d_Mo_fit_138 : decode b_Mo_fit 138 = .ok (.iload 6, 2) := by decide +kernel
theorem d_Mo_fit_140 : decode b_Mo_fit 140 = .ok (.ifCond .ne 19, 3) := by decide +kernel
theorem d_Mo_fit_143 : decode b_Mo_fit 143 = .ok (.aload_n 0, 1) := by decide +kernel
theorem d_Mo_fit_144 : decode b_Mo_fit 144 = .ok (.aload_n 0, 1) := by decide +kernel
theorem d_Mo_fit_145 : decode b_Mo_fit 145 = .ok (.getfield 23, 3) := by decide +kernel
theorem d_Mo_fit_148 : decode b_Mo_fit 148 = .ok (.lload_n 2, 1) := by decide +kernel
theorem d_Mo_fit_149 : decode b_Mo_fit 149 = .ok (.l2i, 1) := by decide +kernel
theorem d_Mo_fit_150 : decode b_Mo_fit 150 = .ok (.iaload, 1) := by decide +kernel
theorem d_Mo_fit_151 : decode b_Mo_fit 151 = .ok (.iload 5, 2) := by decide +kernel
theorem d_Mo_fit_153 : decode b_Mo_fit 153 = .ok (.invokevirtual 120, 3) := by decide +kernel
theorem d_Mo_fit_156 : decode b_Mo_fit 156 = .ok (.ifCond .eq 7, 3) := by decide +kernel
theorem d_Mo_fit_159 : decode b_Mo_fit 159 = .ok (.iconst 1, 1) := by decide +kernel
theorem d_Mo_fit_160 : decode b_Mo_fit 160 = .ok (.goto 4, 3) := by decide +kernel
theorem d_Mo_fit_163 : decode b_Mo_fit 163 = .ok (.iconst 0, 1) := by decide +kernel
theorem d_Mo_fit_164 : decode b_Mo_fit 164 = .ok (.istore 7, 2) := by decide +kernel
theorem d_Mo_fit_166 : decode b_Mo_fit 166 = .ok (.aload_n 0, 1) := by decide +kernel
theorem d_Mo_fit_167 : decode b_Mo_fit 167 = .ok (.getfield 72, 3) := by decide +kernel
theorem d_Mo_fit_170 : decode b_Mo_fit 170 = .ok (.iload_n 1, 1) := by decide +kernel
theorem d_Mo_fit_171 : decode b_Mo_fit 171 = .ok (.iaload, 1) := by decide +kernel
theorem d_Mo_fit_172 : decode b_Mo_fit 172 = .ok (.bipush 63, 2) := by decide +kernel
theorem d_Mo_fit_174 : decode b_Mo_fit 174 = .ok (.if_icmp .ne 27, 3) := by decide +kernel
theorem d_Mo_fit_177 : decode b_Mo_fit 177 = .ok (.aload_n 0, 1) := by decide +kernel
theorem d_Mo_fit_178 : decode b_Mo_fit 178 = .ok (.iload_n 1, 1) := by decide +kernel
theorem d_Mo_fit_179 : decode b_Mo_fit 179 = .ok (.lload_n 2, 1) := by decide +kernel
theorem d_Mo_fit_180 : decode b_Mo_fit 180 = .ok (.lconst 0, 1) := by decide +kernel
theorem d_Mo_fit_181 : decode b_Mo_fit 181 = .ok (.lcmp, 1) := by decide +kernel
theorem d_Mo_fit_182 : decode b_Mo_fit 182 = .ok (.ifCond .eq 12, 3) := by decide +kernel
theorem d_Mo_fit_185 : decode b_Mo_fit 185 = .ok (.iload 7, 2) := by decide +kernel
theorem d_Mo_fit_187 : decode b_Mo_fit 187 = .ok (.ifCond .eq 7, 3) := by decide +kernel
theorem d_Mo_fit_190 : decode b_Mo_fit 190 = .ok (.lconst 1, 1) := by decide +kernel
theorem d_Mo_fit_191 : decode b_Mo_fit 191 = .ok (.goto 4, 3) := by decide +kernel
theorem d_Mo_fit_194 : decode b_Mo_fit 194 = .ok (.lconst 0, 1) := by decide +kernel
theorem d_Mo_fit_195 : decode b_Mo_fit 195 = .ok (.invokevirtual 289, 3) := by decide +kernel
theorem d_Mo_fit_198 : decode b_Mo_fit 198 = .ok (.goto 22, 3) := by decide +kernel
theorem d_Mo_fit_201 : decode b_Mo_fit 201 = .ok (.iload 7, 2) := by decide +kernel
theorem d_Mo_fit_203 : decode b_Mo_fit 203 = .ok (.ifCond .eq 12, 3) := by decide +kernel
theorem d_Mo_fit_206 : decode b_Mo_fit 206 = .ok (.aload_n 0, 1) := by decide +kernel
theorem d_Mo_fit_207 : decode b_Mo_fit 207 = .ok (.iload_n 1, 1) := by decide +kernel
theorem d_Mo_fit_208 : decode b_Mo_fit 208 = .ok (.lload_n 2, 1) := by decide +kernel
theorem d_Mo_fit_209 : decode b_Mo_fit 209 = .ok (.invokevirtual 289, 3) := by decide +kernel
theorem d_Mo_fit_212 : decode b_Mo_fit 212 = .ok (.goto 8, 3) := by decide +kernel
theorem d_Mo_fit_215 : decode b_Mo_fit 215 = .ok (.aload_n 0, 1) := by decide +kernel
theorem d_Mo_fit_216 : decode b_Mo_fit 216 = .ok (.iconst 4, 1) := by decide +kernel
theorem d_Mo_fit_217 : decode b_Mo_fit 217 = .ok (.putfield 280, 3) := by decide +kernel
theorem d_Mo_fit_220 : decode b_Mo_fit 220 = .ok (.return_, 1) := by decide +kernel
set_option maxHeartbeats 400000 in
theorem g_Mo_fit {X : WX} {d : Nat} (hd : 2 ≤ d) (n : Int) (M : Mem) (hP : okP M) (hn : 0 ≤ n ∧ n < 32) (hq7 : 0 ≤ M 77 n ∧ M 77 n < 32) (hqa : 0 ≤ M 81 (M 77 n) ∧ M 81 (M 77 n) < 18) (hqo : M 76 n = 63 ∨ M 76 n = 64) (hqv : 0 ≤ w32 (M 80 n) ∧ w32 (M 80 n) < 17 ∧ (M 76 n = 63 → w32 (M 80 n) < 6))
  (hqt : 0 ≤ toK (M 76 n) (w32 (M 80 n)) ∧ toK (M 76 n) (w32 (M 80 n)) < 18) (hqx : 4 ≤ toK (M 76 n) (w32 (M 80 n)) → 0 ≤ w32 (M 83 (M 77 n)) ∧ w32 (M 83 (M 77 n)) ≤ 12) (hqk : ∀ j, 0 ≤ j → j ≤ 12 → 0 ≤ M 60 j ∧ M 60 j < 18) : MG X gt d KE KE y_Mo_fit b_Mo_fit 8 none [vr 55, vi n] M (fun r M' => r = none ∧ cmpQ M n (fitF M (M 76 n) (w32 (M 80 n)) (M 83 (M 77 n)) (M 81 (M 77 n))) M') := by
  refine MG_of_G (by decide) (Nat.le_of_ble_eq_true rfl) (Nat.le_refl _) (by decide) ?_
  show G X gt d KE KE y_Mo_fit b_Mo_fit 8 none _ 0 [(0, vr 55), (1, vi n)] [] KE M
  refine G_rngl (i := 1) rfl (fun hr1 => ?_)
  obtain ⟨tk, htk⟩ : ∃ tk, toK (M 76 n) (w32 (M 80 n)) = tk := ⟨_, rfl⟩
  rw [htk] at hqt hqx
  refine G_aload (i := 0) (n := 0) (len := 1) (Or.inl ⟨0, rfl, rfl, d_Mo_fit_0⟩) rfl (by decide) (G_pc (pc' := 1) rfl ?_)
  refine G_get (o := 55) (c := 9) (k := 36) (v := 83) d_Mo_fit_1 fl_Mo_93 rfl (by decide) (by decide) rfl rfl (G_pc (pc' := 4) rfl ?_)
  refine G_aload (i := 0) (n := 0) (len := 1) (Or.inl ⟨0, rfl, rfl, d_Mo_fit_4⟩) rfl (by decide) (G_pc (pc' := 5) rfl ?_)
  refine G_get (o := 55) (c := 9) (k := 30) (v := 77) d_Mo_fit_5 fl_Mo_75 rfl (by decide) (by decide) rfl rfl (G_pc (pc' := 8) rfl ?_)
  refine G_iload (i := 1) (n := 1) (len := 1) (Or.inl ⟨1, rfl, rfl, d_Mo_fit_8⟩) rfl (G_pc (pc' := 9) rfl ?_)
  refine G_iaload (o := 77) (n := 32) (i := n) (v := M 77 n) d_Mo_fit_9 rfl ⟨by decide, by decide⟩ (by omega) (rd_arr rfl) (fun t1 => G_pc (pc' := 10) rfl ?_)
  have t1 := tok_i t1
  refine G_laload (o := 83) (n := 32) (i := M 77 n) (v := M 83 (M 77 n)) d_Mo_fit_10 rfl ⟨by decide, by decide⟩ (by omega) (rd_arr rfl) (fun t2 => G_pc (pc' := 11) rfl ?_)
  have t2 := tok_l t2
  refine G_lstore (i := 2) (len := 1) (ls' := [(2, vl (M 83 (M 77 n))), (0, vr 55), (1, vi n)]) (Or.inl ⟨2, rfl, rfl, d_Mo_fit_11⟩) (by decide) rfl (G_pc (pc' := 12) rfl ?_)
  refine G_aload (i := 0) (n := 1) (len := 1) (Or.inl ⟨0, rfl, rfl, d_Mo_fit_12⟩) rfl (by decide) (G_pc (pc' := 13) rfl ?_)
  refine G_get (o := 55) (c := 9) (k := 34) (v := 81) d_Mo_fit_13 fl_Mo_87 rfl (by decide) (by decide) rfl rfl (G_pc (pc' := 16) rfl ?_)
  refine G_aload (i := 0) (n := 1) (len := 1) (Or.inl ⟨0, rfl, rfl, d_Mo_fit_16⟩) rfl (by decide) (G_pc (pc' := 17) rfl ?_)
  refine G_get (o := 55) (c := 9) (k := 30) (v := 77) d_Mo_fit_17 fl_Mo_75 rfl (by decide) (by decide) rfl rfl (G_pc (pc' := 20) rfl ?_)
  refine G_iload (i := 1) (n := 2) (len := 1) (Or.inl ⟨1, rfl, rfl, d_Mo_fit_20⟩) rfl (G_pc (pc' := 21) rfl ?_)
  refine G_iaload (o := 77) (n := 32) (i := n) (v := M 77 n) d_Mo_fit_21 rfl ⟨by decide, by decide⟩ (by omega) (rd_arr rfl) (fun t3 => G_pc (pc' := 22) rfl ?_)
  have t3 := tok_i t3
  refine G_iaload (o := 81) (n := 32) (i := M 77 n) (v := M 81 (M 77 n)) d_Mo_fit_22 rfl ⟨by decide, by decide⟩ (by omega) (rd_arr rfl) (fun t4 => G_pc (pc' := 23) rfl ?_)
  have t4 := tok_i t4
  refine G_istore (i := 4) (len := 2) (ls' := [(4, vi (M 81 (M 77 n))), (2, vl (M 83 (M 77 n))), (0, vr 55), (1, vi n)]) (Or.inr ⟨rfl, d_Mo_fit_23⟩) (by decide) rfl (G_pc (pc' := 25) rfl ?_)
  refine G_aload (i := 0) (n := 2) (len := 1) (Or.inl ⟨0, rfl, rfl, d_Mo_fit_25⟩) rfl (by decide) (G_pc (pc' := 26) rfl ?_)
  refine G_get (o := 55) (c := 9) (k := 29) (v := 76) d_Mo_fit_26 fl_Mo_72 rfl (by decide) (by decide) rfl rfl (G_pc (pc' := 29) rfl ?_)
  refine G_iload (i := 1) (n := 3) (len := 1) (Or.inl ⟨1, rfl, rfl, d_Mo_fit_29⟩) rfl (G_pc (pc' := 30) rfl ?_)
  refine G_iaload (o := 76) (n := 32) (i := n) (v := M 76 n) d_Mo_fit_30 rfl ⟨by decide, by decide⟩ (by omega) (rd_arr rfl) (fun t5 => G_pc (pc' := 31) rfl ?_)
  have t5 := tok_i t5
  refine G_bipush (n := 63) d_Mo_fit_31 (by decide) (G_pc (pc' := 33) rfl ?_)
  refine G_icmp_ne (tgt := 48) d_Mo_fit_33 (by decide) (fun h6 => ?_) (fun h6 => G_pc (pc' := 36) rfl ?_)
  · skip
    refine G_aload (i := 0) (n := 2) (len := 1) (Or.inl ⟨0, rfl, rfl, d_Mo_fit_48⟩) rfl (by decide) (G_pc (pc' := 49) rfl ?_)
    refine G_get (o := 55) (c := 9) (k := 33) (v := 80) d_Mo_fit_49 fl_Mo_84 rfl (by decide) (by decide) rfl rfl (G_pc (pc' := 52) rfl ?_)
    refine G_iload (i := 1) (n := 3) (len := 1) (Or.inl ⟨1, rfl, rfl, d_Mo_fit_52⟩) rfl (G_pc (pc' := 53) rfl ?_)
    refine G_laload (o := 80) (n := 32) (i := n) (v := M 80 n) d_Mo_fit_53 rfl ⟨by decide, by decide⟩ (by omega) (rd_arr rfl) (fun t7 => G_pc (pc' := 54) rfl ?_)
    have t7 := tok_l t7
    refine G_l2i d_Mo_fit_54 (G_pc (pc' := 55) rfl ?_)
    refine G_ps (pc' := 55) (st' := [vi tk]) rfl (by rw [← htk]; unfold toK; first | rw [if_pos (by omega)] | rw [if_neg (by omega)]) ?_
    refine G_istore (i := 5) (len := 2) (ls' := [(5, vi tk), (4, vi (M 81 (M 77 n))), (2, vl (M 83 (M 77 n))), (0, vr 55), (1, vi n)]) (Or.inr ⟨rfl, d_Mo_fit_55⟩) (by decide) rfl (G_pc (pc' := 57) rfl ?_)
    refine G_iload (i := 5) (n := 0) (len := 2) (Or.inr ⟨rfl, d_Mo_fit_57⟩) rfl (G_pc (pc' := 59) rfl ?_)
    refine G_callS (K1 := KE) (d2 := 0) (as := [vi tk]) (rest := []) d_Mo_fit_59 mf_Mo_reference ml_Mo_113 rfl rfl (Nat.le_of_ble_eq_true rfl) (by omega) ⟨Nat.le_refl _, Nat.le_refl _⟩ (g_Mo_reference (by omega) tk _) (fun r8 M9 kq10 q10 => ?_)
    clear kq10; obtain ⟨q10a, q10b⟩ := q10; subst r8; subst M9
    refine G_ps (pc' := 62) (st' := [vi (b2i (refB tk))]) rfl rfl ?_
    refine G_if_ne (tgt := 97) d_Mo_fit_62 (by decide) (fun h11 => ?_) (fun h11 => G_pc (pc' := 65) rfl ?_)
    · skip
      replace h11 := b2i_nz.mp h11
      replace h11 := refB_t.mp h11
      have hqx1 := hqx (by omega)
      refine G_lload (i := 2) (n := 2) (len := 1) (Or.inl ⟨2, rfl, rfl, d_Mo_fit_97⟩) rfl (G_pc (pc' := 98) rfl ?_)
      refine G_lconst0 d_Mo_fit_98 (G_pc (pc' := 99) rfl ?_)
      refine G_lcmp_eq (tgt := 114) d_Mo_fit_99 d_Mo_fit_100 (by decide) (fun h12 => ?_) (fun h12 => G_pc (pc' := 103) rfl ?_)
      · skip
        refine G_iconst (n := 1) d_Mo_fit_114 (by decide) (G_pc (pc' := 115) rfl ?_)
        refine G_goto (tgt := 119) d_Mo_fit_115 (by decide) ?_
        refine G_istore (i := 6) (len := 2) (ls' := [(6, vi 1), (5, vi tk), (4, vi (M 81 (M 77 n))), (2, vl (M 83 (M 77 n))), (0, vr 55), (1, vi n)]) (Or.inr ⟨rfl, d_Mo_fit_119⟩) (by decide) rfl (G_pc (pc' := 121) rfl ?_)
        refine G_iload (i := 6) (n := 0) (len := 2) (Or.inr ⟨rfl, d_Mo_fit_121⟩) rfl (G_pc (pc' := 123) rfl ?_)
        refine G_if_ne (tgt := 138) d_Mo_fit_123 (by decide) (fun h13 => ?_) (fun h13 => absurd h13 (by decide))
        refine G_iload (i := 6) (n := 0) (len := 2) (Or.inr ⟨rfl, d_Mo_fit_138⟩) rfl (G_pc (pc' := 140) rfl ?_)
        refine G_if_ne (tgt := 159) d_Mo_fit_140 (by decide) (fun h14 => ?_) (fun h14 => absurd h14 (by decide))
        refine G_iconst (n := 1) d_Mo_fit_159 (by decide) (G_pc (pc' := 160) rfl ?_)
        refine G_goto (tgt := 164) d_Mo_fit_160 (by decide) ?_
        refine G_istore (i := 7) (len := 2) (ls' := [(7, vi 1), (6, vi 1), (5, vi tk), (4, vi (M 81 (M 77 n))), (2, vl (M 83 (M 77 n))), (0, vr 55), (1, vi n)]) (Or.inr ⟨rfl, d_Mo_fit_164⟩) (by decide) rfl (G_pc (pc' := 166) rfl ?_)
        refine G_aload (i := 0) (n := 5) (len := 1) (Or.inl ⟨0, rfl, rfl, d_Mo_fit_166⟩) rfl (by decide) (G_pc (pc' := 167) rfl ?_)
        refine G_get (o := 55) (c := 9) (k := 29) (v := 76) d_Mo_fit_167 fl_Mo_72 rfl (by decide) (by decide) rfl rfl (G_pc (pc' := 170) rfl ?_)
        refine G_iload (i := 1) (n := 6) (len := 1) (Or.inl ⟨1, rfl, rfl, d_Mo_fit_170⟩) rfl (G_pc (pc' := 171) rfl ?_)
        refine G_iaload (o := 76) (n := 32) (i := n) (v := M 76 n) d_Mo_fit_171 rfl ⟨by decide, by decide⟩ (by omega) (rd_arr rfl) (fun t15 => G_pc (pc' := 172) rfl ?_)
        have t15 := tok_i t15
        refine G_bipush (n := 63) d_Mo_fit_172 (by decide) (G_pc (pc' := 174) rfl ?_)
        refine G_icmp_ne (tgt := 201) d_Mo_fit_174 (by decide) (fun h16 => ?_) (fun h16 => G_pc (pc' := 177) rfl ?_)
        · skip
          refine G_iload (i := 7) (n := 0) (len := 2) (Or.inr ⟨rfl, d_Mo_fit_201⟩) rfl (G_pc (pc' := 203) rfl ?_)
          refine G_if_eq (tgt := 215) d_Mo_fit_203 (by decide) (fun h17 => absurd h17 (by decide)) (fun h17 => G_pc (pc' := 206) rfl ?_)
          refine G_aload (i := 0) (n := 5) (len := 1) (Or.inl ⟨0, rfl, rfl, d_Mo_fit_206⟩) rfl (by decide) (G_pc (pc' := 207) rfl ?_)
          refine G_iload (i := 1) (n := 6) (len := 1) (Or.inl ⟨1, rfl, rfl, d_Mo_fit_207⟩) rfl (G_pc (pc' := 208) rfl ?_)
          refine G_lload (i := 2) (n := 4) (len := 1) (Or.inl ⟨2, rfl, rfl, d_Mo_fit_208⟩) rfl (G_pc (pc' := 209) rfl ?_)
          refine G_callV (K1 := KE) (d2 := 0) (o := 55) (cl := 9) (as := [vi n, vl (M 83 (M 77 n))]) (rest := []) d_Mo_fit_209 mf_Mo_set ml_Mo_289 rfl rfl (by decide) rfl rfl (Nat.le_of_ble_eq_true rfl) (by omega) ⟨Nat.le_refl _, Nat.le_refl _⟩ (g_Mo_set (by omega) n (M 83 (M 77 n)) _ (by omega)) (fun r18 M19 kq20 q20 => ?_)
          clear kq20; obtain ⟨q20a, q20b⟩ := q20; subst r18; subst M19
          refine G_ps (pc' := 212) (st' := []) rfl rfl ?_
          refine G_goto (tgt := 220) d_Mo_fit_212 (by decide) ?_
          refine G_vret d_Mo_fit_220 rfl rfl ?_
          refine ⟨rfl, ?_⟩; exact cmp_v (by unfold fitF; rw [htk]; first | grind [b2i] | grind [needF])
        · skip
          refine G_aload (i := 0) (n := 5) (len := 1) (Or.inl ⟨0, rfl, rfl, d_Mo_fit_177⟩) rfl (by decide) (G_pc (pc' := 178) rfl ?_)
          refine G_iload (i := 1) (n := 6) (len := 1) (Or.inl ⟨1, rfl, rfl, d_Mo_fit_178⟩) rfl (G_pc (pc' := 179) rfl ?_)
          refine G_lload (i := 2) (n := 4) (len := 1) (Or.inl ⟨2, rfl, rfl, d_Mo_fit_179⟩) rfl (G_pc (pc' := 180) rfl ?_)
          refine G_lconst0 d_Mo_fit_180 (G_pc (pc' := 181) rfl ?_)
          refine G_lcmp_eq (tgt := 194) d_Mo_fit_181 d_Mo_fit_182 (by decide) (fun h21 => ?_) (fun h21 => G_pc (pc' := 185) rfl ?_)
          · skip
            refine G_lconst0 d_Mo_fit_194 (G_pc (pc' := 195) rfl ?_)
            refine G_callV (K1 := KE) (d2 := 0) (o := 55) (cl := 9) (as := [vi n, vl 0]) (rest := []) d_Mo_fit_195 mf_Mo_set ml_Mo_289 rfl rfl (by decide) rfl rfl (Nat.le_of_ble_eq_true rfl) (by omega) ⟨Nat.le_refl _, Nat.le_refl _⟩ (g_Mo_set (by omega) n 0 _ (by omega)) (fun r22 M23 kq24 q24 => ?_)
            clear kq24; obtain ⟨q24a, q24b⟩ := q24; subst r22; subst M23
            refine G_ps (pc' := 198) (st' := []) rfl rfl ?_
            refine G_goto (tgt := 220) d_Mo_fit_198 (by decide) ?_
            refine G_vret d_Mo_fit_220 rfl rfl ?_
            refine ⟨rfl, ?_⟩; exact cmp_v (by unfold fitF; rw [htk]; first | grind [b2i] | grind [needF])
          · skip
            refine G_iload (i := 7) (n := 0) (len := 2) (Or.inr ⟨rfl, d_Mo_fit_185⟩) rfl (G_pc (pc' := 187) rfl ?_)
            refine G_if_eq (tgt := 194) d_Mo_fit_187 (by decide) (fun h25 => absurd h25 (by decide)) (fun h25 => G_pc (pc' := 190) rfl ?_)
            refine G_lconst1 d_Mo_fit_190 (G_pc (pc' := 191) rfl ?_)
            refine G_goto (tgt := 195) d_Mo_fit_191 (by decide) ?_
            refine G_callV (K1 := KE) (d2 := 0) (o := 55) (cl := 9) (as := [vi n, vl 1]) (rest := []) d_Mo_fit_195 mf_Mo_set ml_Mo_289 rfl rfl (by decide) rfl rfl (Nat.le_of_ble_eq_true rfl) (by omega) ⟨Nat.le_refl _, Nat.le_refl _⟩ (g_Mo_set (by omega) n 1 _ (by omega)) (fun r26 M27 kq28 q28 => ?_)
            clear kq28; obtain ⟨q28a, q28b⟩ := q28; subst r26; subst M27
            refine G_ps (pc' := 198) (st' := []) rfl rfl ?_
            refine G_goto (tgt := 220) d_Mo_fit_198 (by decide) ?_
            refine G_vret d_Mo_fit_220 rfl rfl ?_
            refine ⟨rfl, ?_⟩; exact cmp_v (by unfold fitF; rw [htk]; first | grind [b2i] | grind [needF])
      · skip
        refine G_aload (i := 0) (n := 3) (len := 1) (Or.inl ⟨0, rfl, rfl, d_Mo_fit_103⟩) rfl (by decide) (G_pc (pc' := 104) rfl ?_)
        refine G_iload (i := 4) (n := 1) (len := 2) (Or.inr ⟨rfl, d_Mo_fit_104⟩) rfl (G_pc (pc' := 106) rfl ?_)
        refine G_iload (i := 5) (n := 0) (len := 2) (Or.inr ⟨rfl, d_Mo_fit_106⟩) rfl (G_pc (pc' := 108) rfl ?_)
        refine G_callV (K1 := KE) (d2 := 1) (o := 55) (cl := 9) (as := [vi (M 81 (M 77 n)), vi tk]) (rest := []) d_Mo_fit_108 mf_Mo_suits ml_Mo_120 rfl rfl (by decide) rfl rfl (Nat.le_of_ble_eq_true rfl) (by omega) ⟨Nat.le_refl _, Nat.le_refl _⟩ (g_Mo_suits (by omega) (M 81 (M 77 n)) tk _ hP (by omega) (by omega)) (fun r29 M30 kq31 q31 => ?_)
        clear kq31; obtain ⟨q31a, q31b⟩ := q31; subst r29; subst M30
        refine G_ps (pc' := 111) (st' := [vi (b2i (suitsB M (M 81 (M 77 n)) tk))]) rfl rfl ?_
        refine G_if_eq (tgt := 118) d_Mo_fit_111 (by decide) (fun h32 => ?_) (fun h32 => G_pc (pc' := 114) rfl ?_)
        · skip
          replace h32 := b2i_0.mp h32
          refine G_iconst (n := 0) d_Mo_fit_118 (by decide) (G_pc (pc' := 119) rfl ?_)
          refine G_istore (i := 6) (len := 2) (ls' := [(6, vi 0), (5, vi tk), (4, vi (M 81 (M 77 n))), (2, vl (M 83 (M 77 n))), (0, vr 55), (1, vi n)]) (Or.inr ⟨rfl, d_Mo_fit_119⟩) (by decide) rfl (G_pc (pc' := 121) rfl ?_)
          refine G_iload (i := 6) (n := 0) (len := 2) (Or.inr ⟨rfl, d_Mo_fit_121⟩) rfl (G_pc (pc' := 123) rfl ?_)
          refine G_if_ne (tgt := 138) d_Mo_fit_123 (by decide) (fun h33 => absurd h33 (by decide)) (fun h33 => G_pc (pc' := 126) rfl ?_)
          refine G_aload (i := 0) (n := 4) (len := 1) (Or.inl ⟨0, rfl, rfl, d_Mo_fit_126⟩) rfl (by decide) (G_pc (pc' := 127) rfl ?_)
          refine G_iconst (n := 4) d_Mo_fit_127 (by decide) (G_pc (pc' := 128) rfl ?_)
          refine G_lload (i := 2) (n := 3) (len := 1) (Or.inl ⟨2, rfl, rfl, d_Mo_fit_128⟩) rfl (G_pc (pc' := 129) rfl ?_)
          refine G_l2i d_Mo_fit_129 (G_pc (pc' := 130) rfl ?_)
          refine G_iconst (n := 0) d_Mo_fit_130 (by decide) (G_pc (pc' := 131) rfl ?_)
          refine G_callV (K1 := KE) (d2 := 1) (o := 55) (cl := 9) (as := [vi 4, vi (w32 (M 83 (M 77 n))), vi 0]) (rest := []) d_Mo_fit_131 mf_Mo_has ml_Mo_292 rfl rfl (by decide) rfl rfl (Nat.le_of_ble_eq_true rfl) (by omega) ⟨Nat.le_refl _, Nat.le_refl _⟩ (g_Mo_has (by omega) 4 (w32 (M 83 (M 77 n))) 0 _ (by omega) (by omega) (by simp [pieceM]; omega)) (fun r34 M35 kq36 q36 => ?_)
          clear kq36; obtain ⟨q36a, q36b⟩ := q36; subst r34; subst M35
          refine G_ps (pc' := 134) (st' := [vi (M 71 (pieceM 4 (w32 (M 83 (M 77 n))) 0))]) rfl rfl ?_
          refine G_if_ne (tgt := 138) d_Mo_fit_134 (by decide) (fun h37 => ?_) (fun h37 => G_pc (pc' := 137) rfl ?_)
          · skip
            refine G_iload (i := 6) (n := 0) (len := 2) (Or.inr ⟨rfl, d_Mo_fit_138⟩) rfl (G_pc (pc' := 140) rfl ?_)
            refine G_if_ne (tgt := 159) d_Mo_fit_140 (by decide) (fun h38 => absurd h38 (by decide)) (fun h38 => G_pc (pc' := 143) rfl ?_)
            refine G_aload (i := 0) (n := 4) (len := 1) (Or.inl ⟨0, rfl, rfl, d_Mo_fit_143⟩) rfl (by decide) (G_pc (pc' := 144) rfl ?_)
            refine G_aload (i := 0) (n := 4) (len := 1) (Or.inl ⟨0, rfl, rfl, d_Mo_fit_144⟩) rfl (by decide) (G_pc (pc' := 145) rfl ?_)
            refine G_get (o := 55) (c := 9) (k := 6) (v := 60) d_Mo_fit_145 fl_Mo_23 rfl (by decide) (by decide) rfl rfl (G_pc (pc' := 148) rfl ?_)
            refine G_lload (i := 2) (n := 3) (len := 1) (Or.inl ⟨2, rfl, rfl, d_Mo_fit_148⟩) rfl (G_pc (pc' := 149) rfl ?_)
            refine G_l2i d_Mo_fit_149 (G_pc (pc' := 150) rfl ?_)
            have hqk1 := hqk (w32 (M 83 (M 77 n))) (by omega) (by omega)
            refine G_iaload (o := 60) (n := 13) (i := w32 (M 83 (M 77 n))) (v := M 60 (w32 (M 83 (M 77 n)))) d_Mo_fit_150 rfl ⟨by decide, by decide⟩ (by omega) (rd_arr rfl) (fun t39 => G_pc (pc' := 151) rfl ?_)
            have t39 := tok_i t39
            refine G_iload (i := 5) (n := 1) (len := 2) (Or.inr ⟨rfl, d_Mo_fit_151⟩) rfl (G_pc (pc' := 153) rfl ?_)
            refine G_callV (K1 := KE) (d2 := 1) (o := 55) (cl := 9) (as := [vi (M 60 (w32 (M 83 (M 77 n)))), vi tk]) (rest := []) d_Mo_fit_153 mf_Mo_suits ml_Mo_120 rfl rfl (by decide) rfl rfl (Nat.le_of_ble_eq_true rfl) (by omega) ⟨Nat.le_refl _, Nat.le_refl _⟩ (g_Mo_suits (by omega) (M 60 (w32 (M 83 (M 77 n)))) tk _ hP (by omega) (by omega)) (fun r40 M41 kq42 q42 => ?_)
            clear kq42; obtain ⟨q42a, q42b⟩ := q42; subst r40; subst M41
            refine G_ps (pc' := 156) (st' := [vi (b2i (suitsB M (M 60 (w32 (M 83 (M 77 n)))) tk))]) rfl rfl ?_
            refine G_if_eq (tgt := 163) d_Mo_fit_156 (by decide) (fun h43 => ?_) (fun h43 => G_pc (pc' := 159) rfl ?_)
            · skip
              replace h43 := b2i_0.mp h43
              refine G_iconst (n := 0) d_Mo_fit_163 (by decide) (G_pc (pc' := 164) rfl ?_)
              refine G_istore (i := 7) (len := 2) (ls' := [(7, vi 0), (6, vi 0), (5, vi tk), (4, vi (M 81 (M 77 n))), (2, vl (M 83 (M 77 n))), (0, vr 55), (1, vi n)]) (Or.inr ⟨rfl, d_Mo_fit_164⟩) (by decide) rfl (G_pc (pc' := 166) rfl ?_)
              refine G_aload (i := 0) (n := 5) (len := 1) (Or.inl ⟨0, rfl, rfl, d_Mo_fit_166⟩) rfl (by decide) (G_pc (pc' := 167) rfl ?_)
              refine G_get (o := 55) (c := 9) (k := 29) (v := 76) d_Mo_fit_167 fl_Mo_72 rfl (by decide) (by decide) rfl rfl (G_pc (pc' := 170) rfl ?_)
              refine G_iload (i := 1) (n := 6) (len := 1) (Or.inl ⟨1, rfl, rfl, d_Mo_fit_170⟩) rfl (G_pc (pc' := 171) rfl ?_)
              refine G_iaload (o := 76) (n := 32) (i := n) (v := M 76 n) d_Mo_fit_171 rfl ⟨by decide, by decide⟩ (by omega) (rd_arr rfl) (fun t44 => G_pc (pc' := 172) rfl ?_)
              have t44 := tok_i t44
              refine G_bipush (n := 63) d_Mo_fit_172 (by decide) (G_pc (pc' := 174) rfl ?_)
              refine G_icmp_ne (tgt := 201) d_Mo_fit_174 (by decide) (fun h45 => ?_) (fun h45 => G_pc (pc' := 177) rfl ?_)
              · skip
                refine G_iload (i := 7) (n := 0) (len := 2) (Or.inr ⟨rfl, d_Mo_fit_201⟩) rfl (G_pc (pc' := 203) rfl ?_)
                refine G_if_eq (tgt := 215) d_Mo_fit_203 (by decide) (fun h46 => ?_) (fun h46 => absurd h46 (by decide))
                refine G_aload (i := 0) (n := 5) (len := 1) (Or.inl ⟨0, rfl, rfl, d_Mo_fit_215⟩) rfl (by decide) (G_pc (pc' := 216) rfl ?_)
                refine G_iconst (n := 4) d_Mo_fit_216 (by decide) (G_pc (pc' := 217) rfl ?_)
                refine G_putL (o := 55) (c := 9) (k := 46) (ki := 46) (x := 4) d_Mo_fit_217 fl_Mo_280 rfl rfl (by decide) (by decide) (by decide) rfl rfl (tokI (by decide)) rfl (G_pc (pc' := 220) rfl ?_)
                refine G_vret d_Mo_fit_220 rfl rfl ?_
                refine ⟨rfl, ?_⟩; exact cmp_th (by unfold fitF; rw [htk]; first | grind [b2i] | grind [needF]) (by decide)
              · skip
                refine G_aload (i := 0) (n := 5) (len := 1) (Or.inl ⟨0, rfl, rfl, d_Mo_fit_177⟩) rfl (by decide) (G_pc (pc' := 178) rfl ?_)
                refine G_iload (i := 1) (n := 6) (len := 1) (Or.inl ⟨1, rfl, rfl, d_Mo_fit_178⟩) rfl (G_pc (pc' := 179) rfl ?_)
                refine G_lload (i := 2) (n := 4) (len := 1) (Or.inl ⟨2, rfl, rfl, d_Mo_fit_179⟩) rfl (G_pc (pc' := 180) rfl ?_)
                refine G_lconst0 d_Mo_fit_180 (G_pc (pc' := 181) rfl ?_)
                refine G_lcmp_eq (tgt := 194) d_Mo_fit_181 d_Mo_fit_182 (by decide) (fun h47 => ?_) (fun h47 => G_pc (pc' := 185) rfl ?_)
                · skip
                  refine G_lconst0 d_Mo_fit_194 (G_pc (pc' := 195) rfl ?_)
                  refine G_callV (K1 := KE) (d2 := 0) (o := 55) (cl := 9) (as := [vi n, vl 0]) (rest := []) d_Mo_fit_195 mf_Mo_set ml_Mo_289 rfl rfl (by decide) rfl rfl (Nat.le_of_ble_eq_true rfl) (by omega) ⟨Nat.le_refl _, Nat.le_refl _⟩ (g_Mo_set (by omega) n 0 _ (by omega)) (fun r48 M49 kq50 q50 => ?_)
                  clear kq50; obtain ⟨q50a, q50b⟩ := q50; subst r48; subst M49
                  refine G_ps (pc' := 198) (st' := []) rfl rfl ?_
                  refine G_goto (tgt := 220) d_Mo_fit_198 (by decide) ?_
                  refine G_vret d_Mo_fit_220 rfl rfl ?_
                  refine ⟨rfl, ?_⟩; exact cmp_vh (by unfold fitF; rw [htk]; first | grind [b2i] | grind [needF])
                · skip
                  refine G_iload (i := 7) (n := 0) (len := 2) (Or.inr ⟨rfl, d_Mo_fit_185⟩) rfl (G_pc (pc' := 187) rfl ?_)
                  refine G_if_eq (tgt := 194) d_Mo_fit_187 (by decide) (fun h51 => ?_) (fun h51 => absurd h51 (by decide))
                  refine G_lconst0 d_Mo_fit_194 (G_pc (pc' := 195) rfl ?_)
                  refine G_callV (K1 := KE) (d2 := 0) (o := 55) (cl := 9) (as := [vi n, vl 0]) (rest := []) d_Mo_fit_195 mf_Mo_set ml_Mo_289 rfl rfl (by decide) rfl rfl (Nat.le_of_ble_eq_true rfl) (by omega) ⟨Nat.le_refl _, Nat.le_refl _⟩ (g_Mo_set (by omega) n 0 _ (by omega)) (fun r52 M53 kq54 q54 => ?_)
                  clear kq54; obtain ⟨q54a, q54b⟩ := q54; subst r52; subst M53
                  refine G_ps (pc' := 198) (st' := []) rfl rfl ?_
                  refine G_goto (tgt := 220) d_Mo_fit_198 (by decide) ?_
                  refine G_vret d_Mo_fit_220 rfl rfl ?_
                  refine ⟨rfl, ?_⟩; exact cmp_vh (by unfold fitF; rw [htk]; first | grind [b2i] | grind [needF])
            · skip
              replace h43 := b2i_nz.mp h43
              refine G_iconst (n := 1) d_Mo_fit_159 (by decide) (G_pc (pc' := 160) rfl ?_)
              refine G_goto (tgt := 164) d_Mo_fit_160 (by decide) ?_
              refine G_istore (i := 7) (len := 2) (ls' := [(7, vi 1), (6, vi 0), (5, vi tk), (4, vi (M 81 (M 77 n))), (2, vl (M 83 (M 77 n))), (0, vr 55), (1, vi n)]) (Or.inr ⟨rfl, d_Mo_fit_164⟩) (by decide) rfl (G_pc (pc' := 166) rfl ?_)
              refine G_aload (i := 0) (n := 5) (len := 1) (Or.inl ⟨0, rfl, rfl, d_Mo_fit_166⟩) rfl (by decide) (G_pc (pc' := 167) rfl ?_)
              refine G_get (o := 55) (c := 9) (k := 29) (v := 76) d_Mo_fit_167 fl_Mo_72 rfl (by decide) (by decide) rfl rfl (G_pc (pc' := 170) rfl ?_)
              refine G_iload (i := 1) (n := 6) (len := 1) (Or.inl ⟨1, rfl, rfl, d_Mo_fit_170⟩) rfl (G_pc (pc' := 171) rfl ?_)
              refine G_iaload (o := 76) (n := 32) (i := n) (v := M 76 n) d_Mo_fit_171 rfl ⟨by decide, by decide⟩ (by omega) (rd_arr rfl) (fun t55 => G_pc (pc' := 172) rfl ?_)
              have t55 := tok_i t55
              refine G_bipush (n := 63) d_Mo_fit_172 (by decide) (G_pc (pc' := 174) rfl ?_)
              refine G_icmp_ne (tgt := 201) d_Mo_fit_174 (by decide) (fun h56 => ?_) (fun h56 => G_pc (pc' := 177) rfl ?_)
              · skip
                refine G_iload (i := 7) (n := 0) (len := 2) (Or.inr ⟨rfl, d_Mo_fit_201⟩) rfl (G_pc (pc' := 203) rfl ?_)
                refine G_if_eq (tgt := 215) d_Mo_fit_203 (by decide) (fun h57 => absurd h57 (by decide)) (fun h57 => G_pc (pc' := 206) rfl ?_)
                refine G_aload (i := 0) (n := 5) (len := 1) (Or.inl ⟨0, rfl, rfl, d_Mo_fit_206⟩) rfl (by decide) (G_pc (pc' := 207) rfl ?_)
                refine G_iload (i := 1) (n := 6) (len := 1) (Or.inl ⟨1, rfl, rfl, d_Mo_fit_207⟩) rfl (G_pc (pc' := 208) rfl ?_)
                refine G_lload (i := 2) (n := 4) (len := 1) (Or.inl ⟨2, rfl, rfl, d_Mo_fit_208⟩) rfl (G_pc (pc' := 209) rfl ?_)
                refine G_callV (K1 := KE) (d2 := 0) (o := 55) (cl := 9) (as := [vi n, vl (M 83 (M 77 n))]) (rest := []) d_Mo_fit_209 mf_Mo_set ml_Mo_289 rfl rfl (by decide) rfl rfl (Nat.le_of_ble_eq_true rfl) (by omega) ⟨Nat.le_refl _, Nat.le_refl _⟩ (g_Mo_set (by omega) n (M 83 (M 77 n)) _ (by omega)) (fun r58 M59 kq60 q60 => ?_)
                clear kq60; obtain ⟨q60a, q60b⟩ := q60; subst r58; subst M59
                refine G_ps (pc' := 212) (st' := []) rfl rfl ?_
                refine G_goto (tgt := 220) d_Mo_fit_212 (by decide) ?_
                refine G_vret d_Mo_fit_220 rfl rfl ?_
                refine ⟨rfl, ?_⟩; exact cmp_vh (by unfold fitF; rw [htk]; first | grind [b2i] | grind [needF])
              · skip
                refine G_aload (i := 0) (n := 5) (len := 1) (Or.inl ⟨0, rfl, rfl, d_Mo_fit_177⟩) rfl (by decide) (G_pc (pc' := 178) rfl ?_)
                refine G_iload (i := 1) (n := 6) (len := 1) (Or.inl ⟨1, rfl, rfl, d_Mo_fit_178⟩) rfl (G_pc (pc' := 179) rfl ?_)
                refine G_lload (i := 2) (n := 4) (len := 1) (Or.inl ⟨2, rfl, rfl, d_Mo_fit_179⟩) rfl (G_pc (pc' := 180) rfl ?_)
                refine G_lconst0 d_Mo_fit_180 (G_pc (pc' := 181) rfl ?_)
                refine G_lcmp_eq (tgt := 194) d_Mo_fit_181 d_Mo_fit_182 (by decide) (fun h61 => ?_) (fun h61 => G_pc (pc' := 185) rfl ?_)
                · skip
                  refine G_lconst0 d_Mo_fit_194 (G_pc (pc' := 195) rfl ?_)
                  refine G_callV (K1 := KE) (d2 := 0) (o := 55) (cl := 9) (as := [vi n, vl 0]) (rest := []) d_Mo_fit_195 mf_Mo_set ml_Mo_289 rfl rfl (by decide) rfl rfl (Nat.le_of_ble_eq_true rfl) (by omega) ⟨Nat.le_refl _, Nat.le_refl _⟩ (g_Mo_set (by omega) n 0 _ (by omega)) (fun r62 M63 kq64 q64 => ?_)
                  clear kq64; obtain ⟨q64a, q64b⟩ := q64; subst r62; subst M63
                  refine G_ps (pc' := 198) (st' := []) rfl rfl ?_
                  refine G_goto (tgt := 220) d_Mo_fit_198 (by decide) ?_
                  refine G_vret d_Mo_fit_220 rfl rfl ?_
                  refine ⟨rfl, ?_⟩; exact cmp_vh (by unfold fitF; rw [htk]; first | grind [b2i] | grind [needF])
                · skip
                  refine G_iload (i := 7) (n := 0) (len := 2) (Or.inr ⟨rfl, d_Mo_fit_185⟩) rfl (G_pc (pc' := 187) rfl ?_)
                  refine G_if_eq (tgt := 194) d_Mo_fit_187 (by decide) (fun h65 => absurd h65 (by decide)) (fun h65 => G_pc (pc' := 190) rfl ?_)
                  refine G_lconst1 d_Mo_fit_190 (G_pc (pc' := 191) rfl ?_)
                  refine G_goto (tgt := 195) d_Mo_fit_191 (by decide) ?_
                  refine G_callV (K1 := KE) (d2 := 0) (o := 55) (cl := 9) (as := [vi n, vl 1]) (rest := []) d_Mo_fit_195 mf_Mo_set ml_Mo_289 rfl rfl (by decide) rfl rfl (Nat.le_of_ble_eq_true rfl) (by omega) ⟨Nat.le_refl _, Nat.le_refl _⟩ (g_Mo_set (by omega) n 1 _ (by omega)) (fun r66 M67 kq68 q68 => ?_)
                  clear kq68; obtain ⟨q68a, q68b⟩ := q68; subst r66; subst M67
                  refine G_ps (pc' := 198) (st' := []) rfl rfl ?_
                  refine G_goto (tgt := 220) d_Mo_fit_198 (by decide) ?_
                  refine G_vret d_Mo_fit_220 rfl rfl ?_
                  refine ⟨rfl, ?_⟩; exact cmp_vh (by unfold fitF; rw [htk]; first | grind [b2i] | grind [needF])
          · skip
            refine G_vret d_Mo_fit_137 rfl rfl ?_
            refine ⟨rfl, ?_⟩; exact cmp_p (by unfold fitF; rw [htk]; first | grind [b2i] | grind [needF]) (by omega) (by simp [pieceM]; omega)
        · skip
          replace h32 := b2i_nz.mp h32
          refine G_iconst (n := 1) d_Mo_fit_114 (by decide) (G_pc (pc' := 115) rfl ?_)
          refine G_goto (tgt := 119) d_Mo_fit_115 (by decide) ?_
          refine G_istore (i := 6) (len := 2) (ls' := [(6, vi 1), (5, vi tk), (4, vi (M 81 (M 77 n))), (2, vl (M 83 (M 77 n))), (0, vr 55), (1, vi n)]) (Or.inr ⟨rfl, d_Mo_fit_119⟩) (by decide) rfl (G_pc (pc' := 121) rfl ?_)
          refine G_iload (i := 6) (n := 0) (len := 2) (Or.inr ⟨rfl, d_Mo_fit_121⟩) rfl (G_pc (pc' := 123) rfl ?_)
          refine G_if_ne (tgt := 138) d_Mo_fit_123 (by decide) (fun h69 => ?_) (fun h69 => absurd h69 (by decide))
          refine G_iload (i := 6) (n := 0) (len := 2) (Or.inr ⟨rfl, d_Mo_fit_138⟩) rfl (G_pc (pc' := 140) rfl ?_)
          refine G_if_ne (tgt := 159) d_Mo_fit_140 (by decide) (fun h70 => ?_) (fun h70 => absurd h70 (by decide))
          refine G_iconst (n := 1) d_Mo_fit_159 (by decide) (G_pc (pc' := 160) rfl ?_)
          refine G_goto (tgt := 164) d_Mo_fit_160 (by decide) ?_
          refine G_istore (i := 7) (len := 2) (ls' := [(7, vi 1), (6, vi 1), (5, vi tk), (4, vi (M 81 (M 77 n))), (2, vl (M 83 (M 77 n))), (0, vr 55), (1, vi n)]) (Or.inr ⟨rfl, d_Mo_fit_164⟩) (by decide) rfl (G_pc (pc' := 166) rfl ?_)
          refine G_aload (i := 0) (n := 5) (len := 1) (Or.inl ⟨0, rfl, rfl, d_Mo_fit_166⟩) rfl (by decide) (G_pc (pc' := 167) rfl ?_)
          refine G_get (o := 55) (c := 9) (k := 29) (v := 76) d_Mo_fit_167 fl_Mo_72 rfl (by decide) (by decide) rfl rfl (G_pc (pc' := 170) rfl ?_)
          refine G_iload (i := 1) (n := 6) (len := 1) (Or.inl ⟨1, rfl, rfl, d_Mo_fit_170⟩) rfl (G_pc (pc' := 171) rfl ?_)
          refine G_iaload (o := 76) (n := 32) (i := n) (v := M 76 n) d_Mo_fit_171 rfl ⟨by decide, by decide⟩ (by omega) (rd_arr rfl) (fun t71 => G_pc (pc' := 172) rfl ?_)
          have t71 := tok_i t71
          refine G_bipush (n := 63) d_Mo_fit_172 (by decide) (G_pc (pc' := 174) rfl ?_)
          refine G_icmp_ne (tgt := 201) d_Mo_fit_174 (by decide) (fun h72 => ?_) (fun h72 => G_pc (pc' := 177) rfl ?_)
          · skip
            refine G_iload (i := 7) (n := 0) (len := 2) (Or.inr ⟨rfl, d_Mo_fit_201⟩) rfl (G_pc (pc' := 203) rfl ?_)
            refine G_if_eq (tgt := 215) d_Mo_fit_203 (by decide) (fun h73 => absurd h73 (by decide)) (fun h73 => G_pc (pc' := 206) rfl ?_)
            refine G_aload (i := 0) (n := 5) (len := 1) (Or.inl ⟨0, rfl, rfl, d_Mo_fit_206⟩) rfl (by decide) (G_pc (pc' := 207) rfl ?_)
            refine G_iload (i := 1) (n := 6) (len := 1) (Or.inl ⟨1, rfl, rfl, d_Mo_fit_207⟩) rfl (G_pc (pc' := 208) rfl ?_)
            refine G_lload (i := 2) (n := 4) (len := 1) (Or.inl ⟨2, rfl, rfl, d_Mo_fit_208⟩) rfl (G_pc (pc' := 209) rfl ?_)
            refine G_callV (K1 := KE) (d2 := 0) (o := 55) (cl := 9) (as := [vi n, vl (M 83 (M 77 n))]) (rest := []) d_Mo_fit_209 mf_Mo_set ml_Mo_289 rfl rfl (by decide) rfl rfl (Nat.le_of_ble_eq_true rfl) (by omega) ⟨Nat.le_refl _, Nat.le_refl _⟩ (g_Mo_set (by omega) n (M 83 (M 77 n)) _ (by omega)) (fun r74 M75 kq76 q76 => ?_)
            clear kq76; obtain ⟨q76a, q76b⟩ := q76; subst r74; subst M75
            refine G_ps (pc' := 212) (st' := []) rfl rfl ?_
            refine G_goto (tgt := 220) d_Mo_fit_212 (by decide) ?_
            refine G_vret d_Mo_fit_220 rfl rfl ?_
            refine ⟨rfl, ?_⟩; exact cmp_v (by unfold fitF; rw [htk]; first | grind [b2i] | grind [needF])
          · skip
            refine G_aload (i := 0) (n := 5) (len := 1) (Or.inl ⟨0, rfl, rfl, d_Mo_fit_177⟩) rfl (by decide) (G_pc (pc' := 178) rfl ?_)
            refine G_iload (i := 1) (n := 6) (len := 1) (Or.inl ⟨1, rfl, rfl, d_Mo_fit_178⟩) rfl (G_pc (pc' := 179) rfl ?_)
            refine G_lload (i := 2) (n := 4) (len := 1) (Or.inl ⟨2, rfl, rfl, d_Mo_fit_179⟩) rfl (G_pc (pc' := 180) rfl ?_)
            refine G_lconst0 d_Mo_fit_180 (G_pc (pc' := 181) rfl ?_)
            refine G_lcmp_eq (tgt := 194) d_Mo_fit_181 d_Mo_fit_182 (by decide) (fun h77 => ?_) (fun h77 => G_pc (pc' := 185) rfl ?_)
            · skip
              refine G_lconst0 d_Mo_fit_194 (G_pc (pc' := 195) rfl ?_)
              refine G_callV (K1 := KE) (d2 := 0) (o := 55) (cl := 9) (as := [vi n, vl 0]) (rest := []) d_Mo_fit_195 mf_Mo_set ml_Mo_289 rfl rfl (by decide) rfl rfl (Nat.le_of_ble_eq_true rfl) (by omega) ⟨Nat.le_refl _, Nat.le_refl _⟩ (g_Mo_set (by omega) n 0 _ (by omega)) (fun r78 M79 kq80 q80 => ?_)
              clear kq80; obtain ⟨q80a, q80b⟩ := q80; subst r78; subst M79
              refine G_ps (pc' := 198) (st' := []) rfl rfl ?_
              refine G_goto (tgt := 220) d_Mo_fit_198 (by decide) ?_
              refine G_vret d_Mo_fit_220 rfl rfl ?_
              refine ⟨rfl, ?_⟩; exact cmp_v (by unfold fitF; rw [htk]; first | grind [b2i] | grind [needF])
            · skip
              refine G_iload (i := 7) (n := 0) (len := 2) (Or.inr ⟨rfl, d_Mo_fit_185⟩) rfl (G_pc (pc' := 187) rfl ?_)
              refine G_if_eq (tgt := 194) d_Mo_fit_187 (by decide) (fun h81 => absurd h81 (by decide)) (fun h81 => G_pc (pc' := 190) rfl ?_)
              refine G_lconst1 d_Mo_fit_190 (G_pc (pc' := 191) rfl ?_)
              refine G_goto (tgt := 195) d_Mo_fit_191 (by decide) ?_
              refine G_callV (K1 := KE) (d2 := 0) (o := 55) (cl := 9) (as := [vi n, vl 1]) (rest := []) d_Mo_fit_195 mf_Mo_set ml_Mo_289 rfl rfl (by decide) rfl rfl (Nat.le_of_ble_eq_true rfl) (by omega) ⟨Nat.le_refl _, Nat.le_refl _⟩ (g_Mo_set (by omega) n 1 _ (by omega)) (fun r82 M83 kq84 q84 => ?_)
              clear kq84; obtain ⟨q84a, q84b⟩ := q84; subst r82; subst M83
              refine G_ps (pc' := 198) (st' := []) rfl rfl ?_
              refine G_goto (tgt := 220) d_Mo_fit_198 (by decide) ?_
              refine G_vret d_Mo_fit_220 rfl rfl ?_
              refine ⟨rfl, ?_⟩; exact cmp_v (by unfold fitF; rw [htk]; first | grind [b2i] | grind [needF])
    · skip
      replace h11 := b2i_0.mp h11
      replace h11 := refB_f.mp h11
      refine G_aload (i := 0) (n := 3) (len := 1) (Or.inl ⟨0, rfl, rfl, d_Mo_fit_65⟩) rfl (by decide) (G_pc (pc' := 66) rfl ?_)
      refine G_iload (i := 1) (n := 4) (len := 1) (Or.inl ⟨1, rfl, rfl, d_Mo_fit_66⟩) rfl (G_pc (pc' := 67) rfl ?_)
      refine G_iload (i := 5) (n := 0) (len := 2) (Or.inr ⟨rfl, d_Mo_fit_67⟩) rfl (G_pc (pc' := 69) rfl ?_)
      refine G_iconst (n := 2) d_Mo_fit_69 (by decide) (G_pc (pc' := 70) rfl ?_)
      refine G_icmp_ne (tgt := 81) d_Mo_fit_70 (by decide) (fun h85 => ?_) (fun h85 => G_pc (pc' := 73) rfl ?_)
      · skip
        refine G_iload (i := 5) (n := 0) (len := 2) (Or.inr ⟨rfl, d_Mo_fit_81⟩) rfl (G_pc (pc' := 83) rfl ?_)
        refine G_if_ne (tgt := 92) d_Mo_fit_83 (by decide) (fun h86 => ?_) (fun h86 => G_pc (pc' := 86) rfl ?_)
        · skip
          refine G_lload (i := 2) (n := 2) (len := 1) (Or.inl ⟨2, rfl, rfl, d_Mo_fit_92⟩) rfl (G_pc (pc' := 93) rfl ?_)
          refine G_callV (K1 := KE) (d2 := 0) (o := 55) (cl := 9) (as := [vi n, vl (M 83 (M 77 n))]) (rest := []) d_Mo_fit_93 mf_Mo_set ml_Mo_289 rfl rfl (by decide) rfl rfl (Nat.le_of_ble_eq_true rfl) (by omega) ⟨Nat.le_refl _, Nat.le_refl _⟩ (g_Mo_set (by omega) n (M 83 (M 77 n)) _ (by omega)) (fun r87 M88 kq89 q89 => ?_)
          clear kq89; obtain ⟨q89a, q89b⟩ := q89; subst r87; subst M88
          refine G_ps (pc' := 96) (st' := []) rfl rfl ?_
          refine G_vret d_Mo_fit_96 rfl rfl ?_
          refine ⟨rfl, ?_⟩; exact cmp_v (by unfold fitF; rw [htk]; first | grind [b2i] | grind [needF])
        · skip
          refine G_lload (i := 2) (n := 2) (len := 1) (Or.inl ⟨2, rfl, rfl, d_Mo_fit_86⟩) rfl (G_pc (pc' := 87) rfl ?_)
          refine G_l2i d_Mo_fit_87 (G_pc (pc' := 88) rfl ?_)
          refine G_i2l d_Mo_fit_88 (G_pc (pc' := 89) rfl ?_)
          refine G_goto (tgt := 93) d_Mo_fit_89 (by decide) ?_
          refine G_callV (K1 := KE) (d2 := 0) (o := 55) (cl := 9) (as := [vi n, vl (w32 (M 83 (M 77 n)))]) (rest := []) d_Mo_fit_93 mf_Mo_set ml_Mo_289 rfl rfl (by decide) rfl rfl (Nat.le_of_ble_eq_true rfl) (by omega) ⟨Nat.le_refl _, Nat.le_refl _⟩ (g_Mo_set (by omega) n (w32 (M 83 (M 77 n))) _ (by omega)) (fun r90 M91 kq92 q92 => ?_)
          clear kq92; obtain ⟨q92a, q92b⟩ := q92; subst r90; subst M91
          refine G_ps (pc' := 96) (st' := []) rfl rfl ?_
          refine G_vret d_Mo_fit_96 rfl rfl ?_
          refine ⟨rfl, ?_⟩; exact cmp_v (by unfold fitF; rw [htk]; first | grind [b2i] | grind [needF])
      · skip
        refine G_lload (i := 2) (n := 2) (len := 1) (Or.inl ⟨2, rfl, rfl, d_Mo_fit_73⟩) rfl (G_pc (pc' := 74) rfl ?_)
        refine G_ldc2 (x := 65535) d_Mo_fit_74 k2_Mo_136 (by decide) (G_pc (pc' := 77) rfl ?_)
        refine G_land d_Mo_fit_77 (G_pc (pc' := 78) rfl ?_)
        refine G_goto (tgt := 93) d_Mo_fit_78 (by decide) ?_
        refine G_callV (K1 := KE) (d2 := 0) (o := 55) (cl := 9) (as := [vi n, vl (o_land (M 83 (M 77 n)) 65535)]) (rest := []) d_Mo_fit_93 mf_Mo_set ml_Mo_289 rfl rfl (by decide) rfl rfl (Nat.le_of_ble_eq_true rfl) (by omega) ⟨Nat.le_refl _, Nat.le_refl _⟩ (g_Mo_set (by omega) n (o_land (M 83 (M 77 n)) 65535) _ (by omega)) (fun r93 M94 kq95 q95 => ?_)
        clear kq95; obtain ⟨q95a, q95b⟩ := q95; subst r93; subst M94
        refine G_ps (pc' := 96) (st' := []) rfl rfl ?_
        refine G_vret d_Mo_fit_96 rfl rfl ?_
        refine ⟨rfl, ?_⟩; exact cmp_v (by unfold fitF; rw [htk]; first | grind [b2i] | grind [needF])
  · skip
    refine G_iconst (n := 4) d_Mo_fit_36 (by decide) (G_pc (pc' := 37) rfl ?_)
    refine G_aload (i := 0) (n := 2) (len := 1) (Or.inl ⟨0, rfl, rfl, d_Mo_fit_37⟩) rfl (by decide) (G_pc (pc' := 38) rfl ?_)
    refine G_get (o := 55) (c := 9) (k := 33) (v := 80) d_Mo_fit_38 fl_Mo_84 rfl (by decide) (by decide) rfl rfl (G_pc (pc' := 41) rfl ?_)
    refine G_iload (i := 1) (n := 3) (len := 1) (Or.inl ⟨1, rfl, rfl, d_Mo_fit_41⟩) rfl (G_pc (pc' := 42) rfl ?_)
    refine G_laload (o := 80) (n := 32) (i := n) (v := M 80 n) d_Mo_fit_42 rfl ⟨by decide, by decide⟩ (by omega) (rd_arr rfl) (fun t96 => G_pc (pc' := 43) rfl ?_)
    have t96 := tok_l t96
    refine G_l2i d_Mo_fit_43 (G_pc (pc' := 44) rfl ?_)
    refine G_iadd d_Mo_fit_44 (by omega) (G_pc (pc' := 45) rfl ?_)
    refine G_goto (tgt := 55) d_Mo_fit_45 (by decide) ?_
    refine G_ps (pc' := 55) (st' := [vi tk]) rfl (by rw [← htk]; unfold toK; first | rw [if_pos (by omega)] | rw [if_neg (by omega)]) ?_
    refine G_istore (i := 5) (len := 2) (ls' := [(5, vi tk), (4, vi (M 81 (M 77 n))), (2, vl (M 83 (M 77 n))), (0, vr 55), (1, vi n)]) (Or.inr ⟨rfl, d_Mo_fit_55⟩) (by decide) rfl (G_pc (pc' := 57) rfl ?_)
    refine G_iload (i := 5) (n := 0) (len := 2) (Or.inr ⟨rfl, d_Mo_fit_57⟩) rfl (G_pc (pc' := 59) rfl ?_)
    refine G_callS (K1 := KE) (d2 := 0) (as := [vi tk]) (rest := []) d_Mo_fit_59 mf_Mo_reference ml_Mo_113 rfl rfl (Nat.le_of_ble_eq_true rfl) (by omega) ⟨Nat.le_refl _, Nat.le_refl _⟩ (g_Mo_reference (by omega) tk _) (fun r97 M98 kq99 q99 => ?_)
    clear kq99; obtain ⟨q99a, q99b⟩ := q99; subst r97; subst M98
    refine G_ps (pc' := 62) (st' := [vi (b2i (refB tk))]) rfl rfl ?_
    refine G_if_ne (tgt := 97) d_Mo_fit_62 (by decide) (fun h100 => ?_) (fun h100 => G_pc (pc' := 65) rfl ?_)
    · skip
      replace h100 := b2i_nz.mp h100
      replace h100 := refB_t.mp h100
      have hqx1 := hqx (by omega)
      refine G_lload (i := 2) (n := 2) (len := 1) (Or.inl ⟨2, rfl, rfl, d_Mo_fit_97⟩) rfl (G_pc (pc' := 98) rfl ?_)
      refine G_lconst0 d_Mo_fit_98 (G_pc (pc' := 99) rfl ?_)
      refine G_lcmp_eq (tgt := 114) d_Mo_fit_99 d_Mo_fit_100 (by decide) (fun h101 => ?_) (fun h101 => G_pc (pc' := 103) rfl ?_)
      · skip
        refine G_iconst (n := 1) d_Mo_fit_114 (by decide) (G_pc (pc' := 115) rfl ?_)
        refine G_goto (tgt := 119) d_Mo_fit_115 (by decide) ?_
        refine G_istore (i := 6) (len := 2) (ls' := [(6, vi 1), (5, vi tk), (4, vi (M 81 (M 77 n))), (2, vl (M 83 (M 77 n))), (0, vr 55), (1, vi n)]) (Or.inr ⟨rfl, d_Mo_fit_119⟩) (by decide) rfl (G_pc (pc' := 121) rfl ?_)
        refine G_iload (i := 6) (n := 0) (len := 2) (Or.inr ⟨rfl, d_Mo_fit_121⟩) rfl (G_pc (pc' := 123) rfl ?_)
        refine G_if_ne (tgt := 138) d_Mo_fit_123 (by decide) (fun h102 => ?_) (fun h102 => absurd h102 (by decide))
        refine G_iload (i := 6) (n := 0) (len := 2) (Or.inr ⟨rfl, d_Mo_fit_138⟩) rfl (G_pc (pc' := 140) rfl ?_)
        refine G_if_ne (tgt := 159) d_Mo_fit_140 (by decide) (fun h103 => ?_) (fun h103 => absurd h103 (by decide))
        refine G_iconst (n := 1) d_Mo_fit_159 (by decide) (G_pc (pc' := 160) rfl ?_)
        refine G_goto (tgt := 164) d_Mo_fit_160 (by decide) ?_
        refine G_istore (i := 7) (len := 2) (ls' := [(7, vi 1), (6, vi 1), (5, vi tk), (4, vi (M 81 (M 77 n))), (2, vl (M 83 (M 77 n))), (0, vr 55), (1, vi n)]) (Or.inr ⟨rfl, d_Mo_fit_164⟩) (by decide) rfl (G_pc (pc' := 166) rfl ?_)
        refine G_aload (i := 0) (n := 5) (len := 1) (Or.inl ⟨0, rfl, rfl, d_Mo_fit_166⟩) rfl (by decide) (G_pc (pc' := 167) rfl ?_)
        refine G_get (o := 55) (c := 9) (k := 29) (v := 76) d_Mo_fit_167 fl_Mo_72 rfl (by decide) (by decide) rfl rfl (G_pc (pc' := 170) rfl ?_)
        refine G_iload (i := 1) (n := 6) (len := 1) (Or.inl ⟨1, rfl, rfl, d_Mo_fit_170⟩) rfl (G_pc (pc' := 171) rfl ?_)
        refine G_iaload (o := 76) (n := 32) (i := n) (v := M 76 n) d_Mo_fit_171 rfl ⟨by decide, by decide⟩ (by omega) (rd_arr rfl) (fun t104 => G_pc (pc' := 172) rfl ?_)
        have t104 := tok_i t104
        refine G_bipush (n := 63) d_Mo_fit_172 (by decide) (G_pc (pc' := 174) rfl ?_)
        refine G_icmp_ne (tgt := 201) d_Mo_fit_174 (by decide) (fun h105 => ?_) (fun h105 => G_pc (pc' := 177) rfl ?_)
        · skip
          refine G_iload (i := 7) (n := 0) (len := 2) (Or.inr ⟨rfl, d_Mo_fit_201⟩) rfl (G_pc (pc' := 203) rfl ?_)
          refine G_if_eq (tgt := 215) d_Mo_fit_203 (by decide) (fun h106 => absurd h106 (by decide)) (fun h106 => G_pc (pc' := 206) rfl ?_)
          refine G_aload (i := 0) (n := 5) (len := 1) (Or.inl ⟨0, rfl, rfl, d_Mo_fit_206⟩) rfl (by decide) (G_pc (pc' := 207) rfl ?_)
          refine G_iload (i := 1) (n := 6) (len := 1) (Or.inl ⟨1, rfl, rfl, d_Mo_fit_207⟩) rfl (G_pc (pc' := 208) rfl ?_)
          refine G_lload (i := 2) (n := 4) (len := 1) (Or.inl ⟨2, rfl, rfl, d_Mo_fit_208⟩) rfl (G_pc (pc' := 209) rfl ?_)
          refine G_callV (K1 := KE) (d2 := 0) (o := 55) (cl := 9) (as := [vi n, vl (M 83 (M 77 n))]) (rest := []) d_Mo_fit_209 mf_Mo_set ml_Mo_289 rfl rfl (by decide) rfl rfl (Nat.le_of_ble_eq_true rfl) (by omega) ⟨Nat.le_refl _, Nat.le_refl _⟩ (g_Mo_set (by omega) n (M 83 (M 77 n)) _ (by omega)) (fun r107 M108 kq109 q109 => ?_)
          clear kq109; obtain ⟨q109a, q109b⟩ := q109; subst r107; subst M108
          refine G_ps (pc' := 212) (st' := []) rfl rfl ?_
          refine G_goto (tgt := 220) d_Mo_fit_212 (by decide) ?_
          refine G_vret d_Mo_fit_220 rfl rfl ?_
          refine ⟨rfl, ?_⟩; exact cmp_v (by unfold fitF; rw [htk]; first | grind [b2i] | grind [needF])
        · skip
          refine G_aload (i := 0) (n := 5) (len := 1) (Or.inl ⟨0, rfl, rfl, d_Mo_fit_177⟩) rfl (by decide) (G_pc (pc' := 178) rfl ?_)
          refine G_iload (i := 1) (n := 6) (len := 1) (Or.inl ⟨1, rfl, rfl, d_Mo_fit_178⟩) rfl (G_pc (pc' := 179) rfl ?_)
          refine G_lload (i := 2) (n := 4) (len := 1) (Or.inl ⟨2, rfl, rfl, d_Mo_fit_179⟩) rfl (G_pc (pc' := 180) rfl ?_)
          refine G_lconst0 d_Mo_fit_180 (G_pc (pc' := 181) rfl ?_)
          refine G_lcmp_eq (tgt := 194) d_Mo_fit_181 d_Mo_fit_182 (by decide) (fun h110 => ?_) (fun h110 => G_pc (pc' := 185) rfl ?_)
          · skip
            refine G_lconst0 d_Mo_fit_194 (G_pc (pc' := 195) rfl ?_)
            refine G_callV (K1 := KE) (d2 := 0) (o := 55) (cl := 9) (as := [vi n, vl 0]) (rest := []) d_Mo_fit_195 mf_Mo_set ml_Mo_289 rfl rfl (by decide) rfl rfl (Nat.le_of_ble_eq_true rfl) (by omega) ⟨Nat.le_refl _, Nat.le_refl _⟩ (g_Mo_set (by omega) n 0 _ (by omega)) (fun r111 M112 kq113 q113 => ?_)
            clear kq113; obtain ⟨q113a, q113b⟩ := q113; subst r111; subst M112
            refine G_ps (pc' := 198) (st' := []) rfl rfl ?_
            refine G_goto (tgt := 220) d_Mo_fit_198 (by decide) ?_
            refine G_vret d_Mo_fit_220 rfl rfl ?_
            refine ⟨rfl, ?_⟩; exact cmp_v (by unfold fitF; rw [htk]; first | grind [b2i] | grind [needF])
          · skip
            refine G_iload (i := 7) (n := 0) (len := 2) (Or.inr ⟨rfl, d_Mo_fit_185⟩) rfl (G_pc (pc' := 187) rfl ?_)
            refine G_if_eq (tgt := 194) d_Mo_fit_187 (by decide) (fun h114 => absurd h114 (by decide)) (fun h114 => G_pc (pc' := 190) rfl ?_)
            refine G_lconst1 d_Mo_fit_190 (G_pc (pc' := 191) rfl ?_)
            refine G_goto (tgt := 195) d_Mo_fit_191 (by decide) ?_
            refine G_callV (K1 := KE) (d2 := 0) (o := 55) (cl := 9) (as := [vi n, vl 1]) (rest := []) d_Mo_fit_195 mf_Mo_set ml_Mo_289 rfl rfl (by decide) rfl rfl (Nat.le_of_ble_eq_true rfl) (by omega) ⟨Nat.le_refl _, Nat.le_refl _⟩ (g_Mo_set (by omega) n 1 _ (by omega)) (fun r115 M116 kq117 q117 => ?_)
            clear kq117; obtain ⟨q117a, q117b⟩ := q117; subst r115; subst M116
            refine G_ps (pc' := 198) (st' := []) rfl rfl ?_
            refine G_goto (tgt := 220) d_Mo_fit_198 (by decide) ?_
            refine G_vret d_Mo_fit_220 rfl rfl ?_
            refine ⟨rfl, ?_⟩; exact cmp_v (by unfold fitF; rw [htk]; first | grind [b2i] | grind [needF])
      · skip
        refine G_aload (i := 0) (n := 3) (len := 1) (Or.inl ⟨0, rfl, rfl, d_Mo_fit_103⟩) rfl (by decide) (G_pc (pc' := 104) rfl ?_)
        refine G_iload (i := 4) (n := 1) (len := 2) (Or.inr ⟨rfl, d_Mo_fit_104⟩) rfl (G_pc (pc' := 106) rfl ?_)
        refine G_iload (i := 5) (n := 0) (len := 2) (Or.inr ⟨rfl, d_Mo_fit_106⟩) rfl (G_pc (pc' := 108) rfl ?_)
        refine G_callV (K1 := KE) (d2 := 1) (o := 55) (cl := 9) (as := [vi (M 81 (M 77 n)), vi tk]) (rest := []) d_Mo_fit_108 mf_Mo_suits ml_Mo_120 rfl rfl (by decide) rfl rfl (Nat.le_of_ble_eq_true rfl) (by omega) ⟨Nat.le_refl _, Nat.le_refl _⟩ (g_Mo_suits (by omega) (M 81 (M 77 n)) tk _ hP (by omega) (by omega)) (fun r118 M119 kq120 q120 => ?_)
        clear kq120; obtain ⟨q120a, q120b⟩ := q120; subst r118; subst M119
        refine G_ps (pc' := 111) (st' := [vi (b2i (suitsB M (M 81 (M 77 n)) tk))]) rfl rfl ?_
        refine G_if_eq (tgt := 118) d_Mo_fit_111 (by decide) (fun h121 => ?_) (fun h121 => G_pc (pc' := 114) rfl ?_)
        · skip
          replace h121 := b2i_0.mp h121
          refine G_iconst (n := 0) d_Mo_fit_118 (by decide) (G_pc (pc' := 119) rfl ?_)
          refine G_istore (i := 6) (len := 2) (ls' := [(6, vi 0), (5, vi tk), (4, vi (M 81 (M 77 n))), (2, vl (M 83 (M 77 n))), (0, vr 55), (1, vi n)]) (Or.inr ⟨rfl, d_Mo_fit_119⟩) (by decide) rfl (G_pc (pc' := 121) rfl ?_)
          refine G_iload (i := 6) (n := 0) (len := 2) (Or.inr ⟨rfl, d_Mo_fit_121⟩) rfl (G_pc (pc' := 123) rfl ?_)
          refine G_if_ne (tgt := 138) d_Mo_fit_123 (by decide) (fun h122 => absurd h122 (by decide)) (fun h122 => G_pc (pc' := 126) rfl ?_)
          refine G_aload (i := 0) (n := 4) (len := 1) (Or.inl ⟨0, rfl, rfl, d_Mo_fit_126⟩) rfl (by decide) (G_pc (pc' := 127) rfl ?_)
          refine G_iconst (n := 4) d_Mo_fit_127 (by decide) (G_pc (pc' := 128) rfl ?_)
          refine G_lload (i := 2) (n := 3) (len := 1) (Or.inl ⟨2, rfl, rfl, d_Mo_fit_128⟩) rfl (G_pc (pc' := 129) rfl ?_)
          refine G_l2i d_Mo_fit_129 (G_pc (pc' := 130) rfl ?_)
          refine G_iconst (n := 0) d_Mo_fit_130 (by decide) (G_pc (pc' := 131) rfl ?_)
          refine G_callV (K1 := KE) (d2 := 1) (o := 55) (cl := 9) (as := [vi 4, vi (w32 (M 83 (M 77 n))), vi 0]) (rest := []) d_Mo_fit_131 mf_Mo_has ml_Mo_292 rfl rfl (by decide) rfl rfl (Nat.le_of_ble_eq_true rfl) (by omega) ⟨Nat.le_refl _, Nat.le_refl _⟩ (g_Mo_has (by omega) 4 (w32 (M 83 (M 77 n))) 0 _ (by omega) (by omega) (by simp [pieceM]; omega)) (fun r123 M124 kq125 q125 => ?_)
          clear kq125; obtain ⟨q125a, q125b⟩ := q125; subst r123; subst M124
          refine G_ps (pc' := 134) (st' := [vi (M 71 (pieceM 4 (w32 (M 83 (M 77 n))) 0))]) rfl rfl ?_
          refine G_if_ne (tgt := 138) d_Mo_fit_134 (by decide) (fun h126 => ?_) (fun h126 => G_pc (pc' := 137) rfl ?_)
          · skip
            refine G_iload (i := 6) (n := 0) (len := 2) (Or.inr ⟨rfl, d_Mo_fit_138⟩) rfl (G_pc (pc' := 140) rfl ?_)
            refine G_if_ne (tgt := 159) d_Mo_fit_140 (by decide) (fun h127 => absurd h127 (by decide)) (fun h127 => G_pc (pc' := 143) rfl ?_)
            refine G_aload (i := 0) (n := 4) (len := 1) (Or.inl ⟨0, rfl, rfl, d_Mo_fit_143⟩) rfl (by decide) (G_pc (pc' := 144) rfl ?_)
            refine G_aload (i := 0) (n := 4) (len := 1) (Or.inl ⟨0, rfl, rfl, d_Mo_fit_144⟩) rfl (by decide) (G_pc (pc' := 145) rfl ?_)
            refine G_get (o := 55) (c := 9) (k := 6) (v := 60) d_Mo_fit_145 fl_Mo_23 rfl (by decide) (by decide) rfl rfl (G_pc (pc' := 148) rfl ?_)
            refine G_lload (i := 2) (n := 3) (len := 1) (Or.inl ⟨2, rfl, rfl, d_Mo_fit_148⟩) rfl (G_pc (pc' := 149) rfl ?_)
            refine G_l2i d_Mo_fit_149 (G_pc (pc' := 150) rfl ?_)
            have hqk1 := hqk (w32 (M 83 (M 77 n))) (by omega) (by omega)
            refine G_iaload (o := 60) (n := 13) (i := w32 (M 83 (M 77 n))) (v := M 60 (w32 (M 83 (M 77 n)))) d_Mo_fit_150 rfl ⟨by decide, by decide⟩ (by omega) (rd_arr rfl) (fun t128 => G_pc (pc' := 151) rfl ?_)
            have t128 := tok_i t128
            refine G_iload (i := 5) (n := 1) (len := 2) (Or.inr ⟨rfl, d_Mo_fit_151⟩) rfl (G_pc (pc' := 153) rfl ?_)
            refine G_callV (K1 := KE) (d2 := 1) (o := 55) (cl := 9) (as := [vi (M 60 (w32 (M 83 (M 77 n)))), vi tk]) (rest := []) d_Mo_fit_153 mf_Mo_suits ml_Mo_120 rfl rfl (by decide) rfl rfl (Nat.le_of_ble_eq_true rfl) (by omega) ⟨Nat.le_refl _, Nat.le_refl _⟩ (g_Mo_suits (by omega) (M 60 (w32 (M 83 (M 77 n)))) tk _ hP (by omega) (by omega)) (fun r129 M130 kq131 q131 => ?_)
            clear kq131; obtain ⟨q131a, q131b⟩ := q131; subst r129; subst M130
            refine G_ps (pc' := 156) (st' := [vi (b2i (suitsB M (M 60 (w32 (M 83 (M 77 n)))) tk))]) rfl rfl ?_
            refine G_if_eq (tgt := 163) d_Mo_fit_156 (by decide) (fun h132 => ?_) (fun h132 => G_pc (pc' := 159) rfl ?_)
            · skip
              replace h132 := b2i_0.mp h132
              refine G_iconst (n := 0) d_Mo_fit_163 (by decide) (G_pc (pc' := 164) rfl ?_)
              refine G_istore (i := 7) (len := 2) (ls' := [(7, vi 0), (6, vi 0), (5, vi tk), (4, vi (M 81 (M 77 n))), (2, vl (M 83 (M 77 n))), (0, vr 55), (1, vi n)]) (Or.inr ⟨rfl, d_Mo_fit_164⟩) (by decide) rfl (G_pc (pc' := 166) rfl ?_)
              refine G_aload (i := 0) (n := 5) (len := 1) (Or.inl ⟨0, rfl, rfl, d_Mo_fit_166⟩) rfl (by decide) (G_pc (pc' := 167) rfl ?_)
              refine G_get (o := 55) (c := 9) (k := 29) (v := 76) d_Mo_fit_167 fl_Mo_72 rfl (by decide) (by decide) rfl rfl (G_pc (pc' := 170) rfl ?_)
              refine G_iload (i := 1) (n := 6) (len := 1) (Or.inl ⟨1, rfl, rfl, d_Mo_fit_170⟩) rfl (G_pc (pc' := 171) rfl ?_)
              refine G_iaload (o := 76) (n := 32) (i := n) (v := M 76 n) d_Mo_fit_171 rfl ⟨by decide, by decide⟩ (by omega) (rd_arr rfl) (fun t133 => G_pc (pc' := 172) rfl ?_)
              have t133 := tok_i t133
              refine G_bipush (n := 63) d_Mo_fit_172 (by decide) (G_pc (pc' := 174) rfl ?_)
              refine G_icmp_ne (tgt := 201) d_Mo_fit_174 (by decide) (fun h134 => ?_) (fun h134 => G_pc (pc' := 177) rfl ?_)
              · skip
                refine G_iload (i := 7) (n := 0) (len := 2) (Or.inr ⟨rfl, d_Mo_fit_201⟩) rfl (G_pc (pc' := 203) rfl ?_)
                refine G_if_eq (tgt := 215) d_Mo_fit_203 (by decide) (fun h135 => ?_) (fun h135 => absurd h135 (by decide))
                refine G_aload (i := 0) (n := 5) (len := 1) (Or.inl ⟨0, rfl, rfl, d_Mo_fit_215⟩) rfl (by decide) (G_pc (pc' := 216) rfl ?_)
                refine G_iconst (n := 4) d_Mo_fit_216 (by decide) (G_pc (pc' := 217) rfl ?_)
                refine G_putL (o := 55) (c := 9) (k := 46) (ki := 46) (x := 4) d_Mo_fit_217 fl_Mo_280 rfl rfl (by decide) (by decide) (by decide) rfl rfl (tokI (by decide)) rfl (G_pc (pc' := 220) rfl ?_)
                refine G_vret d_Mo_fit_220 rfl rfl ?_
                refine ⟨rfl, ?_⟩; exact cmp_th (by unfold fitF; rw [htk]; first | grind [b2i] | grind [needF]) (by decide)
              · skip
                refine G_aload (i := 0) (n := 5) (len := 1) (Or.inl ⟨0, rfl, rfl, d_Mo_fit_177⟩) rfl (by decide) (G_pc (pc' := 178) rfl ?_)
                refine G_iload (i := 1) (n := 6) (len := 1) (Or.inl ⟨1, rfl, rfl, d_Mo_fit_178⟩) rfl (G_pc (pc' := 179) rfl ?_)
                refine G_lload (i := 2) (n := 4) (len := 1) (Or.inl ⟨2, rfl, rfl, d_Mo_fit_179⟩) rfl (G_pc (pc' := 180) rfl ?_)
                refine G_lconst0 d_Mo_fit_180 (G_pc (pc' := 181) rfl ?_)
                refine G_lcmp_eq (tgt := 194) d_Mo_fit_181 d_Mo_fit_182 (by decide) (fun h136 => ?_) (fun h136 => G_pc (pc' := 185) rfl ?_)
                · skip
                  refine G_lconst0 d_Mo_fit_194 (G_pc (pc' := 195) rfl ?_)
                  refine G_callV (K1 := KE) (d2 := 0) (o := 55) (cl := 9) (as := [vi n, vl 0]) (rest := []) d_Mo_fit_195 mf_Mo_set ml_Mo_289 rfl rfl (by decide) rfl rfl (Nat.le_of_ble_eq_true rfl) (by omega) ⟨Nat.le_refl _, Nat.le_refl _⟩ (g_Mo_set (by omega) n 0 _ (by omega)) (fun r137 M138 kq139 q139 => ?_)
                  clear kq139; obtain ⟨q139a, q139b⟩ := q139; subst r137; subst M138
                  refine G_ps (pc' := 198) (st' := []) rfl rfl ?_
                  refine G_goto (tgt := 220) d_Mo_fit_198 (by decide) ?_
                  refine G_vret d_Mo_fit_220 rfl rfl ?_
                  refine ⟨rfl, ?_⟩; exact cmp_vh (by unfold fitF; rw [htk]; first | grind [b2i] | grind [needF])
                · skip
                  refine G_iload (i := 7) (n := 0) (len := 2) (Or.inr ⟨rfl, d_Mo_fit_185⟩) rfl (G_pc (pc' := 187) rfl ?_)
                  refine G_if_eq (tgt := 194) d_Mo_fit_187 (by decide) (fun h140 => ?_) (fun h140 => absurd h140 (by decide))
                  refine G_lconst0 d_Mo_fit_194 (G_pc (pc' := 195) rfl ?_)
                  refine G_callV (K1 := KE) (d2 := 0) (o := 55) (cl := 9) (as := [vi n, vl 0]) (rest := []) d_Mo_fit_195 mf_Mo_set ml_Mo_289 rfl rfl (by decide) rfl rfl (Nat.le_of_ble_eq_true rfl) (by omega) ⟨Nat.le_refl _, Nat.le_refl _⟩ (g_Mo_set (by omega) n 0 _ (by omega)) (fun r141 M142 kq143 q143 => ?_)
                  clear kq143; obtain ⟨q143a, q143b⟩ := q143; subst r141; subst M142
                  refine G_ps (pc' := 198) (st' := []) rfl rfl ?_
                  refine G_goto (tgt := 220) d_Mo_fit_198 (by decide) ?_
                  refine G_vret d_Mo_fit_220 rfl rfl ?_
                  refine ⟨rfl, ?_⟩; exact cmp_vh (by unfold fitF; rw [htk]; first | grind [b2i] | grind [needF])
            · skip
              replace h132 := b2i_nz.mp h132
              refine G_iconst (n := 1) d_Mo_fit_159 (by decide) (G_pc (pc' := 160) rfl ?_)
              refine G_goto (tgt := 164) d_Mo_fit_160 (by decide) ?_
              refine G_istore (i := 7) (len := 2) (ls' := [(7, vi 1), (6, vi 0), (5, vi tk), (4, vi (M 81 (M 77 n))), (2, vl (M 83 (M 77 n))), (0, vr 55), (1, vi n)]) (Or.inr ⟨rfl, d_Mo_fit_164⟩) (by decide) rfl (G_pc (pc' := 166) rfl ?_)
              refine G_aload (i := 0) (n := 5) (len := 1) (Or.inl ⟨0, rfl, rfl, d_Mo_fit_166⟩) rfl (by decide) (G_pc (pc' := 167) rfl ?_)
              refine G_get (o := 55) (c := 9) (k := 29) (v := 76) d_Mo_fit_167 fl_Mo_72 rfl (by decide) (by decide) rfl rfl (G_pc (pc' := 170) rfl ?_)
              refine G_iload (i := 1) (n := 6) (len := 1) (Or.inl ⟨1, rfl, rfl, d_Mo_fit_170⟩) rfl (G_pc (pc' := 171) rfl ?_)
              refine G_iaload (o := 76) (n := 32) (i := n) (v := M 76 n) d_Mo_fit_171 rfl ⟨by decide, by decide⟩ (by omega) (rd_arr rfl) (fun t144 => G_pc (pc' := 172) rfl ?_)
              have t144 := tok_i t144
              refine G_bipush (n := 63) d_Mo_fit_172 (by decide) (G_pc (pc' := 174) rfl ?_)
              refine G_icmp_ne (tgt := 201) d_Mo_fit_174 (by decide) (fun h145 => ?_) (fun h145 => G_pc (pc' := 177) rfl ?_)
              · skip
                refine G_iload (i := 7) (n := 0) (len := 2) (Or.inr ⟨rfl, d_Mo_fit_201⟩) rfl (G_pc (pc' := 203) rfl ?_)
                refine G_if_eq (tgt := 215) d_Mo_fit_203 (by decide) (fun h146 => absurd h146 (by decide)) (fun h146 => G_pc (pc' := 206) rfl ?_)
                refine G_aload (i := 0) (n := 5) (len := 1) (Or.inl ⟨0, rfl, rfl, d_Mo_fit_206⟩) rfl (by decide) (G_pc (pc' := 207) rfl ?_)
                refine G_iload (i := 1) (n := 6) (len := 1) (Or.inl ⟨1, rfl, rfl, d_Mo_fit_207⟩) rfl (G_pc (pc' := 208) rfl ?_)
                refine G_lload (i := 2) (n := 4) (len := 1) (Or.inl ⟨2, rfl, rfl, d_Mo_fit_208⟩) rfl (G_pc (pc' := 209) rfl ?_)
                refine G_callV (K1 := KE) (d2 := 0) (o := 55) (cl := 9) (as := [vi n, vl (M 83 (M 77 n))]) (rest := []) d_Mo_fit_209 mf_Mo_set ml_Mo_289 rfl rfl (by decide) rfl rfl (Nat.le_of_ble_eq_true rfl) (by omega) ⟨Nat.le_refl _, Nat.le_refl _⟩ (g_Mo_set (by omega) n (M 83 (M 77 n)) _ (by omega)) (fun r147 M148 kq149 q149 => ?_)
                clear kq149; obtain ⟨q149a, q149b⟩ := q149; subst r147; subst M148
                refine G_ps (pc' := 212) (st' := []) rfl rfl ?_
                refine G_goto (tgt := 220) d_Mo_fit_212 (by decide) ?_
                refine G_vret d_Mo_fit_220 rfl rfl ?_
                refine ⟨rfl, ?_⟩; exact cmp_vh (by unfold fitF; rw [htk]; first | grind [b2i] | grind [needF])
              · skip
                refine G_aload (i := 0) (n := 5) (len := 1) (Or.inl ⟨0, rfl, rfl, d_Mo_fit_177⟩) rfl (by decide) (G_pc (pc' := 178) rfl ?_)
                refine G_iload (i := 1) (n := 6) (len := 1) (Or.inl ⟨1, rfl, rfl, d_Mo_fit_178⟩) rfl (G_pc (pc' := 179) rfl ?_)
                refine G_lload (i := 2) (n := 4) (len := 1) (Or.inl ⟨2, rfl, rfl, d_Mo_fit_179⟩) rfl (G_pc (pc' := 180) rfl ?_)
                refine G_lconst0 d_Mo_fit_180 (G_pc (pc' := 181) rfl ?_)
                refine G_lcmp_eq (tgt := 194) d_Mo_fit_181 d_Mo_fit_182 (by decide) (fun h150 => ?_) (fun h150 => G_pc (pc' := 185) rfl ?_)
                · skip
                  refine G_lconst0 d_Mo_fit_194 (G_pc (pc' := 195) rfl ?_)
                  refine G_callV (K1 := KE) (d2 := 0) (o := 55) (cl := 9) (as := [vi n, vl 0]) (rest := []) d_Mo_fit_195 mf_Mo_set ml_Mo_289 rfl rfl (by decide) rfl rfl (Nat.le_of_ble_eq_true rfl) (by omega) ⟨Nat.le_refl _, Nat.le_refl _⟩ (g_Mo_set (by omega) n 0 _ (by omega)) (fun r151 M152 kq153 q153 => ?_)
                  clear kq153; obtain ⟨q153a, q153b⟩ := q153; subst r151; subst M152
                  refine G_ps (pc' := 198) (st' := []) rfl rfl ?_
                  refine G_goto (tgt := 220) d_Mo_fit_198 (by decide) ?_
                  refine G_vret d_Mo_fit_220 rfl rfl ?_
                  refine ⟨rfl, ?_⟩; exact cmp_vh (by unfold fitF; rw [htk]; first | grind [b2i] | grind [needF])
                · skip
                  refine G_iload (i := 7) (n := 0) (len := 2) (Or.inr ⟨rfl, d_Mo_fit_185⟩) rfl (G_pc (pc' := 187) rfl ?_)
                  refine G_if_eq (tgt := 194) d_Mo_fit_187 (by decide) (fun h154 => absurd h154 (by decide)) (fun h154 => G_pc (pc' := 190) rfl ?_)
                  refine G_lconst1 d_Mo_fit_190 (G_pc (pc' := 191) rfl ?_)
                  refine G_goto (tgt := 195) d_Mo_fit_191 (by decide) ?_
                  refine G_callV (K1 := KE) (d2 := 0) (o := 55) (cl := 9) (as := [vi n, vl 1]) (rest := []) d_Mo_fit_195 mf_Mo_set ml_Mo_289 rfl rfl (by decide) rfl rfl (Nat.le_of_ble_eq_true rfl) (by omega) ⟨Nat.le_refl _, Nat.le_refl _⟩ (g_Mo_set (by omega) n 1 _ (by omega)) (fun r155 M156 kq157 q157 => ?_)
                  clear kq157; obtain ⟨q157a, q157b⟩ := q157; subst r155; subst M156
                  refine G_ps (pc' := 198) (st' := []) rfl rfl ?_
                  refine G_goto (tgt := 220) d_Mo_fit_198 (by decide) ?_
                  refine G_vret d_Mo_fit_220 rfl rfl ?_
                  refine ⟨rfl, ?_⟩; exact cmp_vh (by unfold fitF; rw [htk]; first | grind [b2i] | grind [needF])
          · skip
            refine G_vret d_Mo_fit_137 rfl rfl ?_
            refine ⟨rfl, ?_⟩; exact cmp_p (by unfold fitF; rw [htk]; first | grind [b2i] | grind [needF]) (by omega) (by simp [pieceM]; omega)
        · skip
          replace h121 := b2i_nz.mp h121
          refine G_iconst (n := 1) d_Mo_fit_114 (by decide) (G_pc (pc' := 115) rfl ?_)
          refine G_goto (tgt := 119) d_Mo_fit_115 (by decide) ?_
          refine G_istore (i := 6) (len := 2) (ls' := [(6, vi 1), (5, vi tk), (4, vi (M 81 (M 77 n))), (2, vl (M 83 (M 77 n))), (0, vr 55), (1, vi n)]) (Or.inr ⟨rfl, d_Mo_fit_119⟩) (by decide) rfl (G_pc (pc' := 121) rfl ?_)
          refine G_iload (i := 6) (n := 0) (len := 2) (Or.inr ⟨rfl, d_Mo_fit_121⟩) rfl (G_pc (pc' := 123) rfl ?_)
          refine G_if_ne (tgt := 138) d_Mo_fit_123 (by decide) (fun h158 => ?_) (fun h158 => absurd h158 (by decide))
          refine G_iload (i := 6) (n := 0) (len := 2) (Or.inr ⟨rfl, d_Mo_fit_138⟩) rfl (G_pc (pc' := 140) rfl ?_)
          refine G_if_ne (tgt := 159) d_Mo_fit_140 (by decide) (fun h159 => ?_) (fun h159 => absurd h159 (by decide))
          refine G_iconst (n := 1) d_Mo_fit_159 (by decide) (G_pc (pc' := 160) rfl ?_)
          refine G_goto (tgt := 164) d_Mo_fit_160 (by decide) ?_
          refine G_istore (i := 7) (len := 2) (ls' := [(7, vi 1), (6, vi 1), (5, vi tk), (4, vi (M 81 (M 77 n))), (2, vl (M 83 (M 77 n))), (0, vr 55), (1, vi n)]) (Or.inr ⟨rfl, d_Mo_fit_164⟩) (by decide) rfl (G_pc (pc' := 166) rfl ?_)
          refine G_aload (i := 0) (n := 5) (len := 1) (Or.inl ⟨0, rfl, rfl, d_Mo_fit_166⟩) rfl (by decide) (G_pc (pc' := 167) rfl ?_)
          refine G_get (o := 55) (c := 9) (k := 29) (v := 76) d_Mo_fit_167 fl_Mo_72 rfl (by decide) (by decide) rfl rfl (G_pc (pc' := 170) rfl ?_)
          refine G_iload (i := 1) (n := 6) (len := 1) (Or.inl ⟨1, rfl, rfl, d_Mo_fit_170⟩) rfl (G_pc (pc' := 171) rfl ?_)
          refine G_iaload (o := 76) (n := 32) (i := n) (v := M 76 n) d_Mo_fit_171 rfl ⟨by decide, by decide⟩ (by omega) (rd_arr rfl) (fun t160 => G_pc (pc' := 172) rfl ?_)
          have t160 := tok_i t160
          refine G_bipush (n := 63) d_Mo_fit_172 (by decide) (G_pc (pc' := 174) rfl ?_)
          refine G_icmp_ne (tgt := 201) d_Mo_fit_174 (by decide) (fun h161 => ?_) (fun h161 => G_pc (pc' := 177) rfl ?_)
          · skip
            refine G_iload (i := 7) (n := 0) (len := 2) (Or.inr ⟨rfl, d_Mo_fit_201⟩) rfl (G_pc (pc' := 203) rfl ?_)
            refine G_if_eq (tgt := 215) d_Mo_fit_203 (by decide) (fun h162 => absurd h162 (by decide)) (fun h162 => G_pc (pc' := 206) rfl ?_)
            refine G_aload (i := 0) (n := 5) (len := 1) (Or.inl ⟨0, rfl, rfl, d_Mo_fit_206⟩) rfl (by decide) (G_pc (pc' := 207) rfl ?_)
            refine G_iload (i := 1) (n := 6) (len := 1) (Or.inl ⟨1, rfl, rfl, d_Mo_fit_207⟩) rfl (G_pc (pc' := 208) rfl ?_)
            refine G_lload (i := 2) (n := 4) (len := 1) (Or.inl ⟨2, rfl, rfl, d_Mo_fit_208⟩) rfl (G_pc (pc' := 209) rfl ?_)
            refine G_callV (K1 := KE) (d2 := 0) (o := 55) (cl := 9) (as := [vi n, vl (M 83 (M 77 n))]) (rest := []) d_Mo_fit_209 mf_Mo_set ml_Mo_289 rfl rfl (by decide) rfl rfl (Nat.le_of_ble_eq_true rfl) (by omega) ⟨Nat.le_refl _, Nat.le_refl _⟩ (g_Mo_set (by omega) n (M 83 (M 77 n)) _ (by omega)) (fun r163 M164 kq165 q165 => ?_)
            clear kq165; obtain ⟨q165a, q165b⟩ := q165; subst r163; subst M164
            refine G_ps (pc' := 212) (st' := []) rfl rfl ?_
            refine G_goto (tgt := 220) d_Mo_fit_212 (by decide) ?_
            refine G_vret d_Mo_fit_220 rfl rfl ?_
            refine ⟨rfl, ?_⟩; exact cmp_v (by unfold fitF; rw [htk]; first | grind [b2i] | grind [needF])
          · skip
            refine G_aload (i := 0) (n := 5) (len := 1) (Or.inl ⟨0, rfl, rfl, d_Mo_fit_177⟩) rfl (by decide) (G_pc (pc' := 178) rfl ?_)
            refine G_iload (i := 1) (n := 6) (len := 1) (Or.inl ⟨1, rfl, rfl, d_Mo_fit_178⟩) rfl (G_pc (pc' := 179) rfl ?_)
            refine G_lload (i := 2) (n := 4) (len := 1) (Or.inl ⟨2, rfl, rfl, d_Mo_fit_179⟩) rfl (G_pc (pc' := 180) rfl ?_)
            refine G_lconst0 d_Mo_fit_180 (G_pc (pc' := 181) rfl ?_)
            refine G_lcmp_eq (tgt := 194) d_Mo_fit_181 d_Mo_fit_182 (by decide) (fun h166 => ?_) (fun h166 => G_pc (pc' := 185) rfl ?_)
            · skip
              refine G_lconst0 d_Mo_fit_194 (G_pc (pc' := 195) rfl ?_)
              refine G_callV (K1 := KE) (d2 := 0) (o := 55) (cl := 9) (as := [vi n, vl 0]) (rest := []) d_Mo_fit_195 mf_Mo_set ml_Mo_289 rfl rfl (by decide) rfl rfl (Nat.le_of_ble_eq_true rfl) (by omega) ⟨Nat.le_refl _, Nat.le_refl _⟩ (g_Mo_set (by omega) n 0 _ (by omega)) (fun r167 M168 kq169 q169 => ?_)
              clear kq169; obtain ⟨q169a, q169b⟩ := q169; subst r167; subst M168
              refine G_ps (pc' := 198) (st' := []) rfl rfl ?_
              refine G_goto (tgt := 220) d_Mo_fit_198 (by decide) ?_
              refine G_vret d_Mo_fit_220 rfl rfl ?_
              refine ⟨rfl, ?_⟩; exact cmp_v (by unfold fitF; rw [htk]; first | grind [b2i] | grind [needF])
            · skip
              refine G_iload (i := 7) (n := 0) (len := 2) (Or.inr ⟨rfl, d_Mo_fit_185⟩) rfl (G_pc (pc' := 187) rfl ?_)
              refine G_if_eq (tgt := 194) d_Mo_fit_187 (by decide) (fun h170 => absurd h170 (by decide)) (fun h170 => G_pc (pc' := 190) rfl ?_)
              refine G_lconst1 d_Mo_fit_190 (G_pc (pc' := 191) rfl ?_)
              refine G_goto (tgt := 195) d_Mo_fit_191 (by decide) ?_
              refine G_callV (K1 := KE) (d2 := 0) (o := 55) (cl := 9) (as := [vi n, vl 1]) (rest := []) d_Mo_fit_195 mf_Mo_set ml_Mo_289 rfl rfl (by decide) rfl rfl (Nat.le_of_ble_eq_true rfl) (by omega) ⟨Nat.le_refl _, Nat.le_refl _⟩ (g_Mo_set (by omega) n 1 _ (by omega)) (fun r171 M172 kq173 q173 => ?_)
              clear kq173; obtain ⟨q173a, q173b⟩ := q173; subst r171; subst M172
              refine G_ps (pc' := 198) (st' := []) rfl rfl ?_
              refine G_goto (tgt := 220) d_Mo_fit_198 (by decide) ?_
              refine G_vret d_Mo_fit_220 rfl rfl ?_
              refine ⟨rfl, ?_⟩; exact cmp_v (by unfold fitF; rw [htk]; first | grind [b2i] | grind [needF])
    · skip
      replace h100 := b2i_0.mp h100
      replace h100 := refB_f.mp h100
      refine G_aload (i := 0) (n := 3) (len := 1) (Or.inl ⟨0, rfl, rfl, d_Mo_fit_65⟩) rfl (by decide) (G_pc (pc' := 66) rfl ?_)
      refine G_iload (i := 1) (n := 4) (len := 1) (Or.inl ⟨1, rfl, rfl, d_Mo_fit_66⟩) rfl (G_pc (pc' := 67) rfl ?_)
      refine G_iload (i := 5) (n := 0) (len := 2) (Or.inr ⟨rfl, d_Mo_fit_67⟩) rfl (G_pc (pc' := 69) rfl ?_)
      refine G_iconst (n := 2) d_Mo_fit_69 (by decide) (G_pc (pc' := 70) rfl ?_)
      refine G_icmp_ne (tgt := 81) d_Mo_fit_70 (by decide) (fun h174 => ?_) (fun h174 => G_pc (pc' := 73) rfl ?_)
      · skip
        refine G_iload (i := 5) (n := 0) (len := 2) (Or.inr ⟨rfl, d_Mo_fit_81⟩) rfl (G_pc (pc' := 83) rfl ?_)
        refine G_if_ne (tgt := 92) d_Mo_fit_83 (by decide) (fun h175 => ?_) (fun h175 => G_pc (pc' := 86) rfl ?_)
        · skip
          refine G_lload (i := 2) (n := 2) (len := 1) (Or.inl ⟨2, rfl, rfl, d_Mo_fit_92⟩) rfl (G_pc (pc' := 93) rfl ?_)
          refine G_callV (K1 := KE) (d2 := 0) (o := 55) (cl := 9) (as := [vi n, vl (M 83 (M 77 n))]) (rest := []) d_Mo_fit_93 mf_Mo_set ml_Mo_289 rfl rfl (by decide) rfl rfl (Nat.le_of_ble_eq_true rfl) (by omega) ⟨Nat.le_refl _, Nat.le_refl _⟩ (g_Mo_set (by omega) n (M 83 (M 77 n)) _ (by omega)) (fun r176 M177 kq178 q178 => ?_)
          clear kq178; obtain ⟨q178a, q178b⟩ := q178; subst r176; subst M177
          refine G_ps (pc' := 96) (st' := []) rfl rfl ?_
          refine G_vret d_Mo_fit_96 rfl rfl ?_
          refine ⟨rfl, ?_⟩; exact cmp_v (by unfold fitF; rw [htk]; first | grind [b2i] | grind [needF])
        · skip
          refine G_lload (i := 2) (n := 2) (len := 1) (Or.inl ⟨2, rfl, rfl, d_Mo_fit_86⟩) rfl (G_pc (pc' := 87) rfl ?_)
          refine G_l2i d_Mo_fit_87 (G_pc (pc' := 88) rfl ?_)
          refine G_i2l d_Mo_fit_88 (G_pc (pc' := 89) rfl ?_)
          refine G_goto (tgt := 93) d_Mo_fit_89 (by decide) ?_
          refine G_callV (K1 := KE) (d2 := 0) (o := 55) (cl := 9) (as := [vi n, vl (w32 (M 83 (M 77 n)))]) (rest := []) d_Mo_fit_93 mf_Mo_set ml_Mo_289 rfl rfl (by decide) rfl rfl (Nat.le_of_ble_eq_true rfl) (by omega) ⟨Nat.le_refl _, Nat.le_refl _⟩ (g_Mo_set (by omega) n (w32 (M 83 (M 77 n))) _ (by omega)) (fun r179 M180 kq181 q181 => ?_)
          clear kq181; obtain ⟨q181a, q181b⟩ := q181; subst r179; subst M180
          refine G_ps (pc' := 96) (st' := []) rfl rfl ?_
          refine G_vret d_Mo_fit_96 rfl rfl ?_
          refine ⟨rfl, ?_⟩; exact cmp_v (by unfold fitF; rw [htk]; first | grind [b2i] | grind [needF])
      · skip
        refine G_lload (i := 2) (n := 2) (len := 1) (Or.inl ⟨2, rfl, rfl, d_Mo_fit_73⟩) rfl (G_pc (pc' := 74) rfl ?_)
        refine G_ldc2 (x := 65535) d_Mo_fit_74 k2_Mo_136 (by decide) (G_pc (pc' := 77) rfl ?_)
        refine G_land d_Mo_fit_77 (G_pc (pc' := 78) rfl ?_)
        refine G_goto (tgt := 93) d_Mo_fit_78 (by decide) ?_
        refine G_callV (K1 := KE) (d2 := 0) (o := 55) (cl := 9) (as := [vi n, vl (o_land (M 83 (M 77 n)) 65535)]) (rest := []) d_Mo_fit_93 mf_Mo_set ml_Mo_289 rfl rfl (by decide) rfl rfl (Nat.le_of_ble_eq_true rfl) (by omega) ⟨Nat.le_refl _, Nat.le_refl _⟩ (g_Mo_set (by omega) n (o_land (M 83 (M 77 n)) 65535) _ (by omega)) (fun r182 M183 kq184 q184 => ?_)
        clear kq184; obtain ⟨q184a, q184b⟩ := q184; subst r182; subst M183
        refine G_ps (pc' := 96) (st' := []) rfl rfl ?_
        refine G_vret d_Mo_fit_96 rfl rfl ?_
        refine ⟨rfl, ?_⟩; exact cmp_v (by unfold fitF; rw [htk]; first | grind [b2i] | grind [needF])

