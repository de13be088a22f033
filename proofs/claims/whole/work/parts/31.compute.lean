/-- what a node must be, by its code: its operands and its name -/
def nodeC (M : Mem) (n : Int) : Prop :=
  (8 ≤ M 76 n → 0 ≤ M 77 n ∧ M 77 n < 32) ∧ ((8 ≤ M 76 n ∧ M 76 n < 60) ∨ M 76 n = 62 ∨ M 76 n = 65 → 0 ≤ M 78 n ∧ M 78 n < 32) ∧ (M 76 n = 65 → 0 ≤ M 79 n ∧ M 79 n < 32)
  ∧ (M 76 n = 7 → 0 ≤ w32 (M 80 n) ∧ w32 (M 80 n) < 26) ∧ (M 76 n = 60 → 0 ≤ w32 (M 80 n) ∧ w32 (M 80 n) < 26)
/-- what its kinds and values must be -/
def nodeD (M : Mem) (n : Int) : Prop :=
  (M 76 n = 63 ∨ M 76 n = 64 → 0 ≤ w32 (M 80 n) ∧ w32 (M 80 n) < 17 ∧ (M 76 n = 63 → w32 (M 80 n) < 6)) ∧ (M 76 n = 63 ∨ M 76 n = 64 → 0 ≤ M 81 (M 77 n) ∧ M 81 (M 77 n) < 18)
  ∧ (M 76 n = 60 ∨ M 76 n = 61 ∨ M 76 n = 62 → 0 ≤ w32 (M 83 (M 77 n)) ∧ w32 (M 83 (M 77 n)) ≤ 12)
  ∧ (M 76 n = 63 ∨ M 76 n = 64 → 0 ≤ toK (M 76 n) (w32 (M 80 n)) ∧ toK (M 76 n) (w32 (M 80 n)) < 18)
  ∧ (M 76 n = 63 ∨ M 76 n = 64 → 4 ≤ toK (M 76 n) (w32 (M 80 n)) → 0 ≤ w32 (M 83 (M 77 n)) ∧ w32 (M 83 (M 77 n)) ≤ 12)
def nodeO (o : Int) : Prop := 1 ≤ o ∧ (o ≤ 7 ∨ 27 ≤ o ∧ o ≤ 31 ∨ 34 ≤ o ∧ o ≤ 47 ∨ 60 ≤ o ∧ o ≤ 65 ∨ 100 < o)
theorem nodeO_r {o : Int} (h : nodeO o) (h1 : ¬ o < 8) (h2 : ¬ 100 < o) (h3 : ¬ o = 60) (h4 : ¬ o = 61) (h5 : ¬ o = 62) (h6 : ¬ o = 63) (h7 : ¬ o = 64) (h8 : ¬ o = 65) : 27 ≤ o ∧ o ≤ 47 := by
  unfold nodeO at h; omega
theorem cmpF_a {M : Mem} {n : Int} (h : M 76 n < 6) : cmpF M n = (0, if M 76 n = 5 then 0 else M 80 n) := by unfold cmpF; rw [if_pos h]
theorem cmpF_6 {M : Mem} {n : Int} (h : M 76 n = 6) : cmpF M n = needF M 26 (M 59 26) := by unfold cmpF; rw [if_neg (by omega), if_pos h]
theorem cmpF_7 {M : Mem} {n : Int} (h : M 76 n = 7) : cmpF M n = needF M (w32 (M 80 n)) (M 59 (w32 (M 80 n))) := by unfold cmpF; rw [if_neg (by omega), if_neg (by omega), if_pos h]
theorem cmpF_u {M : Mem} {n : Int} (h : 100 < M 76 n) : cmpF M n = (0, unF (M 76 n) (M 83 (M 77 n))) := by unfold cmpF; rw [if_neg (by omega), if_neg (by omega), if_neg (by omega), if_pos h]
theorem cmpF_i {M : Mem} {n : Int} (h : M 76 n = 60 ∨ M 76 n = 61 ∨ M 76 n = 62) : cmpF M n = intoF M (M 76 n) (w32 (M 80 n)) (w32 (M 83 (M 77 n))) (M 83 (M 78 n)) := by unfold cmpF; rw [if_neg (by omega), if_neg (by omega), if_neg (by omega), if_neg (by omega), if_pos h]
theorem cmpF_f {M : Mem} {n : Int} (h : M 76 n = 63 ∨ M 76 n = 64) : cmpF M n = fitF M (M 76 n) (w32 (M 80 n)) (M 83 (M 77 n)) (M 81 (M 77 n)) := by unfold cmpF; rw [if_neg (by omega), if_neg (by omega), if_neg (by omega), if_neg (by omega), if_neg (by omega), if_pos h]
theorem cmpF_65 {M : Mem} {n : Int} (h : M 76 n = 65) : cmpF M n = (0, if M 83 (M 77 n) = 0 then M 83 (M 79 n) else M 83 (M 78 n)) := by unfold cmpF; rw [if_neg (by omega), if_neg (by omega), if_neg (by omega), if_neg (by omega), if_neg (by omega), if_neg (by omega), if_pos h]
theorem cmpF_44 {M : Mem} {n : Int} (h : M 76 n = 44) : cmpF M n = (0, if M 83 (M 77 n) = 0 then M 83 (M 77 n) else M 83 (M 78 n)) := by unfold cmpF; rw [if_neg (by omega), if_neg (by omega), if_neg (by omega), if_neg (by omega), if_neg (by omega), if_neg (by omega), if_neg (by omega), if_pos h]
theorem cmpF_46 {M : Mem} {n : Int} (h : M 76 n = 46) : cmpF M n = (0, if M 83 (M 77 n) = 0 then M 83 (M 78 n) else M 83 (M 77 n)) := by unfold cmpF; rw [if_neg (by omega), if_neg (by omega), if_neg (by omega), if_neg (by omega), if_neg (by omega), if_neg (by omega), if_neg (by omega), if_neg (by omega), if_pos h]
theorem cmpF_r {M : Mem} {n : Int} (h : 27 ≤ M 76 n ∧ M 76 n ≤ 47) (h1 : ¬ M 76 n = 44) (h2 : ¬ M 76 n = 46) : cmpF M n = reckF (M 76 n) (M 81 n) (M 83 (M 77 n)) (M 83 (M 78 n)) := by unfold cmpF; rw [if_neg (by omega), if_neg (by omega), if_neg (by omega), if_neg (by omega), if_neg (by omega), if_neg (by omega), if_neg (by omega), if_neg (by omega), if_neg (by omega)]
theorem d_Mo_compute_0 : decode b_Mo_compute 0 = .ok (.aload_n 0, 1) := by decide +kernel
theorem d_Mo_compute_1 : decode b_Mo_compute 1 = .ok (.getfield 72, 3) := by decide +kernel
theorem d_Mo_compute_4 : decode b_Mo_compute 4 = .ok (.iload_n 1, 1) := by decide +kernel
theorem d_Mo_compute_5 : decode b_Mo_compute 5 = .ok (.iaload, 1) := by decide +kernel
theorem d_Mo_compute_6 : decode b_Mo_compute 6 = .ok (.istore_n 2, 1) := by decide +kernel
theorem d_Mo_compute_7 : decode b_Mo_compute 7 = .ok (.iload_n 2, 1) := by decide +kernel
theorem d_Mo_compute_8 : decode b_Mo_compute 8 = .ok (.bipush 6, 2) := by decide +kernel
theorem d_Mo_compute_10 : decode b_Mo_compute 10 = .ok (.if_icmp .ge 26, 3) := by decide +kernel
theorem d_Mo_compute_13 : decode b_Mo_compute 13 = .ok (.aload_n 0, 1) := by decide +kernel
theorem d_Mo_compute_14 : decode b_Mo_compute 14 = .ok (.iload_n 1, 1) := by decide +kernel
theorem d_Mo_compute_15 : decode b_Mo_compute 15 = .ok (.iload_n 2, 1) := by decide +kernel
theorem d_Mo_compute_16 : decode b_Mo_compute 16 = .ok (.iconst 5, 1) := by decide +kernel
theorem d_Mo_compute_17 : decode b_Mo_compute 17 = .ok (.if_icmp .ne 7, 3) := by decide +kernel
theorem d_Mo_compute_20 : decode b_Mo_compute 20 = .ok (.lconst 0, 1) := by decide +kernel
theorem d_Mo_compute_21 : decode b_Mo_compute 21 = .ok (.goto 9, 3) := by decide +kernel
theorem d_Mo_compute_24 : decode b_Mo_compute 24 = .ok (.aload_n 0, 1) := by decide +kernel
theorem d_Mo_compute_25 : decode b_Mo_compute 25 = .ok (.getfield 84, 3) := by decide +kernel
theorem d_Mo_compute_28 : decode b_Mo_compute 28 = .ok (.iload_n 1, 1) := by decide +kernel
theorem d_Mo_compute_29 : decode b_Mo_compute 29 = .ok (.laload, 1) := by decide +kernel
theorem d_Mo_compute_30 : decode b_Mo_compute 30 = .ok (.invokevirtual 289, 3) := by decide +kernel
theorem d_Mo_compute_33 : decode b_Mo_compute 33 = .ok (.goto 307, 3) := by decide +kernel
theorem d_Mo_compute_36 : decode b_Mo_compute 36 = .ok (.iload_n 2, 1) := by decide +kernel
theorem d_Mo_compute_37 : decode b_Mo_compute 37 = .ok (.bipush 8, 2) := by decide +kernel
theorem d_Mo_compute_39 : decode b_Mo_compute 39 = .ok (.if_icmp .ge 46, 3) := by decide +kernel
theorem d_Mo_compute_42 : decode b_Mo_compute 42 = .ok (.iload_n 2, 1) := by decide +kernel
theorem d_Mo_compute_43 : decode b_Mo_compute 43 = .ok (.bipush 6, 2) := by decide +kernel
theorem d_Mo_compute_45 : decode b_Mo_compute 45 = .ok (.if_icmp .ne 8, 3) := by decide +kernel
theorem d_Mo_compute_48 : decode b_Mo_compute 48 = .ok (.bipush 26, 2) := by decide +kernel
theorem d_Mo_compute_50 : decode b_Mo_compute 50 = .ok (.goto 10, 3) := by decide +kernel
theorem d_Mo_compute_53 : decode b_Mo_compute 53 = .ok (.aload_n 0, 1) := by decide +kernel
theorem d_Mo_compute_54 : decode b_Mo_compute 54 = .ok (.getfield 84, 3) := by decide +kernel
theorem d_Mo_compute_57 : decode b_Mo_compute 57 = .ok (.iload_n 1, 1) := by decide +kernel
theorem d_Mo_compute_58 : decode b_Mo_compute 58 = .ok (.laload, 1) := by decide +kernel
theorem d_Mo_compute_59 : decode b_Mo_compute 59 = .ok (.l2i, 1) := by decide +kernel
theorem d_Mo_compute_60 : decode b_Mo_compute 60 = .ok (.istore_n 3, 1) := by decide +kernel
theorem d_Mo_compute_61 : decode b_Mo_compute 61 = .ok (.aload_n 0, 1) := by decide +kernel
theorem d_Mo_compute_62 : decode b_Mo_compute 62 = .ok (.iconst 0, 1) := by decide +kernel
theorem d_Mo_compute_63 : decode b_Mo_compute 63 = .ok (.iload_n 3, 1) := by decide +kernel
theorem d_Mo_compute_64 : decode b_Mo_compute 64 = .ok (.iconst 0, 1) := by decide +kernel
theorem d_Mo_compute_65 : decode b_Mo_compute 65 = .ok (.invokevirtual 292, 3) := by decide +kernel
theorem d_Mo_compute_68 : decode b_Mo_compute 68 = .ok (.ifCond .eq 14, 3) := by decide +kernel
theorem d_Mo_compute_71 : decode b_Mo_compute 71 = .ok (.aload_n 0, 1) := by decide +kernel
theorem d_Mo_compute_72 : decode b_Mo_compute 72 = .ok (.iload_n 1, 1) := by decide +kernel
theorem d_Mo_compute_73 : decode b_Mo_compute 73 = .ok (.aload_n 0, 1) := by decide +kernel
theorem d_Mo_compute_74 : decode b_Mo_compute 74 = .ok (.getfield 19, 3) := by decide +kernel
theorem d_Mo_compute_77 : decode b_Mo_compute 77 = .ok (.iload_n 3, 1) := by decide +kernel
theorem d_Mo_compute_78 : decode b_Mo_compute 78 = .ok (.laload, 1) := by decide +kernel
theorem d_Mo_compute_79 : decode b_Mo_compute 79 = .ok (.invokevirtual 289, 3) := by decide +kernel
theorem d_Mo_compute_82 : decode b_Mo_compute 82 = .ok (.goto 258, 3) := by decide +kernel
theorem d_Mo_compute_85 : decode b_Mo_compute 85 = .ok (.iload_n 2, 1) := by decide +kernel
theorem d_Mo_compute_86 : decode b_Mo_compute 86 = .ok (.bipush 100, 2) := by decide +kernel
theorem d_Mo_compute_88 : decode b_Mo_compute 88 = .ok (.if_icmp .le 64, 3) := by decide +kernel
theorem d_Mo_compute_91 : decode b_Mo_compute 91 = .ok (.aload_n 0, 1) := by decide +kernel
theorem d_Mo_compute_92 : decode b_Mo_compute 92 = .ok (.getfield 93, 3) := by decide +kernel
theorem d_Mo_compute_95 : decode b_Mo_compute 95 = .ok (.aload_n 0, 1) := by decide +kernel
theorem d_Mo_compute_96 : decode b_Mo_compute 96 = .ok (.getfield 75, 3) := by decide +kernel
theorem d_Mo_compute_99 : decode b_Mo_compute 99 = .ok (.iload_n 1, 1) := by decide +kernel
theorem d_Mo_compute_100 : decode b_Mo_compute 100 = .ok (.iaload, 1) := by decide +kernel
theorem d_Mo_compute_101 : decode b_Mo_compute 101 = .ok (.laload, 1) := by decide +kernel
theorem d_Mo_compute_102 : decode b_Mo_compute 102 = .ok (.lstore_n 3, 1) := by decide +kernel
theorem d_Mo_compute_103 : decode b_Mo_compute 103 = .ok (.aload_n 0, 1) := by decide +kernel
theorem d_Mo_compute_104 : decode b_Mo_compute 104 = .ok (.iload_n 1, 1) := by decide +kernel
theorem d_Mo_compute_105 : decode b_Mo_compute 105 = .ok (.iload_n 2, 1) := by decide +kernel
theorem d_Mo_compute_106 : decode b_Mo_compute 106 = .ok (.sipush 133, 3) := by decide +kernel
theorem d_Mo_compute_109 : decode b_Mo_compute 109 = .ok (.if_icmp .ne 9, 3) := by decide +kernel
theorem d_Mo_compute_112 : decode b_Mo_compute 112 = .ok (.lconst 1, 1) := by decide +kernel
theorem d_Mo_compute_113 : decode b_Mo_compute 113 = .ok (.lload_n 3, 1) := by decide +kernel
theorem d_Mo_compute_114 : decode b_Mo_compute 114 = .ok (.lsub, 1) := by decide +kernel
theorem d_Mo_compute_115 : decode b_Mo_compute 115 = .ok (.goto 31, 3) := by decide +kernel
theorem d_Mo_compute_118 : decode b_Mo_compute 118 = .ok (.iload_n 2, 1) := by decide +kernel
theorem d_Mo_compute_119 : decode b_Mo_compute 119 = .ok (.sipush 132, 3) := by decide +kernel
theorem d_Mo_compute_122 : decode b_Mo_compute 122 = .ok (.if_icmp .ne 11, 3) := by decide +kernel
theorem d_Mo_compute_125 : decode b_Mo_compute 125 = .ok (.lload_n 3, 1) := by decide +kernel
theorem d_Mo_compute_126 : decode b_Mo_compute 126 = .ok (.ldc2_w 296, 3) := by decide +kernel
theorem d_Mo_compute_129 : decode b_Mo_compute 129 = .ok (.lxor, 1) := by decide +kernel
theorem d_Mo_compute_130 : decode b_Mo_compute 130 = .ok (.goto 16, 3) := by decide +kernel
theorem d_Mo_compute_133 : decode b_Mo_compute 133 = .ok (.iload_n 2, 1) := by decide +kernel
theorem d_Mo_compute_134 : decode b_Mo_compute 134 = .ok (.sipush 128, 3) := by decide +kernel
theorem d_Mo_compute_137 : decode b_Mo_compute 137 = .ok (.if_icmp .ne 8, 3) := by decide +kernel
theorem d_Mo_compute_140 : decode b_Mo_compute 140 = .ok (.lload_n 3, 1) := by decide +kernel
theorem d_Mo_compute_141 : decode b_Mo_compute 141 = .ok (.lneg, 1) := by decide +kernel
theorem d_Mo_compute_142 : decode b_Mo_compute 142 = .ok (.goto 4, 3) := by decide +kernel
theorem d_Mo_compute_145 : decode b_Mo_compute 145 = .ok (.lload_n 3, 1) := by decide +kernel
theorem d_Mo_compute_146 : decode b_Mo_compute 146 = .ok (.invokevirtual 289, 3) := by decide +kernel
theorem d_Mo_compute_149 : decode b_Mo_compute 149 = .ok (.goto 191, 3) := by decide +kernel
theorem d_Mo_compute_152 : decode b_Mo_compute 152 = .ok (.iload_n 2, 1) := by decide +kernel
theorem d_Mo_compute_153 : decode b_Mo_compute 153 = .ok (.bipush 60, 2) := by decide +kernel
theorem d_Mo_compute_155 : decode b_Mo_compute 155 = .ok (.if_icmp .eq 15, 3) := by decide +kernel
theorem d_Mo_compute_158 : decode b_Mo_compute 158 = .ok (.iload_n 2, 1) := by decide +kernel
theorem d_Mo_compute_159 : decode b_Mo_compute 159 = .ok (.bipush 61, 2) := by decide +kernel
theorem d_Mo_compute_161 : decode b_Mo_compute 161 = .ok (.if_icmp .eq 9, 3) := by decide +kernel
theorem d_Mo_compute_164 : decode b_Mo_compute 164 = .ok (.iload_n 2, 1) := by decide +kernel
theorem d_Mo_compute_165 : decode b_Mo_compute 165 = .ok (.bipush 62, 2) := by decide +kernel
theorem d_Mo_compute_167 : decode b_Mo_compute 167 = .ok (.if_icmp .ne 11, 3) := by decide +kernel
theorem d_Mo_compute_170 : decode b_Mo_compute 170 = .ok (.aload_n 0, 1) := by decide +kernel
theorem d_Mo_compute_171 : decode b_Mo_compute 171 = .ok (.iload_n 1, 1) := by decide +kernel
theorem d_Mo_compute_172 : decode b_Mo_compute 172 = .ok (.invokevirtual 298, 3) := by decide +kernel
theorem d_Mo_compute_175 : decode b_Mo_compute 175 = .ok (.goto 165, 3) := by decide +kernel
theorem d_Mo_compute_178 : decode b_Mo_compute 178 = .ok (.iload_n 2, 1) := by decide +kernel
theorem d_Mo_compute_179 : decode b_Mo_compute 179 = .ok (.bipush 63, 2) := by decide +kernel
theorem d_Mo_compute_181 : decode b_Mo_compute 181 = .ok (.if_icmp .eq 9, 3) := by decide +kernel
theorem d_Mo_compute_184 : decode b_Mo_compute 184 = .ok (.iload_n 2, 1) := by decide +kernel
theorem d_Mo_compute_185 : decode b_Mo_compute 185 = .ok (.bipush 64, 2) := by decide +kernel
theorem d_Mo_compute_187 : decode b_Mo_compute 187 = .ok (.if_icmp .ne 11, 3) := by decide +kernel
theorem d_Mo_compute_190 : decode b_Mo_compute 190 = .ok (.aload_n 0, 1) := by decide +kernel
theorem d_Mo_compute_191 : decode b_Mo_compute 191 = .ok (.iload_n 1, 1) := by decide +kernel
theorem d_Mo_compute_192 : decode b_Mo_compute 192 = .ok (.invokevirtual 301, 3) := by decide +kernel
theorem d_Mo_compute_195 : decode b_Mo_compute 195 = .ok (.goto 145, 3) := by decide +kernel
theorem d_Mo_compute_198 : decode b_Mo_compute 198 = .ok (.iload_n 2, 1) := by decide +kernel
theorem d_Mo_compute_199 : decode b_Mo_compute 199 = .ok (.bipush 65, 2) := by decide +kernel
theorem d_Mo_compute_201 : decode b_Mo_compute 201 = .ok (.if_icmp .ne 52, 3) := by decide +kernel
theorem d_Mo_compute_204 : decode b_Mo_compute 204 = .ok (.aload_n 0, 1) := by decide +kernel
theorem d_Mo_compute_205 : decode b_Mo_compute 205 = .ok (.iload_n 1, 1) := by decide +kernel
theorem d_Mo_compute_206 : decode b_Mo_compute 206 = .ok (.aload_n 0, 1) := by decide +kernel
theorem d_Mo_compute_207 : decode b_Mo_compute 207 = .ok (.getfield 93, 3) := by decide +kernel
theorem d_Mo_compute_210 : decode b_Mo_compute 210 = .ok (.aload_n 0, 1) := by decide +kernel
theorem d_Mo_compute_211 : decode b_Mo_compute 211 = .ok (.getfield 75, 3) := by decide +kernel
theorem d_Mo_compute_214 : decode b_Mo_compute 214 = .ok (.iload_n 1, 1) := by decide +kernel
theorem d_Mo_compute_215 : decode b_Mo_compute 215 = .ok (.iaload, 1) := by decide +kernel
theorem d_Mo_compute_216 : decode b_Mo_compute 216 = .ok (.laload, 1) := by decide +kernel
theorem d_Mo_compute_217 : decode b_Mo_compute 217 = .ok (.lconst 0, 1) := by decide +kernel
theorem d_Mo_compute_218 : decode b_Mo_compute 218 = .ok (.lcmp, 1) := by decide +kernel
theorem d_Mo_compute_219 : decode b_Mo_compute 219 = .ok (.ifCond .eq 17, 3) := by decide +kernel
theorem d_Mo_compute_222 : decode b_Mo_compute 222 = .ok (.aload_n 0, 1) := by decide +kernel
theorem d_Mo_compute_223 : decode b_Mo_compute 223 = .ok (.getfield 93, 3) := by decide +kernel
theorem d_Mo_compute_226 : decode b_Mo_compute 226 = .ok (.aload_n 0, 1) := by decide +kernel
theorem d_Mo_compute_227 : decode b_Mo_compute 227 = .ok (.getfield 78, 3) := by decide +kernel
theorem d_Mo_compute_230 : decode b_Mo_compute 230 = .ok (.iload_n 1, 1) := by decide +kernel
theorem d_Mo_compute_231 : decode b_Mo_compute 231 = .ok (.iaload, 1) := by decide +kernel
theorem d_Mo_compute_232 : decode b_Mo_compute 232 = .ok (.laload, 1) := by decide +kernel
theorem d_Mo_compute_233 : decode b_Mo_compute 233 = .ok (.goto 14, 3) := by decide +kernel
theorem d_Mo_compute_236 : decode b_Mo_compute 236 = .ok (.aload_n 0, 1) := by decide +kernel
theorem d_Mo_compute_237 : decode b_Mo_compute 237 = .ok (.getfield 93, 3) := by decide +kernel
theorem d_Mo_compute_240 : decode b_Mo_compute 240 = .ok (.aload_n 0, 1) := by decide +kernel
theorem d_Mo_compute_241 : decode b_Mo_compute 241 = .ok (.getfield 81, 3) := by decide +kernel
theorem d_Mo_compute_244 : decode b_Mo_compute 244 = .ok (.iload_n 1, 1) := by decide +kernel
theorem d_Mo_compute_245 : decode b_Mo_compute 245 = .ok (.iaload, 1) := by decide +kernel
theorem d_Mo_compute_246 : decode b_Mo_compute 246 = .ok (.laload, 1) := by decide +kernel
theorem d_Mo_compute_247 : decode b_Mo_compute 247 = .ok (.invokevirtual 289, 3) := by decide +kernel
theorem d_Mo_compute_250 : decode b_Mo_compute 250 = .ok (.goto 90, 3) := by decide +kernel
theorem d_Mo_compute_253 : decode b_Mo_compute 253 = .ok (.iload_n 2, 1) := by decide +kernel
theorem d_Mo_compute_254 : decode b_Mo_compute 254 = .ok (.bipush 44, 2) := by decide +kernel
theorem d_Mo_compute_256 : decode b_Mo_compute 256 = .ok (.if_icmp .eq 9, 3) := by decide +kernel
theorem d_Mo_compute_259 : decode b_Mo_compute 259 = .ok (.iload_n 2, 1) := by decide +kernel
theorem d_Mo_compute_260 : decode b_Mo_compute 260 = .ok (.bipush 46, 2) := by decide +kernel
theorem d_Mo_compute_262 : decode b_Mo_compute 262 = .ok (.if_icmp .ne 73, 3) := by decide +kernel
theorem d_Mo_compute_265 : decode b_Mo_compute 265 = .ok (.aload_n 0, 1) := by decide +kernel
theorem d_Mo_compute_266 : decode b_Mo_compute 266 = .ok (.getfield 93, 3) := by decide +kernel
theorem d_Mo_compute_269 : decode b_Mo_compute 269 = .ok (.aload_n 0, 1) := by decide +kernel
theorem d_Mo_compute_270 : decode b_Mo_compute 270 = .ok (.getfield 75, 3) := by decide +kernel
theorem d_Mo_compute_273 : decode b_Mo_compute 273 = .ok (.iload_n 1, 1) := by decide +kernel
theorem d_Mo_compute_274 : decode b_Mo_compute 274 = .ok (.iaload, 1) := by decide +kernel
theorem d_Mo_compute_275 : decode b_Mo_compute 275 = .ok (.laload, 1) := by decide +kernel
theorem d_Mo_compute_276 : decode b_Mo_compute 276 = .ok (.lconst 0, 1) := by decide +kernel
theorem d_Mo_compute_277 : decode b_Mo_compute 277 = .ok (.lcmp, 1) := by decide +kernel
theorem d_Mo_compute_278 : decode b_Mo_compute 278 = .ok (.ifCond .eq 7, 3) := by decide +kernel
theorem d_Mo_compute_281 : decode b_Mo_compute 281 = .ok (.iconst 1, 1) := by decide +kernel
theorem d_Mo_compute_282 : decode b_Mo_compute 282 = .ok (.goto 4, 3) := by decide +kernel
theorem d_Mo_compute_285 : decode b_Mo_compute 285 = .ok (.iconst 0, 1) := by decide +kernel
theorem d_Mo_compute_286 : decode b_Mo_compute 286 = .ok (.istore_n 3, 1) := by decide +kernel
theorem d_Mo_compute_287 : decode b_Mo_compute 287 = .ok (.aload_n 0, 1) := by decide +kernel
theorem d_Mo_compute_288 : decode b_Mo_compute 288 = .ok (.iload_n 1, 1) := by decide +kernel
theorem d_Mo_compute_289 : decode b_Mo_compute 289 = .ok (.iload_n 3, 1) := by decide +kernel
theorem d_Mo_compute_290 : decode b_Mo_compute 290 = .ok (.iload_n 2, 1) := by decide +kernel
theorem d_Mo_compute_291 : decode b_Mo_compute 291 = .ok (.bipush 46, 2) := by decide +kernel
theorem d_Mo_compute_293 : decode b_Mo_compute 293 = .ok (.if_icmp .ne 7, 3) := by decide +kernel
theorem d_Mo_compute_296 : decode b_Mo_compute 296 = .ok (.iconst 1, 1) := by decide +kernel
theorem d_Mo_compute_297 : decode b_Mo_compute 297 = .ok (.goto 4, 3) := by decide +kernel
theorem d_Mo_compute_300 : decode b_Mo_compute 300 = .ok (.iconst 0, 1) := by decide +kernel
theorem d_Mo_compute_301 : decode b_Mo_compute 301 = .ok (.if_icmp .ne 17, 3) := by decide +kernel
theorem d_Mo_compute_304 : decode b_Mo_compute 304 = .ok (.aload_n 0, 1) := by decide +kernel
theorem d_Mo_compute_305 : decode b_Mo_compute 305 = .ok (.getfield 93, 3) := by decide +kernel
theorem d_Mo_compute_308 : decode b_Mo_compute 308 = .ok (.aload_n 0, 1) := by decide +kernel
theorem d_Mo_compute_309 : decode b_Mo_compute 309 = .ok (.getfield 75, 3) := by decide +kernel
theorem d_Mo_compute_312 : decode b_Mo_compute 312 = .ok (.iload_n 1, 1) := by decide +kernel
theorem d_Mo_compute_313 : decode b_Mo_compute 313 = .ok (.iaload, 1) := by decide +kernel
theorem d_Mo_compute_314 : decode b_Mo_compute 314 = .ok (.laload, 1) := by decide +kernel
theorem d_Mo_compute_315 : decode b_Mo_compute 315 = .ok (.goto 14, 3) := by decide +kernel
theorem d_Mo_compute_318 : decode b_Mo_compute 318 = .ok (.aload_n 0, 1) := by decide +kernel
theorem d_Mo_compute_319 : decode b_Mo_compute 319 = .ok (.getfield 93, 3) := by decide +kernel
theorem d_Mo_compute_322 : decode b_Mo_compute 322 = .ok (.aload_n 0, 1) := by decide +kernel
theorem d_Mo_compute_323 : decode b_Mo_compute 323 = .ok (.getfield 78, 3) := by decide +kernel
theorem d_Mo_compute_326 : decode b_Mo_compute 326 = .ok (.iload_n 1, 1) := by decide +kernel
theorem d_Mo_compute_327 : decode b_Mo_compute 327 = .ok (.iaload, 1) := by decide +kernel
theorem d_Mo_compute_328 : decode b_Mo_compute 328 = .ok (.laload, 1) := by decide +kernel
theorem d_Mo_compute_329 : decode b_Mo_compute 329 = .ok (.invokevirtual 289, 3) := by decide +kernel
theorem d_Mo_compute_332 : decode b_Mo_compute 332 = .ok (.goto 8, 3) := by decide +kernel
theorem d_Mo_compute_335 : decode b_Mo_compute 335 = .ok (.aload_n 0, 1) := by decide +kernel
theorem d_Mo_compute_336 : decode b_Mo_compute 336 = .ok (.iload_n 1, 1) := by decide +kernel
theorem d_Mo_compute_337 : decode b_Mo_compute 337 = .ok (.invokevirtual 304, 3) := by decide +kernel
theorem d_Mo_compute_340 : decode b_Mo_compute 340 = .ok (.return_, 1) := by decide +kernel
set_option maxHeartbeats 400000 in
theorem g_Mo_compute {X : WX} {d : Nat} (hd : 3 ≤ d) (n : Int) (M : Mem) (hP : okP M) (hn : 0 ≤ n ∧ n < 32) (hqo : nodeO (M 76 n)) (hC : nodeC M n) (hD : nodeD M n) (hqs : ∀ j, 0 ≤ j → j ≤ 12 → 0 ≤ M 61 j ∧ M 61 j ≤ 5) (hqk : ∀ j, 0 ≤ j → j ≤ 12 → 0 ≤ M 60 j ∧ M 60 j < 18) : MG X gt d KE KE y_Mo_compute b_Mo_compute 5 none [vr 55, vi n] M (fun r M' => r = none ∧ cmpQ M n (cmpF M n) M') := by
  refine MG_of_G (by decide) (Nat.le_of_ble_eq_true rfl) (Nat.le_refl _) (by decide) ?_
  show G X gt d KE KE y_Mo_compute b_Mo_compute 5 none _ 0 [(0, vr 55), (1, vi n)] [] KE M
  refine G_rngl (i := 1) rfl (fun hr1 => ?_)
  refine G_aload (i := 0) (n := 0) (len := 1) (Or.inl ⟨0, rfl, rfl, d_Mo_compute_0⟩) rfl (by decide) (G_pc (pc' := 1) rfl ?_)
  refine G_get (o := 55) (c := 9) (k := 29) (v := 76) d_Mo_compute_1 fl_Mo_72 rfl (by decide) (by decide) rfl rfl (G_pc (pc' := 4) rfl ?_)
  refine G_iload (i := 1) (n := 1) (len := 1) (Or.inl ⟨1, rfl, rfl, d_Mo_compute_4⟩) rfl (G_pc (pc' := 5) rfl ?_)
  refine G_iaload (o := 76) (n := 32) (i := n) (v := M 76 n) d_Mo_compute_5 rfl ⟨by decide, by decide⟩ (by omega) (rd_arr rfl) (fun t1 => G_pc (pc' := 6) rfl ?_)
  have t1 := tok_i t1
  refine G_istore (i := 2) (len := 1) (ls' := [(2, vi (M 76 n)), (0, vr 55), (1, vi n)]) (Or.inl ⟨2, rfl, rfl, d_Mo_compute_6⟩) (by decide) rfl (G_pc (pc' := 7) rfl ?_)
  refine G_iload (i := 2) (n := 0) (len := 1) (Or.inl ⟨2, rfl, rfl, d_Mo_compute_7⟩) rfl (G_pc (pc' := 8) rfl ?_)
  refine G_bipush (n := 6) d_Mo_compute_8 (by decide) (G_pc (pc' := 10) rfl ?_)
  refine G_icmp_ge (tgt := 36) d_Mo_compute_10 (by decide) (fun h2 => ?_) (fun h2 => G_pc (pc' := 13) rfl ?_)
  · skip
    refine G_iload (i := 2) (n := 0) (len := 1) (Or.inl ⟨2, rfl, rfl, d_Mo_compute_36⟩) rfl (G_pc (pc' := 37) rfl ?_)
    refine G_bipush (n := 8) d_Mo_compute_37 (by decide) (G_pc (pc' := 39) rfl ?_)
    refine G_icmp_ge (tgt := 85) d_Mo_compute_39 (by decide) (fun h3 => ?_) (fun h3 => G_pc (pc' := 42) rfl ?_)
    · skip
      refine G_iload (i := 2) (n := 0) (len := 1) (Or.inl ⟨2, rfl, rfl, d_Mo_compute_85⟩) rfl (G_pc (pc' := 86) rfl ?_)
      refine G_bipush (n := 100) d_Mo_compute_86 (by decide) (G_pc (pc' := 88) rfl ?_)
      refine G_icmp_le (tgt := 152) d_Mo_compute_88 (by decide) (fun h4 => ?_) (fun h4 => G_pc (pc' := 91) rfl ?_)
      · skip
        refine G_iload (i := 2) (n := 0) (len := 1) (Or.inl ⟨2, rfl, rfl, d_Mo_compute_152⟩) rfl (G_pc (pc' := 153) rfl ?_)
        refine G_bipush (n := 60) d_Mo_compute_153 (by decide) (G_pc (pc' := 155) rfl ?_)
        refine G_icmp_eq (tgt := 170) d_Mo_compute_155 (by decide) (fun h5 => ?_) (fun h5 => G_pc (pc' := 158) rfl ?_)
        · skip
          refine G_aload (i := 0) (n := 1) (len := 1) (Or.inl ⟨0, rfl, rfl, d_Mo_compute_170⟩) rfl (by decide) (G_pc (pc' := 171) rfl ?_)
          refine G_iload (i := 1) (n := 2) (len := 1) (Or.inl ⟨1, rfl, rfl, d_Mo_compute_171⟩) rfl (G_pc (pc' := 172) rfl ?_)
          refine G_callV (K1 := KE) (d2 := 2) (o := 55) (cl := 9) (as := [vi n]) (rest := []) d_Mo_compute_172 mf_Mo_into ml_Mo_298 rfl rfl (by decide) rfl rfl (Nat.le_of_ble_eq_true rfl) (by omega) ⟨Nat.le_refl _, Nat.le_refl _⟩ (g_Mo_into (by omega) n M hn (hC.1 (by omega)) (hD.2.2.1 (by omega)) (fun e9 => hC.2.1 (Or.inr (Or.inl e9))) hC.2.2.2.2 (by omega) hqs) (fun r6 M7 kq8 q8 => ?_)
          clear kq8; obtain ⟨q8a, q8b⟩ := q8; subst r6
          refine G_ps (pc' := 175) (st' := []) rfl rfl ?_
          refine G_goto (tgt := 340) d_Mo_compute_175 (by decide) ?_
          refine G_vret d_Mo_compute_340 rfl rfl ?_
          exact ⟨rfl, by rw [cmpF_i (by omega)]; exact q8b⟩
        · skip
          refine G_iload (i := 2) (n := 0) (len := 1) (Or.inl ⟨2, rfl, rfl, d_Mo_compute_158⟩) rfl (G_pc (pc' := 159) rfl ?_)
          refine G_bipush (n := 61) d_Mo_compute_159 (by decide) (G_pc (pc' := 161) rfl ?_)
          refine G_icmp_eq (tgt := 170) d_Mo_compute_161 (by decide) (fun h9 => ?_) (fun h9 => G_pc (pc' := 164) rfl ?_)
          · skip
            refine G_aload (i := 0) (n := 1) (len := 1) (Or.inl ⟨0, rfl, rfl, d_Mo_compute_170⟩) rfl (by decide) (G_pc (pc' := 171) rfl ?_)
            refine G_iload (i := 1) (n := 2) (len := 1) (Or.inl ⟨1, rfl, rfl, d_Mo_compute_171⟩) rfl (G_pc (pc' := 172) rfl ?_)
            refine G_callV (K1 := KE) (d2 := 2) (o := 55) (cl := 9) (as := [vi n]) (rest := []) d_Mo_compute_172 mf_Mo_into ml_Mo_298 rfl rfl (by decide) rfl rfl (Nat.le_of_ble_eq_true rfl) (by omega) ⟨Nat.le_refl _, Nat.le_refl _⟩ (g_Mo_into (by omega) n M hn (hC.1 (by omega)) (hD.2.2.1 (by omega)) (fun e9 => hC.2.1 (Or.inr (Or.inl e9))) hC.2.2.2.2 (by omega) hqs) (fun r10 M11 kq12 q12 => ?_)
            clear kq12; obtain ⟨q12a, q12b⟩ := q12; subst r10
            refine G_ps (pc' := 175) (st' := []) rfl rfl ?_
            refine G_goto (tgt := 340) d_Mo_compute_175 (by decide) ?_
            refine G_vret d_Mo_compute_340 rfl rfl ?_
            exact ⟨rfl, by rw [cmpF_i (by omega)]; exact q12b⟩
          · skip
            refine G_iload (i := 2) (n := 0) (len := 1) (Or.inl ⟨2, rfl, rfl, d_Mo_compute_164⟩) rfl (G_pc (pc' := 165) rfl ?_)
            refine G_bipush (n := 62) d_Mo_compute_165 (by decide) (G_pc (pc' := 167) rfl ?_)
            refine G_icmp_ne (tgt := 178) d_Mo_compute_167 (by decide) (fun h13 => ?_) (fun h13 => G_pc (pc' := 170) rfl ?_)
            · skip
              refine G_iload (i := 2) (n := 0) (len := 1) (Or.inl ⟨2, rfl, rfl, d_Mo_compute_178⟩) rfl (G_pc (pc' := 179) rfl ?_)
              refine G_bipush (n := 63) d_Mo_compute_179 (by decide) (G_pc (pc' := 181) rfl ?_)
              refine G_icmp_eq (tgt := 190) d_Mo_compute_181 (by decide) (fun h14 => ?_) (fun h14 => G_pc (pc' := 184) rfl ?_)
              · skip
                refine G_aload (i := 0) (n := 1) (len := 1) (Or.inl ⟨0, rfl, rfl, d_Mo_compute_190⟩) rfl (by decide) (G_pc (pc' := 191) rfl ?_)
                refine G_iload (i := 1) (n := 2) (len := 1) (Or.inl ⟨1, rfl, rfl, d_Mo_compute_191⟩) rfl (G_pc (pc' := 192) rfl ?_)
                refine G_callV (K1 := KE) (d2 := 2) (o := 55) (cl := 9) (as := [vi n]) (rest := []) d_Mo_compute_192 mf_Mo_fit ml_Mo_301 rfl rfl (by decide) rfl rfl (Nat.le_of_ble_eq_true rfl) (by omega) ⟨Nat.le_refl _, Nat.le_refl _⟩ (g_Mo_fit (by omega) n M hP hn (hC.1 (by omega)) (hD.2.1 (by omega)) (by omega) (hD.1 (by omega)) (hD.2.2.2.1 (by omega)) (hD.2.2.2.2 (by omega)) hqk) (fun r15 M16 kq17 q17 => ?_)
                clear kq17; obtain ⟨q17a, q17b⟩ := q17; subst r15
                refine G_ps (pc' := 195) (st' := []) rfl rfl ?_
                refine G_goto (tgt := 340) d_Mo_compute_195 (by decide) ?_
                refine G_vret d_Mo_compute_340 rfl rfl ?_
                exact ⟨rfl, by rw [cmpF_f (by omega)]; exact q17b⟩
              · skip
                refine G_iload (i := 2) (n := 0) (len := 1) (Or.inl ⟨2, rfl, rfl, d_Mo_compute_184⟩) rfl (G_pc (pc' := 185) rfl ?_)
                refine G_bipush (n := 64) d_Mo_compute_185 (by decide) (G_pc (pc' := 187) rfl ?_)
                refine G_icmp_ne (tgt := 198) d_Mo_compute_187 (by decide) (fun h18 => ?_) (fun h18 => G_pc (pc' := 190) rfl ?_)
                · skip
                  refine G_iload (i := 2) (n := 0) (len := 1) (Or.inl ⟨2, rfl, rfl, d_Mo_compute_198⟩) rfl (G_pc (pc' := 199) rfl ?_)
                  refine G_bipush (n := 65) d_Mo_compute_199 (by decide) (G_pc (pc' := 201) rfl ?_)
                  refine G_icmp_ne (tgt := 253) d_Mo_compute_201 (by decide) (fun h19 => ?_) (fun h19 => G_pc (pc' := 204) rfl ?_)
                  · skip
                    refine G_iload (i := 2) (n := 0) (len := 1) (Or.inl ⟨2, rfl, rfl, d_Mo_compute_253⟩) rfl (G_pc (pc' := 254) rfl ?_)
                    refine G_bipush (n := 44) d_Mo_compute_254 (by decide) (G_pc (pc' := 256) rfl ?_)
                    refine G_icmp_eq (tgt := 265) d_Mo_compute_256 (by decide) (fun h20 => ?_) (fun h20 => G_pc (pc' := 259) rfl ?_)
                    · skip
                      have hq71 := hC.1 (by omega); have hq81 := hC.2.1 (by omega)
                      refine G_aload (i := 0) (n := 1) (len := 1) (Or.inl ⟨0, rfl, rfl, d_Mo_compute_265⟩) rfl (by decide) (G_pc (pc' := 266) rfl ?_)
                      refine G_get (o := 55) (c := 9) (k := 36) (v := 83) d_Mo_compute_266 fl_Mo_93 rfl (by decide) (by decide) rfl rfl (G_pc (pc' := 269) rfl ?_)
                      refine G_aload (i := 0) (n := 1) (len := 1) (Or.inl ⟨0, rfl, rfl, d_Mo_compute_269⟩) rfl (by decide) (G_pc (pc' := 270) rfl ?_)
                      refine G_get (o := 55) (c := 9) (k := 30) (v := 77) d_Mo_compute_270 fl_Mo_75 rfl (by decide) (by decide) rfl rfl (G_pc (pc' := 273) rfl ?_)
                      refine G_iload (i := 1) (n := 2) (len := 1) (Or.inl ⟨1, rfl, rfl, d_Mo_compute_273⟩) rfl (G_pc (pc' := 274) rfl ?_)
                      refine G_iaload (o := 77) (n := 32) (i := n) (v := M 77 n) d_Mo_compute_274 rfl ⟨by decide, by decide⟩ (by omega) (rd_arr rfl) (fun t21 => G_pc (pc' := 275) rfl ?_)
                      have t21 := tok_i t21
                      refine G_laload (o := 83) (n := 32) (i := M 77 n) (v := M 83 (M 77 n)) d_Mo_compute_275 rfl ⟨by decide, by decide⟩ (by omega) (rd_arr rfl) (fun t22 => G_pc (pc' := 276) rfl ?_)
                      have t22 := tok_l t22
                      refine G_lconst0 d_Mo_compute_276 (G_pc (pc' := 277) rfl ?_)
                      refine G_lcmp_eq (tgt := 285) d_Mo_compute_277 d_Mo_compute_278 (by decide) (fun h23 => ?_) (fun h23 => G_pc (pc' := 281) rfl ?_)
                      · skip
                        refine G_iconst (n := 0) d_Mo_compute_285 (by decide) (G_pc (pc' := 286) rfl ?_)
                        refine G_istore (i := 3) (len := 1) (ls' := [(3, vi 0), (2, vi (M 76 n)), (0, vr 55), (1, vi n)]) (Or.inl ⟨3, rfl, rfl, d_Mo_compute_286⟩) (by decide) rfl (G_pc (pc' := 287) rfl ?_)
                        refine G_aload (i := 0) (n := 2) (len := 1) (Or.inl ⟨0, rfl, rfl, d_Mo_compute_287⟩) rfl (by decide) (G_pc (pc' := 288) rfl ?_)
                        refine G_iload (i := 1) (n := 3) (len := 1) (Or.inl ⟨1, rfl, rfl, d_Mo_compute_288⟩) rfl (G_pc (pc' := 289) rfl ?_)
                        refine G_iload (i := 3) (n := 0) (len := 1) (Or.inl ⟨3, rfl, rfl, d_Mo_compute_289⟩) rfl (G_pc (pc' := 290) rfl ?_)
                        refine G_iload (i := 2) (n := 1) (len := 1) (Or.inl ⟨2, rfl, rfl, d_Mo_compute_290⟩) rfl (G_pc (pc' := 291) rfl ?_)
                        refine G_bipush (n := 46) d_Mo_compute_291 (by decide) (G_pc (pc' := 293) rfl ?_)
                        refine G_icmp_ne (tgt := 300) d_Mo_compute_293 (by decide) (fun h24 => ?_) (fun h24 => G_pc (pc' := 296) rfl ?_)
                        · skip
                          refine G_iconst (n := 0) d_Mo_compute_300 (by decide) (G_pc (pc' := 301) rfl ?_)
                          refine G_icmp_ne (tgt := 318) d_Mo_compute_301 (by decide) (fun h25 => absurd h25 (by decide)) (fun h25 => G_pc (pc' := 304) rfl ?_)
                          refine G_aload (i := 0) (n := 2) (len := 1) (Or.inl ⟨0, rfl, rfl, d_Mo_compute_304⟩) rfl (by decide) (G_pc (pc' := 305) rfl ?_)
                          refine G_get (o := 55) (c := 9) (k := 36) (v := 83) d_Mo_compute_305 fl_Mo_93 rfl (by decide) (by decide) rfl rfl (G_pc (pc' := 308) rfl ?_)
                          refine G_aload (i := 0) (n := 2) (len := 1) (Or.inl ⟨0, rfl, rfl, d_Mo_compute_308⟩) rfl (by decide) (G_pc (pc' := 309) rfl ?_)
                          refine G_get (o := 55) (c := 9) (k := 30) (v := 77) d_Mo_compute_309 fl_Mo_75 rfl (by decide) (by decide) rfl rfl (G_pc (pc' := 312) rfl ?_)
                          refine G_iload (i := 1) (n := 3) (len := 1) (Or.inl ⟨1, rfl, rfl, d_Mo_compute_312⟩) rfl (G_pc (pc' := 313) rfl ?_)
                          refine G_iaload (o := 77) (n := 32) (i := n) (v := M 77 n) d_Mo_compute_313 rfl ⟨by decide, by decide⟩ (by omega) (rd_arr rfl) (fun t26 => G_pc (pc' := 314) rfl ?_)
                          have t26 := tok_i t26
                          refine G_laload (o := 83) (n := 32) (i := M 77 n) (v := M 83 (M 77 n)) d_Mo_compute_314 rfl ⟨by decide, by decide⟩ (by omega) (rd_arr rfl) (fun t27 => G_pc (pc' := 315) rfl ?_)
                          have t27 := tok_l t27
                          refine G_goto (tgt := 329) d_Mo_compute_315 (by decide) ?_
                          refine G_callV (K1 := KE) (d2 := 0) (o := 55) (cl := 9) (as := [vi n, vl (M 83 (M 77 n))]) (rest := []) d_Mo_compute_329 mf_Mo_set ml_Mo_289 rfl rfl (by decide) rfl rfl (Nat.le_of_ble_eq_true rfl) (by omega) ⟨Nat.le_refl _, Nat.le_refl _⟩ (g_Mo_set (by omega) n (M 83 (M 77 n)) _ (by omega)) (fun r28 M29 kq30 q30 => ?_)
                          clear kq30; obtain ⟨q30a, q30b⟩ := q30; subst r28; subst M29
                          refine G_ps (pc' := 332) (st' := []) rfl rfl ?_
                          refine G_goto (tgt := 340) d_Mo_compute_332 (by decide) ?_
                          refine G_vret d_Mo_compute_340 rfl rfl ?_
                          exact ⟨rfl, cmp_v (by first | (exfalso; omega) | (rw [cmpF_44 (by omega)]; first | rw [if_pos (by omega)] | rw [if_neg (by omega)]) | (rw [cmpF_46 (by omega)]; first | rw [if_pos (by omega)] | rw [if_neg (by omega)]))⟩
                        · skip
                          refine G_iconst (n := 1) d_Mo_compute_296 (by decide) (G_pc (pc' := 297) rfl ?_)
                          refine G_goto (tgt := 301) d_Mo_compute_297 (by decide) ?_
                          refine G_icmp_ne (tgt := 318) d_Mo_compute_301 (by decide) (fun h31 => ?_) (fun h31 => absurd h31 (by decide))
                          refine G_aload (i := 0) (n := 2) (len := 1) (Or.inl ⟨0, rfl, rfl, d_Mo_compute_318⟩) rfl (by decide) (G_pc (pc' := 319) rfl ?_)
                          refine G_get (o := 55) (c := 9) (k := 36) (v := 83) d_Mo_compute_319 fl_Mo_93 rfl (by decide) (by decide) rfl rfl (G_pc (pc' := 322) rfl ?_)
                          refine G_aload (i := 0) (n := 2) (len := 1) (Or.inl ⟨0, rfl, rfl, d_Mo_compute_322⟩) rfl (by decide) (G_pc (pc' := 323) rfl ?_)
                          refine G_get (o := 55) (c := 9) (k := 31) (v := 78) d_Mo_compute_323 fl_Mo_78 rfl (by decide) (by decide) rfl rfl (G_pc (pc' := 326) rfl ?_)
                          refine G_iload (i := 1) (n := 3) (len := 1) (Or.inl ⟨1, rfl, rfl, d_Mo_compute_326⟩) rfl (G_pc (pc' := 327) rfl ?_)
                          refine G_iaload (o := 78) (n := 32) (i := n) (v := M 78 n) d_Mo_compute_327 rfl ⟨by decide, by decide⟩ (by omega) (rd_arr rfl) (fun t32 => G_pc (pc' := 328) rfl ?_)
                          have t32 := tok_i t32
                          refine G_laload (o := 83) (n := 32) (i := M 78 n) (v := M 83 (M 78 n)) d_Mo_compute_328 rfl ⟨by decide, by decide⟩ (by omega) (rd_arr rfl) (fun t33 => G_pc (pc' := 329) rfl ?_)
                          have t33 := tok_l t33
                          refine G_callV (K1 := KE) (d2 := 0) (o := 55) (cl := 9) (as := [vi n, vl (M 83 (M 78 n))]) (rest := []) d_Mo_compute_329 mf_Mo_set ml_Mo_289 rfl rfl (by decide) rfl rfl (Nat.le_of_ble_eq_true rfl) (by omega) ⟨Nat.le_refl _, Nat.le_refl _⟩ (g_Mo_set (by omega) n (M 83 (M 78 n)) _ (by omega)) (fun r34 M35 kq36 q36 => ?_)
                          clear kq36; obtain ⟨q36a, q36b⟩ := q36; subst r34; subst M35
                          refine G_ps (pc' := 332) (st' := []) rfl rfl ?_
                          refine G_goto (tgt := 340) d_Mo_compute_332 (by decide) ?_
                          refine G_vret d_Mo_compute_340 rfl rfl ?_
                          exact ⟨rfl, cmp_v (by first | (exfalso; omega) | (rw [cmpF_44 (by omega)]; first | rw [if_pos (by omega)] | rw [if_neg (by omega)]) | (rw [cmpF_46 (by omega)]; first | rw [if_pos (by omega)] | rw [if_neg (by omega)]))⟩
                      · skip
                        refine G_iconst (n := 1) d_Mo_compute_281 (by decide) (G_pc (pc' := 282) rfl ?_)
                        refine G_goto (tgt := 286) d_Mo_compute_282 (by decide) ?_
                        refine G_istore (i := 3) (len := 1) (ls' := [(3, vi 1), (2, vi (M 76 n)), (0, vr 55), (1, vi n)]) (Or.inl ⟨3, rfl, rfl, d_Mo_compute_286⟩) (by decide) rfl (G_pc (pc' := 287) rfl ?_)
                        refine G_aload (i := 0) (n := 2) (len := 1) (Or.inl ⟨0, rfl, rfl, d_Mo_compute_287⟩) rfl (by decide) (G_pc (pc' := 288) rfl ?_)
                        refine G_iload (i := 1) (n := 3) (len := 1) (Or.inl ⟨1, rfl, rfl, d_Mo_compute_288⟩) rfl (G_pc (pc' := 289) rfl ?_)
                        refine G_iload (i := 3) (n := 0) (len := 1) (Or.inl ⟨3, rfl, rfl, d_Mo_compute_289⟩) rfl (G_pc (pc' := 290) rfl ?_)
                        refine G_iload (i := 2) (n := 1) (len := 1) (Or.inl ⟨2, rfl, rfl, d_Mo_compute_290⟩) rfl (G_pc (pc' := 291) rfl ?_)
                        refine G_bipush (n := 46) d_Mo_compute_291 (by decide) (G_pc (pc' := 293) rfl ?_)
                        refine G_icmp_ne (tgt := 300) d_Mo_compute_293 (by decide) (fun h37 => ?_) (fun h37 => G_pc (pc' := 296) rfl ?_)
                        · skip
                          refine G_iconst (n := 0) d_Mo_compute_300 (by decide) (G_pc (pc' := 301) rfl ?_)
                          refine G_icmp_ne (tgt := 318) d_Mo_compute_301 (by decide) (fun h38 => ?_) (fun h38 => absurd h38 (by decide))
                          refine G_aload (i := 0) (n := 2) (len := 1) (Or.inl ⟨0, rfl, rfl, d_Mo_compute_318⟩) rfl (by decide) (G_pc (pc' := 319) rfl ?_)
                          refine G_get (o := 55) (c := 9) (k := 36) (v := 83) d_Mo_compute_319 fl_Mo_93 rfl (by decide) (by decide) rfl rfl (G_pc (pc' := 322) rfl ?_)
                          refine G_aload (i := 0) (n := 2) (len := 1) (Or.inl ⟨0, rfl, rfl, d_Mo_compute_322⟩) rfl (by decide) (G_pc (pc' := 323) rfl ?_)
                          refine G_get (o := 55) (c := 9) (k := 31) (v := 78) d_Mo_compute_323 fl_Mo_78 rfl (by decide) (by decide) rfl rfl (G_pc (pc' := 326) rfl ?_)
                          refine G_iload (i := 1) (n := 3) (len := 1) (Or.inl ⟨1, rfl, rfl, d_Mo_compute_326⟩) rfl (G_pc (pc' := 327) rfl ?_)
                          refine G_iaload (o := 78) (n := 32) (i := n) (v := M 78 n) d_Mo_compute_327 rfl ⟨by decide, by decide⟩ (by omega) (rd_arr rfl) (fun t39 => G_pc (pc' := 328) rfl ?_)
                          have t39 := tok_i t39
                          refine G_laload (o := 83) (n := 32) (i := M 78 n) (v := M 83 (M 78 n)) d_Mo_compute_328 rfl ⟨by decide, by decide⟩ (by omega) (rd_arr rfl) (fun t40 => G_pc (pc' := 329) rfl ?_)
                          have t40 := tok_l t40
                          refine G_callV (K1 := KE) (d2 := 0) (o := 55) (cl := 9) (as := [vi n, vl (M 83 (M 78 n))]) (rest := []) d_Mo_compute_329 mf_Mo_set ml_Mo_289 rfl rfl (by decide) rfl rfl (Nat.le_of_ble_eq_true rfl) (by omega) ⟨Nat.le_refl _, Nat.le_refl _⟩ (g_Mo_set (by omega) n (M 83 (M 78 n)) _ (by omega)) (fun r41 M42 kq43 q43 => ?_)
                          clear kq43; obtain ⟨q43a, q43b⟩ := q43; subst r41; subst M42
                          refine G_ps (pc' := 332) (st' := []) rfl rfl ?_
                          refine G_goto (tgt := 340) d_Mo_compute_332 (by decide) ?_
                          refine G_vret d_Mo_compute_340 rfl rfl ?_
                          exact ⟨rfl, cmp_v (by first | (exfalso; omega) | (rw [cmpF_44 (by omega)]; first | rw [if_pos (by omega)] | rw [if_neg (by omega)]) | (rw [cmpF_46 (by omega)]; first | rw [if_pos (by omega)] | rw [if_neg (by omega)]))⟩
                        · skip
                          refine G_iconst (n := 1) d_Mo_compute_296 (by decide) (G_pc (pc' := 297) rfl ?_)
                          refine G_goto (tgt := 301) d_Mo_compute_297 (by decide) ?_
                          refine G_icmp_ne (tgt := 318) d_Mo_compute_301 (by decide) (fun h44 => absurd h44 (by decide)) (fun h44 => G_pc (pc' := 304) rfl ?_)
                          refine G_aload (i := 0) (n := 2) (len := 1) (Or.inl ⟨0, rfl, rfl, d_Mo_compute_304⟩) rfl (by decide) (G_pc (pc' := 305) rfl ?_)
                          refine G_get (o := 55) (c := 9) (k := 36) (v := 83) d_Mo_compute_305 fl_Mo_93 rfl (by decide) (by decide) rfl rfl (G_pc (pc' := 308) rfl ?_)
                          refine G_aload (i := 0) (n := 2) (len := 1) (Or.inl ⟨0, rfl, rfl, d_Mo_compute_308⟩) rfl (by decide) (G_pc (pc' := 309) rfl ?_)
                          refine G_get (o := 55) (c := 9) (k := 30) (v := 77) d_Mo_compute_309 fl_Mo_75 rfl (by decide) (by decide) rfl rfl (G_pc (pc' := 312) rfl ?_)
                          refine G_iload (i := 1) (n := 3) (len := 1) (Or.inl ⟨1, rfl, rfl, d_Mo_compute_312⟩) rfl (G_pc (pc' := 313) rfl ?_)
                          refine G_iaload (o := 77) (n := 32) (i := n) (v := M 77 n) d_Mo_compute_313 rfl ⟨by decide, by decide⟩ (by omega) (rd_arr rfl) (fun t45 => G_pc (pc' := 314) rfl ?_)
                          have t45 := tok_i t45
                          refine G_laload (o := 83) (n := 32) (i := M 77 n) (v := M 83 (M 77 n)) d_Mo_compute_314 rfl ⟨by decide, by decide⟩ (by omega) (rd_arr rfl) (fun t46 => G_pc (pc' := 315) rfl ?_)
                          have t46 := tok_l t46
                          refine G_goto (tgt := 329) d_Mo_compute_315 (by decide) ?_
                          refine G_callV (K1 := KE) (d2 := 0) (o := 55) (cl := 9) (as := [vi n, vl (M 83 (M 77 n))]) (rest := []) d_Mo_compute_329 mf_Mo_set ml_Mo_289 rfl rfl (by decide) rfl rfl (Nat.le_of_ble_eq_true rfl) (by omega) ⟨Nat.le_refl _, Nat.le_refl _⟩ (g_Mo_set (by omega) n (M 83 (M 77 n)) _ (by omega)) (fun r47 M48 kq49 q49 => ?_)
                          clear kq49; obtain ⟨q49a, q49b⟩ := q49; subst r47; subst M48
                          refine G_ps (pc' := 332) (st' := []) rfl rfl ?_
                          refine G_goto (tgt := 340) d_Mo_compute_332 (by decide) ?_
                          refine G_vret d_Mo_compute_340 rfl rfl ?_
                          exact ⟨rfl, cmp_v (by first | (exfalso; omega) | (rw [cmpF_44 (by omega)]; first | rw [if_pos (by omega)] | rw [if_neg (by omega)]) | (rw [cmpF_46 (by omega)]; first | rw [if_pos (by omega)] | rw [if_neg (by omega)]))⟩
                    · skip
                      refine G_iload (i := 2) (n := 0) (len := 1) (Or.inl ⟨2, rfl, rfl, d_Mo_compute_259⟩) rfl (G_pc (pc' := 260) rfl ?_)
                      refine G_bipush (n := 46) d_Mo_compute_260 (by decide) (G_pc (pc' := 262) rfl ?_)
                      refine G_icmp_ne (tgt := 335) d_Mo_compute_262 (by decide) (fun h50 => ?_) (fun h50 => G_pc (pc' := 265) rfl ?_)
                      · skip
                        refine G_aload (i := 0) (n := 1) (len := 1) (Or.inl ⟨0, rfl, rfl, d_Mo_compute_335⟩) rfl (by decide) (G_pc (pc' := 336) rfl ?_)
                        refine G_iload (i := 1) (n := 2) (len := 1) (Or.inl ⟨1, rfl, rfl, d_Mo_compute_336⟩) rfl (G_pc (pc' := 337) rfl ?_)
                        refine G_callV (K1 := KE) (d2 := 1) (o := 55) (cl := 9) (as := [vi n]) (rest := []) d_Mo_compute_337 mf_Mo_reckon ml_Mo_304 rfl rfl (by decide) rfl rfl (Nat.le_of_ble_eq_true rfl) (by omega) ⟨Nat.le_refl _, Nat.le_refl _⟩ (g_Mo_reckon (by omega) n M hn (hC.1 (by omega)) (hC.2.1 (by have h9 := nodeO_r hqo (by omega) (by omega) (by omega) (by omega) (by omega) (by omega) (by omega) (by omega); omega)) (nodeO_r hqo (by omega) (by omega) (by omega) (by omega) (by omega) (by omega) (by omega) (by omega))) (fun r51 M52 kq53 q53 => ?_)
                        clear kq53; obtain ⟨q53a, q53b⟩ := q53; subst r51
                        refine G_ps (pc' := 340) (st' := []) rfl rfl ?_
                        refine G_vret d_Mo_compute_340 rfl rfl ?_
                        exact ⟨rfl, by rw [cmpF_r (nodeO_r hqo (by omega) (by omega) (by omega) (by omega) (by omega) (by omega) (by omega) (by omega)) (by omega) (by omega)]; exact q53b⟩
                      · skip
                        have hq71 := hC.1 (by omega); have hq81 := hC.2.1 (by omega)
                        refine G_aload (i := 0) (n := 1) (len := 1) (Or.inl ⟨0, rfl, rfl, d_Mo_compute_265⟩) rfl (by decide) (G_pc (pc' := 266) rfl ?_)
                        refine G_get (o := 55) (c := 9) (k := 36) (v := 83) d_Mo_compute_266 fl_Mo_93 rfl (by decide) (by decide) rfl rfl (G_pc (pc' := 269) rfl ?_)
                        refine G_aload (i := 0) (n := 1) (len := 1) (Or.inl ⟨0, rfl, rfl, d_Mo_compute_269⟩) rfl (by decide) (G_pc (pc' := 270) rfl ?_)
                        refine G_get (o := 55) (c := 9) (k := 30) (v := 77) d_Mo_compute_270 fl_Mo_75 rfl (by decide) (by decide) rfl rfl (G_pc (pc' := 273) rfl ?_)
                        refine G_iload (i := 1) (n := 2) (len := 1) (Or.inl ⟨1, rfl, rfl, d_Mo_compute_273⟩) rfl (G_pc (pc' := 274) rfl ?_)
                        refine G_iaload (o := 77) (n := 32) (i := n) (v := M 77 n) d_Mo_compute_274 rfl ⟨by decide, by decide⟩ (by omega) (rd_arr rfl) (fun t54 => G_pc (pc' := 275) rfl ?_)
                        have t54 := tok_i t54
                        refine G_laload (o := 83) (n := 32) (i := M 77 n) (v := M 83 (M 77 n)) d_Mo_compute_275 rfl ⟨by decide, by decide⟩ (by omega) (rd_arr rfl) (fun t55 => G_pc (pc' := 276) rfl ?_)
                        have t55 := tok_l t55
                        refine G_lconst0 d_Mo_compute_276 (G_pc (pc' := 277) rfl ?_)
                        refine G_lcmp_eq (tgt := 285) d_Mo_compute_277 d_Mo_compute_278 (by decide) (fun h56 => ?_) (fun h56 => G_pc (pc' := 281) rfl ?_)
                        · skip
                          refine G_iconst (n := 0) d_Mo_compute_285 (by decide) (G_pc (pc' := 286) rfl ?_)
                          refine G_istore (i := 3) (len := 1) (ls' := [(3, vi 0), (2, vi (M 76 n)), (0, vr 55), (1, vi n)]) (Or.inl ⟨3, rfl, rfl, d_Mo_compute_286⟩) (by decide) rfl (G_pc (pc' := 287) rfl ?_)
                          refine G_aload (i := 0) (n := 2) (len := 1) (Or.inl ⟨0, rfl, rfl, d_Mo_compute_287⟩) rfl (by decide) (G_pc (pc' := 288) rfl ?_)
                          refine G_iload (i := 1) (n := 3) (len := 1) (Or.inl ⟨1, rfl, rfl, d_Mo_compute_288⟩) rfl (G_pc (pc' := 289) rfl ?_)
                          refine G_iload (i := 3) (n := 0) (len := 1) (Or.inl ⟨3, rfl, rfl, d_Mo_compute_289⟩) rfl (G_pc (pc' := 290) rfl ?_)
                          refine G_iload (i := 2) (n := 1) (len := 1) (Or.inl ⟨2, rfl, rfl, d_Mo_compute_290⟩) rfl (G_pc (pc' := 291) rfl ?_)
                          refine G_bipush (n := 46) d_Mo_compute_291 (by decide) (G_pc (pc' := 293) rfl ?_)
                          refine G_icmp_ne (tgt := 300) d_Mo_compute_293 (by decide) (fun h57 => ?_) (fun h57 => G_pc (pc' := 296) rfl ?_)
                          · skip
                            refine G_iconst (n := 0) d_Mo_compute_300 (by decide) (G_pc (pc' := 301) rfl ?_)
                            refine G_icmp_ne (tgt := 318) d_Mo_compute_301 (by decide) (fun h58 => absurd h58 (by decide)) (fun h58 => G_pc (pc' := 304) rfl ?_)
                            refine G_aload (i := 0) (n := 2) (len := 1) (Or.inl ⟨0, rfl, rfl, d_Mo_compute_304⟩) rfl (by decide) (G_pc (pc' := 305) rfl ?_)
                            refine G_get (o := 55) (c := 9) (k := 36) (v := 83) d_Mo_compute_305 fl_Mo_93 rfl (by decide) (by decide) rfl rfl (G_pc (pc' := 308) rfl ?_)
                            refine G_aload (i := 0) (n := 2) (len := 1) (Or.inl ⟨0, rfl, rfl, d_Mo_compute_308⟩) rfl (by decide) (G_pc (pc' := 309) rfl ?_)
                            refine G_get (o := 55) (c := 9) (k := 30) (v := 77) d_Mo_compute_309 fl_Mo_75 rfl (by decide) (by decide) rfl rfl (G_pc (pc' := 312) rfl ?_)
                            refine G_iload (i := 1) (n := 3) (len := 1) (Or.inl ⟨1, rfl, rfl, d_Mo_compute_312⟩) rfl (G_pc (pc' := 313) rfl ?_)
                            refine G_iaload (o := 77) (n := 32) (i := n) (v := M 77 n) d_Mo_compute_313 rfl ⟨by decide, by decide⟩ (by omega) (rd_arr rfl) (fun t59 => G_pc (pc' := 314) rfl ?_)
                            have t59 := tok_i t59
                            refine G_laload (o := 83) (n := 32) (i := M 77 n) (v := M 83 (M 77 n)) d_Mo_compute_314 rfl ⟨by decide, by decide⟩ (by omega) (rd_arr rfl) (fun t60 => G_pc (pc' := 315) rfl ?_)
                            have t60 := tok_l t60
                            refine G_goto (tgt := 329) d_Mo_compute_315 (by decide) ?_
                            refine G_callV (K1 := KE) (d2 := 0) (o := 55) (cl := 9) (as := [vi n, vl (M 83 (M 77 n))]) (rest := []) d_Mo_compute_329 mf_Mo_set ml_Mo_289 rfl rfl (by decide) rfl rfl (Nat.le_of_ble_eq_true rfl) (by omega) ⟨Nat.le_refl _, Nat.le_refl _⟩ (g_Mo_set (by omega) n (M 83 (M 77 n)) _ (by omega)) (fun r61 M62 kq63 q63 => ?_)
                            clear kq63; obtain ⟨q63a, q63b⟩ := q63; subst r61; subst M62
                            refine G_ps (pc' := 332) (st' := []) rfl rfl ?_
                            refine G_goto (tgt := 340) d_Mo_compute_332 (by decide) ?_
                            refine G_vret d_Mo_compute_340 rfl rfl ?_
                            exact ⟨rfl, cmp_v (by first | (exfalso; omega) | (rw [cmpF_44 (by omega)]; first | rw [if_pos (by omega)] | rw [if_neg (by omega)]) | (rw [cmpF_46 (by omega)]; first | rw [if_pos (by omega)] | rw [if_neg (by omega)]))⟩
                          · skip
                            refine G_iconst (n := 1) d_Mo_compute_296 (by decide) (G_pc (pc' := 297) rfl ?_)
                            refine G_goto (tgt := 301) d_Mo_compute_297 (by decide) ?_
                            refine G_icmp_ne (tgt := 318) d_Mo_compute_301 (by decide) (fun h64 => ?_) (fun h64 => absurd h64 (by decide))
                            refine G_aload (i := 0) (n := 2) (len := 1) (Or.inl ⟨0, rfl, rfl, d_Mo_compute_318⟩) rfl (by decide) (G_pc (pc' := 319) rfl ?_)
                            refine G_get (o := 55) (c := 9) (k := 36) (v := 83) d_Mo_compute_319 fl_Mo_93 rfl (by decide) (by decide) rfl rfl (G_pc (pc' := 322) rfl ?_)
                            refine G_aload (i := 0) (n := 2) (len := 1) (Or.inl ⟨0, rfl, rfl, d_Mo_compute_322⟩) rfl (by decide) (G_pc (pc' := 323) rfl ?_)
                            refine G_get (o := 55) (c := 9) (k := 31) (v := 78) d_Mo_compute_323 fl_Mo_78 rfl (by decide) (by decide) rfl rfl (G_pc (pc' := 326) rfl ?_)
                            refine G_iload (i := 1) (n := 3) (len := 1) (Or.inl ⟨1, rfl, rfl, d_Mo_compute_326⟩) rfl (G_pc (pc' := 327) rfl ?_)
                            refine G_iaload (o := 78) (n := 32) (i := n) (v := M 78 n) d_Mo_compute_327 rfl ⟨by decide, by decide⟩ (by omega) (rd_arr rfl) (fun t65 => G_pc (pc' := 328) rfl ?_)
                            have t65 := tok_i t65
                            refine G_laload (o := 83) (n := 32) (i := M 78 n) (v := M 83 (M 78 n)) d_Mo_compute_328 rfl ⟨by decide, by decide⟩ (by omega) (rd_arr rfl) (fun t66 => G_pc (pc' := 329) rfl ?_)
                            have t66 := tok_l t66
                            refine G_callV (K1 := KE) (d2 := 0) (o := 55) (cl := 9) (as := [vi n, vl (M 83 (M 78 n))]) (rest := []) d_Mo_compute_329 mf_Mo_set ml_Mo_289 rfl rfl (by decide) rfl rfl (Nat.le_of_ble_eq_true rfl) (by omega) ⟨Nat.le_refl _, Nat.le_refl _⟩ (g_Mo_set (by omega) n (M 83 (M 78 n)) _ (by omega)) (fun r67 M68 kq69 q69 => ?_)
                            clear kq69; obtain ⟨q69a, q69b⟩ := q69; subst r67; subst M68
                            refine G_ps (pc' := 332) (st' := []) rfl rfl ?_
                            refine G_goto (tgt := 340) d_Mo_compute_332 (by decide) ?_
                            refine G_vret d_Mo_compute_340 rfl rfl ?_
                            exact ⟨rfl, cmp_v (by first | (exfalso; omega) | (rw [cmpF_44 (by omega)]; first | rw [if_pos (by omega)] | rw [if_neg (by omega)]) | (rw [cmpF_46 (by omega)]; first | rw [if_pos (by omega)] | rw [if_neg (by omega)]))⟩
                        · skip
                          refine G_iconst (n := 1) d_Mo_compute_281 (by decide) (G_pc (pc' := 282) rfl ?_)
                          refine G_goto (tgt := 286) d_Mo_compute_282 (by decide) ?_
                          refine G_istore (i := 3) (len := 1) (ls' := [(3, vi 1), (2, vi (M 76 n)), (0, vr 55), (1, vi n)]) (Or.inl ⟨3, rfl, rfl, d_Mo_compute_286⟩) (by decide) rfl (G_pc (pc' := 287) rfl ?_)
                          refine G_aload (i := 0) (n := 2) (len := 1) (Or.inl ⟨0, rfl, rfl, d_Mo_compute_287⟩) rfl (by decide) (G_pc (pc' := 288) rfl ?_)
                          refine G_iload (i := 1) (n := 3) (len := 1) (Or.inl ⟨1, rfl, rfl, d_Mo_compute_288⟩) rfl (G_pc (pc' := 289) rfl ?_)
                          refine G_iload (i := 3) (n := 0) (len := 1) (Or.inl ⟨3, rfl, rfl, d_Mo_compute_289⟩) rfl (G_pc (pc' := 290) rfl ?_)
                          refine G_iload (i := 2) (n := 1) (len := 1) (Or.inl ⟨2, rfl, rfl, d_Mo_compute_290⟩) rfl (G_pc (pc' := 291) rfl ?_)
                          refine G_bipush (n := 46) d_Mo_compute_291 (by decide) (G_pc (pc' := 293) rfl ?_)
                          refine G_icmp_ne (tgt := 300) d_Mo_compute_293 (by decide) (fun h70 => ?_) (fun h70 => G_pc (pc' := 296) rfl ?_)
                          · skip
                            refine G_iconst (n := 0) d_Mo_compute_300 (by decide) (G_pc (pc' := 301) rfl ?_)
                            refine G_icmp_ne (tgt := 318) d_Mo_compute_301 (by decide) (fun h71 => ?_) (fun h71 => absurd h71 (by decide))
                            refine G_aload (i := 0) (n := 2) (len := 1) (Or.inl ⟨0, rfl, rfl, d_Mo_compute_318⟩) rfl (by decide) (G_pc (pc' := 319) rfl ?_)
                            refine G_get (o := 55) (c := 9) (k := 36) (v := 83) d_Mo_compute_319 fl_Mo_93 rfl (by decide) (by decide) rfl rfl (G_pc (pc' := 322) rfl ?_)
                            refine G_aload (i := 0) (n := 2) (len := 1) (Or.inl ⟨0, rfl, rfl, d_Mo_compute_322⟩) rfl (by decide) (G_pc (pc' := 323) rfl ?_)
                            refine G_get (o := 55) (c := 9) (k := 31) (v := 78) d_Mo_compute_323 fl_Mo_78 rfl (by decide) (by decide) rfl rfl (G_pc (pc' := 326) rfl ?_)
                            refine G_iload (i := 1) (n := 3) (len := 1) (Or.inl ⟨1, rfl, rfl, d_Mo_compute_326⟩) rfl (G_pc (pc' := 327) rfl ?_)
                            refine G_iaload (o := 78) (n := 32) (i := n) (v := M 78 n) d_Mo_compute_327 rfl ⟨by decide, by decide⟩ (by omega) (rd_arr rfl) (fun t72 => G_pc (pc' := 328) rfl ?_)
                            have t72 := tok_i t72
                            refine G_laload (o := 83) (n := 32) (i := M 78 n) (v := M 83 (M 78 n)) d_Mo_compute_328 rfl ⟨by decide, by decide⟩ (by omega) (rd_arr rfl) (fun t73 => G_pc (pc' := 329) rfl ?_)
                            have t73 := tok_l t73
                            refine G_callV (K1 := KE) (d2 := 0) (o := 55) (cl := 9) (as := [vi n, vl (M 83 (M 78 n))]) (rest := []) d_Mo_compute_329 mf_Mo_set ml_Mo_289 rfl rfl (by decide) rfl rfl (Nat.le_of_ble_eq_true rfl) (by omega) ⟨Nat.le_refl _, Nat.le_refl _⟩ (g_Mo_set (by omega) n (M 83 (M 78 n)) _ (by omega)) (fun r74 M75 kq76 q76 => ?_)
                            clear kq76; obtain ⟨q76a, q76b⟩ := q76; subst r74; subst M75
                            refine G_ps (pc' := 332) (st' := []) rfl rfl ?_
                            refine G_goto (tgt := 340) d_Mo_compute_332 (by decide) ?_
                            refine G_vret d_Mo_compute_340 rfl rfl ?_
                            exact ⟨rfl, cmp_v (by first | (exfalso; omega) | (rw [cmpF_44 (by omega)]; first | rw [if_pos (by omega)] | rw [if_neg (by omega)]) | (rw [cmpF_46 (by omega)]; first | rw [if_pos (by omega)] | rw [if_neg (by omega)]))⟩
                          · skip
                            refine G_iconst (n := 1) d_Mo_compute_296 (by decide) (G_pc (pc' := 297) rfl ?_)
                            refine G_goto (tgt := 301) d_Mo_compute_297 (by decide) ?_
                            refine G_icmp_ne (tgt := 318) d_Mo_compute_301 (by decide) (fun h77 => absurd h77 (by decide)) (fun h77 => G_pc (pc' := 304) rfl ?_)
                            refine G_aload (i := 0) (n := 2) (len := 1) (Or.inl ⟨0, rfl, rfl, d_Mo_compute_304⟩) rfl (by decide) (G_pc (pc' := 305) rfl ?_)
                            refine G_get (o := 55) (c := 9) (k := 36) (v := 83) d_Mo_compute_305 fl_Mo_93 rfl (by decide) (by decide) rfl rfl (G_pc (pc' := 308) rfl ?_)
                            refine G_aload (i := 0) (n := 2) (len := 1) (Or.inl ⟨0, rfl, rfl, d_Mo_compute_308⟩) rfl (by decide) (G_pc (pc' := 309) rfl ?_)
                            refine G_get (o := 55) (c := 9) (k := 30) (v := 77) d_Mo_compute_309 fl_Mo_75 rfl (by decide) (by decide) rfl rfl (G_pc (pc' := 312) rfl ?_)
                            refine G_iload (i := 1) (n := 3) (len := 1) (Or.inl ⟨1, rfl, rfl, d_Mo_compute_312⟩) rfl (G_pc (pc' := 313) rfl ?_)
                            refine G_iaload (o := 77) (n := 32) (i := n) (v := M 77 n) d_Mo_compute_313 rfl ⟨by decide, by decide⟩ (by omega) (rd_arr rfl) (fun t78 => G_pc (pc' := 314) rfl ?_)
                            have t78 := tok_i t78
                            refine G_laload (o := 83) (n := 32) (i := M 77 n) (v := M 83 (M 77 n)) d_Mo_compute_314 rfl ⟨by decide, by decide⟩ (by omega) (rd_arr rfl) (fun t79 => G_pc (pc' := 315) rfl ?_)
                            have t79 := tok_l t79
                            refine G_goto (tgt := 329) d_Mo_compute_315 (by decide) ?_
                            refine G_callV (K1 := KE) (d2 := 0) (o := 55) (cl := 9) (as := [vi n, vl (M 83 (M 77 n))]) (rest := []) d_Mo_compute_329 mf_Mo_set ml_Mo_289 rfl rfl (by decide) rfl rfl (Nat.le_of_ble_eq_true rfl) (by omega) ⟨Nat.le_refl _, Nat.le_refl _⟩ (g_Mo_set (by omega) n (M 83 (M 77 n)) _ (by omega)) (fun r80 M81 kq82 q82 => ?_)
                            clear kq82; obtain ⟨q82a, q82b⟩ := q82; subst r80; subst M81
                            refine G_ps (pc' := 332) (st' := []) rfl rfl ?_
                            refine G_goto (tgt := 340) d_Mo_compute_332 (by decide) ?_
                            refine G_vret d_Mo_compute_340 rfl rfl ?_
                            exact ⟨rfl, cmp_v (by first | (exfalso; omega) | (rw [cmpF_44 (by omega)]; first | rw [if_pos (by omega)] | rw [if_neg (by omega)]) | (rw [cmpF_46 (by omega)]; first | rw [if_pos (by omega)] | rw [if_neg (by omega)]))⟩
                  · skip
                    have hq71 := hC.1 (by omega); have hq81 := hC.2.1 (by omega); have hq91 := hC.2.2.1 (by omega)
                    refine G_aload (i := 0) (n := 1) (len := 1) (Or.inl ⟨0, rfl, rfl, d_Mo_compute_204⟩) rfl (by decide) (G_pc (pc' := 205) rfl ?_)
                    refine G_iload (i := 1) (n := 2) (len := 1) (Or.inl ⟨1, rfl, rfl, d_Mo_compute_205⟩) rfl (G_pc (pc' := 206) rfl ?_)
                    refine G_aload (i := 0) (n := 1) (len := 1) (Or.inl ⟨0, rfl, rfl, d_Mo_compute_206⟩) rfl (by decide) (G_pc (pc' := 207) rfl ?_)
                    refine G_get (o := 55) (c := 9) (k := 36) (v := 83) d_Mo_compute_207 fl_Mo_93 rfl (by decide) (by decide) rfl rfl (G_pc (pc' := 210) rfl ?_)
                    refine G_aload (i := 0) (n := 1) (len := 1) (Or.inl ⟨0, rfl, rfl, d_Mo_compute_210⟩) rfl (by decide) (G_pc (pc' := 211) rfl ?_)
                    refine G_get (o := 55) (c := 9) (k := 30) (v := 77) d_Mo_compute_211 fl_Mo_75 rfl (by decide) (by decide) rfl rfl (G_pc (pc' := 214) rfl ?_)
                    refine G_iload (i := 1) (n := 2) (len := 1) (Or.inl ⟨1, rfl, rfl, d_Mo_compute_214⟩) rfl (G_pc (pc' := 215) rfl ?_)
                    refine G_iaload (o := 77) (n := 32) (i := n) (v := M 77 n) d_Mo_compute_215 rfl ⟨by decide, by decide⟩ (by omega) (rd_arr rfl) (fun t83 => G_pc (pc' := 216) rfl ?_)
                    have t83 := tok_i t83
                    refine G_laload (o := 83) (n := 32) (i := M 77 n) (v := M 83 (M 77 n)) d_Mo_compute_216 rfl ⟨by decide, by decide⟩ (by omega) (rd_arr rfl) (fun t84 => G_pc (pc' := 217) rfl ?_)
                    have t84 := tok_l t84
                    refine G_lconst0 d_Mo_compute_217 (G_pc (pc' := 218) rfl ?_)
                    refine G_lcmp_eq (tgt := 236) d_Mo_compute_218 d_Mo_compute_219 (by decide) (fun h85 => ?_) (fun h85 => G_pc (pc' := 222) rfl ?_)
                    · skip
                      refine G_aload (i := 0) (n := 1) (len := 1) (Or.inl ⟨0, rfl, rfl, d_Mo_compute_236⟩) rfl (by decide) (G_pc (pc' := 237) rfl ?_)
                      refine G_get (o := 55) (c := 9) (k := 36) (v := 83) d_Mo_compute_237 fl_Mo_93 rfl (by decide) (by decide) rfl rfl (G_pc (pc' := 240) rfl ?_)
                      refine G_aload (i := 0) (n := 1) (len := 1) (Or.inl ⟨0, rfl, rfl, d_Mo_compute_240⟩) rfl (by decide) (G_pc (pc' := 241) rfl ?_)
                      refine G_get (o := 55) (c := 9) (k := 32) (v := 79) d_Mo_compute_241 fl_Mo_81 rfl (by decide) (by decide) rfl rfl (G_pc (pc' := 244) rfl ?_)
                      refine G_iload (i := 1) (n := 2) (len := 1) (Or.inl ⟨1, rfl, rfl, d_Mo_compute_244⟩) rfl (G_pc (pc' := 245) rfl ?_)
                      refine G_iaload (o := 79) (n := 32) (i := n) (v := M 79 n) d_Mo_compute_245 rfl ⟨by decide, by decide⟩ (by omega) (rd_arr rfl) (fun t86 => G_pc (pc' := 246) rfl ?_)
                      have t86 := tok_i t86
                      refine G_laload (o := 83) (n := 32) (i := M 79 n) (v := M 83 (M 79 n)) d_Mo_compute_246 rfl ⟨by decide, by decide⟩ (by omega) (rd_arr rfl) (fun t87 => G_pc (pc' := 247) rfl ?_)
                      have t87 := tok_l t87
                      refine G_callV (K1 := KE) (d2 := 0) (o := 55) (cl := 9) (as := [vi n, vl (M 83 (M 79 n))]) (rest := []) d_Mo_compute_247 mf_Mo_set ml_Mo_289 rfl rfl (by decide) rfl rfl (Nat.le_of_ble_eq_true rfl) (by omega) ⟨Nat.le_refl _, Nat.le_refl _⟩ (g_Mo_set (by omega) n (M 83 (M 79 n)) _ (by omega)) (fun r88 M89 kq90 q90 => ?_)
                      clear kq90; obtain ⟨q90a, q90b⟩ := q90; subst r88; subst M89
                      refine G_ps (pc' := 250) (st' := []) rfl rfl ?_
                      refine G_goto (tgt := 340) d_Mo_compute_250 (by decide) ?_
                      refine G_vret d_Mo_compute_340 rfl rfl ?_
                      exact ⟨rfl, cmp_v (by rw [cmpF_65 (by omega)]; first | rw [if_pos (by omega)] | rw [if_neg (by omega)])⟩
                    · skip
                      refine G_aload (i := 0) (n := 1) (len := 1) (Or.inl ⟨0, rfl, rfl, d_Mo_compute_222⟩) rfl (by decide) (G_pc (pc' := 223) rfl ?_)
                      refine G_get (o := 55) (c := 9) (k := 36) (v := 83) d_Mo_compute_223 fl_Mo_93 rfl (by decide) (by decide) rfl rfl (G_pc (pc' := 226) rfl ?_)
                      refine G_aload (i := 0) (n := 1) (len := 1) (Or.inl ⟨0, rfl, rfl, d_Mo_compute_226⟩) rfl (by decide) (G_pc (pc' := 227) rfl ?_)
                      refine G_get (o := 55) (c := 9) (k := 31) (v := 78) d_Mo_compute_227 fl_Mo_78 rfl (by decide) (by decide) rfl rfl (G_pc (pc' := 230) rfl ?_)
                      refine G_iload (i := 1) (n := 2) (len := 1) (Or.inl ⟨1, rfl, rfl, d_Mo_compute_230⟩) rfl (G_pc (pc' := 231) rfl ?_)
                      refine G_iaload (o := 78) (n := 32) (i := n) (v := M 78 n) d_Mo_compute_231 rfl ⟨by decide, by decide⟩ (by omega) (rd_arr rfl) (fun t91 => G_pc (pc' := 232) rfl ?_)
                      have t91 := tok_i t91
                      refine G_laload (o := 83) (n := 32) (i := M 78 n) (v := M 83 (M 78 n)) d_Mo_compute_232 rfl ⟨by decide, by decide⟩ (by omega) (rd_arr rfl) (fun t92 => G_pc (pc' := 233) rfl ?_)
                      have t92 := tok_l t92
                      refine G_goto (tgt := 247) d_Mo_compute_233 (by decide) ?_
                      refine G_callV (K1 := KE) (d2 := 0) (o := 55) (cl := 9) (as := [vi n, vl (M 83 (M 78 n))]) (rest := []) d_Mo_compute_247 mf_Mo_set ml_Mo_289 rfl rfl (by decide) rfl rfl (Nat.le_of_ble_eq_true rfl) (by omega) ⟨Nat.le_refl _, Nat.le_refl _⟩ (g_Mo_set (by omega) n (M 83 (M 78 n)) _ (by omega)) (fun r93 M94 kq95 q95 => ?_)
                      clear kq95; obtain ⟨q95a, q95b⟩ := q95; subst r93; subst M94
                      refine G_ps (pc' := 250) (st' := []) rfl rfl ?_
                      refine G_goto (tgt := 340) d_Mo_compute_250 (by decide) ?_
                      refine G_vret d_Mo_compute_340 rfl rfl ?_
                      exact ⟨rfl, cmp_v (by rw [cmpF_65 (by omega)]; first | rw [if_pos (by omega)] | rw [if_neg (by omega)])⟩
                · skip
                  refine G_aload (i := 0) (n := 1) (len := 1) (Or.inl ⟨0, rfl, rfl, d_Mo_compute_190⟩) rfl (by decide) (G_pc (pc' := 191) rfl ?_)
                  refine G_iload (i := 1) (n := 2) (len := 1) (Or.inl ⟨1, rfl, rfl, d_Mo_compute_191⟩) rfl (G_pc (pc' := 192) rfl ?_)
                  refine G_callV (K1 := KE) (d2 := 2) (o := 55) (cl := 9) (as := [vi n]) (rest := []) d_Mo_compute_192 mf_Mo_fit ml_Mo_301 rfl rfl (by decide) rfl rfl (Nat.le_of_ble_eq_true rfl) (by omega) ⟨Nat.le_refl _, Nat.le_refl _⟩ (g_Mo_fit (by omega) n M hP hn (hC.1 (by omega)) (hD.2.1 (by omega)) (by omega) (hD.1 (by omega)) (hD.2.2.2.1 (by omega)) (hD.2.2.2.2 (by omega)) hqk) (fun r96 M97 kq98 q98 => ?_)
                  clear kq98; obtain ⟨q98a, q98b⟩ := q98; subst r96
                  refine G_ps (pc' := 195) (st' := []) rfl rfl ?_
                  refine G_goto (tgt := 340) d_Mo_compute_195 (by decide) ?_
                  refine G_vret d_Mo_compute_340 rfl rfl ?_
                  exact ⟨rfl, by rw [cmpF_f (by omega)]; exact q98b⟩
            · skip
              refine G_aload (i := 0) (n := 1) (len := 1) (Or.inl ⟨0, rfl, rfl, d_Mo_compute_170⟩) rfl (by decide) (G_pc (pc' := 171) rfl ?_)
              refine G_iload (i := 1) (n := 2) (len := 1) (Or.inl ⟨1, rfl, rfl, d_Mo_compute_171⟩) rfl (G_pc (pc' := 172) rfl ?_)
              refine G_callV (K1 := KE) (d2 := 2) (o := 55) (cl := 9) (as := [vi n]) (rest := []) d_Mo_compute_172 mf_Mo_into ml_Mo_298 rfl rfl (by decide) rfl rfl (Nat.le_of_ble_eq_true rfl) (by omega) ⟨Nat.le_refl _, Nat.le_refl _⟩ (g_Mo_into (by omega) n M hn (hC.1 (by omega)) (hD.2.2.1 (by omega)) (fun e9 => hC.2.1 (Or.inr (Or.inl e9))) hC.2.2.2.2 (by omega) hqs) (fun r99 M100 kq101 q101 => ?_)
              clear kq101; obtain ⟨q101a, q101b⟩ := q101; subst r99
              refine G_ps (pc' := 175) (st' := []) rfl rfl ?_
              refine G_goto (tgt := 340) d_Mo_compute_175 (by decide) ?_
              refine G_vret d_Mo_compute_340 rfl rfl ?_
              exact ⟨rfl, by rw [cmpF_i (by omega)]; exact q101b⟩
      · skip
        have hq71 := hC.1 (by omega)
        refine G_aload (i := 0) (n := 1) (len := 1) (Or.inl ⟨0, rfl, rfl, d_Mo_compute_91⟩) rfl (by decide) (G_pc (pc' := 92) rfl ?_)
        refine G_get (o := 55) (c := 9) (k := 36) (v := 83) d_Mo_compute_92 fl_Mo_93 rfl (by decide) (by decide) rfl rfl (G_pc (pc' := 95) rfl ?_)
        refine G_aload (i := 0) (n := 1) (len := 1) (Or.inl ⟨0, rfl, rfl, d_Mo_compute_95⟩) rfl (by decide) (G_pc (pc' := 96) rfl ?_)
        refine G_get (o := 55) (c := 9) (k := 30) (v := 77) d_Mo_compute_96 fl_Mo_75 rfl (by decide) (by decide) rfl rfl (G_pc (pc' := 99) rfl ?_)
        refine G_iload (i := 1) (n := 2) (len := 1) (Or.inl ⟨1, rfl, rfl, d_Mo_compute_99⟩) rfl (G_pc (pc' := 100) rfl ?_)
        refine G_iaload (o := 77) (n := 32) (i := n) (v := M 77 n) d_Mo_compute_100 rfl ⟨by decide, by decide⟩ (by omega) (rd_arr rfl) (fun t102 => G_pc (pc' := 101) rfl ?_)
        have t102 := tok_i t102
        refine G_laload (o := 83) (n := 32) (i := M 77 n) (v := M 83 (M 77 n)) d_Mo_compute_101 rfl ⟨by decide, by decide⟩ (by omega) (rd_arr rfl) (fun t103 => G_pc (pc' := 102) rfl ?_)
        have t103 := tok_l t103
        refine G_lstore (i := 3) (len := 1) (ls' := [(3, vl (M 83 (M 77 n))), (2, vi (M 76 n)), (0, vr 55), (1, vi n)]) (Or.inl ⟨3, rfl, rfl, d_Mo_compute_102⟩) (by decide) rfl (G_pc (pc' := 103) rfl ?_)
        refine G_aload (i := 0) (n := 2) (len := 1) (Or.inl ⟨0, rfl, rfl, d_Mo_compute_103⟩) rfl (by decide) (G_pc (pc' := 104) rfl ?_)
        refine G_iload (i := 1) (n := 3) (len := 1) (Or.inl ⟨1, rfl, rfl, d_Mo_compute_104⟩) rfl (G_pc (pc' := 105) rfl ?_)
        refine G_iload (i := 2) (n := 1) (len := 1) (Or.inl ⟨2, rfl, rfl, d_Mo_compute_105⟩) rfl (G_pc (pc' := 106) rfl ?_)
        refine G_sipush (n := 133) d_Mo_compute_106 (by decide) (G_pc (pc' := 109) rfl ?_)
        refine G_icmp_ne (tgt := 118) d_Mo_compute_109 (by decide) (fun h104 => ?_) (fun h104 => G_pc (pc' := 112) rfl ?_)
        · skip
          refine G_iload (i := 2) (n := 1) (len := 1) (Or.inl ⟨2, rfl, rfl, d_Mo_compute_118⟩) rfl (G_pc (pc' := 119) rfl ?_)
          refine G_sipush (n := 132) d_Mo_compute_119 (by decide) (G_pc (pc' := 122) rfl ?_)
          refine G_icmp_ne (tgt := 133) d_Mo_compute_122 (by decide) (fun h105 => ?_) (fun h105 => G_pc (pc' := 125) rfl ?_)
          · skip
            refine G_iload (i := 2) (n := 1) (len := 1) (Or.inl ⟨2, rfl, rfl, d_Mo_compute_133⟩) rfl (G_pc (pc' := 134) rfl ?_)
            refine G_sipush (n := 128) d_Mo_compute_134 (by decide) (G_pc (pc' := 137) rfl ?_)
            refine G_icmp_ne (tgt := 145) d_Mo_compute_137 (by decide) (fun h106 => ?_) (fun h106 => G_pc (pc' := 140) rfl ?_)
            · skip
              refine G_lload (i := 3) (n := 0) (len := 1) (Or.inl ⟨3, rfl, rfl, d_Mo_compute_145⟩) rfl (G_pc (pc' := 146) rfl ?_)
              refine G_callV (K1 := KE) (d2 := 0) (o := 55) (cl := 9) (as := [vi n, vl (M 83 (M 77 n))]) (rest := []) d_Mo_compute_146 mf_Mo_set ml_Mo_289 rfl rfl (by decide) rfl rfl (Nat.le_of_ble_eq_true rfl) (by omega) ⟨Nat.le_refl _, Nat.le_refl _⟩ (g_Mo_set (by omega) n (M 83 (M 77 n)) _ (by omega)) (fun r107 M108 kq109 q109 => ?_)
              clear kq109; obtain ⟨q109a, q109b⟩ := q109; subst r107; subst M108
              refine G_ps (pc' := 149) (st' := []) rfl rfl ?_
              refine G_goto (tgt := 340) d_Mo_compute_149 (by decide) ?_
              refine G_vret d_Mo_compute_340 rfl rfl ?_
              exact ⟨rfl, cmp_v (by rw [cmpF_u (by omega)]; unfold unF; first | rw [if_pos (by omega)] | rw [if_neg (by omega), if_pos (by omega)] | rw [if_neg (by omega), if_neg (by omega), if_pos (by omega)] | rw [if_neg (by omega), if_neg (by omega), if_neg (by omega)])⟩
            · skip
              refine G_lload (i := 3) (n := 0) (len := 1) (Or.inl ⟨3, rfl, rfl, d_Mo_compute_140⟩) rfl (G_pc (pc' := 141) rfl ?_)
              refine G_lneg d_Mo_compute_141 (G_pc (pc' := 142) rfl ?_)
              refine G_goto (tgt := 146) d_Mo_compute_142 (by decide) ?_
              refine G_callV (K1 := KE) (d2 := 0) (o := 55) (cl := 9) (as := [vi n, vl (o_lneg (M 83 (M 77 n)))]) (rest := []) d_Mo_compute_146 mf_Mo_set ml_Mo_289 rfl rfl (by decide) rfl rfl (Nat.le_of_ble_eq_true rfl) (by omega) ⟨Nat.le_refl _, Nat.le_refl _⟩ (g_Mo_set (by omega) n (o_lneg (M 83 (M 77 n))) _ (by omega)) (fun r110 M111 kq112 q112 => ?_)
              clear kq112; obtain ⟨q112a, q112b⟩ := q112; subst r110; subst M111
              refine G_ps (pc' := 149) (st' := []) rfl rfl ?_
              refine G_goto (tgt := 340) d_Mo_compute_149 (by decide) ?_
              refine G_vret d_Mo_compute_340 rfl rfl ?_
              exact ⟨rfl, cmp_v (by rw [cmpF_u (by omega)]; unfold unF; first | rw [if_pos (by omega)] | rw [if_neg (by omega), if_pos (by omega)] | rw [if_neg (by omega), if_neg (by omega), if_pos (by omega)] | rw [if_neg (by omega), if_neg (by omega), if_neg (by omega)])⟩
          · skip
            refine G_lload (i := 3) (n := 0) (len := 1) (Or.inl ⟨3, rfl, rfl, d_Mo_compute_125⟩) rfl (G_pc (pc' := 126) rfl ?_)
            refine G_ldc2 (x := (-1)) d_Mo_compute_126 k2_Mo_296 (by decide) (G_pc (pc' := 129) rfl ?_)
            refine G_lxor d_Mo_compute_129 (G_pc (pc' := 130) rfl ?_)
            refine G_goto (tgt := 146) d_Mo_compute_130 (by decide) ?_
            refine G_callV (K1 := KE) (d2 := 0) (o := 55) (cl := 9) (as := [vi n, vl (o_lxor (M 83 (M 77 n)) (-1))]) (rest := []) d_Mo_compute_146 mf_Mo_set ml_Mo_289 rfl rfl (by decide) rfl rfl (Nat.le_of_ble_eq_true rfl) (by omega) ⟨Nat.le_refl _, Nat.le_refl _⟩ (g_Mo_set (by omega) n (o_lxor (M 83 (M 77 n)) (-1)) _ (by omega)) (fun r113 M114 kq115 q115 => ?_)
            clear kq115; obtain ⟨q115a, q115b⟩ := q115; subst r113; subst M114
            refine G_ps (pc' := 149) (st' := []) rfl rfl ?_
            refine G_goto (tgt := 340) d_Mo_compute_149 (by decide) ?_
            refine G_vret d_Mo_compute_340 rfl rfl ?_
            exact ⟨rfl, cmp_v (by rw [cmpF_u (by omega)]; unfold unF; first | rw [if_pos (by omega)] | rw [if_neg (by omega), if_pos (by omega)] | rw [if_neg (by omega), if_neg (by omega), if_pos (by omega)] | rw [if_neg (by omega), if_neg (by omega), if_neg (by omega)])⟩
        · skip
          refine G_lconst1 d_Mo_compute_112 (G_pc (pc' := 113) rfl ?_)
          refine G_lload (i := 3) (n := 0) (len := 1) (Or.inl ⟨3, rfl, rfl, d_Mo_compute_113⟩) rfl (G_pc (pc' := 114) rfl ?_)
          refine G_lsub d_Mo_compute_114 (G_pc (pc' := 115) rfl ?_)
          refine G_goto (tgt := 146) d_Mo_compute_115 (by decide) ?_
          refine G_callV (K1 := KE) (d2 := 0) (o := 55) (cl := 9) (as := [vi n, vl (o_lsub 1 (M 83 (M 77 n)))]) (rest := []) d_Mo_compute_146 mf_Mo_set ml_Mo_289 rfl rfl (by decide) rfl rfl (Nat.le_of_ble_eq_true rfl) (by omega) ⟨Nat.le_refl _, Nat.le_refl _⟩ (g_Mo_set (by omega) n (o_lsub 1 (M 83 (M 77 n))) _ (by omega)) (fun r116 M117 kq118 q118 => ?_)
          clear kq118; obtain ⟨q118a, q118b⟩ := q118; subst r116; subst M117
          refine G_ps (pc' := 149) (st' := []) rfl rfl ?_
          refine G_goto (tgt := 340) d_Mo_compute_149 (by decide) ?_
          refine G_vret d_Mo_compute_340 rfl rfl ?_
          exact ⟨rfl, cmp_v (by rw [cmpF_u (by omega)]; unfold unF; first | rw [if_pos (by omega)] | rw [if_neg (by omega), if_pos (by omega)] | rw [if_neg (by omega), if_neg (by omega), if_pos (by omega)] | rw [if_neg (by omega), if_neg (by omega), if_neg (by omega)])⟩
    · skip
      refine G_iload (i := 2) (n := 0) (len := 1) (Or.inl ⟨2, rfl, rfl, d_Mo_compute_42⟩) rfl (G_pc (pc' := 43) rfl ?_)
      refine G_bipush (n := 6) d_Mo_compute_43 (by decide) (G_pc (pc' := 45) rfl ?_)
      refine G_icmp_ne (tgt := 53) d_Mo_compute_45 (by decide) (fun h119 => ?_) (fun h119 => G_pc (pc' := 48) rfl ?_)
      · skip
        have hqn1 := hC.2.2.2.1 (by omega)
        refine G_aload (i := 0) (n := 1) (len := 1) (Or.inl ⟨0, rfl, rfl, d_Mo_compute_53⟩) rfl (by decide) (G_pc (pc' := 54) rfl ?_)
        refine G_get (o := 55) (c := 9) (k := 33) (v := 80) d_Mo_compute_54 fl_Mo_84 rfl (by decide) (by decide) rfl rfl (G_pc (pc' := 57) rfl ?_)
        refine G_iload (i := 1) (n := 2) (len := 1) (Or.inl ⟨1, rfl, rfl, d_Mo_compute_57⟩) rfl (G_pc (pc' := 58) rfl ?_)
        refine G_laload (o := 80) (n := 32) (i := n) (v := M 80 n) d_Mo_compute_58 rfl ⟨by decide, by decide⟩ (by omega) (rd_arr rfl) (fun t120 => G_pc (pc' := 59) rfl ?_)
        have t120 := tok_l t120
        refine G_l2i d_Mo_compute_59 (G_pc (pc' := 60) rfl ?_)
        refine G_istore (i := 3) (len := 1) (ls' := [(3, vi (w32 (M 80 n))), (2, vi (M 76 n)), (0, vr 55), (1, vi n)]) (Or.inl ⟨3, rfl, rfl, d_Mo_compute_60⟩) (by decide) rfl (G_pc (pc' := 61) rfl ?_)
        refine G_aload (i := 0) (n := 2) (len := 1) (Or.inl ⟨0, rfl, rfl, d_Mo_compute_61⟩) rfl (by decide) (G_pc (pc' := 62) rfl ?_)
        refine G_iconst (n := 0) d_Mo_compute_62 (by decide) (G_pc (pc' := 63) rfl ?_)
        refine G_iload (i := 3) (n := 0) (len := 1) (Or.inl ⟨3, rfl, rfl, d_Mo_compute_63⟩) rfl (G_pc (pc' := 64) rfl ?_)
        refine G_iconst (n := 0) d_Mo_compute_64 (by decide) (G_pc (pc' := 65) rfl ?_)
        refine G_callV (K1 := KE) (d2 := 1) (o := 55) (cl := 9) (as := [vi 0, vi (w32 (M 80 n)), vi 0]) (rest := []) d_Mo_compute_65 mf_Mo_has ml_Mo_292 rfl rfl (by decide) rfl rfl (Nat.le_of_ble_eq_true rfl) (by omega) ⟨Nat.le_refl _, Nat.le_refl _⟩ (g_Mo_has (by omega) 0 (w32 (M 80 n)) 0 _ (by omega) (by omega) (by first | (simp [pieceM]; done) | (simp [pieceM]; omega))) (fun r121 M122 kq123 q123 => ?_)
        clear kq123; obtain ⟨q123a, q123b⟩ := q123; subst r121; subst M122
        refine G_ps (pc' := 68) (st' := [vi (M 71 (pieceM 0 (w32 (M 80 n)) 0))]) rfl rfl ?_
        refine G_if_eq (tgt := 82) d_Mo_compute_68 (by decide) (fun h124 => ?_) (fun h124 => G_pc (pc' := 71) rfl ?_)
        · skip
          refine G_goto (tgt := 340) d_Mo_compute_82 (by decide) ?_
          refine G_vret d_Mo_compute_340 rfl rfl ?_
          exact ⟨rfl, cmp_p (by rw [cmpF_7 (by omega)]; unfold needF; (first | rw [if_pos (by simp only [pieceM_0] at *; omega)] | rw [if_neg (by simp only [pieceM_0] at *; omega)]) <;> first | rfl | simp only [pieceM_0]) (by omega) (by first | (simp [pieceM]; done) | (simp [pieceM]; omega))⟩
        · skip
          refine G_aload (i := 0) (n := 2) (len := 1) (Or.inl ⟨0, rfl, rfl, d_Mo_compute_71⟩) rfl (by decide) (G_pc (pc' := 72) rfl ?_)
          refine G_iload (i := 1) (n := 3) (len := 1) (Or.inl ⟨1, rfl, rfl, d_Mo_compute_72⟩) rfl (G_pc (pc' := 73) rfl ?_)
          refine G_aload (i := 0) (n := 2) (len := 1) (Or.inl ⟨0, rfl, rfl, d_Mo_compute_73⟩) rfl (by decide) (G_pc (pc' := 74) rfl ?_)
          refine G_get (o := 55) (c := 9) (k := 4) (v := 59) d_Mo_compute_74 fl_Mo_19 rfl (by decide) (by decide) rfl rfl (G_pc (pc' := 77) rfl ?_)
          refine G_iload (i := 3) (n := 0) (len := 1) (Or.inl ⟨3, rfl, rfl, d_Mo_compute_77⟩) rfl (G_pc (pc' := 78) rfl ?_)
          refine G_laload (o := 59) (n := 27) (i := w32 (M 80 n)) (v := M 59 (w32 (M 80 n))) d_Mo_compute_78 rfl ⟨by decide, by decide⟩ (by omega) (rd_arr rfl) (fun t125 => G_pc (pc' := 79) rfl ?_)
          have t125 := tok_l t125
          refine G_callV (K1 := KE) (d2 := 0) (o := 55) (cl := 9) (as := [vi n, vl (M 59 (w32 (M 80 n)))]) (rest := []) d_Mo_compute_79 mf_Mo_set ml_Mo_289 rfl rfl (by decide) rfl rfl (Nat.le_of_ble_eq_true rfl) (by omega) ⟨Nat.le_refl _, Nat.le_refl _⟩ (g_Mo_set (by omega) n (M 59 (w32 (M 80 n))) _ (by omega)) (fun r126 M127 kq128 q128 => ?_)
          clear kq128; obtain ⟨q128a, q128b⟩ := q128; subst r126; subst M127
          refine G_ps (pc' := 82) (st' := []) rfl rfl ?_
          refine G_goto (tgt := 340) d_Mo_compute_82 (by decide) ?_
          refine G_vret d_Mo_compute_340 rfl rfl ?_
          exact ⟨rfl, cmp_vh (by rw [cmpF_7 (by omega)]; unfold needF; (first | rw [if_pos (by simp only [pieceM_0] at *; omega)] | rw [if_neg (by simp only [pieceM_0] at *; omega)]) <;> first | rfl | simp only [pieceM_0])⟩
      · skip
        refine G_bipush (n := 26) d_Mo_compute_48 (by decide) (G_pc (pc' := 50) rfl ?_)
        refine G_goto (tgt := 60) d_Mo_compute_50 (by decide) ?_
        refine G_istore (i := 3) (len := 1) (ls' := [(3, vi 26), (2, vi (M 76 n)), (0, vr 55), (1, vi n)]) (Or.inl ⟨3, rfl, rfl, d_Mo_compute_60⟩) (by decide) rfl (G_pc (pc' := 61) rfl ?_)
        refine G_aload (i := 0) (n := 2) (len := 1) (Or.inl ⟨0, rfl, rfl, d_Mo_compute_61⟩) rfl (by decide) (G_pc (pc' := 62) rfl ?_)
        refine G_iconst (n := 0) d_Mo_compute_62 (by decide) (G_pc (pc' := 63) rfl ?_)
        refine G_iload (i := 3) (n := 0) (len := 1) (Or.inl ⟨3, rfl, rfl, d_Mo_compute_63⟩) rfl (G_pc (pc' := 64) rfl ?_)
        refine G_iconst (n := 0) d_Mo_compute_64 (by decide) (G_pc (pc' := 65) rfl ?_)
        refine G_callV (K1 := KE) (d2 := 1) (o := 55) (cl := 9) (as := [vi 0, vi 26, vi 0]) (rest := []) d_Mo_compute_65 mf_Mo_has ml_Mo_292 rfl rfl (by decide) rfl rfl (Nat.le_of_ble_eq_true rfl) (by omega) ⟨Nat.le_refl _, Nat.le_refl _⟩ (g_Mo_has (by omega) 0 26 0 _ (by omega) (by omega) (by first | (simp [pieceM]; done) | (simp [pieceM]; omega))) (fun r129 M130 kq131 q131 => ?_)
        clear kq131; obtain ⟨q131a, q131b⟩ := q131; subst r129; subst M130
        refine G_ps (pc' := 68) (st' := [vi (M 71 (pieceM 0 26 0))]) rfl rfl ?_
        refine G_if_eq (tgt := 82) d_Mo_compute_68 (by decide) (fun h132 => ?_) (fun h132 => G_pc (pc' := 71) rfl ?_)
        · skip
          refine G_goto (tgt := 340) d_Mo_compute_82 (by decide) ?_
          refine G_vret d_Mo_compute_340 rfl rfl ?_
          exact ⟨rfl, cmp_p (by rw [cmpF_6 (by omega)]; unfold needF; (first | rw [if_pos (by simp only [pieceM_0] at *; omega)] | rw [if_neg (by simp only [pieceM_0] at *; omega)]) <;> first | rfl | simp only [pieceM_0]) (by omega) (by first | (simp [pieceM]; done) | (simp [pieceM]; omega))⟩
        · skip
          refine G_aload (i := 0) (n := 2) (len := 1) (Or.inl ⟨0, rfl, rfl, d_Mo_compute_71⟩) rfl (by decide) (G_pc (pc' := 72) rfl ?_)
          refine G_iload (i := 1) (n := 3) (len := 1) (Or.inl ⟨1, rfl, rfl, d_Mo_compute_72⟩) rfl (G_pc (pc' := 73) rfl ?_)
          refine G_aload (i := 0) (n := 2) (len := 1) (Or.inl ⟨0, rfl, rfl, d_Mo_compute_73⟩) rfl (by decide) (G_pc (pc' := 74) rfl ?_)
          refine G_get (o := 55) (c := 9) (k := 4) (v := 59) d_Mo_compute_74 fl_Mo_19 rfl (by decide) (by decide) rfl rfl (G_pc (pc' := 77) rfl ?_)
          refine G_iload (i := 3) (n := 0) (len := 1) (Or.inl ⟨3, rfl, rfl, d_Mo_compute_77⟩) rfl (G_pc (pc' := 78) rfl ?_)
          refine G_laload (o := 59) (n := 27) (i := 26) (v := M 59 26) d_Mo_compute_78 rfl ⟨by decide, by decide⟩ (by omega) (rd_arr rfl) (fun t133 => G_pc (pc' := 79) rfl ?_)
          have t133 := tok_l t133
          refine G_callV (K1 := KE) (d2 := 0) (o := 55) (cl := 9) (as := [vi n, vl (M 59 26)]) (rest := []) d_Mo_compute_79 mf_Mo_set ml_Mo_289 rfl rfl (by decide) rfl rfl (Nat.le_of_ble_eq_true rfl) (by omega) ⟨Nat.le_refl _, Nat.le_refl _⟩ (g_Mo_set (by omega) n (M 59 26) _ (by omega)) (fun r134 M135 kq136 q136 => ?_)
          clear kq136; obtain ⟨q136a, q136b⟩ := q136; subst r134; subst M135
          refine G_ps (pc' := 82) (st' := []) rfl rfl ?_
          refine G_goto (tgt := 340) d_Mo_compute_82 (by decide) ?_
          refine G_vret d_Mo_compute_340 rfl rfl ?_
          exact ⟨rfl, cmp_vh (by rw [cmpF_6 (by omega)]; unfold needF; (first | rw [if_pos (by simp only [pieceM_0] at *; omega)] | rw [if_neg (by simp only [pieceM_0] at *; omega)]) <;> first | rfl | simp only [pieceM_0])⟩
  · skip
    refine G_aload (i := 0) (n := 1) (len := 1) (Or.inl ⟨0, rfl, rfl, d_Mo_compute_13⟩) rfl (by decide) (G_pc (pc' := 14) rfl ?_)
    refine G_iload (i := 1) (n := 2) (len := 1) (Or.inl ⟨1, rfl, rfl, d_Mo_compute_14⟩) rfl (G_pc (pc' := 15) rfl ?_)
    refine G_iload (i := 2) (n := 0) (len := 1) (Or.inl ⟨2, rfl, rfl, d_Mo_compute_15⟩) rfl (G_pc (pc' := 16) rfl ?_)
    refine G_iconst (n := 5) d_Mo_compute_16 (by decide) (G_pc (pc' := 17) rfl ?_)
    refine G_icmp_ne (tgt := 24) d_Mo_compute_17 (by decide) (fun h137 => ?_) (fun h137 => G_pc (pc' := 20) rfl ?_)
    · skip
      refine G_aload (i := 0) (n := 1) (len := 1) (Or.inl ⟨0, rfl, rfl, d_Mo_compute_24⟩) rfl (by decide) (G_pc (pc' := 25) rfl ?_)
      refine G_get (o := 55) (c := 9) (k := 33) (v := 80) d_Mo_compute_25 fl_Mo_84 rfl (by decide) (by decide) rfl rfl (G_pc (pc' := 28) rfl ?_)
      refine G_iload (i := 1) (n := 2) (len := 1) (Or.inl ⟨1, rfl, rfl, d_Mo_compute_28⟩) rfl (G_pc (pc' := 29) rfl ?_)
      refine G_laload (o := 80) (n := 32) (i := n) (v := M 80 n) d_Mo_compute_29 rfl ⟨by decide, by decide⟩ (by omega) (rd_arr rfl) (fun t138 => G_pc (pc' := 30) rfl ?_)
      have t138 := tok_l t138
      refine G_callV (K1 := KE) (d2 := 0) (o := 55) (cl := 9) (as := [vi n, vl (M 80 n)]) (rest := []) d_Mo_compute_30 mf_Mo_set ml_Mo_289 rfl rfl (by decide) rfl rfl (Nat.le_of_ble_eq_true rfl) (by omega) ⟨Nat.le_refl _, Nat.le_refl _⟩ (g_Mo_set (by omega) n (M 80 n) _ (by omega)) (fun r139 M140 kq141 q141 => ?_)
      clear kq141; obtain ⟨q141a, q141b⟩ := q141; subst r139; subst M140
      refine G_ps (pc' := 33) (st' := []) rfl rfl ?_
      refine G_goto (tgt := 340) d_Mo_compute_33 (by decide) ?_
      refine G_vret d_Mo_compute_340 rfl rfl ?_
      exact ⟨rfl, cmp_v (by rw [cmpF_a (by omega)]; first | rw [if_pos (by omega)] | rw [if_neg (by omega)])⟩
    · skip
      refine G_lconst0 d_Mo_compute_20 (G_pc (pc' := 21) rfl ?_)
      refine G_goto (tgt := 30) d_Mo_compute_21 (by decide) ?_
      refine G_callV (K1 := KE) (d2 := 0) (o := 55) (cl := 9) (as := [vi n, vl 0]) (rest := []) d_Mo_compute_30 mf_Mo_set ml_Mo_289 rfl rfl (by decide) rfl rfl (Nat.le_of_ble_eq_true rfl) (by omega) ⟨Nat.le_refl _, Nat.le_refl _⟩ (g_Mo_set (by omega) n 0 _ (by omega)) (fun r142 M143 kq144 q144 => ?_)
      clear kq144; obtain ⟨q144a, q144b⟩ := q144; subst r142; subst M143
      refine G_ps (pc' := 33) (st' := []) rfl rfl ?_
      refine G_goto (tgt := 340) d_Mo_compute_33 (by decide) ?_
      refine G_vret d_Mo_compute_340 rfl rfl ?_
      exact ⟨rfl, cmp_v (by rw [cmpF_a (by omega)]; first | rw [if_pos (by omega)] | rw [if_neg (by omega)])⟩

