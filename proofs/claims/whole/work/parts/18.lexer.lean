theorem ladd_w {a b : Int} : o_ladd a b = w64 (a + b) := by
  unfold o_ladd w64
  rw [← Int64.ofInt_add, Int64.toInt_ofInt]
theorem lsub_w {a b : Int} : o_lsub a b = w64 (a - b) := by
  unfold o_lsub w64
  rw [← Int64.ofInt_sub, Int64.toInt_ofInt]
theorem lmul_w {a b : Int} : o_lmul a b = w64 (a * b) := by
  unfold o_lmul w64
  rw [← Int64.ofInt_mul, Int64.toInt_ofInt]
theorem dig_e {v c : Int} (hv : 0 ≤ v ∧ v ≤ 100000000000000000) (hc : 48 ≤ c ∧ c ≤ 57) : o_lsub (o_ladd (o_lmul 10 v) c) 48 = 10 * v + c - 48 := by
  rw [lmul_w, w64_id (by omega), ladd_w, w64_id (by omega), lsub_w, w64_id (by omega)]
def runE (p : Int → Bool) (f : Int → Int) : Nat → Int → Int
  | 0, k => k
  | n + 1, k => if p (f k) = true then runE p f n (k + 1) else k
theorem runE_t {p : Int → Bool} {f : Int → Int} {n : Nat} {k : Int} (h : p (f k) = true) : runE p f (n + 1) k = runE p f n (k + 1) := by simp [runE, h]
theorem runE_f {p : Int → Bool} {f : Int → Int} {n : Nat} {k : Int} (h : ¬ p (f k) = true) : runE p f n k = k := by cases n <;> simp [runE, h]
theorem runE_le {p : Int → Bool} {f : Int → Int} : ∀ {n : Nat} {k : Int}, k ≤ runE p f n k ∧ runE p f n k ≤ k + n := by
  intro n
  induction n with
  | zero => intro k; simp [runE]
  | succ n ih => intro k; unfold runE; have := @ih (k + 1); split <;> omega
def wvE (f : Int → Int) : Nat → Int → Int → Int
  | 0, _, v => v
  | n + 1, k, v => if letB (f k) = true then wvE f n (k + 1) (o_lor (o_lshl v 6) (f k - 64)) else v
theorem wvE_t {f : Int → Int} {n : Nat} {k v : Int} (h : letB (f k) = true) : wvE f (n + 1) k v = wvE f n (k + 1) (o_lor (o_lshl v 6) (f k - 64)) := by simp [wvE, h]
theorem wvE_f {f : Int → Int} {n : Nat} {k v : Int} (h : ¬ letB (f k) = true) : wvE f n k v = v := by cases n <;> simp [wvE, h]
def wkA (n v : Int) : Int := if 10 < n then 0 else if v = spellV 52 50 53 37 0 then 4 else if v = spellV 38 33 44 51 37 then 15 else if v = spellV 46 53 44 44 0 then 5 else if v = spellV 52 40 41 51 0 then 6 else if v = spellV 41 46 52 0 0 then 9 else if v = spellV 44 47 46 39 0 then 10 else if v = spellV 35 40 33 50 0 then 11 else 0
def wkB (n v : Int) : Int := if wkA n v = 0 ∧ n = 7 then (if v = o_lor (o_lor (o_lshl (spellV 34 47 47 44 37) 12) 2112) 46 then 12 else 0) else wkA n v
def wkC (n v : Int) : Int := if wkB n v = 0 ∧ n = 6 then (if v = o_lor (o_lshl (spellV 44 37 46 39 52) 6) 40 then 14 else 0) else wkB n v
def wkT (n v : Int) : Int := if wkC n v = 0 ∧ n = 10 then (if v = o_lor (o_lshl (spellV 41 46 51 52 33) 30) (spellV 46 35 37 47 38) then 13 else 0) else wkC n v
/-- a token: its end, its code, its worth, whether it is wrong -/
abbrev TK := Int × Int × Int × Int
def wordT1 (k c : Int) : TK := (k, if smaB c = true then 7 else 8, if smaB c = true then c - 97 else c - 65, if smaB c = true then 0 else if 70 < c then 1 else 0)
def wordT2 (k t : Int) : TK := (k, if t = 15 then 4 else t, if t = 4 then 1 else 0, if t = 0 then 1 else 0)
def wordT (f : Int → Int) (a : Int) : TK := if runE letB f (40 - a).toNat a - a = 1 then wordT1 (runE letB f (40 - a).toNat a) (f a) else wordT2 (runE letB f (40 - a).toNat a) (wkT (runE letB f (40 - a).toNat a - a) (wvE f (40 - a).toNat a 0))
theorem wordT_1 {f : Int → Int} {a k : Int} (hE : runE letB f (40 - a).toNat a = k) (h : k - a = 1) : wordT f a = wordT1 k (f a) := by
  unfold wordT; rw [hE, if_pos h]
theorem wordT_2 {f : Int → Int} {a k v : Int} (hE : runE letB f (40 - a).toNat a = k) (hV : wvE f (40 - a).toNat a 0 = v) (h : ¬ k - a = 1) : wordT f a = wordT2 k (wkT (k - a) v) := by
  unfold wordT; rw [hE, hV, if_neg h]
def tokM (M : Mem) (T : TK) : Mem := addM (mset M 55 44 T.2.2.2) T.2.1 T.2.2.1
theorem d_Mo_word_0 : decode b_Mo_word 0 = .ok (.iload_n 2, 1) := by decide +kernel
theorem d_Mo_word_1 : decode b_Mo_word 1 = .ok (.istore_n 3, 1) := by decide +kernel
theorem d_Mo_word_2 : decode b_Mo_word 2 = .ok (.lconst 0, 1) := by decide +kernel
theorem d_Mo_word_3 : decode b_Mo_word 3 = .ok (.lstore 4, 2) := by decide +kernel
theorem d_Mo_word_5 : decode b_Mo_word 5 = .ok (.aload_n 0, 1) := by decide +kernel
theorem d_Mo_word_6 : decode b_Mo_word 6 = .ok (.iload_n 1, 1) := by decide +kernel
theorem d_Mo_word_7 : decode b_Mo_word 7 = .ok (.iload_n 3, 1) := by decide +kernel
theorem d_Mo_word_8 : decode b_Mo_word 8 = .ok (.invokevirtual 169, 3) := by decide +kernel
theorem d_Mo_word_11 : decode b_Mo_word 11 = .ok (.invokestatic 172, 3) := by decide +kernel
theorem d_Mo_word_14 : decode b_Mo_word 14 = .ok (.ifCond .eq 27, 3) := by decide +kernel
theorem d_Mo_word_17 : decode b_Mo_word 17 = .ok (.lload 4, 2) := by decide +kernel
theorem d_Mo_word_19 : decode b_Mo_word 19 = .ok (.bipush 6, 2) := by decide +kernel
theorem d_Mo_word_21 : decode b_Mo_word 21 = .ok (.lshl, 1) := by decide +kernel
theorem d_Mo_word_22 : decode b_Mo_word 22 = .ok (.aload_n 0, 1) := by decide +kernel
theorem d_Mo_word_23 : decode b_Mo_word 23 = .ok (.iload_n 1, 1) := by decide +kernel
theorem d_Mo_word_24 : decode b_Mo_word 24 = .ok (.iload_n 3, 1) := by decide +kernel
theorem d_Mo_word_25 : decode b_Mo_word 25 = .ok (.invokevirtual 169, 3) := by decide +kernel
theorem d_Mo_word_28 : decode b_Mo_word 28 = .ok (.bipush 64, 2) := by decide +kernel
theorem d_Mo_word_30 : decode b_Mo_word 30 = .ok (.isub, 1) := by decide +kernel
theorem d_Mo_word_31 : decode b_Mo_word 31 = .ok (.i2l, 1) := by decide +kernel
theorem d_Mo_word_32 : decode b_Mo_word 32 = .ok (.lor, 1) := by decide +kernel
theorem d_Mo_word_33 : decode b_Mo_word 33 = .ok (.lstore 4, 2) := by decide +kernel
theorem d_Mo_word_35 : decode b_Mo_word 35 = .ok (.iinc 3 1, 3) := by decide +kernel
theorem d_Mo_word_38 : decode b_Mo_word 38 = .ok (.goto (-33), 3) := by decide +kernel
theorem d_Mo_word_41 : decode b_Mo_word 41 = .ok (.iload_n 3, 1) := by decide +kernel
theorem d_Mo_word_42 : decode b_Mo_word 42 = .ok (.iload_n 2, 1) := by decide +kernel
theorem d_Mo_word_43 : decode b_Mo_word 43 = .ok (.isub, 1) := by decide +kernel
theorem d_Mo_word_44 : decode b_Mo_word 44 = .ok (.istore 6, 2) := by decide +kernel
theorem d_Mo_word_46 : decode b_Mo_word 46 = .ok (.iload 6, 2) := by decide +kernel
theorem d_Mo_word_48 : decode b_Mo_word 48 = .ok (.iconst 1, 1) := by decide +kernel
theorem d_Mo_word_49 : decode b_Mo_word 49 = .ok (.if_icmp .ne 79, 3) := by decide +kernel
theorem d_Mo_word_52 : decode b_Mo_word 52 = .ok (.aload_n 0, 1) := by decide +kernel
theorem d_Mo_word_53 : decode b_Mo_word 53 = .ok (.iload_n 1, 1) := by decide +kernel
theorem d_Mo_word_54 : decode b_Mo_word 54 = .ok (.iload_n 2, 1) := by decide +kernel
theorem d_Mo_word_55 : decode b_Mo_word 55 = .ok (.invokevirtual 169, 3) := by decide +kernel
theorem d_Mo_word_58 : decode b_Mo_word 58 = .ok (.istore 7, 2) := by decide +kernel
theorem d_Mo_word_60 : decode b_Mo_word 60 = .ok (.aload_n 0, 1) := by decide +kernel
theorem d_Mo_word_61 : decode b_Mo_word 61 = .ok (.iload 7, 2) := by decide +kernel
theorem d_Mo_word_63 : decode b_Mo_word 63 = .ok (.invokestatic 160, 3) := by decide +kernel
theorem d_Mo_word_66 : decode b_Mo_word 66 = .ok (.ifCond .ne 14, 3) := by decide +kernel
theorem d_Mo_word_69 : decode b_Mo_word 69 = .ok (.iload 7, 2) := by decide +kernel
theorem d_Mo_word_71 : decode b_Mo_word 71 = .ok (.bipush 70, 2) := by decide +kernel
theorem d_Mo_word_73 : decode b_Mo_word 73 = .ok (.if_icmp .le 7, 3) := by decide +kernel
theorem d_Mo_word_76 : decode b_Mo_word 76 = .ok (.iconst 1, 1) := by decide +kernel
theorem d_Mo_word_77 : decode b_Mo_word 77 = .ok (.goto 4, 3) := by decide +kernel
theorem d_Mo_word_80 : decode b_Mo_word 80 = .ok (.iconst 0, 1) := by decide +kernel
theorem d_Mo_word_81 : decode b_Mo_word 81 = .ok (.putfield 166, 3) := by decide +kernel
theorem d_Mo_word_84 : decode b_Mo_word 84 = .ok (.aload_n 0, 1) := by decide +kernel
theorem d_Mo_word_85 : decode b_Mo_word 85 = .ok (.iload 7, 2) := by decide +kernel
theorem d_Mo_word_87 : decode b_Mo_word 87 = .ok (.invokestatic 160, 3) := by decide +kernel
theorem d_Mo_word_90 : decode b_Mo_word 90 = .ok (.ifCond .eq 8, 3) := by decide +kernel
theorem d_Mo_word_93 : decode b_Mo_word 93 = .ok (.bipush 7, 2) := by decide +kernel
theorem d_Mo_word_95 : decode b_Mo_word 95 = .ok (.goto 5, 3) := by decide +kernel
theorem d_Mo_word_98 : decode b_Mo_word 98 = .ok (.bipush 8, 2) := by decide +kernel
theorem d_Mo_word_100 : decode b_Mo_word 100 = .ok (.iload 7, 2) := by decide +kernel
theorem d_Mo_word_102 : decode b_Mo_word 102 = .ok (.invokestatic 160, 3) := by decide +kernel
theorem d_Mo_word_105 : decode b_Mo_word 105 = .ok (.ifCond .eq 12, 3) := by decide +kernel
theorem d_Mo_word_108 : decode b_Mo_word 108 = .ok (.iload 7, 2) := by decide +kernel
theorem d_Mo_word_110 : decode b_Mo_word 110 = .ok (.bipush 97, 2) := by decide +kernel
theorem d_Mo_word_112 : decode b_Mo_word 112 = .ok (.isub, 1) := by decide +kernel
theorem d_Mo_word_113 : decode b_Mo_word 113 = .ok (.i2l, 1) := by decide +kernel
theorem d_Mo_word_114 : decode b_Mo_word 114 = .ok (.goto 9, 3) := by decide +kernel
theorem d_Mo_word_117 : decode b_Mo_word 117 = .ok (.iload 7, 2) := by decide +kernel
theorem d_Mo_word_119 : decode b_Mo_word 119 = .ok (.bipush 65, 2) := by decide +kernel
theorem d_Mo_word_121 : decode b_Mo_word 121 = .ok (.isub, 1) := by decide +kernel
theorem d_Mo_word_122 : decode b_Mo_word 122 = .ok (.i2l, 1) := by decide +kernel
theorem d_Mo_word_123 : decode b_Mo_word 123 = .ok (.invokevirtual 184, 3) := by decide +kernel
theorem d_Mo_word_126 : decode b_Mo_word 126 = .ok (.iload_n 3, 1) := by decide +kernel
theorem d_Mo_word_127 : decode b_Mo_word 127 = .ok (.ireturn, 1) := by decide +kernel
theorem d_Mo_word_128 : decode b_Mo_word 128 = .ok (.iload 6, 2) := by decide +kernel
theorem d_Mo_word_130 : decode b_Mo_word 130 = .ok (.bipush 10, 2) := by decide +kernel
theorem d_Mo_word_132 : decode b_Mo_word 132 = .ok (.if_icmp .le 7, 3) := by decide +kernel
theorem d_Mo_word_135 : decode b_Mo_word 135 = .ok (.iconst 0, 1) := by decide +kernel
theorem d_Mo_word_136 : decode b_Mo_word 136 = .ok (.goto 163, 3) := by decide +kernel
theorem d_Mo_word_139 : decode b_Mo_word 139 = .ok (.lload 4, 2) := by decide +kernel
theorem d_Mo_word_141 : decode b_Mo_word 141 = .ok (.bipush 52, 2) := by decide +kernel
theorem d_Mo_word_143 : decode b_Mo_word 143 = .ok (.bipush 50, 2) := by decide +kernel
theorem d_Mo_word_145 : decode b_Mo_word 145 = .ok (.bipush 53, 2) := by decide +kernel
theorem d_Mo_word_147 : decode b_Mo_word 147 = .ok (.bipush 37, 2) := by decide +kernel
theorem d_Mo_word_149 : decode b_Mo_word 149 = .ok (.iconst 0, 1) := by decide +kernel
theorem d_Mo_word_150 : decode b_Mo_word 150 = .ok (.invokestatic 191, 3) := by decide +kernel
theorem d_Mo_word_153 : decode b_Mo_word 153 = .ok (.lcmp, 1) := by decide +kernel
theorem d_Mo_word_154 : decode b_Mo_word 154 = .ok (.ifCond .ne 7, 3) := by decide +kernel
theorem d_Mo_word_157 : decode b_Mo_word 157 = .ok (.iconst 4, 1) := by decide +kernel
theorem d_Mo_word_158 : decode b_Mo_word 158 = .ok (.goto 141, 3) := by decide +kernel
theorem d_Mo_word_161 : decode b_Mo_word 161 = .ok (.lload 4, 2) := by decide +kernel
theorem d_Mo_word_163 : decode b_Mo_word 163 = .ok (.bipush 38, 2) := by decide +kernel
theorem d_Mo_word_165 : decode b_Mo_word 165 = .ok (.bipush 33, 2) := by decide +kernel
theorem d_Mo_word_167 : decode b_Mo_word 167 = .ok (.bipush 44, 2) := by decide +kernel
theorem d_Mo_word_169 : decode b_Mo_word 169 = .ok (.bipush 51, 2) := by decide +kernel
theorem d_Mo_word_171 : decode b_Mo_word 171 = .ok (.bipush 37, 2) := by decide +kernel
theorem d_Mo_word_173 : decode b_Mo_word 173 = .ok (.invokestatic 191, 3) := by decide +kernel
theorem d_Mo_word_176 : decode b_Mo_word 176 = .ok (.lcmp, 1) := by decide +kernel
theorem d_Mo_word_177 : decode b_Mo_word 177 = .ok (.ifCond .ne 8, 3) := by decide +kernel
theorem d_Mo_word_180 : decode b_Mo_word 180 = .ok (.bipush 15, 2) := by decide +kernel
theorem d_Mo_word_182 : decode b_Mo_word 182 = .ok (.goto 117, 3) := by decide +kernel
theorem d_Mo_word_185 : decode b_Mo_word 185 = .ok (.lload 4, 2) := by decide +kernel
theorem d_Mo_word_187 : decode b_Mo_word 187 = .ok (.bipush 46, 2) := by decide +kernel
theorem d_Mo_word_189 : decode b_Mo_word 189 = .ok (.bipush 53, 2) := by decide +kernel
theorem d_Mo_word_191 : decode b_Mo_word 191 = .ok (.bipush 44, 2) := by decide +kernel
theorem d_Mo_word_193 : decode b_Mo_word 193 = .ok (.bipush 44, 2) := by decide +kernel
theorem d_Mo_word_195 : decode b_Mo_word 195 = .ok (.iconst 0, 1) := by decide +kernel
theorem d_Mo_word_196 : decode b_Mo_word 196 = .ok (.invokestatic 191, 3) := by decide +kernel
theorem d_Mo_word_199 : decode b_Mo_word 199 = .ok (.lcmp, 1) := by decide +kernel
theorem d_Mo_word_200 : decode b_Mo_word 200 = .ok (.ifCond .ne 7, 3) := by decide +kernel
theorem d_Mo_word_203 : decode b_Mo_word 203 = .ok (.iconst 5, 1) := by decide +kernel
theorem d_Mo_word_204 : decode b_Mo_word 204 = .ok (.goto 95, 3) := by decide +kernel
theorem d_Mo_word_207 : decode b_Mo_word 207 = .ok (.lload 4, 2) := by decide +kernel
theorem d_Mo_word_209 : decode b_Mo_word 209 = .ok (.bipush 52, 2) := by decide +kernel
theorem d_Mo_word_211 : decode b_Mo_word 211 = .ok (.bipush 40, 2) := by decide +kernel
theorem d_Mo_word_213 : decode b_Mo_word 213 = .ok (.bipush 41, 2) := by decide +kernel
theorem d_Mo_word_215 : decode b_Mo_word 215 = .ok (.bipush 51, 2) := by decide +kernel
theorem d_Mo_word_217 : decode b_Mo_word 217 = .ok (.iconst 0, 1) := by decide +kernel
theorem d_Mo_word_218 : decode b_Mo_word 218 = .ok (.invokestatic 191, 3) := by decide +kernel
theorem d_Mo_word_221 : decode b_Mo_word 221 = .ok (.lcmp, 1) := by decide +kernel
theorem d_Mo_word_222 : decode b_Mo_word 222 = .ok (.ifCond .ne 8, 3) := by decide +kernel
theorem d_Mo_word_225 : decode b_Mo_word 225 = .ok (.bipush 6, 2) := by decide +kernel
theorem d_Mo_word_227 : decode b_Mo_word 227 = .ok (.goto 72, 3) := by decide +kernel
theorem d_Mo_word_230 : decode b_Mo_word 230 = .ok (.lload 4, 2) := by decide +kernel
theorem d_Mo_word_232 : decode b_Mo_word 232 = .ok (.bipush 41, 2) := by decide +kernel
theorem d_Mo_word_234 : decode b_Mo_word 234 = .ok (.bipush 46, 2) := by decide +kernel
theorem d_Mo_word_236 : decode b_Mo_word 236 = .ok (.bipush 52, 2) := by decide +kernel
theorem d_Mo_word_238 : decode b_Mo_word 238 = .ok (.iconst 0, 1) := by decide +kernel
theorem d_Mo_word_239 : decode b_Mo_word 239 = .ok (.iconst 0, 1) := by decide +kernel
theorem d_Mo_word_240 : decode b_Mo_word 240 = .ok (.invokestatic 191, 3) := by decide +kernel
theorem d_Mo_word_243 : decode b_Mo_word 243 = .ok (.lcmp, 1) := by decide +kernel
theorem d_Mo_word_244 : decode b_Mo_word 244 = .ok (.ifCond .ne 8, 3) := by decide +kernel
theorem d_Mo_word_247 : decode b_Mo_word 247 = .ok (.bipush 9, 2) := by decide +kernel
theorem d_Mo_word_249 : decode b_Mo_word 249 = .ok (.goto 50, 3) := by decide +kernel
theorem d_Mo_word_252 : decode b_Mo_word 252 = .ok (.lload 4, 2) := by decide +kernel
theorem d_Mo_word_254 : decode b_Mo_word 254 = .ok (.bipush 44, 2) := by decide +kernel
theorem d_Mo_word_256 : decode b_Mo_word 256 = .ok (.bipush 47, 2) := by decide +kernel
theorem d_Mo_word_258 : decode b_Mo_word 258 = .ok (.bipush 46, 2) := by decide +kernel
theorem d_Mo_word_260 : decode b_Mo_word 260 = .ok (.bipush 39, 2) := by decide +kernel
theorem d_Mo_word_262 : decode b_Mo_word 262 = .ok (.iconst 0, 1) := by decide +kernel
theorem d_Mo_word_263 : decode b_Mo_word 263 = .ok (.invokestatic 191, 3) := by decide +kernel
theorem d_Mo_word_266 : decode b_Mo_word 266 = .ok (.lcmp, 1) := by decide +kernel
theorem d_Mo_word_267 : decode b_Mo_word 267 = .ok (.ifCond .ne 8, 3) := by decide +kernel
theorem d_Mo_word_270 : decode b_Mo_word 270 = .ok (.bipush 10, 2) := by decide +kernel
theorem d_Mo_word_272 : decode b_Mo_word 272 = .ok (.goto 27, 3) := by decide +kernel
theorem d_Mo_word_275 : decode b_Mo_word 275 = .ok (.lload 4, 2) := by decide +kernel
theorem d_Mo_word_277 : decode b_Mo_word 277 = .ok (.bipush 35, 2) := by decide +kernel
theorem d_Mo_word_279 : decode b_Mo_word 279 = .ok (.bipush 40, 2) := by decide +kernel
theorem d_Mo_word_281 : decode b_Mo_word 281 = .ok (.bipush 33, 2) := by decide +kernel
theorem d_Mo_word_283 : decode b_Mo_word 283 = .ok (.bipush 50, 2) := by decide +kernel
theorem d_Mo_word_285 : decode b_Mo_word 285 = .ok (.iconst 0, 1) := by decide +kernel
theorem d_Mo_word_286 : decode b_Mo_word 286 = .ok (.invokestatic 191, 3) := by decide +kernel
theorem d_Mo_word_289 : decode b_Mo_word 289 = .ok (.lcmp, 1) := by decide +kernel
theorem d_Mo_word_290 : decode b_Mo_word 290 = .ok (.ifCond .ne 8, 3) := by decide +kernel
theorem d_Mo_word_293 : decode b_Mo_word 293 = .ok (.bipush 11, 2) := by decide +kernel
theorem d_Mo_word_295 : decode b_Mo_word 295 = .ok (.goto 4, 3) := by decide +kernel
theorem d_Mo_word_298 : decode b_Mo_word 298 = .ok (.iconst 0, 1) := by decide +kernel
theorem d_Mo_word_299 : decode b_Mo_word 299 = .ok (.istore 7, 2) := by decide +kernel
theorem d_Mo_word_301 : decode b_Mo_word 301 = .ok (.iload 7, 2) := by decide +kernel
theorem d_Mo_word_303 : decode b_Mo_word 303 = .ok (.ifCond .ne 48, 3) := by decide +kernel
theorem d_Mo_word_306 : decode b_Mo_word 306 = .ok (.iload 6, 2) := by decide +kernel
theorem d_Mo_word_308 : decode b_Mo_word 308 = .ok (.bipush 7, 2) := by decide +kernel
theorem d_Mo_word_310 : decode b_Mo_word 310 = .ok (.if_icmp .ne 41, 3) := by decide +kernel
theorem d_Mo_word_313 : decode b_Mo_word 313 = .ok (.lload 4, 2) := by decide +kernel
theorem d_Mo_word_315 : decode b_Mo_word 315 = .ok (.bipush 34, 2) := by decide +kernel
theorem d_Mo_word_317 : decode b_Mo_word 317 = .ok (.bipush 47, 2) := by decide +kernel
theorem d_Mo_word_319 : decode b_Mo_word 319 = .ok (.bipush 47, 2) := by decide +kernel
theorem d_Mo_word_321 : decode b_Mo_word 321 = .ok (.bipush 44, 2) := by decide +kernel
theorem d_Mo_word_323 : decode b_Mo_word 323 = .ok (.bipush 37, 2) := by decide +kernel
theorem d_Mo_word_325 : decode b_Mo_word 325 = .ok (.invokestatic 191, 3) := by decide +kernel
theorem d_Mo_word_328 : decode b_Mo_word 328 = .ok (.bipush 12, 2) := by decide +kernel
theorem d_Mo_word_330 : decode b_Mo_word 330 = .ok (.lshl, 1) := by decide +kernel
theorem d_Mo_word_331 : decode b_Mo_word 331 = .ok (.ldc2_w 195, 3) := by decide +kernel
theorem d_Mo_word_334 : decode b_Mo_word 334 = .ok (.lor, 1) := by decide +kernel
theorem d_Mo_word_335 : decode b_Mo_word 335 = .ok (.ldc2_w 197, 3) := by decide +kernel
theorem d_Mo_word_338 : decode b_Mo_word 338 = .ok (.lor, 1) := by decide +kernel
theorem d_Mo_word_339 : decode b_Mo_word 339 = .ok (.lcmp, 1) := by decide +kernel
theorem d_Mo_word_340 : decode b_Mo_word 340 = .ok (.ifCond .ne 8, 3) := by decide +kernel
theorem d_Mo_word_343 : decode b_Mo_word 343 = .ok (.bipush 12, 2) := by decide +kernel
theorem d_Mo_word_345 : decode b_Mo_word 345 = .ok (.goto 4, 3) := by decide +kernel
theorem d_Mo_word_348 : decode b_Mo_word 348 = .ok (.iconst 0, 1) := by decide +kernel
theorem d_Mo_word_349 : decode b_Mo_word 349 = .ok (.istore 7, 2) := by decide +kernel
theorem d_Mo_word_351 : decode b_Mo_word 351 = .ok (.iload 7, 2) := by decide +kernel
theorem d_Mo_word_353 : decode b_Mo_word 353 = .ok (.ifCond .ne 44, 3) := by decide +kernel
theorem d_Mo_word_356 : decode b_Mo_word 356 = .ok (.iload 6, 2) := by decide +kernel
theorem d_Mo_word_358 : decode b_Mo_word 358 = .ok (.bipush 6, 2) := by decide +kernel
theorem d_Mo_word_360 : decode b_Mo_word 360 = .ok (.if_icmp .ne 37, 3) := by decide +kernel
theorem d_Mo_word_363 : decode b_Mo_word 363 = .ok (.lload 4, 2) := by decide +kernel
theorem d_Mo_word_365 : decode b_Mo_word 365 = .ok (.bipush 44, 2) := by decide +kernel
theorem d_Mo_word_367 : decode b_Mo_word 367 = .ok (.bipush 37, 2) := by decide +kernel
theorem d_Mo_word_369 : decode b_Mo_word 369 = .ok (.bipush 46, 2) := by decide +kernel
theorem d_Mo_word_371 : decode b_Mo_word 371 = .ok (.bipush 39, 2) := by decide +kernel
theorem d_Mo_word_373 : decode b_Mo_word 373 = .ok (.bipush 52, 2) := by decide +kernel
theorem d_Mo_word_375 : decode b_Mo_word 375 = .ok (.invokestatic 191, 3) := by decide +kernel
theorem d_Mo_word_378 : decode b_Mo_word 378 = .ok (.bipush 6, 2) := by decide +kernel
theorem d_Mo_word_380 : decode b_Mo_word 380 = .ok (.lshl, 1) := by decide +kernel
theorem d_Mo_word_381 : decode b_Mo_word 381 = .ok (.ldc2_w 199, 3) := by decide +kernel
theorem d_Mo_word_384 : decode b_Mo_word 384 = .ok (.lor, 1) := by decide +kernel
theorem d_Mo_word_385 : decode b_Mo_word 385 = .ok (.lcmp, 1) := by decide +kernel
theorem d_Mo_word_386 : decode b_Mo_word 386 = .ok (.ifCond .ne 8, 3) := by decide +kernel
theorem d_Mo_word_389 : decode b_Mo_word 389 = .ok (.bipush 14, 2) := by decide +kernel
theorem d_Mo_word_391 : decode b_Mo_word 391 = .ok (.goto 4, 3) := by decide +kernel
theorem d_Mo_word_394 : decode b_Mo_word 394 = .ok (.iconst 0, 1) := by decide +kernel
theorem d_Mo_word_395 : decode b_Mo_word 395 = .ok (.istore 7, 2) := by decide +kernel
theorem d_Mo_word_397 : decode b_Mo_word 397 = .ok (.iload 7, 2) := by decide +kernel
theorem d_Mo_word_399 : decode b_Mo_word 399 = .ok (.ifCond .ne 54, 3) := by decide +kernel
theorem d_Mo_word_402 : decode b_Mo_word 402 = .ok (.iload 6, 2) := by decide +kernel
theorem d_Mo_word_404 : decode b_Mo_word 404 = .ok (.bipush 10, 2) := by decide +kernel
theorem d_Mo_word_406 : decode b_Mo_word 406 = .ok (.if_icmp .ne 47, 3) := by decide +kernel
theorem d_Mo_word_409 : decode b_Mo_word 409 = .ok (.lload 4, 2) := by decide +kernel
theorem d_Mo_word_411 : decode b_Mo_word 411 = .ok (.bipush 41, 2) := by decide +kernel
theorem d_Mo_word_413 : decode b_Mo_word 413 = .ok (.bipush 46, 2) := by decide +kernel
theorem d_Mo_word_415 : decode b_Mo_word 415 = .ok (.bipush 51, 2) := by decide +kernel
theorem d_Mo_word_417 : decode b_Mo_word 417 = .ok (.bipush 52, 2) := by decide +kernel
theorem d_Mo_word_419 : decode b_Mo_word 419 = .ok (.bipush 33, 2) := by decide +kernel
theorem d_Mo_word_421 : decode b_Mo_word 421 = .ok (.invokestatic 191, 3) := by decide +kernel
theorem d_Mo_word_424 : decode b_Mo_word 424 = .ok (.bipush 30, 2) := by decide +kernel
theorem d_Mo_word_426 : decode b_Mo_word 426 = .ok (.lshl, 1) := by decide +kernel
theorem d_Mo_word_427 : decode b_Mo_word 427 = .ok (.bipush 46, 2) := by decide +kernel
theorem d_Mo_word_429 : decode b_Mo_word 429 = .ok (.bipush 35, 2) := by decide +kernel
theorem d_Mo_word_431 : decode b_Mo_word 431 = .ok (.bipush 37, 2) := by decide +kernel
theorem d_Mo_word_433 : decode b_Mo_word 433 = .ok (.bipush 47, 2) := by decide +kernel
theorem d_Mo_word_435 : decode b_Mo_word 435 = .ok (.bipush 38, 2) := by decide +kernel
theorem d_Mo_word_437 : decode b_Mo_word 437 = .ok (.invokestatic 191, 3) := by decide +kernel
theorem d_Mo_word_440 : decode b_Mo_word 440 = .ok (.lor, 1) := by decide +kernel
theorem d_Mo_word_441 : decode b_Mo_word 441 = .ok (.lcmp, 1) := by decide +kernel
theorem d_Mo_word_442 : decode b_Mo_word 442 = .ok (.ifCond .ne 8, 3) := by decide +kernel
theorem d_Mo_word_445 : decode b_Mo_word 445 = .ok (.bipush 13, 2) := by decide +kernel
theorem d_Mo_word_447 : decode b_Mo_word 447 = .ok (.goto 4, 3) := by decide +kernel
theorem d_Mo_word_450 : decode b_Mo_word 450 = .ok (.iconst 0, 1) := by decide +kernel
theorem d_Mo_word_451 : decode b_Mo_word 451 = .ok (.istore 7, 2) := by decide +kernel
theorem d_Mo_word_453 : decode b_Mo_word 453 = .ok (.aload_n 0, 1) := by decide +kernel
theorem d_Mo_word_454 : decode b_Mo_word 454 = .ok (.iload 7, 2) := by decide +kernel
theorem d_Mo_word_456 : decode b_Mo_word 456 = .ok (.ifCond .ne 7, 3) := by decide +kernel
theorem d_Mo_word_459 : decode b_Mo_word 459 = .ok (.iconst 1, 1) := by decide +kernel
theorem d_Mo_word_460 : decode b_Mo_word 460 = .ok (.goto 4, 3) := by decide +kernel
theorem d_Mo_word_463 : decode b_Mo_word 463 = .ok (.iconst 0, 1) := by decide +kernel
theorem d_Mo_word_464 : decode b_Mo_word 464 = .ok (.putfield 166, 3) := by decide +kernel
theorem d_Mo_word_467 : decode b_Mo_word 467 = .ok (.aload_n 0, 1) := by decide +kernel
theorem d_Mo_word_468 : decode b_Mo_word 468 = .ok (.iload 7, 2) := by decide +kernel
theorem d_Mo_word_470 : decode b_Mo_word 470 = .ok (.bipush 15, 2) := by decide +kernel
theorem d_Mo_word_472 : decode b_Mo_word 472 = .ok (.if_icmp .ne 7, 3) := by decide +kernel
theorem d_Mo_word_475 : decode b_Mo_word 475 = .ok (.iconst 4, 1) := by decide +kernel
theorem d_Mo_word_476 : decode b_Mo_word 476 = .ok (.goto 5, 3) := by decide +kernel
theorem d_Mo_word_479 : decode b_Mo_word 479 = .ok (.iload 7, 2) := by decide +kernel
theorem d_Mo_word_481 : decode b_Mo_word 481 = .ok (.iload 7, 2) := by decide +kernel
theorem d_Mo_word_483 : decode b_Mo_word 483 = .ok (.iconst 4, 1) := by decide +kernel
theorem d_Mo_word_484 : decode b_Mo_word 484 = .ok (.if_icmp .ne 7, 3) := by decide +kernel
theorem d_Mo_word_487 : decode b_Mo_word 487 = .ok (.lconst 1, 1) := by decide +kernel
theorem d_Mo_word_488 : decode b_Mo_word 488 = .ok (.goto 4, 3) := by decide +kernel
theorem d_Mo_word_491 : decode b_Mo_word 491 = .ok (.lconst 0, 1) := by decide +kernel
theorem d_Mo_word_492 : decode b_Mo_word 492 = .ok (.invokevirtual 184, 3) := by decide +kernel
theorem d_Mo_word_495 : decode b_Mo_word 495 = .ok (.iload_n 3, 1) := by decide +kernel
theorem d_Mo_word_496 : decode b_Mo_word 496 = .ok (.ireturn, 1) := by decide +kernel
set_option maxHeartbeats 1000000 in
theorem g_Mo_word {X : WX} {d : Nat} (hd : 2 ≤ d) (e f : Int) (M : Mem) (hL : okL M) (hX : okT M e) (he : 0 ≤ e ∧ e < 5) (hf : 0 ≤ f ∧ f < 40) (hT : 0 ≤ M 55 25 ∧ M 55 25 ≤ 1000) : MG X gt d KE KE y_Mo_word b_Mo_word 8 (some .int) [vr 55, vi e, vi f] M (fun r M' => r = some (vi (wordT (txM M e) f).1) ∧ M' = tokM M (wordT (txM M e) f)) := by
  refine MG_of_G (by decide) (Nat.le_of_ble_eq_true rfl) (Nat.le_refl _) (by decide) ?_
  show G X gt d KE KE y_Mo_word b_Mo_word 8 (some .int) _ 0 [(0, vr 55), (1, vi e), (2, vi f)] [] KE M
  refine G_rngl (i := 1) rfl (fun hr1 => ?_)
  refine G_rngl (i := 2) rfl (fun hr2 => ?_)
  have tl4 : ∀ t k v : Int, runE letB (txM M e) (40 - f).toNat f = k → wvE (txM M e) (40 - f).toNat f 0 = v → ¬ k - f = 1 → f ≤ k ∧ k ≤ 40 → t = wkT (k - f) v → G X gt d KE KE y_Mo_word b_Mo_word 8 (some .int) (fun r M' => r = some (vi (wordT (txM M e) f).1) ∧ M' = tokM M (wordT (txM M e) f)) 453 [(7, vi t), (6, vi (k - f)), (4, vl v), (3, vi k), (0, vr 55), (1, vi e), (2, vi f)] [] KE M := by
    intro t k v hE hV hn1 hkb ht
    refine G_aload (i := 0) (n := 4) (len := 1) (Or.inl ⟨0, rfl, rfl, d_Mo_word_453⟩) rfl (by decide) (G_pc (pc' := 454) rfl ?_)
    refine G_iload (i := 7) (n := 0) (len := 2) (Or.inr ⟨rfl, d_Mo_word_454⟩) rfl (G_pc (pc' := 456) rfl ?_)
    refine G_if_ne (tgt := 463) d_Mo_word_456 (by decide) (fun h2801 => ?_) (fun h2801 => G_pc (pc' := 459) rfl ?_)
    · skip
      refine G_iconst (n := 0) d_Mo_word_463 (by decide) (G_pc (pc' := 464) rfl ?_)
      refine G_putL (o := 55) (c := 9) (k := 44) (ki := 44) (x := 0) d_Mo_word_464 fl_Mo_166 rfl rfl (by decide) (by decide) (by decide) rfl rfl (tokZ (by decide)) rfl (G_pc (pc' := 467) rfl ?_)
      refine G_aload (i := 0) (n := 4) (len := 1) (Or.inl ⟨0, rfl, rfl, d_Mo_word_467⟩) rfl (by decide) (G_pc (pc' := 468) rfl ?_)
      refine G_iload (i := 7) (n := 0) (len := 2) (Or.inr ⟨rfl, d_Mo_word_468⟩) rfl (G_pc (pc' := 470) rfl ?_)
      refine G_bipush (n := 15) d_Mo_word_470 (by decide) (G_pc (pc' := 472) rfl ?_)
      refine G_icmp_ne (tgt := 479) d_Mo_word_472 (by decide) (fun h2802 => ?_) (fun h2802 => G_pc (pc' := 475) rfl ?_)
      · skip
        refine G_iload (i := 7) (n := 0) (len := 2) (Or.inr ⟨rfl, d_Mo_word_479⟩) rfl (G_pc (pc' := 481) rfl ?_)
        refine G_iload (i := 7) (n := 0) (len := 2) (Or.inr ⟨rfl, d_Mo_word_481⟩) rfl (G_pc (pc' := 483) rfl ?_)
        refine G_iconst (n := 4) d_Mo_word_483 (by decide) (G_pc (pc' := 484) rfl ?_)
        refine G_icmp_ne (tgt := 491) d_Mo_word_484 (by decide) (fun h2803 => ?_) (fun h2803 => G_pc (pc' := 487) rfl ?_)
        · skip
          refine G_lconst0 d_Mo_word_491 (G_pc (pc' := 492) rfl ?_)
          refine G_callV (K1 := KE) (d2 := 0) (o := 55) (cl := 9) (as := [vi t, vl 0]) (rest := []) d_Mo_word_492 mf_Mo_add ml_Mo_184 rfl rfl (by decide) rfl rfl (Nat.le_of_ble_eq_true rfl) (by omega) ⟨Nat.le_refl _, Nat.le_refl _⟩ (g_Mo_add (by omega) t 0 _ hT) (fun r2804 M2805 kq2806 q2806 => ?_)
          clear kq2806; obtain ⟨q2806a, q2806b⟩ := q2806; subst r2804; subst M2805
          refine G_ps (pc' := 495) (st' := []) rfl rfl ?_
          refine G_iload (i := 3) (n := 3) (len := 1) (Or.inl ⟨3, rfl, rfl, d_Mo_word_495⟩) rfl (G_pc (pc' := 496) rfl ?_)
          refine G_iret d_Mo_word_496 rfl (tokI (by omega)) rfl rfl ?_
          exact ⟨by rw [wordT_2 hE hV hn1]; rfl, by rw [wordT_2 hE hV hn1, ← ht]; unfold tokM wordT2; grind⟩
        · skip
          refine G_lconst1 d_Mo_word_487 (G_pc (pc' := 488) rfl ?_)
          refine G_goto (tgt := 492) d_Mo_word_488 (by decide) ?_
          refine G_callV (K1 := KE) (d2 := 0) (o := 55) (cl := 9) (as := [vi t, vl 1]) (rest := []) d_Mo_word_492 mf_Mo_add ml_Mo_184 rfl rfl (by decide) rfl rfl (Nat.le_of_ble_eq_true rfl) (by omega) ⟨Nat.le_refl _, Nat.le_refl _⟩ (g_Mo_add (by omega) t 1 _ hT) (fun r2807 M2808 kq2809 q2809 => ?_)
          clear kq2809; obtain ⟨q2809a, q2809b⟩ := q2809; subst r2807; subst M2808
          refine G_ps (pc' := 495) (st' := []) rfl rfl ?_
          refine G_iload (i := 3) (n := 3) (len := 1) (Or.inl ⟨3, rfl, rfl, d_Mo_word_495⟩) rfl (G_pc (pc' := 496) rfl ?_)
          refine G_iret d_Mo_word_496 rfl (tokI (by omega)) rfl rfl ?_
          exact ⟨by rw [wordT_2 hE hV hn1]; rfl, by rw [wordT_2 hE hV hn1, ← ht]; unfold tokM wordT2; grind⟩
      · skip
        refine G_iconst (n := 4) d_Mo_word_475 (by decide) (G_pc (pc' := 476) rfl ?_)
        refine G_goto (tgt := 481) d_Mo_word_476 (by decide) ?_
        refine G_iload (i := 7) (n := 0) (len := 2) (Or.inr ⟨rfl, d_Mo_word_481⟩) rfl (G_pc (pc' := 483) rfl ?_)
        refine G_iconst (n := 4) d_Mo_word_483 (by decide) (G_pc (pc' := 484) rfl ?_)
        refine G_icmp_ne (tgt := 491) d_Mo_word_484 (by decide) (fun h2810 => ?_) (fun h2810 => G_pc (pc' := 487) rfl ?_)
        · skip
          refine G_lconst0 d_Mo_word_491 (G_pc (pc' := 492) rfl ?_)
          refine G_callV (K1 := KE) (d2 := 0) (o := 55) (cl := 9) (as := [vi 4, vl 0]) (rest := []) d_Mo_word_492 mf_Mo_add ml_Mo_184 rfl rfl (by decide) rfl rfl (Nat.le_of_ble_eq_true rfl) (by omega) ⟨Nat.le_refl _, Nat.le_refl _⟩ (g_Mo_add (by omega) 4 0 _ hT) (fun r2811 M2812 kq2813 q2813 => ?_)
          clear kq2813; obtain ⟨q2813a, q2813b⟩ := q2813; subst r2811; subst M2812
          refine G_ps (pc' := 495) (st' := []) rfl rfl ?_
          refine G_iload (i := 3) (n := 3) (len := 1) (Or.inl ⟨3, rfl, rfl, d_Mo_word_495⟩) rfl (G_pc (pc' := 496) rfl ?_)
          refine G_iret d_Mo_word_496 rfl (tokI (by omega)) rfl rfl ?_
          exact ⟨by rw [wordT_2 hE hV hn1]; rfl, by rw [wordT_2 hE hV hn1, ← ht]; unfold tokM wordT2; grind⟩
        · skip
          refine G_lconst1 d_Mo_word_487 (G_pc (pc' := 488) rfl ?_)
          refine G_goto (tgt := 492) d_Mo_word_488 (by decide) ?_
          refine G_callV (K1 := KE) (d2 := 0) (o := 55) (cl := 9) (as := [vi 4, vl 1]) (rest := []) d_Mo_word_492 mf_Mo_add ml_Mo_184 rfl rfl (by decide) rfl rfl (Nat.le_of_ble_eq_true rfl) (by omega) ⟨Nat.le_refl _, Nat.le_refl _⟩ (g_Mo_add (by omega) 4 1 _ hT) (fun r2814 M2815 kq2816 q2816 => ?_)
          clear kq2816; obtain ⟨q2816a, q2816b⟩ := q2816; subst r2814; subst M2815
          refine G_ps (pc' := 495) (st' := []) rfl rfl ?_
          refine G_iload (i := 3) (n := 3) (len := 1) (Or.inl ⟨3, rfl, rfl, d_Mo_word_495⟩) rfl (G_pc (pc' := 496) rfl ?_)
          refine G_iret d_Mo_word_496 rfl (tokI (by omega)) rfl rfl ?_
          exact ⟨by rw [wordT_2 hE hV hn1]; rfl, by rw [wordT_2 hE hV hn1, ← ht]; unfold tokM wordT2; grind⟩
    · skip
      refine G_iconst (n := 1) d_Mo_word_459 (by decide) (G_pc (pc' := 460) rfl ?_)
      refine G_goto (tgt := 464) d_Mo_word_460 (by decide) ?_
      refine G_putL (o := 55) (c := 9) (k := 44) (ki := 44) (x := 1) d_Mo_word_464 fl_Mo_166 rfl rfl (by decide) (by decide) (by decide) rfl rfl (tokZ (by decide)) rfl (G_pc (pc' := 467) rfl ?_)
      refine G_aload (i := 0) (n := 4) (len := 1) (Or.inl ⟨0, rfl, rfl, d_Mo_word_467⟩) rfl (by decide) (G_pc (pc' := 468) rfl ?_)
      refine G_iload (i := 7) (n := 0) (len := 2) (Or.inr ⟨rfl, d_Mo_word_468⟩) rfl (G_pc (pc' := 470) rfl ?_)
      refine G_bipush (n := 15) d_Mo_word_470 (by decide) (G_pc (pc' := 472) rfl ?_)
      refine G_icmp_ne (tgt := 479) d_Mo_word_472 (by decide) (fun h2817 => ?_) (fun h2817 => G_pc (pc' := 475) rfl ?_)
      · skip
        refine G_iload (i := 7) (n := 0) (len := 2) (Or.inr ⟨rfl, d_Mo_word_479⟩) rfl (G_pc (pc' := 481) rfl ?_)
        refine G_iload (i := 7) (n := 0) (len := 2) (Or.inr ⟨rfl, d_Mo_word_481⟩) rfl (G_pc (pc' := 483) rfl ?_)
        refine G_iconst (n := 4) d_Mo_word_483 (by decide) (G_pc (pc' := 484) rfl ?_)
        refine G_icmp_ne (tgt := 491) d_Mo_word_484 (by decide) (fun h2818 => ?_) (fun h2818 => G_pc (pc' := 487) rfl ?_)
        · skip
          refine G_lconst0 d_Mo_word_491 (G_pc (pc' := 492) rfl ?_)
          refine G_callV (K1 := KE) (d2 := 0) (o := 55) (cl := 9) (as := [vi t, vl 0]) (rest := []) d_Mo_word_492 mf_Mo_add ml_Mo_184 rfl rfl (by decide) rfl rfl (Nat.le_of_ble_eq_true rfl) (by omega) ⟨Nat.le_refl _, Nat.le_refl _⟩ (g_Mo_add (by omega) t 0 _ hT) (fun r2819 M2820 kq2821 q2821 => ?_)
          clear kq2821; obtain ⟨q2821a, q2821b⟩ := q2821; subst r2819; subst M2820
          refine G_ps (pc' := 495) (st' := []) rfl rfl ?_
          refine G_iload (i := 3) (n := 3) (len := 1) (Or.inl ⟨3, rfl, rfl, d_Mo_word_495⟩) rfl (G_pc (pc' := 496) rfl ?_)
          refine G_iret d_Mo_word_496 rfl (tokI (by omega)) rfl rfl ?_
          exact ⟨by rw [wordT_2 hE hV hn1]; rfl, by rw [wordT_2 hE hV hn1, ← ht]; unfold tokM wordT2; grind⟩
        · skip
          refine G_lconst1 d_Mo_word_487 (G_pc (pc' := 488) rfl ?_)
          refine G_goto (tgt := 492) d_Mo_word_488 (by decide) ?_
          refine G_callV (K1 := KE) (d2 := 0) (o := 55) (cl := 9) (as := [vi t, vl 1]) (rest := []) d_Mo_word_492 mf_Mo_add ml_Mo_184 rfl rfl (by decide) rfl rfl (Nat.le_of_ble_eq_true rfl) (by omega) ⟨Nat.le_refl _, Nat.le_refl _⟩ (g_Mo_add (by omega) t 1 _ hT) (fun r2822 M2823 kq2824 q2824 => ?_)
          clear kq2824; obtain ⟨q2824a, q2824b⟩ := q2824; subst r2822; subst M2823
          refine G_ps (pc' := 495) (st' := []) rfl rfl ?_
          refine G_iload (i := 3) (n := 3) (len := 1) (Or.inl ⟨3, rfl, rfl, d_Mo_word_495⟩) rfl (G_pc (pc' := 496) rfl ?_)
          refine G_iret d_Mo_word_496 rfl (tokI (by omega)) rfl rfl ?_
          exact ⟨by rw [wordT_2 hE hV hn1]; rfl, by rw [wordT_2 hE hV hn1, ← ht]; unfold tokM wordT2; grind⟩
      · skip
        refine G_iconst (n := 4) d_Mo_word_475 (by decide) (G_pc (pc' := 476) rfl ?_)
        refine G_goto (tgt := 481) d_Mo_word_476 (by decide) ?_
        refine G_iload (i := 7) (n := 0) (len := 2) (Or.inr ⟨rfl, d_Mo_word_481⟩) rfl (G_pc (pc' := 483) rfl ?_)
        refine G_iconst (n := 4) d_Mo_word_483 (by decide) (G_pc (pc' := 484) rfl ?_)
        refine G_icmp_ne (tgt := 491) d_Mo_word_484 (by decide) (fun h2825 => ?_) (fun h2825 => G_pc (pc' := 487) rfl ?_)
        · skip
          refine G_lconst0 d_Mo_word_491 (G_pc (pc' := 492) rfl ?_)
          refine G_callV (K1 := KE) (d2 := 0) (o := 55) (cl := 9) (as := [vi 4, vl 0]) (rest := []) d_Mo_word_492 mf_Mo_add ml_Mo_184 rfl rfl (by decide) rfl rfl (Nat.le_of_ble_eq_true rfl) (by omega) ⟨Nat.le_refl _, Nat.le_refl _⟩ (g_Mo_add (by omega) 4 0 _ hT) (fun r2826 M2827 kq2828 q2828 => ?_)
          clear kq2828; obtain ⟨q2828a, q2828b⟩ := q2828; subst r2826; subst M2827
          refine G_ps (pc' := 495) (st' := []) rfl rfl ?_
          refine G_iload (i := 3) (n := 3) (len := 1) (Or.inl ⟨3, rfl, rfl, d_Mo_word_495⟩) rfl (G_pc (pc' := 496) rfl ?_)
          refine G_iret d_Mo_word_496 rfl (tokI (by omega)) rfl rfl ?_
          exact ⟨by rw [wordT_2 hE hV hn1]; rfl, by rw [wordT_2 hE hV hn1, ← ht]; unfold tokM wordT2; grind⟩
        · skip
          refine G_lconst1 d_Mo_word_487 (G_pc (pc' := 488) rfl ?_)
          refine G_goto (tgt := 492) d_Mo_word_488 (by decide) ?_
          refine G_callV (K1 := KE) (d2 := 0) (o := 55) (cl := 9) (as := [vi 4, vl 1]) (rest := []) d_Mo_word_492 mf_Mo_add ml_Mo_184 rfl rfl (by decide) rfl rfl (Nat.le_of_ble_eq_true rfl) (by omega) ⟨Nat.le_refl _, Nat.le_refl _⟩ (g_Mo_add (by omega) 4 1 _ hT) (fun r2829 M2830 kq2831 q2831 => ?_)
          clear kq2831; obtain ⟨q2831a, q2831b⟩ := q2831; subst r2829; subst M2830
          refine G_ps (pc' := 495) (st' := []) rfl rfl ?_
          refine G_iload (i := 3) (n := 3) (len := 1) (Or.inl ⟨3, rfl, rfl, d_Mo_word_495⟩) rfl (G_pc (pc' := 496) rfl ?_)
          refine G_iret d_Mo_word_496 rfl (tokI (by omega)) rfl rfl ?_
          exact ⟨by rw [wordT_2 hE hV hn1]; rfl, by rw [wordT_2 hE hV hn1, ← ht]; unfold tokM wordT2; grind⟩
  have tl3 : ∀ t k v : Int, runE letB (txM M e) (40 - f).toNat f = k → wvE (txM M e) (40 - f).toNat f 0 = v → ¬ k - f = 1 → f ≤ k ∧ k ≤ 40 → t = wkC (k - f) v → G X gt d KE KE y_Mo_word b_Mo_word 8 (some .int) (fun r M' => r = some (vi (wordT (txM M e) f).1) ∧ M' = tokM M (wordT (txM M e) f)) 397 [(7, vi t), (6, vi (k - f)), (4, vl v), (3, vi k), (0, vr 55), (1, vi e), (2, vi f)] [] KE M := by
    intro t k v hE hV hn1 hkb ht
    refine G_iload (i := 7) (n := 0) (len := 2) (Or.inr ⟨rfl, d_Mo_word_397⟩) rfl (G_pc (pc' := 399) rfl ?_)
    refine G_if_ne (tgt := 453) d_Mo_word_399 (by decide) (fun h2901 => ?_) (fun h2901 => G_pc (pc' := 402) rfl ?_)
    · skip
      refine G_ls (ls' := [(7, vi t), (6, vi (k - f)), (4, vl v), (3, vi k), (0, vr 55), (1, vi e), (2, vi f)]) (by intro z hz; simp at hz ⊢; omega) ?_
      exact tl4 t k v hE hV hn1 hkb (by unfold wkT; grind)
    · skip
      refine G_iload (i := 6) (n := 1) (len := 2) (Or.inr ⟨rfl, d_Mo_word_402⟩) rfl (G_pc (pc' := 404) rfl ?_)
      refine G_bipush (n := 10) d_Mo_word_404 (by decide) (G_pc (pc' := 406) rfl ?_)
      refine G_icmp_ne (tgt := 453) d_Mo_word_406 (by decide) (fun h2902 => ?_) (fun h2902 => G_pc (pc' := 409) rfl ?_)
      · skip
        refine G_ls (ls' := [(7, vi t), (6, vi (k - f)), (4, vl v), (3, vi k), (0, vr 55), (1, vi e), (2, vi f)]) (by intro z hz; simp at hz ⊢; omega) ?_
        exact tl4 t k v hE hV hn1 hkb (by unfold wkT; grind)
      · skip
        refine G_lload (i := 4) (n := 2) (len := 2) (Or.inr ⟨rfl, d_Mo_word_409⟩) rfl (G_pc (pc' := 411) rfl ?_)
        refine G_bipush (n := 41) d_Mo_word_411 (by decide) (G_pc (pc' := 413) rfl ?_)
        refine G_bipush (n := 46) d_Mo_word_413 (by decide) (G_pc (pc' := 415) rfl ?_)
        refine G_bipush (n := 51) d_Mo_word_415 (by decide) (G_pc (pc' := 417) rfl ?_)
        refine G_bipush (n := 52) d_Mo_word_417 (by decide) (G_pc (pc' := 419) rfl ?_)
        refine G_bipush (n := 33) d_Mo_word_419 (by decide) (G_pc (pc' := 421) rfl ?_)
        refine G_callS (K1 := KE) (d2 := 0) (as := [vi 41, vi 46, vi 51, vi 52, vi 33]) (rest := [vl v]) d_Mo_word_421 mf_Mo_spell ml_Mo_191 rfl rfl (Nat.le_of_ble_eq_true rfl) (by omega) ⟨Nat.le_refl _, Nat.le_refl _⟩ (g_Mo_spell (by omega) 41 46 51 52 33 _) (fun r2903 M2904 kq2905 q2905 => ?_)
        clear kq2905; obtain ⟨q2905a, q2905b⟩ := q2905; subst r2903; subst M2904
        refine G_ps (pc' := 424) (st' := [vl (spellV 41 46 51 52 33), vl v]) rfl rfl ?_
        refine G_bipush (n := 30) d_Mo_word_424 (by decide) (G_pc (pc' := 426) rfl ?_)
        refine G_lshl d_Mo_word_426 (G_pc (pc' := 427) rfl ?_)
        refine G_bipush (n := 46) d_Mo_word_427 (by decide) (G_pc (pc' := 429) rfl ?_)
        refine G_bipush (n := 35) d_Mo_word_429 (by decide) (G_pc (pc' := 431) rfl ?_)
        refine G_bipush (n := 37) d_Mo_word_431 (by decide) (G_pc (pc' := 433) rfl ?_)
        refine G_bipush (n := 47) d_Mo_word_433 (by decide) (G_pc (pc' := 435) rfl ?_)
        refine G_bipush (n := 38) d_Mo_word_435 (by decide) (G_pc (pc' := 437) rfl ?_)
        refine G_callS (K1 := KE) (d2 := 0) (as := [vi 46, vi 35, vi 37, vi 47, vi 38]) (rest := [vl (o_lshl (spellV 41 46 51 52 33) 30), vl v]) d_Mo_word_437 mf_Mo_spell ml_Mo_191 rfl rfl (Nat.le_of_ble_eq_true rfl) (by omega) ⟨Nat.le_refl _, Nat.le_refl _⟩ (g_Mo_spell (by omega) 46 35 37 47 38 _) (fun r2906 M2907 kq2908 q2908 => ?_)
        clear kq2908; obtain ⟨q2908a, q2908b⟩ := q2908; subst r2906; subst M2907
        refine G_ps (pc' := 440) (st' := [vl (spellV 46 35 37 47 38), vl (o_lshl (spellV 41 46 51 52 33) 30), vl v]) rfl rfl ?_
        refine G_lor d_Mo_word_440 (G_pc (pc' := 441) rfl ?_)
        refine G_lcmp_ne (tgt := 450) d_Mo_word_441 d_Mo_word_442 (by decide) (fun h2909 => ?_) (fun h2909 => G_pc (pc' := 445) rfl ?_)
        · skip
          refine G_iconst (n := 0) d_Mo_word_450 (by decide) (G_pc (pc' := 451) rfl ?_)
          refine G_istore (i := 7) (len := 2) (ls' := [(7, vi 0), (6, vi (k - f)), (4, vl v), (3, vi k), (0, vr 55), (1, vi e), (2, vi f)]) (Or.inr ⟨rfl, d_Mo_word_451⟩) (by decide) rfl (G_pc (pc' := 453) rfl ?_)
          refine G_ls (ls' := [(7, vi 0), (6, vi (k - f)), (4, vl v), (3, vi k), (0, vr 55), (1, vi e), (2, vi f)]) (by intro z hz; simp at hz ⊢; omega) ?_
          exact tl4 0 k v hE hV hn1 hkb (by unfold wkT; grind)
        · skip
          refine G_bipush (n := 13) d_Mo_word_445 (by decide) (G_pc (pc' := 447) rfl ?_)
          refine G_goto (tgt := 451) d_Mo_word_447 (by decide) ?_
          refine G_istore (i := 7) (len := 2) (ls' := [(7, vi 13), (6, vi (k - f)), (4, vl v), (3, vi k), (0, vr 55), (1, vi e), (2, vi f)]) (Or.inr ⟨rfl, d_Mo_word_451⟩) (by decide) rfl (G_pc (pc' := 453) rfl ?_)
          refine G_ls (ls' := [(7, vi 13), (6, vi (k - f)), (4, vl v), (3, vi k), (0, vr 55), (1, vi e), (2, vi f)]) (by intro z hz; simp at hz ⊢; omega) ?_
          exact tl4 13 k v hE hV hn1 hkb (by unfold wkT; grind)
  have tl2 : ∀ t k v : Int, runE letB (txM M e) (40 - f).toNat f = k → wvE (txM M e) (40 - f).toNat f 0 = v → ¬ k - f = 1 → f ≤ k ∧ k ≤ 40 → t = wkB (k - f) v → G X gt d KE KE y_Mo_word b_Mo_word 8 (some .int) (fun r M' => r = some (vi (wordT (txM M e) f).1) ∧ M' = tokM M (wordT (txM M e) f)) 351 [(7, vi t), (6, vi (k - f)), (4, vl v), (3, vi k), (0, vr 55), (1, vi e), (2, vi f)] [] KE M := by
    intro t k v hE hV hn1 hkb ht
    refine G_iload (i := 7) (n := 0) (len := 2) (Or.inr ⟨rfl, d_Mo_word_351⟩) rfl (G_pc (pc' := 353) rfl ?_)
    refine G_if_ne (tgt := 397) d_Mo_word_353 (by decide) (fun h3001 => ?_) (fun h3001 => G_pc (pc' := 356) rfl ?_)
    · skip
      refine G_ls (ls' := [(7, vi t), (6, vi (k - f)), (4, vl v), (3, vi k), (0, vr 55), (1, vi e), (2, vi f)]) (by intro z hz; simp at hz ⊢; omega) ?_
      exact tl3 t k v hE hV hn1 hkb (by unfold wkC; grind)
    · skip
      refine G_iload (i := 6) (n := 1) (len := 2) (Or.inr ⟨rfl, d_Mo_word_356⟩) rfl (G_pc (pc' := 358) rfl ?_)
      refine G_bipush (n := 6) d_Mo_word_358 (by decide) (G_pc (pc' := 360) rfl ?_)
      refine G_icmp_ne (tgt := 397) d_Mo_word_360 (by decide) (fun h3002 => ?_) (fun h3002 => G_pc (pc' := 363) rfl ?_)
      · skip
        refine G_ls (ls' := [(7, vi t), (6, vi (k - f)), (4, vl v), (3, vi k), (0, vr 55), (1, vi e), (2, vi f)]) (by intro z hz; simp at hz ⊢; omega) ?_
        exact tl3 t k v hE hV hn1 hkb (by unfold wkC; grind)
      · skip
        refine G_lload (i := 4) (n := 2) (len := 2) (Or.inr ⟨rfl, d_Mo_word_363⟩) rfl (G_pc (pc' := 365) rfl ?_)
        refine G_bipush (n := 44) d_Mo_word_365 (by decide) (G_pc (pc' := 367) rfl ?_)
        refine G_bipush (n := 37) d_Mo_word_367 (by decide) (G_pc (pc' := 369) rfl ?_)
        refine G_bipush (n := 46) d_Mo_word_369 (by decide) (G_pc (pc' := 371) rfl ?_)
        refine G_bipush (n := 39) d_Mo_word_371 (by decide) (G_pc (pc' := 373) rfl ?_)
        refine G_bipush (n := 52) d_Mo_word_373 (by decide) (G_pc (pc' := 375) rfl ?_)
        refine G_callS (K1 := KE) (d2 := 0) (as := [vi 44, vi 37, vi 46, vi 39, vi 52]) (rest := [vl v]) d_Mo_word_375 mf_Mo_spell ml_Mo_191 rfl rfl (Nat.le_of_ble_eq_true rfl) (by omega) ⟨Nat.le_refl _, Nat.le_refl _⟩ (g_Mo_spell (by omega) 44 37 46 39 52 _) (fun r3003 M3004 kq3005 q3005 => ?_)
        clear kq3005; obtain ⟨q3005a, q3005b⟩ := q3005; subst r3003; subst M3004
        refine G_ps (pc' := 378) (st' := [vl (spellV 44 37 46 39 52), vl v]) rfl rfl ?_
        refine G_bipush (n := 6) d_Mo_word_378 (by decide) (G_pc (pc' := 380) rfl ?_)
        refine G_lshl d_Mo_word_380 (G_pc (pc' := 381) rfl ?_)
        refine G_ldc2 (x := 40) d_Mo_word_381 k2_Mo_199 (by decide) (G_pc (pc' := 384) rfl ?_)
        refine G_lor d_Mo_word_384 (G_pc (pc' := 385) rfl ?_)
        refine G_lcmp_ne (tgt := 394) d_Mo_word_385 d_Mo_word_386 (by decide) (fun h3006 => ?_) (fun h3006 => G_pc (pc' := 389) rfl ?_)
        · skip
          refine G_iconst (n := 0) d_Mo_word_394 (by decide) (G_pc (pc' := 395) rfl ?_)
          refine G_istore (i := 7) (len := 2) (ls' := [(7, vi 0), (6, vi (k - f)), (4, vl v), (3, vi k), (0, vr 55), (1, vi e), (2, vi f)]) (Or.inr ⟨rfl, d_Mo_word_395⟩) (by decide) rfl (G_pc (pc' := 397) rfl ?_)
          refine G_ls (ls' := [(7, vi 0), (6, vi (k - f)), (4, vl v), (3, vi k), (0, vr 55), (1, vi e), (2, vi f)]) (by intro z hz; simp at hz ⊢; omega) ?_
          exact tl3 0 k v hE hV hn1 hkb (by unfold wkC; grind)
        · skip
          refine G_bipush (n := 14) d_Mo_word_389 (by decide) (G_pc (pc' := 391) rfl ?_)
          refine G_goto (tgt := 395) d_Mo_word_391 (by decide) ?_
          refine G_istore (i := 7) (len := 2) (ls' := [(7, vi 14), (6, vi (k - f)), (4, vl v), (3, vi k), (0, vr 55), (1, vi e), (2, vi f)]) (Or.inr ⟨rfl, d_Mo_word_395⟩) (by decide) rfl (G_pc (pc' := 397) rfl ?_)
          refine G_ls (ls' := [(7, vi 14), (6, vi (k - f)), (4, vl v), (3, vi k), (0, vr 55), (1, vi e), (2, vi f)]) (by intro z hz; simp at hz ⊢; omega) ?_
          exact tl3 14 k v hE hV hn1 hkb (by unfold wkC; grind)
  have tl1 : ∀ t k v : Int, runE letB (txM M e) (40 - f).toNat f = k → wvE (txM M e) (40 - f).toNat f 0 = v → ¬ k - f = 1 → f ≤ k ∧ k ≤ 40 → t = wkA (k - f) v → G X gt d KE KE y_Mo_word b_Mo_word 8 (some .int) (fun r M' => r = some (vi (wordT (txM M e) f).1) ∧ M' = tokM M (wordT (txM M e) f)) 301 [(7, vi t), (6, vi (k - f)), (4, vl v), (3, vi k), (0, vr 55), (1, vi e), (2, vi f)] [] KE M := by
    intro t k v hE hV hn1 hkb ht
    refine G_iload (i := 7) (n := 0) (len := 2) (Or.inr ⟨rfl, d_Mo_word_301⟩) rfl (G_pc (pc' := 303) rfl ?_)
    refine G_if_ne (tgt := 351) d_Mo_word_303 (by decide) (fun h3101 => ?_) (fun h3101 => G_pc (pc' := 306) rfl ?_)
    · skip
      refine G_ls (ls' := [(7, vi t), (6, vi (k - f)), (4, vl v), (3, vi k), (0, vr 55), (1, vi e), (2, vi f)]) (by intro z hz; simp at hz ⊢; omega) ?_
      exact tl2 t k v hE hV hn1 hkb (by unfold wkB; grind)
    · skip
      refine G_iload (i := 6) (n := 1) (len := 2) (Or.inr ⟨rfl, d_Mo_word_306⟩) rfl (G_pc (pc' := 308) rfl ?_)
      refine G_bipush (n := 7) d_Mo_word_308 (by decide) (G_pc (pc' := 310) rfl ?_)
      refine G_icmp_ne (tgt := 351) d_Mo_word_310 (by decide) (fun h3102 => ?_) (fun h3102 => G_pc (pc' := 313) rfl ?_)
      · skip
        refine G_ls (ls' := [(7, vi t), (6, vi (k - f)), (4, vl v), (3, vi k), (0, vr 55), (1, vi e), (2, vi f)]) (by intro z hz; simp at hz ⊢; omega) ?_
        exact tl2 t k v hE hV hn1 hkb (by unfold wkB; grind)
      · skip
        refine G_lload (i := 4) (n := 2) (len := 2) (Or.inr ⟨rfl, d_Mo_word_313⟩) rfl (G_pc (pc' := 315) rfl ?_)
        refine G_bipush (n := 34) d_Mo_word_315 (by decide) (G_pc (pc' := 317) rfl ?_)
        refine G_bipush (n := 47) d_Mo_word_317 (by decide) (G_pc (pc' := 319) rfl ?_)
        refine G_bipush (n := 47) d_Mo_word_319 (by decide) (G_pc (pc' := 321) rfl ?_)
        refine G_bipush (n := 44) d_Mo_word_321 (by decide) (G_pc (pc' := 323) rfl ?_)
        refine G_bipush (n := 37) d_Mo_word_323 (by decide) (G_pc (pc' := 325) rfl ?_)
        refine G_callS (K1 := KE) (d2 := 0) (as := [vi 34, vi 47, vi 47, vi 44, vi 37]) (rest := [vl v]) d_Mo_word_325 mf_Mo_spell ml_Mo_191 rfl rfl (Nat.le_of_ble_eq_true rfl) (by omega) ⟨Nat.le_refl _, Nat.le_refl _⟩ (g_Mo_spell (by omega) 34 47 47 44 37 _) (fun r3103 M3104 kq3105 q3105 => ?_)
        clear kq3105; obtain ⟨q3105a, q3105b⟩ := q3105; subst r3103; subst M3104
        refine G_ps (pc' := 328) (st' := [vl (spellV 34 47 47 44 37), vl v]) rfl rfl ?_
        refine G_bipush (n := 12) d_Mo_word_328 (by decide) (G_pc (pc' := 330) rfl ?_)
        refine G_lshl d_Mo_word_330 (G_pc (pc' := 331) rfl ?_)
        refine G_ldc2 (x := 2112) d_Mo_word_331 k2_Mo_195 (by decide) (G_pc (pc' := 334) rfl ?_)
        refine G_lor d_Mo_word_334 (G_pc (pc' := 335) rfl ?_)
        refine G_ldc2 (x := 46) d_Mo_word_335 k2_Mo_197 (by decide) (G_pc (pc' := 338) rfl ?_)
        refine G_lor d_Mo_word_338 (G_pc (pc' := 339) rfl ?_)
        refine G_lcmp_ne (tgt := 348) d_Mo_word_339 d_Mo_word_340 (by decide) (fun h3106 => ?_) (fun h3106 => G_pc (pc' := 343) rfl ?_)
        · skip
          refine G_iconst (n := 0) d_Mo_word_348 (by decide) (G_pc (pc' := 349) rfl ?_)
          refine G_istore (i := 7) (len := 2) (ls' := [(7, vi 0), (6, vi (k - f)), (4, vl v), (3, vi k), (0, vr 55), (1, vi e), (2, vi f)]) (Or.inr ⟨rfl, d_Mo_word_349⟩) (by decide) rfl (G_pc (pc' := 351) rfl ?_)
          refine G_ls (ls' := [(7, vi 0), (6, vi (k - f)), (4, vl v), (3, vi k), (0, vr 55), (1, vi e), (2, vi f)]) (by intro z hz; simp at hz ⊢; omega) ?_
          exact tl2 0 k v hE hV hn1 hkb (by unfold wkB; grind)
        · skip
          refine G_bipush (n := 12) d_Mo_word_343 (by decide) (G_pc (pc' := 345) rfl ?_)
          refine G_goto (tgt := 349) d_Mo_word_345 (by decide) ?_
          refine G_istore (i := 7) (len := 2) (ls' := [(7, vi 12), (6, vi (k - f)), (4, vl v), (3, vi k), (0, vr 55), (1, vi e), (2, vi f)]) (Or.inr ⟨rfl, d_Mo_word_349⟩) (by decide) rfl (G_pc (pc' := 351) rfl ?_)
          refine G_ls (ls' := [(7, vi 12), (6, vi (k - f)), (4, vl v), (3, vi k), (0, vr 55), (1, vi e), (2, vi f)]) (by intro z hz; simp at hz ⊢; omega) ?_
          exact tl2 12 k v hE hV hn1 hkb (by unfold wkB; grind)
  have loop : ∀ (n : Nat) (k v : Int), k + n = 40 → f ≤ k → runE letB (txM M e) n k = runE letB (txM M e) (40 - f).toNat f → wvE (txM M e) n k v = wvE (txM M e) (40 - f).toNat f 0 → G X gt d KE KE y_Mo_word b_Mo_word 8 (some .int) (fun r M' => r = some (vi (wordT (txM M e) f).1) ∧ M' = tokM M (wordT (txM M e) f)) 5 [(4, vl v), (3, vi k), (0, vr 55), (1, vi e), (2, vi f)] [] KE M := by
    intro n
    induction n with
    | zero =>
      intro k v h1 h2 hE0 hV0
      refine G_aload (i := 0) (n := 2) (len := 1) (Or.inl ⟨0, rfl, rfl, d_Mo_word_5⟩) rfl (by decide) (G_pc (pc' := 6) rfl ?_)
      refine G_iload (i := 1) (n := 3) (len := 1) (Or.inl ⟨1, rfl, rfl, d_Mo_word_6⟩) rfl (G_pc (pc' := 7) rfl ?_)
      refine G_iload (i := 3) (n := 1) (len := 1) (Or.inl ⟨3, rfl, rfl, d_Mo_word_7⟩) rfl (G_pc (pc' := 8) rfl ?_)
      refine G_callV (K1 := KE) (d2 := 0) (o := 55) (cl := 9) (as := [vi e, vi k]) (rest := []) d_Mo_word_8 mf_Mo_at ml_Mo_169 rfl rfl (by decide) rfl rfl (Nat.le_of_ble_eq_true rfl) (by omega) ⟨Nat.le_refl _, Nat.le_refl _⟩ (g_Mo_at (by omega) e k _ hL he (by omega)) (fun r3201 M3202 kq3203 q3203 => ?_)
      clear kq3203; obtain ⟨q3203a, q3203b⟩ := q3203; subst r3201; subst M3202
      refine G_ps (pc' := 11) (st' := [vi (txM M e k)]) rfl rfl ?_
      have hx7 := txM_rng hX (k := k) (by omega)
      refine G_callS (K1 := KE) (d2 := 1) (as := [vi (txM M e k)]) (rest := []) d_Mo_word_11 mf_Mo_letter ml_Mo_172 rfl rfl (Nat.le_of_ble_eq_true rfl) (by omega) ⟨Nat.le_refl _, Nat.le_refl _⟩ (g_Mo_letter (by omega) (txM M e k) _) (fun r3204 M3205 kq3206 q3206 => ?_)
      clear kq3206; obtain ⟨q3206a, q3206b⟩ := q3206; subst r3204; subst M3205
      refine G_ps (pc' := 14) (st' := [vi (b2i (letB (txM M e k)))]) rfl rfl ?_
      refine G_if_eq (tgt := 41) d_Mo_word_14 (by decide) (fun h3207 => ?_) (fun h3207 => absurd h3207 (by rw [txM_out (by have := hL e he.1 he.2; omega)]; decide))
      replace h3207 := b2i_0.mp h3207
      replace h3207 := letB_f.mp h3207
      have hE := (hE0.symm.trans (runE_f (fun h => absurd (letB_t.mp h) (by assumption))))
      have hV := (hV0.symm.trans (wvE_f (fun h => absurd (letB_t.mp h) (by assumption))))
      refine G_iload (i := 3) (n := 1) (len := 1) (Or.inl ⟨3, rfl, rfl, d_Mo_word_41⟩) rfl (G_pc (pc' := 42) rfl ?_)
      refine G_iload (i := 2) (n := 4) (len := 1) (Or.inl ⟨2, rfl, rfl, d_Mo_word_42⟩) rfl (G_pc (pc' := 43) rfl ?_)
      refine G_isub d_Mo_word_43 (by omega) (G_pc (pc' := 44) rfl ?_)
      refine G_istore (i := 6) (len := 2) (ls' := [(6, vi (k - f)), (4, vl v), (3, vi k), (0, vr 55), (1, vi e), (2, vi f)]) (Or.inr ⟨rfl, d_Mo_word_44⟩) (by decide) rfl (G_pc (pc' := 46) rfl ?_)
      refine G_iload (i := 6) (n := 0) (len := 2) (Or.inr ⟨rfl, d_Mo_word_46⟩) rfl (G_pc (pc' := 48) rfl ?_)
      refine G_iconst (n := 1) d_Mo_word_48 (by decide) (G_pc (pc' := 49) rfl ?_)
      refine G_icmp_ne (tgt := 128) d_Mo_word_49 (by decide) (fun h3208 => ?_) (fun h3208 => G_pc (pc' := 52) rfl ?_)
      · skip
        refine G_iload (i := 6) (n := 0) (len := 2) (Or.inr ⟨rfl, d_Mo_word_128⟩) rfl (G_pc (pc' := 130) rfl ?_)
        refine G_bipush (n := 10) d_Mo_word_130 (by decide) (G_pc (pc' := 132) rfl ?_)
        refine G_icmp_le (tgt := 139) d_Mo_word_132 (by decide) (fun h3209 => ?_) (fun h3209 => G_pc (pc' := 135) rfl ?_)
        · skip
          refine G_lload (i := 4) (n := 1) (len := 2) (Or.inr ⟨rfl, d_Mo_word_139⟩) rfl (G_pc (pc' := 141) rfl ?_)
          refine G_bipush (n := 52) d_Mo_word_141 (by decide) (G_pc (pc' := 143) rfl ?_)
          refine G_bipush (n := 50) d_Mo_word_143 (by decide) (G_pc (pc' := 145) rfl ?_)
          refine G_bipush (n := 53) d_Mo_word_145 (by decide) (G_pc (pc' := 147) rfl ?_)
          refine G_bipush (n := 37) d_Mo_word_147 (by decide) (G_pc (pc' := 149) rfl ?_)
          refine G_iconst (n := 0) d_Mo_word_149 (by decide) (G_pc (pc' := 150) rfl ?_)
          refine G_callS (K1 := KE) (d2 := 0) (as := [vi 52, vi 50, vi 53, vi 37, vi 0]) (rest := [vl v]) d_Mo_word_150 mf_Mo_spell ml_Mo_191 rfl rfl (Nat.le_of_ble_eq_true rfl) (by omega) ⟨Nat.le_refl _, Nat.le_refl _⟩ (g_Mo_spell (by omega) 52 50 53 37 0 _) (fun r3210 M3211 kq3212 q3212 => ?_)
          clear kq3212; obtain ⟨q3212a, q3212b⟩ := q3212; subst r3210; subst M3211
          refine G_ps (pc' := 153) (st' := [vl (spellV 52 50 53 37 0), vl v]) rfl rfl ?_
          refine G_lcmp_ne (tgt := 161) d_Mo_word_153 d_Mo_word_154 (by decide) (fun h3213 => ?_) (fun h3213 => G_pc (pc' := 157) rfl ?_)
          · skip
            refine G_lload (i := 4) (n := 1) (len := 2) (Or.inr ⟨rfl, d_Mo_word_161⟩) rfl (G_pc (pc' := 163) rfl ?_)
            refine G_bipush (n := 38) d_Mo_word_163 (by decide) (G_pc (pc' := 165) rfl ?_)
            refine G_bipush (n := 33) d_Mo_word_165 (by decide) (G_pc (pc' := 167) rfl ?_)
            refine G_bipush (n := 44) d_Mo_word_167 (by decide) (G_pc (pc' := 169) rfl ?_)
            refine G_bipush (n := 51) d_Mo_word_169 (by decide) (G_pc (pc' := 171) rfl ?_)
            refine G_bipush (n := 37) d_Mo_word_171 (by decide) (G_pc (pc' := 173) rfl ?_)
            refine G_callS (K1 := KE) (d2 := 0) (as := [vi 38, vi 33, vi 44, vi 51, vi 37]) (rest := [vl v]) d_Mo_word_173 mf_Mo_spell ml_Mo_191 rfl rfl (Nat.le_of_ble_eq_true rfl) (by omega) ⟨Nat.le_refl _, Nat.le_refl _⟩ (g_Mo_spell (by omega) 38 33 44 51 37 _) (fun r3214 M3215 kq3216 q3216 => ?_)
            clear kq3216; obtain ⟨q3216a, q3216b⟩ := q3216; subst r3214; subst M3215
            refine G_ps (pc' := 176) (st' := [vl (spellV 38 33 44 51 37), vl v]) rfl rfl ?_
            refine G_lcmp_ne (tgt := 185) d_Mo_word_176 d_Mo_word_177 (by decide) (fun h3217 => ?_) (fun h3217 => G_pc (pc' := 180) rfl ?_)
            · skip
              refine G_lload (i := 4) (n := 1) (len := 2) (Or.inr ⟨rfl, d_Mo_word_185⟩) rfl (G_pc (pc' := 187) rfl ?_)
              refine G_bipush (n := 46) d_Mo_word_187 (by decide) (G_pc (pc' := 189) rfl ?_)
              refine G_bipush (n := 53) d_Mo_word_189 (by decide) (G_pc (pc' := 191) rfl ?_)
              refine G_bipush (n := 44) d_Mo_word_191 (by decide) (G_pc (pc' := 193) rfl ?_)
              refine G_bipush (n := 44) d_Mo_word_193 (by decide) (G_pc (pc' := 195) rfl ?_)
              refine G_iconst (n := 0) d_Mo_word_195 (by decide) (G_pc (pc' := 196) rfl ?_)
              refine G_callS (K1 := KE) (d2 := 0) (as := [vi 46, vi 53, vi 44, vi 44, vi 0]) (rest := [vl v]) d_Mo_word_196 mf_Mo_spell ml_Mo_191 rfl rfl (Nat.le_of_ble_eq_true rfl) (by omega) ⟨Nat.le_refl _, Nat.le_refl _⟩ (g_Mo_spell (by omega) 46 53 44 44 0 _) (fun r3218 M3219 kq3220 q3220 => ?_)
              clear kq3220; obtain ⟨q3220a, q3220b⟩ := q3220; subst r3218; subst M3219
              refine G_ps (pc' := 199) (st' := [vl (spellV 46 53 44 44 0), vl v]) rfl rfl ?_
              refine G_lcmp_ne (tgt := 207) d_Mo_word_199 d_Mo_word_200 (by decide) (fun h3221 => ?_) (fun h3221 => G_pc (pc' := 203) rfl ?_)
              · skip
                refine G_lload (i := 4) (n := 1) (len := 2) (Or.inr ⟨rfl, d_Mo_word_207⟩) rfl (G_pc (pc' := 209) rfl ?_)
                refine G_bipush (n := 52) d_Mo_word_209 (by decide) (G_pc (pc' := 211) rfl ?_)
                refine G_bipush (n := 40) d_Mo_word_211 (by decide) (G_pc (pc' := 213) rfl ?_)
                refine G_bipush (n := 41) d_Mo_word_213 (by decide) (G_pc (pc' := 215) rfl ?_)
                refine G_bipush (n := 51) d_Mo_word_215 (by decide) (G_pc (pc' := 217) rfl ?_)
                refine G_iconst (n := 0) d_Mo_word_217 (by decide) (G_pc (pc' := 218) rfl ?_)
                refine G_callS (K1 := KE) (d2 := 0) (as := [vi 52, vi 40, vi 41, vi 51, vi 0]) (rest := [vl v]) d_Mo_word_218 mf_Mo_spell ml_Mo_191 rfl rfl (Nat.le_of_ble_eq_true rfl) (by omega) ⟨Nat.le_refl _, Nat.le_refl _⟩ (g_Mo_spell (by omega) 52 40 41 51 0 _) (fun r3222 M3223 kq3224 q3224 => ?_)
                clear kq3224; obtain ⟨q3224a, q3224b⟩ := q3224; subst r3222; subst M3223
                refine G_ps (pc' := 221) (st' := [vl (spellV 52 40 41 51 0), vl v]) rfl rfl ?_
                refine G_lcmp_ne (tgt := 230) d_Mo_word_221 d_Mo_word_222 (by decide) (fun h3225 => ?_) (fun h3225 => G_pc (pc' := 225) rfl ?_)
                · skip
                  refine G_lload (i := 4) (n := 1) (len := 2) (Or.inr ⟨rfl, d_Mo_word_230⟩) rfl (G_pc (pc' := 232) rfl ?_)
                  refine G_bipush (n := 41) d_Mo_word_232 (by decide) (G_pc (pc' := 234) rfl ?_)
                  refine G_bipush (n := 46) d_Mo_word_234 (by decide) (G_pc (pc' := 236) rfl ?_)
                  refine G_bipush (n := 52) d_Mo_word_236 (by decide) (G_pc (pc' := 238) rfl ?_)
                  refine G_iconst (n := 0) d_Mo_word_238 (by decide) (G_pc (pc' := 239) rfl ?_)
                  refine G_iconst (n := 0) d_Mo_word_239 (by decide) (G_pc (pc' := 240) rfl ?_)
                  refine G_callS (K1 := KE) (d2 := 0) (as := [vi 41, vi 46, vi 52, vi 0, vi 0]) (rest := [vl v]) d_Mo_word_240 mf_Mo_spell ml_Mo_191 rfl rfl (Nat.le_of_ble_eq_true rfl) (by omega) ⟨Nat.le_refl _, Nat.le_refl _⟩ (g_Mo_spell (by omega) 41 46 52 0 0 _) (fun r3226 M3227 kq3228 q3228 => ?_)
                  clear kq3228; obtain ⟨q3228a, q3228b⟩ := q3228; subst r3226; subst M3227
                  refine G_ps (pc' := 243) (st' := [vl (spellV 41 46 52 0 0), vl v]) rfl rfl ?_
                  refine G_lcmp_ne (tgt := 252) d_Mo_word_243 d_Mo_word_244 (by decide) (fun h3229 => ?_) (fun h3229 => G_pc (pc' := 247) rfl ?_)
                  · skip
                    refine G_lload (i := 4) (n := 1) (len := 2) (Or.inr ⟨rfl, d_Mo_word_252⟩) rfl (G_pc (pc' := 254) rfl ?_)
                    refine G_bipush (n := 44) d_Mo_word_254 (by decide) (G_pc (pc' := 256) rfl ?_)
                    refine G_bipush (n := 47) d_Mo_word_256 (by decide) (G_pc (pc' := 258) rfl ?_)
                    refine G_bipush (n := 46) d_Mo_word_258 (by decide) (G_pc (pc' := 260) rfl ?_)
                    refine G_bipush (n := 39) d_Mo_word_260 (by decide) (G_pc (pc' := 262) rfl ?_)
                    refine G_iconst (n := 0) d_Mo_word_262 (by decide) (G_pc (pc' := 263) rfl ?_)
                    refine G_callS (K1 := KE) (d2 := 0) (as := [vi 44, vi 47, vi 46, vi 39, vi 0]) (rest := [vl v]) d_Mo_word_263 mf_Mo_spell ml_Mo_191 rfl rfl (Nat.le_of_ble_eq_true rfl) (by omega) ⟨Nat.le_refl _, Nat.le_refl _⟩ (g_Mo_spell (by omega) 44 47 46 39 0 _) (fun r3230 M3231 kq3232 q3232 => ?_)
                    clear kq3232; obtain ⟨q3232a, q3232b⟩ := q3232; subst r3230; subst M3231
                    refine G_ps (pc' := 266) (st' := [vl (spellV 44 47 46 39 0), vl v]) rfl rfl ?_
                    refine G_lcmp_ne (tgt := 275) d_Mo_word_266 d_Mo_word_267 (by decide) (fun h3233 => ?_) (fun h3233 => G_pc (pc' := 270) rfl ?_)
                    · skip
                      refine G_lload (i := 4) (n := 1) (len := 2) (Or.inr ⟨rfl, d_Mo_word_275⟩) rfl (G_pc (pc' := 277) rfl ?_)
                      refine G_bipush (n := 35) d_Mo_word_277 (by decide) (G_pc (pc' := 279) rfl ?_)
                      refine G_bipush (n := 40) d_Mo_word_279 (by decide) (G_pc (pc' := 281) rfl ?_)
                      refine G_bipush (n := 33) d_Mo_word_281 (by decide) (G_pc (pc' := 283) rfl ?_)
                      refine G_bipush (n := 50) d_Mo_word_283 (by decide) (G_pc (pc' := 285) rfl ?_)
                      refine G_iconst (n := 0) d_Mo_word_285 (by decide) (G_pc (pc' := 286) rfl ?_)
                      refine G_callS (K1 := KE) (d2 := 0) (as := [vi 35, vi 40, vi 33, vi 50, vi 0]) (rest := [vl v]) d_Mo_word_286 mf_Mo_spell ml_Mo_191 rfl rfl (Nat.le_of_ble_eq_true rfl) (by omega) ⟨Nat.le_refl _, Nat.le_refl _⟩ (g_Mo_spell (by omega) 35 40 33 50 0 _) (fun r3234 M3235 kq3236 q3236 => ?_)
                      clear kq3236; obtain ⟨q3236a, q3236b⟩ := q3236; subst r3234; subst M3235
                      refine G_ps (pc' := 289) (st' := [vl (spellV 35 40 33 50 0), vl v]) rfl rfl ?_
                      refine G_lcmp_ne (tgt := 298) d_Mo_word_289 d_Mo_word_290 (by decide) (fun h3237 => ?_) (fun h3237 => G_pc (pc' := 293) rfl ?_)
                      · skip
                        refine G_iconst (n := 0) d_Mo_word_298 (by decide) (G_pc (pc' := 299) rfl ?_)
                        refine G_istore (i := 7) (len := 2) (ls' := [(7, vi 0), (6, vi (k - f)), (4, vl v), (3, vi k), (0, vr 55), (1, vi e), (2, vi f)]) (Or.inr ⟨rfl, d_Mo_word_299⟩) (by decide) rfl (G_pc (pc' := 301) rfl ?_)
                        refine G_ls (ls' := [(7, vi 0), (6, vi (k - f)), (4, vl v), (3, vi k), (0, vr 55), (1, vi e), (2, vi f)]) (by intro z hz; simp at hz ⊢; omega) ?_
                        exact tl1 0 k v (by assumption) (by assumption) (by omega) (by omega) (by unfold wkA; grind)
                      · skip
                        refine G_bipush (n := 11) d_Mo_word_293 (by decide) (G_pc (pc' := 295) rfl ?_)
                        refine G_goto (tgt := 299) d_Mo_word_295 (by decide) ?_
                        refine G_istore (i := 7) (len := 2) (ls' := [(7, vi 11), (6, vi (k - f)), (4, vl v), (3, vi k), (0, vr 55), (1, vi e), (2, vi f)]) (Or.inr ⟨rfl, d_Mo_word_299⟩) (by decide) rfl (G_pc (pc' := 301) rfl ?_)
                        refine G_ls (ls' := [(7, vi 11), (6, vi (k - f)), (4, vl v), (3, vi k), (0, vr 55), (1, vi e), (2, vi f)]) (by intro z hz; simp at hz ⊢; omega) ?_
                        exact tl1 11 k v (by assumption) (by assumption) (by omega) (by omega) (by unfold wkA; grind)
                    · skip
                      refine G_bipush (n := 10) d_Mo_word_270 (by decide) (G_pc (pc' := 272) rfl ?_)
                      refine G_goto (tgt := 299) d_Mo_word_272 (by decide) ?_
                      refine G_istore (i := 7) (len := 2) (ls' := [(7, vi 10), (6, vi (k - f)), (4, vl v), (3, vi k), (0, vr 55), (1, vi e), (2, vi f)]) (Or.inr ⟨rfl, d_Mo_word_299⟩) (by decide) rfl (G_pc (pc' := 301) rfl ?_)
                      refine G_ls (ls' := [(7, vi 10), (6, vi (k - f)), (4, vl v), (3, vi k), (0, vr 55), (1, vi e), (2, vi f)]) (by intro z hz; simp at hz ⊢; omega) ?_
                      exact tl1 10 k v (by assumption) (by assumption) (by omega) (by omega) (by unfold wkA; grind)
                  · skip
                    refine G_bipush (n := 9) d_Mo_word_247 (by decide) (G_pc (pc' := 249) rfl ?_)
                    refine G_goto (tgt := 299) d_Mo_word_249 (by decide) ?_
                    refine G_istore (i := 7) (len := 2) (ls' := [(7, vi 9), (6, vi (k - f)), (4, vl v), (3, vi k), (0, vr 55), (1, vi e), (2, vi f)]) (Or.inr ⟨rfl, d_Mo_word_299⟩) (by decide) rfl (G_pc (pc' := 301) rfl ?_)
                    refine G_ls (ls' := [(7, vi 9), (6, vi (k - f)), (4, vl v), (3, vi k), (0, vr 55), (1, vi e), (2, vi f)]) (by intro z hz; simp at hz ⊢; omega) ?_
                    exact tl1 9 k v (by assumption) (by assumption) (by omega) (by omega) (by unfold wkA; grind)
                · skip
                  refine G_bipush (n := 6) d_Mo_word_225 (by decide) (G_pc (pc' := 227) rfl ?_)
                  refine G_goto (tgt := 299) d_Mo_word_227 (by decide) ?_
                  refine G_istore (i := 7) (len := 2) (ls' := [(7, vi 6), (6, vi (k - f)), (4, vl v), (3, vi k), (0, vr 55), (1, vi e), (2, vi f)]) (Or.inr ⟨rfl, d_Mo_word_299⟩) (by decide) rfl (G_pc (pc' := 301) rfl ?_)
                  refine G_ls (ls' := [(7, vi 6), (6, vi (k - f)), (4, vl v), (3, vi k), (0, vr 55), (1, vi e), (2, vi f)]) (by intro z hz; simp at hz ⊢; omega) ?_
                  exact tl1 6 k v (by assumption) (by assumption) (by omega) (by omega) (by unfold wkA; grind)
              · skip
                refine G_iconst (n := 5) d_Mo_word_203 (by decide) (G_pc (pc' := 204) rfl ?_)
                refine G_goto (tgt := 299) d_Mo_word_204 (by decide) ?_
                refine G_istore (i := 7) (len := 2) (ls' := [(7, vi 5), (6, vi (k - f)), (4, vl v), (3, vi k), (0, vr 55), (1, vi e), (2, vi f)]) (Or.inr ⟨rfl, d_Mo_word_299⟩) (by decide) rfl (G_pc (pc' := 301) rfl ?_)
                refine G_ls (ls' := [(7, vi 5), (6, vi (k - f)), (4, vl v), (3, vi k), (0, vr 55), (1, vi e), (2, vi f)]) (by intro z hz; simp at hz ⊢; omega) ?_
                exact tl1 5 k v (by assumption) (by assumption) (by omega) (by omega) (by unfold wkA; grind)
            · skip
              refine G_bipush (n := 15) d_Mo_word_180 (by decide) (G_pc (pc' := 182) rfl ?_)
              refine G_goto (tgt := 299) d_Mo_word_182 (by decide) ?_
              refine G_istore (i := 7) (len := 2) (ls' := [(7, vi 15), (6, vi (k - f)), (4, vl v), (3, vi k), (0, vr 55), (1, vi e), (2, vi f)]) (Or.inr ⟨rfl, d_Mo_word_299⟩) (by decide) rfl (G_pc (pc' := 301) rfl ?_)
              refine G_ls (ls' := [(7, vi 15), (6, vi (k - f)), (4, vl v), (3, vi k), (0, vr 55), (1, vi e), (2, vi f)]) (by intro z hz; simp at hz ⊢; omega) ?_
              exact tl1 15 k v (by assumption) (by assumption) (by omega) (by omega) (by unfold wkA; grind)
          · skip
            refine G_iconst (n := 4) d_Mo_word_157 (by decide) (G_pc (pc' := 158) rfl ?_)
            refine G_goto (tgt := 299) d_Mo_word_158 (by decide) ?_
            refine G_istore (i := 7) (len := 2) (ls' := [(7, vi 4), (6, vi (k - f)), (4, vl v), (3, vi k), (0, vr 55), (1, vi e), (2, vi f)]) (Or.inr ⟨rfl, d_Mo_word_299⟩) (by decide) rfl (G_pc (pc' := 301) rfl ?_)
            refine G_ls (ls' := [(7, vi 4), (6, vi (k - f)), (4, vl v), (3, vi k), (0, vr 55), (1, vi e), (2, vi f)]) (by intro z hz; simp at hz ⊢; omega) ?_
            exact tl1 4 k v (by assumption) (by assumption) (by omega) (by omega) (by unfold wkA; grind)
        · skip
          refine G_iconst (n := 0) d_Mo_word_135 (by decide) (G_pc (pc' := 136) rfl ?_)
          refine G_goto (tgt := 299) d_Mo_word_136 (by decide) ?_
          refine G_istore (i := 7) (len := 2) (ls' := [(7, vi 0), (6, vi (k - f)), (4, vl v), (3, vi k), (0, vr 55), (1, vi e), (2, vi f)]) (Or.inr ⟨rfl, d_Mo_word_299⟩) (by decide) rfl (G_pc (pc' := 301) rfl ?_)
          refine G_ls (ls' := [(7, vi 0), (6, vi (k - f)), (4, vl v), (3, vi k), (0, vr 55), (1, vi e), (2, vi f)]) (by intro z hz; simp at hz ⊢; omega) ?_
          exact tl1 0 k v (by assumption) (by assumption) (by omega) (by omega) (by unfold wkA; grind)
      · skip
        refine G_aload (i := 0) (n := 3) (len := 1) (Or.inl ⟨0, rfl, rfl, d_Mo_word_52⟩) rfl (by decide) (G_pc (pc' := 53) rfl ?_)
        refine G_iload (i := 1) (n := 4) (len := 1) (Or.inl ⟨1, rfl, rfl, d_Mo_word_53⟩) rfl (G_pc (pc' := 54) rfl ?_)
        refine G_iload (i := 2) (n := 5) (len := 1) (Or.inl ⟨2, rfl, rfl, d_Mo_word_54⟩) rfl (G_pc (pc' := 55) rfl ?_)
        refine G_callV (K1 := KE) (d2 := 0) (o := 55) (cl := 9) (as := [vi e, vi f]) (rest := []) d_Mo_word_55 mf_Mo_at ml_Mo_169 rfl rfl (by decide) rfl rfl (Nat.le_of_ble_eq_true rfl) (by omega) ⟨Nat.le_refl _, Nat.le_refl _⟩ (g_Mo_at (by omega) e f _ hL he (by omega)) (fun r3238 M3239 kq3240 q3240 => ?_)
        clear kq3240; obtain ⟨q3240a, q3240b⟩ := q3240; subst r3238; subst M3239
        refine G_ps (pc' := 58) (st' := [vi (txM M e f)]) rfl rfl ?_
        have hx8 := txM_rng hX (k := f) (by omega)
        refine G_istore (i := 7) (len := 2) (ls' := [(7, vi (txM M e f)), (6, vi (k - f)), (4, vl v), (3, vi k), (0, vr 55), (1, vi e), (2, vi f)]) (Or.inr ⟨rfl, d_Mo_word_58⟩) (by decide) rfl (G_pc (pc' := 60) rfl ?_)
        refine G_aload (i := 0) (n := 4) (len := 1) (Or.inl ⟨0, rfl, rfl, d_Mo_word_60⟩) rfl (by decide) (G_pc (pc' := 61) rfl ?_)
        refine G_iload (i := 7) (n := 0) (len := 2) (Or.inr ⟨rfl, d_Mo_word_61⟩) rfl (G_pc (pc' := 63) rfl ?_)
        refine G_callS (K1 := KE) (d2 := 0) (as := [vi (txM M e f)]) (rest := [vr 55]) d_Mo_word_63 mf_Mo_small ml_Mo_160 rfl rfl (Nat.le_of_ble_eq_true rfl) (by omega) ⟨Nat.le_refl _, Nat.le_refl _⟩ (g_Mo_small (by omega) (txM M e f) _) (fun r3241 M3242 kq3243 q3243 => ?_)
        clear kq3243; obtain ⟨q3243a, q3243b⟩ := q3243; subst r3241; subst M3242
        refine G_ps (pc' := 66) (st' := [vi (b2i (smaB (txM M e f))), vr 55]) rfl rfl ?_
        refine G_if_ne (tgt := 80) d_Mo_word_66 (by decide) (fun h3244 => ?_) (fun h3244 => G_pc (pc' := 69) rfl ?_)
        · skip
          replace h3244 := b2i_nz.mp h3244
          replace h3244 := smaB_t.mp h3244
          refine G_iconst (n := 0) d_Mo_word_80 (by decide) (G_pc (pc' := 81) rfl ?_)
          refine G_putL (o := 55) (c := 9) (k := 44) (ki := 44) (x := 0) d_Mo_word_81 fl_Mo_166 rfl rfl (by decide) (by decide) (by decide) rfl rfl (tokZ (by decide)) rfl (G_pc (pc' := 84) rfl ?_)
          refine G_aload (i := 0) (n := 4) (len := 1) (Or.inl ⟨0, rfl, rfl, d_Mo_word_84⟩) rfl (by decide) (G_pc (pc' := 85) rfl ?_)
          refine G_iload (i := 7) (n := 0) (len := 2) (Or.inr ⟨rfl, d_Mo_word_85⟩) rfl (G_pc (pc' := 87) rfl ?_)
          refine G_callS (K1 := KE) (d2 := 0) (as := [vi (txM M e f)]) (rest := [vr 55]) d_Mo_word_87 mf_Mo_small ml_Mo_160 rfl rfl (Nat.le_of_ble_eq_true rfl) (by omega) ⟨Nat.le_refl _, Nat.le_refl _⟩ (g_Mo_small (by omega) (txM M e f) _) (fun r3245 M3246 kq3247 q3247 => ?_)
          clear kq3247; obtain ⟨q3247a, q3247b⟩ := q3247; subst r3245; subst M3246
          refine G_ps (pc' := 90) (st' := [vi (b2i (smaB (txM M e f))), vr 55]) rfl rfl ?_
          refine G_if_eq (tgt := 98) d_Mo_word_90 (by decide) (fun h3248 => ?_) (fun h3248 => G_pc (pc' := 93) rfl ?_)
          · skip
            replace h3248 := b2i_0.mp h3248
            replace h3248 := smaB_f.mp h3248
            refine G_bipush (n := 8) d_Mo_word_98 (by decide) (G_pc (pc' := 100) rfl ?_)
            refine G_iload (i := 7) (n := 0) (len := 2) (Or.inr ⟨rfl, d_Mo_word_100⟩) rfl (G_pc (pc' := 102) rfl ?_)
            refine G_callS (K1 := KE) (d2 := 0) (as := [vi (txM M e f)]) (rest := [vi 8, vr 55]) d_Mo_word_102 mf_Mo_small ml_Mo_160 rfl rfl (Nat.le_of_ble_eq_true rfl) (by omega) ⟨Nat.le_refl _, Nat.le_refl _⟩ (g_Mo_small (by omega) (txM M e f) _) (fun r3249 M3250 kq3251 q3251 => ?_)
            clear kq3251; obtain ⟨q3251a, q3251b⟩ := q3251; subst r3249; subst M3250
            refine G_ps (pc' := 105) (st' := [vi (b2i (smaB (txM M e f))), vi 8, vr 55]) rfl rfl ?_
            refine G_if_eq (tgt := 117) d_Mo_word_105 (by decide) (fun h3252 => ?_) (fun h3252 => G_pc (pc' := 108) rfl ?_)
            · skip
              replace h3252 := b2i_0.mp h3252
              replace h3252 := smaB_f.mp h3252
              refine G_iload (i := 7) (n := 0) (len := 2) (Or.inr ⟨rfl, d_Mo_word_117⟩) rfl (G_pc (pc' := 119) rfl ?_)
              refine G_bipush (n := 65) d_Mo_word_119 (by decide) (G_pc (pc' := 121) rfl ?_)
              refine G_isub d_Mo_word_121 (by omega) (G_pc (pc' := 122) rfl ?_)
              refine G_i2l d_Mo_word_122 (G_pc (pc' := 123) rfl ?_)
              refine G_callV (K1 := KE) (d2 := 0) (o := 55) (cl := 9) (as := [vi 8, vl ((txM M e f) - 65)]) (rest := []) d_Mo_word_123 mf_Mo_add ml_Mo_184 rfl rfl (by decide) rfl rfl (Nat.le_of_ble_eq_true rfl) (by omega) ⟨Nat.le_refl _, Nat.le_refl _⟩ (g_Mo_add (by omega) 8 ((txM M e f) - 65) _ hT) (fun r3253 M3254 kq3255 q3255 => ?_)
              clear kq3255; obtain ⟨q3255a, q3255b⟩ := q3255; subst r3253; subst M3254
              refine G_ps (pc' := 126) (st' := []) rfl rfl ?_
              refine G_iload (i := 3) (n := 3) (len := 1) (Or.inl ⟨3, rfl, rfl, d_Mo_word_126⟩) rfl (G_pc (pc' := 127) rfl ?_)
              refine G_iret d_Mo_word_127 rfl (tokI (by omega)) rfl rfl ?_
              exact ⟨by rw [wordT_1 hE (by omega)]; rfl, by rw [wordT_1 hE (by omega)]; unfold tokM wordT1; grind [smaB]⟩
            · skip
              replace h3252 := b2i_nz.mp h3252
              replace h3252 := smaB_t.mp h3252
              refine G_iload (i := 7) (n := 0) (len := 2) (Or.inr ⟨rfl, d_Mo_word_108⟩) rfl (G_pc (pc' := 110) rfl ?_)
              refine G_bipush (n := 97) d_Mo_word_110 (by decide) (G_pc (pc' := 112) rfl ?_)
              refine G_isub d_Mo_word_112 (by omega) (G_pc (pc' := 113) rfl ?_)
              refine G_i2l d_Mo_word_113 (G_pc (pc' := 114) rfl ?_)
              refine G_goto (tgt := 123) d_Mo_word_114 (by decide) ?_
              refine G_callV (K1 := KE) (d2 := 0) (o := 55) (cl := 9) (as := [vi 8, vl ((txM M e f) - 97)]) (rest := []) d_Mo_word_123 mf_Mo_add ml_Mo_184 rfl rfl (by decide) rfl rfl (Nat.le_of_ble_eq_true rfl) (by omega) ⟨Nat.le_refl _, Nat.le_refl _⟩ (g_Mo_add (by omega) 8 ((txM M e f) - 97) _ hT) (fun r3256 M3257 kq3258 q3258 => ?_)
              clear kq3258; obtain ⟨q3258a, q3258b⟩ := q3258; subst r3256; subst M3257
              refine G_ps (pc' := 126) (st' := []) rfl rfl ?_
              refine G_iload (i := 3) (n := 3) (len := 1) (Or.inl ⟨3, rfl, rfl, d_Mo_word_126⟩) rfl (G_pc (pc' := 127) rfl ?_)
              refine G_iret d_Mo_word_127 rfl (tokI (by omega)) rfl rfl ?_
              exact ⟨by rw [wordT_1 hE (by omega)]; rfl, by rw [wordT_1 hE (by omega)]; unfold tokM wordT1; grind [smaB]⟩
          · skip
            replace h3248 := b2i_nz.mp h3248
            replace h3248 := smaB_t.mp h3248
            refine G_bipush (n := 7) d_Mo_word_93 (by decide) (G_pc (pc' := 95) rfl ?_)
            refine G_goto (tgt := 100) d_Mo_word_95 (by decide) ?_
            refine G_iload (i := 7) (n := 0) (len := 2) (Or.inr ⟨rfl, d_Mo_word_100⟩) rfl (G_pc (pc' := 102) rfl ?_)
            refine G_callS (K1 := KE) (d2 := 0) (as := [vi (txM M e f)]) (rest := [vi 7, vr 55]) d_Mo_word_102 mf_Mo_small ml_Mo_160 rfl rfl (Nat.le_of_ble_eq_true rfl) (by omega) ⟨Nat.le_refl _, Nat.le_refl _⟩ (g_Mo_small (by omega) (txM M e f) _) (fun r3259 M3260 kq3261 q3261 => ?_)
            clear kq3261; obtain ⟨q3261a, q3261b⟩ := q3261; subst r3259; subst M3260
            refine G_ps (pc' := 105) (st' := [vi (b2i (smaB (txM M e f))), vi 7, vr 55]) rfl rfl ?_
            refine G_if_eq (tgt := 117) d_Mo_word_105 (by decide) (fun h3262 => ?_) (fun h3262 => G_pc (pc' := 108) rfl ?_)
            · skip
              replace h3262 := b2i_0.mp h3262
              replace h3262 := smaB_f.mp h3262
              refine G_iload (i := 7) (n := 0) (len := 2) (Or.inr ⟨rfl, d_Mo_word_117⟩) rfl (G_pc (pc' := 119) rfl ?_)
              refine G_bipush (n := 65) d_Mo_word_119 (by decide) (G_pc (pc' := 121) rfl ?_)
              refine G_isub d_Mo_word_121 (by omega) (G_pc (pc' := 122) rfl ?_)
              refine G_i2l d_Mo_word_122 (G_pc (pc' := 123) rfl ?_)
              refine G_callV (K1 := KE) (d2 := 0) (o := 55) (cl := 9) (as := [vi 7, vl ((txM M e f) - 65)]) (rest := []) d_Mo_word_123 mf_Mo_add ml_Mo_184 rfl rfl (by decide) rfl rfl (Nat.le_of_ble_eq_true rfl) (by omega) ⟨Nat.le_refl _, Nat.le_refl _⟩ (g_Mo_add (by omega) 7 ((txM M e f) - 65) _ hT) (fun r3263 M3264 kq3265 q3265 => ?_)
              clear kq3265; obtain ⟨q3265a, q3265b⟩ := q3265; subst r3263; subst M3264
              refine G_ps (pc' := 126) (st' := []) rfl rfl ?_
              refine G_iload (i := 3) (n := 3) (len := 1) (Or.inl ⟨3, rfl, rfl, d_Mo_word_126⟩) rfl (G_pc (pc' := 127) rfl ?_)
              refine G_iret d_Mo_word_127 rfl (tokI (by omega)) rfl rfl ?_
              exact ⟨by rw [wordT_1 hE (by omega)]; rfl, by rw [wordT_1 hE (by omega)]; unfold tokM wordT1; grind [smaB]⟩
            · skip
              replace h3262 := b2i_nz.mp h3262
              replace h3262 := smaB_t.mp h3262
              refine G_iload (i := 7) (n := 0) (len := 2) (Or.inr ⟨rfl, d_Mo_word_108⟩) rfl (G_pc (pc' := 110) rfl ?_)
              refine G_bipush (n := 97) d_Mo_word_110 (by decide) (G_pc (pc' := 112) rfl ?_)
              refine G_isub d_Mo_word_112 (by omega) (G_pc (pc' := 113) rfl ?_)
              refine G_i2l d_Mo_word_113 (G_pc (pc' := 114) rfl ?_)
              refine G_goto (tgt := 123) d_Mo_word_114 (by decide) ?_
              refine G_callV (K1 := KE) (d2 := 0) (o := 55) (cl := 9) (as := [vi 7, vl ((txM M e f) - 97)]) (rest := []) d_Mo_word_123 mf_Mo_add ml_Mo_184 rfl rfl (by decide) rfl rfl (Nat.le_of_ble_eq_true rfl) (by omega) ⟨Nat.le_refl _, Nat.le_refl _⟩ (g_Mo_add (by omega) 7 ((txM M e f) - 97) _ hT) (fun r3266 M3267 kq3268 q3268 => ?_)
              clear kq3268; obtain ⟨q3268a, q3268b⟩ := q3268; subst r3266; subst M3267
              refine G_ps (pc' := 126) (st' := []) rfl rfl ?_
              refine G_iload (i := 3) (n := 3) (len := 1) (Or.inl ⟨3, rfl, rfl, d_Mo_word_126⟩) rfl (G_pc (pc' := 127) rfl ?_)
              refine G_iret d_Mo_word_127 rfl (tokI (by omega)) rfl rfl ?_
              exact ⟨by rw [wordT_1 hE (by omega)]; rfl, by rw [wordT_1 hE (by omega)]; unfold tokM wordT1; grind [smaB]⟩
        · skip
          replace h3244 := b2i_0.mp h3244
          replace h3244 := smaB_f.mp h3244
          refine G_iload (i := 7) (n := 0) (len := 2) (Or.inr ⟨rfl, d_Mo_word_69⟩) rfl (G_pc (pc' := 71) rfl ?_)
          refine G_bipush (n := 70) d_Mo_word_71 (by decide) (G_pc (pc' := 73) rfl ?_)
          refine G_icmp_le (tgt := 80) d_Mo_word_73 (by decide) (fun h3269 => ?_) (fun h3269 => G_pc (pc' := 76) rfl ?_)
          · skip
            refine G_iconst (n := 0) d_Mo_word_80 (by decide) (G_pc (pc' := 81) rfl ?_)
            refine G_putL (o := 55) (c := 9) (k := 44) (ki := 44) (x := 0) d_Mo_word_81 fl_Mo_166 rfl rfl (by decide) (by decide) (by decide) rfl rfl (tokZ (by decide)) rfl (G_pc (pc' := 84) rfl ?_)
            refine G_aload (i := 0) (n := 4) (len := 1) (Or.inl ⟨0, rfl, rfl, d_Mo_word_84⟩) rfl (by decide) (G_pc (pc' := 85) rfl ?_)
            refine G_iload (i := 7) (n := 0) (len := 2) (Or.inr ⟨rfl, d_Mo_word_85⟩) rfl (G_pc (pc' := 87) rfl ?_)
            refine G_callS (K1 := KE) (d2 := 0) (as := [vi (txM M e f)]) (rest := [vr 55]) d_Mo_word_87 mf_Mo_small ml_Mo_160 rfl rfl (Nat.le_of_ble_eq_true rfl) (by omega) ⟨Nat.le_refl _, Nat.le_refl _⟩ (g_Mo_small (by omega) (txM M e f) _) (fun r3270 M3271 kq3272 q3272 => ?_)
            clear kq3272; obtain ⟨q3272a, q3272b⟩ := q3272; subst r3270; subst M3271
            refine G_ps (pc' := 90) (st' := [vi (b2i (smaB (txM M e f))), vr 55]) rfl rfl ?_
            refine G_if_eq (tgt := 98) d_Mo_word_90 (by decide) (fun h3273 => ?_) (fun h3273 => G_pc (pc' := 93) rfl ?_)
            · skip
              replace h3273 := b2i_0.mp h3273
              replace h3273 := smaB_f.mp h3273
              refine G_bipush (n := 8) d_Mo_word_98 (by decide) (G_pc (pc' := 100) rfl ?_)
              refine G_iload (i := 7) (n := 0) (len := 2) (Or.inr ⟨rfl, d_Mo_word_100⟩) rfl (G_pc (pc' := 102) rfl ?_)
              refine G_callS (K1 := KE) (d2 := 0) (as := [vi (txM M e f)]) (rest := [vi 8, vr 55]) d_Mo_word_102 mf_Mo_small ml_Mo_160 rfl rfl (Nat.le_of_ble_eq_true rfl) (by omega) ⟨Nat.le_refl _, Nat.le_refl _⟩ (g_Mo_small (by omega) (txM M e f) _) (fun r3274 M3275 kq3276 q3276 => ?_)
              clear kq3276; obtain ⟨q3276a, q3276b⟩ := q3276; subst r3274; subst M3275
              refine G_ps (pc' := 105) (st' := [vi (b2i (smaB (txM M e f))), vi 8, vr 55]) rfl rfl ?_
              refine G_if_eq (tgt := 117) d_Mo_word_105 (by decide) (fun h3277 => ?_) (fun h3277 => G_pc (pc' := 108) rfl ?_)
              · skip
                replace h3277 := b2i_0.mp h3277
                replace h3277 := smaB_f.mp h3277
                refine G_iload (i := 7) (n := 0) (len := 2) (Or.inr ⟨rfl, d_Mo_word_117⟩) rfl (G_pc (pc' := 119) rfl ?_)
                refine G_bipush (n := 65) d_Mo_word_119 (by decide) (G_pc (pc' := 121) rfl ?_)
                refine G_isub d_Mo_word_121 (by omega) (G_pc (pc' := 122) rfl ?_)
                refine G_i2l d_Mo_word_122 (G_pc (pc' := 123) rfl ?_)
                refine G_callV (K1 := KE) (d2 := 0) (o := 55) (cl := 9) (as := [vi 8, vl ((txM M e f) - 65)]) (rest := []) d_Mo_word_123 mf_Mo_add ml_Mo_184 rfl rfl (by decide) rfl rfl (Nat.le_of_ble_eq_true rfl) (by omega) ⟨Nat.le_refl _, Nat.le_refl _⟩ (g_Mo_add (by omega) 8 ((txM M e f) - 65) _ hT) (fun r3278 M3279 kq3280 q3280 => ?_)
                clear kq3280; obtain ⟨q3280a, q3280b⟩ := q3280; subst r3278; subst M3279
                refine G_ps (pc' := 126) (st' := []) rfl rfl ?_
                refine G_iload (i := 3) (n := 3) (len := 1) (Or.inl ⟨3, rfl, rfl, d_Mo_word_126⟩) rfl (G_pc (pc' := 127) rfl ?_)
                refine G_iret d_Mo_word_127 rfl (tokI (by omega)) rfl rfl ?_
                exact ⟨by rw [wordT_1 hE (by omega)]; rfl, by rw [wordT_1 hE (by omega)]; unfold tokM wordT1; grind [smaB]⟩
              · skip
                replace h3277 := b2i_nz.mp h3277
                replace h3277 := smaB_t.mp h3277
                refine G_iload (i := 7) (n := 0) (len := 2) (Or.inr ⟨rfl, d_Mo_word_108⟩) rfl (G_pc (pc' := 110) rfl ?_)
                refine G_bipush (n := 97) d_Mo_word_110 (by decide) (G_pc (pc' := 112) rfl ?_)
                refine G_isub d_Mo_word_112 (by omega) (G_pc (pc' := 113) rfl ?_)
                refine G_i2l d_Mo_word_113 (G_pc (pc' := 114) rfl ?_)
                refine G_goto (tgt := 123) d_Mo_word_114 (by decide) ?_
                refine G_callV (K1 := KE) (d2 := 0) (o := 55) (cl := 9) (as := [vi 8, vl ((txM M e f) - 97)]) (rest := []) d_Mo_word_123 mf_Mo_add ml_Mo_184 rfl rfl (by decide) rfl rfl (Nat.le_of_ble_eq_true rfl) (by omega) ⟨Nat.le_refl _, Nat.le_refl _⟩ (g_Mo_add (by omega) 8 ((txM M e f) - 97) _ hT) (fun r3281 M3282 kq3283 q3283 => ?_)
                clear kq3283; obtain ⟨q3283a, q3283b⟩ := q3283; subst r3281; subst M3282
                refine G_ps (pc' := 126) (st' := []) rfl rfl ?_
                refine G_iload (i := 3) (n := 3) (len := 1) (Or.inl ⟨3, rfl, rfl, d_Mo_word_126⟩) rfl (G_pc (pc' := 127) rfl ?_)
                refine G_iret d_Mo_word_127 rfl (tokI (by omega)) rfl rfl ?_
                exact ⟨by rw [wordT_1 hE (by omega)]; rfl, by rw [wordT_1 hE (by omega)]; unfold tokM wordT1; grind [smaB]⟩
            · skip
              replace h3273 := b2i_nz.mp h3273
              replace h3273 := smaB_t.mp h3273
              refine G_bipush (n := 7) d_Mo_word_93 (by decide) (G_pc (pc' := 95) rfl ?_)
              refine G_goto (tgt := 100) d_Mo_word_95 (by decide) ?_
              refine G_iload (i := 7) (n := 0) (len := 2) (Or.inr ⟨rfl, d_Mo_word_100⟩) rfl (G_pc (pc' := 102) rfl ?_)
              refine G_callS (K1 := KE) (d2 := 0) (as := [vi (txM M e f)]) (rest := [vi 7, vr 55]) d_Mo_word_102 mf_Mo_small ml_Mo_160 rfl rfl (Nat.le_of_ble_eq_true rfl) (by omega) ⟨Nat.le_refl _, Nat.le_refl _⟩ (g_Mo_small (by omega) (txM M e f) _) (fun r3284 M3285 kq3286 q3286 => ?_)
              clear kq3286; obtain ⟨q3286a, q3286b⟩ := q3286; subst r3284; subst M3285
              refine G_ps (pc' := 105) (st' := [vi (b2i (smaB (txM M e f))), vi 7, vr 55]) rfl rfl ?_
              refine G_if_eq (tgt := 117) d_Mo_word_105 (by decide) (fun h3287 => ?_) (fun h3287 => G_pc (pc' := 108) rfl ?_)
              · skip
                replace h3287 := b2i_0.mp h3287
                replace h3287 := smaB_f.mp h3287
                refine G_iload (i := 7) (n := 0) (len := 2) (Or.inr ⟨rfl, d_Mo_word_117⟩) rfl (G_pc (pc' := 119) rfl ?_)
                refine G_bipush (n := 65) d_Mo_word_119 (by decide) (G_pc (pc' := 121) rfl ?_)
                refine G_isub d_Mo_word_121 (by omega) (G_pc (pc' := 122) rfl ?_)
                refine G_i2l d_Mo_word_122 (G_pc (pc' := 123) rfl ?_)
                refine G_callV (K1 := KE) (d2 := 0) (o := 55) (cl := 9) (as := [vi 7, vl ((txM M e f) - 65)]) (rest := []) d_Mo_word_123 mf_Mo_add ml_Mo_184 rfl rfl (by decide) rfl rfl (Nat.le_of_ble_eq_true rfl) (by omega) ⟨Nat.le_refl _, Nat.le_refl _⟩ (g_Mo_add (by omega) 7 ((txM M e f) - 65) _ hT) (fun r3288 M3289 kq3290 q3290 => ?_)
                clear kq3290; obtain ⟨q3290a, q3290b⟩ := q3290; subst r3288; subst M3289
                refine G_ps (pc' := 126) (st' := []) rfl rfl ?_
                refine G_iload (i := 3) (n := 3) (len := 1) (Or.inl ⟨3, rfl, rfl, d_Mo_word_126⟩) rfl (G_pc (pc' := 127) rfl ?_)
                refine G_iret d_Mo_word_127 rfl (tokI (by omega)) rfl rfl ?_
                exact ⟨by rw [wordT_1 hE (by omega)]; rfl, by rw [wordT_1 hE (by omega)]; unfold tokM wordT1; grind [smaB]⟩
              · skip
                replace h3287 := b2i_nz.mp h3287
                replace h3287 := smaB_t.mp h3287
                refine G_iload (i := 7) (n := 0) (len := 2) (Or.inr ⟨rfl, d_Mo_word_108⟩) rfl (G_pc (pc' := 110) rfl ?_)
                refine G_bipush (n := 97) d_Mo_word_110 (by decide) (G_pc (pc' := 112) rfl ?_)
                refine G_isub d_Mo_word_112 (by omega) (G_pc (pc' := 113) rfl ?_)
                refine G_i2l d_Mo_word_113 (G_pc (pc' := 114) rfl ?_)
                refine G_goto (tgt := 123) d_Mo_word_114 (by decide) ?_
                refine G_callV (K1 := KE) (d2 := 0) (o := 55) (cl := 9) (as := [vi 7, vl ((txM M e f) - 97)]) (rest := []) d_Mo_word_123 mf_Mo_add ml_Mo_184 rfl rfl (by decide) rfl rfl (Nat.le_of_ble_eq_true rfl) (by omega) ⟨Nat.le_refl _, Nat.le_refl _⟩ (g_Mo_add (by omega) 7 ((txM M e f) - 97) _ hT) (fun r3291 M3292 kq3293 q3293 => ?_)
                clear kq3293; obtain ⟨q3293a, q3293b⟩ := q3293; subst r3291; subst M3292
                refine G_ps (pc' := 126) (st' := []) rfl rfl ?_
                refine G_iload (i := 3) (n := 3) (len := 1) (Or.inl ⟨3, rfl, rfl, d_Mo_word_126⟩) rfl (G_pc (pc' := 127) rfl ?_)
                refine G_iret d_Mo_word_127 rfl (tokI (by omega)) rfl rfl ?_
                exact ⟨by rw [wordT_1 hE (by omega)]; rfl, by rw [wordT_1 hE (by omega)]; unfold tokM wordT1; grind [smaB]⟩
          · skip
            refine G_iconst (n := 1) d_Mo_word_76 (by decide) (G_pc (pc' := 77) rfl ?_)
            refine G_goto (tgt := 81) d_Mo_word_77 (by decide) ?_
            refine G_putL (o := 55) (c := 9) (k := 44) (ki := 44) (x := 1) d_Mo_word_81 fl_Mo_166 rfl rfl (by decide) (by decide) (by decide) rfl rfl (tokZ (by decide)) rfl (G_pc (pc' := 84) rfl ?_)
            refine G_aload (i := 0) (n := 4) (len := 1) (Or.inl ⟨0, rfl, rfl, d_Mo_word_84⟩) rfl (by decide) (G_pc (pc' := 85) rfl ?_)
            refine G_iload (i := 7) (n := 0) (len := 2) (Or.inr ⟨rfl, d_Mo_word_85⟩) rfl (G_pc (pc' := 87) rfl ?_)
            refine G_callS (K1 := KE) (d2 := 0) (as := [vi (txM M e f)]) (rest := [vr 55]) d_Mo_word_87 mf_Mo_small ml_Mo_160 rfl rfl (Nat.le_of_ble_eq_true rfl) (by omega) ⟨Nat.le_refl _, Nat.le_refl _⟩ (g_Mo_small (by omega) (txM M e f) _) (fun r3294 M3295 kq3296 q3296 => ?_)
            clear kq3296; obtain ⟨q3296a, q3296b⟩ := q3296; subst r3294; subst M3295
            refine G_ps (pc' := 90) (st' := [vi (b2i (smaB (txM M e f))), vr 55]) rfl rfl ?_
            refine G_if_eq (tgt := 98) d_Mo_word_90 (by decide) (fun h3297 => ?_) (fun h3297 => G_pc (pc' := 93) rfl ?_)
            · skip
              replace h3297 := b2i_0.mp h3297
              replace h3297 := smaB_f.mp h3297
              refine G_bipush (n := 8) d_Mo_word_98 (by decide) (G_pc (pc' := 100) rfl ?_)
              refine G_iload (i := 7) (n := 0) (len := 2) (Or.inr ⟨rfl, d_Mo_word_100⟩) rfl (G_pc (pc' := 102) rfl ?_)
              refine G_callS (K1 := KE) (d2 := 0) (as := [vi (txM M e f)]) (rest := [vi 8, vr 55]) d_Mo_word_102 mf_Mo_small ml_Mo_160 rfl rfl (Nat.le_of_ble_eq_true rfl) (by omega) ⟨Nat.le_refl _, Nat.le_refl _⟩ (g_Mo_small (by omega) (txM M e f) _) (fun r3298 M3299 kq3300 q3300 => ?_)
              clear kq3300; obtain ⟨q3300a, q3300b⟩ := q3300; subst r3298; subst M3299
              refine G_ps (pc' := 105) (st' := [vi (b2i (smaB (txM M e f))), vi 8, vr 55]) rfl rfl ?_
              refine G_if_eq (tgt := 117) d_Mo_word_105 (by decide) (fun h3301 => ?_) (fun h3301 => G_pc (pc' := 108) rfl ?_)
              · skip
                replace h3301 := b2i_0.mp h3301
                replace h3301 := smaB_f.mp h3301
                refine G_iload (i := 7) (n := 0) (len := 2) (Or.inr ⟨rfl, d_Mo_word_117⟩) rfl (G_pc (pc' := 119) rfl ?_)
                refine G_bipush (n := 65) d_Mo_word_119 (by decide) (G_pc (pc' := 121) rfl ?_)
                refine G_isub d_Mo_word_121 (by omega) (G_pc (pc' := 122) rfl ?_)
                refine G_i2l d_Mo_word_122 (G_pc (pc' := 123) rfl ?_)
                refine G_callV (K1 := KE) (d2 := 0) (o := 55) (cl := 9) (as := [vi 8, vl ((txM M e f) - 65)]) (rest := []) d_Mo_word_123 mf_Mo_add ml_Mo_184 rfl rfl (by decide) rfl rfl (Nat.le_of_ble_eq_true rfl) (by omega) ⟨Nat.le_refl _, Nat.le_refl _⟩ (g_Mo_add (by omega) 8 ((txM M e f) - 65) _ hT) (fun r3302 M3303 kq3304 q3304 => ?_)
                clear kq3304; obtain ⟨q3304a, q3304b⟩ := q3304; subst r3302; subst M3303
                refine G_ps (pc' := 126) (st' := []) rfl rfl ?_
                refine G_iload (i := 3) (n := 3) (len := 1) (Or.inl ⟨3, rfl, rfl, d_Mo_word_126⟩) rfl (G_pc (pc' := 127) rfl ?_)
                refine G_iret d_Mo_word_127 rfl (tokI (by omega)) rfl rfl ?_
                exact ⟨by rw [wordT_1 hE (by omega)]; rfl, by rw [wordT_1 hE (by omega)]; unfold tokM wordT1; grind [smaB]⟩
              · skip
                replace h3301 := b2i_nz.mp h3301
                replace h3301 := smaB_t.mp h3301
                refine G_iload (i := 7) (n := 0) (len := 2) (Or.inr ⟨rfl, d_Mo_word_108⟩) rfl (G_pc (pc' := 110) rfl ?_)
                refine G_bipush (n := 97) d_Mo_word_110 (by decide) (G_pc (pc' := 112) rfl ?_)
                refine G_isub d_Mo_word_112 (by omega) (G_pc (pc' := 113) rfl ?_)
                refine G_i2l d_Mo_word_113 (G_pc (pc' := 114) rfl ?_)
                refine G_goto (tgt := 123) d_Mo_word_114 (by decide) ?_
                refine G_callV (K1 := KE) (d2 := 0) (o := 55) (cl := 9) (as := [vi 8, vl ((txM M e f) - 97)]) (rest := []) d_Mo_word_123 mf_Mo_add ml_Mo_184 rfl rfl (by decide) rfl rfl (Nat.le_of_ble_eq_true rfl) (by omega) ⟨Nat.le_refl _, Nat.le_refl _⟩ (g_Mo_add (by omega) 8 ((txM M e f) - 97) _ hT) (fun r3305 M3306 kq3307 q3307 => ?_)
                clear kq3307; obtain ⟨q3307a, q3307b⟩ := q3307; subst r3305; subst M3306
                refine G_ps (pc' := 126) (st' := []) rfl rfl ?_
                refine G_iload (i := 3) (n := 3) (len := 1) (Or.inl ⟨3, rfl, rfl, d_Mo_word_126⟩) rfl (G_pc (pc' := 127) rfl ?_)
                refine G_iret d_Mo_word_127 rfl (tokI (by omega)) rfl rfl ?_
                exact ⟨by rw [wordT_1 hE (by omega)]; rfl, by rw [wordT_1 hE (by omega)]; unfold tokM wordT1; grind [smaB]⟩
            · skip
              replace h3297 := b2i_nz.mp h3297
              replace h3297 := smaB_t.mp h3297
              refine G_bipush (n := 7) d_Mo_word_93 (by decide) (G_pc (pc' := 95) rfl ?_)
              refine G_goto (tgt := 100) d_Mo_word_95 (by decide) ?_
              refine G_iload (i := 7) (n := 0) (len := 2) (Or.inr ⟨rfl, d_Mo_word_100⟩) rfl (G_pc (pc' := 102) rfl ?_)
              refine G_callS (K1 := KE) (d2 := 0) (as := [vi (txM M e f)]) (rest := [vi 7, vr 55]) d_Mo_word_102 mf_Mo_small ml_Mo_160 rfl rfl (Nat.le_of_ble_eq_true rfl) (by omega) ⟨Nat.le_refl _, Nat.le_refl _⟩ (g_Mo_small (by omega) (txM M e f) _) (fun r3308 M3309 kq3310 q3310 => ?_)
              clear kq3310; obtain ⟨q3310a, q3310b⟩ := q3310; subst r3308; subst M3309
              refine G_ps (pc' := 105) (st' := [vi (b2i (smaB (txM M e f))), vi 7, vr 55]) rfl rfl ?_
              refine G_if_eq (tgt := 117) d_Mo_word_105 (by decide) (fun h3311 => ?_) (fun h3311 => G_pc (pc' := 108) rfl ?_)
              · skip
                replace h3311 := b2i_0.mp h3311
                replace h3311 := smaB_f.mp h3311
                refine G_iload (i := 7) (n := 0) (len := 2) (Or.inr ⟨rfl, d_Mo_word_117⟩) rfl (G_pc (pc' := 119) rfl ?_)
                refine G_bipush (n := 65) d_Mo_word_119 (by decide) (G_pc (pc' := 121) rfl ?_)
                refine G_isub d_Mo_word_121 (by omega) (G_pc (pc' := 122) rfl ?_)
                refine G_i2l d_Mo_word_122 (G_pc (pc' := 123) rfl ?_)
                refine G_callV (K1 := KE) (d2 := 0) (o := 55) (cl := 9) (as := [vi 7, vl ((txM M e f) - 65)]) (rest := []) d_Mo_word_123 mf_Mo_add ml_Mo_184 rfl rfl (by decide) rfl rfl (Nat.le_of_ble_eq_true rfl) (by omega) ⟨Nat.le_refl _, Nat.le_refl _⟩ (g_Mo_add (by omega) 7 ((txM M e f) - 65) _ hT) (fun r3312 M3313 kq3314 q3314 => ?_)
                clear kq3314; obtain ⟨q3314a, q3314b⟩ := q3314; subst r3312; subst M3313
                refine G_ps (pc' := 126) (st' := []) rfl rfl ?_
                refine G_iload (i := 3) (n := 3) (len := 1) (Or.inl ⟨3, rfl, rfl, d_Mo_word_126⟩) rfl (G_pc (pc' := 127) rfl ?_)
                refine G_iret d_Mo_word_127 rfl (tokI (by omega)) rfl rfl ?_
                exact ⟨by rw [wordT_1 hE (by omega)]; rfl, by rw [wordT_1 hE (by omega)]; unfold tokM wordT1; grind [smaB]⟩
              · skip
                replace h3311 := b2i_nz.mp h3311
                replace h3311 := smaB_t.mp h3311
                refine G_iload (i := 7) (n := 0) (len := 2) (Or.inr ⟨rfl, d_Mo_word_108⟩) rfl (G_pc (pc' := 110) rfl ?_)
                refine G_bipush (n := 97) d_Mo_word_110 (by decide) (G_pc (pc' := 112) rfl ?_)
                refine G_isub d_Mo_word_112 (by omega) (G_pc (pc' := 113) rfl ?_)
                refine G_i2l d_Mo_word_113 (G_pc (pc' := 114) rfl ?_)
                refine G_goto (tgt := 123) d_Mo_word_114 (by decide) ?_
                refine G_callV (K1 := KE) (d2 := 0) (o := 55) (cl := 9) (as := [vi 7, vl ((txM M e f) - 97)]) (rest := []) d_Mo_word_123 mf_Mo_add ml_Mo_184 rfl rfl (by decide) rfl rfl (Nat.le_of_ble_eq_true rfl) (by omega) ⟨Nat.le_refl _, Nat.le_refl _⟩ (g_Mo_add (by omega) 7 ((txM M e f) - 97) _ hT) (fun r3315 M3316 kq3317 q3317 => ?_)
                clear kq3317; obtain ⟨q3317a, q3317b⟩ := q3317; subst r3315; subst M3316
                refine G_ps (pc' := 126) (st' := []) rfl rfl ?_
                refine G_iload (i := 3) (n := 3) (len := 1) (Or.inl ⟨3, rfl, rfl, d_Mo_word_126⟩) rfl (G_pc (pc' := 127) rfl ?_)
                refine G_iret d_Mo_word_127 rfl (tokI (by omega)) rfl rfl ?_
                exact ⟨by rw [wordT_1 hE (by omega)]; rfl, by rw [wordT_1 hE (by omega)]; unfold tokM wordT1; grind [smaB]⟩
    | succ n ih =>
      intro k v h1 h2 hE0 hV0
      refine G_aload (i := 0) (n := 2) (len := 1) (Or.inl ⟨0, rfl, rfl, d_Mo_word_5⟩) rfl (by decide) (G_pc (pc' := 6) rfl ?_)
      refine G_iload (i := 1) (n := 3) (len := 1) (Or.inl ⟨1, rfl, rfl, d_Mo_word_6⟩) rfl (G_pc (pc' := 7) rfl ?_)
      refine G_iload (i := 3) (n := 1) (len := 1) (Or.inl ⟨3, rfl, rfl, d_Mo_word_7⟩) rfl (G_pc (pc' := 8) rfl ?_)
      refine G_callV (K1 := KE) (d2 := 0) (o := 55) (cl := 9) (as := [vi e, vi k]) (rest := []) d_Mo_word_8 mf_Mo_at ml_Mo_169 rfl rfl (by decide) rfl rfl (Nat.le_of_ble_eq_true rfl) (by omega) ⟨Nat.le_refl _, Nat.le_refl _⟩ (g_Mo_at (by omega) e k _ hL he (by omega)) (fun r3301 M3302 kq3303 q3303 => ?_)
      clear kq3303; obtain ⟨q3303a, q3303b⟩ := q3303; subst r3301; subst M3302
      refine G_ps (pc' := 11) (st' := [vi (txM M e k)]) rfl rfl ?_
      have hx7 := txM_rng hX (k := k) (by omega)
      refine G_callS (K1 := KE) (d2 := 1) (as := [vi (txM M e k)]) (rest := []) d_Mo_word_11 mf_Mo_letter ml_Mo_172 rfl rfl (Nat.le_of_ble_eq_true rfl) (by omega) ⟨Nat.le_refl _, Nat.le_refl _⟩ (g_Mo_letter (by omega) (txM M e k) _) (fun r3304 M3305 kq3306 q3306 => ?_)
      clear kq3306; obtain ⟨q3306a, q3306b⟩ := q3306; subst r3304; subst M3305
      refine G_ps (pc' := 14) (st' := [vi (b2i (letB (txM M e k)))]) rfl rfl ?_
      refine G_if_eq (tgt := 41) d_Mo_word_14 (by decide) (fun h3307 => ?_) (fun h3307 => G_pc (pc' := 17) rfl ?_)
      · skip
        replace h3307 := b2i_0.mp h3307
        replace h3307 := letB_f.mp h3307
        have hE := (hE0.symm.trans (runE_f (fun h => absurd (letB_t.mp h) (by assumption))))
        have hV := (hV0.symm.trans (wvE_f (fun h => absurd (letB_t.mp h) (by assumption))))
        refine G_iload (i := 3) (n := 1) (len := 1) (Or.inl ⟨3, rfl, rfl, d_Mo_word_41⟩) rfl (G_pc (pc' := 42) rfl ?_)
        refine G_iload (i := 2) (n := 4) (len := 1) (Or.inl ⟨2, rfl, rfl, d_Mo_word_42⟩) rfl (G_pc (pc' := 43) rfl ?_)
        refine G_isub d_Mo_word_43 (by omega) (G_pc (pc' := 44) rfl ?_)
        refine G_istore (i := 6) (len := 2) (ls' := [(6, vi (k - f)), (4, vl v), (3, vi k), (0, vr 55), (1, vi e), (2, vi f)]) (Or.inr ⟨rfl, d_Mo_word_44⟩) (by decide) rfl (G_pc (pc' := 46) rfl ?_)
        refine G_iload (i := 6) (n := 0) (len := 2) (Or.inr ⟨rfl, d_Mo_word_46⟩) rfl (G_pc (pc' := 48) rfl ?_)
        refine G_iconst (n := 1) d_Mo_word_48 (by decide) (G_pc (pc' := 49) rfl ?_)
        refine G_icmp_ne (tgt := 128) d_Mo_word_49 (by decide) (fun h3308 => ?_) (fun h3308 => G_pc (pc' := 52) rfl ?_)
        · skip
          refine G_iload (i := 6) (n := 0) (len := 2) (Or.inr ⟨rfl, d_Mo_word_128⟩) rfl (G_pc (pc' := 130) rfl ?_)
          refine G_bipush (n := 10) d_Mo_word_130 (by decide) (G_pc (pc' := 132) rfl ?_)
          refine G_icmp_le (tgt := 139) d_Mo_word_132 (by decide) (fun h3309 => ?_) (fun h3309 => G_pc (pc' := 135) rfl ?_)
          · skip
            refine G_lload (i := 4) (n := 1) (len := 2) (Or.inr ⟨rfl, d_Mo_word_139⟩) rfl (G_pc (pc' := 141) rfl ?_)
            refine G_bipush (n := 52) d_Mo_word_141 (by decide) (G_pc (pc' := 143) rfl ?_)
            refine G_bipush (n := 50) d_Mo_word_143 (by decide) (G_pc (pc' := 145) rfl ?_)
            refine G_bipush (n := 53) d_Mo_word_145 (by decide) (G_pc (pc' := 147) rfl ?_)
            refine G_bipush (n := 37) d_Mo_word_147 (by decide) (G_pc (pc' := 149) rfl ?_)
            refine G_iconst (n := 0) d_Mo_word_149 (by decide) (G_pc (pc' := 150) rfl ?_)
            refine G_callS (K1 := KE) (d2 := 0) (as := [vi 52, vi 50, vi 53, vi 37, vi 0]) (rest := [vl v]) d_Mo_word_150 mf_Mo_spell ml_Mo_191 rfl rfl (Nat.le_of_ble_eq_true rfl) (by omega) ⟨Nat.le_refl _, Nat.le_refl _⟩ (g_Mo_spell (by omega) 52 50 53 37 0 _) (fun r3310 M3311 kq3312 q3312 => ?_)
            clear kq3312; obtain ⟨q3312a, q3312b⟩ := q3312; subst r3310; subst M3311
            refine G_ps (pc' := 153) (st' := [vl (spellV 52 50 53 37 0), vl v]) rfl rfl ?_
            refine G_lcmp_ne (tgt := 161) d_Mo_word_153 d_Mo_word_154 (by decide) (fun h3313 => ?_) (fun h3313 => G_pc (pc' := 157) rfl ?_)
            · skip
              refine G_lload (i := 4) (n := 1) (len := 2) (Or.inr ⟨rfl, d_Mo_word_161⟩) rfl (G_pc (pc' := 163) rfl ?_)
              refine G_bipush (n := 38) d_Mo_word_163 (by decide) (G_pc (pc' := 165) rfl ?_)
              refine G_bipush (n := 33) d_Mo_word_165 (by decide) (G_pc (pc' := 167) rfl ?_)
              refine G_bipush (n := 44) d_Mo_word_167 (by decide) (G_pc (pc' := 169) rfl ?_)
              refine G_bipush (n := 51) d_Mo_word_169 (by decide) (G_pc (pc' := 171) rfl ?_)
              refine G_bipush (n := 37) d_Mo_word_171 (by decide) (G_pc (pc' := 173) rfl ?_)
              refine G_callS (K1 := KE) (d2 := 0) (as := [vi 38, vi 33, vi 44, vi 51, vi 37]) (rest := [vl v]) d_Mo_word_173 mf_Mo_spell ml_Mo_191 rfl rfl (Nat.le_of_ble_eq_true rfl) (by omega) ⟨Nat.le_refl _, Nat.le_refl _⟩ (g_Mo_spell (by omega) 38 33 44 51 37 _) (fun r3314 M3315 kq3316 q3316 => ?_)
              clear kq3316; obtain ⟨q3316a, q3316b⟩ := q3316; subst r3314; subst M3315
              refine G_ps (pc' := 176) (st' := [vl (spellV 38 33 44 51 37), vl v]) rfl rfl ?_
              refine G_lcmp_ne (tgt := 185) d_Mo_word_176 d_Mo_word_177 (by decide) (fun h3317 => ?_) (fun h3317 => G_pc (pc' := 180) rfl ?_)
              · skip
                refine G_lload (i := 4) (n := 1) (len := 2) (Or.inr ⟨rfl, d_Mo_word_185⟩) rfl (G_pc (pc' := 187) rfl ?_)
                refine G_bipush (n := 46) d_Mo_word_187 (by decide) (G_pc (pc' := 189) rfl ?_)
                refine G_bipush (n := 53) d_Mo_word_189 (by decide) (G_pc (pc' := 191) rfl ?_)
                refine G_bipush (n := 44) d_Mo_word_191 (by decide) (G_pc (pc' := 193) rfl ?_)
                refine G_bipush (n := 44) d_Mo_word_193 (by decide) (G_pc (pc' := 195) rfl ?_)
                refine G_iconst (n := 0) d_Mo_word_195 (by decide) (G_pc (pc' := 196) rfl ?_)
                refine G_callS (K1 := KE) (d2 := 0) (as := [vi 46, vi 53, vi 44, vi 44, vi 0]) (rest := [vl v]) d_Mo_word_196 mf_Mo_spell ml_Mo_191 rfl rfl (Nat.le_of_ble_eq_true rfl) (by omega) ⟨Nat.le_refl _, Nat.le_refl _⟩ (g_Mo_spell (by omega) 46 53 44 44 0 _) (fun r3318 M3319 kq3320 q3320 => ?_)
                clear kq3320; obtain ⟨q3320a, q3320b⟩ := q3320; subst r3318; subst M3319
                refine G_ps (pc' := 199) (st' := [vl (spellV 46 53 44 44 0), vl v]) rfl rfl ?_
                refine G_lcmp_ne (tgt := 207) d_Mo_word_199 d_Mo_word_200 (by decide) (fun h3321 => ?_) (fun h3321 => G_pc (pc' := 203) rfl ?_)
                · skip
                  refine G_lload (i := 4) (n := 1) (len := 2) (Or.inr ⟨rfl, d_Mo_word_207⟩) rfl (G_pc (pc' := 209) rfl ?_)
                  refine G_bipush (n := 52) d_Mo_word_209 (by decide) (G_pc (pc' := 211) rfl ?_)
                  refine G_bipush (n := 40) d_Mo_word_211 (by decide) (G_pc (pc' := 213) rfl ?_)
                  refine G_bipush (n := 41) d_Mo_word_213 (by decide) (G_pc (pc' := 215) rfl ?_)
                  refine G_bipush (n := 51) d_Mo_word_215 (by decide) (G_pc (pc' := 217) rfl ?_)
                  refine G_iconst (n := 0) d_Mo_word_217 (by decide) (G_pc (pc' := 218) rfl ?_)
                  refine G_callS (K1 := KE) (d2 := 0) (as := [vi 52, vi 40, vi 41, vi 51, vi 0]) (rest := [vl v]) d_Mo_word_218 mf_Mo_spell ml_Mo_191 rfl rfl (Nat.le_of_ble_eq_true rfl) (by omega) ⟨Nat.le_refl _, Nat.le_refl _⟩ (g_Mo_spell (by omega) 52 40 41 51 0 _) (fun r3322 M3323 kq3324 q3324 => ?_)
                  clear kq3324; obtain ⟨q3324a, q3324b⟩ := q3324; subst r3322; subst M3323
                  refine G_ps (pc' := 221) (st' := [vl (spellV 52 40 41 51 0), vl v]) rfl rfl ?_
                  refine G_lcmp_ne (tgt := 230) d_Mo_word_221 d_Mo_word_222 (by decide) (fun h3325 => ?_) (fun h3325 => G_pc (pc' := 225) rfl ?_)
                  · skip
                    refine G_lload (i := 4) (n := 1) (len := 2) (Or.inr ⟨rfl, d_Mo_word_230⟩) rfl (G_pc (pc' := 232) rfl ?_)
                    refine G_bipush (n := 41) d_Mo_word_232 (by decide) (G_pc (pc' := 234) rfl ?_)
                    refine G_bipush (n := 46) d_Mo_word_234 (by decide) (G_pc (pc' := 236) rfl ?_)
                    refine G_bipush (n := 52) d_Mo_word_236 (by decide) (G_pc (pc' := 238) rfl ?_)
                    refine G_iconst (n := 0) d_Mo_word_238 (by decide) (G_pc (pc' := 239) rfl ?_)
                    refine G_iconst (n := 0) d_Mo_word_239 (by decide) (G_pc (pc' := 240) rfl ?_)
                    refine G_callS (K1 := KE) (d2 := 0) (as := [vi 41, vi 46, vi 52, vi 0, vi 0]) (rest := [vl v]) d_Mo_word_240 mf_Mo_spell ml_Mo_191 rfl rfl (Nat.le_of_ble_eq_true rfl) (by omega) ⟨Nat.le_refl _, Nat.le_refl _⟩ (g_Mo_spell (by omega) 41 46 52 0 0 _) (fun r3326 M3327 kq3328 q3328 => ?_)
                    clear kq3328; obtain ⟨q3328a, q3328b⟩ := q3328; subst r3326; subst M3327
                    refine G_ps (pc' := 243) (st' := [vl (spellV 41 46 52 0 0), vl v]) rfl rfl ?_
                    refine G_lcmp_ne (tgt := 252) d_Mo_word_243 d_Mo_word_244 (by decide) (fun h3329 => ?_) (fun h3329 => G_pc (pc' := 247) rfl ?_)
                    · skip
                      refine G_lload (i := 4) (n := 1) (len := 2) (Or.inr ⟨rfl, d_Mo_word_252⟩) rfl (G_pc (pc' := 254) rfl ?_)
                      refine G_bipush (n := 44) d_Mo_word_254 (by decide) (G_pc (pc' := 256) rfl ?_)
                      refine G_bipush (n := 47) d_Mo_word_256 (by decide) (G_pc (pc' := 258) rfl ?_)
                      refine G_bipush (n := 46) d_Mo_word_258 (by decide) (G_pc (pc' := 260) rfl ?_)
                      refine G_bipush (n := 39) d_Mo_word_260 (by decide) (G_pc (pc' := 262) rfl ?_)
                      refine G_iconst (n := 0) d_Mo_word_262 (by decide) (G_pc (pc' := 263) rfl ?_)
                      refine G_callS (K1 := KE) (d2 := 0) (as := [vi 44, vi 47, vi 46, vi 39, vi 0]) (rest := [vl v]) d_Mo_word_263 mf_Mo_spell ml_Mo_191 rfl rfl (Nat.le_of_ble_eq_true rfl) (by omega) ⟨Nat.le_refl _, Nat.le_refl _⟩ (g_Mo_spell (by omega) 44 47 46 39 0 _) (fun r3330 M3331 kq3332 q3332 => ?_)
                      clear kq3332; obtain ⟨q3332a, q3332b⟩ := q3332; subst r3330; subst M3331
                      refine G_ps (pc' := 266) (st' := [vl (spellV 44 47 46 39 0), vl v]) rfl rfl ?_
                      refine G_lcmp_ne (tgt := 275) d_Mo_word_266 d_Mo_word_267 (by decide) (fun h3333 => ?_) (fun h3333 => G_pc (pc' := 270) rfl ?_)
                      · skip
                        refine G_lload (i := 4) (n := 1) (len := 2) (Or.inr ⟨rfl, d_Mo_word_275⟩) rfl (G_pc (pc' := 277) rfl ?_)
                        refine G_bipush (n := 35) d_Mo_word_277 (by decide) (G_pc (pc' := 279) rfl ?_)
                        refine G_bipush (n := 40) d_Mo_word_279 (by decide) (G_pc (pc' := 281) rfl ?_)
                        refine G_bipush (n := 33) d_Mo_word_281 (by decide) (G_pc (pc' := 283) rfl ?_)
                        refine G_bipush (n := 50) d_Mo_word_283 (by decide) (G_pc (pc' := 285) rfl ?_)
                        refine G_iconst (n := 0) d_Mo_word_285 (by decide) (G_pc (pc' := 286) rfl ?_)
                        refine G_callS (K1 := KE) (d2 := 0) (as := [vi 35, vi 40, vi 33, vi 50, vi 0]) (rest := [vl v]) d_Mo_word_286 mf_Mo_spell ml_Mo_191 rfl rfl (Nat.le_of_ble_eq_true rfl) (by omega) ⟨Nat.le_refl _, Nat.le_refl _⟩ (g_Mo_spell (by omega) 35 40 33 50 0 _) (fun r3334 M3335 kq3336 q3336 => ?_)
                        clear kq3336; obtain ⟨q3336a, q3336b⟩ := q3336; subst r3334; subst M3335
                        refine G_ps (pc' := 289) (st' := [vl (spellV 35 40 33 50 0), vl v]) rfl rfl ?_
                        refine G_lcmp_ne (tgt := 298) d_Mo_word_289 d_Mo_word_290 (by decide) (fun h3337 => ?_) (fun h3337 => G_pc (pc' := 293) rfl ?_)
                        · skip
                          refine G_iconst (n := 0) d_Mo_word_298 (by decide) (G_pc (pc' := 299) rfl ?_)
                          refine G_istore (i := 7) (len := 2) (ls' := [(7, vi 0), (6, vi (k - f)), (4, vl v), (3, vi k), (0, vr 55), (1, vi e), (2, vi f)]) (Or.inr ⟨rfl, d_Mo_word_299⟩) (by decide) rfl (G_pc (pc' := 301) rfl ?_)
                          refine G_ls (ls' := [(7, vi 0), (6, vi (k - f)), (4, vl v), (3, vi k), (0, vr 55), (1, vi e), (2, vi f)]) (by intro z hz; simp at hz ⊢; omega) ?_
                          exact tl1 0 k v (by assumption) (by assumption) (by omega) (by omega) (by unfold wkA; grind)
                        · skip
                          refine G_bipush (n := 11) d_Mo_word_293 (by decide) (G_pc (pc' := 295) rfl ?_)
                          refine G_goto (tgt := 299) d_Mo_word_295 (by decide) ?_
                          refine G_istore (i := 7) (len := 2) (ls' := [(7, vi 11), (6, vi (k - f)), (4, vl v), (3, vi k), (0, vr 55), (1, vi e), (2, vi f)]) (Or.inr ⟨rfl, d_Mo_word_299⟩) (by decide) rfl (G_pc (pc' := 301) rfl ?_)
                          refine G_ls (ls' := [(7, vi 11), (6, vi (k - f)), (4, vl v), (3, vi k), (0, vr 55), (1, vi e), (2, vi f)]) (by intro z hz; simp at hz ⊢; omega) ?_
                          exact tl1 11 k v (by assumption) (by assumption) (by omega) (by omega) (by unfold wkA; grind)
                      · skip
                        refine G_bipush (n := 10) d_Mo_word_270 (by decide) (G_pc (pc' := 272) rfl ?_)
                        refine G_goto (tgt := 299) d_Mo_word_272 (by decide) ?_
                        refine G_istore (i := 7) (len := 2) (ls' := [(7, vi 10), (6, vi (k - f)), (4, vl v), (3, vi k), (0, vr 55), (1, vi e), (2, vi f)]) (Or.inr ⟨rfl, d_Mo_word_299⟩) (by decide) rfl (G_pc (pc' := 301) rfl ?_)
                        refine G_ls (ls' := [(7, vi 10), (6, vi (k - f)), (4, vl v), (3, vi k), (0, vr 55), (1, vi e), (2, vi f)]) (by intro z hz; simp at hz ⊢; omega) ?_
                        exact tl1 10 k v (by assumption) (by assumption) (by omega) (by omega) (by unfold wkA; grind)
                    · skip
                      refine G_bipush (n := 9) d_Mo_word_247 (by decide) (G_pc (pc' := 249) rfl ?_)
                      refine G_goto (tgt := 299) d_Mo_word_249 (by decide) ?_
                      refine G_istore (i := 7) (len := 2) (ls' := [(7, vi 9), (6, vi (k - f)), (4, vl v), (3, vi k), (0, vr 55), (1, vi e), (2, vi f)]) (Or.inr ⟨rfl, d_Mo_word_299⟩) (by decide) rfl (G_pc (pc' := 301) rfl ?_)
                      refine G_ls (ls' := [(7, vi 9), (6, vi (k - f)), (4, vl v), (3, vi k), (0, vr 55), (1, vi e), (2, vi f)]) (by intro z hz; simp at hz ⊢; omega) ?_
                      exact tl1 9 k v (by assumption) (by assumption) (by omega) (by omega) (by unfold wkA; grind)
                  · skip
                    refine G_bipush (n := 6) d_Mo_word_225 (by decide) (G_pc (pc' := 227) rfl ?_)
                    refine G_goto (tgt := 299) d_Mo_word_227 (by decide) ?_
                    refine G_istore (i := 7) (len := 2) (ls' := [(7, vi 6), (6, vi (k - f)), (4, vl v), (3, vi k), (0, vr 55), (1, vi e), (2, vi f)]) (Or.inr ⟨rfl, d_Mo_word_299⟩) (by decide) rfl (G_pc (pc' := 301) rfl ?_)
                    refine G_ls (ls' := [(7, vi 6), (6, vi (k - f)), (4, vl v), (3, vi k), (0, vr 55), (1, vi e), (2, vi f)]) (by intro z hz; simp at hz ⊢; omega) ?_
                    exact tl1 6 k v (by assumption) (by assumption) (by omega) (by omega) (by unfold wkA; grind)
                · skip
                  refine G_iconst (n := 5) d_Mo_word_203 (by decide) (G_pc (pc' := 204) rfl ?_)
                  refine G_goto (tgt := 299) d_Mo_word_204 (by decide) ?_
                  refine G_istore (i := 7) (len := 2) (ls' := [(7, vi 5), (6, vi (k - f)), (4, vl v), (3, vi k), (0, vr 55), (1, vi e), (2, vi f)]) (Or.inr ⟨rfl, d_Mo_word_299⟩) (by decide) rfl (G_pc (pc' := 301) rfl ?_)
                  refine G_ls (ls' := [(7, vi 5), (6, vi (k - f)), (4, vl v), (3, vi k), (0, vr 55), (1, vi e), (2, vi f)]) (by intro z hz; simp at hz ⊢; omega) ?_
                  exact tl1 5 k v (by assumption) (by assumption) (by omega) (by omega) (by unfold wkA; grind)
              · skip
                refine G_bipush (n := 15) d_Mo_word_180 (by decide) (G_pc (pc' := 182) rfl ?_)
                refine G_goto (tgt := 299) d_Mo_word_182 (by decide) ?_
                refine G_istore (i := 7) (len := 2) (ls' := [(7, vi 15), (6, vi (k - f)), (4, vl v), (3, vi k), (0, vr 55), (1, vi e), (2, vi f)]) (Or.inr ⟨rfl, d_Mo_word_299⟩) (by decide) rfl (G_pc (pc' := 301) rfl ?_)
                refine G_ls (ls' := [(7, vi 15), (6, vi (k - f)), (4, vl v), (3, vi k), (0, vr 55), (1, vi e), (2, vi f)]) (by intro z hz; simp at hz ⊢; omega) ?_
                exact tl1 15 k v (by assumption) (by assumption) (by omega) (by omega) (by unfold wkA; grind)
            · skip
              refine G_iconst (n := 4) d_Mo_word_157 (by decide) (G_pc (pc' := 158) rfl ?_)
              refine G_goto (tgt := 299) d_Mo_word_158 (by decide) ?_
              refine G_istore (i := 7) (len := 2) (ls' := [(7, vi 4), (6, vi (k - f)), (4, vl v), (3, vi k), (0, vr 55), (1, vi e), (2, vi f)]) (Or.inr ⟨rfl, d_Mo_word_299⟩) (by decide) rfl (G_pc (pc' := 301) rfl ?_)
              refine G_ls (ls' := [(7, vi 4), (6, vi (k - f)), (4, vl v), (3, vi k), (0, vr 55), (1, vi e), (2, vi f)]) (by intro z hz; simp at hz ⊢; omega) ?_
              exact tl1 4 k v (by assumption) (by assumption) (by omega) (by omega) (by unfold wkA; grind)
          · skip
            refine G_iconst (n := 0) d_Mo_word_135 (by decide) (G_pc (pc' := 136) rfl ?_)
            refine G_goto (tgt := 299) d_Mo_word_136 (by decide) ?_
            refine G_istore (i := 7) (len := 2) (ls' := [(7, vi 0), (6, vi (k - f)), (4, vl v), (3, vi k), (0, vr 55), (1, vi e), (2, vi f)]) (Or.inr ⟨rfl, d_Mo_word_299⟩) (by decide) rfl (G_pc (pc' := 301) rfl ?_)
            refine G_ls (ls' := [(7, vi 0), (6, vi (k - f)), (4, vl v), (3, vi k), (0, vr 55), (1, vi e), (2, vi f)]) (by intro z hz; simp at hz ⊢; omega) ?_
            exact tl1 0 k v (by assumption) (by assumption) (by omega) (by omega) (by unfold wkA; grind)
        · skip
          refine G_aload (i := 0) (n := 3) (len := 1) (Or.inl ⟨0, rfl, rfl, d_Mo_word_52⟩) rfl (by decide) (G_pc (pc' := 53) rfl ?_)
          refine G_iload (i := 1) (n := 4) (len := 1) (Or.inl ⟨1, rfl, rfl, d_Mo_word_53⟩) rfl (G_pc (pc' := 54) rfl ?_)
          refine G_iload (i := 2) (n := 5) (len := 1) (Or.inl ⟨2, rfl, rfl, d_Mo_word_54⟩) rfl (G_pc (pc' := 55) rfl ?_)
          refine G_callV (K1 := KE) (d2 := 0) (o := 55) (cl := 9) (as := [vi e, vi f]) (rest := []) d_Mo_word_55 mf_Mo_at ml_Mo_169 rfl rfl (by decide) rfl rfl (Nat.le_of_ble_eq_true rfl) (by omega) ⟨Nat.le_refl _, Nat.le_refl _⟩ (g_Mo_at (by omega) e f _ hL he (by omega)) (fun r3338 M3339 kq3340 q3340 => ?_)
          clear kq3340; obtain ⟨q3340a, q3340b⟩ := q3340; subst r3338; subst M3339
          refine G_ps (pc' := 58) (st' := [vi (txM M e f)]) rfl rfl ?_
          have hx8 := txM_rng hX (k := f) (by omega)
          refine G_istore (i := 7) (len := 2) (ls' := [(7, vi (txM M e f)), (6, vi (k - f)), (4, vl v), (3, vi k), (0, vr 55), (1, vi e), (2, vi f)]) (Or.inr ⟨rfl, d_Mo_word_58⟩) (by decide) rfl (G_pc (pc' := 60) rfl ?_)
          refine G_aload (i := 0) (n := 4) (len := 1) (Or.inl ⟨0, rfl, rfl, d_Mo_word_60⟩) rfl (by decide) (G_pc (pc' := 61) rfl ?_)
          refine G_iload (i := 7) (n := 0) (len := 2) (Or.inr ⟨rfl, d_Mo_word_61⟩) rfl (G_pc (pc' := 63) rfl ?_)
          refine G_callS (K1 := KE) (d2 := 0) (as := [vi (txM M e f)]) (rest := [vr 55]) d_Mo_word_63 mf_Mo_small ml_Mo_160 rfl rfl (Nat.le_of_ble_eq_true rfl) (by omega) ⟨Nat.le_refl _, Nat.le_refl _⟩ (g_Mo_small (by omega) (txM M e f) _) (fun r3341 M3342 kq3343 q3343 => ?_)
          clear kq3343; obtain ⟨q3343a, q3343b⟩ := q3343; subst r3341; subst M3342
          refine G_ps (pc' := 66) (st' := [vi (b2i (smaB (txM M e f))), vr 55]) rfl rfl ?_
          refine G_if_ne (tgt := 80) d_Mo_word_66 (by decide) (fun h3344 => ?_) (fun h3344 => G_pc (pc' := 69) rfl ?_)
          · skip
            replace h3344 := b2i_nz.mp h3344
            replace h3344 := smaB_t.mp h3344
            refine G_iconst (n := 0) d_Mo_word_80 (by decide) (G_pc (pc' := 81) rfl ?_)
            refine G_putL (o := 55) (c := 9) (k := 44) (ki := 44) (x := 0) d_Mo_word_81 fl_Mo_166 rfl rfl (by decide) (by decide) (by decide) rfl rfl (tokZ (by decide)) rfl (G_pc (pc' := 84) rfl ?_)
            refine G_aload (i := 0) (n := 4) (len := 1) (Or.inl ⟨0, rfl, rfl, d_Mo_word_84⟩) rfl (by decide) (G_pc (pc' := 85) rfl ?_)
            refine G_iload (i := 7) (n := 0) (len := 2) (Or.inr ⟨rfl, d_Mo_word_85⟩) rfl (G_pc (pc' := 87) rfl ?_)
            refine G_callS (K1 := KE) (d2 := 0) (as := [vi (txM M e f)]) (rest := [vr 55]) d_Mo_word_87 mf_Mo_small ml_Mo_160 rfl rfl (Nat.le_of_ble_eq_true rfl) (by omega) ⟨Nat.le_refl _, Nat.le_refl _⟩ (g_Mo_small (by omega) (txM M e f) _) (fun r3345 M3346 kq3347 q3347 => ?_)
            clear kq3347; obtain ⟨q3347a, q3347b⟩ := q3347; subst r3345; subst M3346
            refine G_ps (pc' := 90) (st' := [vi (b2i (smaB (txM M e f))), vr 55]) rfl rfl ?_
            refine G_if_eq (tgt := 98) d_Mo_word_90 (by decide) (fun h3348 => ?_) (fun h3348 => G_pc (pc' := 93) rfl ?_)
            · skip
              replace h3348 := b2i_0.mp h3348
              replace h3348 := smaB_f.mp h3348
              refine G_bipush (n := 8) d_Mo_word_98 (by decide) (G_pc (pc' := 100) rfl ?_)
              refine G_iload (i := 7) (n := 0) (len := 2) (Or.inr ⟨rfl, d_Mo_word_100⟩) rfl (G_pc (pc' := 102) rfl ?_)
              refine G_callS (K1 := KE) (d2 := 0) (as := [vi (txM M e f)]) (rest := [vi 8, vr 55]) d_Mo_word_102 mf_Mo_small ml_Mo_160 rfl rfl (Nat.le_of_ble_eq_true rfl) (by omega) ⟨Nat.le_refl _, Nat.le_refl _⟩ (g_Mo_small (by omega) (txM M e f) _) (fun r3349 M3350 kq3351 q3351 => ?_)
              clear kq3351; obtain ⟨q3351a, q3351b⟩ := q3351; subst r3349; subst M3350
              refine G_ps (pc' := 105) (st' := [vi (b2i (smaB (txM M e f))), vi 8, vr 55]) rfl rfl ?_
              refine G_if_eq (tgt := 117) d_Mo_word_105 (by decide) (fun h3352 => ?_) (fun h3352 => G_pc (pc' := 108) rfl ?_)
              · skip
                replace h3352 := b2i_0.mp h3352
                replace h3352 := smaB_f.mp h3352
                refine G_iload (i := 7) (n := 0) (len := 2) (Or.inr ⟨rfl, d_Mo_word_117⟩) rfl (G_pc (pc' := 119) rfl ?_)
                refine G_bipush (n := 65) d_Mo_word_119 (by decide) (G_pc (pc' := 121) rfl ?_)
                refine G_isub d_Mo_word_121 (by omega) (G_pc (pc' := 122) rfl ?_)
                refine G_i2l d_Mo_word_122 (G_pc (pc' := 123) rfl ?_)
                refine G_callV (K1 := KE) (d2 := 0) (o := 55) (cl := 9) (as := [vi 8, vl ((txM M e f) - 65)]) (rest := []) d_Mo_word_123 mf_Mo_add ml_Mo_184 rfl rfl (by decide) rfl rfl (Nat.le_of_ble_eq_true rfl) (by omega) ⟨Nat.le_refl _, Nat.le_refl _⟩ (g_Mo_add (by omega) 8 ((txM M e f) - 65) _ hT) (fun r3353 M3354 kq3355 q3355 => ?_)
                clear kq3355; obtain ⟨q3355a, q3355b⟩ := q3355; subst r3353; subst M3354
                refine G_ps (pc' := 126) (st' := []) rfl rfl ?_
                refine G_iload (i := 3) (n := 3) (len := 1) (Or.inl ⟨3, rfl, rfl, d_Mo_word_126⟩) rfl (G_pc (pc' := 127) rfl ?_)
                refine G_iret d_Mo_word_127 rfl (tokI (by omega)) rfl rfl ?_
                exact ⟨by rw [wordT_1 hE (by omega)]; rfl, by rw [wordT_1 hE (by omega)]; unfold tokM wordT1; grind [smaB]⟩
              · skip
                replace h3352 := b2i_nz.mp h3352
                replace h3352 := smaB_t.mp h3352
                refine G_iload (i := 7) (n := 0) (len := 2) (Or.inr ⟨rfl, d_Mo_word_108⟩) rfl (G_pc (pc' := 110) rfl ?_)
                refine G_bipush (n := 97) d_Mo_word_110 (by decide) (G_pc (pc' := 112) rfl ?_)
                refine G_isub d_Mo_word_112 (by omega) (G_pc (pc' := 113) rfl ?_)
                refine G_i2l d_Mo_word_113 (G_pc (pc' := 114) rfl ?_)
                refine G_goto (tgt := 123) d_Mo_word_114 (by decide) ?_
                refine G_callV (K1 := KE) (d2 := 0) (o := 55) (cl := 9) (as := [vi 8, vl ((txM M e f) - 97)]) (rest := []) d_Mo_word_123 mf_Mo_add ml_Mo_184 rfl rfl (by decide) rfl rfl (Nat.le_of_ble_eq_true rfl) (by omega) ⟨Nat.le_refl _, Nat.le_refl _⟩ (g_Mo_add (by omega) 8 ((txM M e f) - 97) _ hT) (fun r3356 M3357 kq3358 q3358 => ?_)
                clear kq3358; obtain ⟨q3358a, q3358b⟩ := q3358; subst r3356; subst M3357
                refine G_ps (pc' := 126) (st' := []) rfl rfl ?_
                refine G_iload (i := 3) (n := 3) (len := 1) (Or.inl ⟨3, rfl, rfl, d_Mo_word_126⟩) rfl (G_pc (pc' := 127) rfl ?_)
                refine G_iret d_Mo_word_127 rfl (tokI (by omega)) rfl rfl ?_
                exact ⟨by rw [wordT_1 hE (by omega)]; rfl, by rw [wordT_1 hE (by omega)]; unfold tokM wordT1; grind [smaB]⟩
            · skip
              replace h3348 := b2i_nz.mp h3348
              replace h3348 := smaB_t.mp h3348
              refine G_bipush (n := 7) d_Mo_word_93 (by decide) (G_pc (pc' := 95) rfl ?_)
              refine G_goto (tgt := 100) d_Mo_word_95 (by decide) ?_
              refine G_iload (i := 7) (n := 0) (len := 2) (Or.inr ⟨rfl, d_Mo_word_100⟩) rfl (G_pc (pc' := 102) rfl ?_)
              refine G_callS (K1 := KE) (d2 := 0) (as := [vi (txM M e f)]) (rest := [vi 7, vr 55]) d_Mo_word_102 mf_Mo_small ml_Mo_160 rfl rfl (Nat.le_of_ble_eq_true rfl) (by omega) ⟨Nat.le_refl _, Nat.le_refl _⟩ (g_Mo_small (by omega) (txM M e f) _) (fun r3359 M3360 kq3361 q3361 => ?_)
              clear kq3361; obtain ⟨q3361a, q3361b⟩ := q3361; subst r3359; subst M3360
              refine G_ps (pc' := 105) (st' := [vi (b2i (smaB (txM M e f))), vi 7, vr 55]) rfl rfl ?_
              refine G_if_eq (tgt := 117) d_Mo_word_105 (by decide) (fun h3362 => ?_) (fun h3362 => G_pc (pc' := 108) rfl ?_)
              · skip
                replace h3362 := b2i_0.mp h3362
                replace h3362 := smaB_f.mp h3362
                refine G_iload (i := 7) (n := 0) (len := 2) (Or.inr ⟨rfl, d_Mo_word_117⟩) rfl (G_pc (pc' := 119) rfl ?_)
                refine G_bipush (n := 65) d_Mo_word_119 (by decide) (G_pc (pc' := 121) rfl ?_)
                refine G_isub d_Mo_word_121 (by omega) (G_pc (pc' := 122) rfl ?_)
                refine G_i2l d_Mo_word_122 (G_pc (pc' := 123) rfl ?_)
                refine G_callV (K1 := KE) (d2 := 0) (o := 55) (cl := 9) (as := [vi 7, vl ((txM M e f) - 65)]) (rest := []) d_Mo_word_123 mf_Mo_add ml_Mo_184 rfl rfl (by decide) rfl rfl (Nat.le_of_ble_eq_true rfl) (by omega) ⟨Nat.le_refl _, Nat.le_refl _⟩ (g_Mo_add (by omega) 7 ((txM M e f) - 65) _ hT) (fun r3363 M3364 kq3365 q3365 => ?_)
                clear kq3365; obtain ⟨q3365a, q3365b⟩ := q3365; subst r3363; subst M3364
                refine G_ps (pc' := 126) (st' := []) rfl rfl ?_
                refine G_iload (i := 3) (n := 3) (len := 1) (Or.inl ⟨3, rfl, rfl, d_Mo_word_126⟩) rfl (G_pc (pc' := 127) rfl ?_)
                refine G_iret d_Mo_word_127 rfl (tokI (by omega)) rfl rfl ?_
                exact ⟨by rw [wordT_1 hE (by omega)]; rfl, by rw [wordT_1 hE (by omega)]; unfold tokM wordT1; grind [smaB]⟩
              · skip
                replace h3362 := b2i_nz.mp h3362
                replace h3362 := smaB_t.mp h3362
                refine G_iload (i := 7) (n := 0) (len := 2) (Or.inr ⟨rfl, d_Mo_word_108⟩) rfl (G_pc (pc' := 110) rfl ?_)
                refine G_bipush (n := 97) d_Mo_word_110 (by decide) (G_pc (pc' := 112) rfl ?_)
                refine G_isub d_Mo_word_112 (by omega) (G_pc (pc' := 113) rfl ?_)
                refine G_i2l d_Mo_word_113 (G_pc (pc' := 114) rfl ?_)
                refine G_goto (tgt := 123) d_Mo_word_114 (by decide) ?_
                refine G_callV (K1 := KE) (d2 := 0) (o := 55) (cl := 9) (as := [vi 7, vl ((txM M e f) - 97)]) (rest := []) d_Mo_word_123 mf_Mo_add ml_Mo_184 rfl rfl (by decide) rfl rfl (Nat.le_of_ble_eq_true rfl) (by omega) ⟨Nat.le_refl _, Nat.le_refl _⟩ (g_Mo_add (by omega) 7 ((txM M e f) - 97) _ hT) (fun r3366 M3367 kq3368 q3368 => ?_)
                clear kq3368; obtain ⟨q3368a, q3368b⟩ := q3368; subst r3366; subst M3367
                refine G_ps (pc' := 126) (st' := []) rfl rfl ?_
                refine G_iload (i := 3) (n := 3) (len := 1) (Or.inl ⟨3, rfl, rfl, d_Mo_word_126⟩) rfl (G_pc (pc' := 127) rfl ?_)
                refine G_iret d_Mo_word_127 rfl (tokI (by omega)) rfl rfl ?_
                exact ⟨by rw [wordT_1 hE (by omega)]; rfl, by rw [wordT_1 hE (by omega)]; unfold tokM wordT1; grind [smaB]⟩
          · skip
            replace h3344 := b2i_0.mp h3344
            replace h3344 := smaB_f.mp h3344
            refine G_iload (i := 7) (n := 0) (len := 2) (Or.inr ⟨rfl, d_Mo_word_69⟩) rfl (G_pc (pc' := 71) rfl ?_)
            refine G_bipush (n := 70) d_Mo_word_71 (by decide) (G_pc (pc' := 73) rfl ?_)
            refine G_icmp_le (tgt := 80) d_Mo_word_73 (by decide) (fun h3369 => ?_) (fun h3369 => G_pc (pc' := 76) rfl ?_)
            · skip
              refine G_iconst (n := 0) d_Mo_word_80 (by decide) (G_pc (pc' := 81) rfl ?_)
              refine G_putL (o := 55) (c := 9) (k := 44) (ki := 44) (x := 0) d_Mo_word_81 fl_Mo_166 rfl rfl (by decide) (by decide) (by decide) rfl rfl (tokZ (by decide)) rfl (G_pc (pc' := 84) rfl ?_)
              refine G_aload (i := 0) (n := 4) (len := 1) (Or.inl ⟨0, rfl, rfl, d_Mo_word_84⟩) rfl (by decide) (G_pc (pc' := 85) rfl ?_)
              refine G_iload (i := 7) (n := 0) (len := 2) (Or.inr ⟨rfl, d_Mo_word_85⟩) rfl (G_pc (pc' := 87) rfl ?_)
              refine G_callS (K1 := KE) (d2 := 0) (as := [vi (txM M e f)]) (rest := [vr 55]) d_Mo_word_87 mf_Mo_small ml_Mo_160 rfl rfl (Nat.le_of_ble_eq_true rfl) (by omega) ⟨Nat.le_refl _, Nat.le_refl _⟩ (g_Mo_small (by omega) (txM M e f) _) (fun r3370 M3371 kq3372 q3372 => ?_)
              clear kq3372; obtain ⟨q3372a, q3372b⟩ := q3372; subst r3370; subst M3371
              refine G_ps (pc' := 90) (st' := [vi (b2i (smaB (txM M e f))), vr 55]) rfl rfl ?_
              refine G_if_eq (tgt := 98) d_Mo_word_90 (by decide) (fun h3373 => ?_) (fun h3373 => G_pc (pc' := 93) rfl ?_)
              · skip
                replace h3373 := b2i_0.mp h3373
                replace h3373 := smaB_f.mp h3373
                refine G_bipush (n := 8) d_Mo_word_98 (by decide) (G_pc (pc' := 100) rfl ?_)
                refine G_iload (i := 7) (n := 0) (len := 2) (Or.inr ⟨rfl, d_Mo_word_100⟩) rfl (G_pc (pc' := 102) rfl ?_)
                refine G_callS (K1 := KE) (d2 := 0) (as := [vi (txM M e f)]) (rest := [vi 8, vr 55]) d_Mo_word_102 mf_Mo_small ml_Mo_160 rfl rfl (Nat.le_of_ble_eq_true rfl) (by omega) ⟨Nat.le_refl _, Nat.le_refl _⟩ (g_Mo_small (by omega) (txM M e f) _) (fun r3374 M3375 kq3376 q3376 => ?_)
                clear kq3376; obtain ⟨q3376a, q3376b⟩ := q3376; subst r3374; subst M3375
                refine G_ps (pc' := 105) (st' := [vi (b2i (smaB (txM M e f))), vi 8, vr 55]) rfl rfl ?_
                refine G_if_eq (tgt := 117) d_Mo_word_105 (by decide) (fun h3377 => ?_) (fun h3377 => G_pc (pc' := 108) rfl ?_)
                · skip
                  replace h3377 := b2i_0.mp h3377
                  replace h3377 := smaB_f.mp h3377
                  refine G_iload (i := 7) (n := 0) (len := 2) (Or.inr ⟨rfl, d_Mo_word_117⟩) rfl (G_pc (pc' := 119) rfl ?_)
                  refine G_bipush (n := 65) d_Mo_word_119 (by decide) (G_pc (pc' := 121) rfl ?_)
                  refine G_isub d_Mo_word_121 (by omega) (G_pc (pc' := 122) rfl ?_)
                  refine G_i2l d_Mo_word_122 (G_pc (pc' := 123) rfl ?_)
                  refine G_callV (K1 := KE) (d2 := 0) (o := 55) (cl := 9) (as := [vi 8, vl ((txM M e f) - 65)]) (rest := []) d_Mo_word_123 mf_Mo_add ml_Mo_184 rfl rfl (by decide) rfl rfl (Nat.le_of_ble_eq_true rfl) (by omega) ⟨Nat.le_refl _, Nat.le_refl _⟩ (g_Mo_add (by omega) 8 ((txM M e f) - 65) _ hT) (fun r3378 M3379 kq3380 q3380 => ?_)
                  clear kq3380; obtain ⟨q3380a, q3380b⟩ := q3380; subst r3378; subst M3379
                  refine G_ps (pc' := 126) (st' := []) rfl rfl ?_
                  refine G_iload (i := 3) (n := 3) (len := 1) (Or.inl ⟨3, rfl, rfl, d_Mo_word_126⟩) rfl (G_pc (pc' := 127) rfl ?_)
                  refine G_iret d_Mo_word_127 rfl (tokI (by omega)) rfl rfl ?_
                  exact ⟨by rw [wordT_1 hE (by omega)]; rfl, by rw [wordT_1 hE (by omega)]; unfold tokM wordT1; grind [smaB]⟩
                · skip
                  replace h3377 := b2i_nz.mp h3377
                  replace h3377 := smaB_t.mp h3377
                  refine G_iload (i := 7) (n := 0) (len := 2) (Or.inr ⟨rfl, d_Mo_word_108⟩) rfl (G_pc (pc' := 110) rfl ?_)
                  refine G_bipush (n := 97) d_Mo_word_110 (by decide) (G_pc (pc' := 112) rfl ?_)
                  refine G_isub d_Mo_word_112 (by omega) (G_pc (pc' := 113) rfl ?_)
                  refine G_i2l d_Mo_word_113 (G_pc (pc' := 114) rfl ?_)
                  refine G_goto (tgt := 123) d_Mo_word_114 (by decide) ?_
                  refine G_callV (K1 := KE) (d2 := 0) (o := 55) (cl := 9) (as := [vi 8, vl ((txM M e f) - 97)]) (rest := []) d_Mo_word_123 mf_Mo_add ml_Mo_184 rfl rfl (by decide) rfl rfl (Nat.le_of_ble_eq_true rfl) (by omega) ⟨Nat.le_refl _, Nat.le_refl _⟩ (g_Mo_add (by omega) 8 ((txM M e f) - 97) _ hT) (fun r3381 M3382 kq3383 q3383 => ?_)
                  clear kq3383; obtain ⟨q3383a, q3383b⟩ := q3383; subst r3381; subst M3382
                  refine G_ps (pc' := 126) (st' := []) rfl rfl ?_
                  refine G_iload (i := 3) (n := 3) (len := 1) (Or.inl ⟨3, rfl, rfl, d_Mo_word_126⟩) rfl (G_pc (pc' := 127) rfl ?_)
                  refine G_iret d_Mo_word_127 rfl (tokI (by omega)) rfl rfl ?_
                  exact ⟨by rw [wordT_1 hE (by omega)]; rfl, by rw [wordT_1 hE (by omega)]; unfold tokM wordT1; grind [smaB]⟩
              · skip
                replace h3373 := b2i_nz.mp h3373
                replace h3373 := smaB_t.mp h3373
                refine G_bipush (n := 7) d_Mo_word_93 (by decide) (G_pc (pc' := 95) rfl ?_)
                refine G_goto (tgt := 100) d_Mo_word_95 (by decide) ?_
                refine G_iload (i := 7) (n := 0) (len := 2) (Or.inr ⟨rfl, d_Mo_word_100⟩) rfl (G_pc (pc' := 102) rfl ?_)
                refine G_callS (K1 := KE) (d2 := 0) (as := [vi (txM M e f)]) (rest := [vi 7, vr 55]) d_Mo_word_102 mf_Mo_small ml_Mo_160 rfl rfl (Nat.le_of_ble_eq_true rfl) (by omega) ⟨Nat.le_refl _, Nat.le_refl _⟩ (g_Mo_small (by omega) (txM M e f) _) (fun r3384 M3385 kq3386 q3386 => ?_)
                clear kq3386; obtain ⟨q3386a, q3386b⟩ := q3386; subst r3384; subst M3385
                refine G_ps (pc' := 105) (st' := [vi (b2i (smaB (txM M e f))), vi 7, vr 55]) rfl rfl ?_
                refine G_if_eq (tgt := 117) d_Mo_word_105 (by decide) (fun h3387 => ?_) (fun h3387 => G_pc (pc' := 108) rfl ?_)
                · skip
                  replace h3387 := b2i_0.mp h3387
                  replace h3387 := smaB_f.mp h3387
                  refine G_iload (i := 7) (n := 0) (len := 2) (Or.inr ⟨rfl, d_Mo_word_117⟩) rfl (G_pc (pc' := 119) rfl ?_)
                  refine G_bipush (n := 65) d_Mo_word_119 (by decide) (G_pc (pc' := 121) rfl ?_)
                  refine G_isub d_Mo_word_121 (by omega) (G_pc (pc' := 122) rfl ?_)
                  refine G_i2l d_Mo_word_122 (G_pc (pc' := 123) rfl ?_)
                  refine G_callV (K1 := KE) (d2 := 0) (o := 55) (cl := 9) (as := [vi 7, vl ((txM M e f) - 65)]) (rest := []) d_Mo_word_123 mf_Mo_add ml_Mo_184 rfl rfl (by decide) rfl rfl (Nat.le_of_ble_eq_true rfl) (by omega) ⟨Nat.le_refl _, Nat.le_refl _⟩ (g_Mo_add (by omega) 7 ((txM M e f) - 65) _ hT) (fun r3388 M3389 kq3390 q3390 => ?_)
                  clear kq3390; obtain ⟨q3390a, q3390b⟩ := q3390; subst r3388; subst M3389
                  refine G_ps (pc' := 126) (st' := []) rfl rfl ?_
                  refine G_iload (i := 3) (n := 3) (len := 1) (Or.inl ⟨3, rfl, rfl, d_Mo_word_126⟩) rfl (G_pc (pc' := 127) rfl ?_)
                  refine G_iret d_Mo_word_127 rfl (tokI (by omega)) rfl rfl ?_
                  exact ⟨by rw [wordT_1 hE (by omega)]; rfl, by rw [wordT_1 hE (by omega)]; unfold tokM wordT1; grind [smaB]⟩
                · skip
                  replace h3387 := b2i_nz.mp h3387
                  replace h3387 := smaB_t.mp h3387
                  refine G_iload (i := 7) (n := 0) (len := 2) (Or.inr ⟨rfl, d_Mo_word_108⟩) rfl (G_pc (pc' := 110) rfl ?_)
                  refine G_bipush (n := 97) d_Mo_word_110 (by decide) (G_pc (pc' := 112) rfl ?_)
                  refine G_isub d_Mo_word_112 (by omega) (G_pc (pc' := 113) rfl ?_)
                  refine G_i2l d_Mo_word_113 (G_pc (pc' := 114) rfl ?_)
                  refine G_goto (tgt := 123) d_Mo_word_114 (by decide) ?_
                  refine G_callV (K1 := KE) (d2 := 0) (o := 55) (cl := 9) (as := [vi 7, vl ((txM M e f) - 97)]) (rest := []) d_Mo_word_123 mf_Mo_add ml_Mo_184 rfl rfl (by decide) rfl rfl (Nat.le_of_ble_eq_true rfl) (by omega) ⟨Nat.le_refl _, Nat.le_refl _⟩ (g_Mo_add (by omega) 7 ((txM M e f) - 97) _ hT) (fun r3391 M3392 kq3393 q3393 => ?_)
                  clear kq3393; obtain ⟨q3393a, q3393b⟩ := q3393; subst r3391; subst M3392
                  refine G_ps (pc' := 126) (st' := []) rfl rfl ?_
                  refine G_iload (i := 3) (n := 3) (len := 1) (Or.inl ⟨3, rfl, rfl, d_Mo_word_126⟩) rfl (G_pc (pc' := 127) rfl ?_)
                  refine G_iret d_Mo_word_127 rfl (tokI (by omega)) rfl rfl ?_
                  exact ⟨by rw [wordT_1 hE (by omega)]; rfl, by rw [wordT_1 hE (by omega)]; unfold tokM wordT1; grind [smaB]⟩
            · skip
              refine G_iconst (n := 1) d_Mo_word_76 (by decide) (G_pc (pc' := 77) rfl ?_)
              refine G_goto (tgt := 81) d_Mo_word_77 (by decide) ?_
              refine G_putL (o := 55) (c := 9) (k := 44) (ki := 44) (x := 1) d_Mo_word_81 fl_Mo_166 rfl rfl (by decide) (by decide) (by decide) rfl rfl (tokZ (by decide)) rfl (G_pc (pc' := 84) rfl ?_)
              refine G_aload (i := 0) (n := 4) (len := 1) (Or.inl ⟨0, rfl, rfl, d_Mo_word_84⟩) rfl (by decide) (G_pc (pc' := 85) rfl ?_)
              refine G_iload (i := 7) (n := 0) (len := 2) (Or.inr ⟨rfl, d_Mo_word_85⟩) rfl (G_pc (pc' := 87) rfl ?_)
              refine G_callS (K1 := KE) (d2 := 0) (as := [vi (txM M e f)]) (rest := [vr 55]) d_Mo_word_87 mf_Mo_small ml_Mo_160 rfl rfl (Nat.le_of_ble_eq_true rfl) (by omega) ⟨Nat.le_refl _, Nat.le_refl _⟩ (g_Mo_small (by omega) (txM M e f) _) (fun r3394 M3395 kq3396 q3396 => ?_)
              clear kq3396; obtain ⟨q3396a, q3396b⟩ := q3396; subst r3394; subst M3395
              refine G_ps (pc' := 90) (st' := [vi (b2i (smaB (txM M e f))), vr 55]) rfl rfl ?_
              refine G_if_eq (tgt := 98) d_Mo_word_90 (by decide) (fun h3397 => ?_) (fun h3397 => G_pc (pc' := 93) rfl ?_)
              · skip
                replace h3397 := b2i_0.mp h3397
                replace h3397 := smaB_f.mp h3397
                refine G_bipush (n := 8) d_Mo_word_98 (by decide) (G_pc (pc' := 100) rfl ?_)
                refine G_iload (i := 7) (n := 0) (len := 2) (Or.inr ⟨rfl, d_Mo_word_100⟩) rfl (G_pc (pc' := 102) rfl ?_)
                refine G_callS (K1 := KE) (d2 := 0) (as := [vi (txM M e f)]) (rest := [vi 8, vr 55]) d_Mo_word_102 mf_Mo_small ml_Mo_160 rfl rfl (Nat.le_of_ble_eq_true rfl) (by omega) ⟨Nat.le_refl _, Nat.le_refl _⟩ (g_Mo_small (by omega) (txM M e f) _) (fun r3398 M3399 kq3400 q3400 => ?_)
                clear kq3400; obtain ⟨q3400a, q3400b⟩ := q3400; subst r3398; subst M3399
                refine G_ps (pc' := 105) (st' := [vi (b2i (smaB (txM M e f))), vi 8, vr 55]) rfl rfl ?_
                refine G_if_eq (tgt := 117) d_Mo_word_105 (by decide) (fun h3401 => ?_) (fun h3401 => G_pc (pc' := 108) rfl ?_)
                · skip
                  replace h3401 := b2i_0.mp h3401
                  replace h3401 := smaB_f.mp h3401
                  refine G_iload (i := 7) (n := 0) (len := 2) (Or.inr ⟨rfl, d_Mo_word_117⟩) rfl (G_pc (pc' := 119) rfl ?_)
                  refine G_bipush (n := 65) d_Mo_word_119 (by decide) (G_pc (pc' := 121) rfl ?_)
                  refine G_isub d_Mo_word_121 (by omega) (G_pc (pc' := 122) rfl ?_)
                  refine G_i2l d_Mo_word_122 (G_pc (pc' := 123) rfl ?_)
                  refine G_callV (K1 := KE) (d2 := 0) (o := 55) (cl := 9) (as := [vi 8, vl ((txM M e f) - 65)]) (rest := []) d_Mo_word_123 mf_Mo_add ml_Mo_184 rfl rfl (by decide) rfl rfl (Nat.le_of_ble_eq_true rfl) (by omega) ⟨Nat.le_refl _, Nat.le_refl _⟩ (g_Mo_add (by omega) 8 ((txM M e f) - 65) _ hT) (fun r3402 M3403 kq3404 q3404 => ?_)
                  clear kq3404; obtain ⟨q3404a, q3404b⟩ := q3404; subst r3402; subst M3403
                  refine G_ps (pc' := 126) (st' := []) rfl rfl ?_
                  refine G_iload (i := 3) (n := 3) (len := 1) (Or.inl ⟨3, rfl, rfl, d_Mo_word_126⟩) rfl (G_pc (pc' := 127) rfl ?_)
                  refine G_iret d_Mo_word_127 rfl (tokI (by omega)) rfl rfl ?_
                  exact ⟨by rw [wordT_1 hE (by omega)]; rfl, by rw [wordT_1 hE (by omega)]; unfold tokM wordT1; grind [smaB]⟩
                · skip
                  replace h3401 := b2i_nz.mp h3401
                  replace h3401 := smaB_t.mp h3401
                  refine G_iload (i := 7) (n := 0) (len := 2) (Or.inr ⟨rfl, d_Mo_word_108⟩) rfl (G_pc (pc' := 110) rfl ?_)
                  refine G_bipush (n := 97) d_Mo_word_110 (by decide) (G_pc (pc' := 112) rfl ?_)
                  refine G_isub d_Mo_word_112 (by omega) (G_pc (pc' := 113) rfl ?_)
                  refine G_i2l d_Mo_word_113 (G_pc (pc' := 114) rfl ?_)
                  refine G_goto (tgt := 123) d_Mo_word_114 (by decide) ?_
                  refine G_callV (K1 := KE) (d2 := 0) (o := 55) (cl := 9) (as := [vi 8, vl ((txM M e f) - 97)]) (rest := []) d_Mo_word_123 mf_Mo_add ml_Mo_184 rfl rfl (by decide) rfl rfl (Nat.le_of_ble_eq_true rfl) (by omega) ⟨Nat.le_refl _, Nat.le_refl _⟩ (g_Mo_add (by omega) 8 ((txM M e f) - 97) _ hT) (fun r3405 M3406 kq3407 q3407 => ?_)
                  clear kq3407; obtain ⟨q3407a, q3407b⟩ := q3407; subst r3405; subst M3406
                  refine G_ps (pc' := 126) (st' := []) rfl rfl ?_
                  refine G_iload (i := 3) (n := 3) (len := 1) (Or.inl ⟨3, rfl, rfl, d_Mo_word_126⟩) rfl (G_pc (pc' := 127) rfl ?_)
                  refine G_iret d_Mo_word_127 rfl (tokI (by omega)) rfl rfl ?_
                  exact ⟨by rw [wordT_1 hE (by omega)]; rfl, by rw [wordT_1 hE (by omega)]; unfold tokM wordT1; grind [smaB]⟩
              · skip
                replace h3397 := b2i_nz.mp h3397
                replace h3397 := smaB_t.mp h3397
                refine G_bipush (n := 7) d_Mo_word_93 (by decide) (G_pc (pc' := 95) rfl ?_)
                refine G_goto (tgt := 100) d_Mo_word_95 (by decide) ?_
                refine G_iload (i := 7) (n := 0) (len := 2) (Or.inr ⟨rfl, d_Mo_word_100⟩) rfl (G_pc (pc' := 102) rfl ?_)
                refine G_callS (K1 := KE) (d2 := 0) (as := [vi (txM M e f)]) (rest := [vi 7, vr 55]) d_Mo_word_102 mf_Mo_small ml_Mo_160 rfl rfl (Nat.le_of_ble_eq_true rfl) (by omega) ⟨Nat.le_refl _, Nat.le_refl _⟩ (g_Mo_small (by omega) (txM M e f) _) (fun r3408 M3409 kq3410 q3410 => ?_)
                clear kq3410; obtain ⟨q3410a, q3410b⟩ := q3410; subst r3408; subst M3409
                refine G_ps (pc' := 105) (st' := [vi (b2i (smaB (txM M e f))), vi 7, vr 55]) rfl rfl ?_
                refine G_if_eq (tgt := 117) d_Mo_word_105 (by decide) (fun h3411 => ?_) (fun h3411 => G_pc (pc' := 108) rfl ?_)
                · skip
                  replace h3411 := b2i_0.mp h3411
                  replace h3411 := smaB_f.mp h3411
                  refine G_iload (i := 7) (n := 0) (len := 2) (Or.inr ⟨rfl, d_Mo_word_117⟩) rfl (G_pc (pc' := 119) rfl ?_)
                  refine G_bipush (n := 65) d_Mo_word_119 (by decide) (G_pc (pc' := 121) rfl ?_)
                  refine G_isub d_Mo_word_121 (by omega) (G_pc (pc' := 122) rfl ?_)
                  refine G_i2l d_Mo_word_122 (G_pc (pc' := 123) rfl ?_)
                  refine G_callV (K1 := KE) (d2 := 0) (o := 55) (cl := 9) (as := [vi 7, vl ((txM M e f) - 65)]) (rest := []) d_Mo_word_123 mf_Mo_add ml_Mo_184 rfl rfl (by decide) rfl rfl (Nat.le_of_ble_eq_true rfl) (by omega) ⟨Nat.le_refl _, Nat.le_refl _⟩ (g_Mo_add (by omega) 7 ((txM M e f) - 65) _ hT) (fun r3412 M3413 kq3414 q3414 => ?_)
                  clear kq3414; obtain ⟨q3414a, q3414b⟩ := q3414; subst r3412; subst M3413
                  refine G_ps (pc' := 126) (st' := []) rfl rfl ?_
                  refine G_iload (i := 3) (n := 3) (len := 1) (Or.inl ⟨3, rfl, rfl, d_Mo_word_126⟩) rfl (G_pc (pc' := 127) rfl ?_)
                  refine G_iret d_Mo_word_127 rfl (tokI (by omega)) rfl rfl ?_
                  exact ⟨by rw [wordT_1 hE (by omega)]; rfl, by rw [wordT_1 hE (by omega)]; unfold tokM wordT1; grind [smaB]⟩
                · skip
                  replace h3411 := b2i_nz.mp h3411
                  replace h3411 := smaB_t.mp h3411
                  refine G_iload (i := 7) (n := 0) (len := 2) (Or.inr ⟨rfl, d_Mo_word_108⟩) rfl (G_pc (pc' := 110) rfl ?_)
                  refine G_bipush (n := 97) d_Mo_word_110 (by decide) (G_pc (pc' := 112) rfl ?_)
                  refine G_isub d_Mo_word_112 (by omega) (G_pc (pc' := 113) rfl ?_)
                  refine G_i2l d_Mo_word_113 (G_pc (pc' := 114) rfl ?_)
                  refine G_goto (tgt := 123) d_Mo_word_114 (by decide) ?_
                  refine G_callV (K1 := KE) (d2 := 0) (o := 55) (cl := 9) (as := [vi 7, vl ((txM M e f) - 97)]) (rest := []) d_Mo_word_123 mf_Mo_add ml_Mo_184 rfl rfl (by decide) rfl rfl (Nat.le_of_ble_eq_true rfl) (by omega) ⟨Nat.le_refl _, Nat.le_refl _⟩ (g_Mo_add (by omega) 7 ((txM M e f) - 97) _ hT) (fun r3415 M3416 kq3417 q3417 => ?_)
                  clear kq3417; obtain ⟨q3417a, q3417b⟩ := q3417; subst r3415; subst M3416
                  refine G_ps (pc' := 126) (st' := []) rfl rfl ?_
                  refine G_iload (i := 3) (n := 3) (len := 1) (Or.inl ⟨3, rfl, rfl, d_Mo_word_126⟩) rfl (G_pc (pc' := 127) rfl ?_)
                  refine G_iret d_Mo_word_127 rfl (tokI (by omega)) rfl rfl ?_
                  exact ⟨by rw [wordT_1 hE (by omega)]; rfl, by rw [wordT_1 hE (by omega)]; unfold tokM wordT1; grind [smaB]⟩
      · skip
        replace h3307 := b2i_nz.mp h3307
        replace h3307 := letB_t.mp h3307
        refine G_lload (i := 4) (n := 0) (len := 2) (Or.inr ⟨rfl, d_Mo_word_17⟩) rfl (G_pc (pc' := 19) rfl ?_)
        refine G_bipush (n := 6) d_Mo_word_19 (by decide) (G_pc (pc' := 21) rfl ?_)
        refine G_lshl d_Mo_word_21 (G_pc (pc' := 22) rfl ?_)
        refine G_aload (i := 0) (n := 2) (len := 1) (Or.inl ⟨0, rfl, rfl, d_Mo_word_22⟩) rfl (by decide) (G_pc (pc' := 23) rfl ?_)
        refine G_iload (i := 1) (n := 3) (len := 1) (Or.inl ⟨1, rfl, rfl, d_Mo_word_23⟩) rfl (G_pc (pc' := 24) rfl ?_)
        refine G_iload (i := 3) (n := 1) (len := 1) (Or.inl ⟨3, rfl, rfl, d_Mo_word_24⟩) rfl (G_pc (pc' := 25) rfl ?_)
        refine G_callV (K1 := KE) (d2 := 0) (o := 55) (cl := 9) (as := [vi e, vi k]) (rest := [vl (o_lshl v 6)]) d_Mo_word_25 mf_Mo_at ml_Mo_169 rfl rfl (by decide) rfl rfl (Nat.le_of_ble_eq_true rfl) (by omega) ⟨Nat.le_refl _, Nat.le_refl _⟩ (g_Mo_at (by omega) e k _ hL he (by omega)) (fun r3418 M3419 kq3420 q3420 => ?_)
        clear kq3420; obtain ⟨q3420a, q3420b⟩ := q3420; subst r3418; subst M3419
        refine G_ps (pc' := 28) (st' := [vi (txM M e k), vl (o_lshl v 6)]) rfl rfl ?_
        have hx9 := txM_rng hX (k := k) (by omega)
        refine G_bipush (n := 64) d_Mo_word_28 (by decide) (G_pc (pc' := 30) rfl ?_)
        refine G_isub d_Mo_word_30 (by omega) (G_pc (pc' := 31) rfl ?_)
        refine G_i2l d_Mo_word_31 (G_pc (pc' := 32) rfl ?_)
        refine G_lor d_Mo_word_32 (G_pc (pc' := 33) rfl ?_)
        refine G_lstore (i := 4) (len := 2) (ls' := [(4, vl (o_lor (o_lshl v 6) ((txM M e k) - 64))), (3, vi k), (0, vr 55), (1, vi e), (2, vi f)]) (Or.inr ⟨rfl, d_Mo_word_33⟩) (by decide) rfl (G_pc (pc' := 35) rfl ?_)
        refine G_iinc (i := 3) (n := 1) (z := 1) (ls' := [(3, vi (k + 1)), (4, vl (o_lor (o_lshl v 6) ((txM M e k) - 64))), (0, vr 55), (1, vi e), (2, vi f)]) d_Mo_word_35 rfl (by decide) (by omega) rfl (G_pc (pc' := 38) rfl ?_)
        refine G_goto (tgt := 5) d_Mo_word_38 (by decide) ?_
        refine G_ls (ls' := [(4, vl (o_lor (o_lshl v 6) ((txM M e k) - 64))), (3, vi (k + 1)), (0, vr 55), (1, vi e), (2, vi f)]) (by intro z hz; simp only [List.mem_cons] at hz ⊢; grind) ?_
        exact ih (k + 1) _ (by omega) (by omega) (hE0.symm.trans (runE_t (letB_t.mpr (by assumption)))).symm (hV0.symm.trans (wvE_t (letB_t.mpr (by assumption)))).symm
  refine G_iload (i := 2) (n := 2) (len := 1) (Or.inl ⟨2, rfl, rfl, d_Mo_word_0⟩) rfl (G_pc (pc' := 1) rfl ?_)
  refine G_istore (i := 3) (len := 1) (ls' := [(3, vi f), (0, vr 55), (1, vi e), (2, vi f)]) (Or.inl ⟨3, rfl, rfl, d_Mo_word_1⟩) (by decide) rfl (G_pc (pc' := 2) rfl ?_)
  refine G_lconst0 d_Mo_word_2 (G_pc (pc' := 3) rfl ?_)
  refine G_lstore (i := 4) (len := 2) (ls' := [(4, vl 0), (3, vi f), (0, vr 55), (1, vi e), (2, vi f)]) (Or.inr ⟨rfl, d_Mo_word_3⟩) (by decide) rfl (G_pc (pc' := 5) rfl ?_)
  exact loop (40 - f).toNat f 0 (by omega) (by omega) rfl rfl

