def stpR (M : Mem) (e : Nat) (i : Int) : Int × Int := if M (21 + 9 * e) i = 137 then (3, i + 1) else if M (21 + 9 * e) i = 143 then ndR M (28 * 0 + M (23 + 9 * e) i) else if M (21 + 9 * e) i = 144 then partR M (w32 (M (26 + 9 * e) (M (22 + 9 * e) i))) (M (23 + 9 * e) i) else if M (21 + 9 * e) i = 142 then partR M (w32 (M (26 + 9 * e) (M (22 + 9 * e) i))) 26
  else if M (21 + 9 * e) i = 145 then elmR M (w32 (M (26 + 9 * e) (M (22 + 9 * e) i))) (M (26 + 9 * e) (M (23 + 9 * e) i)) else if M (21 + 9 * e) i = 141 then insR M e i (w32 (M (26 + 9 * e) (M (22 + 9 * e) i))) (M (23 + 9 * e) i) else if M (21 + 9 * e) i = 146 then cstR M e i (M (26 + 9 * e) (M (22 + 9 * e) i)) (M (23 + 9 * e) i)
  else if M (21 + 9 * e) i = 149 then (0, M (26 + 9 * e) (if M (26 + 9 * e) (M (22 + 9 * e) i) = 1 then M (23 + 9 * e) i else M (24 + 9 * e) i)) else if M (21 + 9 * e) i = 150 then (3, M (23 + 9 * e) i) else if M (21 + 9 * e) i = 151 then (3, if M (26 + 9 * e) (M (22 + 9 * e) i) = 0 then M (23 + 9 * e) i else i + 1) else if M (21 + 9 * e) i = 152 then (3, if M (26 + 9 * e) (M (22 + 9 * e) i) = 1 then M (23 + 9 * e) i else i + 1)
  else sgnR (M (21 + 9 * e) i) (M (25 + 9 * e) i) (M (26 + 9 * e) (M (22 + 9 * e) i)) (M (26 + 9 * e) (M (23 + 9 * e) i))
/-- what must hold for a step to be worked out -/
def stpH (M : Mem) (e : Nat) (i : Int) : Prop := RT M ∧ TI M ∧ (0 ≤ i ∧ i < 48) ∧ ((0 ≤ M 9 3 ∧ M 9 3 ≤ 300) ∧ (0 ≤ M 9 4 ∧ M 9 4 ≤ 300) ∧ (0 ≤ M 9 5 ∧ M 9 5 ≤ 1)) ∧ (0 ≤ M (22 + 9 * e) i ∧ M (22 + 9 * e) i < 48)
  ∧ (M (21 + 9 * e) i = 143 → 0 ≤ M (23 + 9 * e) i ∧ M (23 + 9 * e) i ≤ 26)
  ∧ (M (21 + 9 * e) i = 144 → (0 ≤ M (23 + 9 * e) i ∧ M (23 + 9 * e) i < 26) ∧ 0 ≤ w32 (M (26 + 9 * e) (M (22 + 9 * e) i)) ∧ w32 (M (26 + 9 * e) (M (22 + 9 * e) i)) ≤ 12)
  ∧ (M (21 + 9 * e) i = 142 → 0 ≤ w32 (M (26 + 9 * e) (M (22 + 9 * e) i)) ∧ w32 (M (26 + 9 * e) (M (22 + 9 * e) i)) ≤ 12)
  ∧ (M (21 + 9 * e) i = 145 → 0 ≤ w32 (M (26 + 9 * e) (M (22 + 9 * e) i)) ∧ w32 (M (26 + 9 * e) (M (22 + 9 * e) i)) ≤ 12)
  ∧ (M (21 + 9 * e) i = 141 → (0 ≤ w32 (M (26 + 9 * e) (M (22 + 9 * e) i)) ∧ w32 (M (26 + 9 * e) (M (22 + 9 * e) i)) ≤ M 55 5) ∧ vK M (M (25 + 9 * e) (M (22 + 9 * e) i)) ∧ vK M (M (23 + 9 * e) i))
  ∧ (M (21 + 9 * e) i = 146 → (reB (M (23 + 9 * e) i) = true → 0 ≤ M (26 + 9 * e) (M (22 + 9 * e) i) ∧ M (26 + 9 * e) (M (22 + 9 * e) i) ≤ M 55 5) ∧ vK M (M (25 + 9 * e) (M (22 + 9 * e) i)) ∧ vK M (M (23 + 9 * e) i))
  ∧ (M (21 + 9 * e) i = 149 → 0 ≤ M (24 + 9 * e) i ∧ M (24 + 9 * e) i < 48)
  ∧ (¬ (M (21 + 9 * e) i = 137 ∨ M (21 + 9 * e) i = 143 ∨ M (21 + 9 * e) i = 144 ∨ M (21 + 9 * e) i = 142 ∨ M (21 + 9 * e) i = 141 ∨ M (21 + 9 * e) i = 146 ∨ M (21 + 9 * e) i = 150 ∨ M (21 + 9 * e) i = 151 ∨ M (21 + 9 * e) i = 152) → 0 ≤ M (23 + 9 * e) i ∧ M (23 + 9 * e) i < 48)
  ∧ (M (21 + 9 * e) i = 150 ∨ M (21 + 9 * e) i = 151 ∨ M (21 + 9 * e) i = 152 → 0 ≤ M (23 + 9 * e) i ∧ M (23 + 9 * e) i ≤ 48)
theorem d_Ev_workOut_0 : decode b_Ev_workOut 0 = .ok (.aload_n 0, 1) := by decide +kernel
theorem d_Ev_workOut_1 : decode b_Ev_workOut 1 = .ok (.getfield 12, 3) := by decide +kernel
theorem d_Ev_workOut_4 : decode b_Ev_workOut 4 = .ok (.aload_n 0, 1) := by decide +kernel
theorem d_Ev_workOut_5 : decode b_Ev_workOut 5 = .ok (.getfield 12, 3) := by decide +kernel
theorem d_Ev_workOut_8 : decode b_Ev_workOut 8 = .ok (.iload_n 1, 1) := by decide +kernel
theorem d_Ev_workOut_9 : decode b_Ev_workOut 9 = .ok (.invokevirtual 118, 3) := by decide +kernel
theorem d_Ev_workOut_12 : decode b_Ev_workOut 12 = .ok (.invokevirtual 52, 3) := by decide +kernel
theorem d_Ev_workOut_15 : decode b_Ev_workOut 15 = .ok (.lstore_n 2, 1) := by decide +kernel
theorem d_Ev_workOut_16 : decode b_Ev_workOut 16 = .ok (.aload_n 0, 1) := by decide +kernel
theorem d_Ev_workOut_17 : decode b_Ev_workOut 17 = .ok (.getfield 12, 3) := by decide +kernel
theorem d_Ev_workOut_20 : decode b_Ev_workOut 20 = .ok (.iload_n 1, 1) := by decide +kernel
theorem d_Ev_workOut_21 : decode b_Ev_workOut 21 = .ok (.invokevirtual 121, 3) := by decide +kernel
theorem d_Ev_workOut_24 : decode b_Ev_workOut 24 = .ok (.istore 4, 2) := by decide +kernel
theorem d_Ev_workOut_26 : decode b_Ev_workOut 26 = .ok (.aload_n 0, 1) := by decide +kernel
theorem d_Ev_workOut_27 : decode b_Ev_workOut 27 = .ok (.getfield 12, 3) := by decide +kernel
theorem d_Ev_workOut_30 : decode b_Ev_workOut 30 = .ok (.iload_n 1, 1) := by decide +kernel
theorem d_Ev_workOut_31 : decode b_Ev_workOut 31 = .ok (.invokevirtual 124, 3) := by decide +kernel
theorem d_Ev_workOut_34 : decode b_Ev_workOut 34 = .ok (.tableswitch 253 137 152 #[78, 253, 253, 253, 145, 114, 88, 102, 126, 157, 253, 253, 168, 202, 211, 232], 78) := by decide +kernel
theorem d_Ev_workOut_112 : decode b_Ev_workOut 112 = .ok (.aload_n 0, 1) := by decide +kernel
theorem d_Ev_workOut_113 : decode b_Ev_workOut 113 = .ok (.iload_n 1, 1) := by decide +kernel
theorem d_Ev_workOut_114 : decode b_Ev_workOut 114 = .ok (.iconst 1, 1) := by decide +kernel
theorem d_Ev_workOut_115 : decode b_Ev_workOut 115 = .ok (.iadd, 1) := by decide +kernel
theorem d_Ev_workOut_116 : decode b_Ev_workOut 116 = .ok (.putfield 65, 3) := by decide +kernel
theorem d_Ev_workOut_119 : decode b_Ev_workOut 119 = .ok (.goto 183, 3) := by decide +kernel
theorem d_Ev_workOut_122 : decode b_Ev_workOut 122 = .ok (.aload_n 0, 1) := by decide +kernel
theorem d_Ev_workOut_123 : decode b_Ev_workOut 123 = .ok (.iload_n 1, 1) := by decide +kernel
theorem d_Ev_workOut_124 : decode b_Ev_workOut 124 = .ok (.iconst 0, 1) := by decide +kernel
theorem d_Ev_workOut_125 : decode b_Ev_workOut 125 = .ok (.iload 4, 2) := by decide +kernel
theorem d_Ev_workOut_127 : decode b_Ev_workOut 127 = .ok (.invokestatic 127, 3) := by decide +kernel
theorem d_Ev_workOut_130 : decode b_Ev_workOut 130 = .ok (.invokevirtual 131, 3) := by decide +kernel
theorem d_Ev_workOut_133 : decode b_Ev_workOut 133 = .ok (.goto 169, 3) := by decide +kernel
theorem d_Ev_workOut_136 : decode b_Ev_workOut 136 = .ok (.aload_n 0, 1) := by decide +kernel
theorem d_Ev_workOut_137 : decode b_Ev_workOut 137 = .ok (.iload_n 1, 1) := by decide +kernel
theorem d_Ev_workOut_138 : decode b_Ev_workOut 138 = .ok (.lload_n 2, 1) := by decide +kernel
theorem d_Ev_workOut_139 : decode b_Ev_workOut 139 = .ok (.l2i, 1) := by decide +kernel
theorem d_Ev_workOut_140 : decode b_Ev_workOut 140 = .ok (.iload 4, 2) := by decide +kernel
theorem d_Ev_workOut_142 : decode b_Ev_workOut 142 = .ok (.invokevirtual 135, 3) := by decide +kernel
theorem d_Ev_workOut_145 : decode b_Ev_workOut 145 = .ok (.goto 157, 3) := by decide +kernel
theorem d_Ev_workOut_148 : decode b_Ev_workOut 148 = .ok (.aload_n 0, 1) := by decide +kernel
theorem d_Ev_workOut_149 : decode b_Ev_workOut 149 = .ok (.iload_n 1, 1) := by decide +kernel
theorem d_Ev_workOut_150 : decode b_Ev_workOut 150 = .ok (.lload_n 2, 1) := by decide +kernel
theorem d_Ev_workOut_151 : decode b_Ev_workOut 151 = .ok (.l2i, 1) := by decide +kernel
theorem d_Ev_workOut_152 : decode b_Ev_workOut 152 = .ok (.bipush 26, 2) := by decide +kernel
theorem d_Ev_workOut_154 : decode b_Ev_workOut 154 = .ok (.invokevirtual 135, 3) := by decide +kernel
theorem d_Ev_workOut_157 : decode b_Ev_workOut 157 = .ok (.goto 145, 3) := by decide +kernel
theorem d_Ev_workOut_160 : decode b_Ev_workOut 160 = .ok (.aload_n 0, 1) := by decide +kernel
theorem d_Ev_workOut_161 : decode b_Ev_workOut 161 = .ok (.iload_n 1, 1) := by decide +kernel
theorem d_Ev_workOut_162 : decode b_Ev_workOut 162 = .ok (.lload_n 2, 1) := by decide +kernel
theorem d_Ev_workOut_163 : decode b_Ev_workOut 163 = .ok (.l2i, 1) := by decide +kernel
theorem d_Ev_workOut_164 : decode b_Ev_workOut 164 = .ok (.aload_n 0, 1) := by decide +kernel
theorem d_Ev_workOut_165 : decode b_Ev_workOut 165 = .ok (.getfield 12, 3) := by decide +kernel
theorem d_Ev_workOut_168 : decode b_Ev_workOut 168 = .ok (.iload 4, 2) := by decide +kernel
theorem d_Ev_workOut_170 : decode b_Ev_workOut 170 = .ok (.invokevirtual 52, 3) := by decide +kernel
theorem d_Ev_workOut_173 : decode b_Ev_workOut 173 = .ok (.invokevirtual 139, 3) := by decide +kernel
theorem d_Ev_workOut_176 : decode b_Ev_workOut 176 = .ok (.goto 126, 3) := by decide +kernel
theorem d_Ev_workOut_179 : decode b_Ev_workOut 179 = .ok (.aload_n 0, 1) := by decide +kernel
theorem d_Ev_workOut_180 : decode b_Ev_workOut 180 = .ok (.iload_n 1, 1) := by decide +kernel
theorem d_Ev_workOut_181 : decode b_Ev_workOut 181 = .ok (.lload_n 2, 1) := by decide +kernel
theorem d_Ev_workOut_182 : decode b_Ev_workOut 182 = .ok (.l2i, 1) := by decide +kernel
theorem d_Ev_workOut_183 : decode b_Ev_workOut 183 = .ok (.iload 4, 2) := by decide +kernel
theorem d_Ev_workOut_185 : decode b_Ev_workOut 185 = .ok (.invokevirtual 143, 3) := by decide +kernel
theorem d_Ev_workOut_188 : decode b_Ev_workOut 188 = .ok (.goto 114, 3) := by decide +kernel
theorem d_Ev_workOut_191 : decode b_Ev_workOut 191 = .ok (.aload_n 0, 1) := by decide +kernel
theorem d_Ev_workOut_192 : decode b_Ev_workOut 192 = .ok (.iload_n 1, 1) := by decide +kernel
theorem d_Ev_workOut_193 : decode b_Ev_workOut 193 = .ok (.lload_n 2, 1) := by decide +kernel
theorem d_Ev_workOut_194 : decode b_Ev_workOut 194 = .ok (.iload 4, 2) := by decide +kernel
theorem d_Ev_workOut_196 : decode b_Ev_workOut 196 = .ok (.invokevirtual 146, 3) := by decide +kernel
theorem d_Ev_workOut_199 : decode b_Ev_workOut 199 = .ok (.goto 103, 3) := by decide +kernel
theorem d_Ev_workOut_202 : decode b_Ev_workOut 202 = .ok (.aload_n 0, 1) := by decide +kernel
theorem d_Ev_workOut_203 : decode b_Ev_workOut 203 = .ok (.iload_n 1, 1) := by decide +kernel
theorem d_Ev_workOut_204 : decode b_Ev_workOut 204 = .ok (.aload_n 0, 1) := by decide +kernel
theorem d_Ev_workOut_205 : decode b_Ev_workOut 205 = .ok (.getfield 12, 3) := by decide +kernel
theorem d_Ev_workOut_208 : decode b_Ev_workOut 208 = .ok (.lload_n 2, 1) := by decide +kernel
theorem d_Ev_workOut_209 : decode b_Ev_workOut 209 = .ok (.lconst 1, 1) := by decide +kernel
theorem d_Ev_workOut_210 : decode b_Ev_workOut 210 = .ok (.lcmp, 1) := by decide +kernel
theorem d_Ev_workOut_211 : decode b_Ev_workOut 211 = .ok (.ifCond .ne 8, 3) := by decide +kernel
theorem d_Ev_workOut_214 : decode b_Ev_workOut 214 = .ok (.iload 4, 2) := by decide +kernel
theorem d_Ev_workOut_216 : decode b_Ev_workOut 216 = .ok (.goto 11, 3) := by decide +kernel
theorem d_Ev_workOut_219 : decode b_Ev_workOut 219 = .ok (.aload_n 0, 1) := by decide +kernel
theorem d_Ev_workOut_220 : decode b_Ev_workOut 220 = .ok (.getfield 12, 3) := by decide +kernel
theorem d_Ev_workOut_223 : decode b_Ev_workOut 223 = .ok (.iload_n 1, 1) := by decide +kernel
theorem d_Ev_workOut_224 : decode b_Ev_workOut 224 = .ok (.invokevirtual 150, 3) := by decide +kernel
theorem d_Ev_workOut_227 : decode b_Ev_workOut 227 = .ok (.invokevirtual 52, 3) := by decide +kernel
theorem d_Ev_workOut_230 : decode b_Ev_workOut 230 = .ok (.invokevirtual 115, 3) := by decide +kernel
theorem d_Ev_workOut_233 : decode b_Ev_workOut 233 = .ok (.goto 69, 3) := by decide +kernel
theorem d_Ev_workOut_236 : decode b_Ev_workOut 236 = .ok (.aload_n 0, 1) := by decide +kernel
theorem d_Ev_workOut_237 : decode b_Ev_workOut 237 = .ok (.iload 4, 2) := by decide +kernel
theorem d_Ev_workOut_239 : decode b_Ev_workOut 239 = .ok (.putfield 65, 3) := by decide +kernel
theorem d_Ev_workOut_242 : decode b_Ev_workOut 242 = .ok (.goto 60, 3) := by decide +kernel
theorem d_Ev_workOut_245 : decode b_Ev_workOut 245 = .ok (.aload_n 0, 1) := by decide +kernel
theorem d_Ev_workOut_246 : decode b_Ev_workOut 246 = .ok (.lload_n 2, 1) := by decide +kernel
theorem d_Ev_workOut_247 : decode b_Ev_workOut 247 = .ok (.lconst 0, 1) := by decide +kernel
theorem d_Ev_workOut_248 : decode b_Ev_workOut 248 = .ok (.lcmp, 1) := by decide +kernel
theorem d_Ev_workOut_249 : decode b_Ev_workOut 249 = .ok (.ifCond .ne 8, 3) := by decide +kernel
theorem d_Ev_workOut_252 : decode b_Ev_workOut 252 = .ok (.iload 4, 2) := by decide +kernel
theorem d_Ev_workOut_254 : decode b_Ev_workOut 254 = .ok (.goto 6, 3) := by decide +kernel
theorem d_Ev_workOut_257 : decode b_Ev_workOut 257 = .ok (.iload_n 1, 1) := by decide +kernel
theorem d_Ev_workOut_258 : decode b_Ev_workOut 258 = .ok (.iconst 1, 1) := by decide +kernel
theorem d_Ev_workOut_259 : decode b_Ev_workOut 259 = .ok (.iadd, 1) := by decide +kernel
theorem d_Ev_workOut_260 : decode b_Ev_workOut 260 = .ok (.putfield 65, 3) := by decide +kernel
theorem d_Ev_workOut_263 : decode b_Ev_workOut 263 = .ok (.goto 39, 3) := by decide +kernel
theorem d_Ev_workOut_266 : decode b_Ev_workOut 266 = .ok (.aload_n 0, 1) := by decide +kernel
theorem d_Ev_workOut_267 : decode b_Ev_workOut 267 = .ok (.lload_n 2, 1) := by decide +kernel
theorem d_Ev_workOut_268 : decode b_Ev_workOut 268 = .ok (.lconst 1, 1) := by decide +kernel
theorem d_Ev_workOut_269 : decode b_Ev_workOut 269 = .ok (.lcmp, 1) := by decide +kernel
theorem d_Ev_workOut_270 : decode b_Ev_workOut 270 = .ok (.ifCond .ne 8, 3) := by decide +kernel
theorem d_Ev_workOut_273 : decode b_Ev_workOut 273 = .ok (.iload 4, 2) := by decide +kernel
theorem d_Ev_workOut_275 : decode b_Ev_workOut 275 = .ok (.goto 6, 3) := by decide +kernel
theorem d_Ev_workOut_278 : decode b_Ev_workOut 278 = .ok (.iload_n 1, 1) := by decide +kernel
theorem d_Ev_workOut_279 : decode b_Ev_workOut 279 = .ok (.iconst 1, 1) := by decide +kernel
theorem d_Ev_workOut_280 : decode b_Ev_workOut 280 = .ok (.iadd, 1) := by decide +kernel
theorem d_Ev_workOut_281 : decode b_Ev_workOut 281 = .ok (.putfield 65, 3) := by decide +kernel
theorem d_Ev_workOut_284 : decode b_Ev_workOut 284 = .ok (.goto 18, 3) := by decide +kernel
theorem d_Ev_workOut_287 : decode b_Ev_workOut 287 = .ok (.aload_n 0, 1) := by decide +kernel
theorem d_Ev_workOut_288 : decode b_Ev_workOut 288 = .ok (.iload_n 1, 1) := by decide +kernel
theorem d_Ev_workOut_289 : decode b_Ev_workOut 289 = .ok (.lload_n 2, 1) := by decide +kernel
theorem d_Ev_workOut_290 : decode b_Ev_workOut 290 = .ok (.aload_n 0, 1) := by decide +kernel
theorem d_Ev_workOut_291 : decode b_Ev_workOut 291 = .ok (.getfield 12, 3) := by decide +kernel
theorem d_Ev_workOut_294 : decode b_Ev_workOut 294 = .ok (.iload 4, 2) := by decide +kernel
theorem d_Ev_workOut_296 : decode b_Ev_workOut 296 = .ok (.invokevirtual 52, 3) := by decide +kernel
theorem d_Ev_workOut_299 : decode b_Ev_workOut 299 = .ok (.invokevirtual 153, 3) := by decide +kernel
theorem d_Ev_workOut_302 : decode b_Ev_workOut 302 = .ok (.return_, 1) := by decide +kernel
set_option maxHeartbeats 1000000 in
theorem g_Ev_workOut {X : WX} {d : Nat} (hd : 4 ≤ d) (e : Nat) (i : Int) (M : Mem) (he : e < 4) (hst : stpH M e i) : MG X gt d KE KE y_Ev_workOut b_Ev_workOut 5 none [vr ((19 + 9 * e : Nat) : Int), vi i] M (fun r M' => r = none ∧ M' = effD M e i (stpR M e i)) := by
  refine MG_of_G (by decide) (Nat.le_of_ble_eq_true rfl) (Nat.le_refl _) (by decide) ?_
  show G X gt d KE KE y_Ev_workOut b_Ev_workOut 5 none _ 0 [(0, vr ((19 + 9 * e : Nat) : Int)), (1, vi i)] [] KE M
  have hT := hst.1
  have hI0 := hst.2.1
  have hi := hst.2.2.1
  have hln := hst.2.2.2.1
  have hf := hst.2.2.2.2.1
  have hcs := hI0.2.1
  refine G_rngl (i := 1) rfl (fun hr1 => ?_)
  refine G_aload (i := 0) (n := 0) (len := 1) (Or.inl ⟨0, rfl, rfl, d_Ev_workOut_0⟩) rfl (by omega) (G_pc (pc' := 1) rfl ?_)
  refine G_get (o := (19 + 9 * e)) (c := 1) (k := 4) (v := ((20 + 9 * e : Nat) : Int)) d_Ev_workOut_1 fl_Ev_12 (kd_Ev he) (by decide) (by show 19 + 9 * e < 87; omega) (gf_Ev4 he) rfl (G_pc (pc' := 4) rfl ?_)
  refine G_aload (i := 0) (n := 0) (len := 1) (Or.inl ⟨0, rfl, rfl, d_Ev_workOut_4⟩) rfl (by omega) (G_pc (pc' := 5) rfl ?_)
  refine G_get (o := (19 + 9 * e)) (c := 1) (k := 4) (v := ((20 + 9 * e : Nat) : Int)) d_Ev_workOut_5 fl_Ev_12 (kd_Ev he) (by decide) (by show 19 + 9 * e < 87; omega) (gf_Ev4 he) rfl (G_pc (pc' := 8) rfl ?_)
  refine G_iload (i := 1) (n := 1) (len := 1) (Or.inl ⟨1, rfl, rfl, d_Ev_workOut_8⟩) rfl (G_pc (pc' := 9) rfl ?_)
  refine G_callV (K1 := KE) (d2 := 0) (o := (20 + 9 * e)) (cl := 5) (as := [vi i]) (rest := [vr ((20 + 9 * e : Nat) : Int)]) d_Ev_workOut_9 mf_St_firstOf ml_Ev_118 (kd_St he) rfl (by show 20 + 9 * e < 87; omega) rfl rfl (Nat.le_of_ble_eq_true rfl) (by omega) ⟨Nat.le_refl _, Nat.le_refl _⟩ (g_St_firstOf (by omega) e i _ he (by omega)) (fun r1 M2 kq3 q3 => ?_)
  clear kq3; obtain ⟨q3a, q3b⟩ := q3; subst r1; subst M2
  refine G_ps (pc' := 12) (st' := [vi (M (22 + 9 * e) i), vr ((20 + 9 * e : Nat) : Int)]) rfl rfl ?_
  refine G_callV (K1 := KE) (d2 := 0) (o := (20 + 9 * e)) (cl := 5) (as := [vi (M (22 + 9 * e) i)]) (rest := []) d_Ev_workOut_12 mf_St_valueAt ml_Ev_52 (kd_St he) rfl (by show 20 + 9 * e < 87; omega) rfl rfl (Nat.le_of_ble_eq_true rfl) (by omega) ⟨Nat.le_refl _, Nat.le_refl _⟩ (g_St_valueAt (by omega) e (M (22 + 9 * e) i) _ he (by omega)) (fun r4 M5 kq6 q6 => ?_)
  clear kq6; obtain ⟨q6a, q6b⟩ := q6; subst r4; subst M5
  refine G_ps (pc' := 15) (st' := [vl (M (26 + 9 * e) (M (22 + 9 * e) i))]) rfl rfl ?_
  refine G_lstore (i := 2) (len := 1) (ls' := [(2, vl (M (26 + 9 * e) (M (22 + 9 * e) i))), (0, vr ((19 + 9 * e : Nat) : Int)), (1, vi i)]) (Or.inl ⟨2, rfl, rfl, d_Ev_workOut_15⟩) (by decide) rfl (G_pc (pc' := 16) rfl ?_)
  refine G_aload (i := 0) (n := 1) (len := 1) (Or.inl ⟨0, rfl, rfl, d_Ev_workOut_16⟩) rfl (by omega) (G_pc (pc' := 17) rfl ?_)
  refine G_get (o := (19 + 9 * e)) (c := 1) (k := 4) (v := ((20 + 9 * e : Nat) : Int)) d_Ev_workOut_17 fl_Ev_12 (kd_Ev he) (by decide) (by show 19 + 9 * e < 87; omega) (gf_Ev4 he) rfl (G_pc (pc' := 20) rfl ?_)
  refine G_iload (i := 1) (n := 2) (len := 1) (Or.inl ⟨1, rfl, rfl, d_Ev_workOut_20⟩) rfl (G_pc (pc' := 21) rfl ?_)
  refine G_callV (K1 := KE) (d2 := 0) (o := (20 + 9 * e)) (cl := 5) (as := [vi i]) (rest := []) d_Ev_workOut_21 mf_St_secondOf ml_Ev_121 (kd_St he) rfl (by show 20 + 9 * e < 87; omega) rfl rfl (Nat.le_of_ble_eq_true rfl) (by omega) ⟨Nat.le_refl _, Nat.le_refl _⟩ (g_St_secondOf (by omega) e i _ he (by omega)) (fun r7 M8 kq9 q9 => ?_)
  clear kq9; obtain ⟨q9a, q9b⟩ := q9; subst r7; subst M8
  refine G_ps (pc' := 24) (st' := [vi (M (23 + 9 * e) i)]) rfl rfl ?_
  refine G_istore (i := 4) (len := 2) (ls' := [(4, vi (M (23 + 9 * e) i)), (2, vl (M (26 + 9 * e) (M (22 + 9 * e) i))), (0, vr ((19 + 9 * e : Nat) : Int)), (1, vi i)]) (Or.inr ⟨rfl, d_Ev_workOut_24⟩) (by decide) rfl (G_pc (pc' := 26) rfl ?_)
  refine G_aload (i := 0) (n := 2) (len := 1) (Or.inl ⟨0, rfl, rfl, d_Ev_workOut_26⟩) rfl (by omega) (G_pc (pc' := 27) rfl ?_)
  refine G_get (o := (19 + 9 * e)) (c := 1) (k := 4) (v := ((20 + 9 * e : Nat) : Int)) d_Ev_workOut_27 fl_Ev_12 (kd_Ev he) (by decide) (by show 19 + 9 * e < 87; omega) (gf_Ev4 he) rfl (G_pc (pc' := 30) rfl ?_)
  refine G_iload (i := 1) (n := 3) (len := 1) (Or.inl ⟨1, rfl, rfl, d_Ev_workOut_30⟩) rfl (G_pc (pc' := 31) rfl ?_)
  refine G_callV (K1 := KE) (d2 := 0) (o := (20 + 9 * e)) (cl := 5) (as := [vi i]) (rest := []) d_Ev_workOut_31 mf_St_codeAt ml_Ev_124 (kd_St he) rfl (by show 20 + 9 * e < 87; omega) rfl rfl (Nat.le_of_ble_eq_true rfl) (by omega) ⟨Nat.le_refl _, Nat.le_refl _⟩ (g_St_codeAt (by omega) e i _ he (by omega)) (fun r10 M11 kq12 q12 => ?_)
  clear kq12; obtain ⟨q12a, q12b⟩ := q12; subst r10; subst M11
  refine G_ps (pc' := 34) (st' := [vi (M (21 + 9 * e) i)]) rfl rfl ?_
  by_cases h13 : M (21 + 9 * e) i = 137
  · skip
    have e14o : (#[78, 253, 253, 253, 145, 114, 88, 102, 126, 157, 253, 253, 168, 202, 211, 232] : Array Int)[((M (21 + 9 * e) i) - 137).toNat]? = some 78 := by rw [h13]; rfl
    refine G_tableIn (off := 78) (tgt := 112) d_Ev_workOut_34 (by omega) e14o (by decide) ?_
    refine G_aload (i := 0) (n := 2) (len := 1) (Or.inl ⟨0, rfl, rfl, d_Ev_workOut_112⟩) rfl (by omega) (G_pc (pc' := 113) rfl ?_)
    refine G_iload (i := 1) (n := 3) (len := 1) (Or.inl ⟨1, rfl, rfl, d_Ev_workOut_113⟩) rfl (G_pc (pc' := 114) rfl ?_)
    refine G_iconst (n := 1) d_Ev_workOut_114 (by decide) (G_pc (pc' := 115) rfl ?_)
    refine G_iadd d_Ev_workOut_115 (by omega) (G_pc (pc' := 116) rfl ?_)
    refine G_putL (o := (19 + 9 * e)) (c := 1) (k := 10) (ki := 10) (x := i + 1) d_Ev_workOut_116 fl_Ev_65 rfl (kd_Ev he) (by decide) (by show 19 + 9 * e < 87; omega) (by decide) rfl (gn_Ev he (by decide)) (tokI (by omega)) rfl (G_pc (pc' := 119) rfl ?_)
    refine G_goto (tgt := 302) d_Ev_workOut_119 (by decide) ?_
    refine G_vret d_Ev_workOut_302 rfl rfl ?_
    exact ⟨rfl, eff_j (by unfold stpR; repeat (first | (rw [if_pos (by omega)]; done) | (rw [if_neg (by omega)]; done) | (rw [if_pos (by omega)]) | (rw [if_neg (by omega)])))⟩
  by_cases h13 : M (21 + 9 * e) i = 141
  · skip
    have e15o : (#[78, 253, 253, 253, 145, 114, 88, 102, 126, 157, 253, 253, 168, 202, 211, 232] : Array Int)[((M (21 + 9 * e) i) - 137).toNat]? = some 145 := by rw [h13]; rfl
    refine G_tableIn (off := 145) (tgt := 179) d_Ev_workOut_34 (by omega) e15o (by decide) ?_
    obtain ⟨hv, hv2, hv3⟩ := hst.2.2.2.2.2.2.2.2.2.1 (by omega)
    refine G_aload (i := 0) (n := 2) (len := 1) (Or.inl ⟨0, rfl, rfl, d_Ev_workOut_179⟩) rfl (by omega) (G_pc (pc' := 180) rfl ?_)
    refine G_iload (i := 1) (n := 3) (len := 1) (Or.inl ⟨1, rfl, rfl, d_Ev_workOut_180⟩) rfl (G_pc (pc' := 181) rfl ?_)
    refine G_lload (i := 2) (n := 1) (len := 1) (Or.inl ⟨2, rfl, rfl, d_Ev_workOut_181⟩) rfl (G_pc (pc' := 182) rfl ?_)
    refine G_l2i d_Ev_workOut_182 (G_pc (pc' := 183) rfl ?_)
    refine G_iload (i := 4) (n := 0) (len := 2) (Or.inr ⟨rfl, d_Ev_workOut_183⟩) rfl (G_pc (pc' := 185) rfl ?_)
    refine G_callV (K1 := KE) (d2 := 3) (o := (19 + 9 * e)) (cl := 1) (as := [vi i, vi (w32 (M (26 + 9 * e) (M (22 + 9 * e) i))), vi (M (23 + 9 * e) i)]) (rest := []) d_Ev_workOut_185 mf_Ev_workOutInstanceof ml_Ev_143 (kd_Ev he) rfl (by show 19 + 9 * e < 87; omega) rfl rfl (Nat.le_of_ble_eq_true rfl) (by omega) ⟨Nat.le_refl _, Nat.le_refl _⟩ (g_Ev_workOutInstanceof (by omega) e i (w32 (M (26 + 9 * e) (M (22 + 9 * e) i))) (M (23 + 9 * e) i) M hT hI0 he (by omega) (by omega) hv2 hv3 (by omega) (by omega) (by omega) (by omega)) (fun r16 M17 kq18 q18 => ?_)
    clear kq18; obtain ⟨q18a, q18b⟩ := q18; subst r16; subst M17
    refine G_ps (pc' := 188) (st' := []) rfl rfl ?_
    refine G_goto (tgt := 302) d_Ev_workOut_188 (by decide) ?_
    refine G_vret d_Ev_workOut_302 rfl rfl ?_
    exact ⟨rfl, congrArg (effD M e i) (by unfold stpR; repeat (first | (rw [if_pos (by omega)]; done) | (rw [if_pos (by omega)]) | (rw [if_neg (by omega)])))⟩
  by_cases h13 : M (21 + 9 * e) i = 142
  · skip
    have e19o : (#[78, 253, 253, 253, 145, 114, 88, 102, 126, 157, 253, 253, 168, 202, 211, 232] : Array Int)[((M (21 + 9 * e) i) - 137).toNat]? = some 114 := by rw [h13]; rfl
    refine G_tableIn (off := 114) (tgt := 148) d_Ev_workOut_34 (by omega) e19o (by decide) ?_
    have hv := hst.2.2.2.2.2.2.2.1 (by omega)
    refine G_aload (i := 0) (n := 2) (len := 1) (Or.inl ⟨0, rfl, rfl, d_Ev_workOut_148⟩) rfl (by omega) (G_pc (pc' := 149) rfl ?_)
    refine G_iload (i := 1) (n := 3) (len := 1) (Or.inl ⟨1, rfl, rfl, d_Ev_workOut_149⟩) rfl (G_pc (pc' := 150) rfl ?_)
    refine G_lload (i := 2) (n := 1) (len := 1) (Or.inl ⟨2, rfl, rfl, d_Ev_workOut_150⟩) rfl (G_pc (pc' := 151) rfl ?_)
    refine G_l2i d_Ev_workOut_151 (G_pc (pc' := 152) rfl ?_)
    refine G_bipush (n := 26) d_Ev_workOut_152 (by decide) (G_pc (pc' := 154) rfl ?_)
    refine G_callV (K1 := KE) (d2 := 3) (o := (19 + 9 * e)) (cl := 1) (as := [vi i, vi (w32 (M (26 + 9 * e) (M (22 + 9 * e) i))), vi 26]) (rest := []) d_Ev_workOut_154 mf_Ev_workOutPart ml_Ev_135 (kd_Ev he) rfl (by show 19 + 9 * e < 87; omega) rfl rfl (Nat.le_of_ble_eq_true rfl) (by omega) ⟨Nat.le_refl _, Nat.le_refl _⟩ (g_Ev_workOutPart (by omega) e i (w32 (M (26 + 9 * e) (M (22 + 9 * e) i))) 26 M he (by omega) (by omega) (by omega) (by omega) (by omega) (by omega)) (fun r20 M21 kq22 q22 => ?_)
    clear kq22; obtain ⟨q22a, q22b⟩ := q22; subst r20; subst M21
    refine G_ps (pc' := 157) (st' := []) rfl rfl ?_
    refine G_goto (tgt := 302) d_Ev_workOut_157 (by decide) ?_
    refine G_vret d_Ev_workOut_302 rfl rfl ?_
    exact ⟨rfl, congrArg (effD M e i) (by unfold stpR; repeat (first | (rw [if_pos (by omega)]; done) | (rw [if_pos (by omega)]) | (rw [if_neg (by omega)])))⟩
  by_cases h13 : M (21 + 9 * e) i = 143
  · skip
    have e23o : (#[78, 253, 253, 253, 145, 114, 88, 102, 126, 157, 253, 253, 168, 202, 211, 232] : Array Int)[((M (21 + 9 * e) i) - 137).toNat]? = some 88 := by rw [h13]; rfl
    refine G_tableIn (off := 88) (tgt := 122) d_Ev_workOut_34 (by omega) e23o (by decide) ?_
    have hv := hst.2.2.2.2.2.1 (by omega)
    refine G_aload (i := 0) (n := 2) (len := 1) (Or.inl ⟨0, rfl, rfl, d_Ev_workOut_122⟩) rfl (by omega) (G_pc (pc' := 123) rfl ?_)
    refine G_iload (i := 1) (n := 3) (len := 1) (Or.inl ⟨1, rfl, rfl, d_Ev_workOut_123⟩) rfl (G_pc (pc' := 124) rfl ?_)
    refine G_iconst (n := 0) d_Ev_workOut_124 (by decide) (G_pc (pc' := 125) rfl ?_)
    refine G_iload (i := 4) (n := 0) (len := 2) (Or.inr ⟨rfl, d_Ev_workOut_125⟩) rfl (G_pc (pc' := 127) rfl ?_)
    refine G_callN (K1 := KE) (d2 := 0) (as := [vi 0, vi (M (23 + 9 * e) i)]) (rest := [vi i, vr ((19 + 9 * e : Nat) : Int)]) d_Ev_workOut_127 mf_De_placeOf (by decide) rfl rfl (Nat.le_of_ble_eq_true rfl) (by omega) ⟨Nat.le_refl _, Nat.le_refl _⟩ (g_De_placeOf (by omega) 0 (M (23 + 9 * e) i) _ (by omega) (by omega)) (fun r24 M25 kq26 q26 => ?_)
    clear kq26; obtain ⟨q26a, q26b⟩ := q26; subst r24; subst M25
    refine G_ps (pc' := 130) (st' := [vi (28 * 0 + (M (23 + 9 * e) i)), vi i, vr ((19 + 9 * e : Nat) : Int)]) rfl rfl ?_
    refine G_callV (K1 := KE) (d2 := 2) (o := (19 + 9 * e)) (cl := 1) (as := [vi i, vi (28 * 0 + (M (23 + 9 * e) i))]) (rest := []) d_Ev_workOut_130 mf_Ev_fetch ml_Ev_131 (kd_Ev he) rfl (by show 19 + 9 * e < 87; omega) rfl rfl (Nat.le_of_ble_eq_true rfl) (by omega) ⟨Nat.le_refl _, Nat.le_refl _⟩ (g_Ev_fetch (by omega) e i (28 * 0 + (M (23 + 9 * e) i)) M he (by omega) (by omega) (by omega) (by omega) (by omega)) (fun r27 M28 kq29 q29 => ?_)
    clear kq29; obtain ⟨q29a, q29b⟩ := q29; subst r27; subst M28
    refine G_ps (pc' := 133) (st' := []) rfl rfl ?_
    refine G_goto (tgt := 302) d_Ev_workOut_133 (by decide) ?_
    refine G_vret d_Ev_workOut_302 rfl rfl ?_
    exact ⟨rfl, congrArg (effD M e i) (by unfold stpR; repeat (first | (rw [if_pos (by omega)]; done) | (rw [if_pos (by omega)]) | (rw [if_neg (by omega)])))⟩
  by_cases h13 : M (21 + 9 * e) i = 144
  · skip
    have e30o : (#[78, 253, 253, 253, 145, 114, 88, 102, 126, 157, 253, 253, 168, 202, 211, 232] : Array Int)[((M (21 + 9 * e) i) - 137).toNat]? = some 102 := by rw [h13]; rfl
    refine G_tableIn (off := 102) (tgt := 136) d_Ev_workOut_34 (by omega) e30o (by decide) ?_
    have hv := hst.2.2.2.2.2.2.1 (by omega)
    refine G_aload (i := 0) (n := 2) (len := 1) (Or.inl ⟨0, rfl, rfl, d_Ev_workOut_136⟩) rfl (by omega) (G_pc (pc' := 137) rfl ?_)
    refine G_iload (i := 1) (n := 3) (len := 1) (Or.inl ⟨1, rfl, rfl, d_Ev_workOut_137⟩) rfl (G_pc (pc' := 138) rfl ?_)
    refine G_lload (i := 2) (n := 1) (len := 1) (Or.inl ⟨2, rfl, rfl, d_Ev_workOut_138⟩) rfl (G_pc (pc' := 139) rfl ?_)
    refine G_l2i d_Ev_workOut_139 (G_pc (pc' := 140) rfl ?_)
    refine G_iload (i := 4) (n := 0) (len := 2) (Or.inr ⟨rfl, d_Ev_workOut_140⟩) rfl (G_pc (pc' := 142) rfl ?_)
    refine G_callV (K1 := KE) (d2 := 3) (o := (19 + 9 * e)) (cl := 1) (as := [vi i, vi (w32 (M (26 + 9 * e) (M (22 + 9 * e) i))), vi (M (23 + 9 * e) i)]) (rest := []) d_Ev_workOut_142 mf_Ev_workOutPart ml_Ev_135 (kd_Ev he) rfl (by show 19 + 9 * e < 87; omega) rfl rfl (Nat.le_of_ble_eq_true rfl) (by omega) ⟨Nat.le_refl _, Nat.le_refl _⟩ (g_Ev_workOutPart (by omega) e i (w32 (M (26 + 9 * e) (M (22 + 9 * e) i))) (M (23 + 9 * e) i) M he (by omega) (by omega) (by omega) (by omega) (by omega) (by omega)) (fun r31 M32 kq33 q33 => ?_)
    clear kq33; obtain ⟨q33a, q33b⟩ := q33; subst r31; subst M32
    refine G_ps (pc' := 145) (st' := []) rfl rfl ?_
    refine G_goto (tgt := 302) d_Ev_workOut_145 (by decide) ?_
    refine G_vret d_Ev_workOut_302 rfl rfl ?_
    exact ⟨rfl, congrArg (effD M e i) (by unfold stpR; repeat (first | (rw [if_pos (by omega)]; done) | (rw [if_pos (by omega)]) | (rw [if_neg (by omega)])))⟩
  by_cases h13 : M (21 + 9 * e) i = 145
  · skip
    have e34o : (#[78, 253, 253, 253, 145, 114, 88, 102, 126, 157, 253, 253, 168, 202, 211, 232] : Array Int)[((M (21 + 9 * e) i) - 137).toNat]? = some 126 := by rw [h13]; rfl
    refine G_tableIn (off := 126) (tgt := 160) d_Ev_workOut_34 (by omega) e34o (by decide) ?_
    have hv := hst.2.2.2.2.2.2.2.2.1 (by omega)
    have hs9 := hst.2.2.2.2.2.2.2.2.2.2.2.2.1 (by omega)
    refine G_aload (i := 0) (n := 2) (len := 1) (Or.inl ⟨0, rfl, rfl, d_Ev_workOut_160⟩) rfl (by omega) (G_pc (pc' := 161) rfl ?_)
    refine G_iload (i := 1) (n := 3) (len := 1) (Or.inl ⟨1, rfl, rfl, d_Ev_workOut_161⟩) rfl (G_pc (pc' := 162) rfl ?_)
    refine G_lload (i := 2) (n := 1) (len := 1) (Or.inl ⟨2, rfl, rfl, d_Ev_workOut_162⟩) rfl (G_pc (pc' := 163) rfl ?_)
    refine G_l2i d_Ev_workOut_163 (G_pc (pc' := 164) rfl ?_)
    refine G_aload (i := 0) (n := 2) (len := 1) (Or.inl ⟨0, rfl, rfl, d_Ev_workOut_164⟩) rfl (by omega) (G_pc (pc' := 165) rfl ?_)
    refine G_get (o := (19 + 9 * e)) (c := 1) (k := 4) (v := ((20 + 9 * e : Nat) : Int)) d_Ev_workOut_165 fl_Ev_12 (kd_Ev he) (by decide) (by show 19 + 9 * e < 87; omega) (gf_Ev4 he) rfl (G_pc (pc' := 168) rfl ?_)
    refine G_iload (i := 4) (n := 0) (len := 2) (Or.inr ⟨rfl, d_Ev_workOut_168⟩) rfl (G_pc (pc' := 170) rfl ?_)
    refine G_callV (K1 := KE) (d2 := 0) (o := (20 + 9 * e)) (cl := 5) (as := [vi (M (23 + 9 * e) i)]) (rest := [vi (w32 (M (26 + 9 * e) (M (22 + 9 * e) i))), vi i, vr ((19 + 9 * e : Nat) : Int)]) d_Ev_workOut_170 mf_St_valueAt ml_Ev_52 (kd_St he) rfl (by show 20 + 9 * e < 87; omega) rfl rfl (Nat.le_of_ble_eq_true rfl) (by omega) ⟨Nat.le_refl _, Nat.le_refl _⟩ (g_St_valueAt (by omega) e (M (23 + 9 * e) i) _ he (by omega)) (fun r35 M36 kq37 q37 => ?_)
    clear kq37; obtain ⟨q37a, q37b⟩ := q37; subst r35; subst M36
    refine G_ps (pc' := 173) (st' := [vl (M (26 + 9 * e) (M (23 + 9 * e) i)), vi (w32 (M (26 + 9 * e) (M (22 + 9 * e) i))), vi i, vr ((19 + 9 * e : Nat) : Int)]) rfl rfl ?_
    refine G_callV (K1 := KE) (d2 := 3) (o := (19 + 9 * e)) (cl := 1) (as := [vi i, vi (w32 (M (26 + 9 * e) (M (22 + 9 * e) i))), vl (M (26 + 9 * e) (M (23 + 9 * e) i))]) (rest := []) d_Ev_workOut_173 mf_Ev_workOutElement ml_Ev_139 (kd_Ev he) rfl (by show 19 + 9 * e < 87; omega) rfl rfl (Nat.le_of_ble_eq_true rfl) (by omega) ⟨Nat.le_refl _, Nat.le_refl _⟩ (g_Ev_workOutElement (by omega) e i (w32 (M (26 + 9 * e) (M (22 + 9 * e) i))) (M (26 + 9 * e) (M (23 + 9 * e) i)) M hT hI0 he (by omega) (by omega) (by omega) (by omega) (by omega)) (fun r38 M39 kq40 q40 => ?_)
    clear kq40; obtain ⟨q40a, q40b⟩ := q40; subst r38; subst M39
    refine G_ps (pc' := 176) (st' := []) rfl rfl ?_
    refine G_goto (tgt := 302) d_Ev_workOut_176 (by decide) ?_
    refine G_vret d_Ev_workOut_302 rfl rfl ?_
    exact ⟨rfl, congrArg (effD M e i) (by unfold stpR; repeat (first | (rw [if_pos (by omega)]; done) | (rw [if_pos (by omega)]) | (rw [if_neg (by omega)])))⟩
  by_cases h13 : M (21 + 9 * e) i = 146
  · skip
    have e41o : (#[78, 253, 253, 253, 145, 114, 88, 102, 126, 157, 253, 253, 168, 202, 211, 232] : Array Int)[((M (21 + 9 * e) i) - 137).toNat]? = some 157 := by rw [h13]; rfl
    refine G_tableIn (off := 157) (tgt := 191) d_Ev_workOut_34 (by omega) e41o (by decide) ?_
    obtain ⟨hv, hv2, hv3⟩ := hst.2.2.2.2.2.2.2.2.2.2.1 (by omega)
    refine G_aload (i := 0) (n := 2) (len := 1) (Or.inl ⟨0, rfl, rfl, d_Ev_workOut_191⟩) rfl (by omega) (G_pc (pc' := 192) rfl ?_)
    refine G_iload (i := 1) (n := 3) (len := 1) (Or.inl ⟨1, rfl, rfl, d_Ev_workOut_192⟩) rfl (G_pc (pc' := 193) rfl ?_)
    refine G_lload (i := 2) (n := 1) (len := 1) (Or.inl ⟨2, rfl, rfl, d_Ev_workOut_193⟩) rfl (G_pc (pc' := 194) rfl ?_)
    refine G_iload (i := 4) (n := 0) (len := 2) (Or.inr ⟨rfl, d_Ev_workOut_194⟩) rfl (G_pc (pc' := 196) rfl ?_)
    refine G_callV (K1 := KE) (d2 := 3) (o := (19 + 9 * e)) (cl := 1) (as := [vi i, vl (M (26 + 9 * e) (M (22 + 9 * e) i)), vi (M (23 + 9 * e) i)]) (rest := []) d_Ev_workOut_196 mf_Ev_workOutCast ml_Ev_146 (kd_Ev he) rfl (by show 19 + 9 * e < 87; omega) rfl rfl (Nat.le_of_ble_eq_true rfl) (by omega) ⟨Nat.le_refl _, Nat.le_refl _⟩ (g_Ev_workOutCast (by omega) e i (M (26 + 9 * e) (M (22 + 9 * e) i)) (M (23 + 9 * e) i) M hT hI0 he (by omega) (by omega) hv2 hv3 hv (by omega) (by omega) (by omega)) (fun r42 M43 kq44 q44 => ?_)
    clear kq44; obtain ⟨q44a, q44b⟩ := q44; subst r42; subst M43
    refine G_ps (pc' := 199) (st' := []) rfl rfl ?_
    refine G_goto (tgt := 302) d_Ev_workOut_199 (by decide) ?_
    refine G_vret d_Ev_workOut_302 rfl rfl ?_
    exact ⟨rfl, congrArg (effD M e i) (by unfold stpR; repeat (first | (rw [if_pos (by omega)]; done) | (rw [if_pos (by omega)]) | (rw [if_neg (by omega)])))⟩
  by_cases h13 : M (21 + 9 * e) i = 149
  · skip
    have e45o : (#[78, 253, 253, 253, 145, 114, 88, 102, 126, 157, 253, 253, 168, 202, 211, 232] : Array Int)[((M (21 + 9 * e) i) - 137).toNat]? = some 168 := by rw [h13]; rfl
    refine G_tableIn (off := 168) (tgt := 202) d_Ev_workOut_34 (by omega) e45o (by decide) ?_
    have hv := hst.2.2.2.2.2.2.2.2.2.2.2.1 (by omega)
    have hs9 := hst.2.2.2.2.2.2.2.2.2.2.2.2.1 (by omega)
    refine G_aload (i := 0) (n := 2) (len := 1) (Or.inl ⟨0, rfl, rfl, d_Ev_workOut_202⟩) rfl (by omega) (G_pc (pc' := 203) rfl ?_)
    refine G_iload (i := 1) (n := 3) (len := 1) (Or.inl ⟨1, rfl, rfl, d_Ev_workOut_203⟩) rfl (G_pc (pc' := 204) rfl ?_)
    refine G_aload (i := 0) (n := 2) (len := 1) (Or.inl ⟨0, rfl, rfl, d_Ev_workOut_204⟩) rfl (by omega) (G_pc (pc' := 205) rfl ?_)
    refine G_get (o := (19 + 9 * e)) (c := 1) (k := 4) (v := ((20 + 9 * e : Nat) : Int)) d_Ev_workOut_205 fl_Ev_12 (kd_Ev he) (by decide) (by show 19 + 9 * e < 87; omega) (gf_Ev4 he) rfl (G_pc (pc' := 208) rfl ?_)
    refine G_lload (i := 2) (n := 1) (len := 1) (Or.inl ⟨2, rfl, rfl, d_Ev_workOut_208⟩) rfl (G_pc (pc' := 209) rfl ?_)
    refine G_lconst1 d_Ev_workOut_209 (G_pc (pc' := 210) rfl ?_)
    refine G_lcmp_ne (tgt := 219) d_Ev_workOut_210 d_Ev_workOut_211 (by decide) (fun h46 => ?_) (fun h46 => G_pc (pc' := 214) rfl ?_)
    · skip
      refine G_aload (i := 0) (n := 2) (len := 1) (Or.inl ⟨0, rfl, rfl, d_Ev_workOut_219⟩) rfl (by omega) (G_pc (pc' := 220) rfl ?_)
      refine G_get (o := (19 + 9 * e)) (c := 1) (k := 4) (v := ((20 + 9 * e : Nat) : Int)) d_Ev_workOut_220 fl_Ev_12 (kd_Ev he) (by decide) (by show 19 + 9 * e < 87; omega) (gf_Ev4 he) rfl (G_pc (pc' := 223) rfl ?_)
      refine G_iload (i := 1) (n := 3) (len := 1) (Or.inl ⟨1, rfl, rfl, d_Ev_workOut_223⟩) rfl (G_pc (pc' := 224) rfl ?_)
      refine G_callV (K1 := KE) (d2 := 0) (o := (20 + 9 * e)) (cl := 5) (as := [vi i]) (rest := [vr ((20 + 9 * e : Nat) : Int), vi i, vr ((19 + 9 * e : Nat) : Int)]) d_Ev_workOut_224 mf_St_thirdOf ml_Ev_150 (kd_St he) rfl (by show 20 + 9 * e < 87; omega) rfl rfl (Nat.le_of_ble_eq_true rfl) (by omega) ⟨Nat.le_refl _, Nat.le_refl _⟩ (g_St_thirdOf (by omega) e i _ he (by omega)) (fun r47 M48 kq49 q49 => ?_)
      clear kq49; obtain ⟨q49a, q49b⟩ := q49; subst r47; subst M48
      refine G_ps (pc' := 227) (st' := [vi (M (24 + 9 * e) i), vr ((20 + 9 * e : Nat) : Int), vi i, vr ((19 + 9 * e : Nat) : Int)]) rfl rfl ?_
      refine G_callV (K1 := KE) (d2 := 0) (o := (20 + 9 * e)) (cl := 5) (as := [vi (M (24 + 9 * e) i)]) (rest := [vi i, vr ((19 + 9 * e : Nat) : Int)]) d_Ev_workOut_227 mf_St_valueAt ml_Ev_52 (kd_St he) rfl (by show 20 + 9 * e < 87; omega) rfl rfl (Nat.le_of_ble_eq_true rfl) (by omega) ⟨Nat.le_refl _, Nat.le_refl _⟩ (g_St_valueAt (by omega) e (M (24 + 9 * e) i) _ he (by omega)) (fun r50 M51 kq52 q52 => ?_)
      clear kq52; obtain ⟨q52a, q52b⟩ := q52; subst r50; subst M51
      refine G_ps (pc' := 230) (st' := [vl (M (26 + 9 * e) (M (24 + 9 * e) i)), vi i, vr ((19 + 9 * e : Nat) : Int)]) rfl rfl ?_
      refine G_callV (K1 := KE) (d2 := 1) (o := (19 + 9 * e)) (cl := 1) (as := [vi i, vl (M (26 + 9 * e) (M (24 + 9 * e) i))]) (rest := []) d_Ev_workOut_230 mf_Ev_settle ml_Ev_115 (kd_Ev he) rfl (by show 19 + 9 * e < 87; omega) rfl rfl (Nat.le_of_ble_eq_true rfl) (by omega) ⟨Nat.le_refl _, Nat.le_refl _⟩ (g_Ev_settle (by omega) e i (M (26 + 9 * e) (M (24 + 9 * e) i)) _ he (by omega)) (fun r53 M54 kq55 q55 => ?_)
      clear kq55; obtain ⟨q55a, q55b⟩ := q55; subst r53; subst M54
      refine G_ps (pc' := 233) (st' := []) rfl rfl ?_
      refine G_goto (tgt := 302) d_Ev_workOut_233 (by decide) ?_
      refine G_vret d_Ev_workOut_302 rfl rfl ?_
      exact ⟨rfl, eff_s (by unfold stpR; repeat (first | (rw [if_pos (by omega)]; done) | (rw [if_neg (by omega)]; done) | (rw [if_pos (by omega)]) | (rw [if_neg (by omega)])))⟩
    · skip
      refine G_iload (i := 4) (n := 0) (len := 2) (Or.inr ⟨rfl, d_Ev_workOut_214⟩) rfl (G_pc (pc' := 216) rfl ?_)
      refine G_goto (tgt := 227) d_Ev_workOut_216 (by decide) ?_
      refine G_callV (K1 := KE) (d2 := 0) (o := (20 + 9 * e)) (cl := 5) (as := [vi (M (23 + 9 * e) i)]) (rest := [vi i, vr ((19 + 9 * e : Nat) : Int)]) d_Ev_workOut_227 mf_St_valueAt ml_Ev_52 (kd_St he) rfl (by show 20 + 9 * e < 87; omega) rfl rfl (Nat.le_of_ble_eq_true rfl) (by omega) ⟨Nat.le_refl _, Nat.le_refl _⟩ (g_St_valueAt (by omega) e (M (23 + 9 * e) i) _ he (by omega)) (fun r56 M57 kq58 q58 => ?_)
      clear kq58; obtain ⟨q58a, q58b⟩ := q58; subst r56; subst M57
      refine G_ps (pc' := 230) (st' := [vl (M (26 + 9 * e) (M (23 + 9 * e) i)), vi i, vr ((19 + 9 * e : Nat) : Int)]) rfl rfl ?_
      refine G_callV (K1 := KE) (d2 := 1) (o := (19 + 9 * e)) (cl := 1) (as := [vi i, vl (M (26 + 9 * e) (M (23 + 9 * e) i))]) (rest := []) d_Ev_workOut_230 mf_Ev_settle ml_Ev_115 (kd_Ev he) rfl (by show 19 + 9 * e < 87; omega) rfl rfl (Nat.le_of_ble_eq_true rfl) (by omega) ⟨Nat.le_refl _, Nat.le_refl _⟩ (g_Ev_settle (by omega) e i (M (26 + 9 * e) (M (23 + 9 * e) i)) _ he (by omega)) (fun r59 M60 kq61 q61 => ?_)
      clear kq61; obtain ⟨q61a, q61b⟩ := q61; subst r59; subst M60
      refine G_ps (pc' := 233) (st' := []) rfl rfl ?_
      refine G_goto (tgt := 302) d_Ev_workOut_233 (by decide) ?_
      refine G_vret d_Ev_workOut_302 rfl rfl ?_
      exact ⟨rfl, eff_s (by unfold stpR; repeat (first | (rw [if_pos (by omega)]; done) | (rw [if_neg (by omega)]; done) | (rw [if_pos (by omega)]) | (rw [if_neg (by omega)])))⟩
  by_cases h13 : M (21 + 9 * e) i = 150
  · skip
    have e62o : (#[78, 253, 253, 253, 145, 114, 88, 102, 126, 157, 253, 253, 168, 202, 211, 232] : Array Int)[((M (21 + 9 * e) i) - 137).toNat]? = some 202 := by rw [h13]; rfl
    refine G_tableIn (off := 202) (tgt := 236) d_Ev_workOut_34 (by omega) e62o (by decide) ?_
    have hv := hst.2.2.2.2.2.2.2.2.2.2.2.2.2 (by omega)
    refine G_aload (i := 0) (n := 2) (len := 1) (Or.inl ⟨0, rfl, rfl, d_Ev_workOut_236⟩) rfl (by omega) (G_pc (pc' := 237) rfl ?_)
    refine G_iload (i := 4) (n := 0) (len := 2) (Or.inr ⟨rfl, d_Ev_workOut_237⟩) rfl (G_pc (pc' := 239) rfl ?_)
    refine G_putL (o := (19 + 9 * e)) (c := 1) (k := 10) (ki := 10) (x := M (23 + 9 * e) i) d_Ev_workOut_239 fl_Ev_65 rfl (kd_Ev he) (by decide) (by show 19 + 9 * e < 87; omega) (by decide) rfl (gn_Ev he (by decide)) (tokI (by omega)) rfl (G_pc (pc' := 242) rfl ?_)
    refine G_goto (tgt := 302) d_Ev_workOut_242 (by decide) ?_
    refine G_vret d_Ev_workOut_302 rfl rfl ?_
    exact ⟨rfl, eff_j (by unfold stpR; repeat (first | (rw [if_pos (by omega)]; done) | (rw [if_neg (by omega)]; done) | (rw [if_pos (by omega)]) | (rw [if_neg (by omega)])))⟩
  by_cases h13 : M (21 + 9 * e) i = 151
  · skip
    have e63o : (#[78, 253, 253, 253, 145, 114, 88, 102, 126, 157, 253, 253, 168, 202, 211, 232] : Array Int)[((M (21 + 9 * e) i) - 137).toNat]? = some 211 := by rw [h13]; rfl
    refine G_tableIn (off := 211) (tgt := 245) d_Ev_workOut_34 (by omega) e63o (by decide) ?_
    have hv := hst.2.2.2.2.2.2.2.2.2.2.2.2.2 (by omega)
    refine G_aload (i := 0) (n := 2) (len := 1) (Or.inl ⟨0, rfl, rfl, d_Ev_workOut_245⟩) rfl (by omega) (G_pc (pc' := 246) rfl ?_)
    refine G_lload (i := 2) (n := 1) (len := 1) (Or.inl ⟨2, rfl, rfl, d_Ev_workOut_246⟩) rfl (G_pc (pc' := 247) rfl ?_)
    refine G_lconst0 d_Ev_workOut_247 (G_pc (pc' := 248) rfl ?_)
    refine G_lcmp_ne (tgt := 257) d_Ev_workOut_248 d_Ev_workOut_249 (by decide) (fun h64 => ?_) (fun h64 => G_pc (pc' := 252) rfl ?_)
    · skip
      refine G_iload (i := 1) (n := 3) (len := 1) (Or.inl ⟨1, rfl, rfl, d_Ev_workOut_257⟩) rfl (G_pc (pc' := 258) rfl ?_)
      refine G_iconst (n := 1) d_Ev_workOut_258 (by decide) (G_pc (pc' := 259) rfl ?_)
      refine G_iadd d_Ev_workOut_259 (by omega) (G_pc (pc' := 260) rfl ?_)
      refine G_putL (o := (19 + 9 * e)) (c := 1) (k := 10) (ki := 10) (x := i + 1) d_Ev_workOut_260 fl_Ev_65 rfl (kd_Ev he) (by decide) (by show 19 + 9 * e < 87; omega) (by decide) rfl (gn_Ev he (by decide)) (tokI (by omega)) rfl (G_pc (pc' := 263) rfl ?_)
      refine G_goto (tgt := 302) d_Ev_workOut_263 (by decide) ?_
      refine G_vret d_Ev_workOut_302 rfl rfl ?_
      exact ⟨rfl, eff_j (by unfold stpR; repeat (first | (rw [if_pos (by omega)]; done) | (rw [if_neg (by omega)]; done) | (rw [if_pos (by omega)]) | (rw [if_neg (by omega)])))⟩
    · skip
      refine G_iload (i := 4) (n := 0) (len := 2) (Or.inr ⟨rfl, d_Ev_workOut_252⟩) rfl (G_pc (pc' := 254) rfl ?_)
      refine G_goto (tgt := 260) d_Ev_workOut_254 (by decide) ?_
      refine G_putL (o := (19 + 9 * e)) (c := 1) (k := 10) (ki := 10) (x := M (23 + 9 * e) i) d_Ev_workOut_260 fl_Ev_65 rfl (kd_Ev he) (by decide) (by show 19 + 9 * e < 87; omega) (by decide) rfl (gn_Ev he (by decide)) (tokI (by omega)) rfl (G_pc (pc' := 263) rfl ?_)
      refine G_goto (tgt := 302) d_Ev_workOut_263 (by decide) ?_
      refine G_vret d_Ev_workOut_302 rfl rfl ?_
      exact ⟨rfl, eff_j (by unfold stpR; repeat (first | (rw [if_pos (by omega)]; done) | (rw [if_neg (by omega)]; done) | (rw [if_pos (by omega)]) | (rw [if_neg (by omega)])))⟩
  by_cases h13 : M (21 + 9 * e) i = 152
  · skip
    have e65o : (#[78, 253, 253, 253, 145, 114, 88, 102, 126, 157, 253, 253, 168, 202, 211, 232] : Array Int)[((M (21 + 9 * e) i) - 137).toNat]? = some 232 := by rw [h13]; rfl
    refine G_tableIn (off := 232) (tgt := 266) d_Ev_workOut_34 (by omega) e65o (by decide) ?_
    have hv := hst.2.2.2.2.2.2.2.2.2.2.2.2.2 (by omega)
    refine G_aload (i := 0) (n := 2) (len := 1) (Or.inl ⟨0, rfl, rfl, d_Ev_workOut_266⟩) rfl (by omega) (G_pc (pc' := 267) rfl ?_)
    refine G_lload (i := 2) (n := 1) (len := 1) (Or.inl ⟨2, rfl, rfl, d_Ev_workOut_267⟩) rfl (G_pc (pc' := 268) rfl ?_)
    refine G_lconst1 d_Ev_workOut_268 (G_pc (pc' := 269) rfl ?_)
    refine G_lcmp_ne (tgt := 278) d_Ev_workOut_269 d_Ev_workOut_270 (by decide) (fun h66 => ?_) (fun h66 => G_pc (pc' := 273) rfl ?_)
    · skip
      refine G_iload (i := 1) (n := 3) (len := 1) (Or.inl ⟨1, rfl, rfl, d_Ev_workOut_278⟩) rfl (G_pc (pc' := 279) rfl ?_)
      refine G_iconst (n := 1) d_Ev_workOut_279 (by decide) (G_pc (pc' := 280) rfl ?_)
      refine G_iadd d_Ev_workOut_280 (by omega) (G_pc (pc' := 281) rfl ?_)
      refine G_putL (o := (19 + 9 * e)) (c := 1) (k := 10) (ki := 10) (x := i + 1) d_Ev_workOut_281 fl_Ev_65 rfl (kd_Ev he) (by decide) (by show 19 + 9 * e < 87; omega) (by decide) rfl (gn_Ev he (by decide)) (tokI (by omega)) rfl (G_pc (pc' := 284) rfl ?_)
      refine G_goto (tgt := 302) d_Ev_workOut_284 (by decide) ?_
      refine G_vret d_Ev_workOut_302 rfl rfl ?_
      exact ⟨rfl, eff_j (by unfold stpR; repeat (first | (rw [if_pos (by omega)]; done) | (rw [if_neg (by omega)]; done) | (rw [if_pos (by omega)]) | (rw [if_neg (by omega)])))⟩
    · skip
      refine G_iload (i := 4) (n := 0) (len := 2) (Or.inr ⟨rfl, d_Ev_workOut_273⟩) rfl (G_pc (pc' := 275) rfl ?_)
      refine G_goto (tgt := 281) d_Ev_workOut_275 (by decide) ?_
      refine G_putL (o := (19 + 9 * e)) (c := 1) (k := 10) (ki := 10) (x := M (23 + 9 * e) i) d_Ev_workOut_281 fl_Ev_65 rfl (kd_Ev he) (by decide) (by show 19 + 9 * e < 87; omega) (by decide) rfl (gn_Ev he (by decide)) (tokI (by omega)) rfl (G_pc (pc' := 284) rfl ?_)
      refine G_goto (tgt := 302) d_Ev_workOut_284 (by decide) ?_
      refine G_vret d_Ev_workOut_302 rfl rfl ?_
      exact ⟨rfl, eff_j (by unfold stpR; repeat (first | (rw [if_pos (by omega)]; done) | (rw [if_neg (by omega)]; done) | (rw [if_pos (by omega)]) | (rw [if_neg (by omega)])))⟩
  refine (show ∀ P : Prop, (((M (21 + 9 * e) i) < 137 ∨ 152 < (M (21 + 9 * e) i)) → P) → ((M (21 + 9 * e) i = 138 ∨ M (21 + 9 * e) i = 139 ∨ M (21 + 9 * e) i = 140 ∨ M (21 + 9 * e) i = 147 ∨ M (21 + 9 * e) i = 148) → P) → P from fun P a b => (Classical.em ((M (21 + 9 * e) i) < 137 ∨ 152 < (M (21 + 9 * e) i))).elim a (fun hz => b (by omega))) _ (fun hz => ?_) (fun hz => ?_)
  · skip
    refine G_tableOut (tgt := 287) d_Ev_workOut_34 (by omega) (by decide) ?_
    have hs9 := hst.2.2.2.2.2.2.2.2.2.2.2.2.1 (by omega)
    refine G_aload (i := 0) (n := 2) (len := 1) (Or.inl ⟨0, rfl, rfl, d_Ev_workOut_287⟩) rfl (by omega) (G_pc (pc' := 288) rfl ?_)
    refine G_iload (i := 1) (n := 3) (len := 1) (Or.inl ⟨1, rfl, rfl, d_Ev_workOut_288⟩) rfl (G_pc (pc' := 289) rfl ?_)
    refine G_lload (i := 2) (n := 1) (len := 1) (Or.inl ⟨2, rfl, rfl, d_Ev_workOut_289⟩) rfl (G_pc (pc' := 290) rfl ?_)
    refine G_aload (i := 0) (n := 2) (len := 1) (Or.inl ⟨0, rfl, rfl, d_Ev_workOut_290⟩) rfl (by omega) (G_pc (pc' := 291) rfl ?_)
    refine G_get (o := (19 + 9 * e)) (c := 1) (k := 4) (v := ((20 + 9 * e : Nat) : Int)) d_Ev_workOut_291 fl_Ev_12 (kd_Ev he) (by decide) (by show 19 + 9 * e < 87; omega) (gf_Ev4 he) rfl (G_pc (pc' := 294) rfl ?_)
    refine G_iload (i := 4) (n := 0) (len := 2) (Or.inr ⟨rfl, d_Ev_workOut_294⟩) rfl (G_pc (pc' := 296) rfl ?_)
    refine G_callV (K1 := KE) (d2 := 0) (o := (20 + 9 * e)) (cl := 5) (as := [vi (M (23 + 9 * e) i)]) (rest := [vl (M (26 + 9 * e) (M (22 + 9 * e) i)), vi i, vr ((19 + 9 * e : Nat) : Int)]) d_Ev_workOut_296 mf_St_valueAt ml_Ev_52 (kd_St he) rfl (by show 20 + 9 * e < 87; omega) rfl rfl (Nat.le_of_ble_eq_true rfl) (by omega) ⟨Nat.le_refl _, Nat.le_refl _⟩ (g_St_valueAt (by omega) e (M (23 + 9 * e) i) _ he (by omega)) (fun r68 M69 kq70 q70 => ?_)
    clear kq70; obtain ⟨q70a, q70b⟩ := q70; subst r68; subst M69
    refine G_ps (pc' := 299) (st' := [vl (M (26 + 9 * e) (M (23 + 9 * e) i)), vl (M (26 + 9 * e) (M (22 + 9 * e) i)), vi i, vr ((19 + 9 * e : Nat) : Int)]) rfl rfl ?_
    refine G_callV (K1 := KE) (d2 := 2) (o := (19 + 9 * e)) (cl := 1) (as := [vi i, vl (M (26 + 9 * e) (M (22 + 9 * e) i)), vl (M (26 + 9 * e) (M (23 + 9 * e) i))]) (rest := []) d_Ev_workOut_299 mf_Ev_workOutSign ml_Ev_153 (kd_Ev he) rfl (by show 19 + 9 * e < 87; omega) rfl rfl (Nat.le_of_ble_eq_true rfl) (by omega) ⟨Nat.le_refl _, Nat.le_refl _⟩ (g_Ev_workOutSign (by omega) e i (M (26 + 9 * e) (M (22 + 9 * e) i)) (M (26 + 9 * e) (M (23 + 9 * e) i)) M he (by omega)) (fun r71 M72 kq73 q73 => ?_)
    clear kq73; obtain ⟨q73a, q73b⟩ := q73; subst r71; subst M72
    refine G_ps (pc' := 302) (st' := []) rfl rfl ?_
    refine G_vret d_Ev_workOut_302 rfl rfl ?_
    exact ⟨rfl, congrArg (effD M e i) (by unfold stpR; repeat (first | (rw [if_pos (by omega)]; done) | (rw [if_pos (by omega)]) | (rw [if_neg (by omega)])))⟩
  · skip
    have e67o : (#[78, 253, 253, 253, 145, 114, 88, 102, 126, 157, 253, 253, 168, 202, 211, 232] : Array Int)[((M (21 + 9 * e) i) - 137).toNat]? = some 253 := by rcases hz with hz | hz | hz | hz | hz <;> rw [hz] <;> rfl
    refine G_tableIn (off := 253) (tgt := 287) d_Ev_workOut_34 (by omega) e67o (by decide) ?_
    have hs9 := hst.2.2.2.2.2.2.2.2.2.2.2.2.1 (by omega)
    refine G_aload (i := 0) (n := 2) (len := 1) (Or.inl ⟨0, rfl, rfl, d_Ev_workOut_287⟩) rfl (by omega) (G_pc (pc' := 288) rfl ?_)
    refine G_iload (i := 1) (n := 3) (len := 1) (Or.inl ⟨1, rfl, rfl, d_Ev_workOut_288⟩) rfl (G_pc (pc' := 289) rfl ?_)
    refine G_lload (i := 2) (n := 1) (len := 1) (Or.inl ⟨2, rfl, rfl, d_Ev_workOut_289⟩) rfl (G_pc (pc' := 290) rfl ?_)
    refine G_aload (i := 0) (n := 2) (len := 1) (Or.inl ⟨0, rfl, rfl, d_Ev_workOut_290⟩) rfl (by omega) (G_pc (pc' := 291) rfl ?_)
    refine G_get (o := (19 + 9 * e)) (c := 1) (k := 4) (v := ((20 + 9 * e : Nat) : Int)) d_Ev_workOut_291 fl_Ev_12 (kd_Ev he) (by decide) (by show 19 + 9 * e < 87; omega) (gf_Ev4 he) rfl (G_pc (pc' := 294) rfl ?_)
    refine G_iload (i := 4) (n := 0) (len := 2) (Or.inr ⟨rfl, d_Ev_workOut_294⟩) rfl (G_pc (pc' := 296) rfl ?_)
    refine G_callV (K1 := KE) (d2 := 0) (o := (20 + 9 * e)) (cl := 5) (as := [vi (M (23 + 9 * e) i)]) (rest := [vl (M (26 + 9 * e) (M (22 + 9 * e) i)), vi i, vr ((19 + 9 * e : Nat) : Int)]) d_Ev_workOut_296 mf_St_valueAt ml_Ev_52 (kd_St he) rfl (by show 20 + 9 * e < 87; omega) rfl rfl (Nat.le_of_ble_eq_true rfl) (by omega) ⟨Nat.le_refl _, Nat.le_refl _⟩ (g_St_valueAt (by omega) e (M (23 + 9 * e) i) _ he (by omega)) (fun r74 M75 kq76 q76 => ?_)
    clear kq76; obtain ⟨q76a, q76b⟩ := q76; subst r74; subst M75
    refine G_ps (pc' := 299) (st' := [vl (M (26 + 9 * e) (M (23 + 9 * e) i)), vl (M (26 + 9 * e) (M (22 + 9 * e) i)), vi i, vr ((19 + 9 * e : Nat) : Int)]) rfl rfl ?_
    refine G_callV (K1 := KE) (d2 := 2) (o := (19 + 9 * e)) (cl := 1) (as := [vi i, vl (M (26 + 9 * e) (M (22 + 9 * e) i)), vl (M (26 + 9 * e) (M (23 + 9 * e) i))]) (rest := []) d_Ev_workOut_299 mf_Ev_workOutSign ml_Ev_153 (kd_Ev he) rfl (by show 19 + 9 * e < 87; omega) rfl rfl (Nat.le_of_ble_eq_true rfl) (by omega) ⟨Nat.le_refl _, Nat.le_refl _⟩ (g_Ev_workOutSign (by omega) e i (M (26 + 9 * e) (M (22 + 9 * e) i)) (M (26 + 9 * e) (M (23 + 9 * e) i)) M he (by omega)) (fun r77 M78 kq79 q79 => ?_)
    clear kq79; obtain ⟨q79a, q79b⟩ := q79; subst r77; subst M78
    refine G_ps (pc' := 302) (st' := []) rfl rfl ?_
    refine G_vret d_Ev_workOut_302 rfl rfl ?_
    exact ⟨rfl, congrArg (effD M e i) (by unfold stpR; repeat (first | (rw [if_pos (by omega)]; done) | (rw [if_pos (by omega)]) | (rw [if_neg (by omega)])))⟩

noncomputable def goD (e : Nat) : Nat → Mem → Mem
  | 0, W => W
  | n + 1, W => if W (19 + 9 * e) 7 = 2 ∧ W (19 + 9 * e) 10 < W (20 + 9 * e) 6 then goD e n (effD W e (W (19 + 9 * e) 10) (stpR W e (W (19 + 9 * e) 10))) else W
theorem goD_y {e n : Nat} {W : Mem} (h : W (19 + 9 * e) 7 = 2) (h2 : W (19 + 9 * e) 10 < W (20 + 9 * e) 6) : goD e (n + 1) W = goD e n (effD W e (W (19 + 9 * e) 10) (stpR W e (W (19 + 9 * e) 10))) := if_pos ⟨h, h2⟩
theorem goD_n {e n : Nat} {W : Mem} (h : ¬ (W (19 + 9 * e) 7 = 2 ∧ W (19 + 9 * e) 10 < W (20 + 9 * e) 6)) : goD e n W = W := by
  cases n with
  | zero => rfl
  | succ n => exact if_neg h
/-- an invariant of the steps -/
def goH (e : Nat) (J : Mem → Prop) : Prop := ∀ W, J W → W (19 + 9 * e) 7 = 2 → W (19 + 9 * e) 10 < W (20 + 9 * e) 6 → stpH W e (W (19 + 9 * e) 10) ∧ J (effD W e (W (19 + 9 * e) 10) (stpR W e (W (19 + 9 * e) 10)))
theorem d_Ev_goOn_0 : decode b_Ev_goOn 0 = .ok (.aload_n 0, 1) := by decide +kernel
theorem d_Ev_goOn_1 : decode b_Ev_goOn 1 = .ok (.iconst 2, 1) := by decide +kernel
theorem d_Ev_goOn_2 : decode b_Ev_goOn 2 = .ok (.putfield 22, 3) := by decide +kernel
theorem d_Ev_goOn_5 : decode b_Ev_goOn 5 = .ok (.iconst 0, 1) := by decide +kernel
theorem d_Ev_goOn_6 : decode b_Ev_goOn 6 = .ok (.istore_n 1, 1) := by decide +kernel
theorem d_Ev_goOn_7 : decode b_Ev_goOn 7 = .ok (.iload_n 1, 1) := by decide +kernel
theorem d_Ev_goOn_8 : decode b_Ev_goOn 8 = .ok (.bipush 48, 2) := by decide +kernel
theorem d_Ev_goOn_10 : decode b_Ev_goOn 10 = .ok (.if_icmp .ge 39, 3) := by decide +kernel
theorem d_Ev_goOn_13 : decode b_Ev_goOn 13 = .ok (.aload_n 0, 1) := by decide +kernel
theorem d_Ev_goOn_14 : decode b_Ev_goOn 14 = .ok (.getfield 22, 3) := by decide +kernel
theorem d_Ev_goOn_17 : decode b_Ev_goOn 17 = .ok (.iconst 2, 1) := by decide +kernel
theorem d_Ev_goOn_18 : decode b_Ev_goOn 18 = .ok (.if_icmp .ne 31, 3) := by decide +kernel
theorem d_Ev_goOn_21 : decode b_Ev_goOn 21 = .ok (.aload_n 0, 1) := by decide +kernel
theorem d_Ev_goOn_22 : decode b_Ev_goOn 22 = .ok (.getfield 65, 3) := by decide +kernel
theorem d_Ev_goOn_25 : decode b_Ev_goOn 25 = .ok (.aload_n 0, 1) := by decide +kernel
theorem d_Ev_goOn_26 : decode b_Ev_goOn 26 = .ok (.getfield 12, 3) := by decide +kernel
theorem d_Ev_goOn_29 : decode b_Ev_goOn 29 = .ok (.invokevirtual 48, 3) := by decide +kernel
theorem d_Ev_goOn_32 : decode b_Ev_goOn 32 = .ok (.if_icmp .ge 17, 3) := by decide +kernel
theorem d_Ev_goOn_35 : decode b_Ev_goOn 35 = .ok (.aload_n 0, 1) := by decide +kernel
theorem d_Ev_goOn_36 : decode b_Ev_goOn 36 = .ok (.aload_n 0, 1) := by decide +kernel
theorem d_Ev_goOn_37 : decode b_Ev_goOn 37 = .ok (.getfield 65, 3) := by decide +kernel
theorem d_Ev_goOn_40 : decode b_Ev_goOn 40 = .ok (.invokevirtual 87, 3) := by decide +kernel
theorem d_Ev_goOn_43 : decode b_Ev_goOn 43 = .ok (.iinc 1 1, 3) := by decide +kernel
theorem d_Ev_goOn_46 : decode b_Ev_goOn 46 = .ok (.goto (-39), 3) := by decide +kernel
theorem d_Ev_goOn_49 : decode b_Ev_goOn 49 = .ok (.return_, 1) := by decide +kernel
theorem g_Ev_goOn {X : WX} {d : Nat} (hd : 5 ≤ d) (e : Nat) (J : Mem → Prop) (M : Mem) (he : e < 4) (hJ : goH e J) (hJ0 : J (mset M (19 + 9 * e) 7 2)) : MG X gt d KE KE y_Ev_goOn b_Ev_goOn 2 none [vr ((19 + 9 * e : Nat) : Int)] M (fun r M' => r = none ∧ M' = goD e 48 (mset M (19 + 9 * e) 7 2)) := by
  refine MG_of_G (by decide) (Nat.le_of_ble_eq_true rfl) (Nat.le_refl _) (by decide) ?_
  show G X gt d KE KE y_Ev_goOn b_Ev_goOn 2 none _ 0 [(0, vr ((19 + 9 * e : Nat) : Int))] [] KE M
  have loop : ∀ (n : Nat) (k : Int) (W : Mem), k + n = 48 → 0 ≤ k → J W → goD e n W = goD e 48 (mset M (19 + 9 * e) 7 2) → G X gt d KE KE y_Ev_goOn b_Ev_goOn 2 none (fun r M' => r = none ∧ M' = goD e 48 (mset M (19 + 9 * e) 7 2)) 7 [(1, vi k), (0, vr ((19 + 9 * e : Nat) : Int))] [] KE W := by
    intro n
    induction n with
    | zero =>
      intro k W h1 h2 hW hF
      refine G_iload (i := 1) (n := 0) (len := 1) (Or.inl ⟨1, rfl, rfl, d_Ev_goOn_7⟩) rfl (G_pc (pc' := 8) rfl ?_)
      refine G_bipush (n := 48) d_Ev_goOn_8 (by decide) (G_pc (pc' := 10) rfl ?_)
      refine G_icmp_ge (tgt := 49) d_Ev_goOn_10 (by decide) (fun h2101 => ?_) (fun h2101 => absurd h2101 (by omega))
      refine G_vret d_Ev_goOn_49 rfl rfl ?_
      first | exact ⟨rfl, hF⟩ | exact ⟨rfl, (goD_n (by omega)).symm.trans hF⟩
    | succ n ih =>
      intro k W h1 h2 hW hF
      refine G_iload (i := 1) (n := 0) (len := 1) (Or.inl ⟨1, rfl, rfl, d_Ev_goOn_7⟩) rfl (G_pc (pc' := 8) rfl ?_)
      refine G_bipush (n := 48) d_Ev_goOn_8 (by decide) (G_pc (pc' := 10) rfl ?_)
      refine G_icmp_ge (tgt := 49) d_Ev_goOn_10 (by decide) (fun h2201 => absurd h2201 (by omega)) (fun h2201 => G_pc (pc' := 13) rfl ?_)
      refine G_aload (i := 0) (n := 1) (len := 1) (Or.inl ⟨0, rfl, rfl, d_Ev_goOn_13⟩) rfl (by omega) (G_pc (pc' := 14) rfl ?_)
      refine G_get (o := (19 + 9 * e)) (c := 1) (k := 7) (v := W (19 + 9 * e) 7) d_Ev_goOn_14 fl_Ev_22 (kd_Ev he) (by decide) (by show 19 + 9 * e < 87; omega) (rdw (gn_Ev he (by decide)) (by first | rfl | (repeat (first | rfl | exact mset_eq (by omega) | refine (mset_ne (by omega)).trans ?_ | refine (mset_ni (by omega)).trans ?_)))) rfl (G_pc (pc' := 17) rfl ?_)
      refine G_iconst (n := 2) d_Ev_goOn_17 (by decide) (G_pc (pc' := 18) rfl ?_)
      refine G_icmp_ne (tgt := 49) d_Ev_goOn_18 (by decide) (fun h2202 => ?_) (fun h2202 => G_pc (pc' := 21) rfl ?_)
      · skip
        refine G_vret d_Ev_goOn_49 rfl rfl ?_
        first | exact ⟨rfl, hF⟩ | exact ⟨rfl, (goD_n (by omega)).symm.trans hF⟩
      · skip
        refine G_aload (i := 0) (n := 1) (len := 1) (Or.inl ⟨0, rfl, rfl, d_Ev_goOn_21⟩) rfl (by omega) (G_pc (pc' := 22) rfl ?_)
        refine G_get (o := (19 + 9 * e)) (c := 1) (k := 10) (v := W (19 + 9 * e) 10) d_Ev_goOn_22 fl_Ev_65 (kd_Ev he) (by decide) (by show 19 + 9 * e < 87; omega) (rdw (gn_Ev he (by decide)) (by first | rfl | (repeat (first | rfl | exact mset_eq (by omega) | refine (mset_ne (by omega)).trans ?_ | refine (mset_ni (by omega)).trans ?_)))) rfl (G_pc (pc' := 25) rfl ?_)
        refine G_aload (i := 0) (n := 1) (len := 1) (Or.inl ⟨0, rfl, rfl, d_Ev_goOn_25⟩) rfl (by omega) (G_pc (pc' := 26) rfl ?_)
        refine G_get (o := (19 + 9 * e)) (c := 1) (k := 4) (v := ((20 + 9 * e : Nat) : Int)) d_Ev_goOn_26 fl_Ev_12 (kd_Ev he) (by decide) (by show 19 + 9 * e < 87; omega) (gf_Ev4 he) rfl (G_pc (pc' := 29) rfl ?_)
        refine G_callV (K1 := KE) (d2 := 0) (o := (20 + 9 * e)) (cl := 5) (as := []) (rest := [vi (W (19 + 9 * e) 10)]) d_Ev_goOn_29 mf_St_size ml_Ev_48 (kd_St he) rfl (by show 20 + 9 * e < 87; omega) rfl rfl (Nat.le_of_ble_eq_true rfl) (by omega) ⟨Nat.le_refl _, Nat.le_refl _⟩ (g_St_size (by omega) e  _ he) (fun r2203 M2204 kq2205 q2205 => ?_)
        clear kq2205; obtain ⟨q2205a, q2205b⟩ := q2205; subst r2203; subst M2204
        refine G_ps (pc' := 32) (st' := [vi (W (20 + 9 * e) 6), vi (W (19 + 9 * e) 10)]) rfl rfl ?_
        refine G_icmp_ge (tgt := 49) d_Ev_goOn_32 (by decide) (fun h2206 => ?_) (fun h2206 => G_pc (pc' := 35) rfl ?_)
        · skip
          refine G_vret d_Ev_goOn_49 rfl rfl ?_
          first | exact ⟨rfl, hF⟩ | exact ⟨rfl, (goD_n (by omega)).symm.trans hF⟩
        · skip
          refine G_aload (i := 0) (n := 1) (len := 1) (Or.inl ⟨0, rfl, rfl, d_Ev_goOn_35⟩) rfl (by omega) (G_pc (pc' := 36) rfl ?_)
          refine G_aload (i := 0) (n := 1) (len := 1) (Or.inl ⟨0, rfl, rfl, d_Ev_goOn_36⟩) rfl (by omega) (G_pc (pc' := 37) rfl ?_)
          refine G_get (o := (19 + 9 * e)) (c := 1) (k := 10) (v := W (19 + 9 * e) 10) d_Ev_goOn_37 fl_Ev_65 (kd_Ev he) (by decide) (by show 19 + 9 * e < 87; omega) (rdw (gn_Ev he (by decide)) (by first | rfl | (repeat (first | rfl | exact mset_eq (by omega) | refine (mset_ne (by omega)).trans ?_ | refine (mset_ni (by omega)).trans ?_)))) rfl (G_pc (pc' := 40) rfl ?_)
          refine G_callV (K1 := KE) (d2 := 4) (o := (19 + 9 * e)) (cl := 1) (as := [vi (W (19 + 9 * e) 10)]) (rest := []) d_Ev_goOn_40 mf_Ev_workOut ml_Ev_87 (kd_Ev he) rfl (by show 19 + 9 * e < 87; omega) rfl rfl (Nat.le_of_ble_eq_true rfl) (by omega) ⟨Nat.le_refl _, Nat.le_refl _⟩ (g_Ev_workOut (by omega) e (W (19 + 9 * e) 10) W he (hJ W hW (by omega) (by omega)).1) (fun r2207 M2208 kq2209 q2209 => ?_)
          clear kq2209; obtain ⟨q2209a, q2209b⟩ := q2209; subst r2207; subst M2208
          refine G_ps (pc' := 43) (st' := []) rfl rfl ?_
          refine G_iinc (i := 1) (n := 0) (z := 1) (ls' := [(1, vi (k + 1)), (0, vr ((19 + 9 * e : Nat) : Int))]) d_Ev_goOn_43 rfl (by decide) (by omega) rfl (G_pc (pc' := 46) rfl ?_)
          refine G_goto (tgt := 7) d_Ev_goOn_46 (by decide) ?_
          exact ih (k + 1) _ (by omega) (by omega) (hJ W hW (by omega) (by omega)).2 ((goD_y (by omega) (by omega)).symm.trans hF)
  refine G_aload (i := 0) (n := 0) (len := 1) (Or.inl ⟨0, rfl, rfl, d_Ev_goOn_0⟩) rfl (by omega) (G_pc (pc' := 1) rfl ?_)
  refine G_iconst (n := 2) d_Ev_goOn_1 (by decide) (G_pc (pc' := 2) rfl ?_)
  refine G_putL (o := (19 + 9 * e)) (c := 1) (k := 7) (ki := 7) (x := 2) d_Ev_goOn_2 fl_Ev_22 rfl (kd_Ev he) (by decide) (by show 19 + 9 * e < 87; omega) (by decide) rfl (gn_Ev he (by decide)) (tokI (by decide)) rfl (G_pc (pc' := 5) rfl ?_)
  refine G_iconst (n := 0) d_Ev_goOn_5 (by decide) (G_pc (pc' := 6) rfl ?_)
  refine G_istore (i := 1) (len := 1) (ls' := [(1, vi 0), (0, vr ((19 + 9 * e : Nat) : Int))]) (Or.inl ⟨1, rfl, rfl, d_Ev_goOn_6⟩) (by decide) rfl (G_pc (pc' := 7) rfl ?_)
  exact loop 48 0 _ (by omega) (by omega) hJ0 rfl

