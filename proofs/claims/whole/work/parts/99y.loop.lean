/-! THE LAW'S LOOP -/
abbrev yL (nm : String) : MethodName := ⟨R_La, nm, "([I)Z"⟩
/-- the script, before our world: by the number 3002 -/
def Scr (X : WX) (L : Nat) (xs : Nat → Int32) (s : State) : Prop := va_X (X.1 3002) L xs s s.heap ∧ X.1 3002 < s.heap.size ∧ ¬ own X (X.1 3002) ∧ L ≤ 320
def sc (xs : Nat → Int32) (k : Int) : Int := (xs k.toNat).toInt
theorem pcs_r (r : Option PV) : pcs (r.toList ++ []) ≤ 8 := by
  rcases r with _ | x | x | x <;> exact Nat.le_of_ble_eq_true rfl
section LR
variable {L : Nat} {xs : Nat → Int32} {X : WX} {g : SG} {d k0 kE : Nat} {y : MethodName} {cc : ByteArray} {nL : Nat} {ret : Option FieldType} {pc : Nat} {ls : List (Nat × PV)} {st : List PV} {K : Nat} {M : Mem} {Sc : State → Prop}
theorem L_sload {i : Int} (hd : decode cc pc = .ok (.iaload, 1)) (hi : 0 ≤ i ∧ i < (L : Int)) (kk : GL (Scr X L xs) X g d k0 kE y cc nL ret (pc + 1) ls (vi (sc xs i) :: st) K M) : GL (Scr X L xs) X g d k0 kE y cc nL ret pc ls (vi i :: vr 3002 :: st) K M := by
  intro p l e R s m args below meth c H locs arr cells slots Tg hSc C hH hS hl hlv hsv hc hs hK hend
  obtain ⟨s1, s2, s3, s4⟩ := id hSc
  obtain ⟨e1, e2⟩ := ix_in hi (vhd hsv)
  have hW := kk p l e R s m args below meth c H locs arr cells slots Tg hSc C hH hS hl hlv (vcons (v := vi (sc xs i)) (i32_rng _) (vtl (vtl hsv))) hc hs hK hend
  have e3 : conc X.1 (vi (sc xs i)) = .int (xs (Int32.ofInt i).toNatClampNeg) := by
    rw [e1]
    show Value.int (Int32.ofInt (xs i.toNat).toInt) = _
    rw [Int32.ofInt_toInt]
  rw [List.map_cons, e3] at hW
  exact va_sld C.1 C.2.1 s1 s2 s3 hS e2 hd hW
theorem L_slen (hd : decode cc pc = .ok (.arraylength, 1)) (kk : GL (Scr X L xs) X g d k0 kE y cc nL ret (pc + 1) ls (vi (L : Int) :: st) K M) : GL (Scr X L xs) X g d k0 kE y cc nL ret pc ls (vr 3002 :: st) K M := by
  intro p l e R s m args below meth c H locs arr cells slots Tg hSc C hH hS hl hlv hsv hc hs hK hend
  obtain ⟨s1, s2, s3, s4⟩ := id hSc
  have hW := kk p l e R s m args below meth c H locs arr cells slots Tg hSc C hH hS hl hlv (vcons (v := vi (L : Int)) (show -2147483648 ≤ (L : Int) ∧ (L : Int) < 2147483648 by omega) (vtl hsv)) hc hs hK hend
  have e3 : conc X.1 (vi (L : Int)) = .int (Int32.ofNat L) := congrArg Value.int Int32.ofInt_eq_ofNat
  rw [List.map_cons, e3] at hW
  exact va_slen C.1 C.2.1 s1 s2 s3 hS hd hW
theorem L_iret1 (hd : decode cc pc = .ok (.ireturn, 1)) (hK : K = kE) : GL Sc X g d k0 kE y cc nL ret pc ls [vi 1] K M := by
  subst hK
  intro p l e R s m args below meth c H locs arr cells slots Tg hSc C hH hS hl hlv hsv hc hs hK hend
  have e1 : cells = K - k0 := by omega
  have e2 : slots = csz K - csz k0 := by omega
  subst e1; subst e2
  exact hend H locs arr pc hS hd
theorem L_gt0 (k : GL Sc X gt d k0 kE y cc nL ret pc ls st KE FM) : GL Sc X g0 d k0 kE y cc nL ret pc ls st KE FM := by
  intro p l e R s m args below meth c H locs arr cells slots Tg hSc C hH hS hl hlv hsv hc hs hK hend
  exact k p l e R s m args below meth c H locs arr cells slots Tg hSc C (HP_gt hH) hS hl hlv hsv hc hs hK hend
theorem L_same {off : Int} {tgt : Nat} {r r' : Option PV} (hd : decode cc pc = .ok (.if_icmp .eq off, 3)) (ht : (pc : Int) + off = (tgt : Int)) (h : r = r') (hs : ∃ x, r' = some (vi x)) (k : GL Sc X g d k0 kE y cc nL ret tgt ls [] K M) : GL Sc X g d k0 kE y cc nL ret pc ls (r'.toList ++ (r.toList ++ [])) K M := by
  subst h
  obtain ⟨x, rfl⟩ := hs
  exact L_icmp_eq hd ht (fun _ => k) (fun h => absurd rfl h)
theorem L_samel {off : Int} {tgt : Nat} {r r' : Option PV} (hd0 : decode cc pc = .ok (.lcmp, 1)) (hd : decode cc (pc + 1) = .ok (.ifCond .eq off, 3)) (ht : ((pc + 1 : Nat) : Int) + off = (tgt : Int)) (h : r = r') (hs : ∃ x, r' = some (vl x)) (k : GL Sc X g d k0 kE y cc nL ret tgt ls [] K M) : GL Sc X g d k0 kE y cc nL ret pc ls (r'.toList ++ (r.toList ++ [])) K M := by
  subst h
  obtain ⟨x, rfl⟩ := hs
  exact L_lcmp_eq hd0 hd ht (fun _ => k) (fun h => absurd rfl h)
end LR
theorem d_law_18 : decode code 18 = .ok (.iload_n 3, 1) := by decide +kernel
theorem d_law_19 : decode code 19 = .ok (.aload_n 0, 1) := by decide +kernel
theorem d_law_20 : decode code 20 = .ok (.arraylength, 1) := by decide +kernel
theorem d_law_21 : decode code 21 = .ok (.iconst 5, 1) := by decide +kernel
theorem d_law_22 : decode code 22 = .ok (.isub, 1) := by decide +kernel
theorem d_law_23 : decode code 23 = .ok (.if_icmp .gt 675, 3) := by decide +kernel
theorem d_law_26 : decode code 26 = .ok (.aload_n 0, 1) := by decide +kernel
theorem d_law_27 : decode code 27 = .ok (.iload_n 3, 1) := by decide +kernel
theorem d_law_28 : decode code 28 = .ok (.iaload, 1) := by decide +kernel
theorem d_law_29 : decode code 29 = .ok (.bipush 31, 2) := by decide +kernel
theorem d_law_31 : decode code 31 = .ok (.iand, 1) := by decide +kernel
theorem d_law_32 : decode code 32 = .ok (.tableswitch 660 0 16 #[84, 107, 150, 183, 216, 279, 352, 391, 430, 455, 478, 501, 534, 557, 580, 613, 637], 84) := by decide +kernel
theorem d_law_116 : decode code 116 = .ok (.aload_n 1, 1) := by decide +kernel
theorem d_law_117 : decode code 117 = .ok (.aload_n 0, 1) := by decide +kernel
theorem d_law_118 : decode code 118 = .ok (.iload_n 3, 1) := by decide +kernel
theorem d_law_119 : decode code 119 = .ok (.iconst 1, 1) := by decide +kernel
theorem d_law_120 : decode code 120 = .ok (.iadd, 1) := by decide +kernel
theorem d_law_121 : decode code 121 = .ok (.iaload, 1) := by decide +kernel
theorem d_law_122 : decode code 122 = .ok (.invokevirtual 13, 3) := by decide +kernel
theorem d_law_125 : decode code 125 = .ok (.aload_n 2, 1) := by decide +kernel
theorem d_law_126 : decode code 126 = .ok (.aload_n 0, 1) := by decide +kernel
theorem d_law_127 : decode code 127 = .ok (.iload_n 3, 1) := by decide +kernel
theorem d_law_128 : decode code 128 = .ok (.iconst 1, 1) := by decide +kernel
theorem d_law_129 : decode code 129 = .ok (.iadd, 1) := by decide +kernel
theorem d_law_130 : decode code 130 = .ok (.iaload, 1) := by decide +kernel
theorem d_law_131 : decode code 131 = .ok (.invokevirtual 17, 3) := by decide +kernel
theorem d_law_134 : decode code 134 = .ok (.if_icmp .eq 558, 3) := by decide +kernel
theorem d_law_139 : decode code 139 = .ok (.aload_n 1, 1) := by decide +kernel
theorem d_law_140 : decode code 140 = .ok (.aload_n 0, 1) := by decide +kernel
theorem d_law_141 : decode code 141 = .ok (.iload_n 3, 1) := by decide +kernel
theorem d_law_142 : decode code 142 = .ok (.iconst 1, 1) := by decide +kernel
theorem d_law_143 : decode code 143 = .ok (.iadd, 1) := by decide +kernel
theorem d_law_144 : decode code 144 = .ok (.iaload, 1) := by decide +kernel
theorem d_law_145 : decode code 145 = .ok (.aload_n 0, 1) := by decide +kernel
theorem d_law_146 : decode code 146 = .ok (.iload_n 3, 1) := by decide +kernel
theorem d_law_147 : decode code 147 = .ok (.iconst 2, 1) := by decide +kernel
theorem d_law_148 : decode code 148 = .ok (.iadd, 1) := by decide +kernel
theorem d_law_149 : decode code 149 = .ok (.iaload, 1) := by decide +kernel
theorem d_law_150 : decode code 150 = .ok (.aload_n 0, 1) := by decide +kernel
theorem d_law_151 : decode code 151 = .ok (.iload_n 3, 1) := by decide +kernel
theorem d_law_152 : decode code 152 = .ok (.iconst 3, 1) := by decide +kernel
theorem d_law_153 : decode code 153 = .ok (.iadd, 1) := by decide +kernel
theorem d_law_154 : decode code 154 = .ok (.iaload, 1) := by decide +kernel
theorem d_law_155 : decode code 155 = .ok (.invokevirtual 18, 3) := by decide +kernel
theorem d_law_158 : decode code 158 = .ok (.aload_n 2, 1) := by decide +kernel
theorem d_law_159 : decode code 159 = .ok (.aload_n 0, 1) := by decide +kernel
theorem d_law_160 : decode code 160 = .ok (.iload_n 3, 1) := by decide +kernel
theorem d_law_161 : decode code 161 = .ok (.iconst 1, 1) := by decide +kernel
theorem d_law_162 : decode code 162 = .ok (.iadd, 1) := by decide +kernel
theorem d_law_163 : decode code 163 = .ok (.iaload, 1) := by decide +kernel
theorem d_law_164 : decode code 164 = .ok (.aload_n 0, 1) := by decide +kernel
theorem d_law_165 : decode code 165 = .ok (.iload_n 3, 1) := by decide +kernel
theorem d_law_166 : decode code 166 = .ok (.iconst 2, 1) := by decide +kernel
theorem d_law_167 : decode code 167 = .ok (.iadd, 1) := by decide +kernel
theorem d_law_168 : decode code 168 = .ok (.iaload, 1) := by decide +kernel
theorem d_law_169 : decode code 169 = .ok (.aload_n 0, 1) := by decide +kernel
theorem d_law_170 : decode code 170 = .ok (.iload_n 3, 1) := by decide +kernel
theorem d_law_171 : decode code 171 = .ok (.iconst 3, 1) := by decide +kernel
theorem d_law_172 : decode code 172 = .ok (.iadd, 1) := by decide +kernel
theorem d_law_173 : decode code 173 = .ok (.iaload, 1) := by decide +kernel
theorem d_law_174 : decode code 174 = .ok (.invokevirtual 22, 3) := by decide +kernel
theorem d_law_177 : decode code 177 = .ok (.if_icmp .eq 515, 3) := by decide +kernel
theorem d_law_182 : decode code 182 = .ok (.aload_n 1, 1) := by decide +kernel
theorem d_law_183 : decode code 183 = .ok (.aload_n 0, 1) := by decide +kernel
theorem d_law_184 : decode code 184 = .ok (.iload_n 3, 1) := by decide +kernel
theorem d_law_185 : decode code 185 = .ok (.iconst 1, 1) := by decide +kernel
theorem d_law_186 : decode code 186 = .ok (.iadd, 1) := by decide +kernel
theorem d_law_187 : decode code 187 = .ok (.iaload, 1) := by decide +kernel
theorem d_law_188 : decode code 188 = .ok (.aload_n 0, 1) := by decide +kernel
theorem d_law_189 : decode code 189 = .ok (.iload_n 3, 1) := by decide +kernel
theorem d_law_190 : decode code 190 = .ok (.iconst 2, 1) := by decide +kernel
theorem d_law_191 : decode code 191 = .ok (.iadd, 1) := by decide +kernel
theorem d_law_192 : decode code 192 = .ok (.iaload, 1) := by decide +kernel
theorem d_law_193 : decode code 193 = .ok (.invokevirtual 23, 3) := by decide +kernel
theorem d_law_196 : decode code 196 = .ok (.aload_n 2, 1) := by decide +kernel
theorem d_law_197 : decode code 197 = .ok (.aload_n 0, 1) := by decide +kernel
theorem d_law_198 : decode code 198 = .ok (.iload_n 3, 1) := by decide +kernel
theorem d_law_199 : decode code 199 = .ok (.iconst 1, 1) := by decide +kernel
theorem d_law_200 : decode code 200 = .ok (.iadd, 1) := by decide +kernel
theorem d_law_201 : decode code 201 = .ok (.iaload, 1) := by decide +kernel
theorem d_law_202 : decode code 202 = .ok (.aload_n 0, 1) := by decide +kernel
theorem d_law_203 : decode code 203 = .ok (.iload_n 3, 1) := by decide +kernel
theorem d_law_204 : decode code 204 = .ok (.iconst 2, 1) := by decide +kernel
theorem d_law_205 : decode code 205 = .ok (.iadd, 1) := by decide +kernel
theorem d_law_206 : decode code 206 = .ok (.iaload, 1) := by decide +kernel
theorem d_law_207 : decode code 207 = .ok (.invokevirtual 27, 3) := by decide +kernel
theorem d_law_210 : decode code 210 = .ok (.if_icmp .eq 482, 3) := by decide +kernel
theorem d_law_215 : decode code 215 = .ok (.aload_n 1, 1) := by decide +kernel
theorem d_law_216 : decode code 216 = .ok (.aload_n 0, 1) := by decide +kernel
theorem d_law_217 : decode code 217 = .ok (.iload_n 3, 1) := by decide +kernel
theorem d_law_218 : decode code 218 = .ok (.iconst 1, 1) := by decide +kernel
theorem d_law_219 : decode code 219 = .ok (.iadd, 1) := by decide +kernel
theorem d_law_220 : decode code 220 = .ok (.iaload, 1) := by decide +kernel
theorem d_law_221 : decode code 221 = .ok (.aload_n 0, 1) := by decide +kernel
theorem d_law_222 : decode code 222 = .ok (.iload_n 3, 1) := by decide +kernel
theorem d_law_223 : decode code 223 = .ok (.iconst 2, 1) := by decide +kernel
theorem d_law_224 : decode code 224 = .ok (.iadd, 1) := by decide +kernel
theorem d_law_225 : decode code 225 = .ok (.iaload, 1) := by decide +kernel
theorem d_law_226 : decode code 226 = .ok (.invokevirtual 28, 3) := by decide +kernel
theorem d_law_229 : decode code 229 = .ok (.aload_n 2, 1) := by decide +kernel
theorem d_law_230 : decode code 230 = .ok (.aload_n 0, 1) := by decide +kernel
theorem d_law_231 : decode code 231 = .ok (.iload_n 3, 1) := by decide +kernel
theorem d_law_232 : decode code 232 = .ok (.iconst 1, 1) := by decide +kernel
theorem d_law_233 : decode code 233 = .ok (.iadd, 1) := by decide +kernel
theorem d_law_234 : decode code 234 = .ok (.iaload, 1) := by decide +kernel
theorem d_law_235 : decode code 235 = .ok (.aload_n 0, 1) := by decide +kernel
theorem d_law_236 : decode code 236 = .ok (.iload_n 3, 1) := by decide +kernel
theorem d_law_237 : decode code 237 = .ok (.iconst 2, 1) := by decide +kernel
theorem d_law_238 : decode code 238 = .ok (.iadd, 1) := by decide +kernel
theorem d_law_239 : decode code 239 = .ok (.iaload, 1) := by decide +kernel
theorem d_law_240 : decode code 240 = .ok (.invokevirtual 32, 3) := by decide +kernel
theorem d_law_243 : decode code 243 = .ok (.if_icmp .eq 449, 3) := by decide +kernel
theorem d_law_248 : decode code 248 = .ok (.aload_n 1, 1) := by decide +kernel
theorem d_law_249 : decode code 249 = .ok (.aload_n 0, 1) := by decide +kernel
theorem d_law_250 : decode code 250 = .ok (.iload_n 3, 1) := by decide +kernel
theorem d_law_251 : decode code 251 = .ok (.iconst 1, 1) := by decide +kernel
theorem d_law_252 : decode code 252 = .ok (.iadd, 1) := by decide +kernel
theorem d_law_253 : decode code 253 = .ok (.iaload, 1) := by decide +kernel
theorem d_law_254 : decode code 254 = .ok (.aload_n 0, 1) := by decide +kernel
theorem d_law_255 : decode code 255 = .ok (.iload_n 3, 1) := by decide +kernel
theorem d_law_256 : decode code 256 = .ok (.iconst 2, 1) := by decide +kernel
theorem d_law_257 : decode code 257 = .ok (.iadd, 1) := by decide +kernel
theorem d_law_258 : decode code 258 = .ok (.iaload, 1) := by decide +kernel
theorem d_law_259 : decode code 259 = .ok (.i2l, 1) := by decide +kernel
theorem d_law_260 : decode code 260 = .ok (.bipush 32, 2) := by decide +kernel
theorem d_law_262 : decode code 262 = .ok (.lshl, 1) := by decide +kernel
theorem d_law_263 : decode code 263 = .ok (.aload_n 0, 1) := by decide +kernel
theorem d_law_264 : decode code 264 = .ok (.iload_n 3, 1) := by decide +kernel
theorem d_law_265 : decode code 265 = .ok (.iconst 3, 1) := by decide +kernel
theorem d_law_266 : decode code 266 = .ok (.iadd, 1) := by decide +kernel
theorem d_law_267 : decode code 267 = .ok (.iaload, 1) := by decide +kernel
theorem d_law_268 : decode code 268 = .ok (.i2l, 1) := by decide +kernel
theorem d_law_269 : decode code 269 = .ok (.ldc2_w 33, 3) := by decide +kernel
theorem d_law_272 : decode code 272 = .ok (.land, 1) := by decide +kernel
theorem d_law_273 : decode code 273 = .ok (.lor, 1) := by decide +kernel
theorem d_law_274 : decode code 274 = .ok (.invokevirtual 35, 3) := by decide +kernel
theorem d_law_277 : decode code 277 = .ok (.aload_n 2, 1) := by decide +kernel
theorem d_law_278 : decode code 278 = .ok (.aload_n 0, 1) := by decide +kernel
theorem d_law_279 : decode code 279 = .ok (.iload_n 3, 1) := by decide +kernel
theorem d_law_280 : decode code 280 = .ok (.iconst 1, 1) := by decide +kernel
theorem d_law_281 : decode code 281 = .ok (.iadd, 1) := by decide +kernel
theorem d_law_282 : decode code 282 = .ok (.iaload, 1) := by decide +kernel
theorem d_law_283 : decode code 283 = .ok (.aload_n 0, 1) := by decide +kernel
theorem d_law_284 : decode code 284 = .ok (.iload_n 3, 1) := by decide +kernel
theorem d_law_285 : decode code 285 = .ok (.iconst 2, 1) := by decide +kernel
theorem d_law_286 : decode code 286 = .ok (.iadd, 1) := by decide +kernel
theorem d_law_287 : decode code 287 = .ok (.iaload, 1) := by decide +kernel
theorem d_law_288 : decode code 288 = .ok (.i2l, 1) := by decide +kernel
theorem d_law_289 : decode code 289 = .ok (.bipush 32, 2) := by decide +kernel
theorem d_law_291 : decode code 291 = .ok (.lshl, 1) := by decide +kernel
theorem d_law_292 : decode code 292 = .ok (.aload_n 0, 1) := by decide +kernel
theorem d_law_293 : decode code 293 = .ok (.iload_n 3, 1) := by decide +kernel
theorem d_law_294 : decode code 294 = .ok (.iconst 3, 1) := by decide +kernel
theorem d_law_295 : decode code 295 = .ok (.iadd, 1) := by decide +kernel
theorem d_law_296 : decode code 296 = .ok (.iaload, 1) := by decide +kernel
theorem d_law_297 : decode code 297 = .ok (.i2l, 1) := by decide +kernel
theorem d_law_298 : decode code 298 = .ok (.ldc2_w 33, 3) := by decide +kernel
theorem d_law_301 : decode code 301 = .ok (.land, 1) := by decide +kernel
theorem d_law_302 : decode code 302 = .ok (.lor, 1) := by decide +kernel
theorem d_law_303 : decode code 303 = .ok (.invokevirtual 39, 3) := by decide +kernel
theorem d_law_306 : decode code 306 = .ok (.if_icmp .eq 386, 3) := by decide +kernel
theorem d_law_311 : decode code 311 = .ok (.aload_n 1, 1) := by decide +kernel
theorem d_law_312 : decode code 312 = .ok (.aload_n 0, 1) := by decide +kernel
theorem d_law_313 : decode code 313 = .ok (.iload_n 3, 1) := by decide +kernel
theorem d_law_314 : decode code 314 = .ok (.iconst 1, 1) := by decide +kernel
theorem d_law_315 : decode code 315 = .ok (.iadd, 1) := by decide +kernel
theorem d_law_316 : decode code 316 = .ok (.iaload, 1) := by decide +kernel
theorem d_law_317 : decode code 317 = .ok (.aload_n 0, 1) := by decide +kernel
theorem d_law_318 : decode code 318 = .ok (.iload_n 3, 1) := by decide +kernel
theorem d_law_319 : decode code 319 = .ok (.iconst 2, 1) := by decide +kernel
theorem d_law_320 : decode code 320 = .ok (.iadd, 1) := by decide +kernel
theorem d_law_321 : decode code 321 = .ok (.iaload, 1) := by decide +kernel
theorem d_law_322 : decode code 322 = .ok (.aload_n 0, 1) := by decide +kernel
theorem d_law_323 : decode code 323 = .ok (.iload_n 3, 1) := by decide +kernel
theorem d_law_324 : decode code 324 = .ok (.iconst 3, 1) := by decide +kernel
theorem d_law_325 : decode code 325 = .ok (.iadd, 1) := by decide +kernel
theorem d_law_326 : decode code 326 = .ok (.iaload, 1) := by decide +kernel
theorem d_law_327 : decode code 327 = .ok (.i2l, 1) := by decide +kernel
theorem d_law_328 : decode code 328 = .ok (.bipush 32, 2) := by decide +kernel
theorem d_law_330 : decode code 330 = .ok (.lshl, 1) := by decide +kernel
theorem d_law_331 : decode code 331 = .ok (.aload_n 0, 1) := by decide +kernel
theorem d_law_332 : decode code 332 = .ok (.iload_n 3, 1) := by decide +kernel
theorem d_law_333 : decode code 333 = .ok (.iconst 4, 1) := by decide +kernel
theorem d_law_334 : decode code 334 = .ok (.iadd, 1) := by decide +kernel
theorem d_law_335 : decode code 335 = .ok (.iaload, 1) := by decide +kernel
theorem d_law_336 : decode code 336 = .ok (.i2l, 1) := by decide +kernel
theorem d_law_337 : decode code 337 = .ok (.ldc2_w 33, 3) := by decide +kernel
theorem d_law_340 : decode code 340 = .ok (.land, 1) := by decide +kernel
theorem d_law_341 : decode code 341 = .ok (.lor, 1) := by decide +kernel
theorem d_law_342 : decode code 342 = .ok (.invokevirtual 40, 3) := by decide +kernel
theorem d_law_345 : decode code 345 = .ok (.aload_n 2, 1) := by decide +kernel
theorem d_law_346 : decode code 346 = .ok (.aload_n 0, 1) := by decide +kernel
theorem d_law_347 : decode code 347 = .ok (.iload_n 3, 1) := by decide +kernel
theorem d_law_348 : decode code 348 = .ok (.iconst 1, 1) := by decide +kernel
theorem d_law_349 : decode code 349 = .ok (.iadd, 1) := by decide +kernel
theorem d_law_350 : decode code 350 = .ok (.iaload, 1) := by decide +kernel
theorem d_law_351 : decode code 351 = .ok (.aload_n 0, 1) := by decide +kernel
theorem d_law_352 : decode code 352 = .ok (.iload_n 3, 1) := by decide +kernel
theorem d_law_353 : decode code 353 = .ok (.iconst 2, 1) := by decide +kernel
theorem d_law_354 : decode code 354 = .ok (.iadd, 1) := by decide +kernel
theorem d_law_355 : decode code 355 = .ok (.iaload, 1) := by decide +kernel
theorem d_law_356 : decode code 356 = .ok (.aload_n 0, 1) := by decide +kernel
theorem d_law_357 : decode code 357 = .ok (.iload_n 3, 1) := by decide +kernel
theorem d_law_358 : decode code 358 = .ok (.iconst 3, 1) := by decide +kernel
theorem d_law_359 : decode code 359 = .ok (.iadd, 1) := by decide +kernel
theorem d_law_360 : decode code 360 = .ok (.iaload, 1) := by decide +kernel
theorem d_law_361 : decode code 361 = .ok (.i2l, 1) := by decide +kernel
theorem d_law_362 : decode code 362 = .ok (.bipush 32, 2) := by decide +kernel
theorem d_law_364 : decode code 364 = .ok (.lshl, 1) := by decide +kernel
theorem d_law_365 : decode code 365 = .ok (.aload_n 0, 1) := by decide +kernel
theorem d_law_366 : decode code 366 = .ok (.iload_n 3, 1) := by decide +kernel
theorem d_law_367 : decode code 367 = .ok (.iconst 4, 1) := by decide +kernel
theorem d_law_368 : decode code 368 = .ok (.iadd, 1) := by decide +kernel
theorem d_law_369 : decode code 369 = .ok (.iaload, 1) := by decide +kernel
theorem d_law_370 : decode code 370 = .ok (.i2l, 1) := by decide +kernel
theorem d_law_371 : decode code 371 = .ok (.ldc2_w 33, 3) := by decide +kernel
theorem d_law_374 : decode code 374 = .ok (.land, 1) := by decide +kernel
theorem d_law_375 : decode code 375 = .ok (.lor, 1) := by decide +kernel
theorem d_law_376 : decode code 376 = .ok (.invokevirtual 44, 3) := by decide +kernel
theorem d_law_379 : decode code 379 = .ok (.if_icmp .eq 313, 3) := by decide +kernel
theorem d_law_384 : decode code 384 = .ok (.aload_n 1, 1) := by decide +kernel
theorem d_law_385 : decode code 385 = .ok (.aload_n 0, 1) := by decide +kernel
theorem d_law_386 : decode code 386 = .ok (.iload_n 3, 1) := by decide +kernel
theorem d_law_387 : decode code 387 = .ok (.iconst 1, 1) := by decide +kernel
theorem d_law_388 : decode code 388 = .ok (.iadd, 1) := by decide +kernel
theorem d_law_389 : decode code 389 = .ok (.iaload, 1) := by decide +kernel
theorem d_law_390 : decode code 390 = .ok (.ifCond .eq 7, 3) := by decide +kernel
theorem d_law_393 : decode code 393 = .ok (.iconst 1, 1) := by decide +kernel
theorem d_law_394 : decode code 394 = .ok (.goto 4, 3) := by decide +kernel
theorem d_law_397 : decode code 397 = .ok (.iconst 0, 1) := by decide +kernel
theorem d_law_398 : decode code 398 = .ok (.invokevirtual 45, 3) := by decide +kernel
theorem d_law_401 : decode code 401 = .ok (.aload_n 2, 1) := by decide +kernel
theorem d_law_402 : decode code 402 = .ok (.aload_n 0, 1) := by decide +kernel
theorem d_law_403 : decode code 403 = .ok (.iload_n 3, 1) := by decide +kernel
theorem d_law_404 : decode code 404 = .ok (.iconst 1, 1) := by decide +kernel
theorem d_law_405 : decode code 405 = .ok (.iadd, 1) := by decide +kernel
theorem d_law_406 : decode code 406 = .ok (.iaload, 1) := by decide +kernel
theorem d_law_407 : decode code 407 = .ok (.ifCond .eq 7, 3) := by decide +kernel
theorem d_law_410 : decode code 410 = .ok (.iconst 1, 1) := by decide +kernel
theorem d_law_411 : decode code 411 = .ok (.goto 4, 3) := by decide +kernel
theorem d_law_414 : decode code 414 = .ok (.iconst 0, 1) := by decide +kernel
theorem d_law_415 : decode code 415 = .ok (.invokevirtual 49, 3) := by decide +kernel
theorem d_law_418 : decode code 418 = .ok (.if_icmp .eq 274, 3) := by decide +kernel
theorem d_law_423 : decode code 423 = .ok (.aload_n 1, 1) := by decide +kernel
theorem d_law_424 : decode code 424 = .ok (.aload_n 0, 1) := by decide +kernel
theorem d_law_425 : decode code 425 = .ok (.iload_n 3, 1) := by decide +kernel
theorem d_law_426 : decode code 426 = .ok (.iconst 1, 1) := by decide +kernel
theorem d_law_427 : decode code 427 = .ok (.iadd, 1) := by decide +kernel
theorem d_law_428 : decode code 428 = .ok (.iaload, 1) := by decide +kernel
theorem d_law_429 : decode code 429 = .ok (.ifCond .eq 7, 3) := by decide +kernel
theorem d_law_432 : decode code 432 = .ok (.iconst 1, 1) := by decide +kernel
theorem d_law_433 : decode code 433 = .ok (.goto 4, 3) := by decide +kernel
theorem d_law_436 : decode code 436 = .ok (.iconst 0, 1) := by decide +kernel
theorem d_law_437 : decode code 437 = .ok (.invokevirtual 50, 3) := by decide +kernel
theorem d_law_440 : decode code 440 = .ok (.aload_n 2, 1) := by decide +kernel
theorem d_law_441 : decode code 441 = .ok (.aload_n 0, 1) := by decide +kernel
theorem d_law_442 : decode code 442 = .ok (.iload_n 3, 1) := by decide +kernel
theorem d_law_443 : decode code 443 = .ok (.iconst 1, 1) := by decide +kernel
theorem d_law_444 : decode code 444 = .ok (.iadd, 1) := by decide +kernel
theorem d_law_445 : decode code 445 = .ok (.iaload, 1) := by decide +kernel
theorem d_law_446 : decode code 446 = .ok (.ifCond .eq 7, 3) := by decide +kernel
theorem d_law_449 : decode code 449 = .ok (.iconst 1, 1) := by decide +kernel
theorem d_law_450 : decode code 450 = .ok (.goto 4, 3) := by decide +kernel
theorem d_law_453 : decode code 453 = .ok (.iconst 0, 1) := by decide +kernel
theorem d_law_454 : decode code 454 = .ok (.invokevirtual 53, 3) := by decide +kernel
theorem d_law_457 : decode code 457 = .ok (.if_icmp .eq 235, 3) := by decide +kernel
theorem d_law_462 : decode code 462 = .ok (.aload_n 1, 1) := by decide +kernel
theorem d_law_463 : decode code 463 = .ok (.aload_n 0, 1) := by decide +kernel
theorem d_law_464 : decode code 464 = .ok (.iload_n 3, 1) := by decide +kernel
theorem d_law_465 : decode code 465 = .ok (.iconst 1, 1) := by decide +kernel
theorem d_law_466 : decode code 466 = .ok (.iadd, 1) := by decide +kernel
theorem d_law_467 : decode code 467 = .ok (.iaload, 1) := by decide +kernel
theorem d_law_468 : decode code 468 = .ok (.i2c, 1) := by decide +kernel
theorem d_law_469 : decode code 469 = .ok (.invokevirtual 54, 3) := by decide +kernel
theorem d_law_472 : decode code 472 = .ok (.aload_n 2, 1) := by decide +kernel
theorem d_law_473 : decode code 473 = .ok (.aload_n 0, 1) := by decide +kernel
theorem d_law_474 : decode code 474 = .ok (.iload_n 3, 1) := by decide +kernel
theorem d_law_475 : decode code 475 = .ok (.iconst 1, 1) := by decide +kernel
theorem d_law_476 : decode code 476 = .ok (.iadd, 1) := by decide +kernel
theorem d_law_477 : decode code 477 = .ok (.iaload, 1) := by decide +kernel
theorem d_law_478 : decode code 478 = .ok (.i2c, 1) := by decide +kernel
theorem d_law_479 : decode code 479 = .ok (.invokevirtual 58, 3) := by decide +kernel
theorem d_law_482 : decode code 482 = .ok (.if_icmp .eq 210, 3) := by decide +kernel
theorem d_law_487 : decode code 487 = .ok (.aload_n 1, 1) := by decide +kernel
theorem d_law_488 : decode code 488 = .ok (.aload_n 0, 1) := by decide +kernel
theorem d_law_489 : decode code 489 = .ok (.iload_n 3, 1) := by decide +kernel
theorem d_law_490 : decode code 490 = .ok (.iconst 1, 1) := by decide +kernel
theorem d_law_491 : decode code 491 = .ok (.iadd, 1) := by decide +kernel
theorem d_law_492 : decode code 492 = .ok (.iaload, 1) := by decide +kernel
theorem d_law_493 : decode code 493 = .ok (.invokevirtual 59, 3) := by decide +kernel
theorem d_law_496 : decode code 496 = .ok (.aload_n 2, 1) := by decide +kernel
theorem d_law_497 : decode code 497 = .ok (.aload_n 0, 1) := by decide +kernel
theorem d_law_498 : decode code 498 = .ok (.iload_n 3, 1) := by decide +kernel
theorem d_law_499 : decode code 499 = .ok (.iconst 1, 1) := by decide +kernel
theorem d_law_500 : decode code 500 = .ok (.iadd, 1) := by decide +kernel
theorem d_law_501 : decode code 501 = .ok (.iaload, 1) := by decide +kernel
theorem d_law_502 : decode code 502 = .ok (.invokevirtual 62, 3) := by decide +kernel
theorem d_law_505 : decode code 505 = .ok (.if_icmp .eq 187, 3) := by decide +kernel
theorem d_law_510 : decode code 510 = .ok (.aload_n 1, 1) := by decide +kernel
theorem d_law_511 : decode code 511 = .ok (.aload_n 0, 1) := by decide +kernel
theorem d_law_512 : decode code 512 = .ok (.iload_n 3, 1) := by decide +kernel
theorem d_law_513 : decode code 513 = .ok (.iconst 1, 1) := by decide +kernel
theorem d_law_514 : decode code 514 = .ok (.iadd, 1) := by decide +kernel
theorem d_law_515 : decode code 515 = .ok (.iaload, 1) := by decide +kernel
theorem d_law_516 : decode code 516 = .ok (.invokevirtual 63, 3) := by decide +kernel
theorem d_law_519 : decode code 519 = .ok (.aload_n 2, 1) := by decide +kernel
theorem d_law_520 : decode code 520 = .ok (.aload_n 0, 1) := by decide +kernel
theorem d_law_521 : decode code 521 = .ok (.iload_n 3, 1) := by decide +kernel
theorem d_law_522 : decode code 522 = .ok (.iconst 1, 1) := by decide +kernel
theorem d_law_523 : decode code 523 = .ok (.iadd, 1) := by decide +kernel
theorem d_law_524 : decode code 524 = .ok (.iaload, 1) := by decide +kernel
theorem d_law_525 : decode code 525 = .ok (.invokevirtual 66, 3) := by decide +kernel
theorem d_law_528 : decode code 528 = .ok (.if_icmp .eq 164, 3) := by decide +kernel
theorem d_law_533 : decode code 533 = .ok (.aload_n 1, 1) := by decide +kernel
theorem d_law_534 : decode code 534 = .ok (.aload_n 0, 1) := by decide +kernel
theorem d_law_535 : decode code 535 = .ok (.iload_n 3, 1) := by decide +kernel
theorem d_law_536 : decode code 536 = .ok (.iconst 1, 1) := by decide +kernel
theorem d_law_537 : decode code 537 = .ok (.iadd, 1) := by decide +kernel
theorem d_law_538 : decode code 538 = .ok (.iaload, 1) := by decide +kernel
theorem d_law_539 : decode code 539 = .ok (.aload_n 0, 1) := by decide +kernel
theorem d_law_540 : decode code 540 = .ok (.iload_n 3, 1) := by decide +kernel
theorem d_law_541 : decode code 541 = .ok (.iconst 2, 1) := by decide +kernel
theorem d_law_542 : decode code 542 = .ok (.iadd, 1) := by decide +kernel
theorem d_law_543 : decode code 543 = .ok (.iaload, 1) := by decide +kernel
theorem d_law_544 : decode code 544 = .ok (.invokevirtual 67, 3) := by decide +kernel
theorem d_law_547 : decode code 547 = .ok (.aload_n 2, 1) := by decide +kernel
theorem d_law_548 : decode code 548 = .ok (.aload_n 0, 1) := by decide +kernel
theorem d_law_549 : decode code 549 = .ok (.iload_n 3, 1) := by decide +kernel
theorem d_law_550 : decode code 550 = .ok (.iconst 1, 1) := by decide +kernel
theorem d_law_551 : decode code 551 = .ok (.iadd, 1) := by decide +kernel
theorem d_law_552 : decode code 552 = .ok (.iaload, 1) := by decide +kernel
theorem d_law_553 : decode code 553 = .ok (.aload_n 0, 1) := by decide +kernel
theorem d_law_554 : decode code 554 = .ok (.iload_n 3, 1) := by decide +kernel
theorem d_law_555 : decode code 555 = .ok (.iconst 2, 1) := by decide +kernel
theorem d_law_556 : decode code 556 = .ok (.iadd, 1) := by decide +kernel
theorem d_law_557 : decode code 557 = .ok (.iaload, 1) := by decide +kernel
theorem d_law_558 : decode code 558 = .ok (.invokevirtual 70, 3) := by decide +kernel
theorem d_law_561 : decode code 561 = .ok (.if_icmp .eq 131, 3) := by decide +kernel
theorem d_law_566 : decode code 566 = .ok (.aload_n 1, 1) := by decide +kernel
theorem d_law_567 : decode code 567 = .ok (.aload_n 0, 1) := by decide +kernel
theorem d_law_568 : decode code 568 = .ok (.iload_n 3, 1) := by decide +kernel
theorem d_law_569 : decode code 569 = .ok (.iconst 1, 1) := by decide +kernel
theorem d_law_570 : decode code 570 = .ok (.iadd, 1) := by decide +kernel
theorem d_law_571 : decode code 571 = .ok (.iaload, 1) := by decide +kernel
theorem d_law_572 : decode code 572 = .ok (.invokevirtual 71, 3) := by decide +kernel
theorem d_law_575 : decode code 575 = .ok (.aload_n 2, 1) := by decide +kernel
theorem d_law_576 : decode code 576 = .ok (.aload_n 0, 1) := by decide +kernel
theorem d_law_577 : decode code 577 = .ok (.iload_n 3, 1) := by decide +kernel
theorem d_law_578 : decode code 578 = .ok (.iconst 1, 1) := by decide +kernel
theorem d_law_579 : decode code 579 = .ok (.iadd, 1) := by decide +kernel
theorem d_law_580 : decode code 580 = .ok (.iaload, 1) := by decide +kernel
theorem d_law_581 : decode code 581 = .ok (.invokevirtual 74, 3) := by decide +kernel
theorem d_law_584 : decode code 584 = .ok (.if_icmp .eq 108, 3) := by decide +kernel
theorem d_law_589 : decode code 589 = .ok (.aload_n 1, 1) := by decide +kernel
theorem d_law_590 : decode code 590 = .ok (.aload_n 0, 1) := by decide +kernel
theorem d_law_591 : decode code 591 = .ok (.iload_n 3, 1) := by decide +kernel
theorem d_law_592 : decode code 592 = .ok (.iconst 1, 1) := by decide +kernel
theorem d_law_593 : decode code 593 = .ok (.iadd, 1) := by decide +kernel
theorem d_law_594 : decode code 594 = .ok (.iaload, 1) := by decide +kernel
theorem d_law_595 : decode code 595 = .ok (.invokevirtual 75, 3) := by decide +kernel
theorem d_law_598 : decode code 598 = .ok (.aload_n 2, 1) := by decide +kernel
theorem d_law_599 : decode code 599 = .ok (.aload_n 0, 1) := by decide +kernel
theorem d_law_600 : decode code 600 = .ok (.iload_n 3, 1) := by decide +kernel
theorem d_law_601 : decode code 601 = .ok (.iconst 1, 1) := by decide +kernel
theorem d_law_602 : decode code 602 = .ok (.iadd, 1) := by decide +kernel
theorem d_law_603 : decode code 603 = .ok (.iaload, 1) := by decide +kernel
theorem d_law_604 : decode code 604 = .ok (.invokevirtual 78, 3) := by decide +kernel
theorem d_law_607 : decode code 607 = .ok (.if_icmp .eq 85, 3) := by decide +kernel
theorem d_law_612 : decode code 612 = .ok (.aload_n 1, 1) := by decide +kernel
theorem d_law_613 : decode code 613 = .ok (.aload_n 0, 1) := by decide +kernel
theorem d_law_614 : decode code 614 = .ok (.iload_n 3, 1) := by decide +kernel
theorem d_law_615 : decode code 615 = .ok (.iconst 1, 1) := by decide +kernel
theorem d_law_616 : decode code 616 = .ok (.iadd, 1) := by decide +kernel
theorem d_law_617 : decode code 617 = .ok (.iaload, 1) := by decide +kernel
theorem d_law_618 : decode code 618 = .ok (.aload_n 0, 1) := by decide +kernel
theorem d_law_619 : decode code 619 = .ok (.iload_n 3, 1) := by decide +kernel
theorem d_law_620 : decode code 620 = .ok (.iconst 2, 1) := by decide +kernel
theorem d_law_621 : decode code 621 = .ok (.iadd, 1) := by decide +kernel
theorem d_law_622 : decode code 622 = .ok (.iaload, 1) := by decide +kernel
theorem d_law_623 : decode code 623 = .ok (.invokevirtual 79, 3) := by decide +kernel
theorem d_law_626 : decode code 626 = .ok (.aload_n 2, 1) := by decide +kernel
theorem d_law_627 : decode code 627 = .ok (.aload_n 0, 1) := by decide +kernel
theorem d_law_628 : decode code 628 = .ok (.iload_n 3, 1) := by decide +kernel
theorem d_law_629 : decode code 629 = .ok (.iconst 1, 1) := by decide +kernel
theorem d_law_630 : decode code 630 = .ok (.iadd, 1) := by decide +kernel
theorem d_law_631 : decode code 631 = .ok (.iaload, 1) := by decide +kernel
theorem d_law_632 : decode code 632 = .ok (.aload_n 0, 1) := by decide +kernel
theorem d_law_633 : decode code 633 = .ok (.iload_n 3, 1) := by decide +kernel
theorem d_law_634 : decode code 634 = .ok (.iconst 2, 1) := by decide +kernel
theorem d_law_635 : decode code 635 = .ok (.iadd, 1) := by decide +kernel
theorem d_law_636 : decode code 636 = .ok (.iaload, 1) := by decide +kernel
theorem d_law_637 : decode code 637 = .ok (.invokevirtual 82, 3) := by decide +kernel
theorem d_law_640 : decode code 640 = .ok (.if_icmp .eq 52, 3) := by decide +kernel
theorem d_law_645 : decode code 645 = .ok (.aload_n 1, 1) := by decide +kernel
theorem d_law_646 : decode code 646 = .ok (.aload_n 0, 1) := by decide +kernel
theorem d_law_647 : decode code 647 = .ok (.iload_n 3, 1) := by decide +kernel
theorem d_law_648 : decode code 648 = .ok (.iconst 1, 1) := by decide +kernel
theorem d_law_649 : decode code 649 = .ok (.iadd, 1) := by decide +kernel
theorem d_law_650 : decode code 650 = .ok (.iaload, 1) := by decide +kernel
theorem d_law_651 : decode code 651 = .ok (.invokevirtual 83, 3) := by decide +kernel
theorem d_law_654 : decode code 654 = .ok (.aload_n 2, 1) := by decide +kernel
theorem d_law_655 : decode code 655 = .ok (.aload_n 0, 1) := by decide +kernel
theorem d_law_656 : decode code 656 = .ok (.iload_n 3, 1) := by decide +kernel
theorem d_law_657 : decode code 657 = .ok (.iconst 1, 1) := by decide +kernel
theorem d_law_658 : decode code 658 = .ok (.iadd, 1) := by decide +kernel
theorem d_law_659 : decode code 659 = .ok (.iaload, 1) := by decide +kernel
theorem d_law_660 : decode code 660 = .ok (.invokevirtual 87, 3) := by decide +kernel
theorem d_law_663 : decode code 663 = .ok (.lcmp, 1) := by decide +kernel
theorem d_law_664 : decode code 664 = .ok (.ifCond .eq 28, 3) := by decide +kernel
theorem d_law_669 : decode code 669 = .ok (.aload_n 1, 1) := by decide +kernel
theorem d_law_670 : decode code 670 = .ok (.aload_n 0, 1) := by decide +kernel
theorem d_law_671 : decode code 671 = .ok (.iload_n 3, 1) := by decide +kernel
theorem d_law_672 : decode code 672 = .ok (.iconst 1, 1) := by decide +kernel
theorem d_law_673 : decode code 673 = .ok (.iadd, 1) := by decide +kernel
theorem d_law_674 : decode code 674 = .ok (.iaload, 1) := by decide +kernel
theorem d_law_675 : decode code 675 = .ok (.invokevirtual 88, 3) := by decide +kernel
theorem d_law_678 : decode code 678 = .ok (.aload_n 2, 1) := by decide +kernel
theorem d_law_679 : decode code 679 = .ok (.aload_n 0, 1) := by decide +kernel
theorem d_law_680 : decode code 680 = .ok (.iload_n 3, 1) := by decide +kernel
theorem d_law_681 : decode code 681 = .ok (.iconst 1, 1) := by decide +kernel
theorem d_law_682 : decode code 682 = .ok (.iadd, 1) := by decide +kernel
theorem d_law_683 : decode code 683 = .ok (.iaload, 1) := by decide +kernel
theorem d_law_684 : decode code 684 = .ok (.invokevirtual 91, 3) := by decide +kernel
theorem d_law_687 : decode code 687 = .ok (.if_icmp .eq 5, 3) := by decide +kernel
theorem d_law_692 : decode code 692 = .ok (.iinc 3 5, 3) := by decide +kernel
theorem d_law_695 : decode code 695 = .ok (.goto (-677), 3) := by decide +kernel
theorem d_law_698 : decode code 698 = .ok (.iconst 1, 1) := by decide +kernel
theorem d_law_699 : decode code 699 = .ok (.ireturn, 1) := by decide +kernel
section LL
variable {X : WX} {L : Nat} {xs : Nat → Int32} {nm : String} {M : Mem} {n i : Int}
theorem lw_case_0 (hB : BI n M) (hn : n ≤ 290) (h0i : 0 ≤ i) (hiL : i + 5 ≤ (L : Int)) (hL : L ≤ 320) (hk : ∀ M2, BI (n + 4) M2 → GL (Scr X L xs) X gt 409 1 KE (yL nm) code 4 ret 692 [(0, vr 3002), (1, vr 1), (2, vr 55), (3, vi i)] [] KE M2) : GL (Scr X L xs) X gt 409 1 KE (yL nm) code 4 ret 116 [(0, vr 3002), (1, vr 1), (2, vr 55), (3, vi i)] [] KE M := by
  refine L_aload (i := 1) (n := 1) (len := 1) (Or.inl ⟨1, rfl, rfl, d_law_116⟩) rfl (by decide) (L_pc (pc' := 117) rfl ?_)
  refine L_aload (i := 0) (n := 0) (len := 1) (Or.inl ⟨0, rfl, rfl, d_law_117⟩) rfl (by decide) (L_pc (pc' := 118) rfl ?_)
  refine L_iload (i := 3) (n := 3) (len := 1) (Or.inl ⟨3, rfl, rfl, d_law_118⟩) rfl (L_pc (pc' := 119) rfl ?_)
  refine L_iconst (n := 1) d_law_119 (by decide) (L_pc (pc' := 120) rfl ?_)
  refine L_iadd d_law_120 (by omega) (L_pc (pc' := 121) rfl ?_)
  refine L_sload d_law_121 (by omega) (L_pc (pc' := 122) rfl ?_)
  obtain ⟨Qd, hQd, kd⟩ := pr_addClass (X := X) hB (sc xs (i + 1))
  refine L_callV (K1 := KE) (d2 := 408) (o := 1) (cl := 8) (as := [vi (sc xs (i + 1))]) (rest := []) d_law_122 mf_De_addClass ml_La_13 rfl rfl (by decide) rfl rfl (Nat.le_of_ble_eq_true rfl) (by decide) ⟨Nat.le_refl _, Nat.le_refl _⟩ hQd (fun r1 M1 _ q1 => L_pc (pc' := 125) rfl ?_)
  obtain ⟨Qm, hQm, km⟩ := kd r1 M1 q1
  refine L_aload (i := 2) (n := 2) (len := 1) (Or.inl ⟨2, rfl, rfl, d_law_125⟩) rfl (by decide) (L_pc (pc' := 126) rfl ?_)
  refine L_aload (i := 0) (n := 0) (len := 1) (Or.inl ⟨0, rfl, rfl, d_law_126⟩) rfl (by decide) (L_pc (pc' := 127) rfl ?_)
  refine L_iload (i := 3) (n := 3) (len := 1) (Or.inl ⟨3, rfl, rfl, d_law_127⟩) rfl (L_pc (pc' := 128) rfl ?_)
  refine L_iconst (n := 1) d_law_128 (by decide) (L_pc (pc' := 129) rfl ?_)
  refine L_iadd d_law_129 (by omega) (L_pc (pc' := 130) rfl ?_)
  refine L_sload d_law_130 (by omega) (L_pc (pc' := 131) rfl ?_)
  refine L_callV (K1 := KE) (d2 := 6) (o := 55) (cl := 9) (as := [vi (sc xs (i + 1))]) (rest := r1.toList ++ []) d_law_131 mf_Mo_addClass ml_La_17 rfl rfl (by decide) rfl rfl (pcs_r r1) (by decide) ⟨Nat.le_refl _, Nat.le_refl _⟩ hQm (fun r2 M2 _ q2 => L_pc (pc' := 134) rfl ?_)
  obtain ⟨z1, z2, z3⟩ := km r2 M2 q2
  exact L_same d_law_134 (by decide) z1 z3 (hk M2 z2)
theorem lw_case_1 (hB : BI n M) (hn : n ≤ 290) (h0i : 0 ≤ i) (hiL : i + 5 ≤ (L : Int)) (hL : L ≤ 320) (hk : ∀ M2, BI (n + 4) M2 → GL (Scr X L xs) X gt 409 1 KE (yL nm) code 4 ret 692 [(0, vr 3002), (1, vr 1), (2, vr 55), (3, vi i)] [] KE M2) : GL (Scr X L xs) X gt 409 1 KE (yL nm) code 4 ret 139 [(0, vr 3002), (1, vr 1), (2, vr 55), (3, vi i)] [] KE M := by
  refine L_aload (i := 1) (n := 1) (len := 1) (Or.inl ⟨1, rfl, rfl, d_law_139⟩) rfl (by decide) (L_pc (pc' := 140) rfl ?_)
  refine L_aload (i := 0) (n := 0) (len := 1) (Or.inl ⟨0, rfl, rfl, d_law_140⟩) rfl (by decide) (L_pc (pc' := 141) rfl ?_)
  refine L_iload (i := 3) (n := 3) (len := 1) (Or.inl ⟨3, rfl, rfl, d_law_141⟩) rfl (L_pc (pc' := 142) rfl ?_)
  refine L_iconst (n := 1) d_law_142 (by decide) (L_pc (pc' := 143) rfl ?_)
  refine L_iadd d_law_143 (by omega) (L_pc (pc' := 144) rfl ?_)
  refine L_sload d_law_144 (by omega) (L_pc (pc' := 145) rfl ?_)
  refine L_aload (i := 0) (n := 0) (len := 1) (Or.inl ⟨0, rfl, rfl, d_law_145⟩) rfl (by decide) (L_pc (pc' := 146) rfl ?_)
  refine L_iload (i := 3) (n := 3) (len := 1) (Or.inl ⟨3, rfl, rfl, d_law_146⟩) rfl (L_pc (pc' := 147) rfl ?_)
  refine L_iconst (n := 2) d_law_147 (by decide) (L_pc (pc' := 148) rfl ?_)
  refine L_iadd d_law_148 (by omega) (L_pc (pc' := 149) rfl ?_)
  refine L_sload d_law_149 (by omega) (L_pc (pc' := 150) rfl ?_)
  refine L_aload (i := 0) (n := 0) (len := 1) (Or.inl ⟨0, rfl, rfl, d_law_150⟩) rfl (by decide) (L_pc (pc' := 151) rfl ?_)
  refine L_iload (i := 3) (n := 3) (len := 1) (Or.inl ⟨3, rfl, rfl, d_law_151⟩) rfl (L_pc (pc' := 152) rfl ?_)
  refine L_iconst (n := 3) d_law_152 (by decide) (L_pc (pc' := 153) rfl ?_)
  refine L_iadd d_law_153 (by omega) (L_pc (pc' := 154) rfl ?_)
  refine L_sload d_law_154 (by omega) (L_pc (pc' := 155) rfl ?_)
  obtain ⟨Qd, hQd, kd⟩ := pr_addField (X := X) hB (sc xs (i + 1)) (sc xs (i + 2)) (sc xs (i + 3))
  refine L_callV (K1 := KE) (d2 := 408) (o := 1) (cl := 8) (as := [vi (sc xs (i + 1)), vi (sc xs (i + 2)), vi (sc xs (i + 3))]) (rest := []) d_law_155 mf_De_addField ml_La_18 rfl rfl (by decide) rfl rfl (Nat.le_of_ble_eq_true rfl) (by decide) ⟨Nat.le_refl _, Nat.le_refl _⟩ hQd (fun r1 M1 _ q1 => L_pc (pc' := 158) rfl ?_)
  obtain ⟨Qm, hQm, km⟩ := kd r1 M1 q1
  refine L_aload (i := 2) (n := 2) (len := 1) (Or.inl ⟨2, rfl, rfl, d_law_158⟩) rfl (by decide) (L_pc (pc' := 159) rfl ?_)
  refine L_aload (i := 0) (n := 0) (len := 1) (Or.inl ⟨0, rfl, rfl, d_law_159⟩) rfl (by decide) (L_pc (pc' := 160) rfl ?_)
  refine L_iload (i := 3) (n := 3) (len := 1) (Or.inl ⟨3, rfl, rfl, d_law_160⟩) rfl (L_pc (pc' := 161) rfl ?_)
  refine L_iconst (n := 1) d_law_161 (by decide) (L_pc (pc' := 162) rfl ?_)
  refine L_iadd d_law_162 (by omega) (L_pc (pc' := 163) rfl ?_)
  refine L_sload d_law_163 (by omega) (L_pc (pc' := 164) rfl ?_)
  refine L_aload (i := 0) (n := 0) (len := 1) (Or.inl ⟨0, rfl, rfl, d_law_164⟩) rfl (by decide) (L_pc (pc' := 165) rfl ?_)
  refine L_iload (i := 3) (n := 3) (len := 1) (Or.inl ⟨3, rfl, rfl, d_law_165⟩) rfl (L_pc (pc' := 166) rfl ?_)
  refine L_iconst (n := 2) d_law_166 (by decide) (L_pc (pc' := 167) rfl ?_)
  refine L_iadd d_law_167 (by omega) (L_pc (pc' := 168) rfl ?_)
  refine L_sload d_law_168 (by omega) (L_pc (pc' := 169) rfl ?_)
  refine L_aload (i := 0) (n := 0) (len := 1) (Or.inl ⟨0, rfl, rfl, d_law_169⟩) rfl (by decide) (L_pc (pc' := 170) rfl ?_)
  refine L_iload (i := 3) (n := 3) (len := 1) (Or.inl ⟨3, rfl, rfl, d_law_170⟩) rfl (L_pc (pc' := 171) rfl ?_)
  refine L_iconst (n := 3) d_law_171 (by decide) (L_pc (pc' := 172) rfl ?_)
  refine L_iadd d_law_172 (by omega) (L_pc (pc' := 173) rfl ?_)
  refine L_sload d_law_173 (by omega) (L_pc (pc' := 174) rfl ?_)
  refine L_callV (K1 := KE) (d2 := 6) (o := 55) (cl := 9) (as := [vi (sc xs (i + 1)), vi (sc xs (i + 2)), vi (sc xs (i + 3))]) (rest := r1.toList ++ []) d_law_174 mf_Mo_addField ml_La_22 rfl rfl (by decide) rfl rfl (pcs_r r1) (by decide) ⟨Nat.le_refl _, Nat.le_refl _⟩ hQm (fun r2 M2 _ q2 => L_pc (pc' := 177) rfl ?_)
  obtain ⟨z1, z2, z3⟩ := km r2 M2 q2
  exact L_same d_law_177 (by decide) z1 z3 (hk M2 z2)
theorem lw_case_2 (hB : BI n M) (hn : n ≤ 290) (h0i : 0 ≤ i) (hiL : i + 5 ≤ (L : Int)) (hL : L ≤ 320) (hk : ∀ M2, BI (n + 4) M2 → GL (Scr X L xs) X gt 409 1 KE (yL nm) code 4 ret 692 [(0, vr 3002), (1, vr 1), (2, vr 55), (3, vi i)] [] KE M2) : GL (Scr X L xs) X gt 409 1 KE (yL nm) code 4 ret 182 [(0, vr 3002), (1, vr 1), (2, vr 55), (3, vi i)] [] KE M := by
  refine L_aload (i := 1) (n := 1) (len := 1) (Or.inl ⟨1, rfl, rfl, d_law_182⟩) rfl (by decide) (L_pc (pc' := 183) rfl ?_)
  refine L_aload (i := 0) (n := 0) (len := 1) (Or.inl ⟨0, rfl, rfl, d_law_183⟩) rfl (by decide) (L_pc (pc' := 184) rfl ?_)
  refine L_iload (i := 3) (n := 3) (len := 1) (Or.inl ⟨3, rfl, rfl, d_law_184⟩) rfl (L_pc (pc' := 185) rfl ?_)
  refine L_iconst (n := 1) d_law_185 (by decide) (L_pc (pc' := 186) rfl ?_)
  refine L_iadd d_law_186 (by omega) (L_pc (pc' := 187) rfl ?_)
  refine L_sload d_law_187 (by omega) (L_pc (pc' := 188) rfl ?_)
  refine L_aload (i := 0) (n := 0) (len := 1) (Or.inl ⟨0, rfl, rfl, d_law_188⟩) rfl (by decide) (L_pc (pc' := 189) rfl ?_)
  refine L_iload (i := 3) (n := 3) (len := 1) (Or.inl ⟨3, rfl, rfl, d_law_189⟩) rfl (L_pc (pc' := 190) rfl ?_)
  refine L_iconst (n := 2) d_law_190 (by decide) (L_pc (pc' := 191) rfl ?_)
  refine L_iadd d_law_191 (by omega) (L_pc (pc' := 192) rfl ?_)
  refine L_sload d_law_192 (by omega) (L_pc (pc' := 193) rfl ?_)
  obtain ⟨Qd, hQd, kd⟩ := pr_addVariable (X := X) hB (sc xs (i + 1)) (sc xs (i + 2))
  refine L_callV (K1 := KE) (d2 := 408) (o := 1) (cl := 8) (as := [vi (sc xs (i + 1)), vi (sc xs (i + 2))]) (rest := []) d_law_193 mf_De_addVariable ml_La_23 rfl rfl (by decide) rfl rfl (Nat.le_of_ble_eq_true rfl) (by decide) ⟨Nat.le_refl _, Nat.le_refl _⟩ hQd (fun r1 M1 _ q1 => L_pc (pc' := 196) rfl ?_)
  obtain ⟨Qm, hQm, km⟩ := kd r1 M1 q1
  refine L_aload (i := 2) (n := 2) (len := 1) (Or.inl ⟨2, rfl, rfl, d_law_196⟩) rfl (by decide) (L_pc (pc' := 197) rfl ?_)
  refine L_aload (i := 0) (n := 0) (len := 1) (Or.inl ⟨0, rfl, rfl, d_law_197⟩) rfl (by decide) (L_pc (pc' := 198) rfl ?_)
  refine L_iload (i := 3) (n := 3) (len := 1) (Or.inl ⟨3, rfl, rfl, d_law_198⟩) rfl (L_pc (pc' := 199) rfl ?_)
  refine L_iconst (n := 1) d_law_199 (by decide) (L_pc (pc' := 200) rfl ?_)
  refine L_iadd d_law_200 (by omega) (L_pc (pc' := 201) rfl ?_)
  refine L_sload d_law_201 (by omega) (L_pc (pc' := 202) rfl ?_)
  refine L_aload (i := 0) (n := 0) (len := 1) (Or.inl ⟨0, rfl, rfl, d_law_202⟩) rfl (by decide) (L_pc (pc' := 203) rfl ?_)
  refine L_iload (i := 3) (n := 3) (len := 1) (Or.inl ⟨3, rfl, rfl, d_law_203⟩) rfl (L_pc (pc' := 204) rfl ?_)
  refine L_iconst (n := 2) d_law_204 (by decide) (L_pc (pc' := 205) rfl ?_)
  refine L_iadd d_law_205 (by omega) (L_pc (pc' := 206) rfl ?_)
  refine L_sload d_law_206 (by omega) (L_pc (pc' := 207) rfl ?_)
  refine L_callV (K1 := KE) (d2 := 6) (o := 55) (cl := 9) (as := [vi (sc xs (i + 1)), vi (sc xs (i + 2))]) (rest := r1.toList ++ []) d_law_207 mf_Mo_addVariable ml_La_27 rfl rfl (by decide) rfl rfl (pcs_r r1) (by decide) ⟨Nat.le_refl _, Nat.le_refl _⟩ hQm (fun r2 M2 _ q2 => L_pc (pc' := 210) rfl ?_)
  obtain ⟨z1, z2, z3⟩ := km r2 M2 q2
  exact L_same d_law_210 (by decide) z1 z3 (hk M2 z2)
theorem lw_case_3 (hB : BI n M) (hn : n ≤ 290) (h0i : 0 ≤ i) (hiL : i + 5 ≤ (L : Int)) (hL : L ≤ 320) (hk : ∀ M2, BI (n + 4) M2 → GL (Scr X L xs) X gt 409 1 KE (yL nm) code 4 ret 692 [(0, vr 3002), (1, vr 1), (2, vr 55), (3, vi i)] [] KE M2) : GL (Scr X L xs) X gt 409 1 KE (yL nm) code 4 ret 215 [(0, vr 3002), (1, vr 1), (2, vr 55), (3, vi i)] [] KE M := by
  refine L_aload (i := 1) (n := 1) (len := 1) (Or.inl ⟨1, rfl, rfl, d_law_215⟩) rfl (by decide) (L_pc (pc' := 216) rfl ?_)
  refine L_aload (i := 0) (n := 0) (len := 1) (Or.inl ⟨0, rfl, rfl, d_law_216⟩) rfl (by decide) (L_pc (pc' := 217) rfl ?_)
  refine L_iload (i := 3) (n := 3) (len := 1) (Or.inl ⟨3, rfl, rfl, d_law_217⟩) rfl (L_pc (pc' := 218) rfl ?_)
  refine L_iconst (n := 1) d_law_218 (by decide) (L_pc (pc' := 219) rfl ?_)
  refine L_iadd d_law_219 (by omega) (L_pc (pc' := 220) rfl ?_)
  refine L_sload d_law_220 (by omega) (L_pc (pc' := 221) rfl ?_)
  refine L_aload (i := 0) (n := 0) (len := 1) (Or.inl ⟨0, rfl, rfl, d_law_221⟩) rfl (by decide) (L_pc (pc' := 222) rfl ?_)
  refine L_iload (i := 3) (n := 3) (len := 1) (Or.inl ⟨3, rfl, rfl, d_law_222⟩) rfl (L_pc (pc' := 223) rfl ?_)
  refine L_iconst (n := 2) d_law_223 (by decide) (L_pc (pc' := 224) rfl ?_)
  refine L_iadd d_law_224 (by omega) (L_pc (pc' := 225) rfl ?_)
  refine L_sload d_law_225 (by omega) (L_pc (pc' := 226) rfl ?_)
  obtain ⟨Qd, hQd, kd⟩ := pr_make (X := X) hB (sc xs (i + 1)) (sc xs (i + 2))
  refine L_callV (K1 := KE) (d2 := 408) (o := 1) (cl := 8) (as := [vi (sc xs (i + 1)), vi (sc xs (i + 2))]) (rest := []) d_law_226 mf_De_make ml_La_28 rfl rfl (by decide) rfl rfl (Nat.le_of_ble_eq_true rfl) (by decide) ⟨Nat.le_refl _, Nat.le_refl _⟩ hQd (fun r1 M1 _ q1 => L_pc (pc' := 229) rfl ?_)
  obtain ⟨Qm, hQm, km⟩ := kd r1 M1 q1
  refine L_aload (i := 2) (n := 2) (len := 1) (Or.inl ⟨2, rfl, rfl, d_law_229⟩) rfl (by decide) (L_pc (pc' := 230) rfl ?_)
  refine L_aload (i := 0) (n := 0) (len := 1) (Or.inl ⟨0, rfl, rfl, d_law_230⟩) rfl (by decide) (L_pc (pc' := 231) rfl ?_)
  refine L_iload (i := 3) (n := 3) (len := 1) (Or.inl ⟨3, rfl, rfl, d_law_231⟩) rfl (L_pc (pc' := 232) rfl ?_)
  refine L_iconst (n := 1) d_law_232 (by decide) (L_pc (pc' := 233) rfl ?_)
  refine L_iadd d_law_233 (by omega) (L_pc (pc' := 234) rfl ?_)
  refine L_sload d_law_234 (by omega) (L_pc (pc' := 235) rfl ?_)
  refine L_aload (i := 0) (n := 0) (len := 1) (Or.inl ⟨0, rfl, rfl, d_law_235⟩) rfl (by decide) (L_pc (pc' := 236) rfl ?_)
  refine L_iload (i := 3) (n := 3) (len := 1) (Or.inl ⟨3, rfl, rfl, d_law_236⟩) rfl (L_pc (pc' := 237) rfl ?_)
  refine L_iconst (n := 2) d_law_237 (by decide) (L_pc (pc' := 238) rfl ?_)
  refine L_iadd d_law_238 (by omega) (L_pc (pc' := 239) rfl ?_)
  refine L_sload d_law_239 (by omega) (L_pc (pc' := 240) rfl ?_)
  refine L_callV (K1 := KE) (d2 := 6) (o := 55) (cl := 9) (as := [vi (sc xs (i + 1)), vi (sc xs (i + 2))]) (rest := r1.toList ++ []) d_law_240 mf_Mo_make ml_La_32 rfl rfl (by decide) rfl rfl (pcs_r r1) (by decide) ⟨Nat.le_refl _, Nat.le_refl _⟩ hQm (fun r2 M2 _ q2 => L_pc (pc' := 243) rfl ?_)
  obtain ⟨z1, z2, z3⟩ := km r2 M2 q2
  exact L_same d_law_243 (by decide) z1 z3 (hk M2 z2)
theorem lw_case_4 (hB : BI n M) (hn : n ≤ 290) (h0i : 0 ≤ i) (hiL : i + 5 ≤ (L : Int)) (hL : L ≤ 320) (hk : ∀ M2, BI (n + 4) M2 → GL (Scr X L xs) X gt 409 1 KE (yL nm) code 4 ret 692 [(0, vr 3002), (1, vr 1), (2, vr 55), (3, vi i)] [] KE M2) : GL (Scr X L xs) X gt 409 1 KE (yL nm) code 4 ret 248 [(0, vr 3002), (1, vr 1), (2, vr 55), (3, vi i)] [] KE M := by
  refine L_aload (i := 1) (n := 1) (len := 1) (Or.inl ⟨1, rfl, rfl, d_law_248⟩) rfl (by decide) (L_pc (pc' := 249) rfl ?_)
  refine L_aload (i := 0) (n := 0) (len := 1) (Or.inl ⟨0, rfl, rfl, d_law_249⟩) rfl (by decide) (L_pc (pc' := 250) rfl ?_)
  refine L_iload (i := 3) (n := 3) (len := 1) (Or.inl ⟨3, rfl, rfl, d_law_250⟩) rfl (L_pc (pc' := 251) rfl ?_)
  refine L_iconst (n := 1) d_law_251 (by decide) (L_pc (pc' := 252) rfl ?_)
  refine L_iadd d_law_252 (by omega) (L_pc (pc' := 253) rfl ?_)
  refine L_sload d_law_253 (by omega) (L_pc (pc' := 254) rfl ?_)
  refine L_aload (i := 0) (n := 0) (len := 1) (Or.inl ⟨0, rfl, rfl, d_law_254⟩) rfl (by decide) (L_pc (pc' := 255) rfl ?_)
  refine L_iload (i := 3) (n := 3) (len := 1) (Or.inl ⟨3, rfl, rfl, d_law_255⟩) rfl (L_pc (pc' := 256) rfl ?_)
  refine L_iconst (n := 2) d_law_256 (by decide) (L_pc (pc' := 257) rfl ?_)
  refine L_iadd d_law_257 (by omega) (L_pc (pc' := 258) rfl ?_)
  refine L_sload d_law_258 (by omega) (L_pc (pc' := 259) rfl ?_)
  refine L_i2l d_law_259 (L_pc (pc' := 260) rfl ?_)
  refine L_bipush (n := 32) d_law_260 (by decide) (L_pc (pc' := 262) rfl ?_)
  refine L_lshl d_law_262 (L_pc (pc' := 263) rfl ?_)
  refine L_aload (i := 0) (n := 0) (len := 1) (Or.inl ⟨0, rfl, rfl, d_law_263⟩) rfl (by decide) (L_pc (pc' := 264) rfl ?_)
  refine L_iload (i := 3) (n := 3) (len := 1) (Or.inl ⟨3, rfl, rfl, d_law_264⟩) rfl (L_pc (pc' := 265) rfl ?_)
  refine L_iconst (n := 3) d_law_265 (by decide) (L_pc (pc' := 266) rfl ?_)
  refine L_iadd d_law_266 (by omega) (L_pc (pc' := 267) rfl ?_)
  refine L_sload d_law_267 (by omega) (L_pc (pc' := 268) rfl ?_)
  refine L_i2l d_law_268 (L_pc (pc' := 269) rfl ?_)
  refine L_ldc2 (x := 4294967295) d_law_269 k2_La_33 (by decide) (L_pc (pc' := 272) rfl ?_)
  refine L_land d_law_272 (L_pc (pc' := 273) rfl ?_)
  refine L_lor d_law_273 (L_pc (pc' := 274) rfl ?_)
  obtain ⟨Qd, hQd, kd⟩ := pr_setVariable (X := X) hB (sc xs (i + 1)) (o_lor (o_lshl (sc xs (i + 2)) 32) (o_land (sc xs (i + 3)) 4294967295))
  refine L_callV (K1 := KE) (d2 := 408) (o := 1) (cl := 8) (as := [vi (sc xs (i + 1)), vl (o_lor (o_lshl (sc xs (i + 2)) 32) (o_land (sc xs (i + 3)) 4294967295))]) (rest := []) d_law_274 mf_De_setVariable ml_La_35 rfl rfl (by decide) rfl rfl (Nat.le_of_ble_eq_true rfl) (by decide) ⟨Nat.le_refl _, Nat.le_refl _⟩ hQd (fun r1 M1 _ q1 => L_pc (pc' := 277) rfl ?_)
  obtain ⟨Qm, hQm, km⟩ := kd r1 M1 q1
  refine L_aload (i := 2) (n := 2) (len := 1) (Or.inl ⟨2, rfl, rfl, d_law_277⟩) rfl (by decide) (L_pc (pc' := 278) rfl ?_)
  refine L_aload (i := 0) (n := 0) (len := 1) (Or.inl ⟨0, rfl, rfl, d_law_278⟩) rfl (by decide) (L_pc (pc' := 279) rfl ?_)
  refine L_iload (i := 3) (n := 3) (len := 1) (Or.inl ⟨3, rfl, rfl, d_law_279⟩) rfl (L_pc (pc' := 280) rfl ?_)
  refine L_iconst (n := 1) d_law_280 (by decide) (L_pc (pc' := 281) rfl ?_)
  refine L_iadd d_law_281 (by omega) (L_pc (pc' := 282) rfl ?_)
  refine L_sload d_law_282 (by omega) (L_pc (pc' := 283) rfl ?_)
  refine L_aload (i := 0) (n := 0) (len := 1) (Or.inl ⟨0, rfl, rfl, d_law_283⟩) rfl (by decide) (L_pc (pc' := 284) rfl ?_)
  refine L_iload (i := 3) (n := 3) (len := 1) (Or.inl ⟨3, rfl, rfl, d_law_284⟩) rfl (L_pc (pc' := 285) rfl ?_)
  refine L_iconst (n := 2) d_law_285 (by decide) (L_pc (pc' := 286) rfl ?_)
  refine L_iadd d_law_286 (by omega) (L_pc (pc' := 287) rfl ?_)
  refine L_sload d_law_287 (by omega) (L_pc (pc' := 288) rfl ?_)
  refine L_i2l d_law_288 (L_pc (pc' := 289) rfl ?_)
  refine L_bipush (n := 32) d_law_289 (by decide) (L_pc (pc' := 291) rfl ?_)
  refine L_lshl d_law_291 (L_pc (pc' := 292) rfl ?_)
  refine L_aload (i := 0) (n := 0) (len := 1) (Or.inl ⟨0, rfl, rfl, d_law_292⟩) rfl (by decide) (L_pc (pc' := 293) rfl ?_)
  refine L_iload (i := 3) (n := 3) (len := 1) (Or.inl ⟨3, rfl, rfl, d_law_293⟩) rfl (L_pc (pc' := 294) rfl ?_)
  refine L_iconst (n := 3) d_law_294 (by decide) (L_pc (pc' := 295) rfl ?_)
  refine L_iadd d_law_295 (by omega) (L_pc (pc' := 296) rfl ?_)
  refine L_sload d_law_296 (by omega) (L_pc (pc' := 297) rfl ?_)
  refine L_i2l d_law_297 (L_pc (pc' := 298) rfl ?_)
  refine L_ldc2 (x := 4294967295) d_law_298 k2_La_33 (by decide) (L_pc (pc' := 301) rfl ?_)
  refine L_land d_law_301 (L_pc (pc' := 302) rfl ?_)
  refine L_lor d_law_302 (L_pc (pc' := 303) rfl ?_)
  refine L_callV (K1 := KE) (d2 := 6) (o := 55) (cl := 9) (as := [vi (sc xs (i + 1)), vl (o_lor (o_lshl (sc xs (i + 2)) 32) (o_land (sc xs (i + 3)) 4294967295))]) (rest := r1.toList ++ []) d_law_303 mf_Mo_setVariable ml_La_39 rfl rfl (by decide) rfl rfl (pcs_r r1) (by decide) ⟨Nat.le_refl _, Nat.le_refl _⟩ hQm (fun r2 M2 _ q2 => L_pc (pc' := 306) rfl ?_)
  obtain ⟨z1, z2, z3⟩ := km r2 M2 q2
  exact L_same d_law_306 (by decide) z1 z3 (hk M2 z2)
theorem lw_case_5 (hB : BI n M) (hn : n ≤ 290) (h0i : 0 ≤ i) (hiL : i + 5 ≤ (L : Int)) (hL : L ≤ 320) (hk : ∀ M2, BI (n + 4) M2 → GL (Scr X L xs) X gt 409 1 KE (yL nm) code 4 ret 692 [(0, vr 3002), (1, vr 1), (2, vr 55), (3, vi i)] [] KE M2) : GL (Scr X L xs) X gt 409 1 KE (yL nm) code 4 ret 311 [(0, vr 3002), (1, vr 1), (2, vr 55), (3, vi i)] [] KE M := by
  refine L_aload (i := 1) (n := 1) (len := 1) (Or.inl ⟨1, rfl, rfl, d_law_311⟩) rfl (by decide) (L_pc (pc' := 312) rfl ?_)
  refine L_aload (i := 0) (n := 0) (len := 1) (Or.inl ⟨0, rfl, rfl, d_law_312⟩) rfl (by decide) (L_pc (pc' := 313) rfl ?_)
  refine L_iload (i := 3) (n := 3) (len := 1) (Or.inl ⟨3, rfl, rfl, d_law_313⟩) rfl (L_pc (pc' := 314) rfl ?_)
  refine L_iconst (n := 1) d_law_314 (by decide) (L_pc (pc' := 315) rfl ?_)
  refine L_iadd d_law_315 (by omega) (L_pc (pc' := 316) rfl ?_)
  refine L_sload d_law_316 (by omega) (L_pc (pc' := 317) rfl ?_)
  refine L_aload (i := 0) (n := 0) (len := 1) (Or.inl ⟨0, rfl, rfl, d_law_317⟩) rfl (by decide) (L_pc (pc' := 318) rfl ?_)
  refine L_iload (i := 3) (n := 3) (len := 1) (Or.inl ⟨3, rfl, rfl, d_law_318⟩) rfl (L_pc (pc' := 319) rfl ?_)
  refine L_iconst (n := 2) d_law_319 (by decide) (L_pc (pc' := 320) rfl ?_)
  refine L_iadd d_law_320 (by omega) (L_pc (pc' := 321) rfl ?_)
  refine L_sload d_law_321 (by omega) (L_pc (pc' := 322) rfl ?_)
  refine L_aload (i := 0) (n := 0) (len := 1) (Or.inl ⟨0, rfl, rfl, d_law_322⟩) rfl (by decide) (L_pc (pc' := 323) rfl ?_)
  refine L_iload (i := 3) (n := 3) (len := 1) (Or.inl ⟨3, rfl, rfl, d_law_323⟩) rfl (L_pc (pc' := 324) rfl ?_)
  refine L_iconst (n := 3) d_law_324 (by decide) (L_pc (pc' := 325) rfl ?_)
  refine L_iadd d_law_325 (by omega) (L_pc (pc' := 326) rfl ?_)
  refine L_sload d_law_326 (by omega) (L_pc (pc' := 327) rfl ?_)
  refine L_i2l d_law_327 (L_pc (pc' := 328) rfl ?_)
  refine L_bipush (n := 32) d_law_328 (by decide) (L_pc (pc' := 330) rfl ?_)
  refine L_lshl d_law_330 (L_pc (pc' := 331) rfl ?_)
  refine L_aload (i := 0) (n := 0) (len := 1) (Or.inl ⟨0, rfl, rfl, d_law_331⟩) rfl (by decide) (L_pc (pc' := 332) rfl ?_)
  refine L_iload (i := 3) (n := 3) (len := 1) (Or.inl ⟨3, rfl, rfl, d_law_332⟩) rfl (L_pc (pc' := 333) rfl ?_)
  refine L_iconst (n := 4) d_law_333 (by decide) (L_pc (pc' := 334) rfl ?_)
  refine L_iadd d_law_334 (by omega) (L_pc (pc' := 335) rfl ?_)
  refine L_sload d_law_335 (by omega) (L_pc (pc' := 336) rfl ?_)
  refine L_i2l d_law_336 (L_pc (pc' := 337) rfl ?_)
  refine L_ldc2 (x := 4294967295) d_law_337 k2_La_33 (by decide) (L_pc (pc' := 340) rfl ?_)
  refine L_land d_law_340 (L_pc (pc' := 341) rfl ?_)
  refine L_lor d_law_341 (L_pc (pc' := 342) rfl ?_)
  obtain ⟨Qd, hQd, kd⟩ := pr_setPart (X := X) hB (sc xs (i + 1)) (sc xs (i + 2)) (o_lor (o_lshl (sc xs (i + 3)) 32) (o_land (sc xs (i + 4)) 4294967295))
  refine L_callV (K1 := KE) (d2 := 408) (o := 1) (cl := 8) (as := [vi (sc xs (i + 1)), vi (sc xs (i + 2)), vl (o_lor (o_lshl (sc xs (i + 3)) 32) (o_land (sc xs (i + 4)) 4294967295))]) (rest := []) d_law_342 mf_De_setPart ml_La_40 rfl rfl (by decide) rfl rfl (Nat.le_of_ble_eq_true rfl) (by decide) ⟨Nat.le_refl _, Nat.le_refl _⟩ hQd (fun r1 M1 _ q1 => L_pc (pc' := 345) rfl ?_)
  obtain ⟨Qm, hQm, km⟩ := kd r1 M1 q1
  refine L_aload (i := 2) (n := 2) (len := 1) (Or.inl ⟨2, rfl, rfl, d_law_345⟩) rfl (by decide) (L_pc (pc' := 346) rfl ?_)
  refine L_aload (i := 0) (n := 0) (len := 1) (Or.inl ⟨0, rfl, rfl, d_law_346⟩) rfl (by decide) (L_pc (pc' := 347) rfl ?_)
  refine L_iload (i := 3) (n := 3) (len := 1) (Or.inl ⟨3, rfl, rfl, d_law_347⟩) rfl (L_pc (pc' := 348) rfl ?_)
  refine L_iconst (n := 1) d_law_348 (by decide) (L_pc (pc' := 349) rfl ?_)
  refine L_iadd d_law_349 (by omega) (L_pc (pc' := 350) rfl ?_)
  refine L_sload d_law_350 (by omega) (L_pc (pc' := 351) rfl ?_)
  refine L_aload (i := 0) (n := 0) (len := 1) (Or.inl ⟨0, rfl, rfl, d_law_351⟩) rfl (by decide) (L_pc (pc' := 352) rfl ?_)
  refine L_iload (i := 3) (n := 3) (len := 1) (Or.inl ⟨3, rfl, rfl, d_law_352⟩) rfl (L_pc (pc' := 353) rfl ?_)
  refine L_iconst (n := 2) d_law_353 (by decide) (L_pc (pc' := 354) rfl ?_)
  refine L_iadd d_law_354 (by omega) (L_pc (pc' := 355) rfl ?_)
  refine L_sload d_law_355 (by omega) (L_pc (pc' := 356) rfl ?_)
  refine L_aload (i := 0) (n := 0) (len := 1) (Or.inl ⟨0, rfl, rfl, d_law_356⟩) rfl (by decide) (L_pc (pc' := 357) rfl ?_)
  refine L_iload (i := 3) (n := 3) (len := 1) (Or.inl ⟨3, rfl, rfl, d_law_357⟩) rfl (L_pc (pc' := 358) rfl ?_)
  refine L_iconst (n := 3) d_law_358 (by decide) (L_pc (pc' := 359) rfl ?_)
  refine L_iadd d_law_359 (by omega) (L_pc (pc' := 360) rfl ?_)
  refine L_sload d_law_360 (by omega) (L_pc (pc' := 361) rfl ?_)
  refine L_i2l d_law_361 (L_pc (pc' := 362) rfl ?_)
  refine L_bipush (n := 32) d_law_362 (by decide) (L_pc (pc' := 364) rfl ?_)
  refine L_lshl d_law_364 (L_pc (pc' := 365) rfl ?_)
  refine L_aload (i := 0) (n := 0) (len := 1) (Or.inl ⟨0, rfl, rfl, d_law_365⟩) rfl (by decide) (L_pc (pc' := 366) rfl ?_)
  refine L_iload (i := 3) (n := 3) (len := 1) (Or.inl ⟨3, rfl, rfl, d_law_366⟩) rfl (L_pc (pc' := 367) rfl ?_)
  refine L_iconst (n := 4) d_law_367 (by decide) (L_pc (pc' := 368) rfl ?_)
  refine L_iadd d_law_368 (by omega) (L_pc (pc' := 369) rfl ?_)
  refine L_sload d_law_369 (by omega) (L_pc (pc' := 370) rfl ?_)
  refine L_i2l d_law_370 (L_pc (pc' := 371) rfl ?_)
  refine L_ldc2 (x := 4294967295) d_law_371 k2_La_33 (by decide) (L_pc (pc' := 374) rfl ?_)
  refine L_land d_law_374 (L_pc (pc' := 375) rfl ?_)
  refine L_lor d_law_375 (L_pc (pc' := 376) rfl ?_)
  refine L_callV (K1 := KE) (d2 := 6) (o := 55) (cl := 9) (as := [vi (sc xs (i + 1)), vi (sc xs (i + 2)), vl (o_lor (o_lshl (sc xs (i + 3)) 32) (o_land (sc xs (i + 4)) 4294967295))]) (rest := r1.toList ++ []) d_law_376 mf_Mo_setPart ml_La_44 rfl rfl (by decide) rfl rfl (pcs_r r1) (by decide) ⟨Nat.le_refl _, Nat.le_refl _⟩ hQm (fun r2 M2 _ q2 => L_pc (pc' := 379) rfl ?_)
  obtain ⟨z1, z2, z3⟩ := km r2 M2 q2
  exact L_same d_law_379 (by decide) z1 z3 (hk M2 z2)
theorem lw_case_6 (hB : BI n M) (hn : n ≤ 290) (h0i : 0 ≤ i) (hiL : i + 5 ≤ (L : Int)) (hL : L ≤ 320) (hk : ∀ M2, BI (n + 4) M2 → GL (Scr X L xs) X gt 409 1 KE (yL nm) code 4 ret 692 [(0, vr 3002), (1, vr 1), (2, vr 55), (3, vi i)] [] KE M2) : GL (Scr X L xs) X gt 409 1 KE (yL nm) code 4 ret 384 [(0, vr 3002), (1, vr 1), (2, vr 55), (3, vi i)] [] KE M := by
  refine L_aload (i := 1) (n := 1) (len := 1) (Or.inl ⟨1, rfl, rfl, d_law_384⟩) rfl (by decide) (L_pc (pc' := 385) rfl ?_)
  refine L_aload (i := 0) (n := 0) (len := 1) (Or.inl ⟨0, rfl, rfl, d_law_385⟩) rfl (by decide) (L_pc (pc' := 386) rfl ?_)
  refine L_iload (i := 3) (n := 3) (len := 1) (Or.inl ⟨3, rfl, rfl, d_law_386⟩) rfl (L_pc (pc' := 387) rfl ?_)
  refine L_iconst (n := 1) d_law_387 (by decide) (L_pc (pc' := 388) rfl ?_)
  refine L_iadd d_law_388 (by omega) (L_pc (pc' := 389) rfl ?_)
  refine L_sload d_law_389 (by omega) (L_pc (pc' := 390) rfl ?_)
  refine L_if_eq (tgt := 397) d_law_390 (by decide) (fun h0 => ?_) (fun h0 => L_pc (pc' := 393) rfl ?_)
  · skip
    refine L_iconst (n := 0) d_law_397 (by decide) (L_pc (pc' := 398) rfl ?_)
    obtain ⟨Qd, hQd, kd⟩ := pr_run (X := X) hB hn 0 (by decide)
    refine L_callV (K1 := KE) (d2 := 408) (o := 1) (cl := 8) (as := [vi 0]) (rest := []) d_law_398 mf_De_run ml_La_45 rfl rfl (by decide) rfl rfl (Nat.le_of_ble_eq_true rfl) (by decide) ⟨Nat.le_refl _, Nat.le_refl _⟩ hQd (fun r1 M1 _ q1 => L_pc (pc' := 401) rfl ?_)
    obtain ⟨Qm, hQm, km⟩ := kd r1 M1 q1
    refine L_aload (i := 2) (n := 2) (len := 1) (Or.inl ⟨2, rfl, rfl, d_law_401⟩) rfl (by decide) (L_pc (pc' := 402) rfl ?_)
    refine L_aload (i := 0) (n := 0) (len := 1) (Or.inl ⟨0, rfl, rfl, d_law_402⟩) rfl (by decide) (L_pc (pc' := 403) rfl ?_)
    refine L_iload (i := 3) (n := 3) (len := 1) (Or.inl ⟨3, rfl, rfl, d_law_403⟩) rfl (L_pc (pc' := 404) rfl ?_)
    refine L_iconst (n := 1) d_law_404 (by decide) (L_pc (pc' := 405) rfl ?_)
    refine L_iadd d_law_405 (by omega) (L_pc (pc' := 406) rfl ?_)
    refine L_sload d_law_406 (by omega) (L_pc (pc' := 407) rfl ?_)
    refine L_if_eq (tgt := 414) d_law_407 (by decide) (fun _ => ?_) (fun hh => absurd h0 hh)
    refine L_iconst (n := 0) d_law_414 (by decide) (L_pc (pc' := 415) rfl ?_)
    refine L_callV (K1 := KE) (d2 := 6) (o := 55) (cl := 9) (as := [vi 0]) (rest := r1.toList ++ []) d_law_415 mf_Mo_run ml_La_49 rfl rfl (by decide) rfl rfl (pcs_r r1) (by decide) ⟨Nat.le_refl _, Nat.le_refl _⟩ hQm (fun r2 M2 _ q2 => L_pc (pc' := 418) rfl ?_)
    obtain ⟨z1, z2, z3⟩ := km r2 M2 q2
    exact L_same d_law_418 (by decide) z1 z3 (hk M2 z2)
  · skip
    refine L_iconst (n := 1) d_law_393 (by decide) (L_pc (pc' := 394) rfl ?_)
    refine L_goto (tgt := 398) d_law_394 (by decide) ?_
    obtain ⟨Qd, hQd, kd⟩ := pr_run (X := X) hB hn 1 (by decide)
    refine L_callV (K1 := KE) (d2 := 408) (o := 1) (cl := 8) (as := [vi 1]) (rest := []) d_law_398 mf_De_run ml_La_45 rfl rfl (by decide) rfl rfl (Nat.le_of_ble_eq_true rfl) (by decide) ⟨Nat.le_refl _, Nat.le_refl _⟩ hQd (fun r1 M1 _ q1 => L_pc (pc' := 401) rfl ?_)
    obtain ⟨Qm, hQm, km⟩ := kd r1 M1 q1
    refine L_aload (i := 2) (n := 2) (len := 1) (Or.inl ⟨2, rfl, rfl, d_law_401⟩) rfl (by decide) (L_pc (pc' := 402) rfl ?_)
    refine L_aload (i := 0) (n := 0) (len := 1) (Or.inl ⟨0, rfl, rfl, d_law_402⟩) rfl (by decide) (L_pc (pc' := 403) rfl ?_)
    refine L_iload (i := 3) (n := 3) (len := 1) (Or.inl ⟨3, rfl, rfl, d_law_403⟩) rfl (L_pc (pc' := 404) rfl ?_)
    refine L_iconst (n := 1) d_law_404 (by decide) (L_pc (pc' := 405) rfl ?_)
    refine L_iadd d_law_405 (by omega) (L_pc (pc' := 406) rfl ?_)
    refine L_sload d_law_406 (by omega) (L_pc (pc' := 407) rfl ?_)
    refine L_if_eq (tgt := 414) d_law_407 (by decide) (fun hh => absurd hh h0) (fun _ => L_pc (pc' := 410) rfl ?_)
    refine L_iconst (n := 1) d_law_410 (by decide) (L_pc (pc' := 411) rfl ?_)
    refine L_goto (tgt := 415) d_law_411 (by decide) ?_
    refine L_callV (K1 := KE) (d2 := 6) (o := 55) (cl := 9) (as := [vi 1]) (rest := r1.toList ++ []) d_law_415 mf_Mo_run ml_La_49 rfl rfl (by decide) rfl rfl (pcs_r r1) (by decide) ⟨Nat.le_refl _, Nat.le_refl _⟩ hQm (fun r2 M2 _ q2 => L_pc (pc' := 418) rfl ?_)
    obtain ⟨z1, z2, z3⟩ := km r2 M2 q2
    exact L_same d_law_418 (by decide) z1 z3 (hk M2 z2)
theorem lw_case_7 (hB : BI n M) (hn : n ≤ 290) (h0i : 0 ≤ i) (hiL : i + 5 ≤ (L : Int)) (hL : L ≤ 320) (hk : ∀ M2, BI (n + 4) M2 → GL (Scr X L xs) X gt 409 1 KE (yL nm) code 4 ret 692 [(0, vr 3002), (1, vr 1), (2, vr 55), (3, vi i)] [] KE M2) : GL (Scr X L xs) X gt 409 1 KE (yL nm) code 4 ret 423 [(0, vr 3002), (1, vr 1), (2, vr 55), (3, vi i)] [] KE M := by
  refine L_aload (i := 1) (n := 1) (len := 1) (Or.inl ⟨1, rfl, rfl, d_law_423⟩) rfl (by decide) (L_pc (pc' := 424) rfl ?_)
  refine L_aload (i := 0) (n := 0) (len := 1) (Or.inl ⟨0, rfl, rfl, d_law_424⟩) rfl (by decide) (L_pc (pc' := 425) rfl ?_)
  refine L_iload (i := 3) (n := 3) (len := 1) (Or.inl ⟨3, rfl, rfl, d_law_425⟩) rfl (L_pc (pc' := 426) rfl ?_)
  refine L_iconst (n := 1) d_law_426 (by decide) (L_pc (pc' := 427) rfl ?_)
  refine L_iadd d_law_427 (by omega) (L_pc (pc' := 428) rfl ?_)
  refine L_sload d_law_428 (by omega) (L_pc (pc' := 429) rfl ?_)
  refine L_if_eq (tgt := 436) d_law_429 (by decide) (fun h0 => ?_) (fun h0 => L_pc (pc' := 432) rfl ?_)
  · skip
    refine L_iconst (n := 0) d_law_436 (by decide) (L_pc (pc' := 437) rfl ?_)
    obtain ⟨Qd, hQd, kd⟩ := pr_line (X := X) hB hn 0 (by decide)
    refine L_callV (K1 := KE) (d2 := 408) (o := 1) (cl := 8) (as := [vi 0]) (rest := []) d_law_437 mf_De_line ml_La_50 rfl rfl (by decide) rfl rfl (Nat.le_of_ble_eq_true rfl) (by decide) ⟨Nat.le_refl _, Nat.le_refl _⟩ hQd (fun r1 M1 _ q1 => L_pc (pc' := 440) rfl ?_)
    obtain ⟨Qm, hQm, km⟩ := kd r1 M1 q1
    refine L_aload (i := 2) (n := 2) (len := 1) (Or.inl ⟨2, rfl, rfl, d_law_440⟩) rfl (by decide) (L_pc (pc' := 441) rfl ?_)
    refine L_aload (i := 0) (n := 0) (len := 1) (Or.inl ⟨0, rfl, rfl, d_law_441⟩) rfl (by decide) (L_pc (pc' := 442) rfl ?_)
    refine L_iload (i := 3) (n := 3) (len := 1) (Or.inl ⟨3, rfl, rfl, d_law_442⟩) rfl (L_pc (pc' := 443) rfl ?_)
    refine L_iconst (n := 1) d_law_443 (by decide) (L_pc (pc' := 444) rfl ?_)
    refine L_iadd d_law_444 (by omega) (L_pc (pc' := 445) rfl ?_)
    refine L_sload d_law_445 (by omega) (L_pc (pc' := 446) rfl ?_)
    refine L_if_eq (tgt := 453) d_law_446 (by decide) (fun _ => ?_) (fun hh => absurd h0 hh)
    refine L_iconst (n := 0) d_law_453 (by decide) (L_pc (pc' := 454) rfl ?_)
    refine L_callV (K1 := KE) (d2 := 6) (o := 55) (cl := 9) (as := [vi 0]) (rest := r1.toList ++ []) d_law_454 mf_Mo_line ml_La_53 rfl rfl (by decide) rfl rfl (pcs_r r1) (by decide) ⟨Nat.le_refl _, Nat.le_refl _⟩ hQm (fun r2 M2 _ q2 => L_pc (pc' := 457) rfl ?_)
    obtain ⟨z1, z2, z3⟩ := km r2 M2 q2
    exact L_same d_law_457 (by decide) z1 z3 (hk M2 z2)
  · skip
    refine L_iconst (n := 1) d_law_432 (by decide) (L_pc (pc' := 433) rfl ?_)
    refine L_goto (tgt := 437) d_law_433 (by decide) ?_
    obtain ⟨Qd, hQd, kd⟩ := pr_line (X := X) hB hn 1 (by decide)
    refine L_callV (K1 := KE) (d2 := 408) (o := 1) (cl := 8) (as := [vi 1]) (rest := []) d_law_437 mf_De_line ml_La_50 rfl rfl (by decide) rfl rfl (Nat.le_of_ble_eq_true rfl) (by decide) ⟨Nat.le_refl _, Nat.le_refl _⟩ hQd (fun r1 M1 _ q1 => L_pc (pc' := 440) rfl ?_)
    obtain ⟨Qm, hQm, km⟩ := kd r1 M1 q1
    refine L_aload (i := 2) (n := 2) (len := 1) (Or.inl ⟨2, rfl, rfl, d_law_440⟩) rfl (by decide) (L_pc (pc' := 441) rfl ?_)
    refine L_aload (i := 0) (n := 0) (len := 1) (Or.inl ⟨0, rfl, rfl, d_law_441⟩) rfl (by decide) (L_pc (pc' := 442) rfl ?_)
    refine L_iload (i := 3) (n := 3) (len := 1) (Or.inl ⟨3, rfl, rfl, d_law_442⟩) rfl (L_pc (pc' := 443) rfl ?_)
    refine L_iconst (n := 1) d_law_443 (by decide) (L_pc (pc' := 444) rfl ?_)
    refine L_iadd d_law_444 (by omega) (L_pc (pc' := 445) rfl ?_)
    refine L_sload d_law_445 (by omega) (L_pc (pc' := 446) rfl ?_)
    refine L_if_eq (tgt := 453) d_law_446 (by decide) (fun hh => absurd hh h0) (fun _ => L_pc (pc' := 449) rfl ?_)
    refine L_iconst (n := 1) d_law_449 (by decide) (L_pc (pc' := 450) rfl ?_)
    refine L_goto (tgt := 454) d_law_450 (by decide) ?_
    refine L_callV (K1 := KE) (d2 := 6) (o := 55) (cl := 9) (as := [vi 1]) (rest := r1.toList ++ []) d_law_454 mf_Mo_line ml_La_53 rfl rfl (by decide) rfl rfl (pcs_r r1) (by decide) ⟨Nat.le_refl _, Nat.le_refl _⟩ hQm (fun r2 M2 _ q2 => L_pc (pc' := 457) rfl ?_)
    obtain ⟨z1, z2, z3⟩ := km r2 M2 q2
    exact L_same d_law_457 (by decide) z1 z3 (hk M2 z2)
theorem lw_case_8 (hB : BI n M) (hn : n ≤ 290) (h0i : 0 ≤ i) (hiL : i + 5 ≤ (L : Int)) (hL : L ≤ 320) (hk : ∀ M2, BI (n + 4) M2 → GL (Scr X L xs) X gt 409 1 KE (yL nm) code 4 ret 692 [(0, vr 3002), (1, vr 1), (2, vr 55), (3, vi i)] [] KE M2) : GL (Scr X L xs) X gt 409 1 KE (yL nm) code 4 ret 462 [(0, vr 3002), (1, vr 1), (2, vr 55), (3, vi i)] [] KE M := by
  refine L_aload (i := 1) (n := 1) (len := 1) (Or.inl ⟨1, rfl, rfl, d_law_462⟩) rfl (by decide) (L_pc (pc' := 463) rfl ?_)
  refine L_aload (i := 0) (n := 0) (len := 1) (Or.inl ⟨0, rfl, rfl, d_law_463⟩) rfl (by decide) (L_pc (pc' := 464) rfl ?_)
  refine L_iload (i := 3) (n := 3) (len := 1) (Or.inl ⟨3, rfl, rfl, d_law_464⟩) rfl (L_pc (pc' := 465) rfl ?_)
  refine L_iconst (n := 1) d_law_465 (by decide) (L_pc (pc' := 466) rfl ?_)
  refine L_iadd d_law_466 (by omega) (L_pc (pc' := 467) rfl ?_)
  refine L_sload d_law_467 (by omega) (L_pc (pc' := 468) rfl ?_)
  refine L_i2c d_law_468 (L_pc (pc' := 469) rfl ?_)
  obtain ⟨Qd, hQd, kd⟩ := pr_put (X := X) hB hn ((sc xs (i + 1)) % 65536)
  refine L_callV (K1 := KE) (d2 := 408) (o := 1) (cl := 8) (as := [vi ((sc xs (i + 1)) % 65536)]) (rest := []) d_law_469 mf_De_put ml_La_54 rfl rfl (by decide) rfl rfl (Nat.le_of_ble_eq_true rfl) (by decide) ⟨Nat.le_refl _, Nat.le_refl _⟩ hQd (fun r1 M1 _ q1 => L_pc (pc' := 472) rfl ?_)
  obtain ⟨Qm, hQm, km⟩ := kd r1 M1 q1
  refine L_aload (i := 2) (n := 2) (len := 1) (Or.inl ⟨2, rfl, rfl, d_law_472⟩) rfl (by decide) (L_pc (pc' := 473) rfl ?_)
  refine L_aload (i := 0) (n := 0) (len := 1) (Or.inl ⟨0, rfl, rfl, d_law_473⟩) rfl (by decide) (L_pc (pc' := 474) rfl ?_)
  refine L_iload (i := 3) (n := 3) (len := 1) (Or.inl ⟨3, rfl, rfl, d_law_474⟩) rfl (L_pc (pc' := 475) rfl ?_)
  refine L_iconst (n := 1) d_law_475 (by decide) (L_pc (pc' := 476) rfl ?_)
  refine L_iadd d_law_476 (by omega) (L_pc (pc' := 477) rfl ?_)
  refine L_sload d_law_477 (by omega) (L_pc (pc' := 478) rfl ?_)
  refine L_i2c d_law_478 (L_pc (pc' := 479) rfl ?_)
  refine L_callV (K1 := KE) (d2 := 6) (o := 55) (cl := 9) (as := [vi ((sc xs (i + 1)) % 65536)]) (rest := r1.toList ++ []) d_law_479 mf_Mo_put ml_La_58 rfl rfl (by decide) rfl rfl (pcs_r r1) (by decide) ⟨Nat.le_refl _, Nat.le_refl _⟩ hQm (fun r2 M2 _ q2 => L_pc (pc' := 482) rfl ?_)
  obtain ⟨z1, z2, z3⟩ := km r2 M2 q2
  exact L_same d_law_482 (by decide) z1 z3 (hk M2 z2)
theorem lw_case_9 (hB : BI n M) (hn : n ≤ 290) (h0i : 0 ≤ i) (hiL : i + 5 ≤ (L : Int)) (hL : L ≤ 320) (hk : ∀ M2, BI (n + 4) M2 → GL (Scr X L xs) X gt 409 1 KE (yL nm) code 4 ret 692 [(0, vr 3002), (1, vr 1), (2, vr 55), (3, vi i)] [] KE M2) : GL (Scr X L xs) X gt 409 1 KE (yL nm) code 4 ret 487 [(0, vr 3002), (1, vr 1), (2, vr 55), (3, vi i)] [] KE M := by
  refine L_aload (i := 1) (n := 1) (len := 1) (Or.inl ⟨1, rfl, rfl, d_law_487⟩) rfl (by decide) (L_pc (pc' := 488) rfl ?_)
  refine L_aload (i := 0) (n := 0) (len := 1) (Or.inl ⟨0, rfl, rfl, d_law_488⟩) rfl (by decide) (L_pc (pc' := 489) rfl ?_)
  refine L_iload (i := 3) (n := 3) (len := 1) (Or.inl ⟨3, rfl, rfl, d_law_489⟩) rfl (L_pc (pc' := 490) rfl ?_)
  refine L_iconst (n := 1) d_law_490 (by decide) (L_pc (pc' := 491) rfl ?_)
  refine L_iadd d_law_491 (by omega) (L_pc (pc' := 492) rfl ?_)
  refine L_sload d_law_492 (by omega) (L_pc (pc' := 493) rfl ?_)
  obtain ⟨Qd, hQd, kd⟩ := pr_eval (X := X) hB hn (sc xs (i + 1))
  refine L_callV (K1 := KE) (d2 := 408) (o := 1) (cl := 8) (as := [vi (sc xs (i + 1))]) (rest := []) d_law_493 mf_De_eval ml_La_59 rfl rfl (by decide) rfl rfl (Nat.le_of_ble_eq_true rfl) (by decide) ⟨Nat.le_refl _, Nat.le_refl _⟩ hQd (fun r1 M1 _ q1 => L_pc (pc' := 496) rfl ?_)
  obtain ⟨Qm, hQm, km⟩ := kd r1 M1 q1
  refine L_aload (i := 2) (n := 2) (len := 1) (Or.inl ⟨2, rfl, rfl, d_law_496⟩) rfl (by decide) (L_pc (pc' := 497) rfl ?_)
  refine L_aload (i := 0) (n := 0) (len := 1) (Or.inl ⟨0, rfl, rfl, d_law_497⟩) rfl (by decide) (L_pc (pc' := 498) rfl ?_)
  refine L_iload (i := 3) (n := 3) (len := 1) (Or.inl ⟨3, rfl, rfl, d_law_498⟩) rfl (L_pc (pc' := 499) rfl ?_)
  refine L_iconst (n := 1) d_law_499 (by decide) (L_pc (pc' := 500) rfl ?_)
  refine L_iadd d_law_500 (by omega) (L_pc (pc' := 501) rfl ?_)
  refine L_sload d_law_501 (by omega) (L_pc (pc' := 502) rfl ?_)
  refine L_callV (K1 := KE) (d2 := 6) (o := 55) (cl := 9) (as := [vi (sc xs (i + 1))]) (rest := r1.toList ++ []) d_law_502 mf_Mo_eval ml_La_62 rfl rfl (by decide) rfl rfl (pcs_r r1) (by decide) ⟨Nat.le_refl _, Nat.le_refl _⟩ hQm (fun r2 M2 _ q2 => L_pc (pc' := 505) rfl ?_)
  obtain ⟨z1, z2, z3⟩ := km r2 M2 q2
  exact L_same d_law_505 (by decide) z1 z3 (hk M2 z2)
theorem lw_case_10 (hB : BI n M) (hn : n ≤ 290) (h0i : 0 ≤ i) (hiL : i + 5 ≤ (L : Int)) (hL : L ≤ 320) (hk : ∀ M2, BI (n + 4) M2 → GL (Scr X L xs) X gt 409 1 KE (yL nm) code 4 ret 692 [(0, vr 3002), (1, vr 1), (2, vr 55), (3, vi i)] [] KE M2) : GL (Scr X L xs) X gt 409 1 KE (yL nm) code 4 ret 510 [(0, vr 3002), (1, vr 1), (2, vr 55), (3, vi i)] [] KE M := by
  refine L_aload (i := 1) (n := 1) (len := 1) (Or.inl ⟨1, rfl, rfl, d_law_510⟩) rfl (by decide) (L_pc (pc' := 511) rfl ?_)
  refine L_aload (i := 0) (n := 0) (len := 1) (Or.inl ⟨0, rfl, rfl, d_law_511⟩) rfl (by decide) (L_pc (pc' := 512) rfl ?_)
  refine L_iload (i := 3) (n := 3) (len := 1) (Or.inl ⟨3, rfl, rfl, d_law_512⟩) rfl (L_pc (pc' := 513) rfl ?_)
  refine L_iconst (n := 1) d_law_513 (by decide) (L_pc (pc' := 514) rfl ?_)
  refine L_iadd d_law_514 (by omega) (L_pc (pc' := 515) rfl ?_)
  refine L_sload d_law_515 (by omega) (L_pc (pc' := 516) rfl ?_)
  obtain ⟨Qd, hQd, kd⟩ := pr_again (X := X) hB hn (sc xs (i + 1))
  refine L_callV (K1 := KE) (d2 := 408) (o := 1) (cl := 8) (as := [vi (sc xs (i + 1))]) (rest := []) d_law_516 mf_De_again ml_La_63 rfl rfl (by decide) rfl rfl (Nat.le_of_ble_eq_true rfl) (by decide) ⟨Nat.le_refl _, Nat.le_refl _⟩ hQd (fun r1 M1 _ q1 => L_pc (pc' := 519) rfl ?_)
  obtain ⟨Qm, hQm, km⟩ := kd r1 M1 q1
  refine L_aload (i := 2) (n := 2) (len := 1) (Or.inl ⟨2, rfl, rfl, d_law_519⟩) rfl (by decide) (L_pc (pc' := 520) rfl ?_)
  refine L_aload (i := 0) (n := 0) (len := 1) (Or.inl ⟨0, rfl, rfl, d_law_520⟩) rfl (by decide) (L_pc (pc' := 521) rfl ?_)
  refine L_iload (i := 3) (n := 3) (len := 1) (Or.inl ⟨3, rfl, rfl, d_law_521⟩) rfl (L_pc (pc' := 522) rfl ?_)
  refine L_iconst (n := 1) d_law_522 (by decide) (L_pc (pc' := 523) rfl ?_)
  refine L_iadd d_law_523 (by omega) (L_pc (pc' := 524) rfl ?_)
  refine L_sload d_law_524 (by omega) (L_pc (pc' := 525) rfl ?_)
  refine L_callV (K1 := KE) (d2 := 6) (o := 55) (cl := 9) (as := [vi (sc xs (i + 1))]) (rest := r1.toList ++ []) d_law_525 mf_Mo_again ml_La_66 rfl rfl (by decide) rfl rfl (pcs_r r1) (by decide) ⟨Nat.le_refl _, Nat.le_refl _⟩ hQm (fun r2 M2 _ q2 => L_pc (pc' := 528) rfl ?_)
  obtain ⟨z1, z2, z3⟩ := km r2 M2 q2
  exact L_same d_law_528 (by decide) z1 z3 (hk M2 z2)
theorem lw_case_11 (hB : BI n M) (hn : n ≤ 290) (h0i : 0 ≤ i) (hiL : i + 5 ≤ (L : Int)) (hL : L ≤ 320) (hk : ∀ M2, BI (n + 4) M2 → GL (Scr X L xs) X gt 409 1 KE (yL nm) code 4 ret 692 [(0, vr 3002), (1, vr 1), (2, vr 55), (3, vi i)] [] KE M2) : GL (Scr X L xs) X gt 409 1 KE (yL nm) code 4 ret 533 [(0, vr 3002), (1, vr 1), (2, vr 55), (3, vi i)] [] KE M := by
  refine L_aload (i := 1) (n := 1) (len := 1) (Or.inl ⟨1, rfl, rfl, d_law_533⟩) rfl (by decide) (L_pc (pc' := 534) rfl ?_)
  refine L_aload (i := 0) (n := 0) (len := 1) (Or.inl ⟨0, rfl, rfl, d_law_534⟩) rfl (by decide) (L_pc (pc' := 535) rfl ?_)
  refine L_iload (i := 3) (n := 3) (len := 1) (Or.inl ⟨3, rfl, rfl, d_law_535⟩) rfl (L_pc (pc' := 536) rfl ?_)
  refine L_iconst (n := 1) d_law_536 (by decide) (L_pc (pc' := 537) rfl ?_)
  refine L_iadd d_law_537 (by omega) (L_pc (pc' := 538) rfl ?_)
  refine L_sload d_law_538 (by omega) (L_pc (pc' := 539) rfl ?_)
  refine L_aload (i := 0) (n := 0) (len := 1) (Or.inl ⟨0, rfl, rfl, d_law_539⟩) rfl (by decide) (L_pc (pc' := 540) rfl ?_)
  refine L_iload (i := 3) (n := 3) (len := 1) (Or.inl ⟨3, rfl, rfl, d_law_540⟩) rfl (L_pc (pc' := 541) rfl ?_)
  refine L_iconst (n := 2) d_law_541 (by decide) (L_pc (pc' := 542) rfl ?_)
  refine L_iadd d_law_542 (by omega) (L_pc (pc' := 543) rfl ?_)
  refine L_sload d_law_543 (by omega) (L_pc (pc' := 544) rfl ?_)
  obtain ⟨Qd, hQd, kd⟩ := pr_request (X := X) hB hn (sc xs (i + 1)) (sc xs (i + 2))
  refine L_callV (K1 := KE) (d2 := 408) (o := 1) (cl := 8) (as := [vi (sc xs (i + 1)), vi (sc xs (i + 2))]) (rest := []) d_law_544 mf_De_request ml_La_67 rfl rfl (by decide) rfl rfl (Nat.le_of_ble_eq_true rfl) (by decide) ⟨Nat.le_refl _, Nat.le_refl _⟩ hQd (fun r1 M1 _ q1 => L_pc (pc' := 547) rfl ?_)
  obtain ⟨Qm, hQm, km⟩ := kd r1 M1 q1
  refine L_aload (i := 2) (n := 2) (len := 1) (Or.inl ⟨2, rfl, rfl, d_law_547⟩) rfl (by decide) (L_pc (pc' := 548) rfl ?_)
  refine L_aload (i := 0) (n := 0) (len := 1) (Or.inl ⟨0, rfl, rfl, d_law_548⟩) rfl (by decide) (L_pc (pc' := 549) rfl ?_)
  refine L_iload (i := 3) (n := 3) (len := 1) (Or.inl ⟨3, rfl, rfl, d_law_549⟩) rfl (L_pc (pc' := 550) rfl ?_)
  refine L_iconst (n := 1) d_law_550 (by decide) (L_pc (pc' := 551) rfl ?_)
  refine L_iadd d_law_551 (by omega) (L_pc (pc' := 552) rfl ?_)
  refine L_sload d_law_552 (by omega) (L_pc (pc' := 553) rfl ?_)
  refine L_aload (i := 0) (n := 0) (len := 1) (Or.inl ⟨0, rfl, rfl, d_law_553⟩) rfl (by decide) (L_pc (pc' := 554) rfl ?_)
  refine L_iload (i := 3) (n := 3) (len := 1) (Or.inl ⟨3, rfl, rfl, d_law_554⟩) rfl (L_pc (pc' := 555) rfl ?_)
  refine L_iconst (n := 2) d_law_555 (by decide) (L_pc (pc' := 556) rfl ?_)
  refine L_iadd d_law_556 (by omega) (L_pc (pc' := 557) rfl ?_)
  refine L_sload d_law_557 (by omega) (L_pc (pc' := 558) rfl ?_)
  refine L_callV (K1 := KE) (d2 := 6) (o := 55) (cl := 9) (as := [vi (sc xs (i + 1)), vi (sc xs (i + 2))]) (rest := r1.toList ++ []) d_law_558 mf_Mo_request ml_La_70 rfl rfl (by decide) rfl rfl (pcs_r r1) (by decide) ⟨Nat.le_refl _, Nat.le_refl _⟩ hQm (fun r2 M2 _ q2 => L_pc (pc' := 561) rfl ?_)
  obtain ⟨z1, z2, z3⟩ := km r2 M2 q2
  exact L_same d_law_561 (by decide) z1 z3 (hk M2 z2)
theorem lw_case_12 (hB : BI n M) (hn : n ≤ 290) (h0i : 0 ≤ i) (hiL : i + 5 ≤ (L : Int)) (hL : L ≤ 320) (hk : ∀ M2, BI (n + 4) M2 → GL (Scr X L xs) X gt 409 1 KE (yL nm) code 4 ret 692 [(0, vr 3002), (1, vr 1), (2, vr 55), (3, vi i)] [] KE M2) : GL (Scr X L xs) X gt 409 1 KE (yL nm) code 4 ret 566 [(0, vr 3002), (1, vr 1), (2, vr 55), (3, vi i)] [] KE M := by
  refine L_aload (i := 1) (n := 1) (len := 1) (Or.inl ⟨1, rfl, rfl, d_law_566⟩) rfl (by decide) (L_pc (pc' := 567) rfl ?_)
  refine L_aload (i := 0) (n := 0) (len := 1) (Or.inl ⟨0, rfl, rfl, d_law_567⟩) rfl (by decide) (L_pc (pc' := 568) rfl ?_)
  refine L_iload (i := 3) (n := 3) (len := 1) (Or.inl ⟨3, rfl, rfl, d_law_568⟩) rfl (L_pc (pc' := 569) rfl ?_)
  refine L_iconst (n := 1) d_law_569 (by decide) (L_pc (pc' := 570) rfl ?_)
  refine L_iadd d_law_570 (by omega) (L_pc (pc' := 571) rfl ?_)
  refine L_sload d_law_571 (by omega) (L_pc (pc' := 572) rfl ?_)
  obtain ⟨Qd, hQd, kd⟩ := pr_answer (X := X) hB hn (sc xs (i + 1))
  refine L_callV (K1 := KE) (d2 := 408) (o := 1) (cl := 8) (as := [vi (sc xs (i + 1))]) (rest := []) d_law_572 mf_De_answer ml_La_71 rfl rfl (by decide) rfl rfl (Nat.le_of_ble_eq_true rfl) (by decide) ⟨Nat.le_refl _, Nat.le_refl _⟩ hQd (fun r1 M1 _ q1 => L_pc (pc' := 575) rfl ?_)
  obtain ⟨Qm, hQm, km⟩ := kd r1 M1 q1
  refine L_aload (i := 2) (n := 2) (len := 1) (Or.inl ⟨2, rfl, rfl, d_law_575⟩) rfl (by decide) (L_pc (pc' := 576) rfl ?_)
  refine L_aload (i := 0) (n := 0) (len := 1) (Or.inl ⟨0, rfl, rfl, d_law_576⟩) rfl (by decide) (L_pc (pc' := 577) rfl ?_)
  refine L_iload (i := 3) (n := 3) (len := 1) (Or.inl ⟨3, rfl, rfl, d_law_577⟩) rfl (L_pc (pc' := 578) rfl ?_)
  refine L_iconst (n := 1) d_law_578 (by decide) (L_pc (pc' := 579) rfl ?_)
  refine L_iadd d_law_579 (by omega) (L_pc (pc' := 580) rfl ?_)
  refine L_sload d_law_580 (by omega) (L_pc (pc' := 581) rfl ?_)
  refine L_callV (K1 := KE) (d2 := 6) (o := 55) (cl := 9) (as := [vi (sc xs (i + 1))]) (rest := r1.toList ++ []) d_law_581 mf_Mo_answer ml_La_74 rfl rfl (by decide) rfl rfl (pcs_r r1) (by decide) ⟨Nat.le_refl _, Nat.le_refl _⟩ hQm (fun r2 M2 _ q2 => L_pc (pc' := 584) rfl ?_)
  obtain ⟨z1, z2, z3⟩ := km r2 M2 q2
  exact L_same d_law_584 (by decide) z1 z3 (hk M2 z2)
theorem lw_case_13 (hB : BI n M) (hn : n ≤ 290) (h0i : 0 ≤ i) (hiL : i + 5 ≤ (L : Int)) (hL : L ≤ 320) (hk : ∀ M2, BI (n + 4) M2 → GL (Scr X L xs) X gt 409 1 KE (yL nm) code 4 ret 692 [(0, vr 3002), (1, vr 1), (2, vr 55), (3, vi i)] [] KE M2) : GL (Scr X L xs) X gt 409 1 KE (yL nm) code 4 ret 589 [(0, vr 3002), (1, vr 1), (2, vr 55), (3, vi i)] [] KE M := by
  refine L_aload (i := 1) (n := 1) (len := 1) (Or.inl ⟨1, rfl, rfl, d_law_589⟩) rfl (by decide) (L_pc (pc' := 590) rfl ?_)
  refine L_aload (i := 0) (n := 0) (len := 1) (Or.inl ⟨0, rfl, rfl, d_law_590⟩) rfl (by decide) (L_pc (pc' := 591) rfl ?_)
  refine L_iload (i := 3) (n := 3) (len := 1) (Or.inl ⟨3, rfl, rfl, d_law_591⟩) rfl (L_pc (pc' := 592) rfl ?_)
  refine L_iconst (n := 1) d_law_592 (by decide) (L_pc (pc' := 593) rfl ?_)
  refine L_iadd d_law_593 (by omega) (L_pc (pc' := 594) rfl ?_)
  refine L_sload d_law_594 (by omega) (L_pc (pc' := 595) rfl ?_)
  obtain ⟨Qd, hQd, kd⟩ := pr_refuse (X := X) hB hn (sc xs (i + 1))
  refine L_callV (K1 := KE) (d2 := 408) (o := 1) (cl := 8) (as := [vi (sc xs (i + 1))]) (rest := []) d_law_595 mf_De_refuse ml_La_75 rfl rfl (by decide) rfl rfl (Nat.le_of_ble_eq_true rfl) (by decide) ⟨Nat.le_refl _, Nat.le_refl _⟩ hQd (fun r1 M1 _ q1 => L_pc (pc' := 598) rfl ?_)
  obtain ⟨Qm, hQm, km⟩ := kd r1 M1 q1
  refine L_aload (i := 2) (n := 2) (len := 1) (Or.inl ⟨2, rfl, rfl, d_law_598⟩) rfl (by decide) (L_pc (pc' := 599) rfl ?_)
  refine L_aload (i := 0) (n := 0) (len := 1) (Or.inl ⟨0, rfl, rfl, d_law_599⟩) rfl (by decide) (L_pc (pc' := 600) rfl ?_)
  refine L_iload (i := 3) (n := 3) (len := 1) (Or.inl ⟨3, rfl, rfl, d_law_600⟩) rfl (L_pc (pc' := 601) rfl ?_)
  refine L_iconst (n := 1) d_law_601 (by decide) (L_pc (pc' := 602) rfl ?_)
  refine L_iadd d_law_602 (by omega) (L_pc (pc' := 603) rfl ?_)
  refine L_sload d_law_603 (by omega) (L_pc (pc' := 604) rfl ?_)
  refine L_callV (K1 := KE) (d2 := 6) (o := 55) (cl := 9) (as := [vi (sc xs (i + 1))]) (rest := r1.toList ++ []) d_law_604 mf_Mo_refuse ml_La_78 rfl rfl (by decide) rfl rfl (pcs_r r1) (by decide) ⟨Nat.le_refl _, Nat.le_refl _⟩ hQm (fun r2 M2 _ q2 => L_pc (pc' := 607) rfl ?_)
  obtain ⟨z1, z2, z3⟩ := km r2 M2 q2
  exact L_same d_law_607 (by decide) z1 z3 (hk M2 z2)
theorem lw_case_14 (hB : BI n M) (hn : n ≤ 290) (h0i : 0 ≤ i) (hiL : i + 5 ≤ (L : Int)) (hL : L ≤ 320) (hk : ∀ M2, BI (n + 4) M2 → GL (Scr X L xs) X gt 409 1 KE (yL nm) code 4 ret 692 [(0, vr 3002), (1, vr 1), (2, vr 55), (3, vi i)] [] KE M2) : GL (Scr X L xs) X gt 409 1 KE (yL nm) code 4 ret 612 [(0, vr 3002), (1, vr 1), (2, vr 55), (3, vi i)] [] KE M := by
  refine L_aload (i := 1) (n := 1) (len := 1) (Or.inl ⟨1, rfl, rfl, d_law_612⟩) rfl (by decide) (L_pc (pc' := 613) rfl ?_)
  refine L_aload (i := 0) (n := 0) (len := 1) (Or.inl ⟨0, rfl, rfl, d_law_613⟩) rfl (by decide) (L_pc (pc' := 614) rfl ?_)
  refine L_iload (i := 3) (n := 3) (len := 1) (Or.inl ⟨3, rfl, rfl, d_law_614⟩) rfl (L_pc (pc' := 615) rfl ?_)
  refine L_iconst (n := 1) d_law_615 (by decide) (L_pc (pc' := 616) rfl ?_)
  refine L_iadd d_law_616 (by omega) (L_pc (pc' := 617) rfl ?_)
  refine L_sload d_law_617 (by omega) (L_pc (pc' := 618) rfl ?_)
  refine L_aload (i := 0) (n := 0) (len := 1) (Or.inl ⟨0, rfl, rfl, d_law_618⟩) rfl (by decide) (L_pc (pc' := 619) rfl ?_)
  refine L_iload (i := 3) (n := 3) (len := 1) (Or.inl ⟨3, rfl, rfl, d_law_619⟩) rfl (L_pc (pc' := 620) rfl ?_)
  refine L_iconst (n := 2) d_law_620 (by decide) (L_pc (pc' := 621) rfl ?_)
  refine L_iadd d_law_621 (by omega) (L_pc (pc' := 622) rfl ?_)
  refine L_sload d_law_622 (by omega) (L_pc (pc' := 623) rfl ?_)
  obtain ⟨Qd, hQd, kd⟩ := pr_look (X := X) hB (sc xs (i + 1)) (sc xs (i + 2))
  refine L_callV (K1 := KE) (d2 := 408) (o := 1) (cl := 8) (as := [vi (sc xs (i + 1)), vi (sc xs (i + 2))]) (rest := []) d_law_623 mf_De_look ml_La_79 rfl rfl (by decide) rfl rfl (Nat.le_of_ble_eq_true rfl) (by decide) ⟨Nat.le_refl _, Nat.le_refl _⟩ hQd (fun r1 M1 _ q1 => L_pc (pc' := 626) rfl ?_)
  obtain ⟨Qm, hQm, km⟩ := kd r1 M1 q1
  refine L_aload (i := 2) (n := 2) (len := 1) (Or.inl ⟨2, rfl, rfl, d_law_626⟩) rfl (by decide) (L_pc (pc' := 627) rfl ?_)
  refine L_aload (i := 0) (n := 0) (len := 1) (Or.inl ⟨0, rfl, rfl, d_law_627⟩) rfl (by decide) (L_pc (pc' := 628) rfl ?_)
  refine L_iload (i := 3) (n := 3) (len := 1) (Or.inl ⟨3, rfl, rfl, d_law_628⟩) rfl (L_pc (pc' := 629) rfl ?_)
  refine L_iconst (n := 1) d_law_629 (by decide) (L_pc (pc' := 630) rfl ?_)
  refine L_iadd d_law_630 (by omega) (L_pc (pc' := 631) rfl ?_)
  refine L_sload d_law_631 (by omega) (L_pc (pc' := 632) rfl ?_)
  refine L_aload (i := 0) (n := 0) (len := 1) (Or.inl ⟨0, rfl, rfl, d_law_632⟩) rfl (by decide) (L_pc (pc' := 633) rfl ?_)
  refine L_iload (i := 3) (n := 3) (len := 1) (Or.inl ⟨3, rfl, rfl, d_law_633⟩) rfl (L_pc (pc' := 634) rfl ?_)
  refine L_iconst (n := 2) d_law_634 (by decide) (L_pc (pc' := 635) rfl ?_)
  refine L_iadd d_law_635 (by omega) (L_pc (pc' := 636) rfl ?_)
  refine L_sload d_law_636 (by omega) (L_pc (pc' := 637) rfl ?_)
  refine L_callV (K1 := KE) (d2 := 6) (o := 55) (cl := 9) (as := [vi (sc xs (i + 1)), vi (sc xs (i + 2))]) (rest := r1.toList ++ []) d_law_637 mf_Mo_look ml_La_82 rfl rfl (by decide) rfl rfl (pcs_r r1) (by decide) ⟨Nat.le_refl _, Nat.le_refl _⟩ hQm (fun r2 M2 _ q2 => L_pc (pc' := 640) rfl ?_)
  obtain ⟨z1, z2, z3⟩ := km r2 M2 q2
  exact L_same d_law_640 (by decide) z1 z3 (hk M2 z2)
theorem lw_case_15 (hB : BI n M) (hn : n ≤ 290) (h0i : 0 ≤ i) (hiL : i + 5 ≤ (L : Int)) (hL : L ≤ 320) (hk : ∀ M2, BI (n + 4) M2 → GL (Scr X L xs) X gt 409 1 KE (yL nm) code 4 ret 692 [(0, vr 3002), (1, vr 1), (2, vr 55), (3, vi i)] [] KE M2) : GL (Scr X L xs) X gt 409 1 KE (yL nm) code 4 ret 645 [(0, vr 3002), (1, vr 1), (2, vr 55), (3, vi i)] [] KE M := by
  refine L_aload (i := 1) (n := 1) (len := 1) (Or.inl ⟨1, rfl, rfl, d_law_645⟩) rfl (by decide) (L_pc (pc' := 646) rfl ?_)
  refine L_aload (i := 0) (n := 0) (len := 1) (Or.inl ⟨0, rfl, rfl, d_law_646⟩) rfl (by decide) (L_pc (pc' := 647) rfl ?_)
  refine L_iload (i := 3) (n := 3) (len := 1) (Or.inl ⟨3, rfl, rfl, d_law_647⟩) rfl (L_pc (pc' := 648) rfl ?_)
  refine L_iconst (n := 1) d_law_648 (by decide) (L_pc (pc' := 649) rfl ?_)
  refine L_iadd d_law_649 (by omega) (L_pc (pc' := 650) rfl ?_)
  refine L_sload d_law_650 (by omega) (L_pc (pc' := 651) rfl ?_)
  obtain ⟨Qd, hQd, kd⟩ := pr_value (X := X) hB (sc xs (i + 1))
  refine L_callV (K1 := KE) (d2 := 408) (o := 1) (cl := 8) (as := [vi (sc xs (i + 1))]) (rest := []) d_law_651 mf_De_value ml_La_83 rfl rfl (by decide) rfl rfl (Nat.le_of_ble_eq_true rfl) (by decide) ⟨Nat.le_refl _, Nat.le_refl _⟩ hQd (fun r1 M1 _ q1 => L_pc (pc' := 654) rfl ?_)
  obtain ⟨Qm, hQm, km⟩ := kd r1 M1 q1
  refine L_aload (i := 2) (n := 2) (len := 1) (Or.inl ⟨2, rfl, rfl, d_law_654⟩) rfl (by decide) (L_pc (pc' := 655) rfl ?_)
  refine L_aload (i := 0) (n := 0) (len := 1) (Or.inl ⟨0, rfl, rfl, d_law_655⟩) rfl (by decide) (L_pc (pc' := 656) rfl ?_)
  refine L_iload (i := 3) (n := 3) (len := 1) (Or.inl ⟨3, rfl, rfl, d_law_656⟩) rfl (L_pc (pc' := 657) rfl ?_)
  refine L_iconst (n := 1) d_law_657 (by decide) (L_pc (pc' := 658) rfl ?_)
  refine L_iadd d_law_658 (by omega) (L_pc (pc' := 659) rfl ?_)
  refine L_sload d_law_659 (by omega) (L_pc (pc' := 660) rfl ?_)
  refine L_callV (K1 := KE) (d2 := 6) (o := 55) (cl := 9) (as := [vi (sc xs (i + 1))]) (rest := r1.toList ++ []) d_law_660 mf_Mo_value ml_La_87 rfl rfl (by decide) rfl rfl (pcs_r r1) (by decide) ⟨Nat.le_refl _, Nat.le_refl _⟩ hQm (fun r2 M2 _ q2 => L_pc (pc' := 663) rfl ?_)
  obtain ⟨z1, z2, z3⟩ := km r2 M2 q2
  exact L_samel d_law_663 d_law_664 (by decide) z1 z3 (hk M2 z2)
theorem lw_case_16 (hB : BI n M) (hn : n ≤ 290) (h0i : 0 ≤ i) (hiL : i + 5 ≤ (L : Int)) (hL : L ≤ 320) (hk : ∀ M2, BI (n + 4) M2 → GL (Scr X L xs) X gt 409 1 KE (yL nm) code 4 ret 692 [(0, vr 3002), (1, vr 1), (2, vr 55), (3, vi i)] [] KE M2) : GL (Scr X L xs) X gt 409 1 KE (yL nm) code 4 ret 669 [(0, vr 3002), (1, vr 1), (2, vr 55), (3, vi i)] [] KE M := by
  refine L_aload (i := 1) (n := 1) (len := 1) (Or.inl ⟨1, rfl, rfl, d_law_669⟩) rfl (by decide) (L_pc (pc' := 670) rfl ?_)
  refine L_aload (i := 0) (n := 0) (len := 1) (Or.inl ⟨0, rfl, rfl, d_law_670⟩) rfl (by decide) (L_pc (pc' := 671) rfl ?_)
  refine L_iload (i := 3) (n := 3) (len := 1) (Or.inl ⟨3, rfl, rfl, d_law_671⟩) rfl (L_pc (pc' := 672) rfl ?_)
  refine L_iconst (n := 1) d_law_672 (by decide) (L_pc (pc' := 673) rfl ?_)
  refine L_iadd d_law_673 (by omega) (L_pc (pc' := 674) rfl ?_)
  refine L_sload d_law_674 (by omega) (L_pc (pc' := 675) rfl ?_)
  obtain ⟨Qd, hQd, kd⟩ := pr_count (X := X) hB hn (sc xs (i + 1))
  refine L_callV (K1 := KE) (d2 := 408) (o := 1) (cl := 8) (as := [vi (sc xs (i + 1))]) (rest := []) d_law_675 mf_De_count ml_La_88 rfl rfl (by decide) rfl rfl (Nat.le_of_ble_eq_true rfl) (by decide) ⟨Nat.le_refl _, Nat.le_refl _⟩ hQd (fun r1 M1 _ q1 => L_pc (pc' := 678) rfl ?_)
  obtain ⟨Qm, hQm, km⟩ := kd r1 M1 q1
  refine L_aload (i := 2) (n := 2) (len := 1) (Or.inl ⟨2, rfl, rfl, d_law_678⟩) rfl (by decide) (L_pc (pc' := 679) rfl ?_)
  refine L_aload (i := 0) (n := 0) (len := 1) (Or.inl ⟨0, rfl, rfl, d_law_679⟩) rfl (by decide) (L_pc (pc' := 680) rfl ?_)
  refine L_iload (i := 3) (n := 3) (len := 1) (Or.inl ⟨3, rfl, rfl, d_law_680⟩) rfl (L_pc (pc' := 681) rfl ?_)
  refine L_iconst (n := 1) d_law_681 (by decide) (L_pc (pc' := 682) rfl ?_)
  refine L_iadd d_law_682 (by omega) (L_pc (pc' := 683) rfl ?_)
  refine L_sload d_law_683 (by omega) (L_pc (pc' := 684) rfl ?_)
  refine L_callV (K1 := KE) (d2 := 6) (o := 55) (cl := 9) (as := [vi (sc xs (i + 1))]) (rest := r1.toList ++ []) d_law_684 mf_Mo_count ml_La_91 rfl rfl (by decide) rfl rfl (pcs_r r1) (by decide) ⟨Nat.le_refl _, Nat.le_refl _⟩ hQm (fun r2 M2 _ q2 => L_pc (pc' := 687) rfl ?_)
  obtain ⟨z1, z2, z3⟩ := km r2 M2 q2
  exact L_same d_law_687 (by decide) z1 z3 (hk M2 z2)
theorem lw_body (hB : BI n M) (hn : n ≤ 290) (h0i : 0 ≤ i) (hiL : i + 5 ≤ (L : Int)) (hL : L ≤ 320) (hk : ∀ M2, BI (n + 4) M2 → GL (Scr X L xs) X gt 409 1 KE (yL nm) code 4 ret 692 [(0, vr 3002), (1, vr 1), (2, vr 55), (3, vi i)] [] KE M2) : GL (Scr X L xs) X gt 409 1 KE (yL nm) code 4 ret 26 [(0, vr 3002), (1, vr 1), (2, vr 55), (3, vi i)] [] KE M := by
  refine L_aload (i := 0) (n := 0) (len := 1) (Or.inl ⟨0, rfl, rfl, d_law_26⟩) rfl (by decide) (L_pc (pc' := 27) rfl ?_)
  refine L_iload (i := 3) (n := 3) (len := 1) (Or.inl ⟨3, rfl, rfl, d_law_27⟩) rfl (L_pc (pc' := 28) rfl ?_)
  refine L_sload d_law_28 (by omega) (L_pc (pc' := 29) rfl ?_)
  refine L_bipush (n := 31) d_law_29 (by decide) (L_pc (pc' := 31) rfl ?_)
  refine L_iand d_law_31 (L_pc (pc' := 32) rfl ?_)
  by_cases h0 : o_iand (sc xs i) 31 = 0
  · exact L_tableIn (off := 84) (tgt := 116) d_law_32 (by omega) (by rw [h0]; rfl) (by decide) (lw_case_0 hB hn h0i hiL hL hk)
  by_cases h1 : o_iand (sc xs i) 31 = 1
  · exact L_tableIn (off := 107) (tgt := 139) d_law_32 (by omega) (by rw [h1]; rfl) (by decide) (lw_case_1 hB hn h0i hiL hL hk)
  by_cases h2 : o_iand (sc xs i) 31 = 2
  · exact L_tableIn (off := 150) (tgt := 182) d_law_32 (by omega) (by rw [h2]; rfl) (by decide) (lw_case_2 hB hn h0i hiL hL hk)
  by_cases h3 : o_iand (sc xs i) 31 = 3
  · exact L_tableIn (off := 183) (tgt := 215) d_law_32 (by omega) (by rw [h3]; rfl) (by decide) (lw_case_3 hB hn h0i hiL hL hk)
  by_cases h4 : o_iand (sc xs i) 31 = 4
  · exact L_tableIn (off := 216) (tgt := 248) d_law_32 (by omega) (by rw [h4]; rfl) (by decide) (lw_case_4 hB hn h0i hiL hL hk)
  by_cases h5 : o_iand (sc xs i) 31 = 5
  · exact L_tableIn (off := 279) (tgt := 311) d_law_32 (by omega) (by rw [h5]; rfl) (by decide) (lw_case_5 hB hn h0i hiL hL hk)
  by_cases h6 : o_iand (sc xs i) 31 = 6
  · exact L_tableIn (off := 352) (tgt := 384) d_law_32 (by omega) (by rw [h6]; rfl) (by decide) (lw_case_6 hB hn h0i hiL hL hk)
  by_cases h7 : o_iand (sc xs i) 31 = 7
  · exact L_tableIn (off := 391) (tgt := 423) d_law_32 (by omega) (by rw [h7]; rfl) (by decide) (lw_case_7 hB hn h0i hiL hL hk)
  by_cases h8 : o_iand (sc xs i) 31 = 8
  · exact L_tableIn (off := 430) (tgt := 462) d_law_32 (by omega) (by rw [h8]; rfl) (by decide) (lw_case_8 hB hn h0i hiL hL hk)
  by_cases h9 : o_iand (sc xs i) 31 = 9
  · exact L_tableIn (off := 455) (tgt := 487) d_law_32 (by omega) (by rw [h9]; rfl) (by decide) (lw_case_9 hB hn h0i hiL hL hk)
  by_cases h10 : o_iand (sc xs i) 31 = 10
  · exact L_tableIn (off := 478) (tgt := 510) d_law_32 (by omega) (by rw [h10]; rfl) (by decide) (lw_case_10 hB hn h0i hiL hL hk)
  by_cases h11 : o_iand (sc xs i) 31 = 11
  · exact L_tableIn (off := 501) (tgt := 533) d_law_32 (by omega) (by rw [h11]; rfl) (by decide) (lw_case_11 hB hn h0i hiL hL hk)
  by_cases h12 : o_iand (sc xs i) 31 = 12
  · exact L_tableIn (off := 534) (tgt := 566) d_law_32 (by omega) (by rw [h12]; rfl) (by decide) (lw_case_12 hB hn h0i hiL hL hk)
  by_cases h13 : o_iand (sc xs i) 31 = 13
  · exact L_tableIn (off := 557) (tgt := 589) d_law_32 (by omega) (by rw [h13]; rfl) (by decide) (lw_case_13 hB hn h0i hiL hL hk)
  by_cases h14 : o_iand (sc xs i) 31 = 14
  · exact L_tableIn (off := 580) (tgt := 612) d_law_32 (by omega) (by rw [h14]; rfl) (by decide) (lw_case_14 hB hn h0i hiL hL hk)
  by_cases h15 : o_iand (sc xs i) 31 = 15
  · exact L_tableIn (off := 613) (tgt := 645) d_law_32 (by omega) (by rw [h15]; rfl) (by decide) (lw_case_15 hB hn h0i hiL hL hk)
  by_cases h16 : o_iand (sc xs i) 31 = 16
  · exact L_tableIn (off := 637) (tgt := 669) d_law_32 (by omega) (by rw [h16]; rfl) (by decide) (lw_case_16 hB hn h0i hiL hL hk)
  exact L_tableOut (tgt := 692) d_law_32 (by omega) (by decide) (hk M (BI_up hB (by omega)))
theorem lw_loop (hL : L ≤ 320) : ∀ (f : Nat) (i n : Int) (M : Mem), (L : Int) - i ≤ f → 0 ≤ i → 5 * n ≤ 4 * i → BI n M → GL (Scr X L xs) X gt 409 1 KE (yL nm) code 4 ret 18 [(0, vr 3002), (1, vr 1), (2, vr 55), (3, vi i)] [] KE M := by
  intro f
  induction f with
  | zero =>
    intro i n M h1 h2 h3 hB
    refine L_iload (i := 3) (n := 3) (len := 1) (Or.inl ⟨3, rfl, rfl, d_law_18⟩) rfl (L_pc (pc' := 19) rfl ?_)
    refine L_aload (i := 0) (n := 0) (len := 1) (Or.inl ⟨0, rfl, rfl, d_law_19⟩) rfl (by decide) (L_pc (pc' := 20) rfl ?_)
    refine L_slen d_law_20 (L_pc (pc' := 21) rfl ?_)
    refine L_iconst (n := 5) d_law_21 (by decide) (L_pc (pc' := 22) rfl ?_)
    refine L_isub d_law_22 (by omega) (L_pc (pc' := 23) rfl ?_)
    refine L_icmp_gt (tgt := 698) d_law_23 (by decide) (fun _ => ?_) (fun h => absurd h (by omega))
    exact L_iconst (n := 1) d_law_698 (by decide) (L_pc (pc' := 699) rfl (L_iret1 d_law_699 rfl))
  | succ f ih =>
    intro i n M h1 h2 h3 hB
    refine L_iload (i := 3) (n := 3) (len := 1) (Or.inl ⟨3, rfl, rfl, d_law_18⟩) rfl (L_pc (pc' := 19) rfl ?_)
    refine L_aload (i := 0) (n := 0) (len := 1) (Or.inl ⟨0, rfl, rfl, d_law_19⟩) rfl (by decide) (L_pc (pc' := 20) rfl ?_)
    refine L_slen d_law_20 (L_pc (pc' := 21) rfl ?_)
    refine L_iconst (n := 5) d_law_21 (by decide) (L_pc (pc' := 22) rfl ?_)
    refine L_isub d_law_22 (by omega) (L_pc (pc' := 23) rfl ?_)
    refine L_icmp_gt (tgt := 698) d_law_23 (by decide) (fun _ => ?_) (fun h => L_pc (pc' := 26) rfl ?_)
    · exact L_iconst (n := 1) d_law_698 (by decide) (L_pc (pc' := 699) rfl (L_iret1 d_law_699 rfl))
    refine lw_body hB (by omega) h2 (by omega) hL (fun M2 h4 => ?_)
    refine L_iinc (i := 3) (n := 3) (z := 5) (ls' := [(3, vi (i + 5)), (0, vr 3002), (1, vr 1), (2, vr 55)]) d_law_692 rfl (by decide) (by omega) rfl (L_pc (pc' := 695) rfl ?_)
    refine L_goto (tgt := 18) d_law_695 (by decide) ?_
    refine L_ls (ls' := [(0, vr 3002), (1, vr 1), (2, vr 55), (3, vi (i + 5))]) (by intro z hz; simp only [List.mem_cons] at hz ⊢; grind) ?_
    exact ih (i + 5) (n + 4) M2 (by omega) (by omega) (by omega) h4
end LL
