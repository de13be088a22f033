def eqX (M M' : Mem) : Prop := ∀ c i, ¬ (c = 55 ∧ i = 47) → M' c i = M c i
def needF (M : Mem) (p v : Int) : Int × Int := if M 71 p = 0 then (1, p) else (0, v)
def intoF (M : Mem) (o v x y : Int) : Int × Int :=
  if x = 0 then (2, 2) else if o = 60 then needF M (pieceM 1 x v) (M 62 (26 * x + v)) else if M 71 (pieceM 3 x 0) = 0 then (1, pieceM 3 x 0)
  else if o = 61 then (0, M 61 x) else if y < 0 ∨ M 61 x ≤ y then (2, 3) else needF M (pieceM 2 x (w32 y)) (M 62 (26 * x + w32 y))
def toK (o v : Int) : Int := if o = 63 then 4 + v else v
def fitF (M : Mem) (o v x a : Int) : Int × Int :=
  if toK o v < 4 then (0, if toK o v = 2 then o_land x 65535 else if toK o v = 0 then w32 x else x)
  else if x = 0 ∨ suitsB M a (toK o v) = true then (if o = 63 then (0, if x = 0 then 0 else 1) else (0, x))
  else if M 71 (pieceM 4 (w32 x) 0) = 0 then (1, pieceM 4 (w32 x) 0)
  else if o = 63 then (0, b2i (suitsB M (M 60 (w32 x)) (toK o v))) else if suitsB M (M 60 (w32 x)) (toK o v) = true then (0, x) else (2, 4)
def cmpB (o x y : Int) : Int := if (o = 34 ∧ x < y) ∨ (o = 35 ∧ x ≤ y) ∨ (o = 36 ∧ y < x) ∨ (o = 37 ∧ y ≤ x) ∨ (o = 41 ∧ x = y) ∨ (¬ o = 34 ∧ ¬ o = 35 ∧ ¬ o = 36 ∧ ¬ o = 37 ∧ ¬ o = 41 ∧ ¬ x = y) then 1 else 0
def reckF (o k x y : Int) : Int × Int :=
  if o = 27 then (0, o_ladd x y) else if o = 28 then (0, o_lsub x y) else if o = 29 then (0, o_lmul x y)
  else if o = 30 ∨ o = 31 then (if y = 0 then (2, 1) else (0, if o = 30 then o_ldiv x y else o_lrem x y))
  else if 38 ≤ o ∧ o ≤ 40 then (if k = 1 then (0, if o = 38 then o_lshl x (o_iand (w32 y) 63) else if o = 39 then o_lshr x (o_iand (w32 y) 63) else o_lushr x (o_iand (w32 y) 63))
    else (0, if o = 38 then o_lshl x (o_iand (w32 y) 31) else if o = 39 then o_lshr x (o_iand (w32 y) 31) else o_iushr (w32 x) (o_iand (w32 y) 31)))
  else if o = 43 then (0, o_land x y) else if o = 45 then (0, o_lor x y) else if o = 47 then (0, o_lxor x y) else (0, cmpB o x y)
def cmpQ (M : Mem) (n : Int) (R : Int × Int) (M' : Mem) : Prop :=
  (∃ v, R = (0, v) ∧ eqX (setM M n v) M') ∨ (∃ p, R = (1, p) ∧ eqX M M' ∧ M' 55 47 = p ∧ 0 ≤ p ∧ p < 423) ∨ (∃ t, R = (2, t) ∧ 0 < t ∧ t ≤ 4 ∧ eqX (mset M 55 46 t) M')
theorem eqX_has {M : Mem} {p : Int} : eqX M (hasM M p) := by
  intro c i h; unfold hasM mset; rw [if_neg h]
theorem eqX_set {M M' : Mem} {n v : Int} (h : eqX M M') : eqX (setM M n v) (setM M' n v) := by
  intro c i hc
  have e := h c i hc
  have e2 := h 81 n (by simp)
  unfold setM mset
  rw [e, e2]
theorem eqX_mset {M M' : Mem} {c : Nat} {i v : Int} (h : eqX M M') : eqX (mset M c i v) (mset M' c i v) := by
  intro c' i' hc
  have e := h c' i' hc
  unfold mset
  rw [e]
theorem eqX_rfl {M : Mem} : eqX M M := fun _ _ _ => rfl
theorem eqX_tr {M M' M'' : Mem} (h : eqX M M') (h2 : eqX M' M'') : eqX M M'' := fun c i hc => (h2 c i hc).trans (h c i hc)
theorem cmp_v {M : Mem} {n v : Int} {R : Int × Int} (h : R = (0, v)) : cmpQ M n R (setM M n v) := Or.inl ⟨v, h, eqX_rfl⟩
theorem cmp_vh {M : Mem} {n v p : Int} {R : Int × Int} (h : R = (0, v)) : cmpQ M n R (setM (hasM M p) n v) := Or.inl ⟨v, h, eqX_set eqX_has⟩
theorem cmp_vhh {M : Mem} {n v p p' : Int} {R : Int × Int} (h : R = (0, v)) : cmpQ M n R (setM (hasM (hasM M p) p') n v) := Or.inl ⟨v, h, eqX_set (eqX_tr eqX_has eqX_has)⟩
theorem cmp_p {M : Mem} {n p : Int} {R : Int × Int} (h : R = (1, p)) (h2 : M 71 p = 0) (hp : 0 ≤ p ∧ p < 423) : cmpQ M n R (hasM M p) := Or.inr (Or.inl ⟨p, h, eqX_has, by show (if M 71 p = 0 then p else -1) = p; rw [if_pos h2], hp⟩)
theorem cmp_ph {M : Mem} {n p p' : Int} {R : Int × Int} (h : R = (1, p)) (h2 : M 71 p = 0) (hp : 0 ≤ p ∧ p < 423) : cmpQ M n R (hasM (hasM M p') p) := Or.inr (Or.inl ⟨p, h, eqX_tr eqX_has eqX_has, by show (if M 71 p = 0 then p else -1) = p; rw [if_pos h2], hp⟩)
theorem cmp_t {M : Mem} {n t : Int} {R : Int × Int} (h : R = (2, t)) (ht : 0 < t ∧ t ≤ 4) : cmpQ M n R (mset M 55 46 t) := Or.inr (Or.inr ⟨t, h, ht.1, ht.2, eqX_rfl⟩)
theorem cmp_th {M : Mem} {n t p : Int} {R : Int × Int} (h : R = (2, t)) (ht : 0 < t ∧ t ≤ 4) : cmpQ M n R (mset (hasM M p) 55 46 t) := Or.inr (Or.inr ⟨t, h, ht.1, ht.2, eqX_mset eqX_has⟩)
theorem d_Mo_reckon_0 : decode b_Mo_reckon 0 = .ok (.aload_n 0, 1) := by decide +kernel
theorem d_Mo_reckon_1 : decode b_Mo_reckon 1 = .ok (.getfield 72, 3) := by decide +kernel
theorem d_Mo_reckon_4 : decode b_Mo_reckon 4 = .ok (.iload_n 1, 1) := by decide +kernel
theorem d_Mo_reckon_5 : decode b_Mo_reckon 5 = .ok (.iaload, 1) := by decide +kernel
theorem d_Mo_reckon_6 : decode b_Mo_reckon 6 = .ok (.istore_n 2, 1) := by decide +kernel
theorem d_Mo_reckon_7 : decode b_Mo_reckon 7 = .ok (.aload_n 0, 1) := by decide +kernel
theorem d_Mo_reckon_8 : decode b_Mo_reckon 8 = .ok (.getfield 93, 3) := by decide +kernel
theorem d_Mo_reckon_11 : decode b_Mo_reckon 11 = .ok (.aload_n 0, 1) := by decide +kernel
theorem d_Mo_reckon_12 : decode b_Mo_reckon 12 = .ok (.getfield 75, 3) := by decide +kernel
theorem d_Mo_reckon_15 : decode b_Mo_reckon 15 = .ok (.iload_n 1, 1) := by decide +kernel
theorem d_Mo_reckon_16 : decode b_Mo_reckon 16 = .ok (.iaload, 1) := by decide +kernel
theorem d_Mo_reckon_17 : decode b_Mo_reckon 17 = .ok (.laload, 1) := by decide +kernel
theorem d_Mo_reckon_18 : decode b_Mo_reckon 18 = .ok (.lstore_n 3, 1) := by decide +kernel
theorem d_Mo_reckon_19 : decode b_Mo_reckon 19 = .ok (.aload_n 0, 1) := by decide +kernel
theorem d_Mo_reckon_20 : decode b_Mo_reckon 20 = .ok (.getfield 93, 3) := by decide +kernel
theorem d_Mo_reckon_23 : decode b_Mo_reckon 23 = .ok (.aload_n 0, 1) := by decide +kernel
theorem d_Mo_reckon_24 : decode b_Mo_reckon 24 = .ok (.getfield 78, 3) := by decide +kernel
theorem d_Mo_reckon_27 : decode b_Mo_reckon 27 = .ok (.iload_n 1, 1) := by decide +kernel
theorem d_Mo_reckon_28 : decode b_Mo_reckon 28 = .ok (.iaload, 1) := by decide +kernel
theorem d_Mo_reckon_29 : decode b_Mo_reckon 29 = .ok (.laload, 1) := by decide +kernel
theorem d_Mo_reckon_30 : decode b_Mo_reckon 30 = .ok (.lstore 5, 2) := by decide +kernel
theorem d_Mo_reckon_32 : decode b_Mo_reckon 32 = .ok (.aload_n 0, 1) := by decide +kernel
theorem d_Mo_reckon_33 : decode b_Mo_reckon 33 = .ok (.getfield 87, 3) := by decide +kernel
theorem d_Mo_reckon_36 : decode b_Mo_reckon 36 = .ok (.iload_n 1, 1) := by decide +kernel
theorem d_Mo_reckon_37 : decode b_Mo_reckon 37 = .ok (.iaload, 1) := by decide +kernel
theorem d_Mo_reckon_38 : decode b_Mo_reckon 38 = .ok (.iconst 1, 1) := by decide +kernel
theorem d_Mo_reckon_39 : decode b_Mo_reckon 39 = .ok (.if_icmp .ne 7, 3) := by decide +kernel
theorem d_Mo_reckon_42 : decode b_Mo_reckon 42 = .ok (.iconst 1, 1) := by decide +kernel
theorem d_Mo_reckon_43 : decode b_Mo_reckon 43 = .ok (.goto 4, 3) := by decide +kernel
theorem d_Mo_reckon_46 : decode b_Mo_reckon 46 = .ok (.iconst 0, 1) := by decide +kernel
theorem d_Mo_reckon_47 : decode b_Mo_reckon 47 = .ok (.istore 7, 2) := by decide +kernel
theorem d_Mo_reckon_49 : decode b_Mo_reckon 49 = .ok (.iload_n 2, 1) := by decide +kernel
theorem d_Mo_reckon_50 : decode b_Mo_reckon 50 = .ok (.bipush 27, 2) := by decide +kernel
theorem d_Mo_reckon_52 : decode b_Mo_reckon 52 = .ok (.if_icmp .eq 15, 3) := by decide +kernel
theorem d_Mo_reckon_55 : decode b_Mo_reckon 55 = .ok (.iload_n 2, 1) := by decide +kernel
theorem d_Mo_reckon_56 : decode b_Mo_reckon 56 = .ok (.bipush 28, 2) := by decide +kernel
theorem d_Mo_reckon_58 : decode b_Mo_reckon 58 = .ok (.if_icmp .eq 9, 3) := by decide +kernel
theorem d_Mo_reckon_61 : decode b_Mo_reckon 61 = .ok (.iload_n 2, 1) := by decide +kernel
theorem d_Mo_reckon_62 : decode b_Mo_reckon 62 = .ok (.bipush 29, 2) := by decide +kernel
theorem d_Mo_reckon_64 : decode b_Mo_reckon 64 = .ok (.if_icmp .ne 41, 3) := by decide +kernel
theorem d_Mo_reckon_67 : decode b_Mo_reckon 67 = .ok (.aload_n 0, 1) := by decide +kernel
theorem d_Mo_reckon_68 : decode b_Mo_reckon 68 = .ok (.iload_n 1, 1) := by decide +kernel
theorem d_Mo_reckon_69 : decode b_Mo_reckon 69 = .ok (.iload_n 2, 1) := by decide +kernel
theorem d_Mo_reckon_70 : decode b_Mo_reckon 70 = .ok (.bipush 27, 2) := by decide +kernel
theorem d_Mo_reckon_72 : decode b_Mo_reckon 72 = .ok (.if_icmp .ne 10, 3) := by decide +kernel
theorem d_Mo_reckon_75 : decode b_Mo_reckon 75 = .ok (.lload_n 3, 1) := by decide +kernel
theorem d_Mo_reckon_76 : decode b_Mo_reckon 76 = .ok (.lload 5, 2) := by decide +kernel
theorem d_Mo_reckon_78 : decode b_Mo_reckon 78 = .ok (.ladd, 1) := by decide +kernel
theorem d_Mo_reckon_79 : decode b_Mo_reckon 79 = .ok (.goto 20, 3) := by decide +kernel
theorem d_Mo_reckon_82 : decode b_Mo_reckon 82 = .ok (.iload_n 2, 1) := by decide +kernel
theorem d_Mo_reckon_83 : decode b_Mo_reckon 83 = .ok (.bipush 29, 2) := by decide +kernel
theorem d_Mo_reckon_85 : decode b_Mo_reckon 85 = .ok (.if_icmp .ne 10, 3) := by decide +kernel
theorem d_Mo_reckon_88 : decode b_Mo_reckon 88 = .ok (.lload_n 3, 1) := by decide +kernel
theorem d_Mo_reckon_89 : decode b_Mo_reckon 89 = .ok (.lload 5, 2) := by decide +kernel
theorem d_Mo_reckon_91 : decode b_Mo_reckon 91 = .ok (.lmul, 1) := by decide +kernel
theorem d_Mo_reckon_92 : decode b_Mo_reckon 92 = .ok (.goto 7, 3) := by decide +kernel
theorem d_Mo_reckon_95 : decode b_Mo_reckon 95 = .ok (.lload_n 3, 1) := by decide +kernel
theorem d_Mo_reckon_96 : decode b_Mo_reckon 96 = .ok (.lload 5, 2) := by decide +kernel
theorem d_Mo_reckon_98 : decode b_Mo_reckon 98 = .ok (.lsub, 1) := by decide +kernel
theorem d_Mo_reckon_99 : decode b_Mo_reckon 99 = .ok (.invokevirtual 289, 3) := by decide +kernel
theorem d_Mo_reckon_102 : decode b_Mo_reckon 102 = .ok (.goto 325, 3) := by decide +kernel
theorem d_Mo_reckon_105 : decode b_Mo_reckon 105 = .ok (.iload_n 2, 1) := by decide +kernel
theorem d_Mo_reckon_106 : decode b_Mo_reckon 106 = .ok (.bipush 30, 2) := by decide +kernel
theorem d_Mo_reckon_108 : decode b_Mo_reckon 108 = .ok (.if_icmp .eq 9, 3) := by decide +kernel
theorem d_Mo_reckon_111 : decode b_Mo_reckon 111 = .ok (.iload_n 2, 1) := by decide +kernel
theorem d_Mo_reckon_112 : decode b_Mo_reckon 112 = .ok (.bipush 31, 2) := by decide +kernel
theorem d_Mo_reckon_114 : decode b_Mo_reckon 114 = .ok (.if_icmp .ne 43, 3) := by decide +kernel
theorem d_Mo_reckon_117 : decode b_Mo_reckon 117 = .ok (.lload 5, 2) := by decide +kernel
theorem d_Mo_reckon_119 : decode b_Mo_reckon 119 = .ok (.lconst 0, 1) := by decide +kernel
theorem d_Mo_reckon_120 : decode b_Mo_reckon 120 = .ok (.lcmp, 1) := by decide +kernel
theorem d_Mo_reckon_121 : decode b_Mo_reckon 121 = .ok (.ifCond .ne 11, 3) := by decide +kernel
theorem d_Mo_reckon_124 : decode b_Mo_reckon 124 = .ok (.aload_n 0, 1) := by decide +kernel
theorem d_Mo_reckon_125 : decode b_Mo_reckon 125 = .ok (.iconst 1, 1) := by decide +kernel
theorem d_Mo_reckon_126 : decode b_Mo_reckon 126 = .ok (.putfield 280, 3) := by decide +kernel
theorem d_Mo_reckon_129 : decode b_Mo_reckon 129 = .ok (.goto 298, 3) := by decide +kernel
theorem d_Mo_reckon_132 : decode b_Mo_reckon 132 = .ok (.aload_n 0, 1) := by decide +kernel
theorem d_Mo_reckon_133 : decode b_Mo_reckon 133 = .ok (.iload_n 1, 1) := by decide +kernel
theorem d_Mo_reckon_134 : decode b_Mo_reckon 134 = .ok (.iload_n 2, 1) := by decide +kernel
theorem d_Mo_reckon_135 : decode b_Mo_reckon 135 = .ok (.bipush 30, 2) := by decide +kernel
theorem d_Mo_reckon_137 : decode b_Mo_reckon 137 = .ok (.if_icmp .ne 10, 3) := by decide +kernel
theorem d_Mo_reckon_140 : decode b_Mo_reckon 140 = .ok (.lload_n 3, 1) := by decide +kernel
theorem d_Mo_reckon_141 : decode b_Mo_reckon 141 = .ok (.lload 5, 2) := by decide +kernel
theorem d_Mo_reckon_143 : decode b_Mo_reckon 143 = .ok (.ldiv, 1) := by decide +kernel
theorem d_Mo_reckon_144 : decode b_Mo_reckon 144 = .ok (.goto 7, 3) := by decide +kernel
theorem d_Mo_reckon_147 : decode b_Mo_reckon 147 = .ok (.lload_n 3, 1) := by decide +kernel
theorem d_Mo_reckon_148 : decode b_Mo_reckon 148 = .ok (.lload 5, 2) := by decide +kernel
theorem d_Mo_reckon_150 : decode b_Mo_reckon 150 = .ok (.lrem, 1) := by decide +kernel
theorem d_Mo_reckon_151 : decode b_Mo_reckon 151 = .ok (.invokevirtual 289, 3) := by decide +kernel
theorem d_Mo_reckon_154 : decode b_Mo_reckon 154 = .ok (.goto 273, 3) := by decide +kernel
theorem d_Mo_reckon_157 : decode b_Mo_reckon 157 = .ok (.iload_n 2, 1) := by decide +kernel
theorem d_Mo_reckon_158 : decode b_Mo_reckon 158 = .ok (.bipush 38, 2) := by decide +kernel
theorem d_Mo_reckon_160 : decode b_Mo_reckon 160 = .ok (.if_icmp .lt 79, 3) := by decide +kernel
theorem d_Mo_reckon_163 : decode b_Mo_reckon 163 = .ok (.iload_n 2, 1) := by decide +kernel
theorem d_Mo_reckon_164 : decode b_Mo_reckon 164 = .ok (.bipush 40, 2) := by decide +kernel
theorem d_Mo_reckon_166 : decode b_Mo_reckon 166 = .ok (.if_icmp .gt 73, 3) := by decide +kernel
theorem d_Mo_reckon_169 : decode b_Mo_reckon 169 = .ok (.lload 5, 2) := by decide +kernel
theorem d_Mo_reckon_171 : decode b_Mo_reckon 171 = .ok (.l2i, 1) := by decide +kernel
theorem d_Mo_reckon_172 : decode b_Mo_reckon 172 = .ok (.iload 7, 2) := by decide +kernel
theorem d_Mo_reckon_174 : decode b_Mo_reckon 174 = .ok (.ifCond .eq 8, 3) := by decide +kernel
theorem d_Mo_reckon_177 : decode b_Mo_reckon 177 = .ok (.bipush 63, 2) := by decide +kernel
theorem d_Mo_reckon_179 : decode b_Mo_reckon 179 = .ok (.goto 5, 3) := by decide +kernel
theorem d_Mo_reckon_182 : decode b_Mo_reckon 182 = .ok (.bipush 31, 2) := by decide +kernel
theorem d_Mo_reckon_184 : decode b_Mo_reckon 184 = .ok (.iand, 1) := by decide +kernel
theorem d_Mo_reckon_185 : decode b_Mo_reckon 185 = .ok (.istore 8, 2) := by decide +kernel
theorem d_Mo_reckon_187 : decode b_Mo_reckon 187 = .ok (.aload_n 0, 1) := by decide +kernel
theorem d_Mo_reckon_188 : decode b_Mo_reckon 188 = .ok (.iload_n 1, 1) := by decide +kernel
theorem d_Mo_reckon_189 : decode b_Mo_reckon 189 = .ok (.iload_n 2, 1) := by decide +kernel
theorem d_Mo_reckon_190 : decode b_Mo_reckon 190 = .ok (.bipush 38, 2) := by decide +kernel
theorem d_Mo_reckon_192 : decode b_Mo_reckon 192 = .ok (.if_icmp .ne 10, 3) := by decide +kernel
theorem d_Mo_reckon_195 : decode b_Mo_reckon 195 = .ok (.lload_n 3, 1) := by decide +kernel
theorem d_Mo_reckon_196 : decode b_Mo_reckon 196 = .ok (.iload 8, 2) := by decide +kernel
theorem d_Mo_reckon_198 : decode b_Mo_reckon 198 = .ok (.lshl, 1) := by decide +kernel
theorem d_Mo_reckon_199 : decode b_Mo_reckon 199 = .ok (.goto 34, 3) := by decide +kernel
theorem d_Mo_reckon_202 : decode b_Mo_reckon 202 = .ok (.iload_n 2, 1) := by decide +kernel
theorem d_Mo_reckon_203 : decode b_Mo_reckon 203 = .ok (.bipush 39, 2) := by decide +kernel
theorem d_Mo_reckon_205 : decode b_Mo_reckon 205 = .ok (.if_icmp .ne 10, 3) := by decide +kernel
theorem d_Mo_reckon_208 : decode b_Mo_reckon 208 = .ok (.lload_n 3, 1) := by decide +kernel
theorem d_Mo_reckon_209 : decode b_Mo_reckon 209 = .ok (.iload 8, 2) := by decide +kernel
theorem d_Mo_reckon_211 : decode b_Mo_reckon 211 = .ok (.lshr, 1) := by decide +kernel
theorem d_Mo_reckon_212 : decode b_Mo_reckon 212 = .ok (.goto 21, 3) := by decide +kernel
theorem d_Mo_reckon_215 : decode b_Mo_reckon 215 = .ok (.iload 7, 2) := by decide +kernel
theorem d_Mo_reckon_217 : decode b_Mo_reckon 217 = .ok (.ifCond .eq 10, 3) := by decide +kernel
theorem d_Mo_reckon_220 : decode b_Mo_reckon 220 = .ok (.lload_n 3, 1) := by decide +kernel
theorem d_Mo_reckon_221 : decode b_Mo_reckon 221 = .ok (.iload 8, 2) := by decide +kernel
theorem d_Mo_reckon_223 : decode b_Mo_reckon 223 = .ok (.lushr, 1) := by decide +kernel
theorem d_Mo_reckon_224 : decode b_Mo_reckon 224 = .ok (.goto 9, 3) := by decide +kernel
theorem d_Mo_reckon_227 : decode b_Mo_reckon 227 = .ok (.lload_n 3, 1) := by decide +kernel
theorem d_Mo_reckon_228 : decode b_Mo_reckon 228 = .ok (.l2i, 1) := by decide +kernel
theorem d_Mo_reckon_229 : decode b_Mo_reckon 229 = .ok (.iload 8, 2) := by decide +kernel
theorem d_Mo_reckon_231 : decode b_Mo_reckon 231 = .ok (.iushr, 1) := by decide +kernel
theorem d_Mo_reckon_232 : decode b_Mo_reckon 232 = .ok (.i2l, 1) := by decide +kernel
theorem d_Mo_reckon_233 : decode b_Mo_reckon 233 = .ok (.invokevirtual 289, 3) := by decide +kernel
theorem d_Mo_reckon_236 : decode b_Mo_reckon 236 = .ok (.goto 191, 3) := by decide +kernel
theorem d_Mo_reckon_239 : decode b_Mo_reckon 239 = .ok (.iload_n 2, 1) := by decide +kernel
theorem d_Mo_reckon_240 : decode b_Mo_reckon 240 = .ok (.bipush 43, 2) := by decide +kernel
theorem d_Mo_reckon_242 : decode b_Mo_reckon 242 = .ok (.if_icmp .eq 15, 3) := by decide +kernel
theorem d_Mo_reckon_245 : decode b_Mo_reckon 245 = .ok (.iload_n 2, 1) := by decide +kernel
theorem d_Mo_reckon_246 : decode b_Mo_reckon 246 = .ok (.bipush 45, 2) := by decide +kernel
theorem d_Mo_reckon_248 : decode b_Mo_reckon 248 = .ok (.if_icmp .eq 9, 3) := by decide +kernel
theorem d_Mo_reckon_251 : decode b_Mo_reckon 251 = .ok (.iload_n 2, 1) := by decide +kernel
theorem d_Mo_reckon_252 : decode b_Mo_reckon 252 = .ok (.bipush 47, 2) := by decide +kernel
theorem d_Mo_reckon_254 : decode b_Mo_reckon 254 = .ok (.if_icmp .ne 41, 3) := by decide +kernel
theorem d_Mo_reckon_257 : decode b_Mo_reckon 257 = .ok (.aload_n 0, 1) := by decide +kernel
theorem d_Mo_reckon_258 : decode b_Mo_reckon 258 = .ok (.iload_n 1, 1) := by decide +kernel
theorem d_Mo_reckon_259 : decode b_Mo_reckon 259 = .ok (.iload_n 2, 1) := by decide +kernel
theorem d_Mo_reckon_260 : decode b_Mo_reckon 260 = .ok (.bipush 43, 2) := by decide +kernel
theorem d_Mo_reckon_262 : decode b_Mo_reckon 262 = .ok (.if_icmp .ne 10, 3) := by decide +kernel
theorem d_Mo_reckon_265 : decode b_Mo_reckon 265 = .ok (.lload_n 3, 1) := by decide +kernel
theorem d_Mo_reckon_266 : decode b_Mo_reckon 266 = .ok (.lload 5, 2) := by decide +kernel
theorem d_Mo_reckon_268 : decode b_Mo_reckon 268 = .ok (.land, 1) := by decide +kernel
theorem d_Mo_reckon_269 : decode b_Mo_reckon 269 = .ok (.goto 20, 3) := by decide +kernel
theorem d_Mo_reckon_272 : decode b_Mo_reckon 272 = .ok (.iload_n 2, 1) := by decide +kernel
theorem d_Mo_reckon_273 : decode b_Mo_reckon 273 = .ok (.bipush 45, 2) := by decide +kernel
theorem d_Mo_reckon_275 : decode b_Mo_reckon 275 = .ok (.if_icmp .ne 10, 3) := by decide +kernel
theorem d_Mo_reckon_278 : decode b_Mo_reckon 278 = .ok (.lload_n 3, 1) := by decide +kernel
theorem d_Mo_reckon_279 : decode b_Mo_reckon 279 = .ok (.lload 5, 2) := by decide +kernel
theorem d_Mo_reckon_281 : decode b_Mo_reckon 281 = .ok (.lor, 1) := by decide +kernel
theorem d_Mo_reckon_282 : decode b_Mo_reckon 282 = .ok (.goto 7, 3) := by decide +kernel
theorem d_Mo_reckon_285 : decode b_Mo_reckon 285 = .ok (.lload_n 3, 1) := by decide +kernel
theorem d_Mo_reckon_286 : decode b_Mo_reckon 286 = .ok (.lload 5, 2) := by decide +kernel
theorem d_Mo_reckon_288 : decode b_Mo_reckon 288 = .ok (.lxor, 1) := by decide +kernel
theorem d_Mo_reckon_289 : decode b_Mo_reckon 289 = .ok (.invokevirtual 289, 3) := by decide +kernel
theorem d_Mo_reckon_292 : decode b_Mo_reckon 292 = .ok (.goto 135, 3) := by decide +kernel
theorem d_Mo_reckon_295 : decode b_Mo_reckon 295 = .ok (.iload_n 2, 1) := by decide +kernel
theorem d_Mo_reckon_296 : decode b_Mo_reckon 296 = .ok (.bipush 34, 2) := by decide +kernel
theorem d_Mo_reckon_298 : decode b_Mo_reckon 298 = .ok (.if_icmp .ne 18, 3) := by decide +kernel
theorem d_Mo_reckon_301 : decode b_Mo_reckon 301 = .ok (.lload_n 3, 1) := by decide +kernel
theorem d_Mo_reckon_302 : decode b_Mo_reckon 302 = .ok (.lload 5, 2) := by decide +kernel
theorem d_Mo_reckon_304 : decode b_Mo_reckon 304 = .ok (.lcmp, 1) := by decide +kernel
theorem d_Mo_reckon_305 : decode b_Mo_reckon 305 = .ok (.ifCond .ge 7, 3) := by decide +kernel
theorem d_Mo_reckon_308 : decode b_Mo_reckon 308 = .ok (.iconst 1, 1) := by decide +kernel
theorem d_Mo_reckon_309 : decode b_Mo_reckon 309 = .ok (.goto 101, 3) := by decide +kernel
theorem d_Mo_reckon_312 : decode b_Mo_reckon 312 = .ok (.iconst 0, 1) := by decide +kernel
theorem d_Mo_reckon_313 : decode b_Mo_reckon 313 = .ok (.goto 97, 3) := by decide +kernel
theorem d_Mo_reckon_316 : decode b_Mo_reckon 316 = .ok (.iload_n 2, 1) := by decide +kernel
theorem d_Mo_reckon_317 : decode b_Mo_reckon 317 = .ok (.bipush 35, 2) := by decide +kernel
theorem d_Mo_reckon_319 : decode b_Mo_reckon 319 = .ok (.if_icmp .ne 18, 3) := by decide +kernel
theorem d_Mo_reckon_322 : decode b_Mo_reckon 322 = .ok (.lload_n 3, 1) := by decide +kernel
theorem d_Mo_reckon_323 : decode b_Mo_reckon 323 = .ok (.lload 5, 2) := by decide +kernel
theorem d_Mo_reckon_325 : decode b_Mo_reckon 325 = .ok (.lcmp, 1) := by decide +kernel
theorem d_Mo_reckon_326 : decode b_Mo_reckon 326 = .ok (.ifCond .gt 7, 3) := by decide +kernel
theorem d_Mo_reckon_329 : decode b_Mo_reckon 329 = .ok (.iconst 1, 1) := by decide +kernel
theorem d_Mo_reckon_330 : decode b_Mo_reckon 330 = .ok (.goto 80, 3) := by decide +kernel
theorem d_Mo_reckon_333 : decode b_Mo_reckon 333 = .ok (.iconst 0, 1) := by decide +kernel
theorem d_Mo_reckon_334 : decode b_Mo_reckon 334 = .ok (.goto 76, 3) := by decide +kernel
theorem d_Mo_reckon_337 : decode b_Mo_reckon 337 = .ok (.iload_n 2, 1) := by decide +kernel
theorem d_Mo_reckon_338 : decode b_Mo_reckon 338 = .ok (.bipush 36, 2) := by decide +kernel
theorem d_Mo_reckon_340 : decode b_Mo_reckon 340 = .ok (.if_icmp .ne 18, 3) := by decide +kernel
theorem d_Mo_reckon_343 : decode b_Mo_reckon 343 = .ok (.lload_n 3, 1) := by decide +kernel
theorem d_Mo_reckon_344 : decode b_Mo_reckon 344 = .ok (.lload 5, 2) := by decide +kernel
theorem d_Mo_reckon_346 : decode b_Mo_reckon 346 = .ok (.lcmp, 1) := by decide +kernel
theorem d_Mo_reckon_347 : decode b_Mo_reckon 347 = .ok (.ifCond .le 7, 3) := by decide +kernel
theorem d_Mo_reckon_350 : decode b_Mo_reckon 350 = .ok (.iconst 1, 1) := by decide +kernel
theorem d_Mo_reckon_351 : decode b_Mo_reckon 351 = .ok (.goto 59, 3) := by decide +kernel
theorem d_Mo_reckon_354 : decode b_Mo_reckon 354 = .ok (.iconst 0, 1) := by decide +kernel
theorem d_Mo_reckon_355 : decode b_Mo_reckon 355 = .ok (.goto 55, 3) := by decide +kernel
theorem d_Mo_reckon_358 : decode b_Mo_reckon 358 = .ok (.iload_n 2, 1) := by decide +kernel
theorem d_Mo_reckon_359 : decode b_Mo_reckon 359 = .ok (.bipush 37, 2) := by decide +kernel
theorem d_Mo_reckon_361 : decode b_Mo_reckon 361 = .ok (.if_icmp .ne 18, 3) := by decide +kernel
theorem d_Mo_reckon_364 : decode b_Mo_reckon 364 = .ok (.lload_n 3, 1) := by decide +kernel
theorem d_Mo_reckon_365 : decode b_Mo_reckon 365 = .ok (.lload 5, 2) := by decide +kernel
theorem d_Mo_reckon_367 : decode b_Mo_reckon 367 = .ok (.lcmp, 1) := by decide +kernel
theorem d_Mo_reckon_368 : decode b_Mo_reckon 368 = .ok (.ifCond .lt 7, 3) := by decide +kernel
theorem d_Mo_reckon_371 : decode b_Mo_reckon 371 = .ok (.iconst 1, 1) := by decide +kernel
theorem d_Mo_reckon_372 : decode b_Mo_reckon 372 = .ok (.goto 38, 3) := by decide +kernel
theorem d_Mo_reckon_375 : decode b_Mo_reckon 375 = .ok (.iconst 0, 1) := by decide +kernel
theorem d_Mo_reckon_376 : decode b_Mo_reckon 376 = .ok (.goto 34, 3) := by decide +kernel
theorem d_Mo_reckon_379 : decode b_Mo_reckon 379 = .ok (.iload_n 2, 1) := by decide +kernel
theorem d_Mo_reckon_380 : decode b_Mo_reckon 380 = .ok (.bipush 41, 2) := by decide +kernel
theorem d_Mo_reckon_382 : decode b_Mo_reckon 382 = .ok (.if_icmp .ne 7, 3) := by decide +kernel
theorem d_Mo_reckon_385 : decode b_Mo_reckon 385 = .ok (.iconst 1, 1) := by decide +kernel
theorem d_Mo_reckon_386 : decode b_Mo_reckon 386 = .ok (.goto 4, 3) := by decide +kernel
theorem d_Mo_reckon_389 : decode b_Mo_reckon 389 = .ok (.iconst 0, 1) := by decide +kernel
theorem d_Mo_reckon_390 : decode b_Mo_reckon 390 = .ok (.lload_n 3, 1) := by decide +kernel
theorem d_Mo_reckon_391 : decode b_Mo_reckon 391 = .ok (.lload 5, 2) := by decide +kernel
theorem d_Mo_reckon_393 : decode b_Mo_reckon 393 = .ok (.lcmp, 1) := by decide +kernel
theorem d_Mo_reckon_394 : decode b_Mo_reckon 394 = .ok (.ifCond .ne 7, 3) := by decide +kernel
theorem d_Mo_reckon_397 : decode b_Mo_reckon 397 = .ok (.iconst 1, 1) := by decide +kernel
theorem d_Mo_reckon_398 : decode b_Mo_reckon 398 = .ok (.goto 4, 3) := by decide +kernel
theorem d_Mo_reckon_401 : decode b_Mo_reckon 401 = .ok (.iconst 0, 1) := by decide +kernel
theorem d_Mo_reckon_402 : decode b_Mo_reckon 402 = .ok (.if_icmp .ne 7, 3) := by decide +kernel
theorem d_Mo_reckon_405 : decode b_Mo_reckon 405 = .ok (.iconst 1, 1) := by decide +kernel
theorem d_Mo_reckon_406 : decode b_Mo_reckon 406 = .ok (.goto 4, 3) := by decide +kernel
theorem d_Mo_reckon_409 : decode b_Mo_reckon 409 = .ok (.iconst 0, 1) := by decide +kernel
theorem d_Mo_reckon_410 : decode b_Mo_reckon 410 = .ok (.istore 8, 2) := by decide +kernel
theorem d_Mo_reckon_412 : decode b_Mo_reckon 412 = .ok (.aload_n 0, 1) := by decide +kernel
theorem d_Mo_reckon_413 : decode b_Mo_reckon 413 = .ok (.iload_n 1, 1) := by decide +kernel
theorem d_Mo_reckon_414 : decode b_Mo_reckon 414 = .ok (.iload 8, 2) := by decide +kernel
theorem d_Mo_reckon_416 : decode b_Mo_reckon 416 = .ok (.ifCond .eq 7, 3) := by decide +kernel
theorem d_Mo_reckon_419 : decode b_Mo_reckon 419 = .ok (.lconst 1, 1) := by decide +kernel
theorem d_Mo_reckon_420 : decode b_Mo_reckon 420 = .ok (.goto 4, 3) := by decide +kernel
theorem d_Mo_reckon_423 : decode b_Mo_reckon 423 = .ok (.lconst 0, 1) := by decide +kernel
theorem d_Mo_reckon_424 : decode b_Mo_reckon 424 = .ok (.invokevirtual 289, 3) := by decide +kernel
theorem d_Mo_reckon_427 : decode b_Mo_reckon 427 = .ok (.return_, 1) := by decide +kernel
set_option maxHeartbeats 4000000 in
theorem g_Mo_reckon {X : WX} {d : Nat} (hd : 1 ≤ d) (n : Int) (M : Mem) (hn : 0 ≤ n ∧ n < 32) (hq7 : 0 ≤ M 77 n ∧ M 77 n < 32) (hq8 : 0 ≤ M 78 n ∧ M 78 n < 32) (hqo : 27 ≤ M 76 n ∧ M 76 n ≤ 47) : MG X gt d KE KE y_Mo_reckon b_Mo_reckon 9 none [vr 55, vi n] M (fun r M' => r = none ∧ cmpQ M n (reckF (M 76 n) (M 81 n) (M 83 (M 77 n)) (M 83 (M 78 n))) M') := by
  refine MG_of_G (by decide) (Nat.le_of_ble_eq_true rfl) (Nat.le_refl _) (by decide) ?_
  show G X gt d KE KE y_Mo_reckon b_Mo_reckon 9 none _ 0 [(0, vr 55), (1, vi n)] [] KE M
  refine G_rngl (i := 1) rfl (fun hr1 => ?_)
  refine G_aload (i := 0) (n := 0) (len := 1) (Or.inl ⟨0, rfl, rfl, d_Mo_reckon_0⟩) rfl (by decide) (G_pc (pc' := 1) rfl ?_)
  refine G_get (o := 55) (c := 9) (k := 29) (v := 76) d_Mo_reckon_1 fl_Mo_72 rfl (by decide) (by decide) rfl rfl (G_pc (pc' := 4) rfl ?_)
  refine G_iload (i := 1) (n := 1) (len := 1) (Or.inl ⟨1, rfl, rfl, d_Mo_reckon_4⟩) rfl (G_pc (pc' := 5) rfl ?_)
  refine G_iaload (o := 76) (n := 32) (i := n) (v := M 76 n) d_Mo_reckon_5 rfl ⟨by decide, by decide⟩ (by omega) (rd_arr rfl) (fun t1 => G_pc (pc' := 6) rfl ?_)
  have t1 := tok_i t1
  refine G_istore (i := 2) (len := 1) (ls' := [(2, vi (M 76 n)), (0, vr 55), (1, vi n)]) (Or.inl ⟨2, rfl, rfl, d_Mo_reckon_6⟩) (by decide) rfl (G_pc (pc' := 7) rfl ?_)
  refine G_aload (i := 0) (n := 1) (len := 1) (Or.inl ⟨0, rfl, rfl, d_Mo_reckon_7⟩) rfl (by decide) (G_pc (pc' := 8) rfl ?_)
  refine G_get (o := 55) (c := 9) (k := 36) (v := 83) d_Mo_reckon_8 fl_Mo_93 rfl (by decide) (by decide) rfl rfl (G_pc (pc' := 11) rfl ?_)
  refine G_aload (i := 0) (n := 1) (len := 1) (Or.inl ⟨0, rfl, rfl, d_Mo_reckon_11⟩) rfl (by decide) (G_pc (pc' := 12) rfl ?_)
  refine G_get (o := 55) (c := 9) (k := 30) (v := 77) d_Mo_reckon_12 fl_Mo_75 rfl (by decide) (by decide) rfl rfl (G_pc (pc' := 15) rfl ?_)
  refine G_iload (i := 1) (n := 2) (len := 1) (Or.inl ⟨1, rfl, rfl, d_Mo_reckon_15⟩) rfl (G_pc (pc' := 16) rfl ?_)
  refine G_iaload (o := 77) (n := 32) (i := n) (v := M 77 n) d_Mo_reckon_16 rfl ⟨by decide, by decide⟩ (by omega) (rd_arr rfl) (fun t2 => G_pc (pc' := 17) rfl ?_)
  have t2 := tok_i t2
  refine G_laload (o := 83) (n := 32) (i := M 77 n) (v := M 83 (M 77 n)) d_Mo_reckon_17 rfl ⟨by decide, by decide⟩ (by omega) (rd_arr rfl) (fun t3 => G_pc (pc' := 18) rfl ?_)
  have t3 := tok_l t3
  refine G_lstore (i := 3) (len := 1) (ls' := [(3, vl (M 83 (M 77 n))), (2, vi (M 76 n)), (0, vr 55), (1, vi n)]) (Or.inl ⟨3, rfl, rfl, d_Mo_reckon_18⟩) (by decide) rfl (G_pc (pc' := 19) rfl ?_)
  refine G_aload (i := 0) (n := 2) (len := 1) (Or.inl ⟨0, rfl, rfl, d_Mo_reckon_19⟩) rfl (by decide) (G_pc (pc' := 20) rfl ?_)
  refine G_get (o := 55) (c := 9) (k := 36) (v := 83) d_Mo_reckon_20 fl_Mo_93 rfl (by decide) (by decide) rfl rfl (G_pc (pc' := 23) rfl ?_)
  refine G_aload (i := 0) (n := 2) (len := 1) (Or.inl ⟨0, rfl, rfl, d_Mo_reckon_23⟩) rfl (by decide) (G_pc (pc' := 24) rfl ?_)
  refine G_get (o := 55) (c := 9) (k := 31) (v := 78) d_Mo_reckon_24 fl_Mo_78 rfl (by decide) (by decide) rfl rfl (G_pc (pc' := 27) rfl ?_)
  refine G_iload (i := 1) (n := 3) (len := 1) (Or.inl ⟨1, rfl, rfl, d_Mo_reckon_27⟩) rfl (G_pc (pc' := 28) rfl ?_)
  refine G_iaload (o := 78) (n := 32) (i := n) (v := M 78 n) d_Mo_reckon_28 rfl ⟨by decide, by decide⟩ (by omega) (rd_arr rfl) (fun t4 => G_pc (pc' := 29) rfl ?_)
  have t4 := tok_i t4
  refine G_laload (o := 83) (n := 32) (i := M 78 n) (v := M 83 (M 78 n)) d_Mo_reckon_29 rfl ⟨by decide, by decide⟩ (by omega) (rd_arr rfl) (fun t5 => G_pc (pc' := 30) rfl ?_)
  have t5 := tok_l t5
  refine G_lstore (i := 5) (len := 2) (ls' := [(5, vl (M 83 (M 78 n))), (3, vl (M 83 (M 77 n))), (2, vi (M 76 n)), (0, vr 55), (1, vi n)]) (Or.inr ⟨rfl, d_Mo_reckon_30⟩) (by decide) rfl (G_pc (pc' := 32) rfl ?_)
  refine G_aload (i := 0) (n := 3) (len := 1) (Or.inl ⟨0, rfl, rfl, d_Mo_reckon_32⟩) rfl (by decide) (G_pc (pc' := 33) rfl ?_)
  refine G_get (o := 55) (c := 9) (k := 34) (v := 81) d_Mo_reckon_33 fl_Mo_87 rfl (by decide) (by decide) rfl rfl (G_pc (pc' := 36) rfl ?_)
  refine G_iload (i := 1) (n := 4) (len := 1) (Or.inl ⟨1, rfl, rfl, d_Mo_reckon_36⟩) rfl (G_pc (pc' := 37) rfl ?_)
  refine G_iaload (o := 81) (n := 32) (i := n) (v := M 81 n) d_Mo_reckon_37 rfl ⟨by decide, by decide⟩ (by omega) (rd_arr rfl) (fun t6 => G_pc (pc' := 38) rfl ?_)
  have t6 := tok_i t6
  refine G_iconst (n := 1) d_Mo_reckon_38 (by decide) (G_pc (pc' := 39) rfl ?_)
  refine G_icmp_ne (tgt := 46) d_Mo_reckon_39 (by decide) (fun h7 => ?_) (fun h7 => G_pc (pc' := 42) rfl ?_)
  · skip
    refine G_iconst (n := 0) d_Mo_reckon_46 (by decide) (G_pc (pc' := 47) rfl ?_)
    refine G_istore (i := 7) (len := 2) (ls' := [(7, vi 0), (5, vl (M 83 (M 78 n))), (3, vl (M 83 (M 77 n))), (2, vi (M 76 n)), (0, vr 55), (1, vi n)]) (Or.inr ⟨rfl, d_Mo_reckon_47⟩) (by decide) rfl (G_pc (pc' := 49) rfl ?_)
    refine G_iload (i := 2) (n := 3) (len := 1) (Or.inl ⟨2, rfl, rfl, d_Mo_reckon_49⟩) rfl (G_pc (pc' := 50) rfl ?_)
    refine G_bipush (n := 27) d_Mo_reckon_50 (by decide) (G_pc (pc' := 52) rfl ?_)
    refine G_icmp_eq (tgt := 67) d_Mo_reckon_52 (by decide) (fun h8 => ?_) (fun h8 => G_pc (pc' := 55) rfl ?_)
    · skip
      refine G_aload (i := 0) (n := 4) (len := 1) (Or.inl ⟨0, rfl, rfl, d_Mo_reckon_67⟩) rfl (by decide) (G_pc (pc' := 68) rfl ?_)
      refine G_iload (i := 1) (n := 5) (len := 1) (Or.inl ⟨1, rfl, rfl, d_Mo_reckon_68⟩) rfl (G_pc (pc' := 69) rfl ?_)
      refine G_iload (i := 2) (n := 3) (len := 1) (Or.inl ⟨2, rfl, rfl, d_Mo_reckon_69⟩) rfl (G_pc (pc' := 70) rfl ?_)
      refine G_bipush (n := 27) d_Mo_reckon_70 (by decide) (G_pc (pc' := 72) rfl ?_)
      refine G_icmp_ne (tgt := 82) d_Mo_reckon_72 (by decide) (fun h9 => ?_) (fun h9 => G_pc (pc' := 75) rfl ?_)
      · skip
        refine G_iload (i := 2) (n := 3) (len := 1) (Or.inl ⟨2, rfl, rfl, d_Mo_reckon_82⟩) rfl (G_pc (pc' := 83) rfl ?_)
        refine G_bipush (n := 29) d_Mo_reckon_83 (by decide) (G_pc (pc' := 85) rfl ?_)
        refine G_icmp_ne (tgt := 95) d_Mo_reckon_85 (by decide) (fun h10 => ?_) (fun h10 => G_pc (pc' := 88) rfl ?_)
        · skip
          refine G_lload (i := 3) (n := 2) (len := 1) (Or.inl ⟨3, rfl, rfl, d_Mo_reckon_95⟩) rfl (G_pc (pc' := 96) rfl ?_)
          refine G_lload (i := 5) (n := 1) (len := 2) (Or.inr ⟨rfl, d_Mo_reckon_96⟩) rfl (G_pc (pc' := 98) rfl ?_)
          refine G_lsub d_Mo_reckon_98 (G_pc (pc' := 99) rfl ?_)
          refine G_callV (K1 := KE) (d2 := 0) (o := 55) (cl := 9) (as := [vi n, vl (o_lsub (M 83 (M 77 n)) (M 83 (M 78 n)))]) (rest := []) d_Mo_reckon_99 mf_Mo_set ml_Mo_289 rfl rfl (by decide) rfl rfl (Nat.le_of_ble_eq_true rfl) (by omega) ⟨Nat.le_refl _, Nat.le_refl _⟩ (g_Mo_set (by omega) n (o_lsub (M 83 (M 77 n)) (M 83 (M 78 n))) _ (by omega)) (fun r11 M12 kq13 q13 => ?_)
          clear kq13; obtain ⟨q13a, q13b⟩ := q13; subst r11; subst M12
          refine G_ps (pc' := 102) (st' := []) rfl rfl ?_
          refine G_goto (tgt := 427) d_Mo_reckon_102 (by decide) ?_
          refine G_vret d_Mo_reckon_427 rfl rfl ?_
          refine ⟨rfl, ?_⟩; exact cmp_v (by unfold reckF; first | grind | grind [cmpB] | grind [needF])
        · skip
          refine G_lload (i := 3) (n := 2) (len := 1) (Or.inl ⟨3, rfl, rfl, d_Mo_reckon_88⟩) rfl (G_pc (pc' := 89) rfl ?_)
          refine G_lload (i := 5) (n := 1) (len := 2) (Or.inr ⟨rfl, d_Mo_reckon_89⟩) rfl (G_pc (pc' := 91) rfl ?_)
          refine G_lmul d_Mo_reckon_91 (G_pc (pc' := 92) rfl ?_)
          refine G_goto (tgt := 99) d_Mo_reckon_92 (by decide) ?_
          refine G_callV (K1 := KE) (d2 := 0) (o := 55) (cl := 9) (as := [vi n, vl (o_lmul (M 83 (M 77 n)) (M 83 (M 78 n)))]) (rest := []) d_Mo_reckon_99 mf_Mo_set ml_Mo_289 rfl rfl (by decide) rfl rfl (Nat.le_of_ble_eq_true rfl) (by omega) ⟨Nat.le_refl _, Nat.le_refl _⟩ (g_Mo_set (by omega) n (o_lmul (M 83 (M 77 n)) (M 83 (M 78 n))) _ (by omega)) (fun r14 M15 kq16 q16 => ?_)
          clear kq16; obtain ⟨q16a, q16b⟩ := q16; subst r14; subst M15
          refine G_ps (pc' := 102) (st' := []) rfl rfl ?_
          refine G_goto (tgt := 427) d_Mo_reckon_102 (by decide) ?_
          refine G_vret d_Mo_reckon_427 rfl rfl ?_
          refine ⟨rfl, ?_⟩; exact cmp_v (by unfold reckF; first | grind | grind [cmpB] | grind [needF])
      · skip
        refine G_lload (i := 3) (n := 2) (len := 1) (Or.inl ⟨3, rfl, rfl, d_Mo_reckon_75⟩) rfl (G_pc (pc' := 76) rfl ?_)
        refine G_lload (i := 5) (n := 1) (len := 2) (Or.inr ⟨rfl, d_Mo_reckon_76⟩) rfl (G_pc (pc' := 78) rfl ?_)
        refine G_ladd d_Mo_reckon_78 (G_pc (pc' := 79) rfl ?_)
        refine G_goto (tgt := 99) d_Mo_reckon_79 (by decide) ?_
        refine G_callV (K1 := KE) (d2 := 0) (o := 55) (cl := 9) (as := [vi n, vl (o_ladd (M 83 (M 77 n)) (M 83 (M 78 n)))]) (rest := []) d_Mo_reckon_99 mf_Mo_set ml_Mo_289 rfl rfl (by decide) rfl rfl (Nat.le_of_ble_eq_true rfl) (by omega) ⟨Nat.le_refl _, Nat.le_refl _⟩ (g_Mo_set (by omega) n (o_ladd (M 83 (M 77 n)) (M 83 (M 78 n))) _ (by omega)) (fun r17 M18 kq19 q19 => ?_)
        clear kq19; obtain ⟨q19a, q19b⟩ := q19; subst r17; subst M18
        refine G_ps (pc' := 102) (st' := []) rfl rfl ?_
        refine G_goto (tgt := 427) d_Mo_reckon_102 (by decide) ?_
        refine G_vret d_Mo_reckon_427 rfl rfl ?_
        refine ⟨rfl, ?_⟩; exact cmp_v (by unfold reckF; first | grind | grind [cmpB] | grind [needF])
    · skip
      refine G_iload (i := 2) (n := 3) (len := 1) (Or.inl ⟨2, rfl, rfl, d_Mo_reckon_55⟩) rfl (G_pc (pc' := 56) rfl ?_)
      refine G_bipush (n := 28) d_Mo_reckon_56 (by decide) (G_pc (pc' := 58) rfl ?_)
      refine G_icmp_eq (tgt := 67) d_Mo_reckon_58 (by decide) (fun h20 => ?_) (fun h20 => G_pc (pc' := 61) rfl ?_)
      · skip
        refine G_aload (i := 0) (n := 4) (len := 1) (Or.inl ⟨0, rfl, rfl, d_Mo_reckon_67⟩) rfl (by decide) (G_pc (pc' := 68) rfl ?_)
        refine G_iload (i := 1) (n := 5) (len := 1) (Or.inl ⟨1, rfl, rfl, d_Mo_reckon_68⟩) rfl (G_pc (pc' := 69) rfl ?_)
        refine G_iload (i := 2) (n := 3) (len := 1) (Or.inl ⟨2, rfl, rfl, d_Mo_reckon_69⟩) rfl (G_pc (pc' := 70) rfl ?_)
        refine G_bipush (n := 27) d_Mo_reckon_70 (by decide) (G_pc (pc' := 72) rfl ?_)
        refine G_icmp_ne (tgt := 82) d_Mo_reckon_72 (by decide) (fun h21 => ?_) (fun h21 => G_pc (pc' := 75) rfl ?_)
        · skip
          refine G_iload (i := 2) (n := 3) (len := 1) (Or.inl ⟨2, rfl, rfl, d_Mo_reckon_82⟩) rfl (G_pc (pc' := 83) rfl ?_)
          refine G_bipush (n := 29) d_Mo_reckon_83 (by decide) (G_pc (pc' := 85) rfl ?_)
          refine G_icmp_ne (tgt := 95) d_Mo_reckon_85 (by decide) (fun h22 => ?_) (fun h22 => G_pc (pc' := 88) rfl ?_)
          · skip
            refine G_lload (i := 3) (n := 2) (len := 1) (Or.inl ⟨3, rfl, rfl, d_Mo_reckon_95⟩) rfl (G_pc (pc' := 96) rfl ?_)
            refine G_lload (i := 5) (n := 1) (len := 2) (Or.inr ⟨rfl, d_Mo_reckon_96⟩) rfl (G_pc (pc' := 98) rfl ?_)
            refine G_lsub d_Mo_reckon_98 (G_pc (pc' := 99) rfl ?_)
            refine G_callV (K1 := KE) (d2 := 0) (o := 55) (cl := 9) (as := [vi n, vl (o_lsub (M 83 (M 77 n)) (M 83 (M 78 n)))]) (rest := []) d_Mo_reckon_99 mf_Mo_set ml_Mo_289 rfl rfl (by decide) rfl rfl (Nat.le_of_ble_eq_true rfl) (by omega) ⟨Nat.le_refl _, Nat.le_refl _⟩ (g_Mo_set (by omega) n (o_lsub (M 83 (M 77 n)) (M 83 (M 78 n))) _ (by omega)) (fun r23 M24 kq25 q25 => ?_)
            clear kq25; obtain ⟨q25a, q25b⟩ := q25; subst r23; subst M24
            refine G_ps (pc' := 102) (st' := []) rfl rfl ?_
            refine G_goto (tgt := 427) d_Mo_reckon_102 (by decide) ?_
            refine G_vret d_Mo_reckon_427 rfl rfl ?_
            refine ⟨rfl, ?_⟩; exact cmp_v (by unfold reckF; first | grind | grind [cmpB] | grind [needF])
          · skip
            refine G_lload (i := 3) (n := 2) (len := 1) (Or.inl ⟨3, rfl, rfl, d_Mo_reckon_88⟩) rfl (G_pc (pc' := 89) rfl ?_)
            refine G_lload (i := 5) (n := 1) (len := 2) (Or.inr ⟨rfl, d_Mo_reckon_89⟩) rfl (G_pc (pc' := 91) rfl ?_)
            refine G_lmul d_Mo_reckon_91 (G_pc (pc' := 92) rfl ?_)
            refine G_goto (tgt := 99) d_Mo_reckon_92 (by decide) ?_
            refine G_callV (K1 := KE) (d2 := 0) (o := 55) (cl := 9) (as := [vi n, vl (o_lmul (M 83 (M 77 n)) (M 83 (M 78 n)))]) (rest := []) d_Mo_reckon_99 mf_Mo_set ml_Mo_289 rfl rfl (by decide) rfl rfl (Nat.le_of_ble_eq_true rfl) (by omega) ⟨Nat.le_refl _, Nat.le_refl _⟩ (g_Mo_set (by omega) n (o_lmul (M 83 (M 77 n)) (M 83 (M 78 n))) _ (by omega)) (fun r26 M27 kq28 q28 => ?_)
            clear kq28; obtain ⟨q28a, q28b⟩ := q28; subst r26; subst M27
            refine G_ps (pc' := 102) (st' := []) rfl rfl ?_
            refine G_goto (tgt := 427) d_Mo_reckon_102 (by decide) ?_
            refine G_vret d_Mo_reckon_427 rfl rfl ?_
            refine ⟨rfl, ?_⟩; exact cmp_v (by unfold reckF; first | grind | grind [cmpB] | grind [needF])
        · skip
          refine G_lload (i := 3) (n := 2) (len := 1) (Or.inl ⟨3, rfl, rfl, d_Mo_reckon_75⟩) rfl (G_pc (pc' := 76) rfl ?_)
          refine G_lload (i := 5) (n := 1) (len := 2) (Or.inr ⟨rfl, d_Mo_reckon_76⟩) rfl (G_pc (pc' := 78) rfl ?_)
          refine G_ladd d_Mo_reckon_78 (G_pc (pc' := 79) rfl ?_)
          refine G_goto (tgt := 99) d_Mo_reckon_79 (by decide) ?_
          refine G_callV (K1 := KE) (d2 := 0) (o := 55) (cl := 9) (as := [vi n, vl (o_ladd (M 83 (M 77 n)) (M 83 (M 78 n)))]) (rest := []) d_Mo_reckon_99 mf_Mo_set ml_Mo_289 rfl rfl (by decide) rfl rfl (Nat.le_of_ble_eq_true rfl) (by omega) ⟨Nat.le_refl _, Nat.le_refl _⟩ (g_Mo_set (by omega) n (o_ladd (M 83 (M 77 n)) (M 83 (M 78 n))) _ (by omega)) (fun r29 M30 kq31 q31 => ?_)
          clear kq31; obtain ⟨q31a, q31b⟩ := q31; subst r29; subst M30
          refine G_ps (pc' := 102) (st' := []) rfl rfl ?_
          refine G_goto (tgt := 427) d_Mo_reckon_102 (by decide) ?_
          refine G_vret d_Mo_reckon_427 rfl rfl ?_
          refine ⟨rfl, ?_⟩; exact cmp_v (by unfold reckF; first | grind | grind [cmpB] | grind [needF])
      · skip
        refine G_iload (i := 2) (n := 3) (len := 1) (Or.inl ⟨2, rfl, rfl, d_Mo_reckon_61⟩) rfl (G_pc (pc' := 62) rfl ?_)
        refine G_bipush (n := 29) d_Mo_reckon_62 (by decide) (G_pc (pc' := 64) rfl ?_)
        refine G_icmp_ne (tgt := 105) d_Mo_reckon_64 (by decide) (fun h32 => ?_) (fun h32 => G_pc (pc' := 67) rfl ?_)
        · skip
          refine G_iload (i := 2) (n := 3) (len := 1) (Or.inl ⟨2, rfl, rfl, d_Mo_reckon_105⟩) rfl (G_pc (pc' := 106) rfl ?_)
          refine G_bipush (n := 30) d_Mo_reckon_106 (by decide) (G_pc (pc' := 108) rfl ?_)
          refine G_icmp_eq (tgt := 117) d_Mo_reckon_108 (by decide) (fun h33 => ?_) (fun h33 => G_pc (pc' := 111) rfl ?_)
          · skip
            refine G_lload (i := 5) (n := 1) (len := 2) (Or.inr ⟨rfl, d_Mo_reckon_117⟩) rfl (G_pc (pc' := 119) rfl ?_)
            refine G_lconst0 d_Mo_reckon_119 (G_pc (pc' := 120) rfl ?_)
            refine G_lcmp_ne (tgt := 132) d_Mo_reckon_120 d_Mo_reckon_121 (by decide) (fun h34 => ?_) (fun h34 => G_pc (pc' := 124) rfl ?_)
            · skip
              refine G_aload (i := 0) (n := 4) (len := 1) (Or.inl ⟨0, rfl, rfl, d_Mo_reckon_132⟩) rfl (by decide) (G_pc (pc' := 133) rfl ?_)
              refine G_iload (i := 1) (n := 5) (len := 1) (Or.inl ⟨1, rfl, rfl, d_Mo_reckon_133⟩) rfl (G_pc (pc' := 134) rfl ?_)
              refine G_iload (i := 2) (n := 3) (len := 1) (Or.inl ⟨2, rfl, rfl, d_Mo_reckon_134⟩) rfl (G_pc (pc' := 135) rfl ?_)
              refine G_bipush (n := 30) d_Mo_reckon_135 (by decide) (G_pc (pc' := 137) rfl ?_)
              refine G_icmp_ne (tgt := 147) d_Mo_reckon_137 (by decide) (fun h35 => ?_) (fun h35 => G_pc (pc' := 140) rfl ?_)
              · skip
                refine G_lload (i := 3) (n := 2) (len := 1) (Or.inl ⟨3, rfl, rfl, d_Mo_reckon_147⟩) rfl (G_pc (pc' := 148) rfl ?_)
                refine G_lload (i := 5) (n := 1) (len := 2) (Or.inr ⟨rfl, d_Mo_reckon_148⟩) rfl (G_pc (pc' := 150) rfl ?_)
                refine G_lrem d_Mo_reckon_150 (by omega) (G_pc (pc' := 151) rfl ?_)
                refine G_callV (K1 := KE) (d2 := 0) (o := 55) (cl := 9) (as := [vi n, vl (o_lrem (M 83 (M 77 n)) (M 83 (M 78 n)))]) (rest := []) d_Mo_reckon_151 mf_Mo_set ml_Mo_289 rfl rfl (by decide) rfl rfl (Nat.le_of_ble_eq_true rfl) (by omega) ⟨Nat.le_refl _, Nat.le_refl _⟩ (g_Mo_set (by omega) n (o_lrem (M 83 (M 77 n)) (M 83 (M 78 n))) _ (by omega)) (fun r36 M37 kq38 q38 => ?_)
                clear kq38; obtain ⟨q38a, q38b⟩ := q38; subst r36; subst M37
                refine G_ps (pc' := 154) (st' := []) rfl rfl ?_
                refine G_goto (tgt := 427) d_Mo_reckon_154 (by decide) ?_
                refine G_vret d_Mo_reckon_427 rfl rfl ?_
                refine ⟨rfl, ?_⟩; exact cmp_v (by unfold reckF; first | grind | grind [cmpB] | grind [needF])
              · skip
                refine G_lload (i := 3) (n := 2) (len := 1) (Or.inl ⟨3, rfl, rfl, d_Mo_reckon_140⟩) rfl (G_pc (pc' := 141) rfl ?_)
                refine G_lload (i := 5) (n := 1) (len := 2) (Or.inr ⟨rfl, d_Mo_reckon_141⟩) rfl (G_pc (pc' := 143) rfl ?_)
                refine G_ldiv d_Mo_reckon_143 (by omega) (G_pc (pc' := 144) rfl ?_)
                refine G_goto (tgt := 151) d_Mo_reckon_144 (by decide) ?_
                refine G_callV (K1 := KE) (d2 := 0) (o := 55) (cl := 9) (as := [vi n, vl (o_ldiv (M 83 (M 77 n)) (M 83 (M 78 n)))]) (rest := []) d_Mo_reckon_151 mf_Mo_set ml_Mo_289 rfl rfl (by decide) rfl rfl (Nat.le_of_ble_eq_true rfl) (by omega) ⟨Nat.le_refl _, Nat.le_refl _⟩ (g_Mo_set (by omega) n (o_ldiv (M 83 (M 77 n)) (M 83 (M 78 n))) _ (by omega)) (fun r39 M40 kq41 q41 => ?_)
                clear kq41; obtain ⟨q41a, q41b⟩ := q41; subst r39; subst M40
                refine G_ps (pc' := 154) (st' := []) rfl rfl ?_
                refine G_goto (tgt := 427) d_Mo_reckon_154 (by decide) ?_
                refine G_vret d_Mo_reckon_427 rfl rfl ?_
                refine ⟨rfl, ?_⟩; exact cmp_v (by unfold reckF; first | grind | grind [cmpB] | grind [needF])
            · skip
              refine G_aload (i := 0) (n := 4) (len := 1) (Or.inl ⟨0, rfl, rfl, d_Mo_reckon_124⟩) rfl (by decide) (G_pc (pc' := 125) rfl ?_)
              refine G_iconst (n := 1) d_Mo_reckon_125 (by decide) (G_pc (pc' := 126) rfl ?_)
              refine G_putL (o := 55) (c := 9) (k := 46) (ki := 46) (x := 1) d_Mo_reckon_126 fl_Mo_280 rfl rfl (by decide) (by decide) (by decide) rfl rfl (tokI (by decide)) rfl (G_pc (pc' := 129) rfl ?_)
              refine G_goto (tgt := 427) d_Mo_reckon_129 (by decide) ?_
              refine G_vret d_Mo_reckon_427 rfl rfl ?_
              refine ⟨rfl, ?_⟩; exact cmp_t (by unfold reckF; first | grind | grind [cmpB] | grind [needF]) (by decide)
          · skip
            refine G_iload (i := 2) (n := 3) (len := 1) (Or.inl ⟨2, rfl, rfl, d_Mo_reckon_111⟩) rfl (G_pc (pc' := 112) rfl ?_)
            refine G_bipush (n := 31) d_Mo_reckon_112 (by decide) (G_pc (pc' := 114) rfl ?_)
            refine G_icmp_ne (tgt := 157) d_Mo_reckon_114 (by decide) (fun h42 => ?_) (fun h42 => G_pc (pc' := 117) rfl ?_)
            · skip
              refine G_iload (i := 2) (n := 3) (len := 1) (Or.inl ⟨2, rfl, rfl, d_Mo_reckon_157⟩) rfl (G_pc (pc' := 158) rfl ?_)
              refine G_bipush (n := 38) d_Mo_reckon_158 (by decide) (G_pc (pc' := 160) rfl ?_)
              refine G_icmp_lt (tgt := 239) d_Mo_reckon_160 (by decide) (fun h43 => ?_) (fun h43 => G_pc (pc' := 163) rfl ?_)
              · skip
                refine G_iload (i := 2) (n := 3) (len := 1) (Or.inl ⟨2, rfl, rfl, d_Mo_reckon_239⟩) rfl (G_pc (pc' := 240) rfl ?_)
                refine G_bipush (n := 43) d_Mo_reckon_240 (by decide) (G_pc (pc' := 242) rfl ?_)
                refine G_icmp_eq (tgt := 257) d_Mo_reckon_242 (by decide) (fun h44 => ?_) (fun h44 => G_pc (pc' := 245) rfl ?_)
                · skip
                  refine G_aload (i := 0) (n := 4) (len := 1) (Or.inl ⟨0, rfl, rfl, d_Mo_reckon_257⟩) rfl (by decide) (G_pc (pc' := 258) rfl ?_)
                  refine G_iload (i := 1) (n := 5) (len := 1) (Or.inl ⟨1, rfl, rfl, d_Mo_reckon_258⟩) rfl (G_pc (pc' := 259) rfl ?_)
                  refine G_iload (i := 2) (n := 3) (len := 1) (Or.inl ⟨2, rfl, rfl, d_Mo_reckon_259⟩) rfl (G_pc (pc' := 260) rfl ?_)
                  refine G_bipush (n := 43) d_Mo_reckon_260 (by decide) (G_pc (pc' := 262) rfl ?_)
                  refine G_icmp_ne (tgt := 272) d_Mo_reckon_262 (by decide) (fun h45 => ?_) (fun h45 => G_pc (pc' := 265) rfl ?_)
                  · skip
                    refine G_iload (i := 2) (n := 3) (len := 1) (Or.inl ⟨2, rfl, rfl, d_Mo_reckon_272⟩) rfl (G_pc (pc' := 273) rfl ?_)
                    refine G_bipush (n := 45) d_Mo_reckon_273 (by decide) (G_pc (pc' := 275) rfl ?_)
                    refine G_icmp_ne (tgt := 285) d_Mo_reckon_275 (by decide) (fun h46 => ?_) (fun h46 => G_pc (pc' := 278) rfl ?_)
                    · skip
                      refine G_lload (i := 3) (n := 2) (len := 1) (Or.inl ⟨3, rfl, rfl, d_Mo_reckon_285⟩) rfl (G_pc (pc' := 286) rfl ?_)
                      refine G_lload (i := 5) (n := 1) (len := 2) (Or.inr ⟨rfl, d_Mo_reckon_286⟩) rfl (G_pc (pc' := 288) rfl ?_)
                      refine G_lxor d_Mo_reckon_288 (G_pc (pc' := 289) rfl ?_)
                      refine G_callV (K1 := KE) (d2 := 0) (o := 55) (cl := 9) (as := [vi n, vl (o_lxor (M 83 (M 77 n)) (M 83 (M 78 n)))]) (rest := []) d_Mo_reckon_289 mf_Mo_set ml_Mo_289 rfl rfl (by decide) rfl rfl (Nat.le_of_ble_eq_true rfl) (by omega) ⟨Nat.le_refl _, Nat.le_refl _⟩ (g_Mo_set (by omega) n (o_lxor (M 83 (M 77 n)) (M 83 (M 78 n))) _ (by omega)) (fun r47 M48 kq49 q49 => ?_)
                      clear kq49; obtain ⟨q49a, q49b⟩ := q49; subst r47; subst M48
                      refine G_ps (pc' := 292) (st' := []) rfl rfl ?_
                      refine G_goto (tgt := 427) d_Mo_reckon_292 (by decide) ?_
                      refine G_vret d_Mo_reckon_427 rfl rfl ?_
                      refine ⟨rfl, ?_⟩; exact cmp_v (by unfold reckF; first | grind | grind [cmpB] | grind [needF])
                    · skip
                      refine G_lload (i := 3) (n := 2) (len := 1) (Or.inl ⟨3, rfl, rfl, d_Mo_reckon_278⟩) rfl (G_pc (pc' := 279) rfl ?_)
                      refine G_lload (i := 5) (n := 1) (len := 2) (Or.inr ⟨rfl, d_Mo_reckon_279⟩) rfl (G_pc (pc' := 281) rfl ?_)
                      refine G_lor d_Mo_reckon_281 (G_pc (pc' := 282) rfl ?_)
                      refine G_goto (tgt := 289) d_Mo_reckon_282 (by decide) ?_
                      refine G_callV (K1 := KE) (d2 := 0) (o := 55) (cl := 9) (as := [vi n, vl (o_lor (M 83 (M 77 n)) (M 83 (M 78 n)))]) (rest := []) d_Mo_reckon_289 mf_Mo_set ml_Mo_289 rfl rfl (by decide) rfl rfl (Nat.le_of_ble_eq_true rfl) (by omega) ⟨Nat.le_refl _, Nat.le_refl _⟩ (g_Mo_set (by omega) n (o_lor (M 83 (M 77 n)) (M 83 (M 78 n))) _ (by omega)) (fun r50 M51 kq52 q52 => ?_)
                      clear kq52; obtain ⟨q52a, q52b⟩ := q52; subst r50; subst M51
                      refine G_ps (pc' := 292) (st' := []) rfl rfl ?_
                      refine G_goto (tgt := 427) d_Mo_reckon_292 (by decide) ?_
                      refine G_vret d_Mo_reckon_427 rfl rfl ?_
                      refine ⟨rfl, ?_⟩; exact cmp_v (by unfold reckF; first | grind | grind [cmpB] | grind [needF])
                  · skip
                    refine G_lload (i := 3) (n := 2) (len := 1) (Or.inl ⟨3, rfl, rfl, d_Mo_reckon_265⟩) rfl (G_pc (pc' := 266) rfl ?_)
                    refine G_lload (i := 5) (n := 1) (len := 2) (Or.inr ⟨rfl, d_Mo_reckon_266⟩) rfl (G_pc (pc' := 268) rfl ?_)
                    refine G_land d_Mo_reckon_268 (G_pc (pc' := 269) rfl ?_)
                    refine G_goto (tgt := 289) d_Mo_reckon_269 (by decide) ?_
                    refine G_callV (K1 := KE) (d2 := 0) (o := 55) (cl := 9) (as := [vi n, vl (o_land (M 83 (M 77 n)) (M 83 (M 78 n)))]) (rest := []) d_Mo_reckon_289 mf_Mo_set ml_Mo_289 rfl rfl (by decide) rfl rfl (Nat.le_of_ble_eq_true rfl) (by omega) ⟨Nat.le_refl _, Nat.le_refl _⟩ (g_Mo_set (by omega) n (o_land (M 83 (M 77 n)) (M 83 (M 78 n))) _ (by omega)) (fun r53 M54 kq55 q55 => ?_)
                    clear kq55; obtain ⟨q55a, q55b⟩ := q55; subst r53; subst M54
                    refine G_ps (pc' := 292) (st' := []) rfl rfl ?_
                    refine G_goto (tgt := 427) d_Mo_reckon_292 (by decide) ?_
                    refine G_vret d_Mo_reckon_427 rfl rfl ?_
                    refine ⟨rfl, ?_⟩; exact cmp_v (by unfold reckF; first | grind | grind [cmpB] | grind [needF])
                · skip
                  refine G_iload (i := 2) (n := 3) (len := 1) (Or.inl ⟨2, rfl, rfl, d_Mo_reckon_245⟩) rfl (G_pc (pc' := 246) rfl ?_)
                  refine G_bipush (n := 45) d_Mo_reckon_246 (by decide) (G_pc (pc' := 248) rfl ?_)
                  refine G_icmp_eq (tgt := 257) d_Mo_reckon_248 (by decide) (fun h56 => ?_) (fun h56 => G_pc (pc' := 251) rfl ?_)
                  · skip
                    refine G_aload (i := 0) (n := 4) (len := 1) (Or.inl ⟨0, rfl, rfl, d_Mo_reckon_257⟩) rfl (by decide) (G_pc (pc' := 258) rfl ?_)
                    refine G_iload (i := 1) (n := 5) (len := 1) (Or.inl ⟨1, rfl, rfl, d_Mo_reckon_258⟩) rfl (G_pc (pc' := 259) rfl ?_)
                    refine G_iload (i := 2) (n := 3) (len := 1) (Or.inl ⟨2, rfl, rfl, d_Mo_reckon_259⟩) rfl (G_pc (pc' := 260) rfl ?_)
                    refine G_bipush (n := 43) d_Mo_reckon_260 (by decide) (G_pc (pc' := 262) rfl ?_)
                    refine G_icmp_ne (tgt := 272) d_Mo_reckon_262 (by decide) (fun h57 => ?_) (fun h57 => G_pc (pc' := 265) rfl ?_)
                    · skip
                      refine G_iload (i := 2) (n := 3) (len := 1) (Or.inl ⟨2, rfl, rfl, d_Mo_reckon_272⟩) rfl (G_pc (pc' := 273) rfl ?_)
                      refine G_bipush (n := 45) d_Mo_reckon_273 (by decide) (G_pc (pc' := 275) rfl ?_)
                      refine G_icmp_ne (tgt := 285) d_Mo_reckon_275 (by decide) (fun h58 => ?_) (fun h58 => G_pc (pc' := 278) rfl ?_)
                      · skip
                        refine G_lload (i := 3) (n := 2) (len := 1) (Or.inl ⟨3, rfl, rfl, d_Mo_reckon_285⟩) rfl (G_pc (pc' := 286) rfl ?_)
                        refine G_lload (i := 5) (n := 1) (len := 2) (Or.inr ⟨rfl, d_Mo_reckon_286⟩) rfl (G_pc (pc' := 288) rfl ?_)
                        refine G_lxor d_Mo_reckon_288 (G_pc (pc' := 289) rfl ?_)
                        refine G_callV (K1 := KE) (d2 := 0) (o := 55) (cl := 9) (as := [vi n, vl (o_lxor (M 83 (M 77 n)) (M 83 (M 78 n)))]) (rest := []) d_Mo_reckon_289 mf_Mo_set ml_Mo_289 rfl rfl (by decide) rfl rfl (Nat.le_of_ble_eq_true rfl) (by omega) ⟨Nat.le_refl _, Nat.le_refl _⟩ (g_Mo_set (by omega) n (o_lxor (M 83 (M 77 n)) (M 83 (M 78 n))) _ (by omega)) (fun r59 M60 kq61 q61 => ?_)
                        clear kq61; obtain ⟨q61a, q61b⟩ := q61; subst r59; subst M60
                        refine G_ps (pc' := 292) (st' := []) rfl rfl ?_
                        refine G_goto (tgt := 427) d_Mo_reckon_292 (by decide) ?_
                        refine G_vret d_Mo_reckon_427 rfl rfl ?_
                        refine ⟨rfl, ?_⟩; exact cmp_v (by unfold reckF; first | grind | grind [cmpB] | grind [needF])
                      · skip
                        refine G_lload (i := 3) (n := 2) (len := 1) (Or.inl ⟨3, rfl, rfl, d_Mo_reckon_278⟩) rfl (G_pc (pc' := 279) rfl ?_)
                        refine G_lload (i := 5) (n := 1) (len := 2) (Or.inr ⟨rfl, d_Mo_reckon_279⟩) rfl (G_pc (pc' := 281) rfl ?_)
                        refine G_lor d_Mo_reckon_281 (G_pc (pc' := 282) rfl ?_)
                        refine G_goto (tgt := 289) d_Mo_reckon_282 (by decide) ?_
                        refine G_callV (K1 := KE) (d2 := 0) (o := 55) (cl := 9) (as := [vi n, vl (o_lor (M 83 (M 77 n)) (M 83 (M 78 n)))]) (rest := []) d_Mo_reckon_289 mf_Mo_set ml_Mo_289 rfl rfl (by decide) rfl rfl (Nat.le_of_ble_eq_true rfl) (by omega) ⟨Nat.le_refl _, Nat.le_refl _⟩ (g_Mo_set (by omega) n (o_lor (M 83 (M 77 n)) (M 83 (M 78 n))) _ (by omega)) (fun r62 M63 kq64 q64 => ?_)
                        clear kq64; obtain ⟨q64a, q64b⟩ := q64; subst r62; subst M63
                        refine G_ps (pc' := 292) (st' := []) rfl rfl ?_
                        refine G_goto (tgt := 427) d_Mo_reckon_292 (by decide) ?_
                        refine G_vret d_Mo_reckon_427 rfl rfl ?_
                        refine ⟨rfl, ?_⟩; exact cmp_v (by unfold reckF; first | grind | grind [cmpB] | grind [needF])
                    · skip
                      refine G_lload (i := 3) (n := 2) (len := 1) (Or.inl ⟨3, rfl, rfl, d_Mo_reckon_265⟩) rfl (G_pc (pc' := 266) rfl ?_)
                      refine G_lload (i := 5) (n := 1) (len := 2) (Or.inr ⟨rfl, d_Mo_reckon_266⟩) rfl (G_pc (pc' := 268) rfl ?_)
                      refine G_land d_Mo_reckon_268 (G_pc (pc' := 269) rfl ?_)
                      refine G_goto (tgt := 289) d_Mo_reckon_269 (by decide) ?_
                      refine G_callV (K1 := KE) (d2 := 0) (o := 55) (cl := 9) (as := [vi n, vl (o_land (M 83 (M 77 n)) (M 83 (M 78 n)))]) (rest := []) d_Mo_reckon_289 mf_Mo_set ml_Mo_289 rfl rfl (by decide) rfl rfl (Nat.le_of_ble_eq_true rfl) (by omega) ⟨Nat.le_refl _, Nat.le_refl _⟩ (g_Mo_set (by omega) n (o_land (M 83 (M 77 n)) (M 83 (M 78 n))) _ (by omega)) (fun r65 M66 kq67 q67 => ?_)
                      clear kq67; obtain ⟨q67a, q67b⟩ := q67; subst r65; subst M66
                      refine G_ps (pc' := 292) (st' := []) rfl rfl ?_
                      refine G_goto (tgt := 427) d_Mo_reckon_292 (by decide) ?_
                      refine G_vret d_Mo_reckon_427 rfl rfl ?_
                      refine ⟨rfl, ?_⟩; exact cmp_v (by unfold reckF; first | grind | grind [cmpB] | grind [needF])
                  · skip
                    refine G_iload (i := 2) (n := 3) (len := 1) (Or.inl ⟨2, rfl, rfl, d_Mo_reckon_251⟩) rfl (G_pc (pc' := 252) rfl ?_)
                    refine G_bipush (n := 47) d_Mo_reckon_252 (by decide) (G_pc (pc' := 254) rfl ?_)
                    refine G_icmp_ne (tgt := 295) d_Mo_reckon_254 (by decide) (fun h68 => ?_) (fun h68 => G_pc (pc' := 257) rfl ?_)
                    · skip
                      refine G_iload (i := 2) (n := 3) (len := 1) (Or.inl ⟨2, rfl, rfl, d_Mo_reckon_295⟩) rfl (G_pc (pc' := 296) rfl ?_)
                      refine G_bipush (n := 34) d_Mo_reckon_296 (by decide) (G_pc (pc' := 298) rfl ?_)
                      refine G_icmp_ne (tgt := 316) d_Mo_reckon_298 (by decide) (fun h69 => ?_) (fun h69 => G_pc (pc' := 301) rfl ?_)
                      · skip
                        refine G_iload (i := 2) (n := 3) (len := 1) (Or.inl ⟨2, rfl, rfl, d_Mo_reckon_316⟩) rfl (G_pc (pc' := 317) rfl ?_)
                        refine G_bipush (n := 35) d_Mo_reckon_317 (by decide) (G_pc (pc' := 319) rfl ?_)
                        refine G_icmp_ne (tgt := 337) d_Mo_reckon_319 (by decide) (fun h70 => ?_) (fun h70 => G_pc (pc' := 322) rfl ?_)
                        · skip
                          refine G_iload (i := 2) (n := 3) (len := 1) (Or.inl ⟨2, rfl, rfl, d_Mo_reckon_337⟩) rfl (G_pc (pc' := 338) rfl ?_)
                          refine G_bipush (n := 36) d_Mo_reckon_338 (by decide) (G_pc (pc' := 340) rfl ?_)
                          refine G_icmp_ne (tgt := 358) d_Mo_reckon_340 (by decide) (fun h71 => ?_) (fun h71 => G_pc (pc' := 343) rfl ?_)
                          · skip
                            refine G_iload (i := 2) (n := 3) (len := 1) (Or.inl ⟨2, rfl, rfl, d_Mo_reckon_358⟩) rfl (G_pc (pc' := 359) rfl ?_)
                            refine G_bipush (n := 37) d_Mo_reckon_359 (by decide) (G_pc (pc' := 361) rfl ?_)
                            refine G_icmp_ne (tgt := 379) d_Mo_reckon_361 (by decide) (fun h72 => ?_) (fun h72 => G_pc (pc' := 364) rfl ?_)
                            · skip
                              refine G_iload (i := 2) (n := 3) (len := 1) (Or.inl ⟨2, rfl, rfl, d_Mo_reckon_379⟩) rfl (G_pc (pc' := 380) rfl ?_)
                              refine G_bipush (n := 41) d_Mo_reckon_380 (by decide) (G_pc (pc' := 382) rfl ?_)
                              refine G_icmp_ne (tgt := 389) d_Mo_reckon_382 (by decide) (fun h73 => ?_) (fun h73 => G_pc (pc' := 385) rfl ?_)
                              · skip
                                refine G_iconst (n := 0) d_Mo_reckon_389 (by decide) (G_pc (pc' := 390) rfl ?_)
                                refine G_lload (i := 3) (n := 2) (len := 1) (Or.inl ⟨3, rfl, rfl, d_Mo_reckon_390⟩) rfl (G_pc (pc' := 391) rfl ?_)
                                refine G_lload (i := 5) (n := 1) (len := 2) (Or.inr ⟨rfl, d_Mo_reckon_391⟩) rfl (G_pc (pc' := 393) rfl ?_)
                                refine G_lcmp_ne (tgt := 401) d_Mo_reckon_393 d_Mo_reckon_394 (by decide) (fun h74 => ?_) (fun h74 => G_pc (pc' := 397) rfl ?_)
                                · skip
                                  refine G_iconst (n := 0) d_Mo_reckon_401 (by decide) (G_pc (pc' := 402) rfl ?_)
                                  refine G_icmp_ne (tgt := 409) d_Mo_reckon_402 (by decide) (fun h75 => absurd h75 (by decide)) (fun h75 => G_pc (pc' := 405) rfl ?_)
                                  refine G_iconst (n := 1) d_Mo_reckon_405 (by decide) (G_pc (pc' := 406) rfl ?_)
                                  refine G_goto (tgt := 410) d_Mo_reckon_406 (by decide) ?_
                                  refine G_istore (i := 8) (len := 2) (ls' := [(8, vi 1), (7, vi 0), (5, vl (M 83 (M 78 n))), (3, vl (M 83 (M 77 n))), (2, vi (M 76 n)), (0, vr 55), (1, vi n)]) (Or.inr ⟨rfl, d_Mo_reckon_410⟩) (by decide) rfl (G_pc (pc' := 412) rfl ?_)
                                  refine G_aload (i := 0) (n := 5) (len := 1) (Or.inl ⟨0, rfl, rfl, d_Mo_reckon_412⟩) rfl (by decide) (G_pc (pc' := 413) rfl ?_)
                                  refine G_iload (i := 1) (n := 6) (len := 1) (Or.inl ⟨1, rfl, rfl, d_Mo_reckon_413⟩) rfl (G_pc (pc' := 414) rfl ?_)
                                  refine G_iload (i := 8) (n := 0) (len := 2) (Or.inr ⟨rfl, d_Mo_reckon_414⟩) rfl (G_pc (pc' := 416) rfl ?_)
                                  refine G_if_eq (tgt := 423) d_Mo_reckon_416 (by decide) (fun h76 => absurd h76 (by decide)) (fun h76 => G_pc (pc' := 419) rfl ?_)
                                  refine G_lconst1 d_Mo_reckon_419 (G_pc (pc' := 420) rfl ?_)
                                  refine G_goto (tgt := 424) d_Mo_reckon_420 (by decide) ?_
                                  refine G_callV (K1 := KE) (d2 := 0) (o := 55) (cl := 9) (as := [vi n, vl 1]) (rest := []) d_Mo_reckon_424 mf_Mo_set ml_Mo_289 rfl rfl (by decide) rfl rfl (Nat.le_of_ble_eq_true rfl) (by omega) ⟨Nat.le_refl _, Nat.le_refl _⟩ (g_Mo_set (by omega) n 1 _ (by omega)) (fun r77 M78 kq79 q79 => ?_)
                                  clear kq79; obtain ⟨q79a, q79b⟩ := q79; subst r77; subst M78
                                  refine G_ps (pc' := 427) (st' := []) rfl rfl ?_
                                  refine G_vret d_Mo_reckon_427 rfl rfl ?_
                                  refine ⟨rfl, ?_⟩; exact cmp_v (by unfold reckF; first | grind | grind [cmpB] | grind [needF])
                                · skip
                                  refine G_iconst (n := 1) d_Mo_reckon_397 (by decide) (G_pc (pc' := 398) rfl ?_)
                                  refine G_goto (tgt := 402) d_Mo_reckon_398 (by decide) ?_
                                  refine G_icmp_ne (tgt := 409) d_Mo_reckon_402 (by decide) (fun h80 => ?_) (fun h80 => absurd h80 (by decide))
                                  refine G_iconst (n := 0) d_Mo_reckon_409 (by decide) (G_pc (pc' := 410) rfl ?_)
                                  refine G_istore (i := 8) (len := 2) (ls' := [(8, vi 0), (7, vi 0), (5, vl (M 83 (M 78 n))), (3, vl (M 83 (M 77 n))), (2, vi (M 76 n)), (0, vr 55), (1, vi n)]) (Or.inr ⟨rfl, d_Mo_reckon_410⟩) (by decide) rfl (G_pc (pc' := 412) rfl ?_)
                                  refine G_aload (i := 0) (n := 5) (len := 1) (Or.inl ⟨0, rfl, rfl, d_Mo_reckon_412⟩) rfl (by decide) (G_pc (pc' := 413) rfl ?_)
                                  refine G_iload (i := 1) (n := 6) (len := 1) (Or.inl ⟨1, rfl, rfl, d_Mo_reckon_413⟩) rfl (G_pc (pc' := 414) rfl ?_)
                                  refine G_iload (i := 8) (n := 0) (len := 2) (Or.inr ⟨rfl, d_Mo_reckon_414⟩) rfl (G_pc (pc' := 416) rfl ?_)
                                  refine G_if_eq (tgt := 423) d_Mo_reckon_416 (by decide) (fun h81 => ?_) (fun h81 => absurd h81 (by decide))
                                  refine G_lconst0 d_Mo_reckon_423 (G_pc (pc' := 424) rfl ?_)
                                  refine G_callV (K1 := KE) (d2 := 0) (o := 55) (cl := 9) (as := [vi n, vl 0]) (rest := []) d_Mo_reckon_424 mf_Mo_set ml_Mo_289 rfl rfl (by decide) rfl rfl (Nat.le_of_ble_eq_true rfl) (by omega) ⟨Nat.le_refl _, Nat.le_refl _⟩ (g_Mo_set (by omega) n 0 _ (by omega)) (fun r82 M83 kq84 q84 => ?_)
                                  clear kq84; obtain ⟨q84a, q84b⟩ := q84; subst r82; subst M83
                                  refine G_ps (pc' := 427) (st' := []) rfl rfl ?_
                                  refine G_vret d_Mo_reckon_427 rfl rfl ?_
                                  refine ⟨rfl, ?_⟩; exact cmp_v (by unfold reckF; first | grind | grind [cmpB] | grind [needF])
                              · skip
                                refine G_iconst (n := 1) d_Mo_reckon_385 (by decide) (G_pc (pc' := 386) rfl ?_)
                                refine G_goto (tgt := 390) d_Mo_reckon_386 (by decide) ?_
                                refine G_lload (i := 3) (n := 2) (len := 1) (Or.inl ⟨3, rfl, rfl, d_Mo_reckon_390⟩) rfl (G_pc (pc' := 391) rfl ?_)
                                refine G_lload (i := 5) (n := 1) (len := 2) (Or.inr ⟨rfl, d_Mo_reckon_391⟩) rfl (G_pc (pc' := 393) rfl ?_)
                                refine G_lcmp_ne (tgt := 401) d_Mo_reckon_393 d_Mo_reckon_394 (by decide) (fun h85 => ?_) (fun h85 => G_pc (pc' := 397) rfl ?_)
                                · skip
                                  refine G_iconst (n := 0) d_Mo_reckon_401 (by decide) (G_pc (pc' := 402) rfl ?_)
                                  refine G_icmp_ne (tgt := 409) d_Mo_reckon_402 (by decide) (fun h86 => ?_) (fun h86 => absurd h86 (by decide))
                                  refine G_iconst (n := 0) d_Mo_reckon_409 (by decide) (G_pc (pc' := 410) rfl ?_)
                                  refine G_istore (i := 8) (len := 2) (ls' := [(8, vi 0), (7, vi 0), (5, vl (M 83 (M 78 n))), (3, vl (M 83 (M 77 n))), (2, vi (M 76 n)), (0, vr 55), (1, vi n)]) (Or.inr ⟨rfl, d_Mo_reckon_410⟩) (by decide) rfl (G_pc (pc' := 412) rfl ?_)
                                  refine G_aload (i := 0) (n := 5) (len := 1) (Or.inl ⟨0, rfl, rfl, d_Mo_reckon_412⟩) rfl (by decide) (G_pc (pc' := 413) rfl ?_)
                                  refine G_iload (i := 1) (n := 6) (len := 1) (Or.inl ⟨1, rfl, rfl, d_Mo_reckon_413⟩) rfl (G_pc (pc' := 414) rfl ?_)
                                  refine G_iload (i := 8) (n := 0) (len := 2) (Or.inr ⟨rfl, d_Mo_reckon_414⟩) rfl (G_pc (pc' := 416) rfl ?_)
                                  refine G_if_eq (tgt := 423) d_Mo_reckon_416 (by decide) (fun h87 => ?_) (fun h87 => absurd h87 (by decide))
                                  refine G_lconst0 d_Mo_reckon_423 (G_pc (pc' := 424) rfl ?_)
                                  refine G_callV (K1 := KE) (d2 := 0) (o := 55) (cl := 9) (as := [vi n, vl 0]) (rest := []) d_Mo_reckon_424 mf_Mo_set ml_Mo_289 rfl rfl (by decide) rfl rfl (Nat.le_of_ble_eq_true rfl) (by omega) ⟨Nat.le_refl _, Nat.le_refl _⟩ (g_Mo_set (by omega) n 0 _ (by omega)) (fun r88 M89 kq90 q90 => ?_)
                                  clear kq90; obtain ⟨q90a, q90b⟩ := q90; subst r88; subst M89
                                  refine G_ps (pc' := 427) (st' := []) rfl rfl ?_
                                  refine G_vret d_Mo_reckon_427 rfl rfl ?_
                                  refine ⟨rfl, ?_⟩; exact cmp_v (by unfold reckF; first | grind | grind [cmpB] | grind [needF])
                                · skip
                                  refine G_iconst (n := 1) d_Mo_reckon_397 (by decide) (G_pc (pc' := 398) rfl ?_)
                                  refine G_goto (tgt := 402) d_Mo_reckon_398 (by decide) ?_
                                  refine G_icmp_ne (tgt := 409) d_Mo_reckon_402 (by decide) (fun h91 => absurd h91 (by decide)) (fun h91 => G_pc (pc' := 405) rfl ?_)
                                  refine G_iconst (n := 1) d_Mo_reckon_405 (by decide) (G_pc (pc' := 406) rfl ?_)
                                  refine G_goto (tgt := 410) d_Mo_reckon_406 (by decide) ?_
                                  refine G_istore (i := 8) (len := 2) (ls' := [(8, vi 1), (7, vi 0), (5, vl (M 83 (M 78 n))), (3, vl (M 83 (M 77 n))), (2, vi (M 76 n)), (0, vr 55), (1, vi n)]) (Or.inr ⟨rfl, d_Mo_reckon_410⟩) (by decide) rfl (G_pc (pc' := 412) rfl ?_)
                                  refine G_aload (i := 0) (n := 5) (len := 1) (Or.inl ⟨0, rfl, rfl, d_Mo_reckon_412⟩) rfl (by decide) (G_pc (pc' := 413) rfl ?_)
                                  refine G_iload (i := 1) (n := 6) (len := 1) (Or.inl ⟨1, rfl, rfl, d_Mo_reckon_413⟩) rfl (G_pc (pc' := 414) rfl ?_)
                                  refine G_iload (i := 8) (n := 0) (len := 2) (Or.inr ⟨rfl, d_Mo_reckon_414⟩) rfl (G_pc (pc' := 416) rfl ?_)
                                  refine G_if_eq (tgt := 423) d_Mo_reckon_416 (by decide) (fun h92 => absurd h92 (by decide)) (fun h92 => G_pc (pc' := 419) rfl ?_)
                                  refine G_lconst1 d_Mo_reckon_419 (G_pc (pc' := 420) rfl ?_)
                                  refine G_goto (tgt := 424) d_Mo_reckon_420 (by decide) ?_
                                  refine G_callV (K1 := KE) (d2 := 0) (o := 55) (cl := 9) (as := [vi n, vl 1]) (rest := []) d_Mo_reckon_424 mf_Mo_set ml_Mo_289 rfl rfl (by decide) rfl rfl (Nat.le_of_ble_eq_true rfl) (by omega) ⟨Nat.le_refl _, Nat.le_refl _⟩ (g_Mo_set (by omega) n 1 _ (by omega)) (fun r93 M94 kq95 q95 => ?_)
                                  clear kq95; obtain ⟨q95a, q95b⟩ := q95; subst r93; subst M94
                                  refine G_ps (pc' := 427) (st' := []) rfl rfl ?_
                                  refine G_vret d_Mo_reckon_427 rfl rfl ?_
                                  refine ⟨rfl, ?_⟩; exact cmp_v (by unfold reckF; first | grind | grind [cmpB] | grind [needF])
                            · skip
                              refine G_lload (i := 3) (n := 2) (len := 1) (Or.inl ⟨3, rfl, rfl, d_Mo_reckon_364⟩) rfl (G_pc (pc' := 365) rfl ?_)
                              refine G_lload (i := 5) (n := 1) (len := 2) (Or.inr ⟨rfl, d_Mo_reckon_365⟩) rfl (G_pc (pc' := 367) rfl ?_)
                              refine G_lcmp_lt (tgt := 375) d_Mo_reckon_367 d_Mo_reckon_368 (by decide) (fun h96 => ?_) (fun h96 => G_pc (pc' := 371) rfl ?_)
                              · skip
                                refine G_iconst (n := 0) d_Mo_reckon_375 (by decide) (G_pc (pc' := 376) rfl ?_)
                                refine G_goto (tgt := 410) d_Mo_reckon_376 (by decide) ?_
                                refine G_istore (i := 8) (len := 2) (ls' := [(8, vi 0), (7, vi 0), (5, vl (M 83 (M 78 n))), (3, vl (M 83 (M 77 n))), (2, vi (M 76 n)), (0, vr 55), (1, vi n)]) (Or.inr ⟨rfl, d_Mo_reckon_410⟩) (by decide) rfl (G_pc (pc' := 412) rfl ?_)
                                refine G_aload (i := 0) (n := 5) (len := 1) (Or.inl ⟨0, rfl, rfl, d_Mo_reckon_412⟩) rfl (by decide) (G_pc (pc' := 413) rfl ?_)
                                refine G_iload (i := 1) (n := 6) (len := 1) (Or.inl ⟨1, rfl, rfl, d_Mo_reckon_413⟩) rfl (G_pc (pc' := 414) rfl ?_)
                                refine G_iload (i := 8) (n := 0) (len := 2) (Or.inr ⟨rfl, d_Mo_reckon_414⟩) rfl (G_pc (pc' := 416) rfl ?_)
                                refine G_if_eq (tgt := 423) d_Mo_reckon_416 (by decide) (fun h97 => ?_) (fun h97 => absurd h97 (by decide))
                                refine G_lconst0 d_Mo_reckon_423 (G_pc (pc' := 424) rfl ?_)
                                refine G_callV (K1 := KE) (d2 := 0) (o := 55) (cl := 9) (as := [vi n, vl 0]) (rest := []) d_Mo_reckon_424 mf_Mo_set ml_Mo_289 rfl rfl (by decide) rfl rfl (Nat.le_of_ble_eq_true rfl) (by omega) ⟨Nat.le_refl _, Nat.le_refl _⟩ (g_Mo_set (by omega) n 0 _ (by omega)) (fun r98 M99 kq100 q100 => ?_)
                                clear kq100; obtain ⟨q100a, q100b⟩ := q100; subst r98; subst M99
                                refine G_ps (pc' := 427) (st' := []) rfl rfl ?_
                                refine G_vret d_Mo_reckon_427 rfl rfl ?_
                                refine ⟨rfl, ?_⟩; exact cmp_v (by unfold reckF; first | grind | grind [cmpB] | grind [needF])
                              · skip
                                refine G_iconst (n := 1) d_Mo_reckon_371 (by decide) (G_pc (pc' := 372) rfl ?_)
                                refine G_goto (tgt := 410) d_Mo_reckon_372 (by decide) ?_
                                refine G_istore (i := 8) (len := 2) (ls' := [(8, vi 1), (7, vi 0), (5, vl (M 83 (M 78 n))), (3, vl (M 83 (M 77 n))), (2, vi (M 76 n)), (0, vr 55), (1, vi n)]) (Or.inr ⟨rfl, d_Mo_reckon_410⟩) (by decide) rfl (G_pc (pc' := 412) rfl ?_)
                                refine G_aload (i := 0) (n := 5) (len := 1) (Or.inl ⟨0, rfl, rfl, d_Mo_reckon_412⟩) rfl (by decide) (G_pc (pc' := 413) rfl ?_)
                                refine G_iload (i := 1) (n := 6) (len := 1) (Or.inl ⟨1, rfl, rfl, d_Mo_reckon_413⟩) rfl (G_pc (pc' := 414) rfl ?_)
                                refine G_iload (i := 8) (n := 0) (len := 2) (Or.inr ⟨rfl, d_Mo_reckon_414⟩) rfl (G_pc (pc' := 416) rfl ?_)
                                refine G_if_eq (tgt := 423) d_Mo_reckon_416 (by decide) (fun h101 => absurd h101 (by decide)) (fun h101 => G_pc (pc' := 419) rfl ?_)
                                refine G_lconst1 d_Mo_reckon_419 (G_pc (pc' := 420) rfl ?_)
                                refine G_goto (tgt := 424) d_Mo_reckon_420 (by decide) ?_
                                refine G_callV (K1 := KE) (d2 := 0) (o := 55) (cl := 9) (as := [vi n, vl 1]) (rest := []) d_Mo_reckon_424 mf_Mo_set ml_Mo_289 rfl rfl (by decide) rfl rfl (Nat.le_of_ble_eq_true rfl) (by omega) ⟨Nat.le_refl _, Nat.le_refl _⟩ (g_Mo_set (by omega) n 1 _ (by omega)) (fun r102 M103 kq104 q104 => ?_)
                                clear kq104; obtain ⟨q104a, q104b⟩ := q104; subst r102; subst M103
                                refine G_ps (pc' := 427) (st' := []) rfl rfl ?_
                                refine G_vret d_Mo_reckon_427 rfl rfl ?_
                                refine ⟨rfl, ?_⟩; exact cmp_v (by unfold reckF; first | grind | grind [cmpB] | grind [needF])
                          · skip
                            refine G_lload (i := 3) (n := 2) (len := 1) (Or.inl ⟨3, rfl, rfl, d_Mo_reckon_343⟩) rfl (G_pc (pc' := 344) rfl ?_)
                            refine G_lload (i := 5) (n := 1) (len := 2) (Or.inr ⟨rfl, d_Mo_reckon_344⟩) rfl (G_pc (pc' := 346) rfl ?_)
                            refine G_lcmp_le (tgt := 354) d_Mo_reckon_346 d_Mo_reckon_347 (by decide) (fun h105 => ?_) (fun h105 => G_pc (pc' := 350) rfl ?_)
                            · skip
                              refine G_iconst (n := 0) d_Mo_reckon_354 (by decide) (G_pc (pc' := 355) rfl ?_)
                              refine G_goto (tgt := 410) d_Mo_reckon_355 (by decide) ?_
                              refine G_istore (i := 8) (len := 2) (ls' := [(8, vi 0), (7, vi 0), (5, vl (M 83 (M 78 n))), (3, vl (M 83 (M 77 n))), (2, vi (M 76 n)), (0, vr 55), (1, vi n)]) (Or.inr ⟨rfl, d_Mo_reckon_410⟩) (by decide) rfl (G_pc (pc' := 412) rfl ?_)
                              refine G_aload (i := 0) (n := 5) (len := 1) (Or.inl ⟨0, rfl, rfl, d_Mo_reckon_412⟩) rfl (by decide) (G_pc (pc' := 413) rfl ?_)
                              refine G_iload (i := 1) (n := 6) (len := 1) (Or.inl ⟨1, rfl, rfl, d_Mo_reckon_413⟩) rfl (G_pc (pc' := 414) rfl ?_)
                              refine G_iload (i := 8) (n := 0) (len := 2) (Or.inr ⟨rfl, d_Mo_reckon_414⟩) rfl (G_pc (pc' := 416) rfl ?_)
                              refine G_if_eq (tgt := 423) d_Mo_reckon_416 (by decide) (fun h106 => ?_) (fun h106 => absurd h106 (by decide))
                              refine G_lconst0 d_Mo_reckon_423 (G_pc (pc' := 424) rfl ?_)
                              refine G_callV (K1 := KE) (d2 := 0) (o := 55) (cl := 9) (as := [vi n, vl 0]) (rest := []) d_Mo_reckon_424 mf_Mo_set ml_Mo_289 rfl rfl (by decide) rfl rfl (Nat.le_of_ble_eq_true rfl) (by omega) ⟨Nat.le_refl _, Nat.le_refl _⟩ (g_Mo_set (by omega) n 0 _ (by omega)) (fun r107 M108 kq109 q109 => ?_)
                              clear kq109; obtain ⟨q109a, q109b⟩ := q109; subst r107; subst M108
                              refine G_ps (pc' := 427) (st' := []) rfl rfl ?_
                              refine G_vret d_Mo_reckon_427 rfl rfl ?_
                              refine ⟨rfl, ?_⟩; exact cmp_v (by unfold reckF; first | grind | grind [cmpB] | grind [needF])
                            · skip
                              refine G_iconst (n := 1) d_Mo_reckon_350 (by decide) (G_pc (pc' := 351) rfl ?_)
                              refine G_goto (tgt := 410) d_Mo_reckon_351 (by decide) ?_
                              refine G_istore (i := 8) (len := 2) (ls' := [(8, vi 1), (7, vi 0), (5, vl (M 83 (M 78 n))), (3, vl (M 83 (M 77 n))), (2, vi (M 76 n)), (0, vr 55), (1, vi n)]) (Or.inr ⟨rfl, d_Mo_reckon_410⟩) (by decide) rfl (G_pc (pc' := 412) rfl ?_)
                              refine G_aload (i := 0) (n := 5) (len := 1) (Or.inl ⟨0, rfl, rfl, d_Mo_reckon_412⟩) rfl (by decide) (G_pc (pc' := 413) rfl ?_)
                              refine G_iload (i := 1) (n := 6) (len := 1) (Or.inl ⟨1, rfl, rfl, d_Mo_reckon_413⟩) rfl (G_pc (pc' := 414) rfl ?_)
                              refine G_iload (i := 8) (n := 0) (len := 2) (Or.inr ⟨rfl, d_Mo_reckon_414⟩) rfl (G_pc (pc' := 416) rfl ?_)
                              refine G_if_eq (tgt := 423) d_Mo_reckon_416 (by decide) (fun h110 => absurd h110 (by decide)) (fun h110 => G_pc (pc' := 419) rfl ?_)
                              refine G_lconst1 d_Mo_reckon_419 (G_pc (pc' := 420) rfl ?_)
                              refine G_goto (tgt := 424) d_Mo_reckon_420 (by decide) ?_
                              refine G_callV (K1 := KE) (d2 := 0) (o := 55) (cl := 9) (as := [vi n, vl 1]) (rest := []) d_Mo_reckon_424 mf_Mo_set ml_Mo_289 rfl rfl (by decide) rfl rfl (Nat.le_of_ble_eq_true rfl) (by omega) ⟨Nat.le_refl _, Nat.le_refl _⟩ (g_Mo_set (by omega) n 1 _ (by omega)) (fun r111 M112 kq113 q113 => ?_)
                              clear kq113; obtain ⟨q113a, q113b⟩ := q113; subst r111; subst M112
                              refine G_ps (pc' := 427) (st' := []) rfl rfl ?_
                              refine G_vret d_Mo_reckon_427 rfl rfl ?_
                              refine ⟨rfl, ?_⟩; exact cmp_v (by unfold reckF; first | grind | grind [cmpB] | grind [needF])
                        · skip
                          refine G_lload (i := 3) (n := 2) (len := 1) (Or.inl ⟨3, rfl, rfl, d_Mo_reckon_322⟩) rfl (G_pc (pc' := 323) rfl ?_)
                          refine G_lload (i := 5) (n := 1) (len := 2) (Or.inr ⟨rfl, d_Mo_reckon_323⟩) rfl (G_pc (pc' := 325) rfl ?_)
                          refine G_lcmp_gt (tgt := 333) d_Mo_reckon_325 d_Mo_reckon_326 (by decide) (fun h114 => ?_) (fun h114 => G_pc (pc' := 329) rfl ?_)
                          · skip
                            refine G_iconst (n := 0) d_Mo_reckon_333 (by decide) (G_pc (pc' := 334) rfl ?_)
                            refine G_goto (tgt := 410) d_Mo_reckon_334 (by decide) ?_
                            refine G_istore (i := 8) (len := 2) (ls' := [(8, vi 0), (7, vi 0), (5, vl (M 83 (M 78 n))), (3, vl (M 83 (M 77 n))), (2, vi (M 76 n)), (0, vr 55), (1, vi n)]) (Or.inr ⟨rfl, d_Mo_reckon_410⟩) (by decide) rfl (G_pc (pc' := 412) rfl ?_)
                            refine G_aload (i := 0) (n := 5) (len := 1) (Or.inl ⟨0, rfl, rfl, d_Mo_reckon_412⟩) rfl (by decide) (G_pc (pc' := 413) rfl ?_)
                            refine G_iload (i := 1) (n := 6) (len := 1) (Or.inl ⟨1, rfl, rfl, d_Mo_reckon_413⟩) rfl (G_pc (pc' := 414) rfl ?_)
                            refine G_iload (i := 8) (n := 0) (len := 2) (Or.inr ⟨rfl, d_Mo_reckon_414⟩) rfl (G_pc (pc' := 416) rfl ?_)
                            refine G_if_eq (tgt := 423) d_Mo_reckon_416 (by decide) (fun h115 => ?_) (fun h115 => absurd h115 (by decide))
                            refine G_lconst0 d_Mo_reckon_423 (G_pc (pc' := 424) rfl ?_)
                            refine G_callV (K1 := KE) (d2 := 0) (o := 55) (cl := 9) (as := [vi n, vl 0]) (rest := []) d_Mo_reckon_424 mf_Mo_set ml_Mo_289 rfl rfl (by decide) rfl rfl (Nat.le_of_ble_eq_true rfl) (by omega) ⟨Nat.le_refl _, Nat.le_refl _⟩ (g_Mo_set (by omega) n 0 _ (by omega)) (fun r116 M117 kq118 q118 => ?_)
                            clear kq118; obtain ⟨q118a, q118b⟩ := q118; subst r116; subst M117
                            refine G_ps (pc' := 427) (st' := []) rfl rfl ?_
                            refine G_vret d_Mo_reckon_427 rfl rfl ?_
                            refine ⟨rfl, ?_⟩; exact cmp_v (by unfold reckF; first | grind | grind [cmpB] | grind [needF])
                          · skip
                            refine G_iconst (n := 1) d_Mo_reckon_329 (by decide) (G_pc (pc' := 330) rfl ?_)
                            refine G_goto (tgt := 410) d_Mo_reckon_330 (by decide) ?_
                            refine G_istore (i := 8) (len := 2) (ls' := [(8, vi 1), (7, vi 0), (5, vl (M 83 (M 78 n))), (3, vl (M 83 (M 77 n))), (2, vi (M 76 n)), (0, vr 55), (1, vi n)]) (Or.inr ⟨rfl, d_Mo_reckon_410⟩) (by decide) rfl (G_pc (pc' := 412) rfl ?_)
                            refine G_aload (i := 0) (n := 5) (len := 1) (Or.inl ⟨0, rfl, rfl, d_Mo_reckon_412⟩) rfl (by decide) (G_pc (pc' := 413) rfl ?_)
                            refine G_iload (i := 1) (n := 6) (len := 1) (Or.inl ⟨1, rfl, rfl, d_Mo_reckon_413⟩) rfl (G_pc (pc' := 414) rfl ?_)
                            refine G_iload (i := 8) (n := 0) (len := 2) (Or.inr ⟨rfl, d_Mo_reckon_414⟩) rfl (G_pc (pc' := 416) rfl ?_)
                            refine G_if_eq (tgt := 423) d_Mo_reckon_416 (by decide) (fun h119 => absurd h119 (by decide)) (fun h119 => G_pc (pc' := 419) rfl ?_)
                            refine G_lconst1 d_Mo_reckon_419 (G_pc (pc' := 420) rfl ?_)
                            refine G_goto (tgt := 424) d_Mo_reckon_420 (by decide) ?_
                            refine G_callV (K1 := KE) (d2 := 0) (o := 55) (cl := 9) (as := [vi n, vl 1]) (rest := []) d_Mo_reckon_424 mf_Mo_set ml_Mo_289 rfl rfl (by decide) rfl rfl (Nat.le_of_ble_eq_true rfl) (by omega) ⟨Nat.le_refl _, Nat.le_refl _⟩ (g_Mo_set (by omega) n 1 _ (by omega)) (fun r120 M121 kq122 q122 => ?_)
                            clear kq122; obtain ⟨q122a, q122b⟩ := q122; subst r120; subst M121
                            refine G_ps (pc' := 427) (st' := []) rfl rfl ?_
                            refine G_vret d_Mo_reckon_427 rfl rfl ?_
                            refine ⟨rfl, ?_⟩; exact cmp_v (by unfold reckF; first | grind | grind [cmpB] | grind [needF])
                      · skip
                        refine G_lload (i := 3) (n := 2) (len := 1) (Or.inl ⟨3, rfl, rfl, d_Mo_reckon_301⟩) rfl (G_pc (pc' := 302) rfl ?_)
                        refine G_lload (i := 5) (n := 1) (len := 2) (Or.inr ⟨rfl, d_Mo_reckon_302⟩) rfl (G_pc (pc' := 304) rfl ?_)
                        refine G_lcmp_ge (tgt := 312) d_Mo_reckon_304 d_Mo_reckon_305 (by decide) (fun h123 => ?_) (fun h123 => G_pc (pc' := 308) rfl ?_)
                        · skip
                          refine G_iconst (n := 0) d_Mo_reckon_312 (by decide) (G_pc (pc' := 313) rfl ?_)
                          refine G_goto (tgt := 410) d_Mo_reckon_313 (by decide) ?_
                          refine G_istore (i := 8) (len := 2) (ls' := [(8, vi 0), (7, vi 0), (5, vl (M 83 (M 78 n))), (3, vl (M 83 (M 77 n))), (2, vi (M 76 n)), (0, vr 55), (1, vi n)]) (Or.inr ⟨rfl, d_Mo_reckon_410⟩) (by decide) rfl (G_pc (pc' := 412) rfl ?_)
                          refine G_aload (i := 0) (n := 5) (len := 1) (Or.inl ⟨0, rfl, rfl, d_Mo_reckon_412⟩) rfl (by decide) (G_pc (pc' := 413) rfl ?_)
                          refine G_iload (i := 1) (n := 6) (len := 1) (Or.inl ⟨1, rfl, rfl, d_Mo_reckon_413⟩) rfl (G_pc (pc' := 414) rfl ?_)
                          refine G_iload (i := 8) (n := 0) (len := 2) (Or.inr ⟨rfl, d_Mo_reckon_414⟩) rfl (G_pc (pc' := 416) rfl ?_)
                          refine G_if_eq (tgt := 423) d_Mo_reckon_416 (by decide) (fun h124 => ?_) (fun h124 => absurd h124 (by decide))
                          refine G_lconst0 d_Mo_reckon_423 (G_pc (pc' := 424) rfl ?_)
                          refine G_callV (K1 := KE) (d2 := 0) (o := 55) (cl := 9) (as := [vi n, vl 0]) (rest := []) d_Mo_reckon_424 mf_Mo_set ml_Mo_289 rfl rfl (by decide) rfl rfl (Nat.le_of_ble_eq_true rfl) (by omega) ⟨Nat.le_refl _, Nat.le_refl _⟩ (g_Mo_set (by omega) n 0 _ (by omega)) (fun r125 M126 kq127 q127 => ?_)
                          clear kq127; obtain ⟨q127a, q127b⟩ := q127; subst r125; subst M126
                          refine G_ps (pc' := 427) (st' := []) rfl rfl ?_
                          refine G_vret d_Mo_reckon_427 rfl rfl ?_
                          refine ⟨rfl, ?_⟩; exact cmp_v (by unfold reckF; first | grind | grind [cmpB] | grind [needF])
                        · skip
                          refine G_iconst (n := 1) d_Mo_reckon_308 (by decide) (G_pc (pc' := 309) rfl ?_)
                          refine G_goto (tgt := 410) d_Mo_reckon_309 (by decide) ?_
                          refine G_istore (i := 8) (len := 2) (ls' := [(8, vi 1), (7, vi 0), (5, vl (M 83 (M 78 n))), (3, vl (M 83 (M 77 n))), (2, vi (M 76 n)), (0, vr 55), (1, vi n)]) (Or.inr ⟨rfl, d_Mo_reckon_410⟩) (by decide) rfl (G_pc (pc' := 412) rfl ?_)
                          refine G_aload (i := 0) (n := 5) (len := 1) (Or.inl ⟨0, rfl, rfl, d_Mo_reckon_412⟩) rfl (by decide) (G_pc (pc' := 413) rfl ?_)
                          refine G_iload (i := 1) (n := 6) (len := 1) (Or.inl ⟨1, rfl, rfl, d_Mo_reckon_413⟩) rfl (G_pc (pc' := 414) rfl ?_)
                          refine G_iload (i := 8) (n := 0) (len := 2) (Or.inr ⟨rfl, d_Mo_reckon_414⟩) rfl (G_pc (pc' := 416) rfl ?_)
                          refine G_if_eq (tgt := 423) d_Mo_reckon_416 (by decide) (fun h128 => absurd h128 (by decide)) (fun h128 => G_pc (pc' := 419) rfl ?_)
                          refine G_lconst1 d_Mo_reckon_419 (G_pc (pc' := 420) rfl ?_)
                          refine G_goto (tgt := 424) d_Mo_reckon_420 (by decide) ?_
                          refine G_callV (K1 := KE) (d2 := 0) (o := 55) (cl := 9) (as := [vi n, vl 1]) (rest := []) d_Mo_reckon_424 mf_Mo_set ml_Mo_289 rfl rfl (by decide) rfl rfl (Nat.le_of_ble_eq_true rfl) (by omega) ⟨Nat.le_refl _, Nat.le_refl _⟩ (g_Mo_set (by omega) n 1 _ (by omega)) (fun r129 M130 kq131 q131 => ?_)
                          clear kq131; obtain ⟨q131a, q131b⟩ := q131; subst r129; subst M130
                          refine G_ps (pc' := 427) (st' := []) rfl rfl ?_
                          refine G_vret d_Mo_reckon_427 rfl rfl ?_
                          refine ⟨rfl, ?_⟩; exact cmp_v (by unfold reckF; first | grind | grind [cmpB] | grind [needF])
                    · skip
                      refine G_aload (i := 0) (n := 4) (len := 1) (Or.inl ⟨0, rfl, rfl, d_Mo_reckon_257⟩) rfl (by decide) (G_pc (pc' := 258) rfl ?_)
                      refine G_iload (i := 1) (n := 5) (len := 1) (Or.inl ⟨1, rfl, rfl, d_Mo_reckon_258⟩) rfl (G_pc (pc' := 259) rfl ?_)
                      refine G_iload (i := 2) (n := 3) (len := 1) (Or.inl ⟨2, rfl, rfl, d_Mo_reckon_259⟩) rfl (G_pc (pc' := 260) rfl ?_)
                      refine G_bipush (n := 43) d_Mo_reckon_260 (by decide) (G_pc (pc' := 262) rfl ?_)
                      refine G_icmp_ne (tgt := 272) d_Mo_reckon_262 (by decide) (fun h132 => ?_) (fun h132 => G_pc (pc' := 265) rfl ?_)
                      · skip
                        refine G_iload (i := 2) (n := 3) (len := 1) (Or.inl ⟨2, rfl, rfl, d_Mo_reckon_272⟩) rfl (G_pc (pc' := 273) rfl ?_)
                        refine G_bipush (n := 45) d_Mo_reckon_273 (by decide) (G_pc (pc' := 275) rfl ?_)
                        refine G_icmp_ne (tgt := 285) d_Mo_reckon_275 (by decide) (fun h133 => ?_) (fun h133 => G_pc (pc' := 278) rfl ?_)
                        · skip
                          refine G_lload (i := 3) (n := 2) (len := 1) (Or.inl ⟨3, rfl, rfl, d_Mo_reckon_285⟩) rfl (G_pc (pc' := 286) rfl ?_)
                          refine G_lload (i := 5) (n := 1) (len := 2) (Or.inr ⟨rfl, d_Mo_reckon_286⟩) rfl (G_pc (pc' := 288) rfl ?_)
                          refine G_lxor d_Mo_reckon_288 (G_pc (pc' := 289) rfl ?_)
                          refine G_callV (K1 := KE) (d2 := 0) (o := 55) (cl := 9) (as := [vi n, vl (o_lxor (M 83 (M 77 n)) (M 83 (M 78 n)))]) (rest := []) d_Mo_reckon_289 mf_Mo_set ml_Mo_289 rfl rfl (by decide) rfl rfl (Nat.le_of_ble_eq_true rfl) (by omega) ⟨Nat.le_refl _, Nat.le_refl _⟩ (g_Mo_set (by omega) n (o_lxor (M 83 (M 77 n)) (M 83 (M 78 n))) _ (by omega)) (fun r134 M135 kq136 q136 => ?_)
                          clear kq136; obtain ⟨q136a, q136b⟩ := q136; subst r134; subst M135
                          refine G_ps (pc' := 292) (st' := []) rfl rfl ?_
                          refine G_goto (tgt := 427) d_Mo_reckon_292 (by decide) ?_
                          refine G_vret d_Mo_reckon_427 rfl rfl ?_
                          refine ⟨rfl, ?_⟩; exact cmp_v (by unfold reckF; first | grind | grind [cmpB] | grind [needF])
                        · skip
                          refine G_lload (i := 3) (n := 2) (len := 1) (Or.inl ⟨3, rfl, rfl, d_Mo_reckon_278⟩) rfl (G_pc (pc' := 279) rfl ?_)
                          refine G_lload (i := 5) (n := 1) (len := 2) (Or.inr ⟨rfl, d_Mo_reckon_279⟩) rfl (G_pc (pc' := 281) rfl ?_)
                          refine G_lor d_Mo_reckon_281 (G_pc (pc' := 282) rfl ?_)
                          refine G_goto (tgt := 289) d_Mo_reckon_282 (by decide) ?_
                          refine G_callV (K1 := KE) (d2 := 0) (o := 55) (cl := 9) (as := [vi n, vl (o_lor (M 83 (M 77 n)) (M 83 (M 78 n)))]) (rest := []) d_Mo_reckon_289 mf_Mo_set ml_Mo_289 rfl rfl (by decide) rfl rfl (Nat.le_of_ble_eq_true rfl) (by omega) ⟨Nat.le_refl _, Nat.le_refl _⟩ (g_Mo_set (by omega) n (o_lor (M 83 (M 77 n)) (M 83 (M 78 n))) _ (by omega)) (fun r137 M138 kq139 q139 => ?_)
                          clear kq139; obtain ⟨q139a, q139b⟩ := q139; subst r137; subst M138
                          refine G_ps (pc' := 292) (st' := []) rfl rfl ?_
                          refine G_goto (tgt := 427) d_Mo_reckon_292 (by decide) ?_
                          refine G_vret d_Mo_reckon_427 rfl rfl ?_
                          refine ⟨rfl, ?_⟩; exact cmp_v (by unfold reckF; first | grind | grind [cmpB] | grind [needF])
                      · skip
                        refine G_lload (i := 3) (n := 2) (len := 1) (Or.inl ⟨3, rfl, rfl, d_Mo_reckon_265⟩) rfl (G_pc (pc' := 266) rfl ?_)
                        refine G_lload (i := 5) (n := 1) (len := 2) (Or.inr ⟨rfl, d_Mo_reckon_266⟩) rfl (G_pc (pc' := 268) rfl ?_)
                        refine G_land d_Mo_reckon_268 (G_pc (pc' := 269) rfl ?_)
                        refine G_goto (tgt := 289) d_Mo_reckon_269 (by decide) ?_
                        refine G_callV (K1 := KE) (d2 := 0) (o := 55) (cl := 9) (as := [vi n, vl (o_land (M 83 (M 77 n)) (M 83 (M 78 n)))]) (rest := []) d_Mo_reckon_289 mf_Mo_set ml_Mo_289 rfl rfl (by decide) rfl rfl (Nat.le_of_ble_eq_true rfl) (by omega) ⟨Nat.le_refl _, Nat.le_refl _⟩ (g_Mo_set (by omega) n (o_land (M 83 (M 77 n)) (M 83 (M 78 n))) _ (by omega)) (fun r140 M141 kq142 q142 => ?_)
                        clear kq142; obtain ⟨q142a, q142b⟩ := q142; subst r140; subst M141
                        refine G_ps (pc' := 292) (st' := []) rfl rfl ?_
                        refine G_goto (tgt := 427) d_Mo_reckon_292 (by decide) ?_
                        refine G_vret d_Mo_reckon_427 rfl rfl ?_
                        refine ⟨rfl, ?_⟩; exact cmp_v (by unfold reckF; first | grind | grind [cmpB] | grind [needF])
              · skip
                refine G_iload (i := 2) (n := 3) (len := 1) (Or.inl ⟨2, rfl, rfl, d_Mo_reckon_163⟩) rfl (G_pc (pc' := 164) rfl ?_)
                refine G_bipush (n := 40) d_Mo_reckon_164 (by decide) (G_pc (pc' := 166) rfl ?_)
                refine G_icmp_gt (tgt := 239) d_Mo_reckon_166 (by decide) (fun h143 => ?_) (fun h143 => G_pc (pc' := 169) rfl ?_)
                · skip
                  refine G_iload (i := 2) (n := 3) (len := 1) (Or.inl ⟨2, rfl, rfl, d_Mo_reckon_239⟩) rfl (G_pc (pc' := 240) rfl ?_)
                  refine G_bipush (n := 43) d_Mo_reckon_240 (by decide) (G_pc (pc' := 242) rfl ?_)
                  refine G_icmp_eq (tgt := 257) d_Mo_reckon_242 (by decide) (fun h144 => ?_) (fun h144 => G_pc (pc' := 245) rfl ?_)
                  · skip
                    refine G_aload (i := 0) (n := 4) (len := 1) (Or.inl ⟨0, rfl, rfl, d_Mo_reckon_257⟩) rfl (by decide) (G_pc (pc' := 258) rfl ?_)
                    refine G_iload (i := 1) (n := 5) (len := 1) (Or.inl ⟨1, rfl, rfl, d_Mo_reckon_258⟩) rfl (G_pc (pc' := 259) rfl ?_)
                    refine G_iload (i := 2) (n := 3) (len := 1) (Or.inl ⟨2, rfl, rfl, d_Mo_reckon_259⟩) rfl (G_pc (pc' := 260) rfl ?_)
                    refine G_bipush (n := 43) d_Mo_reckon_260 (by decide) (G_pc (pc' := 262) rfl ?_)
                    refine G_icmp_ne (tgt := 272) d_Mo_reckon_262 (by decide) (fun h145 => ?_) (fun h145 => G_pc (pc' := 265) rfl ?_)
                    · skip
                      refine G_iload (i := 2) (n := 3) (len := 1) (Or.inl ⟨2, rfl, rfl, d_Mo_reckon_272⟩) rfl (G_pc (pc' := 273) rfl ?_)
                      refine G_bipush (n := 45) d_Mo_reckon_273 (by decide) (G_pc (pc' := 275) rfl ?_)
                      refine G_icmp_ne (tgt := 285) d_Mo_reckon_275 (by decide) (fun h146 => ?_) (fun h146 => G_pc (pc' := 278) rfl ?_)
                      · skip
                        refine G_lload (i := 3) (n := 2) (len := 1) (Or.inl ⟨3, rfl, rfl, d_Mo_reckon_285⟩) rfl (G_pc (pc' := 286) rfl ?_)
                        refine G_lload (i := 5) (n := 1) (len := 2) (Or.inr ⟨rfl, d_Mo_reckon_286⟩) rfl (G_pc (pc' := 288) rfl ?_)
                        refine G_lxor d_Mo_reckon_288 (G_pc (pc' := 289) rfl ?_)
                        refine G_callV (K1 := KE) (d2 := 0) (o := 55) (cl := 9) (as := [vi n, vl (o_lxor (M 83 (M 77 n)) (M 83 (M 78 n)))]) (rest := []) d_Mo_reckon_289 mf_Mo_set ml_Mo_289 rfl rfl (by decide) rfl rfl (Nat.le_of_ble_eq_true rfl) (by omega) ⟨Nat.le_refl _, Nat.le_refl _⟩ (g_Mo_set (by omega) n (o_lxor (M 83 (M 77 n)) (M 83 (M 78 n))) _ (by omega)) (fun r147 M148 kq149 q149 => ?_)
                        clear kq149; obtain ⟨q149a, q149b⟩ := q149; subst r147; subst M148
                        refine G_ps (pc' := 292) (st' := []) rfl rfl ?_
                        refine G_goto (tgt := 427) d_Mo_reckon_292 (by decide) ?_
                        refine G_vret d_Mo_reckon_427 rfl rfl ?_
                        refine ⟨rfl, ?_⟩; exact cmp_v (by unfold reckF; first | grind | grind [cmpB] | grind [needF])
                      · skip
                        refine G_lload (i := 3) (n := 2) (len := 1) (Or.inl ⟨3, rfl, rfl, d_Mo_reckon_278⟩) rfl (G_pc (pc' := 279) rfl ?_)
                        refine G_lload (i := 5) (n := 1) (len := 2) (Or.inr ⟨rfl, d_Mo_reckon_279⟩) rfl (G_pc (pc' := 281) rfl ?_)
                        refine G_lor d_Mo_reckon_281 (G_pc (pc' := 282) rfl ?_)
                        refine G_goto (tgt := 289) d_Mo_reckon_282 (by decide) ?_
                        refine G_callV (K1 := KE) (d2 := 0) (o := 55) (cl := 9) (as := [vi n, vl (o_lor (M 83 (M 77 n)) (M 83 (M 78 n)))]) (rest := []) d_Mo_reckon_289 mf_Mo_set ml_Mo_289 rfl rfl (by decide) rfl rfl (Nat.le_of_ble_eq_true rfl) (by omega) ⟨Nat.le_refl _, Nat.le_refl _⟩ (g_Mo_set (by omega) n (o_lor (M 83 (M 77 n)) (M 83 (M 78 n))) _ (by omega)) (fun r150 M151 kq152 q152 => ?_)
                        clear kq152; obtain ⟨q152a, q152b⟩ := q152; subst r150; subst M151
                        refine G_ps (pc' := 292) (st' := []) rfl rfl ?_
                        refine G_goto (tgt := 427) d_Mo_reckon_292 (by decide) ?_
                        refine G_vret d_Mo_reckon_427 rfl rfl ?_
                        refine ⟨rfl, ?_⟩; exact cmp_v (by unfold reckF; first | grind | grind [cmpB] | grind [needF])
                    · skip
                      refine G_lload (i := 3) (n := 2) (len := 1) (Or.inl ⟨3, rfl, rfl, d_Mo_reckon_265⟩) rfl (G_pc (pc' := 266) rfl ?_)
                      refine G_lload (i := 5) (n := 1) (len := 2) (Or.inr ⟨rfl, d_Mo_reckon_266⟩) rfl (G_pc (pc' := 268) rfl ?_)
                      refine G_land d_Mo_reckon_268 (G_pc (pc' := 269) rfl ?_)
                      refine G_goto (tgt := 289) d_Mo_reckon_269 (by decide) ?_
                      refine G_callV (K1 := KE) (d2 := 0) (o := 55) (cl := 9) (as := [vi n, vl (o_land (M 83 (M 77 n)) (M 83 (M 78 n)))]) (rest := []) d_Mo_reckon_289 mf_Mo_set ml_Mo_289 rfl rfl (by decide) rfl rfl (Nat.le_of_ble_eq_true rfl) (by omega) ⟨Nat.le_refl _, Nat.le_refl _⟩ (g_Mo_set (by omega) n (o_land (M 83 (M 77 n)) (M 83 (M 78 n))) _ (by omega)) (fun r153 M154 kq155 q155 => ?_)
                      clear kq155; obtain ⟨q155a, q155b⟩ := q155; subst r153; subst M154
                      refine G_ps (pc' := 292) (st' := []) rfl rfl ?_
                      refine G_goto (tgt := 427) d_Mo_reckon_292 (by decide) ?_
                      refine G_vret d_Mo_reckon_427 rfl rfl ?_
                      refine ⟨rfl, ?_⟩; exact cmp_v (by unfold reckF; first | grind | grind [cmpB] | grind [needF])
                  · skip
                    refine G_iload (i := 2) (n := 3) (len := 1) (Or.inl ⟨2, rfl, rfl, d_Mo_reckon_245⟩) rfl (G_pc (pc' := 246) rfl ?_)
                    refine G_bipush (n := 45) d_Mo_reckon_246 (by decide) (G_pc (pc' := 248) rfl ?_)
                    refine G_icmp_eq (tgt := 257) d_Mo_reckon_248 (by decide) (fun h156 => ?_) (fun h156 => G_pc (pc' := 251) rfl ?_)
                    · skip
                      refine G_aload (i := 0) (n := 4) (len := 1) (Or.inl ⟨0, rfl, rfl, d_Mo_reckon_257⟩) rfl (by decide) (G_pc (pc' := 258) rfl ?_)
                      refine G_iload (i := 1) (n := 5) (len := 1) (Or.inl ⟨1, rfl, rfl, d_Mo_reckon_258⟩) rfl (G_pc (pc' := 259) rfl ?_)
                      refine G_iload (i := 2) (n := 3) (len := 1) (Or.inl ⟨2, rfl, rfl, d_Mo_reckon_259⟩) rfl (G_pc (pc' := 260) rfl ?_)
                      refine G_bipush (n := 43) d_Mo_reckon_260 (by decide) (G_pc (pc' := 262) rfl ?_)
                      refine G_icmp_ne (tgt := 272) d_Mo_reckon_262 (by decide) (fun h157 => ?_) (fun h157 => G_pc (pc' := 265) rfl ?_)
                      · skip
                        refine G_iload (i := 2) (n := 3) (len := 1) (Or.inl ⟨2, rfl, rfl, d_Mo_reckon_272⟩) rfl (G_pc (pc' := 273) rfl ?_)
                        refine G_bipush (n := 45) d_Mo_reckon_273 (by decide) (G_pc (pc' := 275) rfl ?_)
                        refine G_icmp_ne (tgt := 285) d_Mo_reckon_275 (by decide) (fun h158 => ?_) (fun h158 => G_pc (pc' := 278) rfl ?_)
                        · skip
                          refine G_lload (i := 3) (n := 2) (len := 1) (Or.inl ⟨3, rfl, rfl, d_Mo_reckon_285⟩) rfl (G_pc (pc' := 286) rfl ?_)
                          refine G_lload (i := 5) (n := 1) (len := 2) (Or.inr ⟨rfl, d_Mo_reckon_286⟩) rfl (G_pc (pc' := 288) rfl ?_)
                          refine G_lxor d_Mo_reckon_288 (G_pc (pc' := 289) rfl ?_)
                          refine G_callV (K1 := KE) (d2 := 0) (o := 55) (cl := 9) (as := [vi n, vl (o_lxor (M 83 (M 77 n)) (M 83 (M 78 n)))]) (rest := []) d_Mo_reckon_289 mf_Mo_set ml_Mo_289 rfl rfl (by decide) rfl rfl (Nat.le_of_ble_eq_true rfl) (by omega) ⟨Nat.le_refl _, Nat.le_refl _⟩ (g_Mo_set (by omega) n (o_lxor (M 83 (M 77 n)) (M 83 (M 78 n))) _ (by omega)) (fun r159 M160 kq161 q161 => ?_)
                          clear kq161; obtain ⟨q161a, q161b⟩ := q161; subst r159; subst M160
                          refine G_ps (pc' := 292) (st' := []) rfl rfl ?_
                          refine G_goto (tgt := 427) d_Mo_reckon_292 (by decide) ?_
                          refine G_vret d_Mo_reckon_427 rfl rfl ?_
                          refine ⟨rfl, ?_⟩; exact cmp_v (by unfold reckF; first | grind | grind [cmpB] | grind [needF])
                        · skip
                          refine G_lload (i := 3) (n := 2) (len := 1) (Or.inl ⟨3, rfl, rfl, d_Mo_reckon_278⟩) rfl (G_pc (pc' := 279) rfl ?_)
                          refine G_lload (i := 5) (n := 1) (len := 2) (Or.inr ⟨rfl, d_Mo_reckon_279⟩) rfl (G_pc (pc' := 281) rfl ?_)
                          refine G_lor d_Mo_reckon_281 (G_pc (pc' := 282) rfl ?_)
                          refine G_goto (tgt := 289) d_Mo_reckon_282 (by decide) ?_
                          refine G_callV (K1 := KE) (d2 := 0) (o := 55) (cl := 9) (as := [vi n, vl (o_lor (M 83 (M 77 n)) (M 83 (M 78 n)))]) (rest := []) d_Mo_reckon_289 mf_Mo_set ml_Mo_289 rfl rfl (by decide) rfl rfl (Nat.le_of_ble_eq_true rfl) (by omega) ⟨Nat.le_refl _, Nat.le_refl _⟩ (g_Mo_set (by omega) n (o_lor (M 83 (M 77 n)) (M 83 (M 78 n))) _ (by omega)) (fun r162 M163 kq164 q164 => ?_)
                          clear kq164; obtain ⟨q164a, q164b⟩ := q164; subst r162; subst M163
                          refine G_ps (pc' := 292) (st' := []) rfl rfl ?_
                          refine G_goto (tgt := 427) d_Mo_reckon_292 (by decide) ?_
                          refine G_vret d_Mo_reckon_427 rfl rfl ?_
                          refine ⟨rfl, ?_⟩; exact cmp_v (by unfold reckF; first | grind | grind [cmpB] | grind [needF])
                      · skip
                        refine G_lload (i := 3) (n := 2) (len := 1) (Or.inl ⟨3, rfl, rfl, d_Mo_reckon_265⟩) rfl (G_pc (pc' := 266) rfl ?_)
                        refine G_lload (i := 5) (n := 1) (len := 2) (Or.inr ⟨rfl, d_Mo_reckon_266⟩) rfl (G_pc (pc' := 268) rfl ?_)
                        refine G_land d_Mo_reckon_268 (G_pc (pc' := 269) rfl ?_)
                        refine G_goto (tgt := 289) d_Mo_reckon_269 (by decide) ?_
                        refine G_callV (K1 := KE) (d2 := 0) (o := 55) (cl := 9) (as := [vi n, vl (o_land (M 83 (M 77 n)) (M 83 (M 78 n)))]) (rest := []) d_Mo_reckon_289 mf_Mo_set ml_Mo_289 rfl rfl (by decide) rfl rfl (Nat.le_of_ble_eq_true rfl) (by omega) ⟨Nat.le_refl _, Nat.le_refl _⟩ (g_Mo_set (by omega) n (o_land (M 83 (M 77 n)) (M 83 (M 78 n))) _ (by omega)) (fun r165 M166 kq167 q167 => ?_)
                        clear kq167; obtain ⟨q167a, q167b⟩ := q167; subst r165; subst M166
                        refine G_ps (pc' := 292) (st' := []) rfl rfl ?_
                        refine G_goto (tgt := 427) d_Mo_reckon_292 (by decide) ?_
                        refine G_vret d_Mo_reckon_427 rfl rfl ?_
                        refine ⟨rfl, ?_⟩; exact cmp_v (by unfold reckF; first | grind | grind [cmpB] | grind [needF])
                    · skip
                      refine G_iload (i := 2) (n := 3) (len := 1) (Or.inl ⟨2, rfl, rfl, d_Mo_reckon_251⟩) rfl (G_pc (pc' := 252) rfl ?_)
                      refine G_bipush (n := 47) d_Mo_reckon_252 (by decide) (G_pc (pc' := 254) rfl ?_)
                      refine G_icmp_ne (tgt := 295) d_Mo_reckon_254 (by decide) (fun h168 => ?_) (fun h168 => G_pc (pc' := 257) rfl ?_)
                      · skip
                        refine G_iload (i := 2) (n := 3) (len := 1) (Or.inl ⟨2, rfl, rfl, d_Mo_reckon_295⟩) rfl (G_pc (pc' := 296) rfl ?_)
                        refine G_bipush (n := 34) d_Mo_reckon_296 (by decide) (G_pc (pc' := 298) rfl ?_)
                        refine G_icmp_ne (tgt := 316) d_Mo_reckon_298 (by decide) (fun h169 => ?_) (fun h169 => G_pc (pc' := 301) rfl ?_)
                        · skip
                          refine G_iload (i := 2) (n := 3) (len := 1) (Or.inl ⟨2, rfl, rfl, d_Mo_reckon_316⟩) rfl (G_pc (pc' := 317) rfl ?_)
                          refine G_bipush (n := 35) d_Mo_reckon_317 (by decide) (G_pc (pc' := 319) rfl ?_)
                          refine G_icmp_ne (tgt := 337) d_Mo_reckon_319 (by decide) (fun h170 => ?_) (fun h170 => G_pc (pc' := 322) rfl ?_)
                          · skip
                            refine G_iload (i := 2) (n := 3) (len := 1) (Or.inl ⟨2, rfl, rfl, d_Mo_reckon_337⟩) rfl (G_pc (pc' := 338) rfl ?_)
                            refine G_bipush (n := 36) d_Mo_reckon_338 (by decide) (G_pc (pc' := 340) rfl ?_)
                            refine G_icmp_ne (tgt := 358) d_Mo_reckon_340 (by decide) (fun h171 => ?_) (fun h171 => G_pc (pc' := 343) rfl ?_)
                            · skip
                              refine G_iload (i := 2) (n := 3) (len := 1) (Or.inl ⟨2, rfl, rfl, d_Mo_reckon_358⟩) rfl (G_pc (pc' := 359) rfl ?_)
                              refine G_bipush (n := 37) d_Mo_reckon_359 (by decide) (G_pc (pc' := 361) rfl ?_)
                              refine G_icmp_ne (tgt := 379) d_Mo_reckon_361 (by decide) (fun h172 => ?_) (fun h172 => G_pc (pc' := 364) rfl ?_)
                              · skip
                                refine G_iload (i := 2) (n := 3) (len := 1) (Or.inl ⟨2, rfl, rfl, d_Mo_reckon_379⟩) rfl (G_pc (pc' := 380) rfl ?_)
                                refine G_bipush (n := 41) d_Mo_reckon_380 (by decide) (G_pc (pc' := 382) rfl ?_)
                                refine G_icmp_ne (tgt := 389) d_Mo_reckon_382 (by decide) (fun h173 => ?_) (fun h173 => G_pc (pc' := 385) rfl ?_)
                                · skip
                                  refine G_iconst (n := 0) d_Mo_reckon_389 (by decide) (G_pc (pc' := 390) rfl ?_)
                                  refine G_lload (i := 3) (n := 2) (len := 1) (Or.inl ⟨3, rfl, rfl, d_Mo_reckon_390⟩) rfl (G_pc (pc' := 391) rfl ?_)
                                  refine G_lload (i := 5) (n := 1) (len := 2) (Or.inr ⟨rfl, d_Mo_reckon_391⟩) rfl (G_pc (pc' := 393) rfl ?_)
                                  refine G_lcmp_ne (tgt := 401) d_Mo_reckon_393 d_Mo_reckon_394 (by decide) (fun h174 => ?_) (fun h174 => G_pc (pc' := 397) rfl ?_)
                                  · skip
                                    refine G_iconst (n := 0) d_Mo_reckon_401 (by decide) (G_pc (pc' := 402) rfl ?_)
                                    refine G_icmp_ne (tgt := 409) d_Mo_reckon_402 (by decide) (fun h175 => absurd h175 (by decide)) (fun h175 => G_pc (pc' := 405) rfl ?_)
                                    refine G_iconst (n := 1) d_Mo_reckon_405 (by decide) (G_pc (pc' := 406) rfl ?_)
                                    refine G_goto (tgt := 410) d_Mo_reckon_406 (by decide) ?_
                                    refine G_istore (i := 8) (len := 2) (ls' := [(8, vi 1), (7, vi 0), (5, vl (M 83 (M 78 n))), (3, vl (M 83 (M 77 n))), (2, vi (M 76 n)), (0, vr 55), (1, vi n)]) (Or.inr ⟨rfl, d_Mo_reckon_410⟩) (by decide) rfl (G_pc (pc' := 412) rfl ?_)
                                    refine G_aload (i := 0) (n := 5) (len := 1) (Or.inl ⟨0, rfl, rfl, d_Mo_reckon_412⟩) rfl (by decide) (G_pc (pc' := 413) rfl ?_)
                                    refine G_iload (i := 1) (n := 6) (len := 1) (Or.inl ⟨1, rfl, rfl, d_Mo_reckon_413⟩) rfl (G_pc (pc' := 414) rfl ?_)
                                    refine G_iload (i := 8) (n := 0) (len := 2) (Or.inr ⟨rfl, d_Mo_reckon_414⟩) rfl (G_pc (pc' := 416) rfl ?_)
                                    refine G_if_eq (tgt := 423) d_Mo_reckon_416 (by decide) (fun h176 => absurd h176 (by decide)) (fun h176 => G_pc (pc' := 419) rfl ?_)
                                    refine G_lconst1 d_Mo_reckon_419 (G_pc (pc' := 420) rfl ?_)
                                    refine G_goto (tgt := 424) d_Mo_reckon_420 (by decide) ?_
                                    refine G_callV (K1 := KE) (d2 := 0) (o := 55) (cl := 9) (as := [vi n, vl 1]) (rest := []) d_Mo_reckon_424 mf_Mo_set ml_Mo_289 rfl rfl (by decide) rfl rfl (Nat.le_of_ble_eq_true rfl) (by omega) ⟨Nat.le_refl _, Nat.le_refl _⟩ (g_Mo_set (by omega) n 1 _ (by omega)) (fun r177 M178 kq179 q179 => ?_)
                                    clear kq179; obtain ⟨q179a, q179b⟩ := q179; subst r177; subst M178
                                    refine G_ps (pc' := 427) (st' := []) rfl rfl ?_
                                    refine G_vret d_Mo_reckon_427 rfl rfl ?_
                                    refine ⟨rfl, ?_⟩; exact cmp_v (by unfold reckF; first | grind | grind [cmpB] | grind [needF])
                                  · skip
                                    refine G_iconst (n := 1) d_Mo_reckon_397 (by decide) (G_pc (pc' := 398) rfl ?_)
                                    refine G_goto (tgt := 402) d_Mo_reckon_398 (by decide) ?_
                                    refine G_icmp_ne (tgt := 409) d_Mo_reckon_402 (by decide) (fun h180 => ?_) (fun h180 => absurd h180 (by decide))
                                    refine G_iconst (n := 0) d_Mo_reckon_409 (by decide) (G_pc (pc' := 410) rfl ?_)
                                    refine G_istore (i := 8) (len := 2) (ls' := [(8, vi 0), (7, vi 0), (5, vl (M 83 (M 78 n))), (3, vl (M 83 (M 77 n))), (2, vi (M 76 n)), (0, vr 55), (1, vi n)]) (Or.inr ⟨rfl, d_Mo_reckon_410⟩) (by decide) rfl (G_pc (pc' := 412) rfl ?_)
                                    refine G_aload (i := 0) (n := 5) (len := 1) (Or.inl ⟨0, rfl, rfl, d_Mo_reckon_412⟩) rfl (by decide) (G_pc (pc' := 413) rfl ?_)
                                    refine G_iload (i := 1) (n := 6) (len := 1) (Or.inl ⟨1, rfl, rfl, d_Mo_reckon_413⟩) rfl (G_pc (pc' := 414) rfl ?_)
                                    refine G_iload (i := 8) (n := 0) (len := 2) (Or.inr ⟨rfl, d_Mo_reckon_414⟩) rfl (G_pc (pc' := 416) rfl ?_)
                                    refine G_if_eq (tgt := 423) d_Mo_reckon_416 (by decide) (fun h181 => ?_) (fun h181 => absurd h181 (by decide))
                                    refine G_lconst0 d_Mo_reckon_423 (G_pc (pc' := 424) rfl ?_)
                                    refine G_callV (K1 := KE) (d2 := 0) (o := 55) (cl := 9) (as := [vi n, vl 0]) (rest := []) d_Mo_reckon_424 mf_Mo_set ml_Mo_289 rfl rfl (by decide) rfl rfl (Nat.le_of_ble_eq_true rfl) (by omega) ⟨Nat.le_refl _, Nat.le_refl _⟩ (g_Mo_set (by omega) n 0 _ (by omega)) (fun r182 M183 kq184 q184 => ?_)
                                    clear kq184; obtain ⟨q184a, q184b⟩ := q184; subst r182; subst M183
                                    refine G_ps (pc' := 427) (st' := []) rfl rfl ?_
                                    refine G_vret d_Mo_reckon_427 rfl rfl ?_
                                    refine ⟨rfl, ?_⟩; exact cmp_v (by unfold reckF; first | grind | grind [cmpB] | grind [needF])
                                · skip
                                  refine G_iconst (n := 1) d_Mo_reckon_385 (by decide) (G_pc (pc' := 386) rfl ?_)
                                  refine G_goto (tgt := 390) d_Mo_reckon_386 (by decide) ?_
                                  refine G_lload (i := 3) (n := 2) (len := 1) (Or.inl ⟨3, rfl, rfl, d_Mo_reckon_390⟩) rfl (G_pc (pc' := 391) rfl ?_)
                                  refine G_lload (i := 5) (n := 1) (len := 2) (Or.inr ⟨rfl, d_Mo_reckon_391⟩) rfl (G_pc (pc' := 393) rfl ?_)
                                  refine G_lcmp_ne (tgt := 401) d_Mo_reckon_393 d_Mo_reckon_394 (by decide) (fun h185 => ?_) (fun h185 => G_pc (pc' := 397) rfl ?_)
                                  · skip
                                    refine G_iconst (n := 0) d_Mo_reckon_401 (by decide) (G_pc (pc' := 402) rfl ?_)
                                    refine G_icmp_ne (tgt := 409) d_Mo_reckon_402 (by decide) (fun h186 => ?_) (fun h186 => absurd h186 (by decide))
                                    refine G_iconst (n := 0) d_Mo_reckon_409 (by decide) (G_pc (pc' := 410) rfl ?_)
                                    refine G_istore (i := 8) (len := 2) (ls' := [(8, vi 0), (7, vi 0), (5, vl (M 83 (M 78 n))), (3, vl (M 83 (M 77 n))), (2, vi (M 76 n)), (0, vr 55), (1, vi n)]) (Or.inr ⟨rfl, d_Mo_reckon_410⟩) (by decide) rfl (G_pc (pc' := 412) rfl ?_)
                                    refine G_aload (i := 0) (n := 5) (len := 1) (Or.inl ⟨0, rfl, rfl, d_Mo_reckon_412⟩) rfl (by decide) (G_pc (pc' := 413) rfl ?_)
                                    refine G_iload (i := 1) (n := 6) (len := 1) (Or.inl ⟨1, rfl, rfl, d_Mo_reckon_413⟩) rfl (G_pc (pc' := 414) rfl ?_)
                                    refine G_iload (i := 8) (n := 0) (len := 2) (Or.inr ⟨rfl, d_Mo_reckon_414⟩) rfl (G_pc (pc' := 416) rfl ?_)
                                    refine G_if_eq (tgt := 423) d_Mo_reckon_416 (by decide) (fun h187 => ?_) (fun h187 => absurd h187 (by decide))
                                    refine G_lconst0 d_Mo_reckon_423 (G_pc (pc' := 424) rfl ?_)
                                    refine G_callV (K1 := KE) (d2 := 0) (o := 55) (cl := 9) (as := [vi n, vl 0]) (rest := []) d_Mo_reckon_424 mf_Mo_set ml_Mo_289 rfl rfl (by decide) rfl rfl (Nat.le_of_ble_eq_true rfl) (by omega) ⟨Nat.le_refl _, Nat.le_refl _⟩ (g_Mo_set (by omega) n 0 _ (by omega)) (fun r188 M189 kq190 q190 => ?_)
                                    clear kq190; obtain ⟨q190a, q190b⟩ := q190; subst r188; subst M189
                                    refine G_ps (pc' := 427) (st' := []) rfl rfl ?_
                                    refine G_vret d_Mo_reckon_427 rfl rfl ?_
                                    refine ⟨rfl, ?_⟩; exact cmp_v (by unfold reckF; first | grind | grind [cmpB] | grind [needF])
                                  · skip
                                    refine G_iconst (n := 1) d_Mo_reckon_397 (by decide) (G_pc (pc' := 398) rfl ?_)
                                    refine G_goto (tgt := 402) d_Mo_reckon_398 (by decide) ?_
                                    refine G_icmp_ne (tgt := 409) d_Mo_reckon_402 (by decide) (fun h191 => absurd h191 (by decide)) (fun h191 => G_pc (pc' := 405) rfl ?_)
                                    refine G_iconst (n := 1) d_Mo_reckon_405 (by decide) (G_pc (pc' := 406) rfl ?_)
                                    refine G_goto (tgt := 410) d_Mo_reckon_406 (by decide) ?_
                                    refine G_istore (i := 8) (len := 2) (ls' := [(8, vi 1), (7, vi 0), (5, vl (M 83 (M 78 n))), (3, vl (M 83 (M 77 n))), (2, vi (M 76 n)), (0, vr 55), (1, vi n)]) (Or.inr ⟨rfl, d_Mo_reckon_410⟩) (by decide) rfl (G_pc (pc' := 412) rfl ?_)
                                    refine G_aload (i := 0) (n := 5) (len := 1) (Or.inl ⟨0, rfl, rfl, d_Mo_reckon_412⟩) rfl (by decide) (G_pc (pc' := 413) rfl ?_)
                                    refine G_iload (i := 1) (n := 6) (len := 1) (Or.inl ⟨1, rfl, rfl, d_Mo_reckon_413⟩) rfl (G_pc (pc' := 414) rfl ?_)
                                    refine G_iload (i := 8) (n := 0) (len := 2) (Or.inr ⟨rfl, d_Mo_reckon_414⟩) rfl (G_pc (pc' := 416) rfl ?_)
                                    refine G_if_eq (tgt := 423) d_Mo_reckon_416 (by decide) (fun h192 => absurd h192 (by decide)) (fun h192 => G_pc (pc' := 419) rfl ?_)
                                    refine G_lconst1 d_Mo_reckon_419 (G_pc (pc' := 420) rfl ?_)
                                    refine G_goto (tgt := 424) d_Mo_reckon_420 (by decide) ?_
                                    refine G_callV (K1 := KE) (d2 := 0) (o := 55) (cl := 9) (as := [vi n, vl 1]) (rest := []) d_Mo_reckon_424 mf_Mo_set ml_Mo_289 rfl rfl (by decide) rfl rfl (Nat.le_of_ble_eq_true rfl) (by omega) ⟨Nat.le_refl _, Nat.le_refl _⟩ (g_Mo_set (by omega) n 1 _ (by omega)) (fun r193 M194 kq195 q195 => ?_)
                                    clear kq195; obtain ⟨q195a, q195b⟩ := q195; subst r193; subst M194
                                    refine G_ps (pc' := 427) (st' := []) rfl rfl ?_
                                    refine G_vret d_Mo_reckon_427 rfl rfl ?_
                                    refine ⟨rfl, ?_⟩; exact cmp_v (by unfold reckF; first | grind | grind [cmpB] | grind [needF])
                              · skip
                                refine G_lload (i := 3) (n := 2) (len := 1) (Or.inl ⟨3, rfl, rfl, d_Mo_reckon_364⟩) rfl (G_pc (pc' := 365) rfl ?_)
                                refine G_lload (i := 5) (n := 1) (len := 2) (Or.inr ⟨rfl, d_Mo_reckon_365⟩) rfl (G_pc (pc' := 367) rfl ?_)
                                refine G_lcmp_lt (tgt := 375) d_Mo_reckon_367 d_Mo_reckon_368 (by decide) (fun h196 => ?_) (fun h196 => G_pc (pc' := 371) rfl ?_)
                                · skip
                                  refine G_iconst (n := 0) d_Mo_reckon_375 (by decide) (G_pc (pc' := 376) rfl ?_)
                                  refine G_goto (tgt := 410) d_Mo_reckon_376 (by decide) ?_
                                  refine G_istore (i := 8) (len := 2) (ls' := [(8, vi 0), (7, vi 0), (5, vl (M 83 (M 78 n))), (3, vl (M 83 (M 77 n))), (2, vi (M 76 n)), (0, vr 55), (1, vi n)]) (Or.inr ⟨rfl, d_Mo_reckon_410⟩) (by decide) rfl (G_pc (pc' := 412) rfl ?_)
                                  refine G_aload (i := 0) (n := 5) (len := 1) (Or.inl ⟨0, rfl, rfl, d_Mo_reckon_412⟩) rfl (by decide) (G_pc (pc' := 413) rfl ?_)
                                  refine G_iload (i := 1) (n := 6) (len := 1) (Or.inl ⟨1, rfl, rfl, d_Mo_reckon_413⟩) rfl (G_pc (pc' := 414) rfl ?_)
                                  refine G_iload (i := 8) (n := 0) (len := 2) (Or.inr ⟨rfl, d_Mo_reckon_414⟩) rfl (G_pc (pc' := 416) rfl ?_)
                                  refine G_if_eq (tgt := 423) d_Mo_reckon_416 (by decide) (fun h197 => ?_) (fun h197 => absurd h197 (by decide))
                                  refine G_lconst0 d_Mo_reckon_423 (G_pc (pc' := 424) rfl ?_)
                                  refine G_callV (K1 := KE) (d2 := 0) (o := 55) (cl := 9) (as := [vi n, vl 0]) (rest := []) d_Mo_reckon_424 mf_Mo_set ml_Mo_289 rfl rfl (by decide) rfl rfl (Nat.le_of_ble_eq_true rfl) (by omega) ⟨Nat.le_refl _, Nat.le_refl _⟩ (g_Mo_set (by omega) n 0 _ (by omega)) (fun r198 M199 kq200 q200 => ?_)
                                  clear kq200; obtain ⟨q200a, q200b⟩ := q200; subst r198; subst M199
                                  refine G_ps (pc' := 427) (st' := []) rfl rfl ?_
                                  refine G_vret d_Mo_reckon_427 rfl rfl ?_
                                  refine ⟨rfl, ?_⟩; exact cmp_v (by unfold reckF; first | grind | grind [cmpB] | grind [needF])
                                · skip
                                  refine G_iconst (n := 1) d_Mo_reckon_371 (by decide) (G_pc (pc' := 372) rfl ?_)
                                  refine G_goto (tgt := 410) d_Mo_reckon_372 (by decide) ?_
                                  refine G_istore (i := 8) (len := 2) (ls' := [(8, vi 1), (7, vi 0), (5, vl (M 83 (M 78 n))), (3, vl (M 83 (M 77 n))), (2, vi (M 76 n)), (0, vr 55), (1, vi n)]) (Or.inr ⟨rfl, d_Mo_reckon_410⟩) (by decide) rfl (G_pc (pc' := 412) rfl ?_)
                                  refine G_aload (i := 0) (n := 5) (len := 1) (Or.inl ⟨0, rfl, rfl, d_Mo_reckon_412⟩) rfl (by decide) (G_pc (pc' := 413) rfl ?_)
                                  refine G_iload (i := 1) (n := 6) (len := 1) (Or.inl ⟨1, rfl, rfl, d_Mo_reckon_413⟩) rfl (G_pc (pc' := 414) rfl ?_)
                                  refine G_iload (i := 8) (n := 0) (len := 2) (Or.inr ⟨rfl, d_Mo_reckon_414⟩) rfl (G_pc (pc' := 416) rfl ?_)
                                  refine G_if_eq (tgt := 423) d_Mo_reckon_416 (by decide) (fun h201 => absurd h201 (by decide)) (fun h201 => G_pc (pc' := 419) rfl ?_)
                                  refine G_lconst1 d_Mo_reckon_419 (G_pc (pc' := 420) rfl ?_)
                                  refine G_goto (tgt := 424) d_Mo_reckon_420 (by decide) ?_
                                  refine G_callV (K1 := KE) (d2 := 0) (o := 55) (cl := 9) (as := [vi n, vl 1]) (rest := []) d_Mo_reckon_424 mf_Mo_set ml_Mo_289 rfl rfl (by decide) rfl rfl (Nat.le_of_ble_eq_true rfl) (by omega) ⟨Nat.le_refl _, Nat.le_refl _⟩ (g_Mo_set (by omega) n 1 _ (by omega)) (fun r202 M203 kq204 q204 => ?_)
                                  clear kq204; obtain ⟨q204a, q204b⟩ := q204; subst r202; subst M203
                                  refine G_ps (pc' := 427) (st' := []) rfl rfl ?_
                                  refine G_vret d_Mo_reckon_427 rfl rfl ?_
                                  refine ⟨rfl, ?_⟩; exact cmp_v (by unfold reckF; first | grind | grind [cmpB] | grind [needF])
                            · skip
                              refine G_lload (i := 3) (n := 2) (len := 1) (Or.inl ⟨3, rfl, rfl, d_Mo_reckon_343⟩) rfl (G_pc (pc' := 344) rfl ?_)
                              refine G_lload (i := 5) (n := 1) (len := 2) (Or.inr ⟨rfl, d_Mo_reckon_344⟩) rfl (G_pc (pc' := 346) rfl ?_)
                              refine G_lcmp_le (tgt := 354) d_Mo_reckon_346 d_Mo_reckon_347 (by decide) (fun h205 => ?_) (fun h205 => G_pc (pc' := 350) rfl ?_)
                              · skip
                                refine G_iconst (n := 0) d_Mo_reckon_354 (by decide) (G_pc (pc' := 355) rfl ?_)
                                refine G_goto (tgt := 410) d_Mo_reckon_355 (by decide) ?_
                                refine G_istore (i := 8) (len := 2) (ls' := [(8, vi 0), (7, vi 0), (5, vl (M 83 (M 78 n))), (3, vl (M 83 (M 77 n))), (2, vi (M 76 n)), (0, vr 55), (1, vi n)]) (Or.inr ⟨rfl, d_Mo_reckon_410⟩) (by decide) rfl (G_pc (pc' := 412) rfl ?_)
                                refine G_aload (i := 0) (n := 5) (len := 1) (Or.inl ⟨0, rfl, rfl, d_Mo_reckon_412⟩) rfl (by decide) (G_pc (pc' := 413) rfl ?_)
                                refine G_iload (i := 1) (n := 6) (len := 1) (Or.inl ⟨1, rfl, rfl, d_Mo_reckon_413⟩) rfl (G_pc (pc' := 414) rfl ?_)
                                refine G_iload (i := 8) (n := 0) (len := 2) (Or.inr ⟨rfl, d_Mo_reckon_414⟩) rfl (G_pc (pc' := 416) rfl ?_)
                                refine G_if_eq (tgt := 423) d_Mo_reckon_416 (by decide) (fun h206 => ?_) (fun h206 => absurd h206 (by decide))
                                refine G_lconst0 d_Mo_reckon_423 (G_pc (pc' := 424) rfl ?_)
                                refine G_callV (K1 := KE) (d2 := 0) (o := 55) (cl := 9) (as := [vi n, vl 0]) (rest := []) d_Mo_reckon_424 mf_Mo_set ml_Mo_289 rfl rfl (by decide) rfl rfl (Nat.le_of_ble_eq_true rfl) (by omega) ⟨Nat.le_refl _, Nat.le_refl _⟩ (g_Mo_set (by omega) n 0 _ (by omega)) (fun r207 M208 kq209 q209 => ?_)
                                clear kq209; obtain ⟨q209a, q209b⟩ := q209; subst r207; subst M208
                                refine G_ps (pc' := 427) (st' := []) rfl rfl ?_
                                refine G_vret d_Mo_reckon_427 rfl rfl ?_
                                refine ⟨rfl, ?_⟩; exact cmp_v (by unfold reckF; first | grind | grind [cmpB] | grind [needF])
                              · skip
                                refine G_iconst (n := 1) d_Mo_reckon_350 (by decide) (G_pc (pc' := 351) rfl ?_)
                                refine G_goto (tgt := 410) d_Mo_reckon_351 (by decide) ?_
                                refine G_istore (i := 8) (len := 2) (ls' := [(8, vi 1), (7, vi 0), (5, vl (M 83 (M 78 n))), (3, vl (M 83 (M 77 n))), (2, vi (M 76 n)), (0, vr 55), (1, vi n)]) (Or.inr ⟨rfl, d_Mo_reckon_410⟩) (by decide) rfl (G_pc (pc' := 412) rfl ?_)
                                refine G_aload (i := 0) (n := 5) (len := 1) (Or.inl ⟨0, rfl, rfl, d_Mo_reckon_412⟩) rfl (by decide) (G_pc (pc' := 413) rfl ?_)
                                refine G_iload (i := 1) (n := 6) (len := 1) (Or.inl ⟨1, rfl, rfl, d_Mo_reckon_413⟩) rfl (G_pc (pc' := 414) rfl ?_)
                                refine G_iload (i := 8) (n := 0) (len := 2) (Or.inr ⟨rfl, d_Mo_reckon_414⟩) rfl (G_pc (pc' := 416) rfl ?_)
                                refine G_if_eq (tgt := 423) d_Mo_reckon_416 (by decide) (fun h210 => absurd h210 (by decide)) (fun h210 => G_pc (pc' := 419) rfl ?_)
                                refine G_lconst1 d_Mo_reckon_419 (G_pc (pc' := 420) rfl ?_)
                                refine G_goto (tgt := 424) d_Mo_reckon_420 (by decide) ?_
                                refine G_callV (K1 := KE) (d2 := 0) (o := 55) (cl := 9) (as := [vi n, vl 1]) (rest := []) d_Mo_reckon_424 mf_Mo_set ml_Mo_289 rfl rfl (by decide) rfl rfl (Nat.le_of_ble_eq_true rfl) (by omega) ⟨Nat.le_refl _, Nat.le_refl _⟩ (g_Mo_set (by omega) n 1 _ (by omega)) (fun r211 M212 kq213 q213 => ?_)
                                clear kq213; obtain ⟨q213a, q213b⟩ := q213; subst r211; subst M212
                                refine G_ps (pc' := 427) (st' := []) rfl rfl ?_
                                refine G_vret d_Mo_reckon_427 rfl rfl ?_
                                refine ⟨rfl, ?_⟩; exact cmp_v (by unfold reckF; first | grind | grind [cmpB] | grind [needF])
                          · skip
                            refine G_lload (i := 3) (n := 2) (len := 1) (Or.inl ⟨3, rfl, rfl, d_Mo_reckon_322⟩) rfl (G_pc (pc' := 323) rfl ?_)
                            refine G_lload (i := 5) (n := 1) (len := 2) (Or.inr ⟨rfl, d_Mo_reckon_323⟩) rfl (G_pc (pc' := 325) rfl ?_)
                            refine G_lcmp_gt (tgt := 333) d_Mo_reckon_325 d_Mo_reckon_326 (by decide) (fun h214 => ?_) (fun h214 => G_pc (pc' := 329) rfl ?_)
                            · skip
                              refine G_iconst (n := 0) d_Mo_reckon_333 (by decide) (G_pc (pc' := 334) rfl ?_)
                              refine G_goto (tgt := 410) d_Mo_reckon_334 (by decide) ?_
                              refine G_istore (i := 8) (len := 2) (ls' := [(8, vi 0), (7, vi 0), (5, vl (M 83 (M 78 n))), (3, vl (M 83 (M 77 n))), (2, vi (M 76 n)), (0, vr 55), (1, vi n)]) (Or.inr ⟨rfl, d_Mo_reckon_410⟩) (by decide) rfl (G_pc (pc' := 412) rfl ?_)
                              refine G_aload (i := 0) (n := 5) (len := 1) (Or.inl ⟨0, rfl, rfl, d_Mo_reckon_412⟩) rfl (by decide) (G_pc (pc' := 413) rfl ?_)
                              refine G_iload (i := 1) (n := 6) (len := 1) (Or.inl ⟨1, rfl, rfl, d_Mo_reckon_413⟩) rfl (G_pc (pc' := 414) rfl ?_)
                              refine G_iload (i := 8) (n := 0) (len := 2) (Or.inr ⟨rfl, d_Mo_reckon_414⟩) rfl (G_pc (pc' := 416) rfl ?_)
                              refine G_if_eq (tgt := 423) d_Mo_reckon_416 (by decide) (fun h215 => ?_) (fun h215 => absurd h215 (by decide))
                              refine G_lconst0 d_Mo_reckon_423 (G_pc (pc' := 424) rfl ?_)
                              refine G_callV (K1 := KE) (d2 := 0) (o := 55) (cl := 9) (as := [vi n, vl 0]) (rest := []) d_Mo_reckon_424 mf_Mo_set ml_Mo_289 rfl rfl (by decide) rfl rfl (Nat.le_of_ble_eq_true rfl) (by omega) ⟨Nat.le_refl _, Nat.le_refl _⟩ (g_Mo_set (by omega) n 0 _ (by omega)) (fun r216 M217 kq218 q218 => ?_)
                              clear kq218; obtain ⟨q218a, q218b⟩ := q218; subst r216; subst M217
                              refine G_ps (pc' := 427) (st' := []) rfl rfl ?_
                              refine G_vret d_Mo_reckon_427 rfl rfl ?_
                              refine ⟨rfl, ?_⟩; exact cmp_v (by unfold reckF; first | grind | grind [cmpB] | grind [needF])
                            · skip
                              refine G_iconst (n := 1) d_Mo_reckon_329 (by decide) (G_pc (pc' := 330) rfl ?_)
                              refine G_goto (tgt := 410) d_Mo_reckon_330 (by decide) ?_
                              refine G_istore (i := 8) (len := 2) (ls' := [(8, vi 1), (7, vi 0), (5, vl (M 83 (M 78 n))), (3, vl (M 83 (M 77 n))), (2, vi (M 76 n)), (0, vr 55), (1, vi n)]) (Or.inr ⟨rfl, d_Mo_reckon_410⟩) (by decide) rfl (G_pc (pc' := 412) rfl ?_)
                              refine G_aload (i := 0) (n := 5) (len := 1) (Or.inl ⟨0, rfl, rfl, d_Mo_reckon_412⟩) rfl (by decide) (G_pc (pc' := 413) rfl ?_)
                              refine G_iload (i := 1) (n := 6) (len := 1) (Or.inl ⟨1, rfl, rfl, d_Mo_reckon_413⟩) rfl (G_pc (pc' := 414) rfl ?_)
                              refine G_iload (i := 8) (n := 0) (len := 2) (Or.inr ⟨rfl, d_Mo_reckon_414⟩) rfl (G_pc (pc' := 416) rfl ?_)
                              refine G_if_eq (tgt := 423) d_Mo_reckon_416 (by decide) (fun h219 => absurd h219 (by decide)) (fun h219 => G_pc (pc' := 419) rfl ?_)
                              refine G_lconst1 d_Mo_reckon_419 (G_pc (pc' := 420) rfl ?_)
                              refine G_goto (tgt := 424) d_Mo_reckon_420 (by decide) ?_
                              refine G_callV (K1 := KE) (d2 := 0) (o := 55) (cl := 9) (as := [vi n, vl 1]) (rest := []) d_Mo_reckon_424 mf_Mo_set ml_Mo_289 rfl rfl (by decide) rfl rfl (Nat.le_of_ble_eq_true rfl) (by omega) ⟨Nat.le_refl _, Nat.le_refl _⟩ (g_Mo_set (by omega) n 1 _ (by omega)) (fun r220 M221 kq222 q222 => ?_)
                              clear kq222; obtain ⟨q222a, q222b⟩ := q222; subst r220; subst M221
                              refine G_ps (pc' := 427) (st' := []) rfl rfl ?_
                              refine G_vret d_Mo_reckon_427 rfl rfl ?_
                              refine ⟨rfl, ?_⟩; exact cmp_v (by unfold reckF; first | grind | grind [cmpB] | grind [needF])
                        · skip
                          refine G_lload (i := 3) (n := 2) (len := 1) (Or.inl ⟨3, rfl, rfl, d_Mo_reckon_301⟩) rfl (G_pc (pc' := 302) rfl ?_)
                          refine G_lload (i := 5) (n := 1) (len := 2) (Or.inr ⟨rfl, d_Mo_reckon_302⟩) rfl (G_pc (pc' := 304) rfl ?_)
                          refine G_lcmp_ge (tgt := 312) d_Mo_reckon_304 d_Mo_reckon_305 (by decide) (fun h223 => ?_) (fun h223 => G_pc (pc' := 308) rfl ?_)
                          · skip
                            refine G_iconst (n := 0) d_Mo_reckon_312 (by decide) (G_pc (pc' := 313) rfl ?_)
                            refine G_goto (tgt := 410) d_Mo_reckon_313 (by decide) ?_
                            refine G_istore (i := 8) (len := 2) (ls' := [(8, vi 0), (7, vi 0), (5, vl (M 83 (M 78 n))), (3, vl (M 83 (M 77 n))), (2, vi (M 76 n)), (0, vr 55), (1, vi n)]) (Or.inr ⟨rfl, d_Mo_reckon_410⟩) (by decide) rfl (G_pc (pc' := 412) rfl ?_)
                            refine G_aload (i := 0) (n := 5) (len := 1) (Or.inl ⟨0, rfl, rfl, d_Mo_reckon_412⟩) rfl (by decide) (G_pc (pc' := 413) rfl ?_)
                            refine G_iload (i := 1) (n := 6) (len := 1) (Or.inl ⟨1, rfl, rfl, d_Mo_reckon_413⟩) rfl (G_pc (pc' := 414) rfl ?_)
                            refine G_iload (i := 8) (n := 0) (len := 2) (Or.inr ⟨rfl, d_Mo_reckon_414⟩) rfl (G_pc (pc' := 416) rfl ?_)
                            refine G_if_eq (tgt := 423) d_Mo_reckon_416 (by decide) (fun h224 => ?_) (fun h224 => absurd h224 (by decide))
                            refine G_lconst0 d_Mo_reckon_423 (G_pc (pc' := 424) rfl ?_)
                            refine G_callV (K1 := KE) (d2 := 0) (o := 55) (cl := 9) (as := [vi n, vl 0]) (rest := []) d_Mo_reckon_424 mf_Mo_set ml_Mo_289 rfl rfl (by decide) rfl rfl (Nat.le_of_ble_eq_true rfl) (by omega) ⟨Nat.le_refl _, Nat.le_refl _⟩ (g_Mo_set (by omega) n 0 _ (by omega)) (fun r225 M226 kq227 q227 => ?_)
                            clear kq227; obtain ⟨q227a, q227b⟩ := q227; subst r225; subst M226
                            refine G_ps (pc' := 427) (st' := []) rfl rfl ?_
                            refine G_vret d_Mo_reckon_427 rfl rfl ?_
                            refine ⟨rfl, ?_⟩; exact cmp_v (by unfold reckF; first | grind | grind [cmpB] | grind [needF])
                          · skip
                            refine G_iconst (n := 1) d_Mo_reckon_308 (by decide) (G_pc (pc' := 309) rfl ?_)
                            refine G_goto (tgt := 410) d_Mo_reckon_309 (by decide) ?_
                            refine G_istore (i := 8) (len := 2) (ls' := [(8, vi 1), (7, vi 0), (5, vl (M 83 (M 78 n))), (3, vl (M 83 (M 77 n))), (2, vi (M 76 n)), (0, vr 55), (1, vi n)]) (Or.inr ⟨rfl, d_Mo_reckon_410⟩) (by decide) rfl (G_pc (pc' := 412) rfl ?_)
                            refine G_aload (i := 0) (n := 5) (len := 1) (Or.inl ⟨0, rfl, rfl, d_Mo_reckon_412⟩) rfl (by decide) (G_pc (pc' := 413) rfl ?_)
                            refine G_iload (i := 1) (n := 6) (len := 1) (Or.inl ⟨1, rfl, rfl, d_Mo_reckon_413⟩) rfl (G_pc (pc' := 414) rfl ?_)
                            refine G_iload (i := 8) (n := 0) (len := 2) (Or.inr ⟨rfl, d_Mo_reckon_414⟩) rfl (G_pc (pc' := 416) rfl ?_)
                            refine G_if_eq (tgt := 423) d_Mo_reckon_416 (by decide) (fun h228 => absurd h228 (by decide)) (fun h228 => G_pc (pc' := 419) rfl ?_)
                            refine G_lconst1 d_Mo_reckon_419 (G_pc (pc' := 420) rfl ?_)
                            refine G_goto (tgt := 424) d_Mo_reckon_420 (by decide) ?_
                            refine G_callV (K1 := KE) (d2 := 0) (o := 55) (cl := 9) (as := [vi n, vl 1]) (rest := []) d_Mo_reckon_424 mf_Mo_set ml_Mo_289 rfl rfl (by decide) rfl rfl (Nat.le_of_ble_eq_true rfl) (by omega) ⟨Nat.le_refl _, Nat.le_refl _⟩ (g_Mo_set (by omega) n 1 _ (by omega)) (fun r229 M230 kq231 q231 => ?_)
                            clear kq231; obtain ⟨q231a, q231b⟩ := q231; subst r229; subst M230
                            refine G_ps (pc' := 427) (st' := []) rfl rfl ?_
                            refine G_vret d_Mo_reckon_427 rfl rfl ?_
                            refine ⟨rfl, ?_⟩; exact cmp_v (by unfold reckF; first | grind | grind [cmpB] | grind [needF])
                      · skip
                        refine G_aload (i := 0) (n := 4) (len := 1) (Or.inl ⟨0, rfl, rfl, d_Mo_reckon_257⟩) rfl (by decide) (G_pc (pc' := 258) rfl ?_)
                        refine G_iload (i := 1) (n := 5) (len := 1) (Or.inl ⟨1, rfl, rfl, d_Mo_reckon_258⟩) rfl (G_pc (pc' := 259) rfl ?_)
                        refine G_iload (i := 2) (n := 3) (len := 1) (Or.inl ⟨2, rfl, rfl, d_Mo_reckon_259⟩) rfl (G_pc (pc' := 260) rfl ?_)
                        refine G_bipush (n := 43) d_Mo_reckon_260 (by decide) (G_pc (pc' := 262) rfl ?_)
                        refine G_icmp_ne (tgt := 272) d_Mo_reckon_262 (by decide) (fun h232 => ?_) (fun h232 => G_pc (pc' := 265) rfl ?_)
                        · skip
                          refine G_iload (i := 2) (n := 3) (len := 1) (Or.inl ⟨2, rfl, rfl, d_Mo_reckon_272⟩) rfl (G_pc (pc' := 273) rfl ?_)
                          refine G_bipush (n := 45) d_Mo_reckon_273 (by decide) (G_pc (pc' := 275) rfl ?_)
                          refine G_icmp_ne (tgt := 285) d_Mo_reckon_275 (by decide) (fun h233 => ?_) (fun h233 => G_pc (pc' := 278) rfl ?_)
                          · skip
                            refine G_lload (i := 3) (n := 2) (len := 1) (Or.inl ⟨3, rfl, rfl, d_Mo_reckon_285⟩) rfl (G_pc (pc' := 286) rfl ?_)
                            refine G_lload (i := 5) (n := 1) (len := 2) (Or.inr ⟨rfl, d_Mo_reckon_286⟩) rfl (G_pc (pc' := 288) rfl ?_)
                            refine G_lxor d_Mo_reckon_288 (G_pc (pc' := 289) rfl ?_)
                            refine G_callV (K1 := KE) (d2 := 0) (o := 55) (cl := 9) (as := [vi n, vl (o_lxor (M 83 (M 77 n)) (M 83 (M 78 n)))]) (rest := []) d_Mo_reckon_289 mf_Mo_set ml_Mo_289 rfl rfl (by decide) rfl rfl (Nat.le_of_ble_eq_true rfl) (by omega) ⟨Nat.le_refl _, Nat.le_refl _⟩ (g_Mo_set (by omega) n (o_lxor (M 83 (M 77 n)) (M 83 (M 78 n))) _ (by omega)) (fun r234 M235 kq236 q236 => ?_)
                            clear kq236; obtain ⟨q236a, q236b⟩ := q236; subst r234; subst M235
                            refine G_ps (pc' := 292) (st' := []) rfl rfl ?_
                            refine G_goto (tgt := 427) d_Mo_reckon_292 (by decide) ?_
                            refine G_vret d_Mo_reckon_427 rfl rfl ?_
                            refine ⟨rfl, ?_⟩; exact cmp_v (by unfold reckF; first | grind | grind [cmpB] | grind [needF])
                          · skip
                            refine G_lload (i := 3) (n := 2) (len := 1) (Or.inl ⟨3, rfl, rfl, d_Mo_reckon_278⟩) rfl (G_pc (pc' := 279) rfl ?_)
                            refine G_lload (i := 5) (n := 1) (len := 2) (Or.inr ⟨rfl, d_Mo_reckon_279⟩) rfl (G_pc (pc' := 281) rfl ?_)
                            refine G_lor d_Mo_reckon_281 (G_pc (pc' := 282) rfl ?_)
                            refine G_goto (tgt := 289) d_Mo_reckon_282 (by decide) ?_
                            refine G_callV (K1 := KE) (d2 := 0) (o := 55) (cl := 9) (as := [vi n, vl (o_lor (M 83 (M 77 n)) (M 83 (M 78 n)))]) (rest := []) d_Mo_reckon_289 mf_Mo_set ml_Mo_289 rfl rfl (by decide) rfl rfl (Nat.le_of_ble_eq_true rfl) (by omega) ⟨Nat.le_refl _, Nat.le_refl _⟩ (g_Mo_set (by omega) n (o_lor (M 83 (M 77 n)) (M 83 (M 78 n))) _ (by omega)) (fun r237 M238 kq239 q239 => ?_)
                            clear kq239; obtain ⟨q239a, q239b⟩ := q239; subst r237; subst M238
                            refine G_ps (pc' := 292) (st' := []) rfl rfl ?_
                            refine G_goto (tgt := 427) d_Mo_reckon_292 (by decide) ?_
                            refine G_vret d_Mo_reckon_427 rfl rfl ?_
                            refine ⟨rfl, ?_⟩; exact cmp_v (by unfold reckF; first | grind | grind [cmpB] | grind [needF])
                        · skip
                          refine G_lload (i := 3) (n := 2) (len := 1) (Or.inl ⟨3, rfl, rfl, d_Mo_reckon_265⟩) rfl (G_pc (pc' := 266) rfl ?_)
                          refine G_lload (i := 5) (n := 1) (len := 2) (Or.inr ⟨rfl, d_Mo_reckon_266⟩) rfl (G_pc (pc' := 268) rfl ?_)
                          refine G_land d_Mo_reckon_268 (G_pc (pc' := 269) rfl ?_)
                          refine G_goto (tgt := 289) d_Mo_reckon_269 (by decide) ?_
                          refine G_callV (K1 := KE) (d2 := 0) (o := 55) (cl := 9) (as := [vi n, vl (o_land (M 83 (M 77 n)) (M 83 (M 78 n)))]) (rest := []) d_Mo_reckon_289 mf_Mo_set ml_Mo_289 rfl rfl (by decide) rfl rfl (Nat.le_of_ble_eq_true rfl) (by omega) ⟨Nat.le_refl _, Nat.le_refl _⟩ (g_Mo_set (by omega) n (o_land (M 83 (M 77 n)) (M 83 (M 78 n))) _ (by omega)) (fun r240 M241 kq242 q242 => ?_)
                          clear kq242; obtain ⟨q242a, q242b⟩ := q242; subst r240; subst M241
                          refine G_ps (pc' := 292) (st' := []) rfl rfl ?_
                          refine G_goto (tgt := 427) d_Mo_reckon_292 (by decide) ?_
                          refine G_vret d_Mo_reckon_427 rfl rfl ?_
                          refine ⟨rfl, ?_⟩; exact cmp_v (by unfold reckF; first | grind | grind [cmpB] | grind [needF])
                · skip
                  refine G_lload (i := 5) (n := 1) (len := 2) (Or.inr ⟨rfl, d_Mo_reckon_169⟩) rfl (G_pc (pc' := 171) rfl ?_)
                  refine G_l2i d_Mo_reckon_171 (G_pc (pc' := 172) rfl ?_)
                  refine G_iload (i := 7) (n := 0) (len := 2) (Or.inr ⟨rfl, d_Mo_reckon_172⟩) rfl (G_pc (pc' := 174) rfl ?_)
                  refine G_if_eq (tgt := 182) d_Mo_reckon_174 (by decide) (fun h243 => ?_) (fun h243 => absurd h243 (by decide))
                  refine G_bipush (n := 31) d_Mo_reckon_182 (by decide) (G_pc (pc' := 184) rfl ?_)
                  refine G_iand d_Mo_reckon_184 (G_pc (pc' := 185) rfl ?_)
                  refine G_istore (i := 8) (len := 2) (ls' := [(8, vi (o_iand (w32 (M 83 (M 78 n))) 31)), (7, vi 0), (5, vl (M 83 (M 78 n))), (3, vl (M 83 (M 77 n))), (2, vi (M 76 n)), (0, vr 55), (1, vi n)]) (Or.inr ⟨rfl, d_Mo_reckon_185⟩) (by decide) rfl (G_pc (pc' := 187) rfl ?_)
                  refine G_aload (i := 0) (n := 5) (len := 1) (Or.inl ⟨0, rfl, rfl, d_Mo_reckon_187⟩) rfl (by decide) (G_pc (pc' := 188) rfl ?_)
                  refine G_iload (i := 1) (n := 6) (len := 1) (Or.inl ⟨1, rfl, rfl, d_Mo_reckon_188⟩) rfl (G_pc (pc' := 189) rfl ?_)
                  refine G_iload (i := 2) (n := 4) (len := 1) (Or.inl ⟨2, rfl, rfl, d_Mo_reckon_189⟩) rfl (G_pc (pc' := 190) rfl ?_)
                  refine G_bipush (n := 38) d_Mo_reckon_190 (by decide) (G_pc (pc' := 192) rfl ?_)
                  refine G_icmp_ne (tgt := 202) d_Mo_reckon_192 (by decide) (fun h244 => ?_) (fun h244 => G_pc (pc' := 195) rfl ?_)
                  · skip
                    refine G_iload (i := 2) (n := 4) (len := 1) (Or.inl ⟨2, rfl, rfl, d_Mo_reckon_202⟩) rfl (G_pc (pc' := 203) rfl ?_)
                    refine G_bipush (n := 39) d_Mo_reckon_203 (by decide) (G_pc (pc' := 205) rfl ?_)
                    refine G_icmp_ne (tgt := 215) d_Mo_reckon_205 (by decide) (fun h245 => ?_) (fun h245 => G_pc (pc' := 208) rfl ?_)
                    · skip
                      refine G_iload (i := 7) (n := 1) (len := 2) (Or.inr ⟨rfl, d_Mo_reckon_215⟩) rfl (G_pc (pc' := 217) rfl ?_)
                      refine G_if_eq (tgt := 227) d_Mo_reckon_217 (by decide) (fun h246 => ?_) (fun h246 => absurd h246 (by decide))
                      refine G_lload (i := 3) (n := 3) (len := 1) (Or.inl ⟨3, rfl, rfl, d_Mo_reckon_227⟩) rfl (G_pc (pc' := 228) rfl ?_)
                      refine G_l2i d_Mo_reckon_228 (G_pc (pc' := 229) rfl ?_)
                      refine G_iload (i := 8) (n := 0) (len := 2) (Or.inr ⟨rfl, d_Mo_reckon_229⟩) rfl (G_pc (pc' := 231) rfl ?_)
                      refine G_iushr d_Mo_reckon_231 (G_pc (pc' := 232) rfl ?_)
                      refine G_i2l d_Mo_reckon_232 (G_pc (pc' := 233) rfl ?_)
                      refine G_callV (K1 := KE) (d2 := 0) (o := 55) (cl := 9) (as := [vi n, vl (o_iushr (w32 (M 83 (M 77 n))) (o_iand (w32 (M 83 (M 78 n))) 31))]) (rest := []) d_Mo_reckon_233 mf_Mo_set ml_Mo_289 rfl rfl (by decide) rfl rfl (Nat.le_of_ble_eq_true rfl) (by omega) ⟨Nat.le_refl _, Nat.le_refl _⟩ (g_Mo_set (by omega) n (o_iushr (w32 (M 83 (M 77 n))) (o_iand (w32 (M 83 (M 78 n))) 31)) _ (by omega)) (fun r247 M248 kq249 q249 => ?_)
                      clear kq249; obtain ⟨q249a, q249b⟩ := q249; subst r247; subst M248
                      refine G_ps (pc' := 236) (st' := []) rfl rfl ?_
                      refine G_goto (tgt := 427) d_Mo_reckon_236 (by decide) ?_
                      refine G_vret d_Mo_reckon_427 rfl rfl ?_
                      refine ⟨rfl, ?_⟩; exact cmp_v (by unfold reckF; first | grind | grind [cmpB] | grind [needF])
                    · skip
                      refine G_lload (i := 3) (n := 3) (len := 1) (Or.inl ⟨3, rfl, rfl, d_Mo_reckon_208⟩) rfl (G_pc (pc' := 209) rfl ?_)
                      refine G_iload (i := 8) (n := 0) (len := 2) (Or.inr ⟨rfl, d_Mo_reckon_209⟩) rfl (G_pc (pc' := 211) rfl ?_)
                      refine G_lshr d_Mo_reckon_211 (G_pc (pc' := 212) rfl ?_)
                      refine G_goto (tgt := 233) d_Mo_reckon_212 (by decide) ?_
                      refine G_callV (K1 := KE) (d2 := 0) (o := 55) (cl := 9) (as := [vi n, vl (o_lshr (M 83 (M 77 n)) (o_iand (w32 (M 83 (M 78 n))) 31))]) (rest := []) d_Mo_reckon_233 mf_Mo_set ml_Mo_289 rfl rfl (by decide) rfl rfl (Nat.le_of_ble_eq_true rfl) (by omega) ⟨Nat.le_refl _, Nat.le_refl _⟩ (g_Mo_set (by omega) n (o_lshr (M 83 (M 77 n)) (o_iand (w32 (M 83 (M 78 n))) 31)) _ (by omega)) (fun r250 M251 kq252 q252 => ?_)
                      clear kq252; obtain ⟨q252a, q252b⟩ := q252; subst r250; subst M251
                      refine G_ps (pc' := 236) (st' := []) rfl rfl ?_
                      refine G_goto (tgt := 427) d_Mo_reckon_236 (by decide) ?_
                      refine G_vret d_Mo_reckon_427 rfl rfl ?_
                      refine ⟨rfl, ?_⟩; exact cmp_v (by unfold reckF; first | grind | grind [cmpB] | grind [needF])
                  · skip
                    refine G_lload (i := 3) (n := 3) (len := 1) (Or.inl ⟨3, rfl, rfl, d_Mo_reckon_195⟩) rfl (G_pc (pc' := 196) rfl ?_)
                    refine G_iload (i := 8) (n := 0) (len := 2) (Or.inr ⟨rfl, d_Mo_reckon_196⟩) rfl (G_pc (pc' := 198) rfl ?_)
                    refine G_lshl d_Mo_reckon_198 (G_pc (pc' := 199) rfl ?_)
                    refine G_goto (tgt := 233) d_Mo_reckon_199 (by decide) ?_
                    refine G_callV (K1 := KE) (d2 := 0) (o := 55) (cl := 9) (as := [vi n, vl (o_lshl (M 83 (M 77 n)) (o_iand (w32 (M 83 (M 78 n))) 31))]) (rest := []) d_Mo_reckon_233 mf_Mo_set ml_Mo_289 rfl rfl (by decide) rfl rfl (Nat.le_of_ble_eq_true rfl) (by omega) ⟨Nat.le_refl _, Nat.le_refl _⟩ (g_Mo_set (by omega) n (o_lshl (M 83 (M 77 n)) (o_iand (w32 (M 83 (M 78 n))) 31)) _ (by omega)) (fun r253 M254 kq255 q255 => ?_)
                    clear kq255; obtain ⟨q255a, q255b⟩ := q255; subst r253; subst M254
                    refine G_ps (pc' := 236) (st' := []) rfl rfl ?_
                    refine G_goto (tgt := 427) d_Mo_reckon_236 (by decide) ?_
                    refine G_vret d_Mo_reckon_427 rfl rfl ?_
                    refine ⟨rfl, ?_⟩; exact cmp_v (by unfold reckF; first | grind | grind [cmpB] | grind [needF])
            · skip
              refine G_lload (i := 5) (n := 1) (len := 2) (Or.inr ⟨rfl, d_Mo_reckon_117⟩) rfl (G_pc (pc' := 119) rfl ?_)
              refine G_lconst0 d_Mo_reckon_119 (G_pc (pc' := 120) rfl ?_)
              refine G_lcmp_ne (tgt := 132) d_Mo_reckon_120 d_Mo_reckon_121 (by decide) (fun h256 => ?_) (fun h256 => G_pc (pc' := 124) rfl ?_)
              · skip
                refine G_aload (i := 0) (n := 4) (len := 1) (Or.inl ⟨0, rfl, rfl, d_Mo_reckon_132⟩) rfl (by decide) (G_pc (pc' := 133) rfl ?_)
                refine G_iload (i := 1) (n := 5) (len := 1) (Or.inl ⟨1, rfl, rfl, d_Mo_reckon_133⟩) rfl (G_pc (pc' := 134) rfl ?_)
                refine G_iload (i := 2) (n := 3) (len := 1) (Or.inl ⟨2, rfl, rfl, d_Mo_reckon_134⟩) rfl (G_pc (pc' := 135) rfl ?_)
                refine G_bipush (n := 30) d_Mo_reckon_135 (by decide) (G_pc (pc' := 137) rfl ?_)
                refine G_icmp_ne (tgt := 147) d_Mo_reckon_137 (by decide) (fun h257 => ?_) (fun h257 => G_pc (pc' := 140) rfl ?_)
                · skip
                  refine G_lload (i := 3) (n := 2) (len := 1) (Or.inl ⟨3, rfl, rfl, d_Mo_reckon_147⟩) rfl (G_pc (pc' := 148) rfl ?_)
                  refine G_lload (i := 5) (n := 1) (len := 2) (Or.inr ⟨rfl, d_Mo_reckon_148⟩) rfl (G_pc (pc' := 150) rfl ?_)
                  refine G_lrem d_Mo_reckon_150 (by omega) (G_pc (pc' := 151) rfl ?_)
                  refine G_callV (K1 := KE) (d2 := 0) (o := 55) (cl := 9) (as := [vi n, vl (o_lrem (M 83 (M 77 n)) (M 83 (M 78 n)))]) (rest := []) d_Mo_reckon_151 mf_Mo_set ml_Mo_289 rfl rfl (by decide) rfl rfl (Nat.le_of_ble_eq_true rfl) (by omega) ⟨Nat.le_refl _, Nat.le_refl _⟩ (g_Mo_set (by omega) n (o_lrem (M 83 (M 77 n)) (M 83 (M 78 n))) _ (by omega)) (fun r258 M259 kq260 q260 => ?_)
                  clear kq260; obtain ⟨q260a, q260b⟩ := q260; subst r258; subst M259
                  refine G_ps (pc' := 154) (st' := []) rfl rfl ?_
                  refine G_goto (tgt := 427) d_Mo_reckon_154 (by decide) ?_
                  refine G_vret d_Mo_reckon_427 rfl rfl ?_
                  refine ⟨rfl, ?_⟩; exact cmp_v (by unfold reckF; first | grind | grind [cmpB] | grind [needF])
                · skip
                  refine G_lload (i := 3) (n := 2) (len := 1) (Or.inl ⟨3, rfl, rfl, d_Mo_reckon_140⟩) rfl (G_pc (pc' := 141) rfl ?_)
                  refine G_lload (i := 5) (n := 1) (len := 2) (Or.inr ⟨rfl, d_Mo_reckon_141⟩) rfl (G_pc (pc' := 143) rfl ?_)
                  refine G_ldiv d_Mo_reckon_143 (by omega) (G_pc (pc' := 144) rfl ?_)
                  refine G_goto (tgt := 151) d_Mo_reckon_144 (by decide) ?_
                  refine G_callV (K1 := KE) (d2 := 0) (o := 55) (cl := 9) (as := [vi n, vl (o_ldiv (M 83 (M 77 n)) (M 83 (M 78 n)))]) (rest := []) d_Mo_reckon_151 mf_Mo_set ml_Mo_289 rfl rfl (by decide) rfl rfl (Nat.le_of_ble_eq_true rfl) (by omega) ⟨Nat.le_refl _, Nat.le_refl _⟩ (g_Mo_set (by omega) n (o_ldiv (M 83 (M 77 n)) (M 83 (M 78 n))) _ (by omega)) (fun r261 M262 kq263 q263 => ?_)
                  clear kq263; obtain ⟨q263a, q263b⟩ := q263; subst r261; subst M262
                  refine G_ps (pc' := 154) (st' := []) rfl rfl ?_
                  refine G_goto (tgt := 427) d_Mo_reckon_154 (by decide) ?_
                  refine G_vret d_Mo_reckon_427 rfl rfl ?_
                  refine ⟨rfl, ?_⟩; exact cmp_v (by unfold reckF; first | grind | grind [cmpB] | grind [needF])
              · skip
                refine G_aload (i := 0) (n := 4) (len := 1) (Or.inl ⟨0, rfl, rfl, d_Mo_reckon_124⟩) rfl (by decide) (G_pc (pc' := 125) rfl ?_)
                refine G_iconst (n := 1) d_Mo_reckon_125 (by decide) (G_pc (pc' := 126) rfl ?_)
                refine G_putL (o := 55) (c := 9) (k := 46) (ki := 46) (x := 1) d_Mo_reckon_126 fl_Mo_280 rfl rfl (by decide) (by decide) (by decide) rfl rfl (tokI (by decide)) rfl (G_pc (pc' := 129) rfl ?_)
                refine G_goto (tgt := 427) d_Mo_reckon_129 (by decide) ?_
                refine G_vret d_Mo_reckon_427 rfl rfl ?_
                refine ⟨rfl, ?_⟩; exact cmp_t (by unfold reckF; first | grind | grind [cmpB] | grind [needF]) (by decide)
        · skip
          refine G_aload (i := 0) (n := 4) (len := 1) (Or.inl ⟨0, rfl, rfl, d_Mo_reckon_67⟩) rfl (by decide) (G_pc (pc' := 68) rfl ?_)
          refine G_iload (i := 1) (n := 5) (len := 1) (Or.inl ⟨1, rfl, rfl, d_Mo_reckon_68⟩) rfl (G_pc (pc' := 69) rfl ?_)
          refine G_iload (i := 2) (n := 3) (len := 1) (Or.inl ⟨2, rfl, rfl, d_Mo_reckon_69⟩) rfl (G_pc (pc' := 70) rfl ?_)
          refine G_bipush (n := 27) d_Mo_reckon_70 (by decide) (G_pc (pc' := 72) rfl ?_)
          refine G_icmp_ne (tgt := 82) d_Mo_reckon_72 (by decide) (fun h264 => ?_) (fun h264 => G_pc (pc' := 75) rfl ?_)
          · skip
            refine G_iload (i := 2) (n := 3) (len := 1) (Or.inl ⟨2, rfl, rfl, d_Mo_reckon_82⟩) rfl (G_pc (pc' := 83) rfl ?_)
            refine G_bipush (n := 29) d_Mo_reckon_83 (by decide) (G_pc (pc' := 85) rfl ?_)
            refine G_icmp_ne (tgt := 95) d_Mo_reckon_85 (by decide) (fun h265 => ?_) (fun h265 => G_pc (pc' := 88) rfl ?_)
            · skip
              refine G_lload (i := 3) (n := 2) (len := 1) (Or.inl ⟨3, rfl, rfl, d_Mo_reckon_95⟩) rfl (G_pc (pc' := 96) rfl ?_)
              refine G_lload (i := 5) (n := 1) (len := 2) (Or.inr ⟨rfl, d_Mo_reckon_96⟩) rfl (G_pc (pc' := 98) rfl ?_)
              refine G_lsub d_Mo_reckon_98 (G_pc (pc' := 99) rfl ?_)
              refine G_callV (K1 := KE) (d2 := 0) (o := 55) (cl := 9) (as := [vi n, vl (o_lsub (M 83 (M 77 n)) (M 83 (M 78 n)))]) (rest := []) d_Mo_reckon_99 mf_Mo_set ml_Mo_289 rfl rfl (by decide) rfl rfl (Nat.le_of_ble_eq_true rfl) (by omega) ⟨Nat.le_refl _, Nat.le_refl _⟩ (g_Mo_set (by omega) n (o_lsub (M 83 (M 77 n)) (M 83 (M 78 n))) _ (by omega)) (fun r266 M267 kq268 q268 => ?_)
              clear kq268; obtain ⟨q268a, q268b⟩ := q268; subst r266; subst M267
              refine G_ps (pc' := 102) (st' := []) rfl rfl ?_
              refine G_goto (tgt := 427) d_Mo_reckon_102 (by decide) ?_
              refine G_vret d_Mo_reckon_427 rfl rfl ?_
              refine ⟨rfl, ?_⟩; exact cmp_v (by unfold reckF; first | grind | grind [cmpB] | grind [needF])
            · skip
              refine G_lload (i := 3) (n := 2) (len := 1) (Or.inl ⟨3, rfl, rfl, d_Mo_reckon_88⟩) rfl (G_pc (pc' := 89) rfl ?_)
              refine G_lload (i := 5) (n := 1) (len := 2) (Or.inr ⟨rfl, d_Mo_reckon_89⟩) rfl (G_pc (pc' := 91) rfl ?_)
              refine G_lmul d_Mo_reckon_91 (G_pc (pc' := 92) rfl ?_)
              refine G_goto (tgt := 99) d_Mo_reckon_92 (by decide) ?_
              refine G_callV (K1 := KE) (d2 := 0) (o := 55) (cl := 9) (as := [vi n, vl (o_lmul (M 83 (M 77 n)) (M 83 (M 78 n)))]) (rest := []) d_Mo_reckon_99 mf_Mo_set ml_Mo_289 rfl rfl (by decide) rfl rfl (Nat.le_of_ble_eq_true rfl) (by omega) ⟨Nat.le_refl _, Nat.le_refl _⟩ (g_Mo_set (by omega) n (o_lmul (M 83 (M 77 n)) (M 83 (M 78 n))) _ (by omega)) (fun r269 M270 kq271 q271 => ?_)
              clear kq271; obtain ⟨q271a, q271b⟩ := q271; subst r269; subst M270
              refine G_ps (pc' := 102) (st' := []) rfl rfl ?_
              refine G_goto (tgt := 427) d_Mo_reckon_102 (by decide) ?_
              refine G_vret d_Mo_reckon_427 rfl rfl ?_
              refine ⟨rfl, ?_⟩; exact cmp_v (by unfold reckF; first | grind | grind [cmpB] | grind [needF])
          · skip
            refine G_lload (i := 3) (n := 2) (len := 1) (Or.inl ⟨3, rfl, rfl, d_Mo_reckon_75⟩) rfl (G_pc (pc' := 76) rfl ?_)
            refine G_lload (i := 5) (n := 1) (len := 2) (Or.inr ⟨rfl, d_Mo_reckon_76⟩) rfl (G_pc (pc' := 78) rfl ?_)
            refine G_ladd d_Mo_reckon_78 (G_pc (pc' := 79) rfl ?_)
            refine G_goto (tgt := 99) d_Mo_reckon_79 (by decide) ?_
            refine G_callV (K1 := KE) (d2 := 0) (o := 55) (cl := 9) (as := [vi n, vl (o_ladd (M 83 (M 77 n)) (M 83 (M 78 n)))]) (rest := []) d_Mo_reckon_99 mf_Mo_set ml_Mo_289 rfl rfl (by decide) rfl rfl (Nat.le_of_ble_eq_true rfl) (by omega) ⟨Nat.le_refl _, Nat.le_refl _⟩ (g_Mo_set (by omega) n (o_ladd (M 83 (M 77 n)) (M 83 (M 78 n))) _ (by omega)) (fun r272 M273 kq274 q274 => ?_)
            clear kq274; obtain ⟨q274a, q274b⟩ := q274; subst r272; subst M273
            refine G_ps (pc' := 102) (st' := []) rfl rfl ?_
            refine G_goto (tgt := 427) d_Mo_reckon_102 (by decide) ?_
            refine G_vret d_Mo_reckon_427 rfl rfl ?_
            refine ⟨rfl, ?_⟩; exact cmp_v (by unfold reckF; first | grind | grind [cmpB] | grind [needF])
  · skip
    refine G_iconst (n := 1) d_Mo_reckon_42 (by decide) (G_pc (pc' := 43) rfl ?_)
    refine G_goto (tgt := 47) d_Mo_reckon_43 (by decide) ?_
    refine G_istore (i := 7) (len := 2) (ls' := [(7, vi 1), (5, vl (M 83 (M 78 n))), (3, vl (M 83 (M 77 n))), (2, vi (M 76 n)), (0, vr 55), (1, vi n)]) (Or.inr ⟨rfl, d_Mo_reckon_47⟩) (by decide) rfl (G_pc (pc' := 49) rfl ?_)
    refine G_iload (i := 2) (n := 3) (len := 1) (Or.inl ⟨2, rfl, rfl, d_Mo_reckon_49⟩) rfl (G_pc (pc' := 50) rfl ?_)
    refine G_bipush (n := 27) d_Mo_reckon_50 (by decide) (G_pc (pc' := 52) rfl ?_)
    refine G_icmp_eq (tgt := 67) d_Mo_reckon_52 (by decide) (fun h275 => ?_) (fun h275 => G_pc (pc' := 55) rfl ?_)
    · skip
      refine G_aload (i := 0) (n := 4) (len := 1) (Or.inl ⟨0, rfl, rfl, d_Mo_reckon_67⟩) rfl (by decide) (G_pc (pc' := 68) rfl ?_)
      refine G_iload (i := 1) (n := 5) (len := 1) (Or.inl ⟨1, rfl, rfl, d_Mo_reckon_68⟩) rfl (G_pc (pc' := 69) rfl ?_)
      refine G_iload (i := 2) (n := 3) (len := 1) (Or.inl ⟨2, rfl, rfl, d_Mo_reckon_69⟩) rfl (G_pc (pc' := 70) rfl ?_)
      refine G_bipush (n := 27) d_Mo_reckon_70 (by decide) (G_pc (pc' := 72) rfl ?_)
      refine G_icmp_ne (tgt := 82) d_Mo_reckon_72 (by decide) (fun h276 => ?_) (fun h276 => G_pc (pc' := 75) rfl ?_)
      · skip
        refine G_iload (i := 2) (n := 3) (len := 1) (Or.inl ⟨2, rfl, rfl, d_Mo_reckon_82⟩) rfl (G_pc (pc' := 83) rfl ?_)
        refine G_bipush (n := 29) d_Mo_reckon_83 (by decide) (G_pc (pc' := 85) rfl ?_)
        refine G_icmp_ne (tgt := 95) d_Mo_reckon_85 (by decide) (fun h277 => ?_) (fun h277 => G_pc (pc' := 88) rfl ?_)
        · skip
          refine G_lload (i := 3) (n := 2) (len := 1) (Or.inl ⟨3, rfl, rfl, d_Mo_reckon_95⟩) rfl (G_pc (pc' := 96) rfl ?_)
          refine G_lload (i := 5) (n := 1) (len := 2) (Or.inr ⟨rfl, d_Mo_reckon_96⟩) rfl (G_pc (pc' := 98) rfl ?_)
          refine G_lsub d_Mo_reckon_98 (G_pc (pc' := 99) rfl ?_)
          refine G_callV (K1 := KE) (d2 := 0) (o := 55) (cl := 9) (as := [vi n, vl (o_lsub (M 83 (M 77 n)) (M 83 (M 78 n)))]) (rest := []) d_Mo_reckon_99 mf_Mo_set ml_Mo_289 rfl rfl (by decide) rfl rfl (Nat.le_of_ble_eq_true rfl) (by omega) ⟨Nat.le_refl _, Nat.le_refl _⟩ (g_Mo_set (by omega) n (o_lsub (M 83 (M 77 n)) (M 83 (M 78 n))) _ (by omega)) (fun r278 M279 kq280 q280 => ?_)
          clear kq280; obtain ⟨q280a, q280b⟩ := q280; subst r278; subst M279
          refine G_ps (pc' := 102) (st' := []) rfl rfl ?_
          refine G_goto (tgt := 427) d_Mo_reckon_102 (by decide) ?_
          refine G_vret d_Mo_reckon_427 rfl rfl ?_
          refine ⟨rfl, ?_⟩; exact cmp_v (by unfold reckF; first | grind | grind [cmpB] | grind [needF])
        · skip
          refine G_lload (i := 3) (n := 2) (len := 1) (Or.inl ⟨3, rfl, rfl, d_Mo_reckon_88⟩) rfl (G_pc (pc' := 89) rfl ?_)
          refine G_lload (i := 5) (n := 1) (len := 2) (Or.inr ⟨rfl, d_Mo_reckon_89⟩) rfl (G_pc (pc' := 91) rfl ?_)
          refine G_lmul d_Mo_reckon_91 (G_pc (pc' := 92) rfl ?_)
          refine G_goto (tgt := 99) d_Mo_reckon_92 (by decide) ?_
          refine G_callV (K1 := KE) (d2 := 0) (o := 55) (cl := 9) (as := [vi n, vl (o_lmul (M 83 (M 77 n)) (M 83 (M 78 n)))]) (rest := []) d_Mo_reckon_99 mf_Mo_set ml_Mo_289 rfl rfl (by decide) rfl rfl (Nat.le_of_ble_eq_true rfl) (by omega) ⟨Nat.le_refl _, Nat.le_refl _⟩ (g_Mo_set (by omega) n (o_lmul (M 83 (M 77 n)) (M 83 (M 78 n))) _ (by omega)) (fun r281 M282 kq283 q283 => ?_)
          clear kq283; obtain ⟨q283a, q283b⟩ := q283; subst r281; subst M282
          refine G_ps (pc' := 102) (st' := []) rfl rfl ?_
          refine G_goto (tgt := 427) d_Mo_reckon_102 (by decide) ?_
          refine G_vret d_Mo_reckon_427 rfl rfl ?_
          refine ⟨rfl, ?_⟩; exact cmp_v (by unfold reckF; first | grind | grind [cmpB] | grind [needF])
      · skip
        refine G_lload (i := 3) (n := 2) (len := 1) (Or.inl ⟨3, rfl, rfl, d_Mo_reckon_75⟩) rfl (G_pc (pc' := 76) rfl ?_)
        refine G_lload (i := 5) (n := 1) (len := 2) (Or.inr ⟨rfl, d_Mo_reckon_76⟩) rfl (G_pc (pc' := 78) rfl ?_)
        refine G_ladd d_Mo_reckon_78 (G_pc (pc' := 79) rfl ?_)
        refine G_goto (tgt := 99) d_Mo_reckon_79 (by decide) ?_
        refine G_callV (K1 := KE) (d2 := 0) (o := 55) (cl := 9) (as := [vi n, vl (o_ladd (M 83 (M 77 n)) (M 83 (M 78 n)))]) (rest := []) d_Mo_reckon_99 mf_Mo_set ml_Mo_289 rfl rfl (by decide) rfl rfl (Nat.le_of_ble_eq_true rfl) (by omega) ⟨Nat.le_refl _, Nat.le_refl _⟩ (g_Mo_set (by omega) n (o_ladd (M 83 (M 77 n)) (M 83 (M 78 n))) _ (by omega)) (fun r284 M285 kq286 q286 => ?_)
        clear kq286; obtain ⟨q286a, q286b⟩ := q286; subst r284; subst M285
        refine G_ps (pc' := 102) (st' := []) rfl rfl ?_
        refine G_goto (tgt := 427) d_Mo_reckon_102 (by decide) ?_
        refine G_vret d_Mo_reckon_427 rfl rfl ?_
        refine ⟨rfl, ?_⟩; exact cmp_v (by unfold reckF; first | grind | grind [cmpB] | grind [needF])
    · skip
      refine G_iload (i := 2) (n := 3) (len := 1) (Or.inl ⟨2, rfl, rfl, d_Mo_reckon_55⟩) rfl (G_pc (pc' := 56) rfl ?_)
      refine G_bipush (n := 28) d_Mo_reckon_56 (by decide) (G_pc (pc' := 58) rfl ?_)
      refine G_icmp_eq (tgt := 67) d_Mo_reckon_58 (by decide) (fun h287 => ?_) (fun h287 => G_pc (pc' := 61) rfl ?_)
      · skip
        refine G_aload (i := 0) (n := 4) (len := 1) (Or.inl ⟨0, rfl, rfl, d_Mo_reckon_67⟩) rfl (by decide) (G_pc (pc' := 68) rfl ?_)
        refine G_iload (i := 1) (n := 5) (len := 1) (Or.inl ⟨1, rfl, rfl, d_Mo_reckon_68⟩) rfl (G_pc (pc' := 69) rfl ?_)
        refine G_iload (i := 2) (n := 3) (len := 1) (Or.inl ⟨2, rfl, rfl, d_Mo_reckon_69⟩) rfl (G_pc (pc' := 70) rfl ?_)
        refine G_bipush (n := 27) d_Mo_reckon_70 (by decide) (G_pc (pc' := 72) rfl ?_)
        refine G_icmp_ne (tgt := 82) d_Mo_reckon_72 (by decide) (fun h288 => ?_) (fun h288 => G_pc (pc' := 75) rfl ?_)
        · skip
          refine G_iload (i := 2) (n := 3) (len := 1) (Or.inl ⟨2, rfl, rfl, d_Mo_reckon_82⟩) rfl (G_pc (pc' := 83) rfl ?_)
          refine G_bipush (n := 29) d_Mo_reckon_83 (by decide) (G_pc (pc' := 85) rfl ?_)
          refine G_icmp_ne (tgt := 95) d_Mo_reckon_85 (by decide) (fun h289 => ?_) (fun h289 => G_pc (pc' := 88) rfl ?_)
          · skip
            refine G_lload (i := 3) (n := 2) (len := 1) (Or.inl ⟨3, rfl, rfl, d_Mo_reckon_95⟩) rfl (G_pc (pc' := 96) rfl ?_)
            refine G_lload (i := 5) (n := 1) (len := 2) (Or.inr ⟨rfl, d_Mo_reckon_96⟩) rfl (G_pc (pc' := 98) rfl ?_)
            refine G_lsub d_Mo_reckon_98 (G_pc (pc' := 99) rfl ?_)
            refine G_callV (K1 := KE) (d2 := 0) (o := 55) (cl := 9) (as := [vi n, vl (o_lsub (M 83 (M 77 n)) (M 83 (M 78 n)))]) (rest := []) d_Mo_reckon_99 mf_Mo_set ml_Mo_289 rfl rfl (by decide) rfl rfl (Nat.le_of_ble_eq_true rfl) (by omega) ⟨Nat.le_refl _, Nat.le_refl _⟩ (g_Mo_set (by omega) n (o_lsub (M 83 (M 77 n)) (M 83 (M 78 n))) _ (by omega)) (fun r290 M291 kq292 q292 => ?_)
            clear kq292; obtain ⟨q292a, q292b⟩ := q292; subst r290; subst M291
            refine G_ps (pc' := 102) (st' := []) rfl rfl ?_
            refine G_goto (tgt := 427) d_Mo_reckon_102 (by decide) ?_
            refine G_vret d_Mo_reckon_427 rfl rfl ?_
            refine ⟨rfl, ?_⟩; exact cmp_v (by unfold reckF; first | grind | grind [cmpB] | grind [needF])
          · skip
            refine G_lload (i := 3) (n := 2) (len := 1) (Or.inl ⟨3, rfl, rfl, d_Mo_reckon_88⟩) rfl (G_pc (pc' := 89) rfl ?_)
            refine G_lload (i := 5) (n := 1) (len := 2) (Or.inr ⟨rfl, d_Mo_reckon_89⟩) rfl (G_pc (pc' := 91) rfl ?_)
            refine G_lmul d_Mo_reckon_91 (G_pc (pc' := 92) rfl ?_)
            refine G_goto (tgt := 99) d_Mo_reckon_92 (by decide) ?_
            refine G_callV (K1 := KE) (d2 := 0) (o := 55) (cl := 9) (as := [vi n, vl (o_lmul (M 83 (M 77 n)) (M 83 (M 78 n)))]) (rest := []) d_Mo_reckon_99 mf_Mo_set ml_Mo_289 rfl rfl (by decide) rfl rfl (Nat.le_of_ble_eq_true rfl) (by omega) ⟨Nat.le_refl _, Nat.le_refl _⟩ (g_Mo_set (by omega) n (o_lmul (M 83 (M 77 n)) (M 83 (M 78 n))) _ (by omega)) (fun r293 M294 kq295 q295 => ?_)
            clear kq295; obtain ⟨q295a, q295b⟩ := q295; subst r293; subst M294
            refine G_ps (pc' := 102) (st' := []) rfl rfl ?_
            refine G_goto (tgt := 427) d_Mo_reckon_102 (by decide) ?_
            refine G_vret d_Mo_reckon_427 rfl rfl ?_
            refine ⟨rfl, ?_⟩; exact cmp_v (by unfold reckF; first | grind | grind [cmpB] | grind [needF])
        · skip
          refine G_lload (i := 3) (n := 2) (len := 1) (Or.inl ⟨3, rfl, rfl, d_Mo_reckon_75⟩) rfl (G_pc (pc' := 76) rfl ?_)
          refine G_lload (i := 5) (n := 1) (len := 2) (Or.inr ⟨rfl, d_Mo_reckon_76⟩) rfl (G_pc (pc' := 78) rfl ?_)
          refine G_ladd d_Mo_reckon_78 (G_pc (pc' := 79) rfl ?_)
          refine G_goto (tgt := 99) d_Mo_reckon_79 (by decide) ?_
          refine G_callV (K1 := KE) (d2 := 0) (o := 55) (cl := 9) (as := [vi n, vl (o_ladd (M 83 (M 77 n)) (M 83 (M 78 n)))]) (rest := []) d_Mo_reckon_99 mf_Mo_set ml_Mo_289 rfl rfl (by decide) rfl rfl (Nat.le_of_ble_eq_true rfl) (by omega) ⟨Nat.le_refl _, Nat.le_refl _⟩ (g_Mo_set (by omega) n (o_ladd (M 83 (M 77 n)) (M 83 (M 78 n))) _ (by omega)) (fun r296 M297 kq298 q298 => ?_)
          clear kq298; obtain ⟨q298a, q298b⟩ := q298; subst r296; subst M297
          refine G_ps (pc' := 102) (st' := []) rfl rfl ?_
          refine G_goto (tgt := 427) d_Mo_reckon_102 (by decide) ?_
          refine G_vret d_Mo_reckon_427 rfl rfl ?_
          refine ⟨rfl, ?_⟩; exact cmp_v (by unfold reckF; first | grind | grind [cmpB] | grind [needF])
      · skip
        refine G_iload (i := 2) (n := 3) (len := 1) (Or.inl ⟨2, rfl, rfl, d_Mo_reckon_61⟩) rfl (G_pc (pc' := 62) rfl ?_)
        refine G_bipush (n := 29) d_Mo_reckon_62 (by decide) (G_pc (pc' := 64) rfl ?_)
        refine G_icmp_ne (tgt := 105) d_Mo_reckon_64 (by decide) (fun h299 => ?_) (fun h299 => G_pc (pc' := 67) rfl ?_)
        · skip
          refine G_iload (i := 2) (n := 3) (len := 1) (Or.inl ⟨2, rfl, rfl, d_Mo_reckon_105⟩) rfl (G_pc (pc' := 106) rfl ?_)
          refine G_bipush (n := 30) d_Mo_reckon_106 (by decide) (G_pc (pc' := 108) rfl ?_)
          refine G_icmp_eq (tgt := 117) d_Mo_reckon_108 (by decide) (fun h300 => ?_) (fun h300 => G_pc (pc' := 111) rfl ?_)
          · skip
            refine G_lload (i := 5) (n := 1) (len := 2) (Or.inr ⟨rfl, d_Mo_reckon_117⟩) rfl (G_pc (pc' := 119) rfl ?_)
            refine G_lconst0 d_Mo_reckon_119 (G_pc (pc' := 120) rfl ?_)
            refine G_lcmp_ne (tgt := 132) d_Mo_reckon_120 d_Mo_reckon_121 (by decide) (fun h301 => ?_) (fun h301 => G_pc (pc' := 124) rfl ?_)
            · skip
              refine G_aload (i := 0) (n := 4) (len := 1) (Or.inl ⟨0, rfl, rfl, d_Mo_reckon_132⟩) rfl (by decide) (G_pc (pc' := 133) rfl ?_)
              refine G_iload (i := 1) (n := 5) (len := 1) (Or.inl ⟨1, rfl, rfl, d_Mo_reckon_133⟩) rfl (G_pc (pc' := 134) rfl ?_)
              refine G_iload (i := 2) (n := 3) (len := 1) (Or.inl ⟨2, rfl, rfl, d_Mo_reckon_134⟩) rfl (G_pc (pc' := 135) rfl ?_)
              refine G_bipush (n := 30) d_Mo_reckon_135 (by decide) (G_pc (pc' := 137) rfl ?_)
              refine G_icmp_ne (tgt := 147) d_Mo_reckon_137 (by decide) (fun h302 => ?_) (fun h302 => G_pc (pc' := 140) rfl ?_)
              · skip
                refine G_lload (i := 3) (n := 2) (len := 1) (Or.inl ⟨3, rfl, rfl, d_Mo_reckon_147⟩) rfl (G_pc (pc' := 148) rfl ?_)
                refine G_lload (i := 5) (n := 1) (len := 2) (Or.inr ⟨rfl, d_Mo_reckon_148⟩) rfl (G_pc (pc' := 150) rfl ?_)
                refine G_lrem d_Mo_reckon_150 (by omega) (G_pc (pc' := 151) rfl ?_)
                refine G_callV (K1 := KE) (d2 := 0) (o := 55) (cl := 9) (as := [vi n, vl (o_lrem (M 83 (M 77 n)) (M 83 (M 78 n)))]) (rest := []) d_Mo_reckon_151 mf_Mo_set ml_Mo_289 rfl rfl (by decide) rfl rfl (Nat.le_of_ble_eq_true rfl) (by omega) ⟨Nat.le_refl _, Nat.le_refl _⟩ (g_Mo_set (by omega) n (o_lrem (M 83 (M 77 n)) (M 83 (M 78 n))) _ (by omega)) (fun r303 M304 kq305 q305 => ?_)
                clear kq305; obtain ⟨q305a, q305b⟩ := q305; subst r303; subst M304
                refine G_ps (pc' := 154) (st' := []) rfl rfl ?_
                refine G_goto (tgt := 427) d_Mo_reckon_154 (by decide) ?_
                refine G_vret d_Mo_reckon_427 rfl rfl ?_
                refine ⟨rfl, ?_⟩; exact cmp_v (by unfold reckF; first | grind | grind [cmpB] | grind [needF])
              · skip
                refine G_lload (i := 3) (n := 2) (len := 1) (Or.inl ⟨3, rfl, rfl, d_Mo_reckon_140⟩) rfl (G_pc (pc' := 141) rfl ?_)
                refine G_lload (i := 5) (n := 1) (len := 2) (Or.inr ⟨rfl, d_Mo_reckon_141⟩) rfl (G_pc (pc' := 143) rfl ?_)
                refine G_ldiv d_Mo_reckon_143 (by omega) (G_pc (pc' := 144) rfl ?_)
                refine G_goto (tgt := 151) d_Mo_reckon_144 (by decide) ?_
                refine G_callV (K1 := KE) (d2 := 0) (o := 55) (cl := 9) (as := [vi n, vl (o_ldiv (M 83 (M 77 n)) (M 83 (M 78 n)))]) (rest := []) d_Mo_reckon_151 mf_Mo_set ml_Mo_289 rfl rfl (by decide) rfl rfl (Nat.le_of_ble_eq_true rfl) (by omega) ⟨Nat.le_refl _, Nat.le_refl _⟩ (g_Mo_set (by omega) n (o_ldiv (M 83 (M 77 n)) (M 83 (M 78 n))) _ (by omega)) (fun r306 M307 kq308 q308 => ?_)
                clear kq308; obtain ⟨q308a, q308b⟩ := q308; subst r306; subst M307
                refine G_ps (pc' := 154) (st' := []) rfl rfl ?_
                refine G_goto (tgt := 427) d_Mo_reckon_154 (by decide) ?_
                refine G_vret d_Mo_reckon_427 rfl rfl ?_
                refine ⟨rfl, ?_⟩; exact cmp_v (by unfold reckF; first | grind | grind [cmpB] | grind [needF])
            · skip
              refine G_aload (i := 0) (n := 4) (len := 1) (Or.inl ⟨0, rfl, rfl, d_Mo_reckon_124⟩) rfl (by decide) (G_pc (pc' := 125) rfl ?_)
              refine G_iconst (n := 1) d_Mo_reckon_125 (by decide) (G_pc (pc' := 126) rfl ?_)
              refine G_putL (o := 55) (c := 9) (k := 46) (ki := 46) (x := 1) d_Mo_reckon_126 fl_Mo_280 rfl rfl (by decide) (by decide) (by decide) rfl rfl (tokI (by decide)) rfl (G_pc (pc' := 129) rfl ?_)
              refine G_goto (tgt := 427) d_Mo_reckon_129 (by decide) ?_
              refine G_vret d_Mo_reckon_427 rfl rfl ?_
              refine ⟨rfl, ?_⟩; exact cmp_t (by unfold reckF; first | grind | grind [cmpB] | grind [needF]) (by decide)
          · skip
            refine G_iload (i := 2) (n := 3) (len := 1) (Or.inl ⟨2, rfl, rfl, d_Mo_reckon_111⟩) rfl (G_pc (pc' := 112) rfl ?_)
            refine G_bipush (n := 31) d_Mo_reckon_112 (by decide) (G_pc (pc' := 114) rfl ?_)
            refine G_icmp_ne (tgt := 157) d_Mo_reckon_114 (by decide) (fun h309 => ?_) (fun h309 => G_pc (pc' := 117) rfl ?_)
            · skip
              refine G_iload (i := 2) (n := 3) (len := 1) (Or.inl ⟨2, rfl, rfl, d_Mo_reckon_157⟩) rfl (G_pc (pc' := 158) rfl ?_)
              refine G_bipush (n := 38) d_Mo_reckon_158 (by decide) (G_pc (pc' := 160) rfl ?_)
              refine G_icmp_lt (tgt := 239) d_Mo_reckon_160 (by decide) (fun h310 => ?_) (fun h310 => G_pc (pc' := 163) rfl ?_)
              · skip
                refine G_iload (i := 2) (n := 3) (len := 1) (Or.inl ⟨2, rfl, rfl, d_Mo_reckon_239⟩) rfl (G_pc (pc' := 240) rfl ?_)
                refine G_bipush (n := 43) d_Mo_reckon_240 (by decide) (G_pc (pc' := 242) rfl ?_)
                refine G_icmp_eq (tgt := 257) d_Mo_reckon_242 (by decide) (fun h311 => ?_) (fun h311 => G_pc (pc' := 245) rfl ?_)
                · skip
                  refine G_aload (i := 0) (n := 4) (len := 1) (Or.inl ⟨0, rfl, rfl, d_Mo_reckon_257⟩) rfl (by decide) (G_pc (pc' := 258) rfl ?_)
                  refine G_iload (i := 1) (n := 5) (len := 1) (Or.inl ⟨1, rfl, rfl, d_Mo_reckon_258⟩) rfl (G_pc (pc' := 259) rfl ?_)
                  refine G_iload (i := 2) (n := 3) (len := 1) (Or.inl ⟨2, rfl, rfl, d_Mo_reckon_259⟩) rfl (G_pc (pc' := 260) rfl ?_)
                  refine G_bipush (n := 43) d_Mo_reckon_260 (by decide) (G_pc (pc' := 262) rfl ?_)
                  refine G_icmp_ne (tgt := 272) d_Mo_reckon_262 (by decide) (fun h312 => ?_) (fun h312 => G_pc (pc' := 265) rfl ?_)
                  · skip
                    refine G_iload (i := 2) (n := 3) (len := 1) (Or.inl ⟨2, rfl, rfl, d_Mo_reckon_272⟩) rfl (G_pc (pc' := 273) rfl ?_)
                    refine G_bipush (n := 45) d_Mo_reckon_273 (by decide) (G_pc (pc' := 275) rfl ?_)
                    refine G_icmp_ne (tgt := 285) d_Mo_reckon_275 (by decide) (fun h313 => ?_) (fun h313 => G_pc (pc' := 278) rfl ?_)
                    · skip
                      refine G_lload (i := 3) (n := 2) (len := 1) (Or.inl ⟨3, rfl, rfl, d_Mo_reckon_285⟩) rfl (G_pc (pc' := 286) rfl ?_)
                      refine G_lload (i := 5) (n := 1) (len := 2) (Or.inr ⟨rfl, d_Mo_reckon_286⟩) rfl (G_pc (pc' := 288) rfl ?_)
                      refine G_lxor d_Mo_reckon_288 (G_pc (pc' := 289) rfl ?_)
                      refine G_callV (K1 := KE) (d2 := 0) (o := 55) (cl := 9) (as := [vi n, vl (o_lxor (M 83 (M 77 n)) (M 83 (M 78 n)))]) (rest := []) d_Mo_reckon_289 mf_Mo_set ml_Mo_289 rfl rfl (by decide) rfl rfl (Nat.le_of_ble_eq_true rfl) (by omega) ⟨Nat.le_refl _, Nat.le_refl _⟩ (g_Mo_set (by omega) n (o_lxor (M 83 (M 77 n)) (M 83 (M 78 n))) _ (by omega)) (fun r314 M315 kq316 q316 => ?_)
                      clear kq316; obtain ⟨q316a, q316b⟩ := q316; subst r314; subst M315
                      refine G_ps (pc' := 292) (st' := []) rfl rfl ?_
                      refine G_goto (tgt := 427) d_Mo_reckon_292 (by decide) ?_
                      refine G_vret d_Mo_reckon_427 rfl rfl ?_
                      refine ⟨rfl, ?_⟩; exact cmp_v (by unfold reckF; first | grind | grind [cmpB] | grind [needF])
                    · skip
                      refine G_lload (i := 3) (n := 2) (len := 1) (Or.inl ⟨3, rfl, rfl, d_Mo_reckon_278⟩) rfl (G_pc (pc' := 279) rfl ?_)
                      refine G_lload (i := 5) (n := 1) (len := 2) (Or.inr ⟨rfl, d_Mo_reckon_279⟩) rfl (G_pc (pc' := 281) rfl ?_)
                      refine G_lor d_Mo_reckon_281 (G_pc (pc' := 282) rfl ?_)
                      refine G_goto (tgt := 289) d_Mo_reckon_282 (by decide) ?_
                      refine G_callV (K1 := KE) (d2 := 0) (o := 55) (cl := 9) (as := [vi n, vl (o_lor (M 83 (M 77 n)) (M 83 (M 78 n)))]) (rest := []) d_Mo_reckon_289 mf_Mo_set ml_Mo_289 rfl rfl (by decide) rfl rfl (Nat.le_of_ble_eq_true rfl) (by omega) ⟨Nat.le_refl _, Nat.le_refl _⟩ (g_Mo_set (by omega) n (o_lor (M 83 (M 77 n)) (M 83 (M 78 n))) _ (by omega)) (fun r317 M318 kq319 q319 => ?_)
                      clear kq319; obtain ⟨q319a, q319b⟩ := q319; subst r317; subst M318
                      refine G_ps (pc' := 292) (st' := []) rfl rfl ?_
                      refine G_goto (tgt := 427) d_Mo_reckon_292 (by decide) ?_
                      refine G_vret d_Mo_reckon_427 rfl rfl ?_
                      refine ⟨rfl, ?_⟩; exact cmp_v (by unfold reckF; first | grind | grind [cmpB] | grind [needF])
                  · skip
                    refine G_lload (i := 3) (n := 2) (len := 1) (Or.inl ⟨3, rfl, rfl, d_Mo_reckon_265⟩) rfl (G_pc (pc' := 266) rfl ?_)
                    refine G_lload (i := 5) (n := 1) (len := 2) (Or.inr ⟨rfl, d_Mo_reckon_266⟩) rfl (G_pc (pc' := 268) rfl ?_)
                    refine G_land d_Mo_reckon_268 (G_pc (pc' := 269) rfl ?_)
                    refine G_goto (tgt := 289) d_Mo_reckon_269 (by decide) ?_
                    refine G_callV (K1 := KE) (d2 := 0) (o := 55) (cl := 9) (as := [vi n, vl (o_land (M 83 (M 77 n)) (M 83 (M 78 n)))]) (rest := []) d_Mo_reckon_289 mf_Mo_set ml_Mo_289 rfl rfl (by decide) rfl rfl (Nat.le_of_ble_eq_true rfl) (by omega) ⟨Nat.le_refl _, Nat.le_refl _⟩ (g_Mo_set (by omega) n (o_land (M 83 (M 77 n)) (M 83 (M 78 n))) _ (by omega)) (fun r320 M321 kq322 q322 => ?_)
                    clear kq322; obtain ⟨q322a, q322b⟩ := q322; subst r320; subst M321
                    refine G_ps (pc' := 292) (st' := []) rfl rfl ?_
                    refine G_goto (tgt := 427) d_Mo_reckon_292 (by decide) ?_
                    refine G_vret d_Mo_reckon_427 rfl rfl ?_
                    refine ⟨rfl, ?_⟩; exact cmp_v (by unfold reckF; first | grind | grind [cmpB] | grind [needF])
                · skip
                  refine G_iload (i := 2) (n := 3) (len := 1) (Or.inl ⟨2, rfl, rfl, d_Mo_reckon_245⟩) rfl (G_pc (pc' := 246) rfl ?_)
                  refine G_bipush (n := 45) d_Mo_reckon_246 (by decide) (G_pc (pc' := 248) rfl ?_)
                  refine G_icmp_eq (tgt := 257) d_Mo_reckon_248 (by decide) (fun h323 => ?_) (fun h323 => G_pc (pc' := 251) rfl ?_)
                  · skip
                    refine G_aload (i := 0) (n := 4) (len := 1) (Or.inl ⟨0, rfl, rfl, d_Mo_reckon_257⟩) rfl (by decide) (G_pc (pc' := 258) rfl ?_)
                    refine G_iload (i := 1) (n := 5) (len := 1) (Or.inl ⟨1, rfl, rfl, d_Mo_reckon_258⟩) rfl (G_pc (pc' := 259) rfl ?_)
                    refine G_iload (i := 2) (n := 3) (len := 1) (Or.inl ⟨2, rfl, rfl, d_Mo_reckon_259⟩) rfl (G_pc (pc' := 260) rfl ?_)
                    refine G_bipush (n := 43) d_Mo_reckon_260 (by decide) (G_pc (pc' := 262) rfl ?_)
                    refine G_icmp_ne (tgt := 272) d_Mo_reckon_262 (by decide) (fun h324 => ?_) (fun h324 => G_pc (pc' := 265) rfl ?_)
                    · skip
                      refine G_iload (i := 2) (n := 3) (len := 1) (Or.inl ⟨2, rfl, rfl, d_Mo_reckon_272⟩) rfl (G_pc (pc' := 273) rfl ?_)
                      refine G_bipush (n := 45) d_Mo_reckon_273 (by decide) (G_pc (pc' := 275) rfl ?_)
                      refine G_icmp_ne (tgt := 285) d_Mo_reckon_275 (by decide) (fun h325 => ?_) (fun h325 => G_pc (pc' := 278) rfl ?_)
                      · skip
                        refine G_lload (i := 3) (n := 2) (len := 1) (Or.inl ⟨3, rfl, rfl, d_Mo_reckon_285⟩) rfl (G_pc (pc' := 286) rfl ?_)
                        refine G_lload (i := 5) (n := 1) (len := 2) (Or.inr ⟨rfl, d_Mo_reckon_286⟩) rfl (G_pc (pc' := 288) rfl ?_)
                        refine G_lxor d_Mo_reckon_288 (G_pc (pc' := 289) rfl ?_)
                        refine G_callV (K1 := KE) (d2 := 0) (o := 55) (cl := 9) (as := [vi n, vl (o_lxor (M 83 (M 77 n)) (M 83 (M 78 n)))]) (rest := []) d_Mo_reckon_289 mf_Mo_set ml_Mo_289 rfl rfl (by decide) rfl rfl (Nat.le_of_ble_eq_true rfl) (by omega) ⟨Nat.le_refl _, Nat.le_refl _⟩ (g_Mo_set (by omega) n (o_lxor (M 83 (M 77 n)) (M 83 (M 78 n))) _ (by omega)) (fun r326 M327 kq328 q328 => ?_)
                        clear kq328; obtain ⟨q328a, q328b⟩ := q328; subst r326; subst M327
                        refine G_ps (pc' := 292) (st' := []) rfl rfl ?_
                        refine G_goto (tgt := 427) d_Mo_reckon_292 (by decide) ?_
                        refine G_vret d_Mo_reckon_427 rfl rfl ?_
                        refine ⟨rfl, ?_⟩; exact cmp_v (by unfold reckF; first | grind | grind [cmpB] | grind [needF])
                      · skip
                        refine G_lload (i := 3) (n := 2) (len := 1) (Or.inl ⟨3, rfl, rfl, d_Mo_reckon_278⟩) rfl (G_pc (pc' := 279) rfl ?_)
                        refine G_lload (i := 5) (n := 1) (len := 2) (Or.inr ⟨rfl, d_Mo_reckon_279⟩) rfl (G_pc (pc' := 281) rfl ?_)
                        refine G_lor d_Mo_reckon_281 (G_pc (pc' := 282) rfl ?_)
                        refine G_goto (tgt := 289) d_Mo_reckon_282 (by decide) ?_
                        refine G_callV (K1 := KE) (d2 := 0) (o := 55) (cl := 9) (as := [vi n, vl (o_lor (M 83 (M 77 n)) (M 83 (M 78 n)))]) (rest := []) d_Mo_reckon_289 mf_Mo_set ml_Mo_289 rfl rfl (by decide) rfl rfl (Nat.le_of_ble_eq_true rfl) (by omega) ⟨Nat.le_refl _, Nat.le_refl _⟩ (g_Mo_set (by omega) n (o_lor (M 83 (M 77 n)) (M 83 (M 78 n))) _ (by omega)) (fun r329 M330 kq331 q331 => ?_)
                        clear kq331; obtain ⟨q331a, q331b⟩ := q331; subst r329; subst M330
                        refine G_ps (pc' := 292) (st' := []) rfl rfl ?_
                        refine G_goto (tgt := 427) d_Mo_reckon_292 (by decide) ?_
                        refine G_vret d_Mo_reckon_427 rfl rfl ?_
                        refine ⟨rfl, ?_⟩; exact cmp_v (by unfold reckF; first | grind | grind [cmpB] | grind [needF])
                    · skip
                      refine G_lload (i := 3) (n := 2) (len := 1) (Or.inl ⟨3, rfl, rfl, d_Mo_reckon_265⟩) rfl (G_pc (pc' := 266) rfl ?_)
                      refine G_lload (i := 5) (n := 1) (len := 2) (Or.inr ⟨rfl, d_Mo_reckon_266⟩) rfl (G_pc (pc' := 268) rfl ?_)
                      refine G_land d_Mo_reckon_268 (G_pc (pc' := 269) rfl ?_)
                      refine G_goto (tgt := 289) d_Mo_reckon_269 (by decide) ?_
                      refine G_callV (K1 := KE) (d2 := 0) (o := 55) (cl := 9) (as := [vi n, vl (o_land (M 83 (M 77 n)) (M 83 (M 78 n)))]) (rest := []) d_Mo_reckon_289 mf_Mo_set ml_Mo_289 rfl rfl (by decide) rfl rfl (Nat.le_of_ble_eq_true rfl) (by omega) ⟨Nat.le_refl _, Nat.le_refl _⟩ (g_Mo_set (by omega) n (o_land (M 83 (M 77 n)) (M 83 (M 78 n))) _ (by omega)) (fun r332 M333 kq334 q334 => ?_)
                      clear kq334; obtain ⟨q334a, q334b⟩ := q334; subst r332; subst M333
                      refine G_ps (pc' := 292) (st' := []) rfl rfl ?_
                      refine G_goto (tgt := 427) d_Mo_reckon_292 (by decide) ?_
                      refine G_vret d_Mo_reckon_427 rfl rfl ?_
                      refine ⟨rfl, ?_⟩; exact cmp_v (by unfold reckF; first | grind | grind [cmpB] | grind [needF])
                  · skip
                    refine G_iload (i := 2) (n := 3) (len := 1) (Or.inl ⟨2, rfl, rfl, d_Mo_reckon_251⟩) rfl (G_pc (pc' := 252) rfl ?_)
                    refine G_bipush (n := 47) d_Mo_reckon_252 (by decide) (G_pc (pc' := 254) rfl ?_)
                    refine G_icmp_ne (tgt := 295) d_Mo_reckon_254 (by decide) (fun h335 => ?_) (fun h335 => G_pc (pc' := 257) rfl ?_)
                    · skip
                      refine G_iload (i := 2) (n := 3) (len := 1) (Or.inl ⟨2, rfl, rfl, d_Mo_reckon_295⟩) rfl (G_pc (pc' := 296) rfl ?_)
                      refine G_bipush (n := 34) d_Mo_reckon_296 (by decide) (G_pc (pc' := 298) rfl ?_)
                      refine G_icmp_ne (tgt := 316) d_Mo_reckon_298 (by decide) (fun h336 => ?_) (fun h336 => G_pc (pc' := 301) rfl ?_)
                      · skip
                        refine G_iload (i := 2) (n := 3) (len := 1) (Or.inl ⟨2, rfl, rfl, d_Mo_reckon_316⟩) rfl (G_pc (pc' := 317) rfl ?_)
                        refine G_bipush (n := 35) d_Mo_reckon_317 (by decide) (G_pc (pc' := 319) rfl ?_)
                        refine G_icmp_ne (tgt := 337) d_Mo_reckon_319 (by decide) (fun h337 => ?_) (fun h337 => G_pc (pc' := 322) rfl ?_)
                        · skip
                          refine G_iload (i := 2) (n := 3) (len := 1) (Or.inl ⟨2, rfl, rfl, d_Mo_reckon_337⟩) rfl (G_pc (pc' := 338) rfl ?_)
                          refine G_bipush (n := 36) d_Mo_reckon_338 (by decide) (G_pc (pc' := 340) rfl ?_)
                          refine G_icmp_ne (tgt := 358) d_Mo_reckon_340 (by decide) (fun h338 => ?_) (fun h338 => G_pc (pc' := 343) rfl ?_)
                          · skip
                            refine G_iload (i := 2) (n := 3) (len := 1) (Or.inl ⟨2, rfl, rfl, d_Mo_reckon_358⟩) rfl (G_pc (pc' := 359) rfl ?_)
                            refine G_bipush (n := 37) d_Mo_reckon_359 (by decide) (G_pc (pc' := 361) rfl ?_)
                            refine G_icmp_ne (tgt := 379) d_Mo_reckon_361 (by decide) (fun h339 => ?_) (fun h339 => G_pc (pc' := 364) rfl ?_)
                            · skip
                              refine G_iload (i := 2) (n := 3) (len := 1) (Or.inl ⟨2, rfl, rfl, d_Mo_reckon_379⟩) rfl (G_pc (pc' := 380) rfl ?_)
                              refine G_bipush (n := 41) d_Mo_reckon_380 (by decide) (G_pc (pc' := 382) rfl ?_)
                              refine G_icmp_ne (tgt := 389) d_Mo_reckon_382 (by decide) (fun h340 => ?_) (fun h340 => G_pc (pc' := 385) rfl ?_)
                              · skip
                                refine G_iconst (n := 0) d_Mo_reckon_389 (by decide) (G_pc (pc' := 390) rfl ?_)
                                refine G_lload (i := 3) (n := 2) (len := 1) (Or.inl ⟨3, rfl, rfl, d_Mo_reckon_390⟩) rfl (G_pc (pc' := 391) rfl ?_)
                                refine G_lload (i := 5) (n := 1) (len := 2) (Or.inr ⟨rfl, d_Mo_reckon_391⟩) rfl (G_pc (pc' := 393) rfl ?_)
                                refine G_lcmp_ne (tgt := 401) d_Mo_reckon_393 d_Mo_reckon_394 (by decide) (fun h341 => ?_) (fun h341 => G_pc (pc' := 397) rfl ?_)
                                · skip
                                  refine G_iconst (n := 0) d_Mo_reckon_401 (by decide) (G_pc (pc' := 402) rfl ?_)
                                  refine G_icmp_ne (tgt := 409) d_Mo_reckon_402 (by decide) (fun h342 => absurd h342 (by decide)) (fun h342 => G_pc (pc' := 405) rfl ?_)
                                  refine G_iconst (n := 1) d_Mo_reckon_405 (by decide) (G_pc (pc' := 406) rfl ?_)
                                  refine G_goto (tgt := 410) d_Mo_reckon_406 (by decide) ?_
                                  refine G_istore (i := 8) (len := 2) (ls' := [(8, vi 1), (7, vi 1), (5, vl (M 83 (M 78 n))), (3, vl (M 83 (M 77 n))), (2, vi (M 76 n)), (0, vr 55), (1, vi n)]) (Or.inr ⟨rfl, d_Mo_reckon_410⟩) (by decide) rfl (G_pc (pc' := 412) rfl ?_)
                                  refine G_aload (i := 0) (n := 5) (len := 1) (Or.inl ⟨0, rfl, rfl, d_Mo_reckon_412⟩) rfl (by decide) (G_pc (pc' := 413) rfl ?_)
                                  refine G_iload (i := 1) (n := 6) (len := 1) (Or.inl ⟨1, rfl, rfl, d_Mo_reckon_413⟩) rfl (G_pc (pc' := 414) rfl ?_)
                                  refine G_iload (i := 8) (n := 0) (len := 2) (Or.inr ⟨rfl, d_Mo_reckon_414⟩) rfl (G_pc (pc' := 416) rfl ?_)
                                  refine G_if_eq (tgt := 423) d_Mo_reckon_416 (by decide) (fun h343 => absurd h343 (by decide)) (fun h343 => G_pc (pc' := 419) rfl ?_)
                                  refine G_lconst1 d_Mo_reckon_419 (G_pc (pc' := 420) rfl ?_)
                                  refine G_goto (tgt := 424) d_Mo_reckon_420 (by decide) ?_
                                  refine G_callV (K1 := KE) (d2 := 0) (o := 55) (cl := 9) (as := [vi n, vl 1]) (rest := []) d_Mo_reckon_424 mf_Mo_set ml_Mo_289 rfl rfl (by decide) rfl rfl (Nat.le_of_ble_eq_true rfl) (by omega) ⟨Nat.le_refl _, Nat.le_refl _⟩ (g_Mo_set (by omega) n 1 _ (by omega)) (fun r344 M345 kq346 q346 => ?_)
                                  clear kq346; obtain ⟨q346a, q346b⟩ := q346; subst r344; subst M345
                                  refine G_ps (pc' := 427) (st' := []) rfl rfl ?_
                                  refine G_vret d_Mo_reckon_427 rfl rfl ?_
                                  refine ⟨rfl, ?_⟩; exact cmp_v (by unfold reckF; first | grind | grind [cmpB] | grind [needF])
                                · skip
                                  refine G_iconst (n := 1) d_Mo_reckon_397 (by decide) (G_pc (pc' := 398) rfl ?_)
                                  refine G_goto (tgt := 402) d_Mo_reckon_398 (by decide) ?_
                                  refine G_icmp_ne (tgt := 409) d_Mo_reckon_402 (by decide) (fun h347 => ?_) (fun h347 => absurd h347 (by decide))
                                  refine G_iconst (n := 0) d_Mo_reckon_409 (by decide) (G_pc (pc' := 410) rfl ?_)
                                  refine G_istore (i := 8) (len := 2) (ls' := [(8, vi 0), (7, vi 1), (5, vl (M 83 (M 78 n))), (3, vl (M 83 (M 77 n))), (2, vi (M 76 n)), (0, vr 55), (1, vi n)]) (Or.inr ⟨rfl, d_Mo_reckon_410⟩) (by decide) rfl (G_pc (pc' := 412) rfl ?_)
                                  refine G_aload (i := 0) (n := 5) (len := 1) (Or.inl ⟨0, rfl, rfl, d_Mo_reckon_412⟩) rfl (by decide) (G_pc (pc' := 413) rfl ?_)
                                  refine G_iload (i := 1) (n := 6) (len := 1) (Or.inl ⟨1, rfl, rfl, d_Mo_reckon_413⟩) rfl (G_pc (pc' := 414) rfl ?_)
                                  refine G_iload (i := 8) (n := 0) (len := 2) (Or.inr ⟨rfl, d_Mo_reckon_414⟩) rfl (G_pc (pc' := 416) rfl ?_)
                                  refine G_if_eq (tgt := 423) d_Mo_reckon_416 (by decide) (fun h348 => ?_) (fun h348 => absurd h348 (by decide))
                                  refine G_lconst0 d_Mo_reckon_423 (G_pc (pc' := 424) rfl ?_)
                                  refine G_callV (K1 := KE) (d2 := 0) (o := 55) (cl := 9) (as := [vi n, vl 0]) (rest := []) d_Mo_reckon_424 mf_Mo_set ml_Mo_289 rfl rfl (by decide) rfl rfl (Nat.le_of_ble_eq_true rfl) (by omega) ⟨Nat.le_refl _, Nat.le_refl _⟩ (g_Mo_set (by omega) n 0 _ (by omega)) (fun r349 M350 kq351 q351 => ?_)
                                  clear kq351; obtain ⟨q351a, q351b⟩ := q351; subst r349; subst M350
                                  refine G_ps (pc' := 427) (st' := []) rfl rfl ?_
                                  refine G_vret d_Mo_reckon_427 rfl rfl ?_
                                  refine ⟨rfl, ?_⟩; exact cmp_v (by unfold reckF; first | grind | grind [cmpB] | grind [needF])
                              · skip
                                refine G_iconst (n := 1) d_Mo_reckon_385 (by decide) (G_pc (pc' := 386) rfl ?_)
                                refine G_goto (tgt := 390) d_Mo_reckon_386 (by decide) ?_
                                refine G_lload (i := 3) (n := 2) (len := 1) (Or.inl ⟨3, rfl, rfl, d_Mo_reckon_390⟩) rfl (G_pc (pc' := 391) rfl ?_)
                                refine G_lload (i := 5) (n := 1) (len := 2) (Or.inr ⟨rfl, d_Mo_reckon_391⟩) rfl (G_pc (pc' := 393) rfl ?_)
                                refine G_lcmp_ne (tgt := 401) d_Mo_reckon_393 d_Mo_reckon_394 (by decide) (fun h352 => ?_) (fun h352 => G_pc (pc' := 397) rfl ?_)
                                · skip
                                  refine G_iconst (n := 0) d_Mo_reckon_401 (by decide) (G_pc (pc' := 402) rfl ?_)
                                  refine G_icmp_ne (tgt := 409) d_Mo_reckon_402 (by decide) (fun h353 => ?_) (fun h353 => absurd h353 (by decide))
                                  refine G_iconst (n := 0) d_Mo_reckon_409 (by decide) (G_pc (pc' := 410) rfl ?_)
                                  refine G_istore (i := 8) (len := 2) (ls' := [(8, vi 0), (7, vi 1), (5, vl (M 83 (M 78 n))), (3, vl (M 83 (M 77 n))), (2, vi (M 76 n)), (0, vr 55), (1, vi n)]) (Or.inr ⟨rfl, d_Mo_reckon_410⟩) (by decide) rfl (G_pc (pc' := 412) rfl ?_)
                                  refine G_aload (i := 0) (n := 5) (len := 1) (Or.inl ⟨0, rfl, rfl, d_Mo_reckon_412⟩) rfl (by decide) (G_pc (pc' := 413) rfl ?_)
                                  refine G_iload (i := 1) (n := 6) (len := 1) (Or.inl ⟨1, rfl, rfl, d_Mo_reckon_413⟩) rfl (G_pc (pc' := 414) rfl ?_)
                                  refine G_iload (i := 8) (n := 0) (len := 2) (Or.inr ⟨rfl, d_Mo_reckon_414⟩) rfl (G_pc (pc' := 416) rfl ?_)
                                  refine G_if_eq (tgt := 423) d_Mo_reckon_416 (by decide) (fun h354 => ?_) (fun h354 => absurd h354 (by decide))
                                  refine G_lconst0 d_Mo_reckon_423 (G_pc (pc' := 424) rfl ?_)
                                  refine G_callV (K1 := KE) (d2 := 0) (o := 55) (cl := 9) (as := [vi n, vl 0]) (rest := []) d_Mo_reckon_424 mf_Mo_set ml_Mo_289 rfl rfl (by decide) rfl rfl (Nat.le_of_ble_eq_true rfl) (by omega) ⟨Nat.le_refl _, Nat.le_refl _⟩ (g_Mo_set (by omega) n 0 _ (by omega)) (fun r355 M356 kq357 q357 => ?_)
                                  clear kq357; obtain ⟨q357a, q357b⟩ := q357; subst r355; subst M356
                                  refine G_ps (pc' := 427) (st' := []) rfl rfl ?_
                                  refine G_vret d_Mo_reckon_427 rfl rfl ?_
                                  refine ⟨rfl, ?_⟩; exact cmp_v (by unfold reckF; first | grind | grind [cmpB] | grind [needF])
                                · skip
                                  refine G_iconst (n := 1) d_Mo_reckon_397 (by decide) (G_pc (pc' := 398) rfl ?_)
                                  refine G_goto (tgt := 402) d_Mo_reckon_398 (by decide) ?_
                                  refine G_icmp_ne (tgt := 409) d_Mo_reckon_402 (by decide) (fun h358 => absurd h358 (by decide)) (fun h358 => G_pc (pc' := 405) rfl ?_)
                                  refine G_iconst (n := 1) d_Mo_reckon_405 (by decide) (G_pc (pc' := 406) rfl ?_)
                                  refine G_goto (tgt := 410) d_Mo_reckon_406 (by decide) ?_
                                  refine G_istore (i := 8) (len := 2) (ls' := [(8, vi 1), (7, vi 1), (5, vl (M 83 (M 78 n))), (3, vl (M 83 (M 77 n))), (2, vi (M 76 n)), (0, vr 55), (1, vi n)]) (Or.inr ⟨rfl, d_Mo_reckon_410⟩) (by decide) rfl (G_pc (pc' := 412) rfl ?_)
                                  refine G_aload (i := 0) (n := 5) (len := 1) (Or.inl ⟨0, rfl, rfl, d_Mo_reckon_412⟩) rfl (by decide) (G_pc (pc' := 413) rfl ?_)
                                  refine G_iload (i := 1) (n := 6) (len := 1) (Or.inl ⟨1, rfl, rfl, d_Mo_reckon_413⟩) rfl (G_pc (pc' := 414) rfl ?_)
                                  refine G_iload (i := 8) (n := 0) (len := 2) (Or.inr ⟨rfl, d_Mo_reckon_414⟩) rfl (G_pc (pc' := 416) rfl ?_)
                                  refine G_if_eq (tgt := 423) d_Mo_reckon_416 (by decide) (fun h359 => absurd h359 (by decide)) (fun h359 => G_pc (pc' := 419) rfl ?_)
                                  refine G_lconst1 d_Mo_reckon_419 (G_pc (pc' := 420) rfl ?_)
                                  refine G_goto (tgt := 424) d_Mo_reckon_420 (by decide) ?_
                                  refine G_callV (K1 := KE) (d2 := 0) (o := 55) (cl := 9) (as := [vi n, vl 1]) (rest := []) d_Mo_reckon_424 mf_Mo_set ml_Mo_289 rfl rfl (by decide) rfl rfl (Nat.le_of_ble_eq_true rfl) (by omega) ⟨Nat.le_refl _, Nat.le_refl _⟩ (g_Mo_set (by omega) n 1 _ (by omega)) (fun r360 M361 kq362 q362 => ?_)
                                  clear kq362; obtain ⟨q362a, q362b⟩ := q362; subst r360; subst M361
                                  refine G_ps (pc' := 427) (st' := []) rfl rfl ?_
                                  refine G_vret d_Mo_reckon_427 rfl rfl ?_
                                  refine ⟨rfl, ?_⟩; exact cmp_v (by unfold reckF; first | grind | grind [cmpB] | grind [needF])
                            · skip
                              refine G_lload (i := 3) (n := 2) (len := 1) (Or.inl ⟨3, rfl, rfl, d_Mo_reckon_364⟩) rfl (G_pc (pc' := 365) rfl ?_)
                              refine G_lload (i := 5) (n := 1) (len := 2) (Or.inr ⟨rfl, d_Mo_reckon_365⟩) rfl (G_pc (pc' := 367) rfl ?_)
                              refine G_lcmp_lt (tgt := 375) d_Mo_reckon_367 d_Mo_reckon_368 (by decide) (fun h363 => ?_) (fun h363 => G_pc (pc' := 371) rfl ?_)
                              · skip
                                refine G_iconst (n := 0) d_Mo_reckon_375 (by decide) (G_pc (pc' := 376) rfl ?_)
                                refine G_goto (tgt := 410) d_Mo_reckon_376 (by decide) ?_
                                refine G_istore (i := 8) (len := 2) (ls' := [(8, vi 0), (7, vi 1), (5, vl (M 83 (M 78 n))), (3, vl (M 83 (M 77 n))), (2, vi (M 76 n)), (0, vr 55), (1, vi n)]) (Or.inr ⟨rfl, d_Mo_reckon_410⟩) (by decide) rfl (G_pc (pc' := 412) rfl ?_)
                                refine G_aload (i := 0) (n := 5) (len := 1) (Or.inl ⟨0, rfl, rfl, d_Mo_reckon_412⟩) rfl (by decide) (G_pc (pc' := 413) rfl ?_)
                                refine G_iload (i := 1) (n := 6) (len := 1) (Or.inl ⟨1, rfl, rfl, d_Mo_reckon_413⟩) rfl (G_pc (pc' := 414) rfl ?_)
                                refine G_iload (i := 8) (n := 0) (len := 2) (Or.inr ⟨rfl, d_Mo_reckon_414⟩) rfl (G_pc (pc' := 416) rfl ?_)
                                refine G_if_eq (tgt := 423) d_Mo_reckon_416 (by decide) (fun h364 => ?_) (fun h364 => absurd h364 (by decide))
                                refine G_lconst0 d_Mo_reckon_423 (G_pc (pc' := 424) rfl ?_)
                                refine G_callV (K1 := KE) (d2 := 0) (o := 55) (cl := 9) (as := [vi n, vl 0]) (rest := []) d_Mo_reckon_424 mf_Mo_set ml_Mo_289 rfl rfl (by decide) rfl rfl (Nat.le_of_ble_eq_true rfl) (by omega) ⟨Nat.le_refl _, Nat.le_refl _⟩ (g_Mo_set (by omega) n 0 _ (by omega)) (fun r365 M366 kq367 q367 => ?_)
                                clear kq367; obtain ⟨q367a, q367b⟩ := q367; subst r365; subst M366
                                refine G_ps (pc' := 427) (st' := []) rfl rfl ?_
                                refine G_vret d_Mo_reckon_427 rfl rfl ?_
                                refine ⟨rfl, ?_⟩; exact cmp_v (by unfold reckF; first | grind | grind [cmpB] | grind [needF])
                              · skip
                                refine G_iconst (n := 1) d_Mo_reckon_371 (by decide) (G_pc (pc' := 372) rfl ?_)
                                refine G_goto (tgt := 410) d_Mo_reckon_372 (by decide) ?_
                                refine G_istore (i := 8) (len := 2) (ls' := [(8, vi 1), (7, vi 1), (5, vl (M 83 (M 78 n))), (3, vl (M 83 (M 77 n))), (2, vi (M 76 n)), (0, vr 55), (1, vi n)]) (Or.inr ⟨rfl, d_Mo_reckon_410⟩) (by decide) rfl (G_pc (pc' := 412) rfl ?_)
                                refine G_aload (i := 0) (n := 5) (len := 1) (Or.inl ⟨0, rfl, rfl, d_Mo_reckon_412⟩) rfl (by decide) (G_pc (pc' := 413) rfl ?_)
                                refine G_iload (i := 1) (n := 6) (len := 1) (Or.inl ⟨1, rfl, rfl, d_Mo_reckon_413⟩) rfl (G_pc (pc' := 414) rfl ?_)
                                refine G_iload (i := 8) (n := 0) (len := 2) (Or.inr ⟨rfl, d_Mo_reckon_414⟩) rfl (G_pc (pc' := 416) rfl ?_)
                                refine G_if_eq (tgt := 423) d_Mo_reckon_416 (by decide) (fun h368 => absurd h368 (by decide)) (fun h368 => G_pc (pc' := 419) rfl ?_)
                                refine G_lconst1 d_Mo_reckon_419 (G_pc (pc' := 420) rfl ?_)
                                refine G_goto (tgt := 424) d_Mo_reckon_420 (by decide) ?_
                                refine G_callV (K1 := KE) (d2 := 0) (o := 55) (cl := 9) (as := [vi n, vl 1]) (rest := []) d_Mo_reckon_424 mf_Mo_set ml_Mo_289 rfl rfl (by decide) rfl rfl (Nat.le_of_ble_eq_true rfl) (by omega) ⟨Nat.le_refl _, Nat.le_refl _⟩ (g_Mo_set (by omega) n 1 _ (by omega)) (fun r369 M370 kq371 q371 => ?_)
                                clear kq371; obtain ⟨q371a, q371b⟩ := q371; subst r369; subst M370
                                refine G_ps (pc' := 427) (st' := []) rfl rfl ?_
                                refine G_vret d_Mo_reckon_427 rfl rfl ?_
                                refine ⟨rfl, ?_⟩; exact cmp_v (by unfold reckF; first | grind | grind [cmpB] | grind [needF])
                          · skip
                            refine G_lload (i := 3) (n := 2) (len := 1) (Or.inl ⟨3, rfl, rfl, d_Mo_reckon_343⟩) rfl (G_pc (pc' := 344) rfl ?_)
                            refine G_lload (i := 5) (n := 1) (len := 2) (Or.inr ⟨rfl, d_Mo_reckon_344⟩) rfl (G_pc (pc' := 346) rfl ?_)
                            refine G_lcmp_le (tgt := 354) d_Mo_reckon_346 d_Mo_reckon_347 (by decide) (fun h372 => ?_) (fun h372 => G_pc (pc' := 350) rfl ?_)
                            · skip
                              refine G_iconst (n := 0) d_Mo_reckon_354 (by decide) (G_pc (pc' := 355) rfl ?_)
                              refine G_goto (tgt := 410) d_Mo_reckon_355 (by decide) ?_
                              refine G_istore (i := 8) (len := 2) (ls' := [(8, vi 0), (7, vi 1), (5, vl (M 83 (M 78 n))), (3, vl (M 83 (M 77 n))), (2, vi (M 76 n)), (0, vr 55), (1, vi n)]) (Or.inr ⟨rfl, d_Mo_reckon_410⟩) (by decide) rfl (G_pc (pc' := 412) rfl ?_)
                              refine G_aload (i := 0) (n := 5) (len := 1) (Or.inl ⟨0, rfl, rfl, d_Mo_reckon_412⟩) rfl (by decide) (G_pc (pc' := 413) rfl ?_)
                              refine G_iload (i := 1) (n := 6) (len := 1) (Or.inl ⟨1, rfl, rfl, d_Mo_reckon_413⟩) rfl (G_pc (pc' := 414) rfl ?_)
                              refine G_iload (i := 8) (n := 0) (len := 2) (Or.inr ⟨rfl, d_Mo_reckon_414⟩) rfl (G_pc (pc' := 416) rfl ?_)
                              refine G_if_eq (tgt := 423) d_Mo_reckon_416 (by decide) (fun h373 => ?_) (fun h373 => absurd h373 (by decide))
                              refine G_lconst0 d_Mo_reckon_423 (G_pc (pc' := 424) rfl ?_)
                              refine G_callV (K1 := KE) (d2 := 0) (o := 55) (cl := 9) (as := [vi n, vl 0]) (rest := []) d_Mo_reckon_424 mf_Mo_set ml_Mo_289 rfl rfl (by decide) rfl rfl (Nat.le_of_ble_eq_true rfl) (by omega) ⟨Nat.le_refl _, Nat.le_refl _⟩ (g_Mo_set (by omega) n 0 _ (by omega)) (fun r374 M375 kq376 q376 => ?_)
                              clear kq376; obtain ⟨q376a, q376b⟩ := q376; subst r374; subst M375
                              refine G_ps (pc' := 427) (st' := []) rfl rfl ?_
                              refine G_vret d_Mo_reckon_427 rfl rfl ?_
                              refine ⟨rfl, ?_⟩; exact cmp_v (by unfold reckF; first | grind | grind [cmpB] | grind [needF])
                            · skip
                              refine G_iconst (n := 1) d_Mo_reckon_350 (by decide) (G_pc (pc' := 351) rfl ?_)
                              refine G_goto (tgt := 410) d_Mo_reckon_351 (by decide) ?_
                              refine G_istore (i := 8) (len := 2) (ls' := [(8, vi 1), (7, vi 1), (5, vl (M 83 (M 78 n))), (3, vl (M 83 (M 77 n))), (2, vi (M 76 n)), (0, vr 55), (1, vi n)]) (Or.inr ⟨rfl, d_Mo_reckon_410⟩) (by decide) rfl (G_pc (pc' := 412) rfl ?_)
                              refine G_aload (i := 0) (n := 5) (len := 1) (Or.inl ⟨0, rfl, rfl, d_Mo_reckon_412⟩) rfl (by decide) (G_pc (pc' := 413) rfl ?_)
                              refine G_iload (i := 1) (n := 6) (len := 1) (Or.inl ⟨1, rfl, rfl, d_Mo_reckon_413⟩) rfl (G_pc (pc' := 414) rfl ?_)
                              refine G_iload (i := 8) (n := 0) (len := 2) (Or.inr ⟨rfl, d_Mo_reckon_414⟩) rfl (G_pc (pc' := 416) rfl ?_)
                              refine G_if_eq (tgt := 423) d_Mo_reckon_416 (by decide) (fun h377 => absurd h377 (by decide)) (fun h377 => G_pc (pc' := 419) rfl ?_)
                              refine G_lconst1 d_Mo_reckon_419 (G_pc (pc' := 420) rfl ?_)
                              refine G_goto (tgt := 424) d_Mo_reckon_420 (by decide) ?_
                              refine G_callV (K1 := KE) (d2 := 0) (o := 55) (cl := 9) (as := [vi n, vl 1]) (rest := []) d_Mo_reckon_424 mf_Mo_set ml_Mo_289 rfl rfl (by decide) rfl rfl (Nat.le_of_ble_eq_true rfl) (by omega) ⟨Nat.le_refl _, Nat.le_refl _⟩ (g_Mo_set (by omega) n 1 _ (by omega)) (fun r378 M379 kq380 q380 => ?_)
                              clear kq380; obtain ⟨q380a, q380b⟩ := q380; subst r378; subst M379
                              refine G_ps (pc' := 427) (st' := []) rfl rfl ?_
                              refine G_vret d_Mo_reckon_427 rfl rfl ?_
                              refine ⟨rfl, ?_⟩; exact cmp_v (by unfold reckF; first | grind | grind [cmpB] | grind [needF])
                        · skip
                          refine G_lload (i := 3) (n := 2) (len := 1) (Or.inl ⟨3, rfl, rfl, d_Mo_reckon_322⟩) rfl (G_pc (pc' := 323) rfl ?_)
                          refine G_lload (i := 5) (n := 1) (len := 2) (Or.inr ⟨rfl, d_Mo_reckon_323⟩) rfl (G_pc (pc' := 325) rfl ?_)
                          refine G_lcmp_gt (tgt := 333) d_Mo_reckon_325 d_Mo_reckon_326 (by decide) (fun h381 => ?_) (fun h381 => G_pc (pc' := 329) rfl ?_)
                          · skip
                            refine G_iconst (n := 0) d_Mo_reckon_333 (by decide) (G_pc (pc' := 334) rfl ?_)
                            refine G_goto (tgt := 410) d_Mo_reckon_334 (by decide) ?_
                            refine G_istore (i := 8) (len := 2) (ls' := [(8, vi 0), (7, vi 1), (5, vl (M 83 (M 78 n))), (3, vl (M 83 (M 77 n))), (2, vi (M 76 n)), (0, vr 55), (1, vi n)]) (Or.inr ⟨rfl, d_Mo_reckon_410⟩) (by decide) rfl (G_pc (pc' := 412) rfl ?_)
                            refine G_aload (i := 0) (n := 5) (len := 1) (Or.inl ⟨0, rfl, rfl, d_Mo_reckon_412⟩) rfl (by decide) (G_pc (pc' := 413) rfl ?_)
                            refine G_iload (i := 1) (n := 6) (len := 1) (Or.inl ⟨1, rfl, rfl, d_Mo_reckon_413⟩) rfl (G_pc (pc' := 414) rfl ?_)
                            refine G_iload (i := 8) (n := 0) (len := 2) (Or.inr ⟨rfl, d_Mo_reckon_414⟩) rfl (G_pc (pc' := 416) rfl ?_)
                            refine G_if_eq (tgt := 423) d_Mo_reckon_416 (by decide) (fun h382 => ?_) (fun h382 => absurd h382 (by decide))
                            refine G_lconst0 d_Mo_reckon_423 (G_pc (pc' := 424) rfl ?_)
                            refine G_callV (K1 := KE) (d2 := 0) (o := 55) (cl := 9) (as := [vi n, vl 0]) (rest := []) d_Mo_reckon_424 mf_Mo_set ml_Mo_289 rfl rfl (by decide) rfl rfl (Nat.le_of_ble_eq_true rfl) (by omega) ⟨Nat.le_refl _, Nat.le_refl _⟩ (g_Mo_set (by omega) n 0 _ (by omega)) (fun r383 M384 kq385 q385 => ?_)
                            clear kq385; obtain ⟨q385a, q385b⟩ := q385; subst r383; subst M384
                            refine G_ps (pc' := 427) (st' := []) rfl rfl ?_
                            refine G_vret d_Mo_reckon_427 rfl rfl ?_
                            refine ⟨rfl, ?_⟩; exact cmp_v (by unfold reckF; first | grind | grind [cmpB] | grind [needF])
                          · skip
                            refine G_iconst (n := 1) d_Mo_reckon_329 (by decide) (G_pc (pc' := 330) rfl ?_)
                            refine G_goto (tgt := 410) d_Mo_reckon_330 (by decide) ?_
                            refine G_istore (i := 8) (len := 2) (ls' := [(8, vi 1), (7, vi 1), (5, vl (M 83 (M 78 n))), (3, vl (M 83 (M 77 n))), (2, vi (M 76 n)), (0, vr 55), (1, vi n)]) (Or.inr ⟨rfl, d_Mo_reckon_410⟩) (by decide) rfl (G_pc (pc' := 412) rfl ?_)
                            refine G_aload (i := 0) (n := 5) (len := 1) (Or.inl ⟨0, rfl, rfl, d_Mo_reckon_412⟩) rfl (by decide) (G_pc (pc' := 413) rfl ?_)
                            refine G_iload (i := 1) (n := 6) (len := 1) (Or.inl ⟨1, rfl, rfl, d_Mo_reckon_413⟩) rfl (G_pc (pc' := 414) rfl ?_)
                            refine G_iload (i := 8) (n := 0) (len := 2) (Or.inr ⟨rfl, d_Mo_reckon_414⟩) rfl (G_pc (pc' := 416) rfl ?_)
                            refine G_if_eq (tgt := 423) d_Mo_reckon_416 (by decide) (fun h386 => absurd h386 (by decide)) (fun h386 => G_pc (pc' := 419) rfl ?_)
                            refine G_lconst1 d_Mo_reckon_419 (G_pc (pc' := 420) rfl ?_)
                            refine G_goto (tgt := 424) d_Mo_reckon_420 (by decide) ?_
                            refine G_callV (K1 := KE) (d2 := 0) (o := 55) (cl := 9) (as := [vi n, vl 1]) (rest := []) d_Mo_reckon_424 mf_Mo_set ml_Mo_289 rfl rfl (by decide) rfl rfl (Nat.le_of_ble_eq_true rfl) (by omega) ⟨Nat.le_refl _, Nat.le_refl _⟩ (g_Mo_set (by omega) n 1 _ (by omega)) (fun r387 M388 kq389 q389 => ?_)
                            clear kq389; obtain ⟨q389a, q389b⟩ := q389; subst r387; subst M388
                            refine G_ps (pc' := 427) (st' := []) rfl rfl ?_
                            refine G_vret d_Mo_reckon_427 rfl rfl ?_
                            refine ⟨rfl, ?_⟩; exact cmp_v (by unfold reckF; first | grind | grind [cmpB] | grind [needF])
                      · skip
                        refine G_lload (i := 3) (n := 2) (len := 1) (Or.inl ⟨3, rfl, rfl, d_Mo_reckon_301⟩) rfl (G_pc (pc' := 302) rfl ?_)
                        refine G_lload (i := 5) (n := 1) (len := 2) (Or.inr ⟨rfl, d_Mo_reckon_302⟩) rfl (G_pc (pc' := 304) rfl ?_)
                        refine G_lcmp_ge (tgt := 312) d_Mo_reckon_304 d_Mo_reckon_305 (by decide) (fun h390 => ?_) (fun h390 => G_pc (pc' := 308) rfl ?_)
                        · skip
                          refine G_iconst (n := 0) d_Mo_reckon_312 (by decide) (G_pc (pc' := 313) rfl ?_)
                          refine G_goto (tgt := 410) d_Mo_reckon_313 (by decide) ?_
                          refine G_istore (i := 8) (len := 2) (ls' := [(8, vi 0), (7, vi 1), (5, vl (M 83 (M 78 n))), (3, vl (M 83 (M 77 n))), (2, vi (M 76 n)), (0, vr 55), (1, vi n)]) (Or.inr ⟨rfl, d_Mo_reckon_410⟩) (by decide) rfl (G_pc (pc' := 412) rfl ?_)
                          refine G_aload (i := 0) (n := 5) (len := 1) (Or.inl ⟨0, rfl, rfl, d_Mo_reckon_412⟩) rfl (by decide) (G_pc (pc' := 413) rfl ?_)
                          refine G_iload (i := 1) (n := 6) (len := 1) (Or.inl ⟨1, rfl, rfl, d_Mo_reckon_413⟩) rfl (G_pc (pc' := 414) rfl ?_)
                          refine G_iload (i := 8) (n := 0) (len := 2) (Or.inr ⟨rfl, d_Mo_reckon_414⟩) rfl (G_pc (pc' := 416) rfl ?_)
                          refine G_if_eq (tgt := 423) d_Mo_reckon_416 (by decide) (fun h391 => ?_) (fun h391 => absurd h391 (by decide))
                          refine G_lconst0 d_Mo_reckon_423 (G_pc (pc' := 424) rfl ?_)
                          refine G_callV (K1 := KE) (d2 := 0) (o := 55) (cl := 9) (as := [vi n, vl 0]) (rest := []) d_Mo_reckon_424 mf_Mo_set ml_Mo_289 rfl rfl (by decide) rfl rfl (Nat.le_of_ble_eq_true rfl) (by omega) ⟨Nat.le_refl _, Nat.le_refl _⟩ (g_Mo_set (by omega) n 0 _ (by omega)) (fun r392 M393 kq394 q394 => ?_)
                          clear kq394; obtain ⟨q394a, q394b⟩ := q394; subst r392; subst M393
                          refine G_ps (pc' := 427) (st' := []) rfl rfl ?_
                          refine G_vret d_Mo_reckon_427 rfl rfl ?_
                          refine ⟨rfl, ?_⟩; exact cmp_v (by unfold reckF; first | grind | grind [cmpB] | grind [needF])
                        · skip
                          refine G_iconst (n := 1) d_Mo_reckon_308 (by decide) (G_pc (pc' := 309) rfl ?_)
                          refine G_goto (tgt := 410) d_Mo_reckon_309 (by decide) ?_
                          refine G_istore (i := 8) (len := 2) (ls' := [(8, vi 1), (7, vi 1), (5, vl (M 83 (M 78 n))), (3, vl (M 83 (M 77 n))), (2, vi (M 76 n)), (0, vr 55), (1, vi n)]) (Or.inr ⟨rfl, d_Mo_reckon_410⟩) (by decide) rfl (G_pc (pc' := 412) rfl ?_)
                          refine G_aload (i := 0) (n := 5) (len := 1) (Or.inl ⟨0, rfl, rfl, d_Mo_reckon_412⟩) rfl (by decide) (G_pc (pc' := 413) rfl ?_)
                          refine G_iload (i := 1) (n := 6) (len := 1) (Or.inl ⟨1, rfl, rfl, d_Mo_reckon_413⟩) rfl (G_pc (pc' := 414) rfl ?_)
                          refine G_iload (i := 8) (n := 0) (len := 2) (Or.inr ⟨rfl, d_Mo_reckon_414⟩) rfl (G_pc (pc' := 416) rfl ?_)
                          refine G_if_eq (tgt := 423) d_Mo_reckon_416 (by decide) (fun h395 => absurd h395 (by decide)) (fun h395 => G_pc (pc' := 419) rfl ?_)
                          refine G_lconst1 d_Mo_reckon_419 (G_pc (pc' := 420) rfl ?_)
                          refine G_goto (tgt := 424) d_Mo_reckon_420 (by decide) ?_
                          refine G_callV (K1 := KE) (d2 := 0) (o := 55) (cl := 9) (as := [vi n, vl 1]) (rest := []) d_Mo_reckon_424 mf_Mo_set ml_Mo_289 rfl rfl (by decide) rfl rfl (Nat.le_of_ble_eq_true rfl) (by omega) ⟨Nat.le_refl _, Nat.le_refl _⟩ (g_Mo_set (by omega) n 1 _ (by omega)) (fun r396 M397 kq398 q398 => ?_)
                          clear kq398; obtain ⟨q398a, q398b⟩ := q398; subst r396; subst M397
                          refine G_ps (pc' := 427) (st' := []) rfl rfl ?_
                          refine G_vret d_Mo_reckon_427 rfl rfl ?_
                          refine ⟨rfl, ?_⟩; exact cmp_v (by unfold reckF; first | grind | grind [cmpB] | grind [needF])
                    · skip
                      refine G_aload (i := 0) (n := 4) (len := 1) (Or.inl ⟨0, rfl, rfl, d_Mo_reckon_257⟩) rfl (by decide) (G_pc (pc' := 258) rfl ?_)
                      refine G_iload (i := 1) (n := 5) (len := 1) (Or.inl ⟨1, rfl, rfl, d_Mo_reckon_258⟩) rfl (G_pc (pc' := 259) rfl ?_)
                      refine G_iload (i := 2) (n := 3) (len := 1) (Or.inl ⟨2, rfl, rfl, d_Mo_reckon_259⟩) rfl (G_pc (pc' := 260) rfl ?_)
                      refine G_bipush (n := 43) d_Mo_reckon_260 (by decide) (G_pc (pc' := 262) rfl ?_)
                      refine G_icmp_ne (tgt := 272) d_Mo_reckon_262 (by decide) (fun h399 => ?_) (fun h399 => G_pc (pc' := 265) rfl ?_)
                      · skip
                        refine G_iload (i := 2) (n := 3) (len := 1) (Or.inl ⟨2, rfl, rfl, d_Mo_reckon_272⟩) rfl (G_pc (pc' := 273) rfl ?_)
                        refine G_bipush (n := 45) d_Mo_reckon_273 (by decide) (G_pc (pc' := 275) rfl ?_)
                        refine G_icmp_ne (tgt := 285) d_Mo_reckon_275 (by decide) (fun h400 => ?_) (fun h400 => G_pc (pc' := 278) rfl ?_)
                        · skip
                          refine G_lload (i := 3) (n := 2) (len := 1) (Or.inl ⟨3, rfl, rfl, d_Mo_reckon_285⟩) rfl (G_pc (pc' := 286) rfl ?_)
                          refine G_lload (i := 5) (n := 1) (len := 2) (Or.inr ⟨rfl, d_Mo_reckon_286⟩) rfl (G_pc (pc' := 288) rfl ?_)
                          refine G_lxor d_Mo_reckon_288 (G_pc (pc' := 289) rfl ?_)
                          refine G_callV (K1 := KE) (d2 := 0) (o := 55) (cl := 9) (as := [vi n, vl (o_lxor (M 83 (M 77 n)) (M 83 (M 78 n)))]) (rest := []) d_Mo_reckon_289 mf_Mo_set ml_Mo_289 rfl rfl (by decide) rfl rfl (Nat.le_of_ble_eq_true rfl) (by omega) ⟨Nat.le_refl _, Nat.le_refl _⟩ (g_Mo_set (by omega) n (o_lxor (M 83 (M 77 n)) (M 83 (M 78 n))) _ (by omega)) (fun r401 M402 kq403 q403 => ?_)
                          clear kq403; obtain ⟨q403a, q403b⟩ := q403; subst r401; subst M402
                          refine G_ps (pc' := 292) (st' := []) rfl rfl ?_
                          refine G_goto (tgt := 427) d_Mo_reckon_292 (by decide) ?_
                          refine G_vret d_Mo_reckon_427 rfl rfl ?_
                          refine ⟨rfl, ?_⟩; exact cmp_v (by unfold reckF; first | grind | grind [cmpB] | grind [needF])
                        · skip
                          refine G_lload (i := 3) (n := 2) (len := 1) (Or.inl ⟨3, rfl, rfl, d_Mo_reckon_278⟩) rfl (G_pc (pc' := 279) rfl ?_)
                          refine G_lload (i := 5) (n := 1) (len := 2) (Or.inr ⟨rfl, d_Mo_reckon_279⟩) rfl (G_pc (pc' := 281) rfl ?_)
                          refine G_lor d_Mo_reckon_281 (G_pc (pc' := 282) rfl ?_)
                          refine G_goto (tgt := 289) d_Mo_reckon_282 (by decide) ?_
                          refine G_callV (K1 := KE) (d2 := 0) (o := 55) (cl := 9) (as := [vi n, vl (o_lor (M 83 (M 77 n)) (M 83 (M 78 n)))]) (rest := []) d_Mo_reckon_289 mf_Mo_set ml_Mo_289 rfl rfl (by decide) rfl rfl (Nat.le_of_ble_eq_true rfl) (by omega) ⟨Nat.le_refl _, Nat.le_refl _⟩ (g_Mo_set (by omega) n (o_lor (M 83 (M 77 n)) (M 83 (M 78 n))) _ (by omega)) (fun r404 M405 kq406 q406 => ?_)
                          clear kq406; obtain ⟨q406a, q406b⟩ := q406; subst r404; subst M405
                          refine G_ps (pc' := 292) (st' := []) rfl rfl ?_
                          refine G_goto (tgt := 427) d_Mo_reckon_292 (by decide) ?_
                          refine G_vret d_Mo_reckon_427 rfl rfl ?_
                          refine ⟨rfl, ?_⟩; exact cmp_v (by unfold reckF; first | grind | grind [cmpB] | grind [needF])
                      · skip
                        refine G_lload (i := 3) (n := 2) (len := 1) (Or.inl ⟨3, rfl, rfl, d_Mo_reckon_265⟩) rfl (G_pc (pc' := 266) rfl ?_)
                        refine G_lload (i := 5) (n := 1) (len := 2) (Or.inr ⟨rfl, d_Mo_reckon_266⟩) rfl (G_pc (pc' := 268) rfl ?_)
                        refine G_land d_Mo_reckon_268 (G_pc (pc' := 269) rfl ?_)
                        refine G_goto (tgt := 289) d_Mo_reckon_269 (by decide) ?_
                        refine G_callV (K1 := KE) (d2 := 0) (o := 55) (cl := 9) (as := [vi n, vl (o_land (M 83 (M 77 n)) (M 83 (M 78 n)))]) (rest := []) d_Mo_reckon_289 mf_Mo_set ml_Mo_289 rfl rfl (by decide) rfl rfl (Nat.le_of_ble_eq_true rfl) (by omega) ⟨Nat.le_refl _, Nat.le_refl _⟩ (g_Mo_set (by omega) n (o_land (M 83 (M 77 n)) (M 83 (M 78 n))) _ (by omega)) (fun r407 M408 kq409 q409 => ?_)
                        clear kq409; obtain ⟨q409a, q409b⟩ := q409; subst r407; subst M408
                        refine G_ps (pc' := 292) (st' := []) rfl rfl ?_
                        refine G_goto (tgt := 427) d_Mo_reckon_292 (by decide) ?_
                        refine G_vret d_Mo_reckon_427 rfl rfl ?_
                        refine ⟨rfl, ?_⟩; exact cmp_v (by unfold reckF; first | grind | grind [cmpB] | grind [needF])
              · skip
                refine G_iload (i := 2) (n := 3) (len := 1) (Or.inl ⟨2, rfl, rfl, d_Mo_reckon_163⟩) rfl (G_pc (pc' := 164) rfl ?_)
                refine G_bipush (n := 40) d_Mo_reckon_164 (by decide) (G_pc (pc' := 166) rfl ?_)
                refine G_icmp_gt (tgt := 239) d_Mo_reckon_166 (by decide) (fun h410 => ?_) (fun h410 => G_pc (pc' := 169) rfl ?_)
                · skip
                  refine G_iload (i := 2) (n := 3) (len := 1) (Or.inl ⟨2, rfl, rfl, d_Mo_reckon_239⟩) rfl (G_pc (pc' := 240) rfl ?_)
                  refine G_bipush (n := 43) d_Mo_reckon_240 (by decide) (G_pc (pc' := 242) rfl ?_)
                  refine G_icmp_eq (tgt := 257) d_Mo_reckon_242 (by decide) (fun h411 => ?_) (fun h411 => G_pc (pc' := 245) rfl ?_)
                  · skip
                    refine G_aload (i := 0) (n := 4) (len := 1) (Or.inl ⟨0, rfl, rfl, d_Mo_reckon_257⟩) rfl (by decide) (G_pc (pc' := 258) rfl ?_)
                    refine G_iload (i := 1) (n := 5) (len := 1) (Or.inl ⟨1, rfl, rfl, d_Mo_reckon_258⟩) rfl (G_pc (pc' := 259) rfl ?_)
                    refine G_iload (i := 2) (n := 3) (len := 1) (Or.inl ⟨2, rfl, rfl, d_Mo_reckon_259⟩) rfl (G_pc (pc' := 260) rfl ?_)
                    refine G_bipush (n := 43) d_Mo_reckon_260 (by decide) (G_pc (pc' := 262) rfl ?_)
                    refine G_icmp_ne (tgt := 272) d_Mo_reckon_262 (by decide) (fun h412 => ?_) (fun h412 => G_pc (pc' := 265) rfl ?_)
                    · skip
                      refine G_iload (i := 2) (n := 3) (len := 1) (Or.inl ⟨2, rfl, rfl, d_Mo_reckon_272⟩) rfl (G_pc (pc' := 273) rfl ?_)
                      refine G_bipush (n := 45) d_Mo_reckon_273 (by decide) (G_pc (pc' := 275) rfl ?_)
                      refine G_icmp_ne (tgt := 285) d_Mo_reckon_275 (by decide) (fun h413 => ?_) (fun h413 => G_pc (pc' := 278) rfl ?_)
                      · skip
                        refine G_lload (i := 3) (n := 2) (len := 1) (Or.inl ⟨3, rfl, rfl, d_Mo_reckon_285⟩) rfl (G_pc (pc' := 286) rfl ?_)
                        refine G_lload (i := 5) (n := 1) (len := 2) (Or.inr ⟨rfl, d_Mo_reckon_286⟩) rfl (G_pc (pc' := 288) rfl ?_)
                        refine G_lxor d_Mo_reckon_288 (G_pc (pc' := 289) rfl ?_)
                        refine G_callV (K1 := KE) (d2 := 0) (o := 55) (cl := 9) (as := [vi n, vl (o_lxor (M 83 (M 77 n)) (M 83 (M 78 n)))]) (rest := []) d_Mo_reckon_289 mf_Mo_set ml_Mo_289 rfl rfl (by decide) rfl rfl (Nat.le_of_ble_eq_true rfl) (by omega) ⟨Nat.le_refl _, Nat.le_refl _⟩ (g_Mo_set (by omega) n (o_lxor (M 83 (M 77 n)) (M 83 (M 78 n))) _ (by omega)) (fun r414 M415 kq416 q416 => ?_)
                        clear kq416; obtain ⟨q416a, q416b⟩ := q416; subst r414; subst M415
                        refine G_ps (pc' := 292) (st' := []) rfl rfl ?_
                        refine G_goto (tgt := 427) d_Mo_reckon_292 (by decide) ?_
                        refine G_vret d_Mo_reckon_427 rfl rfl ?_
                        refine ⟨rfl, ?_⟩; exact cmp_v (by unfold reckF; first | grind | grind [cmpB] | grind [needF])
                      · skip
                        refine G_lload (i := 3) (n := 2) (len := 1) (Or.inl ⟨3, rfl, rfl, d_Mo_reckon_278⟩) rfl (G_pc (pc' := 279) rfl ?_)
                        refine G_lload (i := 5) (n := 1) (len := 2) (Or.inr ⟨rfl, d_Mo_reckon_279⟩) rfl (G_pc (pc' := 281) rfl ?_)
                        refine G_lor d_Mo_reckon_281 (G_pc (pc' := 282) rfl ?_)
                        refine G_goto (tgt := 289) d_Mo_reckon_282 (by decide) ?_
                        refine G_callV (K1 := KE) (d2 := 0) (o := 55) (cl := 9) (as := [vi n, vl (o_lor (M 83 (M 77 n)) (M 83 (M 78 n)))]) (rest := []) d_Mo_reckon_289 mf_Mo_set ml_Mo_289 rfl rfl (by decide) rfl rfl (Nat.le_of_ble_eq_true rfl) (by omega) ⟨Nat.le_refl _, Nat.le_refl _⟩ (g_Mo_set (by omega) n (o_lor (M 83 (M 77 n)) (M 83 (M 78 n))) _ (by omega)) (fun r417 M418 kq419 q419 => ?_)
                        clear kq419; obtain ⟨q419a, q419b⟩ := q419; subst r417; subst M418
                        refine G_ps (pc' := 292) (st' := []) rfl rfl ?_
                        refine G_goto (tgt := 427) d_Mo_reckon_292 (by decide) ?_
                        refine G_vret d_Mo_reckon_427 rfl rfl ?_
                        refine ⟨rfl, ?_⟩; exact cmp_v (by unfold reckF; first | grind | grind [cmpB] | grind [needF])
                    · skip
                      refine G_lload (i := 3) (n := 2) (len := 1) (Or.inl ⟨3, rfl, rfl, d_Mo_reckon_265⟩) rfl (G_pc (pc' := 266) rfl ?_)
                      refine G_lload (i := 5) (n := 1) (len := 2) (Or.inr ⟨rfl, d_Mo_reckon_266⟩) rfl (G_pc (pc' := 268) rfl ?_)
                      refine G_land d_Mo_reckon_268 (G_pc (pc' := 269) rfl ?_)
                      refine G_goto (tgt := 289) d_Mo_reckon_269 (by decide) ?_
                      refine G_callV (K1 := KE) (d2 := 0) (o := 55) (cl := 9) (as := [vi n, vl (o_land (M 83 (M 77 n)) (M 83 (M 78 n)))]) (rest := []) d_Mo_reckon_289 mf_Mo_set ml_Mo_289 rfl rfl (by decide) rfl rfl (Nat.le_of_ble_eq_true rfl) (by omega) ⟨Nat.le_refl _, Nat.le_refl _⟩ (g_Mo_set (by omega) n (o_land (M 83 (M 77 n)) (M 83 (M 78 n))) _ (by omega)) (fun r420 M421 kq422 q422 => ?_)
                      clear kq422; obtain ⟨q422a, q422b⟩ := q422; subst r420; subst M421
                      refine G_ps (pc' := 292) (st' := []) rfl rfl ?_
                      refine G_goto (tgt := 427) d_Mo_reckon_292 (by decide) ?_
                      refine G_vret d_Mo_reckon_427 rfl rfl ?_
                      refine ⟨rfl, ?_⟩; exact cmp_v (by unfold reckF; first | grind | grind [cmpB] | grind [needF])
                  · skip
                    refine G_iload (i := 2) (n := 3) (len := 1) (Or.inl ⟨2, rfl, rfl, d_Mo_reckon_245⟩) rfl (G_pc (pc' := 246) rfl ?_)
                    refine G_bipush (n := 45) d_Mo_reckon_246 (by decide) (G_pc (pc' := 248) rfl ?_)
                    refine G_icmp_eq (tgt := 257) d_Mo_reckon_248 (by decide) (fun h423 => ?_) (fun h423 => G_pc (pc' := 251) rfl ?_)
                    · skip
                      refine G_aload (i := 0) (n := 4) (len := 1) (Or.inl ⟨0, rfl, rfl, d_Mo_reckon_257⟩) rfl (by decide) (G_pc (pc' := 258) rfl ?_)
                      refine G_iload (i := 1) (n := 5) (len := 1) (Or.inl ⟨1, rfl, rfl, d_Mo_reckon_258⟩) rfl (G_pc (pc' := 259) rfl ?_)
                      refine G_iload (i := 2) (n := 3) (len := 1) (Or.inl ⟨2, rfl, rfl, d_Mo_reckon_259⟩) rfl (G_pc (pc' := 260) rfl ?_)
                      refine G_bipush (n := 43) d_Mo_reckon_260 (by decide) (G_pc (pc' := 262) rfl ?_)
                      refine G_icmp_ne (tgt := 272) d_Mo_reckon_262 (by decide) (fun h424 => ?_) (fun h424 => G_pc (pc' := 265) rfl ?_)
                      · skip
                        refine G_iload (i := 2) (n := 3) (len := 1) (Or.inl ⟨2, rfl, rfl, d_Mo_reckon_272⟩) rfl (G_pc (pc' := 273) rfl ?_)
                        refine G_bipush (n := 45) d_Mo_reckon_273 (by decide) (G_pc (pc' := 275) rfl ?_)
                        refine G_icmp_ne (tgt := 285) d_Mo_reckon_275 (by decide) (fun h425 => ?_) (fun h425 => G_pc (pc' := 278) rfl ?_)
                        · skip
                          refine G_lload (i := 3) (n := 2) (len := 1) (Or.inl ⟨3, rfl, rfl, d_Mo_reckon_285⟩) rfl (G_pc (pc' := 286) rfl ?_)
                          refine G_lload (i := 5) (n := 1) (len := 2) (Or.inr ⟨rfl, d_Mo_reckon_286⟩) rfl (G_pc (pc' := 288) rfl ?_)
                          refine G_lxor d_Mo_reckon_288 (G_pc (pc' := 289) rfl ?_)
                          refine G_callV (K1 := KE) (d2 := 0) (o := 55) (cl := 9) (as := [vi n, vl (o_lxor (M 83 (M 77 n)) (M 83 (M 78 n)))]) (rest := []) d_Mo_reckon_289 mf_Mo_set ml_Mo_289 rfl rfl (by decide) rfl rfl (Nat.le_of_ble_eq_true rfl) (by omega) ⟨Nat.le_refl _, Nat.le_refl _⟩ (g_Mo_set (by omega) n (o_lxor (M 83 (M 77 n)) (M 83 (M 78 n))) _ (by omega)) (fun r426 M427 kq428 q428 => ?_)
                          clear kq428; obtain ⟨q428a, q428b⟩ := q428; subst r426; subst M427
                          refine G_ps (pc' := 292) (st' := []) rfl rfl ?_
                          refine G_goto (tgt := 427) d_Mo_reckon_292 (by decide) ?_
                          refine G_vret d_Mo_reckon_427 rfl rfl ?_
                          refine ⟨rfl, ?_⟩; exact cmp_v (by unfold reckF; first | grind | grind [cmpB] | grind [needF])
                        · skip
                          refine G_lload (i := 3) (n := 2) (len := 1) (Or.inl ⟨3, rfl, rfl, d_Mo_reckon_278⟩) rfl (G_pc (pc' := 279) rfl ?_)
                          refine G_lload (i := 5) (n := 1) (len := 2) (Or.inr ⟨rfl, d_Mo_reckon_279⟩) rfl (G_pc (pc' := 281) rfl ?_)
                          refine G_lor d_Mo_reckon_281 (G_pc (pc' := 282) rfl ?_)
                          refine G_goto (tgt := 289) d_Mo_reckon_282 (by decide) ?_
                          refine G_callV (K1 := KE) (d2 := 0) (o := 55) (cl := 9) (as := [vi n, vl (o_lor (M 83 (M 77 n)) (M 83 (M 78 n)))]) (rest := []) d_Mo_reckon_289 mf_Mo_set ml_Mo_289 rfl rfl (by decide) rfl rfl (Nat.le_of_ble_eq_true rfl) (by omega) ⟨Nat.le_refl _, Nat.le_refl _⟩ (g_Mo_set (by omega) n (o_lor (M 83 (M 77 n)) (M 83 (M 78 n))) _ (by omega)) (fun r429 M430 kq431 q431 => ?_)
                          clear kq431; obtain ⟨q431a, q431b⟩ := q431; subst r429; subst M430
                          refine G_ps (pc' := 292) (st' := []) rfl rfl ?_
                          refine G_goto (tgt := 427) d_Mo_reckon_292 (by decide) ?_
                          refine G_vret d_Mo_reckon_427 rfl rfl ?_
                          refine ⟨rfl, ?_⟩; exact cmp_v (by unfold reckF; first | grind | grind [cmpB] | grind [needF])
                      · skip
                        refine G_lload (i := 3) (n := 2) (len := 1) (Or.inl ⟨3, rfl, rfl, d_Mo_reckon_265⟩) rfl (G_pc (pc' := 266) rfl ?_)
                        refine G_lload (i := 5) (n := 1) (len := 2) (Or.inr ⟨rfl, d_Mo_reckon_266⟩) rfl (G_pc (pc' := 268) rfl ?_)
                        refine G_land d_Mo_reckon_268 (G_pc (pc' := 269) rfl ?_)
                        refine G_goto (tgt := 289) d_Mo_reckon_269 (by decide) ?_
                        refine G_callV (K1 := KE) (d2 := 0) (o := 55) (cl := 9) (as := [vi n, vl (o_land (M 83 (M 77 n)) (M 83 (M 78 n)))]) (rest := []) d_Mo_reckon_289 mf_Mo_set ml_Mo_289 rfl rfl (by decide) rfl rfl (Nat.le_of_ble_eq_true rfl) (by omega) ⟨Nat.le_refl _, Nat.le_refl _⟩ (g_Mo_set (by omega) n (o_land (M 83 (M 77 n)) (M 83 (M 78 n))) _ (by omega)) (fun r432 M433 kq434 q434 => ?_)
                        clear kq434; obtain ⟨q434a, q434b⟩ := q434; subst r432; subst M433
                        refine G_ps (pc' := 292) (st' := []) rfl rfl ?_
                        refine G_goto (tgt := 427) d_Mo_reckon_292 (by decide) ?_
                        refine G_vret d_Mo_reckon_427 rfl rfl ?_
                        refine ⟨rfl, ?_⟩; exact cmp_v (by unfold reckF; first | grind | grind [cmpB] | grind [needF])
                    · skip
                      refine G_iload (i := 2) (n := 3) (len := 1) (Or.inl ⟨2, rfl, rfl, d_Mo_reckon_251⟩) rfl (G_pc (pc' := 252) rfl ?_)
                      refine G_bipush (n := 47) d_Mo_reckon_252 (by decide) (G_pc (pc' := 254) rfl ?_)
                      refine G_icmp_ne (tgt := 295) d_Mo_reckon_254 (by decide) (fun h435 => ?_) (fun h435 => G_pc (pc' := 257) rfl ?_)
                      · skip
                        refine G_iload (i := 2) (n := 3) (len := 1) (Or.inl ⟨2, rfl, rfl, d_Mo_reckon_295⟩) rfl (G_pc (pc' := 296) rfl ?_)
                        refine G_bipush (n := 34) d_Mo_reckon_296 (by decide) (G_pc (pc' := 298) rfl ?_)
                        refine G_icmp_ne (tgt := 316) d_Mo_reckon_298 (by decide) (fun h436 => ?_) (fun h436 => G_pc (pc' := 301) rfl ?_)
                        · skip
                          refine G_iload (i := 2) (n := 3) (len := 1) (Or.inl ⟨2, rfl, rfl, d_Mo_reckon_316⟩) rfl (G_pc (pc' := 317) rfl ?_)
                          refine G_bipush (n := 35) d_Mo_reckon_317 (by decide) (G_pc (pc' := 319) rfl ?_)
                          refine G_icmp_ne (tgt := 337) d_Mo_reckon_319 (by decide) (fun h437 => ?_) (fun h437 => G_pc (pc' := 322) rfl ?_)
                          · skip
                            refine G_iload (i := 2) (n := 3) (len := 1) (Or.inl ⟨2, rfl, rfl, d_Mo_reckon_337⟩) rfl (G_pc (pc' := 338) rfl ?_)
                            refine G_bipush (n := 36) d_Mo_reckon_338 (by decide) (G_pc (pc' := 340) rfl ?_)
                            refine G_icmp_ne (tgt := 358) d_Mo_reckon_340 (by decide) (fun h438 => ?_) (fun h438 => G_pc (pc' := 343) rfl ?_)
                            · skip
                              refine G_iload (i := 2) (n := 3) (len := 1) (Or.inl ⟨2, rfl, rfl, d_Mo_reckon_358⟩) rfl (G_pc (pc' := 359) rfl ?_)
                              refine G_bipush (n := 37) d_Mo_reckon_359 (by decide) (G_pc (pc' := 361) rfl ?_)
                              refine G_icmp_ne (tgt := 379) d_Mo_reckon_361 (by decide) (fun h439 => ?_) (fun h439 => G_pc (pc' := 364) rfl ?_)
                              · skip
                                refine G_iload (i := 2) (n := 3) (len := 1) (Or.inl ⟨2, rfl, rfl, d_Mo_reckon_379⟩) rfl (G_pc (pc' := 380) rfl ?_)
                                refine G_bipush (n := 41) d_Mo_reckon_380 (by decide) (G_pc (pc' := 382) rfl ?_)
                                refine G_icmp_ne (tgt := 389) d_Mo_reckon_382 (by decide) (fun h440 => ?_) (fun h440 => G_pc (pc' := 385) rfl ?_)
                                · skip
                                  refine G_iconst (n := 0) d_Mo_reckon_389 (by decide) (G_pc (pc' := 390) rfl ?_)
                                  refine G_lload (i := 3) (n := 2) (len := 1) (Or.inl ⟨3, rfl, rfl, d_Mo_reckon_390⟩) rfl (G_pc (pc' := 391) rfl ?_)
                                  refine G_lload (i := 5) (n := 1) (len := 2) (Or.inr ⟨rfl, d_Mo_reckon_391⟩) rfl (G_pc (pc' := 393) rfl ?_)
                                  refine G_lcmp_ne (tgt := 401) d_Mo_reckon_393 d_Mo_reckon_394 (by decide) (fun h441 => ?_) (fun h441 => G_pc (pc' := 397) rfl ?_)
                                  · skip
                                    refine G_iconst (n := 0) d_Mo_reckon_401 (by decide) (G_pc (pc' := 402) rfl ?_)
                                    refine G_icmp_ne (tgt := 409) d_Mo_reckon_402 (by decide) (fun h442 => absurd h442 (by decide)) (fun h442 => G_pc (pc' := 405) rfl ?_)
                                    refine G_iconst (n := 1) d_Mo_reckon_405 (by decide) (G_pc (pc' := 406) rfl ?_)
                                    refine G_goto (tgt := 410) d_Mo_reckon_406 (by decide) ?_
                                    refine G_istore (i := 8) (len := 2) (ls' := [(8, vi 1), (7, vi 1), (5, vl (M 83 (M 78 n))), (3, vl (M 83 (M 77 n))), (2, vi (M 76 n)), (0, vr 55), (1, vi n)]) (Or.inr ⟨rfl, d_Mo_reckon_410⟩) (by decide) rfl (G_pc (pc' := 412) rfl ?_)
                                    refine G_aload (i := 0) (n := 5) (len := 1) (Or.inl ⟨0, rfl, rfl, d_Mo_reckon_412⟩) rfl (by decide) (G_pc (pc' := 413) rfl ?_)
                                    refine G_iload (i := 1) (n := 6) (len := 1) (Or.inl ⟨1, rfl, rfl, d_Mo_reckon_413⟩) rfl (G_pc (pc' := 414) rfl ?_)
                                    refine G_iload (i := 8) (n := 0) (len := 2) (Or.inr ⟨rfl, d_Mo_reckon_414⟩) rfl (G_pc (pc' := 416) rfl ?_)
                                    refine G_if_eq (tgt := 423) d_Mo_reckon_416 (by decide) (fun h443 => absurd h443 (by decide)) (fun h443 => G_pc (pc' := 419) rfl ?_)
                                    refine G_lconst1 d_Mo_reckon_419 (G_pc (pc' := 420) rfl ?_)
                                    refine G_goto (tgt := 424) d_Mo_reckon_420 (by decide) ?_
                                    refine G_callV (K1 := KE) (d2 := 0) (o := 55) (cl := 9) (as := [vi n, vl 1]) (rest := []) d_Mo_reckon_424 mf_Mo_set ml_Mo_289 rfl rfl (by decide) rfl rfl (Nat.le_of_ble_eq_true rfl) (by omega) ⟨Nat.le_refl _, Nat.le_refl _⟩ (g_Mo_set (by omega) n 1 _ (by omega)) (fun r444 M445 kq446 q446 => ?_)
                                    clear kq446; obtain ⟨q446a, q446b⟩ := q446; subst r444; subst M445
                                    refine G_ps (pc' := 427) (st' := []) rfl rfl ?_
                                    refine G_vret d_Mo_reckon_427 rfl rfl ?_
                                    refine ⟨rfl, ?_⟩; exact cmp_v (by unfold reckF; first | grind | grind [cmpB] | grind [needF])
                                  · skip
                                    refine G_iconst (n := 1) d_Mo_reckon_397 (by decide) (G_pc (pc' := 398) rfl ?_)
                                    refine G_goto (tgt := 402) d_Mo_reckon_398 (by decide) ?_
                                    refine G_icmp_ne (tgt := 409) d_Mo_reckon_402 (by decide) (fun h447 => ?_) (fun h447 => absurd h447 (by decide))
                                    refine G_iconst (n := 0) d_Mo_reckon_409 (by decide) (G_pc (pc' := 410) rfl ?_)
                                    refine G_istore (i := 8) (len := 2) (ls' := [(8, vi 0), (7, vi 1), (5, vl (M 83 (M 78 n))), (3, vl (M 83 (M 77 n))), (2, vi (M 76 n)), (0, vr 55), (1, vi n)]) (Or.inr ⟨rfl, d_Mo_reckon_410⟩) (by decide) rfl (G_pc (pc' := 412) rfl ?_)
                                    refine G_aload (i := 0) (n := 5) (len := 1) (Or.inl ⟨0, rfl, rfl, d_Mo_reckon_412⟩) rfl (by decide) (G_pc (pc' := 413) rfl ?_)
                                    refine G_iload (i := 1) (n := 6) (len := 1) (Or.inl ⟨1, rfl, rfl, d_Mo_reckon_413⟩) rfl (G_pc (pc' := 414) rfl ?_)
                                    refine G_iload (i := 8) (n := 0) (len := 2) (Or.inr ⟨rfl, d_Mo_reckon_414⟩) rfl (G_pc (pc' := 416) rfl ?_)
                                    refine G_if_eq (tgt := 423) d_Mo_reckon_416 (by decide) (fun h448 => ?_) (fun h448 => absurd h448 (by decide))
                                    refine G_lconst0 d_Mo_reckon_423 (G_pc (pc' := 424) rfl ?_)
                                    refine G_callV (K1 := KE) (d2 := 0) (o := 55) (cl := 9) (as := [vi n, vl 0]) (rest := []) d_Mo_reckon_424 mf_Mo_set ml_Mo_289 rfl rfl (by decide) rfl rfl (Nat.le_of_ble_eq_true rfl) (by omega) ⟨Nat.le_refl _, Nat.le_refl _⟩ (g_Mo_set (by omega) n 0 _ (by omega)) (fun r449 M450 kq451 q451 => ?_)
                                    clear kq451; obtain ⟨q451a, q451b⟩ := q451; subst r449; subst M450
                                    refine G_ps (pc' := 427) (st' := []) rfl rfl ?_
                                    refine G_vret d_Mo_reckon_427 rfl rfl ?_
                                    refine ⟨rfl, ?_⟩; exact cmp_v (by unfold reckF; first | grind | grind [cmpB] | grind [needF])
                                · skip
                                  refine G_iconst (n := 1) d_Mo_reckon_385 (by decide) (G_pc (pc' := 386) rfl ?_)
                                  refine G_goto (tgt := 390) d_Mo_reckon_386 (by decide) ?_
                                  refine G_lload (i := 3) (n := 2) (len := 1) (Or.inl ⟨3, rfl, rfl, d_Mo_reckon_390⟩) rfl (G_pc (pc' := 391) rfl ?_)
                                  refine G_lload (i := 5) (n := 1) (len := 2) (Or.inr ⟨rfl, d_Mo_reckon_391⟩) rfl (G_pc (pc' := 393) rfl ?_)
                                  refine G_lcmp_ne (tgt := 401) d_Mo_reckon_393 d_Mo_reckon_394 (by decide) (fun h452 => ?_) (fun h452 => G_pc (pc' := 397) rfl ?_)
                                  · skip
                                    refine G_iconst (n := 0) d_Mo_reckon_401 (by decide) (G_pc (pc' := 402) rfl ?_)
                                    refine G_icmp_ne (tgt := 409) d_Mo_reckon_402 (by decide) (fun h453 => ?_) (fun h453 => absurd h453 (by decide))
                                    refine G_iconst (n := 0) d_Mo_reckon_409 (by decide) (G_pc (pc' := 410) rfl ?_)
                                    refine G_istore (i := 8) (len := 2) (ls' := [(8, vi 0), (7, vi 1), (5, vl (M 83 (M 78 n))), (3, vl (M 83 (M 77 n))), (2, vi (M 76 n)), (0, vr 55), (1, vi n)]) (Or.inr ⟨rfl, d_Mo_reckon_410⟩) (by decide) rfl (G_pc (pc' := 412) rfl ?_)
                                    refine G_aload (i := 0) (n := 5) (len := 1) (Or.inl ⟨0, rfl, rfl, d_Mo_reckon_412⟩) rfl (by decide) (G_pc (pc' := 413) rfl ?_)
                                    refine G_iload (i := 1) (n := 6) (len := 1) (Or.inl ⟨1, rfl, rfl, d_Mo_reckon_413⟩) rfl (G_pc (pc' := 414) rfl ?_)
                                    refine G_iload (i := 8) (n := 0) (len := 2) (Or.inr ⟨rfl, d_Mo_reckon_414⟩) rfl (G_pc (pc' := 416) rfl ?_)
                                    refine G_if_eq (tgt := 423) d_Mo_reckon_416 (by decide) (fun h454 => ?_) (fun h454 => absurd h454 (by decide))
                                    refine G_lconst0 d_Mo_reckon_423 (G_pc (pc' := 424) rfl ?_)
                                    refine G_callV (K1 := KE) (d2 := 0) (o := 55) (cl := 9) (as := [vi n, vl 0]) (rest := []) d_Mo_reckon_424 mf_Mo_set ml_Mo_289 rfl rfl (by decide) rfl rfl (Nat.le_of_ble_eq_true rfl) (by omega) ⟨Nat.le_refl _, Nat.le_refl _⟩ (g_Mo_set (by omega) n 0 _ (by omega)) (fun r455 M456 kq457 q457 => ?_)
                                    clear kq457; obtain ⟨q457a, q457b⟩ := q457; subst r455; subst M456
                                    refine G_ps (pc' := 427) (st' := []) rfl rfl ?_
                                    refine G_vret d_Mo_reckon_427 rfl rfl ?_
                                    refine ⟨rfl, ?_⟩; exact cmp_v (by unfold reckF; first | grind | grind [cmpB] | grind [needF])
                                  · skip
                                    refine G_iconst (n := 1) d_Mo_reckon_397 (by decide) (G_pc (pc' := 398) rfl ?_)
                                    refine G_goto (tgt := 402) d_Mo_reckon_398 (by decide) ?_
                                    refine G_icmp_ne (tgt := 409) d_Mo_reckon_402 (by decide) (fun h458 => absurd h458 (by decide)) (fun h458 => G_pc (pc' := 405) rfl ?_)
                                    refine G_iconst (n := 1) d_Mo_reckon_405 (by decide) (G_pc (pc' := 406) rfl ?_)
                                    refine G_goto (tgt := 410) d_Mo_reckon_406 (by decide) ?_
                                    refine G_istore (i := 8) (len := 2) (ls' := [(8, vi 1), (7, vi 1), (5, vl (M 83 (M 78 n))), (3, vl (M 83 (M 77 n))), (2, vi (M 76 n)), (0, vr 55), (1, vi n)]) (Or.inr ⟨rfl, d_Mo_reckon_410⟩) (by decide) rfl (G_pc (pc' := 412) rfl ?_)
                                    refine G_aload (i := 0) (n := 5) (len := 1) (Or.inl ⟨0, rfl, rfl, d_Mo_reckon_412⟩) rfl (by decide) (G_pc (pc' := 413) rfl ?_)
                                    refine G_iload (i := 1) (n := 6) (len := 1) (Or.inl ⟨1, rfl, rfl, d_Mo_reckon_413⟩) rfl (G_pc (pc' := 414) rfl ?_)
                                    refine G_iload (i := 8) (n := 0) (len := 2) (Or.inr ⟨rfl, d_Mo_reckon_414⟩) rfl (G_pc (pc' := 416) rfl ?_)
                                    refine G_if_eq (tgt := 423) d_Mo_reckon_416 (by decide) (fun h459 => absurd h459 (by decide)) (fun h459 => G_pc (pc' := 419) rfl ?_)
                                    refine G_lconst1 d_Mo_reckon_419 (G_pc (pc' := 420) rfl ?_)
                                    refine G_goto (tgt := 424) d_Mo_reckon_420 (by decide) ?_
                                    refine G_callV (K1 := KE) (d2 := 0) (o := 55) (cl := 9) (as := [vi n, vl 1]) (rest := []) d_Mo_reckon_424 mf_Mo_set ml_Mo_289 rfl rfl (by decide) rfl rfl (Nat.le_of_ble_eq_true rfl) (by omega) ⟨Nat.le_refl _, Nat.le_refl _⟩ (g_Mo_set (by omega) n 1 _ (by omega)) (fun r460 M461 kq462 q462 => ?_)
                                    clear kq462; obtain ⟨q462a, q462b⟩ := q462; subst r460; subst M461
                                    refine G_ps (pc' := 427) (st' := []) rfl rfl ?_
                                    refine G_vret d_Mo_reckon_427 rfl rfl ?_
                                    refine ⟨rfl, ?_⟩; exact cmp_v (by unfold reckF; first | grind | grind [cmpB] | grind [needF])
                              · skip
                                refine G_lload (i := 3) (n := 2) (len := 1) (Or.inl ⟨3, rfl, rfl, d_Mo_reckon_364⟩) rfl (G_pc (pc' := 365) rfl ?_)
                                refine G_lload (i := 5) (n := 1) (len := 2) (Or.inr ⟨rfl, d_Mo_reckon_365⟩) rfl (G_pc (pc' := 367) rfl ?_)
                                refine G_lcmp_lt (tgt := 375) d_Mo_reckon_367 d_Mo_reckon_368 (by decide) (fun h463 => ?_) (fun h463 => G_pc (pc' := 371) rfl ?_)
                                · skip
                                  refine G_iconst (n := 0) d_Mo_reckon_375 (by decide) (G_pc (pc' := 376) rfl ?_)
                                  refine G_goto (tgt := 410) d_Mo_reckon_376 (by decide) ?_
                                  refine G_istore (i := 8) (len := 2) (ls' := [(8, vi 0), (7, vi 1), (5, vl (M 83 (M 78 n))), (3, vl (M 83 (M 77 n))), (2, vi (M 76 n)), (0, vr 55), (1, vi n)]) (Or.inr ⟨rfl, d_Mo_reckon_410⟩) (by decide) rfl (G_pc (pc' := 412) rfl ?_)
                                  refine G_aload (i := 0) (n := 5) (len := 1) (Or.inl ⟨0, rfl, rfl, d_Mo_reckon_412⟩) rfl (by decide) (G_pc (pc' := 413) rfl ?_)
                                  refine G_iload (i := 1) (n := 6) (len := 1) (Or.inl ⟨1, rfl, rfl, d_Mo_reckon_413⟩) rfl (G_pc (pc' := 414) rfl ?_)
                                  refine G_iload (i := 8) (n := 0) (len := 2) (Or.inr ⟨rfl, d_Mo_reckon_414⟩) rfl (G_pc (pc' := 416) rfl ?_)
                                  refine G_if_eq (tgt := 423) d_Mo_reckon_416 (by decide) (fun h464 => ?_) (fun h464 => absurd h464 (by decide))
                                  refine G_lconst0 d_Mo_reckon_423 (G_pc (pc' := 424) rfl ?_)
                                  refine G_callV (K1 := KE) (d2 := 0) (o := 55) (cl := 9) (as := [vi n, vl 0]) (rest := []) d_Mo_reckon_424 mf_Mo_set ml_Mo_289 rfl rfl (by decide) rfl rfl (Nat.le_of_ble_eq_true rfl) (by omega) ⟨Nat.le_refl _, Nat.le_refl _⟩ (g_Mo_set (by omega) n 0 _ (by omega)) (fun r465 M466 kq467 q467 => ?_)
                                  clear kq467; obtain ⟨q467a, q467b⟩ := q467; subst r465; subst M466
                                  refine G_ps (pc' := 427) (st' := []) rfl rfl ?_
                                  refine G_vret d_Mo_reckon_427 rfl rfl ?_
                                  refine ⟨rfl, ?_⟩; exact cmp_v (by unfold reckF; first | grind | grind [cmpB] | grind [needF])
                                · skip
                                  refine G_iconst (n := 1) d_Mo_reckon_371 (by decide) (G_pc (pc' := 372) rfl ?_)
                                  refine G_goto (tgt := 410) d_Mo_reckon_372 (by decide) ?_
                                  refine G_istore (i := 8) (len := 2) (ls' := [(8, vi 1), (7, vi 1), (5, vl (M 83 (M 78 n))), (3, vl (M 83 (M 77 n))), (2, vi (M 76 n)), (0, vr 55), (1, vi n)]) (Or.inr ⟨rfl, d_Mo_reckon_410⟩) (by decide) rfl (G_pc (pc' := 412) rfl ?_)
                                  refine G_aload (i := 0) (n := 5) (len := 1) (Or.inl ⟨0, rfl, rfl, d_Mo_reckon_412⟩) rfl (by decide) (G_pc (pc' := 413) rfl ?_)
                                  refine G_iload (i := 1) (n := 6) (len := 1) (Or.inl ⟨1, rfl, rfl, d_Mo_reckon_413⟩) rfl (G_pc (pc' := 414) rfl ?_)
                                  refine G_iload (i := 8) (n := 0) (len := 2) (Or.inr ⟨rfl, d_Mo_reckon_414⟩) rfl (G_pc (pc' := 416) rfl ?_)
                                  refine G_if_eq (tgt := 423) d_Mo_reckon_416 (by decide) (fun h468 => absurd h468 (by decide)) (fun h468 => G_pc (pc' := 419) rfl ?_)
                                  refine G_lconst1 d_Mo_reckon_419 (G_pc (pc' := 420) rfl ?_)
                                  refine G_goto (tgt := 424) d_Mo_reckon_420 (by decide) ?_
                                  refine G_callV (K1 := KE) (d2 := 0) (o := 55) (cl := 9) (as := [vi n, vl 1]) (rest := []) d_Mo_reckon_424 mf_Mo_set ml_Mo_289 rfl rfl (by decide) rfl rfl (Nat.le_of_ble_eq_true rfl) (by omega) ⟨Nat.le_refl _, Nat.le_refl _⟩ (g_Mo_set (by omega) n 1 _ (by omega)) (fun r469 M470 kq471 q471 => ?_)
                                  clear kq471; obtain ⟨q471a, q471b⟩ := q471; subst r469; subst M470
                                  refine G_ps (pc' := 427) (st' := []) rfl rfl ?_
                                  refine G_vret d_Mo_reckon_427 rfl rfl ?_
                                  refine ⟨rfl, ?_⟩; exact cmp_v (by unfold reckF; first | grind | grind [cmpB] | grind [needF])
                            · skip
                              refine G_lload (i := 3) (n := 2) (len := 1) (Or.inl ⟨3, rfl, rfl, d_Mo_reckon_343⟩) rfl (G_pc (pc' := 344) rfl ?_)
                              refine G_lload (i := 5) (n := 1) (len := 2) (Or.inr ⟨rfl, d_Mo_reckon_344⟩) rfl (G_pc (pc' := 346) rfl ?_)
                              refine G_lcmp_le (tgt := 354) d_Mo_reckon_346 d_Mo_reckon_347 (by decide) (fun h472 => ?_) (fun h472 => G_pc (pc' := 350) rfl ?_)
                              · skip
                                refine G_iconst (n := 0) d_Mo_reckon_354 (by decide) (G_pc (pc' := 355) rfl ?_)
                                refine G_goto (tgt := 410) d_Mo_reckon_355 (by decide) ?_
                                refine G_istore (i := 8) (len := 2) (ls' := [(8, vi 0), (7, vi 1), (5, vl (M 83 (M 78 n))), (3, vl (M 83 (M 77 n))), (2, vi (M 76 n)), (0, vr 55), (1, vi n)]) (Or.inr ⟨rfl, d_Mo_reckon_410⟩) (by decide) rfl (G_pc (pc' := 412) rfl ?_)
                                refine G_aload (i := 0) (n := 5) (len := 1) (Or.inl ⟨0, rfl, rfl, d_Mo_reckon_412⟩) rfl (by decide) (G_pc (pc' := 413) rfl ?_)
                                refine G_iload (i := 1) (n := 6) (len := 1) (Or.inl ⟨1, rfl, rfl, d_Mo_reckon_413⟩) rfl (G_pc (pc' := 414) rfl ?_)
                                refine G_iload (i := 8) (n := 0) (len := 2) (Or.inr ⟨rfl, d_Mo_reckon_414⟩) rfl (G_pc (pc' := 416) rfl ?_)
                                refine G_if_eq (tgt := 423) d_Mo_reckon_416 (by decide) (fun h473 => ?_) (fun h473 => absurd h473 (by decide))
                                refine G_lconst0 d_Mo_reckon_423 (G_pc (pc' := 424) rfl ?_)
                                refine G_callV (K1 := KE) (d2 := 0) (o := 55) (cl := 9) (as := [vi n, vl 0]) (rest := []) d_Mo_reckon_424 mf_Mo_set ml_Mo_289 rfl rfl (by decide) rfl rfl (Nat.le_of_ble_eq_true rfl) (by omega) ⟨Nat.le_refl _, Nat.le_refl _⟩ (g_Mo_set (by omega) n 0 _ (by omega)) (fun r474 M475 kq476 q476 => ?_)
                                clear kq476; obtain ⟨q476a, q476b⟩ := q476; subst r474; subst M475
                                refine G_ps (pc' := 427) (st' := []) rfl rfl ?_
                                refine G_vret d_Mo_reckon_427 rfl rfl ?_
                                refine ⟨rfl, ?_⟩; exact cmp_v (by unfold reckF; first | grind | grind [cmpB] | grind [needF])
                              · skip
                                refine G_iconst (n := 1) d_Mo_reckon_350 (by decide) (G_pc (pc' := 351) rfl ?_)
                                refine G_goto (tgt := 410) d_Mo_reckon_351 (by decide) ?_
                                refine G_istore (i := 8) (len := 2) (ls' := [(8, vi 1), (7, vi 1), (5, vl (M 83 (M 78 n))), (3, vl (M 83 (M 77 n))), (2, vi (M 76 n)), (0, vr 55), (1, vi n)]) (Or.inr ⟨rfl, d_Mo_reckon_410⟩) (by decide) rfl (G_pc (pc' := 412) rfl ?_)
                                refine G_aload (i := 0) (n := 5) (len := 1) (Or.inl ⟨0, rfl, rfl, d_Mo_reckon_412⟩) rfl (by decide) (G_pc (pc' := 413) rfl ?_)
                                refine G_iload (i := 1) (n := 6) (len := 1) (Or.inl ⟨1, rfl, rfl, d_Mo_reckon_413⟩) rfl (G_pc (pc' := 414) rfl ?_)
                                refine G_iload (i := 8) (n := 0) (len := 2) (Or.inr ⟨rfl, d_Mo_reckon_414⟩) rfl (G_pc (pc' := 416) rfl ?_)
                                refine G_if_eq (tgt := 423) d_Mo_reckon_416 (by decide) (fun h477 => absurd h477 (by decide)) (fun h477 => G_pc (pc' := 419) rfl ?_)
                                refine G_lconst1 d_Mo_reckon_419 (G_pc (pc' := 420) rfl ?_)
                                refine G_goto (tgt := 424) d_Mo_reckon_420 (by decide) ?_
                                refine G_callV (K1 := KE) (d2 := 0) (o := 55) (cl := 9) (as := [vi n, vl 1]) (rest := []) d_Mo_reckon_424 mf_Mo_set ml_Mo_289 rfl rfl (by decide) rfl rfl (Nat.le_of_ble_eq_true rfl) (by omega) ⟨Nat.le_refl _, Nat.le_refl _⟩ (g_Mo_set (by omega) n 1 _ (by omega)) (fun r478 M479 kq480 q480 => ?_)
                                clear kq480; obtain ⟨q480a, q480b⟩ := q480; subst r478; subst M479
                                refine G_ps (pc' := 427) (st' := []) rfl rfl ?_
                                refine G_vret d_Mo_reckon_427 rfl rfl ?_
                                refine ⟨rfl, ?_⟩; exact cmp_v (by unfold reckF; first | grind | grind [cmpB] | grind [needF])
                          · skip
                            refine G_lload (i := 3) (n := 2) (len := 1) (Or.inl ⟨3, rfl, rfl, d_Mo_reckon_322⟩) rfl (G_pc (pc' := 323) rfl ?_)
                            refine G_lload (i := 5) (n := 1) (len := 2) (Or.inr ⟨rfl, d_Mo_reckon_323⟩) rfl (G_pc (pc' := 325) rfl ?_)
                            refine G_lcmp_gt (tgt := 333) d_Mo_reckon_325 d_Mo_reckon_326 (by decide) (fun h481 => ?_) (fun h481 => G_pc (pc' := 329) rfl ?_)
                            · skip
                              refine G_iconst (n := 0) d_Mo_reckon_333 (by decide) (G_pc (pc' := 334) rfl ?_)
                              refine G_goto (tgt := 410) d_Mo_reckon_334 (by decide) ?_
                              refine G_istore (i := 8) (len := 2) (ls' := [(8, vi 0), (7, vi 1), (5, vl (M 83 (M 78 n))), (3, vl (M 83 (M 77 n))), (2, vi (M 76 n)), (0, vr 55), (1, vi n)]) (Or.inr ⟨rfl, d_Mo_reckon_410⟩) (by decide) rfl (G_pc (pc' := 412) rfl ?_)
                              refine G_aload (i := 0) (n := 5) (len := 1) (Or.inl ⟨0, rfl, rfl, d_Mo_reckon_412⟩) rfl (by decide) (G_pc (pc' := 413) rfl ?_)
                              refine G_iload (i := 1) (n := 6) (len := 1) (Or.inl ⟨1, rfl, rfl, d_Mo_reckon_413⟩) rfl (G_pc (pc' := 414) rfl ?_)
                              refine G_iload (i := 8) (n := 0) (len := 2) (Or.inr ⟨rfl, d_Mo_reckon_414⟩) rfl (G_pc (pc' := 416) rfl ?_)
                              refine G_if_eq (tgt := 423) d_Mo_reckon_416 (by decide) (fun h482 => ?_) (fun h482 => absurd h482 (by decide))
                              refine G_lconst0 d_Mo_reckon_423 (G_pc (pc' := 424) rfl ?_)
                              refine G_callV (K1 := KE) (d2 := 0) (o := 55) (cl := 9) (as := [vi n, vl 0]) (rest := []) d_Mo_reckon_424 mf_Mo_set ml_Mo_289 rfl rfl (by decide) rfl rfl (Nat.le_of_ble_eq_true rfl) (by omega) ⟨Nat.le_refl _, Nat.le_refl _⟩ (g_Mo_set (by omega) n 0 _ (by omega)) (fun r483 M484 kq485 q485 => ?_)
                              clear kq485; obtain ⟨q485a, q485b⟩ := q485; subst r483; subst M484
                              refine G_ps (pc' := 427) (st' := []) rfl rfl ?_
                              refine G_vret d_Mo_reckon_427 rfl rfl ?_
                              refine ⟨rfl, ?_⟩; exact cmp_v (by unfold reckF; first | grind | grind [cmpB] | grind [needF])
                            · skip
                              refine G_iconst (n := 1) d_Mo_reckon_329 (by decide) (G_pc (pc' := 330) rfl ?_)
                              refine G_goto (tgt := 410) d_Mo_reckon_330 (by decide) ?_
                              refine G_istore (i := 8) (len := 2) (ls' := [(8, vi 1), (7, vi 1), (5, vl (M 83 (M 78 n))), (3, vl (M 83 (M 77 n))), (2, vi (M 76 n)), (0, vr 55), (1, vi n)]) (Or.inr ⟨rfl, d_Mo_reckon_410⟩) (by decide) rfl (G_pc (pc' := 412) rfl ?_)
                              refine G_aload (i := 0) (n := 5) (len := 1) (Or.inl ⟨0, rfl, rfl, d_Mo_reckon_412⟩) rfl (by decide) (G_pc (pc' := 413) rfl ?_)
                              refine G_iload (i := 1) (n := 6) (len := 1) (Or.inl ⟨1, rfl, rfl, d_Mo_reckon_413⟩) rfl (G_pc (pc' := 414) rfl ?_)
                              refine G_iload (i := 8) (n := 0) (len := 2) (Or.inr ⟨rfl, d_Mo_reckon_414⟩) rfl (G_pc (pc' := 416) rfl ?_)
                              refine G_if_eq (tgt := 423) d_Mo_reckon_416 (by decide) (fun h486 => absurd h486 (by decide)) (fun h486 => G_pc (pc' := 419) rfl ?_)
                              refine G_lconst1 d_Mo_reckon_419 (G_pc (pc' := 420) rfl ?_)
                              refine G_goto (tgt := 424) d_Mo_reckon_420 (by decide) ?_
                              refine G_callV (K1 := KE) (d2 := 0) (o := 55) (cl := 9) (as := [vi n, vl 1]) (rest := []) d_Mo_reckon_424 mf_Mo_set ml_Mo_289 rfl rfl (by decide) rfl rfl (Nat.le_of_ble_eq_true rfl) (by omega) ⟨Nat.le_refl _, Nat.le_refl _⟩ (g_Mo_set (by omega) n 1 _ (by omega)) (fun r487 M488 kq489 q489 => ?_)
                              clear kq489; obtain ⟨q489a, q489b⟩ := q489; subst r487; subst M488
                              refine G_ps (pc' := 427) (st' := []) rfl rfl ?_
                              refine G_vret d_Mo_reckon_427 rfl rfl ?_
                              refine ⟨rfl, ?_⟩; exact cmp_v (by unfold reckF; first | grind | grind [cmpB] | grind [needF])
                        · skip
                          refine G_lload (i := 3) (n := 2) (len := 1) (Or.inl ⟨3, rfl, rfl, d_Mo_reckon_301⟩) rfl (G_pc (pc' := 302) rfl ?_)
                          refine G_lload (i := 5) (n := 1) (len := 2) (Or.inr ⟨rfl, d_Mo_reckon_302⟩) rfl (G_pc (pc' := 304) rfl ?_)
                          refine G_lcmp_ge (tgt := 312) d_Mo_reckon_304 d_Mo_reckon_305 (by decide) (fun h490 => ?_) (fun h490 => G_pc (pc' := 308) rfl ?_)
                          · skip
                            refine G_iconst (n := 0) d_Mo_reckon_312 (by decide) (G_pc (pc' := 313) rfl ?_)
                            refine G_goto (tgt := 410) d_Mo_reckon_313 (by decide) ?_
                            refine G_istore (i := 8) (len := 2) (ls' := [(8, vi 0), (7, vi 1), (5, vl (M 83 (M 78 n))), (3, vl (M 83 (M 77 n))), (2, vi (M 76 n)), (0, vr 55), (1, vi n)]) (Or.inr ⟨rfl, d_Mo_reckon_410⟩) (by decide) rfl (G_pc (pc' := 412) rfl ?_)
                            refine G_aload (i := 0) (n := 5) (len := 1) (Or.inl ⟨0, rfl, rfl, d_Mo_reckon_412⟩) rfl (by decide) (G_pc (pc' := 413) rfl ?_)
                            refine G_iload (i := 1) (n := 6) (len := 1) (Or.inl ⟨1, rfl, rfl, d_Mo_reckon_413⟩) rfl (G_pc (pc' := 414) rfl ?_)
                            refine G_iload (i := 8) (n := 0) (len := 2) (Or.inr ⟨rfl, d_Mo_reckon_414⟩) rfl (G_pc (pc' := 416) rfl ?_)
                            refine G_if_eq (tgt := 423) d_Mo_reckon_416 (by decide) (fun h491 => ?_) (fun h491 => absurd h491 (by decide))
                            refine G_lconst0 d_Mo_reckon_423 (G_pc (pc' := 424) rfl ?_)
                            refine G_callV (K1 := KE) (d2 := 0) (o := 55) (cl := 9) (as := [vi n, vl 0]) (rest := []) d_Mo_reckon_424 mf_Mo_set ml_Mo_289 rfl rfl (by decide) rfl rfl (Nat.le_of_ble_eq_true rfl) (by omega) ⟨Nat.le_refl _, Nat.le_refl _⟩ (g_Mo_set (by omega) n 0 _ (by omega)) (fun r492 M493 kq494 q494 => ?_)
                            clear kq494; obtain ⟨q494a, q494b⟩ := q494; subst r492; subst M493
                            refine G_ps (pc' := 427) (st' := []) rfl rfl ?_
                            refine G_vret d_Mo_reckon_427 rfl rfl ?_
                            refine ⟨rfl, ?_⟩; exact cmp_v (by unfold reckF; first | grind | grind [cmpB] | grind [needF])
                          · skip
                            refine G_iconst (n := 1) d_Mo_reckon_308 (by decide) (G_pc (pc' := 309) rfl ?_)
                            refine G_goto (tgt := 410) d_Mo_reckon_309 (by decide) ?_
                            refine G_istore (i := 8) (len := 2) (ls' := [(8, vi 1), (7, vi 1), (5, vl (M 83 (M 78 n))), (3, vl (M 83 (M 77 n))), (2, vi (M 76 n)), (0, vr 55), (1, vi n)]) (Or.inr ⟨rfl, d_Mo_reckon_410⟩) (by decide) rfl (G_pc (pc' := 412) rfl ?_)
                            refine G_aload (i := 0) (n := 5) (len := 1) (Or.inl ⟨0, rfl, rfl, d_Mo_reckon_412⟩) rfl (by decide) (G_pc (pc' := 413) rfl ?_)
                            refine G_iload (i := 1) (n := 6) (len := 1) (Or.inl ⟨1, rfl, rfl, d_Mo_reckon_413⟩) rfl (G_pc (pc' := 414) rfl ?_)
                            refine G_iload (i := 8) (n := 0) (len := 2) (Or.inr ⟨rfl, d_Mo_reckon_414⟩) rfl (G_pc (pc' := 416) rfl ?_)
                            refine G_if_eq (tgt := 423) d_Mo_reckon_416 (by decide) (fun h495 => absurd h495 (by decide)) (fun h495 => G_pc (pc' := 419) rfl ?_)
                            refine G_lconst1 d_Mo_reckon_419 (G_pc (pc' := 420) rfl ?_)
                            refine G_goto (tgt := 424) d_Mo_reckon_420 (by decide) ?_
                            refine G_callV (K1 := KE) (d2 := 0) (o := 55) (cl := 9) (as := [vi n, vl 1]) (rest := []) d_Mo_reckon_424 mf_Mo_set ml_Mo_289 rfl rfl (by decide) rfl rfl (Nat.le_of_ble_eq_true rfl) (by omega) ⟨Nat.le_refl _, Nat.le_refl _⟩ (g_Mo_set (by omega) n 1 _ (by omega)) (fun r496 M497 kq498 q498 => ?_)
                            clear kq498; obtain ⟨q498a, q498b⟩ := q498; subst r496; subst M497
                            refine G_ps (pc' := 427) (st' := []) rfl rfl ?_
                            refine G_vret d_Mo_reckon_427 rfl rfl ?_
                            refine ⟨rfl, ?_⟩; exact cmp_v (by unfold reckF; first | grind | grind [cmpB] | grind [needF])
                      · skip
                        refine G_aload (i := 0) (n := 4) (len := 1) (Or.inl ⟨0, rfl, rfl, d_Mo_reckon_257⟩) rfl (by decide) (G_pc (pc' := 258) rfl ?_)
                        refine G_iload (i := 1) (n := 5) (len := 1) (Or.inl ⟨1, rfl, rfl, d_Mo_reckon_258⟩) rfl (G_pc (pc' := 259) rfl ?_)
                        refine G_iload (i := 2) (n := 3) (len := 1) (Or.inl ⟨2, rfl, rfl, d_Mo_reckon_259⟩) rfl (G_pc (pc' := 260) rfl ?_)
                        refine G_bipush (n := 43) d_Mo_reckon_260 (by decide) (G_pc (pc' := 262) rfl ?_)
                        refine G_icmp_ne (tgt := 272) d_Mo_reckon_262 (by decide) (fun h499 => ?_) (fun h499 => G_pc (pc' := 265) rfl ?_)
                        · skip
                          refine G_iload (i := 2) (n := 3) (len := 1) (Or.inl ⟨2, rfl, rfl, d_Mo_reckon_272⟩) rfl (G_pc (pc' := 273) rfl ?_)
                          refine G_bipush (n := 45) d_Mo_reckon_273 (by decide) (G_pc (pc' := 275) rfl ?_)
                          refine G_icmp_ne (tgt := 285) d_Mo_reckon_275 (by decide) (fun h500 => ?_) (fun h500 => G_pc (pc' := 278) rfl ?_)
                          · skip
                            refine G_lload (i := 3) (n := 2) (len := 1) (Or.inl ⟨3, rfl, rfl, d_Mo_reckon_285⟩) rfl (G_pc (pc' := 286) rfl ?_)
                            refine G_lload (i := 5) (n := 1) (len := 2) (Or.inr ⟨rfl, d_Mo_reckon_286⟩) rfl (G_pc (pc' := 288) rfl ?_)
                            refine G_lxor d_Mo_reckon_288 (G_pc (pc' := 289) rfl ?_)
                            refine G_callV (K1 := KE) (d2 := 0) (o := 55) (cl := 9) (as := [vi n, vl (o_lxor (M 83 (M 77 n)) (M 83 (M 78 n)))]) (rest := []) d_Mo_reckon_289 mf_Mo_set ml_Mo_289 rfl rfl (by decide) rfl rfl (Nat.le_of_ble_eq_true rfl) (by omega) ⟨Nat.le_refl _, Nat.le_refl _⟩ (g_Mo_set (by omega) n (o_lxor (M 83 (M 77 n)) (M 83 (M 78 n))) _ (by omega)) (fun r501 M502 kq503 q503 => ?_)
                            clear kq503; obtain ⟨q503a, q503b⟩ := q503; subst r501; subst M502
                            refine G_ps (pc' := 292) (st' := []) rfl rfl ?_
                            refine G_goto (tgt := 427) d_Mo_reckon_292 (by decide) ?_
                            refine G_vret d_Mo_reckon_427 rfl rfl ?_
                            refine ⟨rfl, ?_⟩; exact cmp_v (by unfold reckF; first | grind | grind [cmpB] | grind [needF])
                          · skip
                            refine G_lload (i := 3) (n := 2) (len := 1) (Or.inl ⟨3, rfl, rfl, d_Mo_reckon_278⟩) rfl (G_pc (pc' := 279) rfl ?_)
                            refine G_lload (i := 5) (n := 1) (len := 2) (Or.inr ⟨rfl, d_Mo_reckon_279⟩) rfl (G_pc (pc' := 281) rfl ?_)
                            refine G_lor d_Mo_reckon_281 (G_pc (pc' := 282) rfl ?_)
                            refine G_goto (tgt := 289) d_Mo_reckon_282 (by decide) ?_
                            refine G_callV (K1 := KE) (d2 := 0) (o := 55) (cl := 9) (as := [vi n, vl (o_lor (M 83 (M 77 n)) (M 83 (M 78 n)))]) (rest := []) d_Mo_reckon_289 mf_Mo_set ml_Mo_289 rfl rfl (by decide) rfl rfl (Nat.le_of_ble_eq_true rfl) (by omega) ⟨Nat.le_refl _, Nat.le_refl _⟩ (g_Mo_set (by omega) n (o_lor (M 83 (M 77 n)) (M 83 (M 78 n))) _ (by omega)) (fun r504 M505 kq506 q506 => ?_)
                            clear kq506; obtain ⟨q506a, q506b⟩ := q506; subst r504; subst M505
                            refine G_ps (pc' := 292) (st' := []) rfl rfl ?_
                            refine G_goto (tgt := 427) d_Mo_reckon_292 (by decide) ?_
                            refine G_vret d_Mo_reckon_427 rfl rfl ?_
                            refine ⟨rfl, ?_⟩; exact cmp_v (by unfold reckF; first | grind | grind [cmpB] | grind [needF])
                        · skip
                          refine G_lload (i := 3) (n := 2) (len := 1) (Or.inl ⟨3, rfl, rfl, d_Mo_reckon_265⟩) rfl (G_pc (pc' := 266) rfl ?_)
                          refine G_lload (i := 5) (n := 1) (len := 2) (Or.inr ⟨rfl, d_Mo_reckon_266⟩) rfl (G_pc (pc' := 268) rfl ?_)
                          refine G_land d_Mo_reckon_268 (G_pc (pc' := 269) rfl ?_)
                          refine G_goto (tgt := 289) d_Mo_reckon_269 (by decide) ?_
                          refine G_callV (K1 := KE) (d2 := 0) (o := 55) (cl := 9) (as := [vi n, vl (o_land (M 83 (M 77 n)) (M 83 (M 78 n)))]) (rest := []) d_Mo_reckon_289 mf_Mo_set ml_Mo_289 rfl rfl (by decide) rfl rfl (Nat.le_of_ble_eq_true rfl) (by omega) ⟨Nat.le_refl _, Nat.le_refl _⟩ (g_Mo_set (by omega) n (o_land (M 83 (M 77 n)) (M 83 (M 78 n))) _ (by omega)) (fun r507 M508 kq509 q509 => ?_)
                          clear kq509; obtain ⟨q509a, q509b⟩ := q509; subst r507; subst M508
                          refine G_ps (pc' := 292) (st' := []) rfl rfl ?_
                          refine G_goto (tgt := 427) d_Mo_reckon_292 (by decide) ?_
                          refine G_vret d_Mo_reckon_427 rfl rfl ?_
                          refine ⟨rfl, ?_⟩; exact cmp_v (by unfold reckF; first | grind | grind [cmpB] | grind [needF])
                · skip
                  refine G_lload (i := 5) (n := 1) (len := 2) (Or.inr ⟨rfl, d_Mo_reckon_169⟩) rfl (G_pc (pc' := 171) rfl ?_)
                  refine G_l2i d_Mo_reckon_171 (G_pc (pc' := 172) rfl ?_)
                  refine G_iload (i := 7) (n := 0) (len := 2) (Or.inr ⟨rfl, d_Mo_reckon_172⟩) rfl (G_pc (pc' := 174) rfl ?_)
                  refine G_if_eq (tgt := 182) d_Mo_reckon_174 (by decide) (fun h510 => absurd h510 (by decide)) (fun h510 => G_pc (pc' := 177) rfl ?_)
                  refine G_bipush (n := 63) d_Mo_reckon_177 (by decide) (G_pc (pc' := 179) rfl ?_)
                  refine G_goto (tgt := 184) d_Mo_reckon_179 (by decide) ?_
                  refine G_iand d_Mo_reckon_184 (G_pc (pc' := 185) rfl ?_)
                  refine G_istore (i := 8) (len := 2) (ls' := [(8, vi (o_iand (w32 (M 83 (M 78 n))) 63)), (7, vi 1), (5, vl (M 83 (M 78 n))), (3, vl (M 83 (M 77 n))), (2, vi (M 76 n)), (0, vr 55), (1, vi n)]) (Or.inr ⟨rfl, d_Mo_reckon_185⟩) (by decide) rfl (G_pc (pc' := 187) rfl ?_)
                  refine G_aload (i := 0) (n := 5) (len := 1) (Or.inl ⟨0, rfl, rfl, d_Mo_reckon_187⟩) rfl (by decide) (G_pc (pc' := 188) rfl ?_)
                  refine G_iload (i := 1) (n := 6) (len := 1) (Or.inl ⟨1, rfl, rfl, d_Mo_reckon_188⟩) rfl (G_pc (pc' := 189) rfl ?_)
                  refine G_iload (i := 2) (n := 4) (len := 1) (Or.inl ⟨2, rfl, rfl, d_Mo_reckon_189⟩) rfl (G_pc (pc' := 190) rfl ?_)
                  refine G_bipush (n := 38) d_Mo_reckon_190 (by decide) (G_pc (pc' := 192) rfl ?_)
                  refine G_icmp_ne (tgt := 202) d_Mo_reckon_192 (by decide) (fun h511 => ?_) (fun h511 => G_pc (pc' := 195) rfl ?_)
                  · skip
                    refine G_iload (i := 2) (n := 4) (len := 1) (Or.inl ⟨2, rfl, rfl, d_Mo_reckon_202⟩) rfl (G_pc (pc' := 203) rfl ?_)
                    refine G_bipush (n := 39) d_Mo_reckon_203 (by decide) (G_pc (pc' := 205) rfl ?_)
                    refine G_icmp_ne (tgt := 215) d_Mo_reckon_205 (by decide) (fun h512 => ?_) (fun h512 => G_pc (pc' := 208) rfl ?_)
                    · skip
                      refine G_iload (i := 7) (n := 1) (len := 2) (Or.inr ⟨rfl, d_Mo_reckon_215⟩) rfl (G_pc (pc' := 217) rfl ?_)
                      refine G_if_eq (tgt := 227) d_Mo_reckon_217 (by decide) (fun h513 => absurd h513 (by decide)) (fun h513 => G_pc (pc' := 220) rfl ?_)
                      refine G_lload (i := 3) (n := 3) (len := 1) (Or.inl ⟨3, rfl, rfl, d_Mo_reckon_220⟩) rfl (G_pc (pc' := 221) rfl ?_)
                      refine G_iload (i := 8) (n := 0) (len := 2) (Or.inr ⟨rfl, d_Mo_reckon_221⟩) rfl (G_pc (pc' := 223) rfl ?_)
                      refine G_lushr d_Mo_reckon_223 (G_pc (pc' := 224) rfl ?_)
                      refine G_goto (tgt := 233) d_Mo_reckon_224 (by decide) ?_
                      refine G_callV (K1 := KE) (d2 := 0) (o := 55) (cl := 9) (as := [vi n, vl (o_lushr (M 83 (M 77 n)) (o_iand (w32 (M 83 (M 78 n))) 63))]) (rest := []) d_Mo_reckon_233 mf_Mo_set ml_Mo_289 rfl rfl (by decide) rfl rfl (Nat.le_of_ble_eq_true rfl) (by omega) ⟨Nat.le_refl _, Nat.le_refl _⟩ (g_Mo_set (by omega) n (o_lushr (M 83 (M 77 n)) (o_iand (w32 (M 83 (M 78 n))) 63)) _ (by omega)) (fun r514 M515 kq516 q516 => ?_)
                      clear kq516; obtain ⟨q516a, q516b⟩ := q516; subst r514; subst M515
                      refine G_ps (pc' := 236) (st' := []) rfl rfl ?_
                      refine G_goto (tgt := 427) d_Mo_reckon_236 (by decide) ?_
                      refine G_vret d_Mo_reckon_427 rfl rfl ?_
                      refine ⟨rfl, ?_⟩; exact cmp_v (by unfold reckF; first | grind | grind [cmpB] | grind [needF])
                    · skip
                      refine G_lload (i := 3) (n := 3) (len := 1) (Or.inl ⟨3, rfl, rfl, d_Mo_reckon_208⟩) rfl (G_pc (pc' := 209) rfl ?_)
                      refine G_iload (i := 8) (n := 0) (len := 2) (Or.inr ⟨rfl, d_Mo_reckon_209⟩) rfl (G_pc (pc' := 211) rfl ?_)
                      refine G_lshr d_Mo_reckon_211 (G_pc (pc' := 212) rfl ?_)
                      refine G_goto (tgt := 233) d_Mo_reckon_212 (by decide) ?_
                      refine G_callV (K1 := KE) (d2 := 0) (o := 55) (cl := 9) (as := [vi n, vl (o_lshr (M 83 (M 77 n)) (o_iand (w32 (M 83 (M 78 n))) 63))]) (rest := []) d_Mo_reckon_233 mf_Mo_set ml_Mo_289 rfl rfl (by decide) rfl rfl (Nat.le_of_ble_eq_true rfl) (by omega) ⟨Nat.le_refl _, Nat.le_refl _⟩ (g_Mo_set (by omega) n (o_lshr (M 83 (M 77 n)) (o_iand (w32 (M 83 (M 78 n))) 63)) _ (by omega)) (fun r517 M518 kq519 q519 => ?_)
                      clear kq519; obtain ⟨q519a, q519b⟩ := q519; subst r517; subst M518
                      refine G_ps (pc' := 236) (st' := []) rfl rfl ?_
                      refine G_goto (tgt := 427) d_Mo_reckon_236 (by decide) ?_
                      refine G_vret d_Mo_reckon_427 rfl rfl ?_
                      refine ⟨rfl, ?_⟩; exact cmp_v (by unfold reckF; first | grind | grind [cmpB] | grind [needF])
                  · skip
                    refine G_lload (i := 3) (n := 3) (len := 1) (Or.inl ⟨3, rfl, rfl, d_Mo_reckon_195⟩) rfl (G_pc (pc' := 196) rfl ?_)
                    refine G_iload (i := 8) (n := 0) (len := 2) (Or.inr ⟨rfl, d_Mo_reckon_196⟩) rfl (G_pc (pc' := 198) rfl ?_)
                    refine G_lshl d_Mo_reckon_198 (G_pc (pc' := 199) rfl ?_)
                    refine G_goto (tgt := 233) d_Mo_reckon_199 (by decide) ?_
                    refine G_callV (K1 := KE) (d2 := 0) (o := 55) (cl := 9) (as := [vi n, vl (o_lshl (M 83 (M 77 n)) (o_iand (w32 (M 83 (M 78 n))) 63))]) (rest := []) d_Mo_reckon_233 mf_Mo_set ml_Mo_289 rfl rfl (by decide) rfl rfl (Nat.le_of_ble_eq_true rfl) (by omega) ⟨Nat.le_refl _, Nat.le_refl _⟩ (g_Mo_set (by omega) n (o_lshl (M 83 (M 77 n)) (o_iand (w32 (M 83 (M 78 n))) 63)) _ (by omega)) (fun r520 M521 kq522 q522 => ?_)
                    clear kq522; obtain ⟨q522a, q522b⟩ := q522; subst r520; subst M521
                    refine G_ps (pc' := 236) (st' := []) rfl rfl ?_
                    refine G_goto (tgt := 427) d_Mo_reckon_236 (by decide) ?_
                    refine G_vret d_Mo_reckon_427 rfl rfl ?_
                    refine ⟨rfl, ?_⟩; exact cmp_v (by unfold reckF; first | grind | grind [cmpB] | grind [needF])
            · skip
              refine G_lload (i := 5) (n := 1) (len := 2) (Or.inr ⟨rfl, d_Mo_reckon_117⟩) rfl (G_pc (pc' := 119) rfl ?_)
              refine G_lconst0 d_Mo_reckon_119 (G_pc (pc' := 120) rfl ?_)
              refine G_lcmp_ne (tgt := 132) d_Mo_reckon_120 d_Mo_reckon_121 (by decide) (fun h523 => ?_) (fun h523 => G_pc (pc' := 124) rfl ?_)
              · skip
                refine G_aload (i := 0) (n := 4) (len := 1) (Or.inl ⟨0, rfl, rfl, d_Mo_reckon_132⟩) rfl (by decide) (G_pc (pc' := 133) rfl ?_)
                refine G_iload (i := 1) (n := 5) (len := 1) (Or.inl ⟨1, rfl, rfl, d_Mo_reckon_133⟩) rfl (G_pc (pc' := 134) rfl ?_)
                refine G_iload (i := 2) (n := 3) (len := 1) (Or.inl ⟨2, rfl, rfl, d_Mo_reckon_134⟩) rfl (G_pc (pc' := 135) rfl ?_)
                refine G_bipush (n := 30) d_Mo_reckon_135 (by decide) (G_pc (pc' := 137) rfl ?_)
                refine G_icmp_ne (tgt := 147) d_Mo_reckon_137 (by decide) (fun h524 => ?_) (fun h524 => G_pc (pc' := 140) rfl ?_)
                · skip
                  refine G_lload (i := 3) (n := 2) (len := 1) (Or.inl ⟨3, rfl, rfl, d_Mo_reckon_147⟩) rfl (G_pc (pc' := 148) rfl ?_)
                  refine G_lload (i := 5) (n := 1) (len := 2) (Or.inr ⟨rfl, d_Mo_reckon_148⟩) rfl (G_pc (pc' := 150) rfl ?_)
                  refine G_lrem d_Mo_reckon_150 (by omega) (G_pc (pc' := 151) rfl ?_)
                  refine G_callV (K1 := KE) (d2 := 0) (o := 55) (cl := 9) (as := [vi n, vl (o_lrem (M 83 (M 77 n)) (M 83 (M 78 n)))]) (rest := []) d_Mo_reckon_151 mf_Mo_set ml_Mo_289 rfl rfl (by decide) rfl rfl (Nat.le_of_ble_eq_true rfl) (by omega) ⟨Nat.le_refl _, Nat.le_refl _⟩ (g_Mo_set (by omega) n (o_lrem (M 83 (M 77 n)) (M 83 (M 78 n))) _ (by omega)) (fun r525 M526 kq527 q527 => ?_)
                  clear kq527; obtain ⟨q527a, q527b⟩ := q527; subst r525; subst M526
                  refine G_ps (pc' := 154) (st' := []) rfl rfl ?_
                  refine G_goto (tgt := 427) d_Mo_reckon_154 (by decide) ?_
                  refine G_vret d_Mo_reckon_427 rfl rfl ?_
                  refine ⟨rfl, ?_⟩; exact cmp_v (by unfold reckF; first | grind | grind [cmpB] | grind [needF])
                · skip
                  refine G_lload (i := 3) (n := 2) (len := 1) (Or.inl ⟨3, rfl, rfl, d_Mo_reckon_140⟩) rfl (G_pc (pc' := 141) rfl ?_)
                  refine G_lload (i := 5) (n := 1) (len := 2) (Or.inr ⟨rfl, d_Mo_reckon_141⟩) rfl (G_pc (pc' := 143) rfl ?_)
                  refine G_ldiv d_Mo_reckon_143 (by omega) (G_pc (pc' := 144) rfl ?_)
                  refine G_goto (tgt := 151) d_Mo_reckon_144 (by decide) ?_
                  refine G_callV (K1 := KE) (d2 := 0) (o := 55) (cl := 9) (as := [vi n, vl (o_ldiv (M 83 (M 77 n)) (M 83 (M 78 n)))]) (rest := []) d_Mo_reckon_151 mf_Mo_set ml_Mo_289 rfl rfl (by decide) rfl rfl (Nat.le_of_ble_eq_true rfl) (by omega) ⟨Nat.le_refl _, Nat.le_refl _⟩ (g_Mo_set (by omega) n (o_ldiv (M 83 (M 77 n)) (M 83 (M 78 n))) _ (by omega)) (fun r528 M529 kq530 q530 => ?_)
                  clear kq530; obtain ⟨q530a, q530b⟩ := q530; subst r528; subst M529
                  refine G_ps (pc' := 154) (st' := []) rfl rfl ?_
                  refine G_goto (tgt := 427) d_Mo_reckon_154 (by decide) ?_
                  refine G_vret d_Mo_reckon_427 rfl rfl ?_
                  refine ⟨rfl, ?_⟩; exact cmp_v (by unfold reckF; first | grind | grind [cmpB] | grind [needF])
              · skip
                refine G_aload (i := 0) (n := 4) (len := 1) (Or.inl ⟨0, rfl, rfl, d_Mo_reckon_124⟩) rfl (by decide) (G_pc (pc' := 125) rfl ?_)
                refine G_iconst (n := 1) d_Mo_reckon_125 (by decide) (G_pc (pc' := 126) rfl ?_)
                refine G_putL (o := 55) (c := 9) (k := 46) (ki := 46) (x := 1) d_Mo_reckon_126 fl_Mo_280 rfl rfl (by decide) (by decide) (by decide) rfl rfl (tokI (by decide)) rfl (G_pc (pc' := 129) rfl ?_)
                refine G_goto (tgt := 427) d_Mo_reckon_129 (by decide) ?_
                refine G_vret d_Mo_reckon_427 rfl rfl ?_
                refine ⟨rfl, ?_⟩; exact cmp_t (by unfold reckF; first | grind | grind [cmpB] | grind [needF]) (by decide)
        · skip
          refine G_aload (i := 0) (n := 4) (len := 1) (Or.inl ⟨0, rfl, rfl, d_Mo_reckon_67⟩) rfl (by decide) (G_pc (pc' := 68) rfl ?_)
          refine G_iload (i := 1) (n := 5) (len := 1) (Or.inl ⟨1, rfl, rfl, d_Mo_reckon_68⟩) rfl (G_pc (pc' := 69) rfl ?_)
          refine G_iload (i := 2) (n := 3) (len := 1) (Or.inl ⟨2, rfl, rfl, d_Mo_reckon_69⟩) rfl (G_pc (pc' := 70) rfl ?_)
          refine G_bipush (n := 27) d_Mo_reckon_70 (by decide) (G_pc (pc' := 72) rfl ?_)
          refine G_icmp_ne (tgt := 82) d_Mo_reckon_72 (by decide) (fun h531 => ?_) (fun h531 => G_pc (pc' := 75) rfl ?_)
          · skip
            refine G_iload (i := 2) (n := 3) (len := 1) (Or.inl ⟨2, rfl, rfl, d_Mo_reckon_82⟩) rfl (G_pc (pc' := 83) rfl ?_)
            refine G_bipush (n := 29) d_Mo_reckon_83 (by decide) (G_pc (pc' := 85) rfl ?_)
            refine G_icmp_ne (tgt := 95) d_Mo_reckon_85 (by decide) (fun h532 => ?_) (fun h532 => G_pc (pc' := 88) rfl ?_)
            · skip
              refine G_lload (i := 3) (n := 2) (len := 1) (Or.inl ⟨3, rfl, rfl, d_Mo_reckon_95⟩) rfl (G_pc (pc' := 96) rfl ?_)
              refine G_lload (i := 5) (n := 1) (len := 2) (Or.inr ⟨rfl, d_Mo_reckon_96⟩) rfl (G_pc (pc' := 98) rfl ?_)
              refine G_lsub d_Mo_reckon_98 (G_pc (pc' := 99) rfl ?_)
              refine G_callV (K1 := KE) (d2 := 0) (o := 55) (cl := 9) (as := [vi n, vl (o_lsub (M 83 (M 77 n)) (M 83 (M 78 n)))]) (rest := []) d_Mo_reckon_99 mf_Mo_set ml_Mo_289 rfl rfl (by decide) rfl rfl (Nat.le_of_ble_eq_true rfl) (by omega) ⟨Nat.le_refl _, Nat.le_refl _⟩ (g_Mo_set (by omega) n (o_lsub (M 83 (M 77 n)) (M 83 (M 78 n))) _ (by omega)) (fun r533 M534 kq535 q535 => ?_)
              clear kq535; obtain ⟨q535a, q535b⟩ := q535; subst r533; subst M534
              refine G_ps (pc' := 102) (st' := []) rfl rfl ?_
              refine G_goto (tgt := 427) d_Mo_reckon_102 (by decide) ?_
              refine G_vret d_Mo_reckon_427 rfl rfl ?_
              refine ⟨rfl, ?_⟩; exact cmp_v (by unfold reckF; first | grind | grind [cmpB] | grind [needF])
            · skip
              refine G_lload (i := 3) (n := 2) (len := 1) (Or.inl ⟨3, rfl, rfl, d_Mo_reckon_88⟩) rfl (G_pc (pc' := 89) rfl ?_)
              refine G_lload (i := 5) (n := 1) (len := 2) (Or.inr ⟨rfl, d_Mo_reckon_89⟩) rfl (G_pc (pc' := 91) rfl ?_)
              refine G_lmul d_Mo_reckon_91 (G_pc (pc' := 92) rfl ?_)
              refine G_goto (tgt := 99) d_Mo_reckon_92 (by decide) ?_
              refine G_callV (K1 := KE) (d2 := 0) (o := 55) (cl := 9) (as := [vi n, vl (o_lmul (M 83 (M 77 n)) (M 83 (M 78 n)))]) (rest := []) d_Mo_reckon_99 mf_Mo_set ml_Mo_289 rfl rfl (by decide) rfl rfl (Nat.le_of_ble_eq_true rfl) (by omega) ⟨Nat.le_refl _, Nat.le_refl _⟩ (g_Mo_set (by omega) n (o_lmul (M 83 (M 77 n)) (M 83 (M 78 n))) _ (by omega)) (fun r536 M537 kq538 q538 => ?_)
              clear kq538; obtain ⟨q538a, q538b⟩ := q538; subst r536; subst M537
              refine G_ps (pc' := 102) (st' := []) rfl rfl ?_
              refine G_goto (tgt := 427) d_Mo_reckon_102 (by decide) ?_
              refine G_vret d_Mo_reckon_427 rfl rfl ?_
              refine ⟨rfl, ?_⟩; exact cmp_v (by unfold reckF; first | grind | grind [cmpB] | grind [needF])
          · skip
            refine G_lload (i := 3) (n := 2) (len := 1) (Or.inl ⟨3, rfl, rfl, d_Mo_reckon_75⟩) rfl (G_pc (pc' := 76) rfl ?_)
            refine G_lload (i := 5) (n := 1) (len := 2) (Or.inr ⟨rfl, d_Mo_reckon_76⟩) rfl (G_pc (pc' := 78) rfl ?_)
            refine G_ladd d_Mo_reckon_78 (G_pc (pc' := 79) rfl ?_)
            refine G_goto (tgt := 99) d_Mo_reckon_79 (by decide) ?_
            refine G_callV (K1 := KE) (d2 := 0) (o := 55) (cl := 9) (as := [vi n, vl (o_ladd (M 83 (M 77 n)) (M 83 (M 78 n)))]) (rest := []) d_Mo_reckon_99 mf_Mo_set ml_Mo_289 rfl rfl (by decide) rfl rfl (Nat.le_of_ble_eq_true rfl) (by omega) ⟨Nat.le_refl _, Nat.le_refl _⟩ (g_Mo_set (by omega) n (o_ladd (M 83 (M 77 n)) (M 83 (M 78 n))) _ (by omega)) (fun r539 M540 kq541 q541 => ?_)
            clear kq541; obtain ⟨q541a, q541b⟩ := q541; subst r539; subst M540
            refine G_ps (pc' := 102) (st' := []) rfl rfl ?_
            refine G_goto (tgt := 427) d_Mo_reckon_102 (by decide) ?_
            refine G_vret d_Mo_reckon_427 rfl rfl ?_
            refine ⟨rfl, ?_⟩; exact cmp_v (by unfold reckF; first | grind | grind [cmpB] | grind [needF])

theorem d_Mo_into_0 : decode b_Mo_into 0 = .ok (.aload_n 0, 1) := by decide +kernel
theorem d_Mo_into_1 : decode b_Mo_into 1 = .ok (.getfield 93, 3) := by decide +kernel
theorem d_Mo_into_4 : decode b_Mo_into 4 = .ok (.aload_n 0, 1) := by decide +kernel
theorem d_Mo_into_5 : decode b_Mo_into 5 = .ok (.getfield 75, 3) := by decide +kernel
theorem d_Mo_into_8 : decode b_Mo_into 8 = .ok (.iload_n 1, 1) := by decide +kernel
theorem d_Mo_into_9 : decode b_Mo_into 9 = .ok (.iaload, 1) := by decide +kernel
theorem d_Mo_into_10 : decode b_Mo_into 10 = .ok (.laload, 1) := by decide +kernel
theorem d_Mo_into_11 : decode b_Mo_into 11 = .ok (.l2i, 1) := by decide +kernel
theorem d_Mo_into_12 : decode b_Mo_into 12 = .ok (.istore_n 2, 1) := by decide +kernel
theorem d_Mo_into_13 : decode b_Mo_into 13 = .ok (.iload_n 2, 1) := by decide +kernel
theorem d_Mo_into_14 : decode b_Mo_into 14 = .ok (.ifCond .ne 9, 3) := by decide +kernel
theorem d_Mo_into_17 : decode b_Mo_into 17 = .ok (.aload_n 0, 1) := by decide +kernel
theorem d_Mo_into_18 : decode b_Mo_into 18 = .ok (.iconst 2, 1) := by decide +kernel
theorem d_Mo_into_19 : decode b_Mo_into 19 = .ok (.putfield 280, 3) := by decide +kernel
theorem d_Mo_into_22 : decode b_Mo_into 22 = .ok (.return_, 1) := by decide +kernel
theorem d_Mo_into_23 : decode b_Mo_into 23 = .ok (.aload_n 0, 1) := by decide +kernel
theorem d_Mo_into_24 : decode b_Mo_into 24 = .ok (.getfield 72, 3) := by decide +kernel
theorem d_Mo_into_27 : decode b_Mo_into 27 = .ok (.iload_n 1, 1) := by decide +kernel
theorem d_Mo_into_28 : decode b_Mo_into 28 = .ok (.iaload, 1) := by decide +kernel
theorem d_Mo_into_29 : decode b_Mo_into 29 = .ok (.bipush 60, 2) := by decide +kernel
theorem d_Mo_into_31 : decode b_Mo_into 31 = .ok (.if_icmp .ne 38, 3) := by decide +kernel
theorem d_Mo_into_34 : decode b_Mo_into 34 = .ok (.aload_n 0, 1) := by decide +kernel
theorem d_Mo_into_35 : decode b_Mo_into 35 = .ok (.getfield 84, 3) := by decide +kernel
theorem d_Mo_into_38 : decode b_Mo_into 38 = .ok (.iload_n 1, 1) := by decide +kernel
theorem d_Mo_into_39 : decode b_Mo_into 39 = .ok (.laload, 1) := by decide +kernel
theorem d_Mo_into_40 : decode b_Mo_into 40 = .ok (.l2i, 1) := by decide +kernel
theorem d_Mo_into_41 : decode b_Mo_into 41 = .ok (.istore_n 3, 1) := by decide +kernel
theorem d_Mo_into_42 : decode b_Mo_into 42 = .ok (.aload_n 0, 1) := by decide +kernel
theorem d_Mo_into_43 : decode b_Mo_into 43 = .ok (.iconst 1, 1) := by decide +kernel
theorem d_Mo_into_44 : decode b_Mo_into 44 = .ok (.iload_n 2, 1) := by decide +kernel
theorem d_Mo_into_45 : decode b_Mo_into 45 = .ok (.iload_n 3, 1) := by decide +kernel
theorem d_Mo_into_46 : decode b_Mo_into 46 = .ok (.invokevirtual 292, 3) := by decide +kernel
theorem d_Mo_into_49 : decode b_Mo_into 49 = .ok (.ifCond .eq 19, 3) := by decide +kernel
theorem d_Mo_into_52 : decode b_Mo_into 52 = .ok (.aload_n 0, 1) := by decide +kernel
theorem d_Mo_into_53 : decode b_Mo_into 53 = .ok (.iload_n 1, 1) := by decide +kernel
theorem d_Mo_into_54 : decode b_Mo_into 54 = .ok (.aload_n 0, 1) := by decide +kernel
theorem d_Mo_into_55 : decode b_Mo_into 55 = .ok (.getfield 29, 3) := by decide +kernel
theorem d_Mo_into_58 : decode b_Mo_into 58 = .ok (.bipush 26, 2) := by decide +kernel
theorem d_Mo_into_60 : decode b_Mo_into 60 = .ok (.iload_n 2, 1) := by decide +kernel
theorem d_Mo_into_61 : decode b_Mo_into 61 = .ok (.imul, 1) := by decide +kernel
theorem d_Mo_into_62 : decode b_Mo_into 62 = .ok (.iload_n 3, 1) := by decide +kernel
theorem d_Mo_into_63 : decode b_Mo_into 63 = .ok (.iadd, 1) := by decide +kernel
theorem d_Mo_into_64 : decode b_Mo_into 64 = .ok (.laload, 1) := by decide +kernel
theorem d_Mo_into_65 : decode b_Mo_into 65 = .ok (.invokevirtual 289, 3) := by decide +kernel
theorem d_Mo_into_68 : decode b_Mo_into 68 = .ok (.return_, 1) := by decide +kernel
theorem d_Mo_into_69 : decode b_Mo_into 69 = .ok (.aload_n 0, 1) := by decide +kernel
theorem d_Mo_into_70 : decode b_Mo_into 70 = .ok (.iconst 3, 1) := by decide +kernel
theorem d_Mo_into_71 : decode b_Mo_into 71 = .ok (.iload_n 2, 1) := by decide +kernel
theorem d_Mo_into_72 : decode b_Mo_into 72 = .ok (.iconst 0, 1) := by decide +kernel
theorem d_Mo_into_73 : decode b_Mo_into 73 = .ok (.invokevirtual 292, 3) := by decide +kernel
theorem d_Mo_into_76 : decode b_Mo_into 76 = .ok (.ifCond .ne 4, 3) := by decide +kernel
theorem d_Mo_into_79 : decode b_Mo_into 79 = .ok (.return_, 1) := by decide +kernel
theorem d_Mo_into_80 : decode b_Mo_into 80 = .ok (.aload_n 0, 1) := by decide +kernel
theorem d_Mo_into_81 : decode b_Mo_into 81 = .ok (.getfield 72, 3) := by decide +kernel
theorem d_Mo_into_84 : decode b_Mo_into 84 = .ok (.iload_n 1, 1) := by decide +kernel
theorem d_Mo_into_85 : decode b_Mo_into 85 = .ok (.iaload, 1) := by decide +kernel
theorem d_Mo_into_86 : decode b_Mo_into 86 = .ok (.bipush 61, 2) := by decide +kernel
theorem d_Mo_into_88 : decode b_Mo_into 88 = .ok (.if_icmp .ne 16, 3) := by decide +kernel
theorem d_Mo_into_91 : decode b_Mo_into 91 = .ok (.aload_n 0, 1) := by decide +kernel
theorem d_Mo_into_92 : decode b_Mo_into 92 = .ok (.iload_n 1, 1) := by decide +kernel
theorem d_Mo_into_93 : decode b_Mo_into 93 = .ok (.aload_n 0, 1) := by decide +kernel
theorem d_Mo_into_94 : decode b_Mo_into 94 = .ok (.getfield 26, 3) := by decide +kernel
theorem d_Mo_into_97 : decode b_Mo_into 97 = .ok (.iload_n 2, 1) := by decide +kernel
theorem d_Mo_into_98 : decode b_Mo_into 98 = .ok (.iaload, 1) := by decide +kernel
theorem d_Mo_into_99 : decode b_Mo_into 99 = .ok (.i2l, 1) := by decide +kernel
theorem d_Mo_into_100 : decode b_Mo_into 100 = .ok (.invokevirtual 289, 3) := by decide +kernel
theorem d_Mo_into_103 : decode b_Mo_into 103 = .ok (.return_, 1) := by decide +kernel
theorem d_Mo_into_104 : decode b_Mo_into 104 = .ok (.aload_n 0, 1) := by decide +kernel
theorem d_Mo_into_105 : decode b_Mo_into 105 = .ok (.getfield 93, 3) := by decide +kernel
theorem d_Mo_into_108 : decode b_Mo_into 108 = .ok (.aload_n 0, 1) := by decide +kernel
theorem d_Mo_into_109 : decode b_Mo_into 109 = .ok (.getfield 78, 3) := by decide +kernel
theorem d_Mo_into_112 : decode b_Mo_into 112 = .ok (.iload_n 1, 1) := by decide +kernel
theorem d_Mo_into_113 : decode b_Mo_into 113 = .ok (.iaload, 1) := by decide +kernel
theorem d_Mo_into_114 : decode b_Mo_into 114 = .ok (.laload, 1) := by decide +kernel
theorem d_Mo_into_115 : decode b_Mo_into 115 = .ok (.lstore_n 3, 1) := by decide +kernel
theorem d_Mo_into_116 : decode b_Mo_into 116 = .ok (.lload_n 3, 1) := by decide +kernel
theorem d_Mo_into_117 : decode b_Mo_into 117 = .ok (.lconst 0, 1) := by decide +kernel
theorem d_Mo_into_118 : decode b_Mo_into 118 = .ok (.lcmp, 1) := by decide +kernel
theorem d_Mo_into_119 : decode b_Mo_into 119 = .ok (.ifCond .lt 15, 3) := by decide +kernel
theorem d_Mo_into_122 : decode b_Mo_into 122 = .ok (.lload_n 3, 1) := by decide +kernel
theorem d_Mo_into_123 : decode b_Mo_into 123 = .ok (.aload_n 0, 1) := by decide +kernel
theorem d_Mo_into_124 : decode b_Mo_into 124 = .ok (.getfield 26, 3) := by decide +kernel
theorem d_Mo_into_127 : decode b_Mo_into 127 = .ok (.iload_n 2, 1) := by decide +kernel
theorem d_Mo_into_128 : decode b_Mo_into 128 = .ok (.iaload, 1) := by decide +kernel
theorem d_Mo_into_129 : decode b_Mo_into 129 = .ok (.i2l, 1) := by decide +kernel
theorem d_Mo_into_130 : decode b_Mo_into 130 = .ok (.lcmp, 1) := by decide +kernel
theorem d_Mo_into_131 : decode b_Mo_into 131 = .ok (.ifCond .lt 9, 3) := by decide +kernel
theorem d_Mo_into_134 : decode b_Mo_into 134 = .ok (.aload_n 0, 1) := by decide +kernel
theorem d_Mo_into_135 : decode b_Mo_into 135 = .ok (.iconst 3, 1) := by decide +kernel
theorem d_Mo_into_136 : decode b_Mo_into 136 = .ok (.putfield 280, 3) := by decide +kernel
theorem d_Mo_into_139 : decode b_Mo_into 139 = .ok (.return_, 1) := by decide +kernel
theorem d_Mo_into_140 : decode b_Mo_into 140 = .ok (.aload_n 0, 1) := by decide +kernel
theorem d_Mo_into_141 : decode b_Mo_into 141 = .ok (.iconst 2, 1) := by decide +kernel
theorem d_Mo_into_142 : decode b_Mo_into 142 = .ok (.iload_n 2, 1) := by decide +kernel
theorem d_Mo_into_143 : decode b_Mo_into 143 = .ok (.lload_n 3, 1) := by decide +kernel
theorem d_Mo_into_144 : decode b_Mo_into 144 = .ok (.l2i, 1) := by decide +kernel
theorem d_Mo_into_145 : decode b_Mo_into 145 = .ok (.invokevirtual 292, 3) := by decide +kernel
theorem d_Mo_into_148 : decode b_Mo_into 148 = .ok (.ifCond .eq 20, 3) := by decide +kernel
theorem d_Mo_into_151 : decode b_Mo_into 151 = .ok (.aload_n 0, 1) := by decide +kernel
theorem d_Mo_into_152 : decode b_Mo_into 152 = .ok (.iload_n 1, 1) := by decide +kernel
theorem d_Mo_into_153 : decode b_Mo_into 153 = .ok (.aload_n 0, 1) := by decide +kernel
theorem d_Mo_into_154 : decode b_Mo_into 154 = .ok (.getfield 29, 3) := by decide +kernel
theorem d_Mo_into_157 : decode b_Mo_into 157 = .ok (.bipush 26, 2) := by decide +kernel
theorem d_Mo_into_159 : decode b_Mo_into 159 = .ok (.iload_n 2, 1) := by decide +kernel
theorem d_Mo_into_160 : decode b_Mo_into 160 = .ok (.imul, 1) := by decide +kernel
theorem d_Mo_into_161 : decode b_Mo_into 161 = .ok (.lload_n 3, 1) := by decide +kernel
theorem d_Mo_into_162 : decode b_Mo_into 162 = .ok (.l2i, 1) := by decide +kernel
theorem d_Mo_into_163 : decode b_Mo_into 163 = .ok (.iadd, 1) := by decide +kernel
theorem d_Mo_into_164 : decode b_Mo_into 164 = .ok (.laload, 1) := by decide +kernel
theorem d_Mo_into_165 : decode b_Mo_into 165 = .ok (.invokevirtual 289, 3) := by decide +kernel
theorem d_Mo_into_168 : decode b_Mo_into 168 = .ok (.return_, 1) := by decide +kernel
set_option maxHeartbeats 4000000 in
theorem g_Mo_into {X : WX} {d : Nat} (hd : 2 ≤ d) (n : Int) (M : Mem) (hn : 0 ≤ n ∧ n < 32) (hq7 : 0 ≤ M 77 n ∧ M 77 n < 32) (hqx : 0 ≤ w32 (M 83 (M 77 n)) ∧ w32 (M 83 (M 77 n)) ≤ 12) (hq8 : M 76 n = 62 → 0 ≤ M 78 n ∧ M 78 n < 32) (hqf : M 76 n = 60 → 0 ≤ w32 (M 80 n) ∧ w32 (M 80 n) < 26) (hqo : M 76 n = 60 ∨ M 76 n = 61 ∨ M 76 n = 62) (hqs : ∀ j, 0 ≤ j → j ≤ 12 → 0 ≤ M 61 j ∧ M 61 j ≤ 5) : MG X gt d KE KE y_Mo_into b_Mo_into 5 none [vr 55, vi n] M (fun r M' => r = none ∧ cmpQ M n (intoF M (M 76 n) (w32 (M 80 n)) (w32 (M 83 (M 77 n))) (M 83 (M 78 n))) M') := by
  refine MG_of_G (by decide) (Nat.le_of_ble_eq_true rfl) (Nat.le_refl _) (by decide) ?_
  show G X gt d KE KE y_Mo_into b_Mo_into 5 none _ 0 [(0, vr 55), (1, vi n)] [] KE M
  refine G_rngl (i := 1) rfl (fun hr1 => ?_)
  refine G_aload (i := 0) (n := 0) (len := 1) (Or.inl ⟨0, rfl, rfl, d_Mo_into_0⟩) rfl (by decide) (G_pc (pc' := 1) rfl ?_)
  refine G_get (o := 55) (c := 9) (k := 36) (v := 83) d_Mo_into_1 fl_Mo_93 rfl (by decide) (by decide) rfl rfl (G_pc (pc' := 4) rfl ?_)
  refine G_aload (i := 0) (n := 0) (len := 1) (Or.inl ⟨0, rfl, rfl, d_Mo_into_4⟩) rfl (by decide) (G_pc (pc' := 5) rfl ?_)
  refine G_get (o := 55) (c := 9) (k := 30) (v := 77) d_Mo_into_5 fl_Mo_75 rfl (by decide) (by decide) rfl rfl (G_pc (pc' := 8) rfl ?_)
  refine G_iload (i := 1) (n := 1) (len := 1) (Or.inl ⟨1, rfl, rfl, d_Mo_into_8⟩) rfl (G_pc (pc' := 9) rfl ?_)
  refine G_iaload (o := 77) (n := 32) (i := n) (v := M 77 n) d_Mo_into_9 rfl ⟨by decide, by decide⟩ (by omega) (rd_arr rfl) (fun t1 => G_pc (pc' := 10) rfl ?_)
  have t1 := tok_i t1
  refine G_laload (o := 83) (n := 32) (i := M 77 n) (v := M 83 (M 77 n)) d_Mo_into_10 rfl ⟨by decide, by decide⟩ (by omega) (rd_arr rfl) (fun t2 => G_pc (pc' := 11) rfl ?_)
  have t2 := tok_l t2
  refine G_l2i d_Mo_into_11 (G_pc (pc' := 12) rfl ?_)
  refine G_istore (i := 2) (len := 1) (ls' := [(2, vi (w32 (M 83 (M 77 n)))), (0, vr 55), (1, vi n)]) (Or.inl ⟨2, rfl, rfl, d_Mo_into_12⟩) (by decide) rfl (G_pc (pc' := 13) rfl ?_)
  refine G_iload (i := 2) (n := 0) (len := 1) (Or.inl ⟨2, rfl, rfl, d_Mo_into_13⟩) rfl (G_pc (pc' := 14) rfl ?_)
  refine G_if_ne (tgt := 23) d_Mo_into_14 (by decide) (fun h3 => ?_) (fun h3 => G_pc (pc' := 17) rfl ?_)
  · skip
    refine G_aload (i := 0) (n := 1) (len := 1) (Or.inl ⟨0, rfl, rfl, d_Mo_into_23⟩) rfl (by decide) (G_pc (pc' := 24) rfl ?_)
    refine G_get (o := 55) (c := 9) (k := 29) (v := 76) d_Mo_into_24 fl_Mo_72 rfl (by decide) (by decide) rfl rfl (G_pc (pc' := 27) rfl ?_)
    refine G_iload (i := 1) (n := 2) (len := 1) (Or.inl ⟨1, rfl, rfl, d_Mo_into_27⟩) rfl (G_pc (pc' := 28) rfl ?_)
    refine G_iaload (o := 76) (n := 32) (i := n) (v := M 76 n) d_Mo_into_28 rfl ⟨by decide, by decide⟩ (by omega) (rd_arr rfl) (fun t4 => G_pc (pc' := 29) rfl ?_)
    have t4 := tok_i t4
    refine G_bipush (n := 60) d_Mo_into_29 (by decide) (G_pc (pc' := 31) rfl ?_)
    refine G_icmp_ne (tgt := 69) d_Mo_into_31 (by decide) (fun h5 => ?_) (fun h5 => G_pc (pc' := 34) rfl ?_)
    · skip
      have hqs1 := hqs (w32 (M 83 (M 77 n))) (by omega) (by omega)
      refine G_aload (i := 0) (n := 1) (len := 1) (Or.inl ⟨0, rfl, rfl, d_Mo_into_69⟩) rfl (by decide) (G_pc (pc' := 70) rfl ?_)
      refine G_iconst (n := 3) d_Mo_into_70 (by decide) (G_pc (pc' := 71) rfl ?_)
      refine G_iload (i := 2) (n := 0) (len := 1) (Or.inl ⟨2, rfl, rfl, d_Mo_into_71⟩) rfl (G_pc (pc' := 72) rfl ?_)
      refine G_iconst (n := 0) d_Mo_into_72 (by decide) (G_pc (pc' := 73) rfl ?_)
      refine G_callV (K1 := KE) (d2 := 1) (o := 55) (cl := 9) (as := [vi 3, vi (w32 (M 83 (M 77 n))), vi 0]) (rest := []) d_Mo_into_73 mf_Mo_has ml_Mo_292 rfl rfl (by decide) rfl rfl (Nat.le_of_ble_eq_true rfl) (by omega) ⟨Nat.le_refl _, Nat.le_refl _⟩ (g_Mo_has (by omega) 3 (w32 (M 83 (M 77 n))) 0 _ (by omega) (by omega) (by simp [pieceM]; omega)) (fun r6 M7 kq8 q8 => ?_)
      clear kq8; obtain ⟨q8a, q8b⟩ := q8; subst r6; subst M7
      refine G_ps (pc' := 76) (st' := [vi (M 71 (pieceM 3 (w32 (M 83 (M 77 n))) 0))]) rfl rfl ?_
      refine G_if_ne (tgt := 80) d_Mo_into_76 (by decide) (fun h9 => ?_) (fun h9 => G_pc (pc' := 79) rfl ?_)
      · skip
        refine G_aload (i := 0) (n := 1) (len := 1) (Or.inl ⟨0, rfl, rfl, d_Mo_into_80⟩) rfl (by decide) (G_pc (pc' := 81) rfl ?_)
        refine G_get (o := 55) (c := 9) (k := 29) (v := 76) d_Mo_into_81 fl_Mo_72 rfl (by decide) (by decide) rfl rfl (G_pc (pc' := 84) rfl ?_)
        refine G_iload (i := 1) (n := 2) (len := 1) (Or.inl ⟨1, rfl, rfl, d_Mo_into_84⟩) rfl (G_pc (pc' := 85) rfl ?_)
        refine G_iaload (o := 76) (n := 32) (i := n) (v := M 76 n) d_Mo_into_85 rfl ⟨by decide, by decide⟩ (by omega) (rd_arr rfl) (fun t10 => G_pc (pc' := 86) rfl ?_)
        have t10 := tok_i t10
        refine G_bipush (n := 61) d_Mo_into_86 (by decide) (G_pc (pc' := 88) rfl ?_)
        refine G_icmp_ne (tgt := 104) d_Mo_into_88 (by decide) (fun h11 => ?_) (fun h11 => G_pc (pc' := 91) rfl ?_)
        · skip
          have hq81 := hq8 (by omega)
          refine G_aload (i := 0) (n := 1) (len := 1) (Or.inl ⟨0, rfl, rfl, d_Mo_into_104⟩) rfl (by decide) (G_pc (pc' := 105) rfl ?_)
          refine G_get (o := 55) (c := 9) (k := 36) (v := 83) d_Mo_into_105 fl_Mo_93 rfl (by decide) (by decide) rfl rfl (G_pc (pc' := 108) rfl ?_)
          refine G_aload (i := 0) (n := 1) (len := 1) (Or.inl ⟨0, rfl, rfl, d_Mo_into_108⟩) rfl (by decide) (G_pc (pc' := 109) rfl ?_)
          refine G_get (o := 55) (c := 9) (k := 31) (v := 78) d_Mo_into_109 fl_Mo_78 rfl (by decide) (by decide) rfl rfl (G_pc (pc' := 112) rfl ?_)
          refine G_iload (i := 1) (n := 2) (len := 1) (Or.inl ⟨1, rfl, rfl, d_Mo_into_112⟩) rfl (G_pc (pc' := 113) rfl ?_)
          refine G_iaload (o := 78) (n := 32) (i := n) (v := M 78 n) d_Mo_into_113 rfl ⟨by decide, by decide⟩ (by omega) (rd_arr rfl) (fun t12 => G_pc (pc' := 114) rfl ?_)
          have t12 := tok_i t12
          refine G_laload (o := 83) (n := 32) (i := M 78 n) (v := M 83 (M 78 n)) d_Mo_into_114 rfl ⟨by decide, by decide⟩ (by omega) (rd_arr rfl) (fun t13 => G_pc (pc' := 115) rfl ?_)
          have t13 := tok_l t13
          refine G_lstore (i := 3) (len := 1) (ls' := [(3, vl (M 83 (M 78 n))), (2, vi (w32 (M 83 (M 77 n)))), (0, vr 55), (1, vi n)]) (Or.inl ⟨3, rfl, rfl, d_Mo_into_115⟩) (by decide) rfl (G_pc (pc' := 116) rfl ?_)
          refine G_lload (i := 3) (n := 0) (len := 1) (Or.inl ⟨3, rfl, rfl, d_Mo_into_116⟩) rfl (G_pc (pc' := 117) rfl ?_)
          refine G_lconst0 d_Mo_into_117 (G_pc (pc' := 118) rfl ?_)
          refine G_lcmp_lt (tgt := 134) d_Mo_into_118 d_Mo_into_119 (by decide) (fun h14 => ?_) (fun h14 => G_pc (pc' := 122) rfl ?_)
          · skip
            refine G_aload (i := 0) (n := 2) (len := 1) (Or.inl ⟨0, rfl, rfl, d_Mo_into_134⟩) rfl (by decide) (G_pc (pc' := 135) rfl ?_)
            refine G_iconst (n := 3) d_Mo_into_135 (by decide) (G_pc (pc' := 136) rfl ?_)
            refine G_putL (o := 55) (c := 9) (k := 46) (ki := 46) (x := 3) d_Mo_into_136 fl_Mo_280 rfl rfl (by decide) (by decide) (by decide) rfl rfl (tokI (by decide)) rfl (G_pc (pc' := 139) rfl ?_)
            refine G_vret d_Mo_into_139 rfl rfl ?_
            refine ⟨rfl, ?_⟩; exact cmp_th (by unfold intoF; first | grind | grind [needF]) (by decide)
          · skip
            refine G_lload (i := 3) (n := 0) (len := 1) (Or.inl ⟨3, rfl, rfl, d_Mo_into_122⟩) rfl (G_pc (pc' := 123) rfl ?_)
            refine G_aload (i := 0) (n := 2) (len := 1) (Or.inl ⟨0, rfl, rfl, d_Mo_into_123⟩) rfl (by decide) (G_pc (pc' := 124) rfl ?_)
            refine G_get (o := 55) (c := 9) (k := 7) (v := 61) d_Mo_into_124 fl_Mo_26 rfl (by decide) (by decide) rfl rfl (G_pc (pc' := 127) rfl ?_)
            refine G_iload (i := 2) (n := 1) (len := 1) (Or.inl ⟨2, rfl, rfl, d_Mo_into_127⟩) rfl (G_pc (pc' := 128) rfl ?_)
            refine G_iaload (o := 61) (n := 13) (i := w32 (M 83 (M 77 n))) (v := M 61 (w32 (M 83 (M 77 n)))) d_Mo_into_128 rfl ⟨by decide, by decide⟩ (by omega) (rd_arr rfl) (fun t15 => G_pc (pc' := 129) rfl ?_)
            have t15 := tok_i t15
            refine G_i2l d_Mo_into_129 (G_pc (pc' := 130) rfl ?_)
            refine G_lcmp_lt (tgt := 140) d_Mo_into_130 d_Mo_into_131 (by decide) (fun h16 => ?_) (fun h16 => G_pc (pc' := 134) rfl ?_)
            · skip
              have hqy : w32 (M 83 (M 78 n)) = (M 83 (M 78 n)) := w32_id (by omega)
              refine G_aload (i := 0) (n := 2) (len := 1) (Or.inl ⟨0, rfl, rfl, d_Mo_into_140⟩) rfl (by decide) (G_pc (pc' := 141) rfl ?_)
              refine G_iconst (n := 2) d_Mo_into_141 (by decide) (G_pc (pc' := 142) rfl ?_)
              refine G_iload (i := 2) (n := 1) (len := 1) (Or.inl ⟨2, rfl, rfl, d_Mo_into_142⟩) rfl (G_pc (pc' := 143) rfl ?_)
              refine G_lload (i := 3) (n := 0) (len := 1) (Or.inl ⟨3, rfl, rfl, d_Mo_into_143⟩) rfl (G_pc (pc' := 144) rfl ?_)
              refine G_l2i d_Mo_into_144 (G_pc (pc' := 145) rfl ?_)
              refine G_callV (K1 := KE) (d2 := 1) (o := 55) (cl := 9) (as := [vi 2, vi (w32 (M 83 (M 77 n))), vi (w32 (M 83 (M 78 n)))]) (rest := []) d_Mo_into_145 mf_Mo_has ml_Mo_292 rfl rfl (by decide) rfl rfl (Nat.le_of_ble_eq_true rfl) (by omega) ⟨Nat.le_refl _, Nat.le_refl _⟩ (g_Mo_has (by omega) 2 (w32 (M 83 (M 77 n))) (w32 (M 83 (M 78 n))) _ (by omega) (by omega) (by simp [pieceM]; omega)) (fun r17 M18 kq19 q19 => ?_)
              clear kq19; obtain ⟨q19a, q19b⟩ := q19; subst r17; subst M18
              refine G_ps (pc' := 148) (st' := [vi (M 71 (pieceM 2 (w32 (M 83 (M 77 n))) (w32 (M 83 (M 78 n)))))]) rfl rfl ?_
              refine G_if_eq (tgt := 168) d_Mo_into_148 (by decide) (fun h20 => ?_) (fun h20 => G_pc (pc' := 151) rfl ?_)
              · skip
                refine G_vret d_Mo_into_168 rfl rfl ?_
                refine ⟨rfl, ?_⟩; exact cmp_ph (by unfold intoF; first | grind | grind [needF]) (by omega) (by simp [pieceM]; omega)
              · skip
                refine G_aload (i := 0) (n := 2) (len := 1) (Or.inl ⟨0, rfl, rfl, d_Mo_into_151⟩) rfl (by decide) (G_pc (pc' := 152) rfl ?_)
                refine G_iload (i := 1) (n := 3) (len := 1) (Or.inl ⟨1, rfl, rfl, d_Mo_into_152⟩) rfl (G_pc (pc' := 153) rfl ?_)
                refine G_aload (i := 0) (n := 2) (len := 1) (Or.inl ⟨0, rfl, rfl, d_Mo_into_153⟩) rfl (by decide) (G_pc (pc' := 154) rfl ?_)
                refine G_get (o := 55) (c := 9) (k := 8) (v := 62) d_Mo_into_154 fl_Mo_29 rfl (by decide) (by decide) rfl rfl (G_pc (pc' := 157) rfl ?_)
                refine G_bipush (n := 26) d_Mo_into_157 (by decide) (G_pc (pc' := 159) rfl ?_)
                refine G_iload (i := 2) (n := 1) (len := 1) (Or.inl ⟨2, rfl, rfl, d_Mo_into_159⟩) rfl (G_pc (pc' := 160) rfl ?_)
                refine G_imul d_Mo_into_160 (by omega) (G_pc (pc' := 161) rfl ?_)
                refine G_lload (i := 3) (n := 0) (len := 1) (Or.inl ⟨3, rfl, rfl, d_Mo_into_161⟩) rfl (G_pc (pc' := 162) rfl ?_)
                refine G_l2i d_Mo_into_162 (G_pc (pc' := 163) rfl ?_)
                refine G_iadd d_Mo_into_163 (by omega) (G_pc (pc' := 164) rfl ?_)
                refine G_laload (o := 62) (n := 338) (i := (26 * (w32 (M 83 (M 77 n)))) + (w32 (M 83 (M 78 n)))) (v := M 62 ((26 * (w32 (M 83 (M 77 n)))) + (w32 (M 83 (M 78 n))))) d_Mo_into_164 rfl ⟨by decide, by decide⟩ (by omega) (rd_arr rfl) (fun t21 => G_pc (pc' := 165) rfl ?_)
                have t21 := tok_l t21
                refine G_callV (K1 := KE) (d2 := 0) (o := 55) (cl := 9) (as := [vi n, vl (M 62 ((26 * (w32 (M 83 (M 77 n)))) + (w32 (M 83 (M 78 n)))))]) (rest := []) d_Mo_into_165 mf_Mo_set ml_Mo_289 rfl rfl (by decide) rfl rfl (Nat.le_of_ble_eq_true rfl) (by omega) ⟨Nat.le_refl _, Nat.le_refl _⟩ (g_Mo_set (by omega) n (M 62 ((26 * (w32 (M 83 (M 77 n)))) + (w32 (M 83 (M 78 n))))) _ (by omega)) (fun r22 M23 kq24 q24 => ?_)
                clear kq24; obtain ⟨q24a, q24b⟩ := q24; subst r22; subst M23
                refine G_ps (pc' := 168) (st' := []) rfl rfl ?_
                refine G_vret d_Mo_into_168 rfl rfl ?_
                refine ⟨rfl, ?_⟩; exact cmp_vhh (by unfold intoF; first | grind | grind [needF])
            · skip
              refine G_aload (i := 0) (n := 2) (len := 1) (Or.inl ⟨0, rfl, rfl, d_Mo_into_134⟩) rfl (by decide) (G_pc (pc' := 135) rfl ?_)
              refine G_iconst (n := 3) d_Mo_into_135 (by decide) (G_pc (pc' := 136) rfl ?_)
              refine G_putL (o := 55) (c := 9) (k := 46) (ki := 46) (x := 3) d_Mo_into_136 fl_Mo_280 rfl rfl (by decide) (by decide) (by decide) rfl rfl (tokI (by decide)) rfl (G_pc (pc' := 139) rfl ?_)
              refine G_vret d_Mo_into_139 rfl rfl ?_
              refine ⟨rfl, ?_⟩; exact cmp_th (by unfold intoF; first | grind | grind [needF]) (by decide)
        · skip
          refine G_aload (i := 0) (n := 1) (len := 1) (Or.inl ⟨0, rfl, rfl, d_Mo_into_91⟩) rfl (by decide) (G_pc (pc' := 92) rfl ?_)
          refine G_iload (i := 1) (n := 2) (len := 1) (Or.inl ⟨1, rfl, rfl, d_Mo_into_92⟩) rfl (G_pc (pc' := 93) rfl ?_)
          refine G_aload (i := 0) (n := 1) (len := 1) (Or.inl ⟨0, rfl, rfl, d_Mo_into_93⟩) rfl (by decide) (G_pc (pc' := 94) rfl ?_)
          refine G_get (o := 55) (c := 9) (k := 7) (v := 61) d_Mo_into_94 fl_Mo_26 rfl (by decide) (by decide) rfl rfl (G_pc (pc' := 97) rfl ?_)
          refine G_iload (i := 2) (n := 0) (len := 1) (Or.inl ⟨2, rfl, rfl, d_Mo_into_97⟩) rfl (G_pc (pc' := 98) rfl ?_)
          refine G_iaload (o := 61) (n := 13) (i := w32 (M 83 (M 77 n))) (v := M 61 (w32 (M 83 (M 77 n)))) d_Mo_into_98 rfl ⟨by decide, by decide⟩ (by omega) (rd_arr rfl) (fun t25 => G_pc (pc' := 99) rfl ?_)
          have t25 := tok_i t25
          refine G_i2l d_Mo_into_99 (G_pc (pc' := 100) rfl ?_)
          refine G_callV (K1 := KE) (d2 := 0) (o := 55) (cl := 9) (as := [vi n, vl (M 61 (w32 (M 83 (M 77 n))))]) (rest := []) d_Mo_into_100 mf_Mo_set ml_Mo_289 rfl rfl (by decide) rfl rfl (Nat.le_of_ble_eq_true rfl) (by omega) ⟨Nat.le_refl _, Nat.le_refl _⟩ (g_Mo_set (by omega) n (M 61 (w32 (M 83 (M 77 n)))) _ (by omega)) (fun r26 M27 kq28 q28 => ?_)
          clear kq28; obtain ⟨q28a, q28b⟩ := q28; subst r26; subst M27
          refine G_ps (pc' := 103) (st' := []) rfl rfl ?_
          refine G_vret d_Mo_into_103 rfl rfl ?_
          refine ⟨rfl, ?_⟩; exact cmp_vh (by unfold intoF; first | grind | grind [needF])
      · skip
        refine G_vret d_Mo_into_79 rfl rfl ?_
        refine ⟨rfl, ?_⟩; exact cmp_p (by unfold intoF; first | grind | grind [needF]) (by omega) (by simp [pieceM]; omega)
    · skip
      have hqf1 := hqf (by omega)
      refine G_aload (i := 0) (n := 1) (len := 1) (Or.inl ⟨0, rfl, rfl, d_Mo_into_34⟩) rfl (by decide) (G_pc (pc' := 35) rfl ?_)
      refine G_get (o := 55) (c := 9) (k := 33) (v := 80) d_Mo_into_35 fl_Mo_84 rfl (by decide) (by decide) rfl rfl (G_pc (pc' := 38) rfl ?_)
      refine G_iload (i := 1) (n := 2) (len := 1) (Or.inl ⟨1, rfl, rfl, d_Mo_into_38⟩) rfl (G_pc (pc' := 39) rfl ?_)
      refine G_laload (o := 80) (n := 32) (i := n) (v := M 80 n) d_Mo_into_39 rfl ⟨by decide, by decide⟩ (by omega) (rd_arr rfl) (fun t29 => G_pc (pc' := 40) rfl ?_)
      have t29 := tok_l t29
      refine G_l2i d_Mo_into_40 (G_pc (pc' := 41) rfl ?_)
      refine G_istore (i := 3) (len := 1) (ls' := [(3, vi (w32 (M 80 n))), (2, vi (w32 (M 83 (M 77 n)))), (0, vr 55), (1, vi n)]) (Or.inl ⟨3, rfl, rfl, d_Mo_into_41⟩) (by decide) rfl (G_pc (pc' := 42) rfl ?_)
      refine G_aload (i := 0) (n := 2) (len := 1) (Or.inl ⟨0, rfl, rfl, d_Mo_into_42⟩) rfl (by decide) (G_pc (pc' := 43) rfl ?_)
      refine G_iconst (n := 1) d_Mo_into_43 (by decide) (G_pc (pc' := 44) rfl ?_)
      refine G_iload (i := 2) (n := 1) (len := 1) (Or.inl ⟨2, rfl, rfl, d_Mo_into_44⟩) rfl (G_pc (pc' := 45) rfl ?_)
      refine G_iload (i := 3) (n := 0) (len := 1) (Or.inl ⟨3, rfl, rfl, d_Mo_into_45⟩) rfl (G_pc (pc' := 46) rfl ?_)
      refine G_callV (K1 := KE) (d2 := 1) (o := 55) (cl := 9) (as := [vi 1, vi (w32 (M 83 (M 77 n))), vi (w32 (M 80 n))]) (rest := []) d_Mo_into_46 mf_Mo_has ml_Mo_292 rfl rfl (by decide) rfl rfl (Nat.le_of_ble_eq_true rfl) (by omega) ⟨Nat.le_refl _, Nat.le_refl _⟩ (g_Mo_has (by omega) 1 (w32 (M 83 (M 77 n))) (w32 (M 80 n)) _ (by omega) (by omega) (by simp [pieceM]; omega)) (fun r30 M31 kq32 q32 => ?_)
      clear kq32; obtain ⟨q32a, q32b⟩ := q32; subst r30; subst M31
      refine G_ps (pc' := 49) (st' := [vi (M 71 (pieceM 1 (w32 (M 83 (M 77 n))) (w32 (M 80 n))))]) rfl rfl ?_
      refine G_if_eq (tgt := 68) d_Mo_into_49 (by decide) (fun h33 => ?_) (fun h33 => G_pc (pc' := 52) rfl ?_)
      · skip
        refine G_vret d_Mo_into_68 rfl rfl ?_
        refine ⟨rfl, ?_⟩; exact cmp_p (by unfold intoF; first | grind | grind [needF]) (by omega) (by simp [pieceM]; omega)
      · skip
        refine G_aload (i := 0) (n := 2) (len := 1) (Or.inl ⟨0, rfl, rfl, d_Mo_into_52⟩) rfl (by decide) (G_pc (pc' := 53) rfl ?_)
        refine G_iload (i := 1) (n := 3) (len := 1) (Or.inl ⟨1, rfl, rfl, d_Mo_into_53⟩) rfl (G_pc (pc' := 54) rfl ?_)
        refine G_aload (i := 0) (n := 2) (len := 1) (Or.inl ⟨0, rfl, rfl, d_Mo_into_54⟩) rfl (by decide) (G_pc (pc' := 55) rfl ?_)
        refine G_get (o := 55) (c := 9) (k := 8) (v := 62) d_Mo_into_55 fl_Mo_29 rfl (by decide) (by decide) rfl rfl (G_pc (pc' := 58) rfl ?_)
        refine G_bipush (n := 26) d_Mo_into_58 (by decide) (G_pc (pc' := 60) rfl ?_)
        refine G_iload (i := 2) (n := 1) (len := 1) (Or.inl ⟨2, rfl, rfl, d_Mo_into_60⟩) rfl (G_pc (pc' := 61) rfl ?_)
        refine G_imul d_Mo_into_61 (by omega) (G_pc (pc' := 62) rfl ?_)
        refine G_iload (i := 3) (n := 0) (len := 1) (Or.inl ⟨3, rfl, rfl, d_Mo_into_62⟩) rfl (G_pc (pc' := 63) rfl ?_)
        refine G_iadd d_Mo_into_63 (by omega) (G_pc (pc' := 64) rfl ?_)
        refine G_laload (o := 62) (n := 338) (i := (26 * (w32 (M 83 (M 77 n)))) + (w32 (M 80 n))) (v := M 62 ((26 * (w32 (M 83 (M 77 n)))) + (w32 (M 80 n)))) d_Mo_into_64 rfl ⟨by decide, by decide⟩ (by omega) (rd_arr rfl) (fun t34 => G_pc (pc' := 65) rfl ?_)
        have t34 := tok_l t34
        refine G_callV (K1 := KE) (d2 := 0) (o := 55) (cl := 9) (as := [vi n, vl (M 62 ((26 * (w32 (M 83 (M 77 n)))) + (w32 (M 80 n))))]) (rest := []) d_Mo_into_65 mf_Mo_set ml_Mo_289 rfl rfl (by decide) rfl rfl (Nat.le_of_ble_eq_true rfl) (by omega) ⟨Nat.le_refl _, Nat.le_refl _⟩ (g_Mo_set (by omega) n (M 62 ((26 * (w32 (M 83 (M 77 n)))) + (w32 (M 80 n)))) _ (by omega)) (fun r35 M36 kq37 q37 => ?_)
        clear kq37; obtain ⟨q37a, q37b⟩ := q37; subst r35; subst M36
        refine G_ps (pc' := 68) (st' := []) rfl rfl ?_
        refine G_vret d_Mo_into_68 rfl rfl ?_
        refine ⟨rfl, ?_⟩; exact cmp_vh (by unfold intoF; first | grind | grind [needF])
  · skip
    refine G_aload (i := 0) (n := 1) (len := 1) (Or.inl ⟨0, rfl, rfl, d_Mo_into_17⟩) rfl (by decide) (G_pc (pc' := 18) rfl ?_)
    refine G_iconst (n := 2) d_Mo_into_18 (by decide) (G_pc (pc' := 19) rfl ?_)
    refine G_putL (o := 55) (c := 9) (k := 46) (ki := 46) (x := 2) d_Mo_into_19 fl_Mo_280 rfl rfl (by decide) (by decide) (by decide) rfl rfl (tokI (by decide)) rfl (G_pc (pc' := 22) rfl ?_)
    refine G_vret d_Mo_into_22 rfl rfl ?_
    refine ⟨rfl, ?_⟩; exact cmp_t (by unfold intoF; first | grind | grind [needF]) (by decide)

