def signT (f : Int → Int) (k : Int) : TK := (k + sgN (f k) (f (k + 1)) (f (k + 2)), sgT (f k) (f (k + 1)) (f (k + 2)), 0, if sgT (f k) (f (k + 1)) (f (k + 2)) = 0 then 1 else 0)
def chrT (f : Int → Int) (k : Int) : TK := (k + 3, 3, f (k + 1), if f (k + 1) < 32 ∨ f (k + 1) = 39 ∨ f (k + 1) = 92 ∨ f (k + 2) ≠ 39 then 1 else 0)
def tok1 (f : Int → Int) (k : Int) : TK := if letB (f k) = true then wordT f k else if digB (f k) = true then numT f k else if f k = 39 then chrT f k else signT f k
theorem signM_e (M : Mem) (e k : Int) : signM M e k = tokM M (signT (txM M e) k) := rfl
theorem wordT_end {f : Int → Int} {k : Int} (h : letB (f k) = true) (hk : k < 40) (hk0 : 0 ≤ k) : k + 1 ≤ (wordT f k).1 ∧ (wordT f k).1 ≤ 40 := by
  have e : (wordT f k).1 = runE letB f (40 - k).toNat k := by unfold wordT; split <;> rfl
  rw [e, show (40 - k).toNat = (39 - k).toNat + 1 by omega, runE_t h]
  have := @runE_le letB f (39 - k).toNat (k + 1)
  omega
theorem numT_end {f : Int → Int} {k : Int} (h : digB (f k) = true) (hk : k < 40) (hk0 : 0 ≤ k) : k + 1 ≤ (numT f k).1 ∧ (numT f k).1 ≤ 41 := by
  have e : (numT f k).1 = runE digB f (40 - k).toNat k ∨ (numT f k).1 = runE digB f (40 - k).toNat k + 1 := by unfold numT numT1 numE; split <;> simp
  rw [show (40 - k).toNat = (39 - k).toNat + 1 by omega, runE_t h] at e
  have := @runE_le digB f (39 - k).toNat (k + 1)
  omega
theorem sgN_rng (c d f : Int) : 1 ≤ sgN c d f ∧ sgN c d f ≤ 3 := by unfold sgN; grind
def tkt (L : List (Int × Int)) (i : Int) : Int := (L.getD i.toNat (0, 0)).1
def tkv (L : List (Int × Int)) (i : Int) : Int := (L.getD i.toNat (0, 0)).2
theorem tkt_new {L : List (Int × Int)} {t v i : Int} (h : i = L.length) : tkt (L ++ [(t, v)]) i = t := by
  unfold tkt; rw [h, Int.toNat_natCast]; simp
theorem tkv_new {L : List (Int × Int)} {t v i : Int} (h : i = L.length) : tkv (L ++ [(t, v)]) i = v := by
  unfold tkv; rw [h, Int.toNat_natCast]; simp
theorem tkt_old {L : List (Int × Int)} {x : Int × Int} {i : Int} (h0 : 0 ≤ i) (h : i < L.length) : tkt (L ++ [x]) i = tkt L i := by
  unfold tkt; simp [List.getD_eq_getElem?_getD, List.getElem?_append_left (show i.toNat < L.length by omega)]
theorem tkv_old {L : List (Int × Int)} {x : Int × Int} {i : Int} (h0 : 0 ≤ i) (h : i < L.length) : tkv (L ++ [x]) i = tkv L i := by
  unfold tkv; simp [List.getD_eq_getElem?_getD, List.getElem?_append_left (show i.toNat < L.length by omega)]
def lexM (M : Mem) (L : List (Int × Int)) (w : Int) : Mem := fun c i =>
  if c = 55 ∧ i = 25 then L.length else if c = 55 ∧ i = 44 then w
  else if c = 74 ∧ 0 ≤ i ∧ i < L.length ∧ i < 25 then tkt L i
  else if c = 75 ∧ 0 ≤ i ∧ i < L.length ∧ i < 25 then tkv L i else M c i
theorem lexM_0 (M : Mem) : mset (mset M 55 25 0) 55 44 0 = lexM M [] 0 := by
  funext c i; unfold lexM mset; simp only [List.length_nil]; grind
theorem lexM_n {M : Mem} {L : List (Int × Int)} {w : Int} : lexM M L w 55 25 = L.length := rfl
theorem lexM_w {M : Mem} {L : List (Int × Int)} {w : Int} : lexM M L w 55 44 = w := rfl
theorem lexM_s {M : Mem} {L : List (Int × Int)} {w x : Int} : mset (lexM M L w) 55 44 x = lexM M L x := by
  funext c i; unfold lexM mset; grind
theorem lexM_add {M : Mem} {L : List (Int × Int)} {w t v : Int} : addM (lexM M L w) t v = lexM M (L ++ [(t, v)]) w := by
  have e1 := @tkt_new L t v _ rfl
  have e2 := @tkv_new L t v _ rfl
  funext c i
  have e3 := @tkt_old L (t, v) i
  have e4 := @tkv_old L (t, v) i
  unfold addM; rw [lexM_n]
  have e5 : ((L ++ [(t, v)]).length : Int) = L.length + 1 := by simp
  by_cases hn : (L.length : Int) < 25
  · rw [if_pos hn]; unfold mset lexM; rw [e5]
    by_cases h5 : c = 55
    · subst h5; simp; grind
    · by_cases h6 : c = 74
      · subst h6; simp; grind
      · by_cases h7 : c = 75
        · subst h7; simp; grind
        · simp [h5, h6, h7]
  · rw [if_neg hn]; unfold mset lexM; rw [e5]
    by_cases h5 : c = 55
    · subst h5; simp; grind
    · by_cases h6 : c = 74
      · subst h6; simp; grind
      · by_cases h7 : c = 75
        · subst h7; simp; grind
        · simp [h5, h6, h7]
theorem tokM_lex {M : Mem} {L : List (Int × Int)} {w : Int} (T : TK) : tokM (lexM M L w) T = lexM M (L ++ [(T.2.1, T.2.2.1)]) T.2.2.2 := by
  unfold tokM; rw [lexM_s, lexM_add]
theorem signM_lex {M : Mem} {L : List (Int × Int)} {w e k : Int} : signM (lexM M L w) e k = lexM M (L ++ [((signT (txM M e) k).2.1, (signT (txM M e) k).2.2.1)]) (signT (txM M e) k).2.2.2 := tokM_lex (signT (txM M e) k)
theorem wordM_lex {M : Mem} {L : List (Int × Int)} {w e k : Int} : tokM (lexM M L w) (wordT (txM (lexM M L w) e) k) = lexM M (L ++ [((wordT (txM M e) k).2.1, (wordT (txM M e) k).2.2.1)]) (wordT (txM M e) k).2.2.2 := tokM_lex (wordT (txM M e) k)
theorem numM_lex {M : Mem} {L : List (Int × Int)} {w e k : Int} : tokM (lexM M L w) (numT (txM (lexM M L w) e) k) = lexM M (L ++ [((numT (txM M e) k).2.1, (numT (txM M e) k).2.2.1)]) (numT (txM M e) k).2.2.2 := tokM_lex (numT (txM M e) k)
def lexL (f : Int → Int) (len : Int) : Nat → Int → List (Int × Int) → List (Int × Int) × Int
  | 0, _, L => (L, 0)
  | n + 1, k, L => if k < len then (if f k = 32 then lexL f len n (k + 1) L else if (tok1 f k).2.2.2 = 0 then lexL f len n (tok1 f k).1 (L ++ [((tok1 f k).2.1, (tok1 f k).2.2.1)]) else (L ++ [((tok1 f k).2.1, (tok1 f k).2.2.1)], (tok1 f k).2.2.2)) else (L, 0)
theorem lexL_out {f : Int → Int} {len : Int} {n : Nat} {k : Int} {L : List (Int × Int)} (h : ¬ k < len) : lexL f len n k L = (L, 0) := by cases n <;> simp [lexL, h]
theorem lexL_sp {f : Int → Int} {len : Int} {n : Nat} {k : Int} {L : List (Int × Int)} (h : k < len) (h2 : f k = 32) : lexL f len (n + 1) k L = lexL f len n (k + 1) L := by simp [lexL, h, h2]
def lexH (f : Int → Int) (len : Int) (n : Nat) (k : Int) (L : List (Int × Int)) (w : Int) : List (Int × Int) × Int := if w = 0 then lexL f len n k L else (L, w)
theorem lexH_s {f : Int → Int} {len : Int} {n : Nat} {k : Int} {L : List (Int × Int)} {T : TK} (h : k < len) (h2 : ¬ f k = 32) (hT : tok1 f k = T) : lexH f len n T.1 (L ++ [(T.2.1, T.2.2.1)]) T.2.2.2 = lexL f len (n + 1) k L := by
  unfold lexH; simp only [lexL, if_pos h, if_neg h2, hT]
def lexF (M : Mem) (e : Int) : List (Int × Int) × Int := lexL (txM M e) (M 64 e) 41 0 []
def splitM (M : Mem) (e : Int) : Mem := lexM M (lexF M e).1 (if (lexF M e).2 = 0 ∧ (lexF M e).1.length ≤ 24 then 0 else 1)
theorem tok1_w (f : Int → Int) (k : Int) : 0 ≤ (tok1 f k).2.2.2 ∧ (tok1 f k).2.2.2 ≤ 1 := by
  unfold tok1 wordT wordT1 wordT2 numT numT1 chrT signT
  grind
theorem sp_end {M : Mem} {e k w x : Int} {L : List (Int × Int)} {n : Nat} (hF : lexH (txM M e) (M 64 e) n k L w = lexF M e) (h : ¬ k < M 64 e ∨ ¬ w = 0) (hx : (x = 0 ∧ w = 0 ∧ (L.length : Int) ≤ 24) ∨ (x = 1 ∧ (¬ w = 0 ∨ (24 : Int) < L.length))) : lexM M L x = splitM M e := by
  have h9 : lexH (txM M e) (M 64 e) n k L w = (L, w) := by
    unfold lexH
    by_cases hw : w = 0
    · rw [if_pos hw, lexL_out (by omega), hw]
    · rw [if_neg hw]
  rw [h9] at hF
  unfold splitM
  rw [← hF]
  rcases hx with ⟨rfl, h1, h2⟩ | ⟨rfl, h1⟩
  · rw [if_pos ⟨h1, by show L.length ≤ 24; omega⟩]
  · rw [if_neg (by show ¬ (w = 0 ∧ L.length ≤ 24); omega)]
theorem tx_lex {M : Mem} {L : List (Int × Int)} {w : Int} : txM (lexM M L w) = txM M := rfl
theorem d_Mo_split_0 : decode b_Mo_split 0 = .ok (.aload_n 0, 1) := by decide +kernel
theorem d_Mo_split_1 : decode b_Mo_split 1 = .ok (.iconst 0, 1) := by decide +kernel
theorem d_Mo_split_2 : decode b_Mo_split 2 = .ok (.putfield 163, 3) := by decide +kernel
theorem d_Mo_split_5 : decode b_Mo_split 5 = .ok (.aload_n 0, 1) := by decide +kernel
theorem d_Mo_split_6 : decode b_Mo_split 6 = .ok (.iconst 0, 1) := by decide +kernel
theorem d_Mo_split_7 : decode b_Mo_split 7 = .ok (.putfield 166, 3) := by decide +kernel
theorem d_Mo_split_10 : decode b_Mo_split 10 = .ok (.iconst 0, 1) := by decide +kernel
theorem d_Mo_split_11 : decode b_Mo_split 11 = .ok (.istore_n 2, 1) := by decide +kernel
theorem d_Mo_split_12 : decode b_Mo_split 12 = .ok (.iload_n 2, 1) := by decide +kernel
theorem d_Mo_split_13 : decode b_Mo_split 13 = .ok (.aload_n 0, 1) := by decide +kernel
theorem d_Mo_split_14 : decode b_Mo_split 14 = .ok (.getfield 35, 3) := by decide +kernel
theorem d_Mo_split_17 : decode b_Mo_split 17 = .ok (.iload_n 1, 1) := by decide +kernel
theorem d_Mo_split_18 : decode b_Mo_split 18 = .ok (.iaload, 1) := by decide +kernel
theorem d_Mo_split_19 : decode b_Mo_split 19 = .ok (.if_icmp .ge 146, 3) := by decide +kernel
theorem d_Mo_split_22 : decode b_Mo_split 22 = .ok (.aload_n 0, 1) := by decide +kernel
theorem d_Mo_split_23 : decode b_Mo_split 23 = .ok (.getfield 166, 3) := by decide +kernel
theorem d_Mo_split_26 : decode b_Mo_split 26 = .ok (.ifCond .ne 139, 3) := by decide +kernel
theorem d_Mo_split_29 : decode b_Mo_split 29 = .ok (.aload_n 0, 1) := by decide +kernel
theorem d_Mo_split_30 : decode b_Mo_split 30 = .ok (.iload_n 1, 1) := by decide +kernel
theorem d_Mo_split_31 : decode b_Mo_split 31 = .ok (.iload_n 2, 1) := by decide +kernel
theorem d_Mo_split_32 : decode b_Mo_split 32 = .ok (.invokevirtual 169, 3) := by decide +kernel
theorem d_Mo_split_35 : decode b_Mo_split 35 = .ok (.istore_n 3, 1) := by decide +kernel
theorem d_Mo_split_36 : decode b_Mo_split 36 = .ok (.iload_n 3, 1) := by decide +kernel
theorem d_Mo_split_37 : decode b_Mo_split 37 = .ok (.bipush 32, 2) := by decide +kernel
theorem d_Mo_split_39 : decode b_Mo_split 39 = .ok (.if_icmp .ne 9, 3) := by decide +kernel
theorem d_Mo_split_42 : decode b_Mo_split 42 = .ok (.iinc 2 1, 3) := by decide +kernel
theorem d_Mo_split_45 : decode b_Mo_split 45 = .ok (.goto 117, 3) := by decide +kernel
theorem d_Mo_split_48 : decode b_Mo_split 48 = .ok (.iload_n 3, 1) := by decide +kernel
theorem d_Mo_split_49 : decode b_Mo_split 49 = .ok (.invokestatic 172, 3) := by decide +kernel
theorem d_Mo_split_52 : decode b_Mo_split 52 = .ok (.ifCond .eq 13, 3) := by decide +kernel
theorem d_Mo_split_55 : decode b_Mo_split 55 = .ok (.aload_n 0, 1) := by decide +kernel
theorem d_Mo_split_56 : decode b_Mo_split 56 = .ok (.iload_n 1, 1) := by decide +kernel
theorem d_Mo_split_57 : decode b_Mo_split 57 = .ok (.iload_n 2, 1) := by decide +kernel
theorem d_Mo_split_58 : decode b_Mo_split 58 = .ok (.invokevirtual 175, 3) := by decide +kernel
theorem d_Mo_split_61 : decode b_Mo_split 61 = .ok (.istore_n 2, 1) := by decide +kernel
theorem d_Mo_split_62 : decode b_Mo_split 62 = .ok (.goto 100, 3) := by decide +kernel
theorem d_Mo_split_65 : decode b_Mo_split 65 = .ok (.iload_n 3, 1) := by decide +kernel
theorem d_Mo_split_66 : decode b_Mo_split 66 = .ok (.invokestatic 178, 3) := by decide +kernel
theorem d_Mo_split_69 : decode b_Mo_split 69 = .ok (.ifCond .eq 13, 3) := by decide +kernel
theorem d_Mo_split_72 : decode b_Mo_split 72 = .ok (.aload_n 0, 1) := by decide +kernel
theorem d_Mo_split_73 : decode b_Mo_split 73 = .ok (.iload_n 1, 1) := by decide +kernel
theorem d_Mo_split_74 : decode b_Mo_split 74 = .ok (.iload_n 2, 1) := by decide +kernel
theorem d_Mo_split_75 : decode b_Mo_split 75 = .ok (.invokevirtual 181, 3) := by decide +kernel
theorem d_Mo_split_78 : decode b_Mo_split 78 = .ok (.istore_n 2, 1) := by decide +kernel
theorem d_Mo_split_79 : decode b_Mo_split 79 = .ok (.goto 83, 3) := by decide +kernel
theorem d_Mo_split_82 : decode b_Mo_split 82 = .ok (.iload_n 3, 1) := by decide +kernel
theorem d_Mo_split_83 : decode b_Mo_split 83 = .ok (.bipush 39, 2) := by decide +kernel
theorem d_Mo_split_85 : decode b_Mo_split 85 = .ok (.if_icmp .ne 70, 3) := by decide +kernel
theorem d_Mo_split_88 : decode b_Mo_split 88 = .ok (.aload_n 0, 1) := by decide +kernel
theorem d_Mo_split_89 : decode b_Mo_split 89 = .ok (.iload_n 1, 1) := by decide +kernel
theorem d_Mo_split_90 : decode b_Mo_split 90 = .ok (.iload_n 2, 1) := by decide +kernel
theorem d_Mo_split_91 : decode b_Mo_split 91 = .ok (.iconst 1, 1) := by decide +kernel
theorem d_Mo_split_92 : decode b_Mo_split 92 = .ok (.iadd, 1) := by decide +kernel
theorem d_Mo_split_93 : decode b_Mo_split 93 = .ok (.invokevirtual 169, 3) := by decide +kernel
theorem d_Mo_split_96 : decode b_Mo_split 96 = .ok (.istore 4, 2) := by decide +kernel
theorem d_Mo_split_98 : decode b_Mo_split 98 = .ok (.aload_n 0, 1) := by decide +kernel
theorem d_Mo_split_99 : decode b_Mo_split 99 = .ok (.iload 4, 2) := by decide +kernel
theorem d_Mo_split_101 : decode b_Mo_split 101 = .ok (.bipush 32, 2) := by decide +kernel
theorem d_Mo_split_103 : decode b_Mo_split 103 = .ok (.if_icmp .lt 30, 3) := by decide +kernel
theorem d_Mo_split_106 : decode b_Mo_split 106 = .ok (.iload 4, 2) := by decide +kernel
theorem d_Mo_split_108 : decode b_Mo_split 108 = .ok (.bipush 39, 2) := by decide +kernel
theorem d_Mo_split_110 : decode b_Mo_split 110 = .ok (.if_icmp .eq 23, 3) := by decide +kernel
theorem d_Mo_split_113 : decode b_Mo_split 113 = .ok (.iload 4, 2) := by decide +kernel
theorem d_Mo_split_115 : decode b_Mo_split 115 = .ok (.bipush 92, 2) := by decide +kernel
theorem d_Mo_split_117 : decode b_Mo_split 117 = .ok (.if_icmp .eq 16, 3) := by decide +kernel
theorem d_Mo_split_120 : decode b_Mo_split 120 = .ok (.aload_n 0, 1) := by decide +kernel
theorem d_Mo_split_121 : decode b_Mo_split 121 = .ok (.iload_n 1, 1) := by decide +kernel
theorem d_Mo_split_122 : decode b_Mo_split 122 = .ok (.iload_n 2, 1) := by decide +kernel
theorem d_Mo_split_123 : decode b_Mo_split 123 = .ok (.iconst 2, 1) := by decide +kernel
theorem d_Mo_split_124 : decode b_Mo_split 124 = .ok (.iadd, 1) := by decide +kernel
theorem d_Mo_split_125 : decode b_Mo_split 125 = .ok (.invokevirtual 169, 3) := by decide +kernel
theorem d_Mo_split_128 : decode b_Mo_split 128 = .ok (.bipush 39, 2) := by decide +kernel
theorem d_Mo_split_130 : decode b_Mo_split 130 = .ok (.if_icmp .eq 7, 3) := by decide +kernel
theorem d_Mo_split_133 : decode b_Mo_split 133 = .ok (.iconst 1, 1) := by decide +kernel
theorem d_Mo_split_134 : decode b_Mo_split 134 = .ok (.goto 4, 3) := by decide +kernel
theorem d_Mo_split_137 : decode b_Mo_split 137 = .ok (.iconst 0, 1) := by decide +kernel
theorem d_Mo_split_138 : decode b_Mo_split 138 = .ok (.putfield 166, 3) := by decide +kernel
theorem d_Mo_split_141 : decode b_Mo_split 141 = .ok (.aload_n 0, 1) := by decide +kernel
theorem d_Mo_split_142 : decode b_Mo_split 142 = .ok (.iconst 3, 1) := by decide +kernel
theorem d_Mo_split_143 : decode b_Mo_split 143 = .ok (.iload 4, 2) := by decide +kernel
theorem d_Mo_split_145 : decode b_Mo_split 145 = .ok (.i2l, 1) := by decide +kernel
theorem d_Mo_split_146 : decode b_Mo_split 146 = .ok (.invokevirtual 184, 3) := by decide +kernel
theorem d_Mo_split_149 : decode b_Mo_split 149 = .ok (.iinc 2 3, 3) := by decide +kernel
theorem d_Mo_split_152 : decode b_Mo_split 152 = .ok (.goto 10, 3) := by decide +kernel
theorem d_Mo_split_155 : decode b_Mo_split 155 = .ok (.aload_n 0, 1) := by decide +kernel
theorem d_Mo_split_156 : decode b_Mo_split 156 = .ok (.iload_n 1, 1) := by decide +kernel
theorem d_Mo_split_157 : decode b_Mo_split 157 = .ok (.iload_n 2, 1) := by decide +kernel
theorem d_Mo_split_158 : decode b_Mo_split 158 = .ok (.invokevirtual 188, 3) := by decide +kernel
theorem d_Mo_split_161 : decode b_Mo_split 161 = .ok (.istore_n 2, 1) := by decide +kernel
theorem d_Mo_split_162 : decode b_Mo_split 162 = .ok (.goto (-150), 3) := by decide +kernel
theorem d_Mo_split_165 : decode b_Mo_split 165 = .ok (.aload_n 0, 1) := by decide +kernel
theorem d_Mo_split_166 : decode b_Mo_split 166 = .ok (.aload_n 0, 1) := by decide +kernel
theorem d_Mo_split_167 : decode b_Mo_split 167 = .ok (.getfield 166, 3) := by decide +kernel
theorem d_Mo_split_170 : decode b_Mo_split 170 = .ok (.ifCond .ne 12, 3) := by decide +kernel
theorem d_Mo_split_173 : decode b_Mo_split 173 = .ok (.aload_n 0, 1) := by decide +kernel
theorem d_Mo_split_174 : decode b_Mo_split 174 = .ok (.getfield 163, 3) := by decide +kernel
theorem d_Mo_split_177 : decode b_Mo_split 177 = .ok (.bipush 24, 2) := by decide +kernel
theorem d_Mo_split_179 : decode b_Mo_split 179 = .ok (.if_icmp .le 7, 3) := by decide +kernel
theorem d_Mo_split_182 : decode b_Mo_split 182 = .ok (.iconst 1, 1) := by decide +kernel
theorem d_Mo_split_183 : decode b_Mo_split 183 = .ok (.goto 4, 3) := by decide +kernel
theorem d_Mo_split_186 : decode b_Mo_split 186 = .ok (.iconst 0, 1) := by decide +kernel
theorem d_Mo_split_187 : decode b_Mo_split 187 = .ok (.putfield 166, 3) := by decide +kernel
theorem d_Mo_split_190 : decode b_Mo_split 190 = .ok (.return_, 1) := by decide +kernel
set_option maxHeartbeats 1000000 in
theorem g_Mo_split {X : WX} {d : Nat} (hd : 3 ≤ d) (e : Int) (M : Mem) (hL : okL M) (hX : okT M e) (he : 0 ≤ e ∧ e < 5) : MG X gt d KE KE y_Mo_split b_Mo_split 5 none [vr 55, vi e] M (fun r M' => r = none ∧ M' = splitM M e) := by
  refine MG_of_G (by decide) (Nat.le_of_ble_eq_true rfl) (Nat.le_refl _) (by decide) ?_
  show G X gt d KE KE y_Mo_split b_Mo_split 5 none _ 0 [(0, vr 55), (1, vi e)] [] KE M
  refine G_rngl (i := 1) rfl (fun hr1 => ?_)
  have loop : ∀ (n : Nat) (k : Int) (L : List (Int × Int)) (w : Int), M 64 e ≤ k + n → 0 ≤ k → k ≤ 50 → 0 ≤ w ∧ w ≤ 1 → (L.length : Int) ≤ k → lexH (txM M e) (M 64 e) n k L w = lexF M e → G X gt d KE KE y_Mo_split b_Mo_split 5 none (fun r M' => r = none ∧ M' = splitM M e) 12 [(2, vi k), (0, vr 55), (1, vi e)] [] KE (lexM M L w) := by
    intro n
    induction n with
    | zero =>
      intro k L w h1 h2 h3 hw hLk hF
      have hlw : lexM M L w 55 44 = w := rfl
      have hln : lexM M L w 55 25 = L.length := rfl
      have hl64 : lexM M L w 64 e = M 64 e := rfl
      have hle := hL e he.1 he.2
      have hx9 := txM_rng hX (k := k) (by omega)
      have hx8 := txM_rng hX (k := k + 1) (by omega)
      refine G_iload (i := 2) (n := 0) (len := 1) (Or.inl ⟨2, rfl, rfl, d_Mo_split_12⟩) rfl (G_pc (pc' := 13) rfl ?_)
      refine G_aload (i := 0) (n := 1) (len := 1) (Or.inl ⟨0, rfl, rfl, d_Mo_split_13⟩) rfl (by decide) (G_pc (pc' := 14) rfl ?_)
      refine G_get (o := 55) (c := 9) (k := 13) (v := 64) d_Mo_split_14 fl_Mo_35 rfl (by decide) (by decide) rfl rfl (G_pc (pc' := 17) rfl ?_)
      refine G_iload (i := 1) (n := 2) (len := 1) (Or.inl ⟨1, rfl, rfl, d_Mo_split_17⟩) rfl (G_pc (pc' := 18) rfl ?_)
      refine G_iaload (o := 64) (n := 5) (i := e) (v := (lexM M L w) 64 e) d_Mo_split_18 rfl ⟨by decide, by decide⟩ (by omega) (rd_arr rfl) (fun t3601 => G_pc (pc' := 19) rfl ?_)
      have t3601 := tok_i t3601
      refine G_icmp_ge (tgt := 165) d_Mo_split_19 (by decide) (fun h3602 => ?_) (fun h3602 => absurd h3602 (by omega))
      refine G_aload (i := 0) (n := 1) (len := 1) (Or.inl ⟨0, rfl, rfl, d_Mo_split_165⟩) rfl (by decide) (G_pc (pc' := 166) rfl ?_)
      refine G_aload (i := 0) (n := 1) (len := 1) (Or.inl ⟨0, rfl, rfl, d_Mo_split_166⟩) rfl (by decide) (G_pc (pc' := 167) rfl ?_)
      refine G_get (o := 55) (c := 9) (k := 44) (v := (lexM M L w) 55 44) d_Mo_split_167 fl_Mo_166 rfl (by decide) (by decide) rfl rfl (G_pc (pc' := 170) rfl ?_)
      refine G_if_ne (tgt := 182) d_Mo_split_170 (by decide) (fun h3603 => ?_) (fun h3603 => G_pc (pc' := 173) rfl ?_)
      · skip
        refine G_iconst (n := 1) d_Mo_split_182 (by decide) (G_pc (pc' := 183) rfl ?_)
        refine G_goto (tgt := 187) d_Mo_split_183 (by decide) ?_
        refine G_putL (o := 55) (c := 9) (k := 44) (ki := 44) (x := 1) d_Mo_split_187 fl_Mo_166 rfl rfl (by decide) (by decide) (by decide) rfl rfl (tokZ (by decide)) rfl (G_pc (pc' := 190) rfl ?_)
        refine G_vret d_Mo_split_190 rfl rfl ?_
        refine ⟨rfl, ?_⟩
        rw [lexM_s]
        exact sp_end hF (by omega) (by omega)
      · skip
        refine G_aload (i := 0) (n := 1) (len := 1) (Or.inl ⟨0, rfl, rfl, d_Mo_split_173⟩) rfl (by decide) (G_pc (pc' := 174) rfl ?_)
        refine G_get (o := 55) (c := 9) (k := 25) (v := (lexM M L w) 55 25) d_Mo_split_174 fl_Mo_163 rfl (by decide) (by decide) rfl rfl (G_pc (pc' := 177) rfl ?_)
        refine G_bipush (n := 24) d_Mo_split_177 (by decide) (G_pc (pc' := 179) rfl ?_)
        refine G_icmp_le (tgt := 186) d_Mo_split_179 (by decide) (fun h3604 => ?_) (fun h3604 => G_pc (pc' := 182) rfl ?_)
        · skip
          refine G_iconst (n := 0) d_Mo_split_186 (by decide) (G_pc (pc' := 187) rfl ?_)
          refine G_putL (o := 55) (c := 9) (k := 44) (ki := 44) (x := 0) d_Mo_split_187 fl_Mo_166 rfl rfl (by decide) (by decide) (by decide) rfl rfl (tokZ (by decide)) rfl (G_pc (pc' := 190) rfl ?_)
          refine G_vret d_Mo_split_190 rfl rfl ?_
          refine ⟨rfl, ?_⟩
          rw [lexM_s]
          exact sp_end hF (by omega) (by omega)
        · skip
          refine G_iconst (n := 1) d_Mo_split_182 (by decide) (G_pc (pc' := 183) rfl ?_)
          refine G_goto (tgt := 187) d_Mo_split_183 (by decide) ?_
          refine G_putL (o := 55) (c := 9) (k := 44) (ki := 44) (x := 1) d_Mo_split_187 fl_Mo_166 rfl rfl (by decide) (by decide) (by decide) rfl rfl (tokZ (by decide)) rfl (G_pc (pc' := 190) rfl ?_)
          refine G_vret d_Mo_split_190 rfl rfl ?_
          refine ⟨rfl, ?_⟩
          rw [lexM_s]
          exact sp_end hF (by omega) (by omega)
    | succ n ih =>
      intro k L w h1 h2 h3 hw hLk hF
      have hlw : lexM M L w 55 44 = w := rfl
      have hln : lexM M L w 55 25 = L.length := rfl
      have hl64 : lexM M L w 64 e = M 64 e := rfl
      have hle := hL e he.1 he.2
      have hx9 := txM_rng hX (k := k) (by omega)
      have hx8 := txM_rng hX (k := k + 1) (by omega)
      refine G_iload (i := 2) (n := 0) (len := 1) (Or.inl ⟨2, rfl, rfl, d_Mo_split_12⟩) rfl (G_pc (pc' := 13) rfl ?_)
      refine G_aload (i := 0) (n := 1) (len := 1) (Or.inl ⟨0, rfl, rfl, d_Mo_split_13⟩) rfl (by decide) (G_pc (pc' := 14) rfl ?_)
      refine G_get (o := 55) (c := 9) (k := 13) (v := 64) d_Mo_split_14 fl_Mo_35 rfl (by decide) (by decide) rfl rfl (G_pc (pc' := 17) rfl ?_)
      refine G_iload (i := 1) (n := 2) (len := 1) (Or.inl ⟨1, rfl, rfl, d_Mo_split_17⟩) rfl (G_pc (pc' := 18) rfl ?_)
      refine G_iaload (o := 64) (n := 5) (i := e) (v := (lexM M L w) 64 e) d_Mo_split_18 rfl ⟨by decide, by decide⟩ (by omega) (rd_arr rfl) (fun t3701 => G_pc (pc' := 19) rfl ?_)
      have t3701 := tok_i t3701
      refine G_icmp_ge (tgt := 165) d_Mo_split_19 (by decide) (fun h3702 => ?_) (fun h3702 => G_pc (pc' := 22) rfl ?_)
      · skip
        refine G_aload (i := 0) (n := 1) (len := 1) (Or.inl ⟨0, rfl, rfl, d_Mo_split_165⟩) rfl (by decide) (G_pc (pc' := 166) rfl ?_)
        refine G_aload (i := 0) (n := 1) (len := 1) (Or.inl ⟨0, rfl, rfl, d_Mo_split_166⟩) rfl (by decide) (G_pc (pc' := 167) rfl ?_)
        refine G_get (o := 55) (c := 9) (k := 44) (v := (lexM M L w) 55 44) d_Mo_split_167 fl_Mo_166 rfl (by decide) (by decide) rfl rfl (G_pc (pc' := 170) rfl ?_)
        refine G_if_ne (tgt := 182) d_Mo_split_170 (by decide) (fun h3703 => ?_) (fun h3703 => G_pc (pc' := 173) rfl ?_)
        · skip
          refine G_iconst (n := 1) d_Mo_split_182 (by decide) (G_pc (pc' := 183) rfl ?_)
          refine G_goto (tgt := 187) d_Mo_split_183 (by decide) ?_
          refine G_putL (o := 55) (c := 9) (k := 44) (ki := 44) (x := 1) d_Mo_split_187 fl_Mo_166 rfl rfl (by decide) (by decide) (by decide) rfl rfl (tokZ (by decide)) rfl (G_pc (pc' := 190) rfl ?_)
          refine G_vret d_Mo_split_190 rfl rfl ?_
          refine ⟨rfl, ?_⟩
          rw [lexM_s]
          exact sp_end hF (by omega) (by omega)
        · skip
          refine G_aload (i := 0) (n := 1) (len := 1) (Or.inl ⟨0, rfl, rfl, d_Mo_split_173⟩) rfl (by decide) (G_pc (pc' := 174) rfl ?_)
          refine G_get (o := 55) (c := 9) (k := 25) (v := (lexM M L w) 55 25) d_Mo_split_174 fl_Mo_163 rfl (by decide) (by decide) rfl rfl (G_pc (pc' := 177) rfl ?_)
          refine G_bipush (n := 24) d_Mo_split_177 (by decide) (G_pc (pc' := 179) rfl ?_)
          refine G_icmp_le (tgt := 186) d_Mo_split_179 (by decide) (fun h3704 => ?_) (fun h3704 => G_pc (pc' := 182) rfl ?_)
          · skip
            refine G_iconst (n := 0) d_Mo_split_186 (by decide) (G_pc (pc' := 187) rfl ?_)
            refine G_putL (o := 55) (c := 9) (k := 44) (ki := 44) (x := 0) d_Mo_split_187 fl_Mo_166 rfl rfl (by decide) (by decide) (by decide) rfl rfl (tokZ (by decide)) rfl (G_pc (pc' := 190) rfl ?_)
            refine G_vret d_Mo_split_190 rfl rfl ?_
            refine ⟨rfl, ?_⟩
            rw [lexM_s]
            exact sp_end hF (by omega) (by omega)
          · skip
            refine G_iconst (n := 1) d_Mo_split_182 (by decide) (G_pc (pc' := 183) rfl ?_)
            refine G_goto (tgt := 187) d_Mo_split_183 (by decide) ?_
            refine G_putL (o := 55) (c := 9) (k := 44) (ki := 44) (x := 1) d_Mo_split_187 fl_Mo_166 rfl rfl (by decide) (by decide) (by decide) rfl rfl (tokZ (by decide)) rfl (G_pc (pc' := 190) rfl ?_)
            refine G_vret d_Mo_split_190 rfl rfl ?_
            refine ⟨rfl, ?_⟩
            rw [lexM_s]
            exact sp_end hF (by omega) (by omega)
      · skip
        refine G_aload (i := 0) (n := 1) (len := 1) (Or.inl ⟨0, rfl, rfl, d_Mo_split_22⟩) rfl (by decide) (G_pc (pc' := 23) rfl ?_)
        refine G_get (o := 55) (c := 9) (k := 44) (v := (lexM M L w) 55 44) d_Mo_split_23 fl_Mo_166 rfl (by decide) (by decide) rfl rfl (G_pc (pc' := 26) rfl ?_)
        refine G_if_ne (tgt := 165) d_Mo_split_26 (by decide) (fun h3705 => ?_) (fun h3705 => G_pc (pc' := 29) rfl ?_)
        · skip
          refine G_aload (i := 0) (n := 1) (len := 1) (Or.inl ⟨0, rfl, rfl, d_Mo_split_165⟩) rfl (by decide) (G_pc (pc' := 166) rfl ?_)
          refine G_aload (i := 0) (n := 1) (len := 1) (Or.inl ⟨0, rfl, rfl, d_Mo_split_166⟩) rfl (by decide) (G_pc (pc' := 167) rfl ?_)
          refine G_get (o := 55) (c := 9) (k := 44) (v := (lexM M L w) 55 44) d_Mo_split_167 fl_Mo_166 rfl (by decide) (by decide) rfl rfl (G_pc (pc' := 170) rfl ?_)
          refine G_if_ne (tgt := 182) d_Mo_split_170 (by decide) (fun h3706 => ?_) (fun h3706 => G_pc (pc' := 173) rfl ?_)
          · skip
            refine G_iconst (n := 1) d_Mo_split_182 (by decide) (G_pc (pc' := 183) rfl ?_)
            refine G_goto (tgt := 187) d_Mo_split_183 (by decide) ?_
            refine G_putL (o := 55) (c := 9) (k := 44) (ki := 44) (x := 1) d_Mo_split_187 fl_Mo_166 rfl rfl (by decide) (by decide) (by decide) rfl rfl (tokZ (by decide)) rfl (G_pc (pc' := 190) rfl ?_)
            refine G_vret d_Mo_split_190 rfl rfl ?_
            refine ⟨rfl, ?_⟩
            rw [lexM_s]
            exact sp_end hF (by omega) (by omega)
          · skip
            refine G_aload (i := 0) (n := 1) (len := 1) (Or.inl ⟨0, rfl, rfl, d_Mo_split_173⟩) rfl (by decide) (G_pc (pc' := 174) rfl ?_)
            refine G_get (o := 55) (c := 9) (k := 25) (v := (lexM M L w) 55 25) d_Mo_split_174 fl_Mo_163 rfl (by decide) (by decide) rfl rfl (G_pc (pc' := 177) rfl ?_)
            refine G_bipush (n := 24) d_Mo_split_177 (by decide) (G_pc (pc' := 179) rfl ?_)
            refine G_icmp_le (tgt := 186) d_Mo_split_179 (by decide) (fun h3707 => ?_) (fun h3707 => G_pc (pc' := 182) rfl ?_)
            · skip
              refine G_iconst (n := 0) d_Mo_split_186 (by decide) (G_pc (pc' := 187) rfl ?_)
              refine G_putL (o := 55) (c := 9) (k := 44) (ki := 44) (x := 0) d_Mo_split_187 fl_Mo_166 rfl rfl (by decide) (by decide) (by decide) rfl rfl (tokZ (by decide)) rfl (G_pc (pc' := 190) rfl ?_)
              refine G_vret d_Mo_split_190 rfl rfl ?_
              refine ⟨rfl, ?_⟩
              rw [lexM_s]
              exact sp_end hF (by omega) (by omega)
            · skip
              refine G_iconst (n := 1) d_Mo_split_182 (by decide) (G_pc (pc' := 183) rfl ?_)
              refine G_goto (tgt := 187) d_Mo_split_183 (by decide) ?_
              refine G_putL (o := 55) (c := 9) (k := 44) (ki := 44) (x := 1) d_Mo_split_187 fl_Mo_166 rfl rfl (by decide) (by decide) (by decide) rfl rfl (tokZ (by decide)) rfl (G_pc (pc' := 190) rfl ?_)
              refine G_vret d_Mo_split_190 rfl rfl ?_
              refine ⟨rfl, ?_⟩
              rw [lexM_s]
              exact sp_end hF (by omega) (by omega)
        · skip
          refine G_aload (i := 0) (n := 1) (len := 1) (Or.inl ⟨0, rfl, rfl, d_Mo_split_29⟩) rfl (by decide) (G_pc (pc' := 30) rfl ?_)
          refine G_iload (i := 1) (n := 2) (len := 1) (Or.inl ⟨1, rfl, rfl, d_Mo_split_30⟩) rfl (G_pc (pc' := 31) rfl ?_)
          refine G_iload (i := 2) (n := 0) (len := 1) (Or.inl ⟨2, rfl, rfl, d_Mo_split_31⟩) rfl (G_pc (pc' := 32) rfl ?_)
          refine G_callV (K1 := KE) (d2 := 0) (o := 55) (cl := 9) (as := [vi e, vi k]) (rest := []) d_Mo_split_32 mf_Mo_at ml_Mo_169 rfl rfl (by decide) rfl rfl (Nat.le_of_ble_eq_true rfl) (by omega) ⟨Nat.le_refl _, Nat.le_refl _⟩ (g_Mo_at (by omega) e k _ hL he (by omega)) (fun r3708 M3709 kq3710 q3710 => ?_)
          clear kq3710; obtain ⟨q3710a, q3710b⟩ := q3710; subst r3708; subst M3709
          refine G_ps (pc' := 35) (st' := [vi (txM M e k)]) rfl rfl ?_
          refine G_istore (i := 3) (len := 1) (ls' := [(3, vi (txM M e k)), (2, vi k), (0, vr 55), (1, vi e)]) (Or.inl ⟨3, rfl, rfl, d_Mo_split_35⟩) (by decide) rfl (G_pc (pc' := 36) rfl ?_)
          refine G_iload (i := 3) (n := 0) (len := 1) (Or.inl ⟨3, rfl, rfl, d_Mo_split_36⟩) rfl (G_pc (pc' := 37) rfl ?_)
          refine G_bipush (n := 32) d_Mo_split_37 (by decide) (G_pc (pc' := 39) rfl ?_)
          refine G_icmp_ne (tgt := 48) d_Mo_split_39 (by decide) (fun h3711 => ?_) (fun h3711 => G_pc (pc' := 42) rfl ?_)
          · skip
            refine G_iload (i := 3) (n := 0) (len := 1) (Or.inl ⟨3, rfl, rfl, d_Mo_split_48⟩) rfl (G_pc (pc' := 49) rfl ?_)
            refine G_callS (K1 := KE) (d2 := 1) (as := [vi (txM M e k)]) (rest := []) d_Mo_split_49 mf_Mo_letter ml_Mo_172 rfl rfl (Nat.le_of_ble_eq_true rfl) (by omega) ⟨Nat.le_refl _, Nat.le_refl _⟩ (g_Mo_letter (by omega) (txM M e k) _) (fun r3712 M3713 kq3714 q3714 => ?_)
            clear kq3714; obtain ⟨q3714a, q3714b⟩ := q3714; subst r3712; subst M3713
            refine G_ps (pc' := 52) (st' := [vi (b2i (letB (txM M e k)))]) rfl rfl ?_
            refine G_if_eq (tgt := 65) d_Mo_split_52 (by decide) (fun h3715 => ?_) (fun h3715 => G_pc (pc' := 55) rfl ?_)
            · skip
              replace h3715 := b2i_0.mp h3715
              replace h3715 := letB_f.mp h3715
              refine G_iload (i := 3) (n := 0) (len := 1) (Or.inl ⟨3, rfl, rfl, d_Mo_split_65⟩) rfl (G_pc (pc' := 66) rfl ?_)
              refine G_callS (K1 := KE) (d2 := 0) (as := [vi (txM M e k)]) (rest := []) d_Mo_split_66 mf_Mo_digit ml_Mo_178 rfl rfl (Nat.le_of_ble_eq_true rfl) (by omega) ⟨Nat.le_refl _, Nat.le_refl _⟩ (g_Mo_digit (by omega) (txM M e k) _) (fun r3716 M3717 kq3718 q3718 => ?_)
              clear kq3718; obtain ⟨q3718a, q3718b⟩ := q3718; subst r3716; subst M3717
              refine G_ps (pc' := 69) (st' := [vi (b2i (digB (txM M e k)))]) rfl rfl ?_
              refine G_if_eq (tgt := 82) d_Mo_split_69 (by decide) (fun h3719 => ?_) (fun h3719 => G_pc (pc' := 72) rfl ?_)
              · skip
                replace h3719 := b2i_0.mp h3719
                replace h3719 := digB_f.mp h3719
                refine G_iload (i := 3) (n := 0) (len := 1) (Or.inl ⟨3, rfl, rfl, d_Mo_split_82⟩) rfl (G_pc (pc' := 83) rfl ?_)
                refine G_bipush (n := 39) d_Mo_split_83 (by decide) (G_pc (pc' := 85) rfl ?_)
                refine G_icmp_ne (tgt := 155) d_Mo_split_85 (by decide) (fun h3720 => ?_) (fun h3720 => G_pc (pc' := 88) rfl ?_)
                · skip
                  refine G_aload (i := 0) (n := 2) (len := 1) (Or.inl ⟨0, rfl, rfl, d_Mo_split_155⟩) rfl (by decide) (G_pc (pc' := 156) rfl ?_)
                  refine G_iload (i := 1) (n := 3) (len := 1) (Or.inl ⟨1, rfl, rfl, d_Mo_split_156⟩) rfl (G_pc (pc' := 157) rfl ?_)
                  refine G_iload (i := 2) (n := 1) (len := 1) (Or.inl ⟨2, rfl, rfl, d_Mo_split_157⟩) rfl (G_pc (pc' := 158) rfl ?_)
                  refine G_callV (K1 := KE) (d2 := 1) (o := 55) (cl := 9) (as := [vi e, vi k]) (rest := []) d_Mo_split_158 mf_Mo_sign ml_Mo_188 rfl rfl (by decide) rfl rfl (Nat.le_of_ble_eq_true rfl) (by omega) ⟨Nat.le_refl _, Nat.le_refl _⟩ (g_Mo_sign (by omega) e k _ hL he (by omega) (by rw [lexM_n]; omega)) (fun r3721 M3722 kq3723 q3723 => ?_)
                  clear kq3723; obtain ⟨q3723a, q3723b⟩ := q3723; subst r3721; subst M3722
                  refine G_ps (pc' := 161) (st' := [vi ((signT (txM M e) k).1)]) rfl rfl ?_
                  refine G_istore (i := 2) (len := 1) (ls' := [(2, vi ((signT (txM M e) k).1)), (3, vi (txM M e k)), (0, vr 55), (1, vi e)]) (Or.inl ⟨2, rfl, rfl, d_Mo_split_161⟩) (by decide) rfl (G_pc (pc' := 162) rfl ?_)
                  refine G_goto (tgt := 12) d_Mo_split_162 (by decide) ?_
                  refine G_ls (ls' := [(2, vi ((signT (txM M e) k).1)), (0, vr 55), (1, vi e)]) (by intro z hz; simp only [List.mem_cons] at hz ⊢; grind) ?_
                  have hH : lexH (txM M e) (M 64 e) (n + 1) k L w = lexL (txM M e) (M 64 e) (n + 1) k L := by unfold lexH; rw [if_pos (by omega)]
                  have hw9 := tok1_w (txM M e) k
                  have hT9 : tok1 (txM M e) k = (signT (txM M e) k) := by unfold tok1; rw [if_neg (fun h => absurd (letB_t.mp h) (by assumption)), if_neg (fun h => absurd (digB_t.mp h) (by assumption)), if_neg (by omega)]
                  have he9 : k + 1 ≤ (signT (txM M e) k).1 ∧ (signT (txM M e) k).1 ≤ k + 3 := by have := sgN_rng (txM M e k) (txM M e (k + 1)) (txM M e (k + 2)); unfold signT; simp only []; omega
                  rw [hT9] at hw9
                  refine G_M signM_lex ?_
                  refine ih (signT (txM M e) k).1 (L ++ [((signT (txM M e) k).2.1, (signT (txM M e) k).2.2.1)]) (signT (txM M e) k).2.2.2 (by omega) (by omega) (by omega) hw9 (by simp only [List.length_append, List.length_cons, List.length_nil]; omega) ?_
                  rw [← hF, hH]; exact lexH_s (by omega) (by omega) hT9
                · skip
                  refine G_aload (i := 0) (n := 2) (len := 1) (Or.inl ⟨0, rfl, rfl, d_Mo_split_88⟩) rfl (by decide) (G_pc (pc' := 89) rfl ?_)
                  refine G_iload (i := 1) (n := 3) (len := 1) (Or.inl ⟨1, rfl, rfl, d_Mo_split_89⟩) rfl (G_pc (pc' := 90) rfl ?_)
                  refine G_iload (i := 2) (n := 1) (len := 1) (Or.inl ⟨2, rfl, rfl, d_Mo_split_90⟩) rfl (G_pc (pc' := 91) rfl ?_)
                  refine G_iconst (n := 1) d_Mo_split_91 (by decide) (G_pc (pc' := 92) rfl ?_)
                  refine G_iadd d_Mo_split_92 (by omega) (G_pc (pc' := 93) rfl ?_)
                  refine G_callV (K1 := KE) (d2 := 0) (o := 55) (cl := 9) (as := [vi e, vi (k + 1)]) (rest := []) d_Mo_split_93 mf_Mo_at ml_Mo_169 rfl rfl (by decide) rfl rfl (Nat.le_of_ble_eq_true rfl) (by omega) ⟨Nat.le_refl _, Nat.le_refl _⟩ (g_Mo_at (by omega) e (k + 1) _ hL he (by omega)) (fun r3724 M3725 kq3726 q3726 => ?_)
                  clear kq3726; obtain ⟨q3726a, q3726b⟩ := q3726; subst r3724; subst M3725
                  refine G_ps (pc' := 96) (st' := [vi (txM M e (k + 1))]) rfl rfl ?_
                  refine G_istore (i := 4) (len := 2) (ls' := [(4, vi (txM M e (k + 1))), (3, vi (txM M e k)), (2, vi k), (0, vr 55), (1, vi e)]) (Or.inr ⟨rfl, d_Mo_split_96⟩) (by decide) rfl (G_pc (pc' := 98) rfl ?_)
                  refine G_aload (i := 0) (n := 3) (len := 1) (Or.inl ⟨0, rfl, rfl, d_Mo_split_98⟩) rfl (by decide) (G_pc (pc' := 99) rfl ?_)
                  refine G_iload (i := 4) (n := 0) (len := 2) (Or.inr ⟨rfl, d_Mo_split_99⟩) rfl (G_pc (pc' := 101) rfl ?_)
                  refine G_bipush (n := 32) d_Mo_split_101 (by decide) (G_pc (pc' := 103) rfl ?_)
                  refine G_icmp_lt (tgt := 133) d_Mo_split_103 (by decide) (fun h3727 => ?_) (fun h3727 => G_pc (pc' := 106) rfl ?_)
                  · skip
                    refine G_iconst (n := 1) d_Mo_split_133 (by decide) (G_pc (pc' := 134) rfl ?_)
                    refine G_goto (tgt := 138) d_Mo_split_134 (by decide) ?_
                    refine G_putL (o := 55) (c := 9) (k := 44) (ki := 44) (x := 1) d_Mo_split_138 fl_Mo_166 rfl rfl (by decide) (by decide) (by decide) rfl rfl (tokZ (by decide)) rfl (G_pc (pc' := 141) rfl ?_)
                    refine G_aload (i := 0) (n := 3) (len := 1) (Or.inl ⟨0, rfl, rfl, d_Mo_split_141⟩) rfl (by decide) (G_pc (pc' := 142) rfl ?_)
                    refine G_iconst (n := 3) d_Mo_split_142 (by decide) (G_pc (pc' := 143) rfl ?_)
                    refine G_iload (i := 4) (n := 0) (len := 2) (Or.inr ⟨rfl, d_Mo_split_143⟩) rfl (G_pc (pc' := 145) rfl ?_)
                    refine G_i2l d_Mo_split_145 (G_pc (pc' := 146) rfl ?_)
                    refine G_callV (K1 := KE) (d2 := 0) (o := 55) (cl := 9) (as := [vi 3, vl (txM M e (k + 1))]) (rest := []) d_Mo_split_146 mf_Mo_add ml_Mo_184 rfl rfl (by decide) rfl rfl (Nat.le_of_ble_eq_true rfl) (by omega) ⟨Nat.le_refl _, Nat.le_refl _⟩ (g_Mo_add (by omega) 3 (txM M e (k + 1)) _ (by rw [lexM_s, lexM_n]; omega)) (fun r3728 M3729 kq3730 q3730 => ?_)
                    clear kq3730; obtain ⟨q3730a, q3730b⟩ := q3730; subst r3728; subst M3729
                    refine G_ps (pc' := 149) (st' := []) rfl rfl ?_
                    refine G_iinc (i := 2) (n := 2) (z := 3) (ls' := [(2, vi (k + 3)), (4, vi (txM M e (k + 1))), (3, vi (txM M e k)), (0, vr 55), (1, vi e)]) d_Mo_split_149 rfl (by decide) (by omega) rfl (G_pc (pc' := 152) rfl ?_)
                    refine G_goto (tgt := 162) d_Mo_split_152 (by decide) ?_
                    refine G_goto (tgt := 12) d_Mo_split_162 (by decide) ?_
                    refine G_ls (ls' := [(2, vi (k + 3)), (0, vr 55), (1, vi e)]) (by intro z hz; simp only [List.mem_cons] at hz ⊢; grind) ?_
                    have hH : lexH (txM M e) (M 64 e) (n + 1) k L w = lexL (txM M e) (M 64 e) (n + 1) k L := by unfold lexH; rw [if_pos (by omega)]
                    have hw9 := tok1_w (txM M e) k
                    have hT9 : tok1 (txM M e) k = chrT (txM M e) k := by unfold tok1; rw [if_neg (fun h => absurd (letB_t.mp h) (by assumption)), if_neg (fun h => absurd (digB_t.mp h) (by assumption)), if_pos (by omega)]
                    have hc9 : chrT (txM M e) k = (k + 3, 3, txM M e (k + 1), 1) := by unfold chrT; rw [if_pos (by omega)]
                    rw [hc9] at hT9
                    rw [lexM_s, lexM_add]
                    refine ih (k + 3) (L ++ [(3, txM M e (k + 1))]) 1 (by omega) (by omega) (by omega) (by omega) (by simp only [List.length_append, List.length_cons, List.length_nil]; omega) ?_
                    rw [← hF, hH]; exact lexH_s (T := (k + 3, 3, txM M e (k + 1), 1)) (by omega) (by omega) hT9
                  · skip
                    refine G_iload (i := 4) (n := 0) (len := 2) (Or.inr ⟨rfl, d_Mo_split_106⟩) rfl (G_pc (pc' := 108) rfl ?_)
                    refine G_bipush (n := 39) d_Mo_split_108 (by decide) (G_pc (pc' := 110) rfl ?_)
                    refine G_icmp_eq (tgt := 133) d_Mo_split_110 (by decide) (fun h3731 => ?_) (fun h3731 => G_pc (pc' := 113) rfl ?_)
                    · skip
                      refine G_iconst (n := 1) d_Mo_split_133 (by decide) (G_pc (pc' := 134) rfl ?_)
                      refine G_goto (tgt := 138) d_Mo_split_134 (by decide) ?_
                      refine G_putL (o := 55) (c := 9) (k := 44) (ki := 44) (x := 1) d_Mo_split_138 fl_Mo_166 rfl rfl (by decide) (by decide) (by decide) rfl rfl (tokZ (by decide)) rfl (G_pc (pc' := 141) rfl ?_)
                      refine G_aload (i := 0) (n := 3) (len := 1) (Or.inl ⟨0, rfl, rfl, d_Mo_split_141⟩) rfl (by decide) (G_pc (pc' := 142) rfl ?_)
                      refine G_iconst (n := 3) d_Mo_split_142 (by decide) (G_pc (pc' := 143) rfl ?_)
                      refine G_iload (i := 4) (n := 0) (len := 2) (Or.inr ⟨rfl, d_Mo_split_143⟩) rfl (G_pc (pc' := 145) rfl ?_)
                      refine G_i2l d_Mo_split_145 (G_pc (pc' := 146) rfl ?_)
                      refine G_callV (K1 := KE) (d2 := 0) (o := 55) (cl := 9) (as := [vi 3, vl (txM M e (k + 1))]) (rest := []) d_Mo_split_146 mf_Mo_add ml_Mo_184 rfl rfl (by decide) rfl rfl (Nat.le_of_ble_eq_true rfl) (by omega) ⟨Nat.le_refl _, Nat.le_refl _⟩ (g_Mo_add (by omega) 3 (txM M e (k + 1)) _ (by rw [lexM_s, lexM_n]; omega)) (fun r3732 M3733 kq3734 q3734 => ?_)
                      clear kq3734; obtain ⟨q3734a, q3734b⟩ := q3734; subst r3732; subst M3733
                      refine G_ps (pc' := 149) (st' := []) rfl rfl ?_
                      refine G_iinc (i := 2) (n := 2) (z := 3) (ls' := [(2, vi (k + 3)), (4, vi (txM M e (k + 1))), (3, vi (txM M e k)), (0, vr 55), (1, vi e)]) d_Mo_split_149 rfl (by decide) (by omega) rfl (G_pc (pc' := 152) rfl ?_)
                      refine G_goto (tgt := 162) d_Mo_split_152 (by decide) ?_
                      refine G_goto (tgt := 12) d_Mo_split_162 (by decide) ?_
                      refine G_ls (ls' := [(2, vi (k + 3)), (0, vr 55), (1, vi e)]) (by intro z hz; simp only [List.mem_cons] at hz ⊢; grind) ?_
                      have hH : lexH (txM M e) (M 64 e) (n + 1) k L w = lexL (txM M e) (M 64 e) (n + 1) k L := by unfold lexH; rw [if_pos (by omega)]
                      have hw9 := tok1_w (txM M e) k
                      have hT9 : tok1 (txM M e) k = chrT (txM M e) k := by unfold tok1; rw [if_neg (fun h => absurd (letB_t.mp h) (by assumption)), if_neg (fun h => absurd (digB_t.mp h) (by assumption)), if_pos (by omega)]
                      have hc9 : chrT (txM M e) k = (k + 3, 3, txM M e (k + 1), 1) := by unfold chrT; rw [if_pos (by omega)]
                      rw [hc9] at hT9
                      rw [lexM_s, lexM_add]
                      refine ih (k + 3) (L ++ [(3, txM M e (k + 1))]) 1 (by omega) (by omega) (by omega) (by omega) (by simp only [List.length_append, List.length_cons, List.length_nil]; omega) ?_
                      rw [← hF, hH]; exact lexH_s (T := (k + 3, 3, txM M e (k + 1), 1)) (by omega) (by omega) hT9
                    · skip
                      refine G_iload (i := 4) (n := 0) (len := 2) (Or.inr ⟨rfl, d_Mo_split_113⟩) rfl (G_pc (pc' := 115) rfl ?_)
                      refine G_bipush (n := 92) d_Mo_split_115 (by decide) (G_pc (pc' := 117) rfl ?_)
                      refine G_icmp_eq (tgt := 133) d_Mo_split_117 (by decide) (fun h3735 => ?_) (fun h3735 => G_pc (pc' := 120) rfl ?_)
                      · skip
                        refine G_iconst (n := 1) d_Mo_split_133 (by decide) (G_pc (pc' := 134) rfl ?_)
                        refine G_goto (tgt := 138) d_Mo_split_134 (by decide) ?_
                        refine G_putL (o := 55) (c := 9) (k := 44) (ki := 44) (x := 1) d_Mo_split_138 fl_Mo_166 rfl rfl (by decide) (by decide) (by decide) rfl rfl (tokZ (by decide)) rfl (G_pc (pc' := 141) rfl ?_)
                        refine G_aload (i := 0) (n := 3) (len := 1) (Or.inl ⟨0, rfl, rfl, d_Mo_split_141⟩) rfl (by decide) (G_pc (pc' := 142) rfl ?_)
                        refine G_iconst (n := 3) d_Mo_split_142 (by decide) (G_pc (pc' := 143) rfl ?_)
                        refine G_iload (i := 4) (n := 0) (len := 2) (Or.inr ⟨rfl, d_Mo_split_143⟩) rfl (G_pc (pc' := 145) rfl ?_)
                        refine G_i2l d_Mo_split_145 (G_pc (pc' := 146) rfl ?_)
                        refine G_callV (K1 := KE) (d2 := 0) (o := 55) (cl := 9) (as := [vi 3, vl (txM M e (k + 1))]) (rest := []) d_Mo_split_146 mf_Mo_add ml_Mo_184 rfl rfl (by decide) rfl rfl (Nat.le_of_ble_eq_true rfl) (by omega) ⟨Nat.le_refl _, Nat.le_refl _⟩ (g_Mo_add (by omega) 3 (txM M e (k + 1)) _ (by rw [lexM_s, lexM_n]; omega)) (fun r3736 M3737 kq3738 q3738 => ?_)
                        clear kq3738; obtain ⟨q3738a, q3738b⟩ := q3738; subst r3736; subst M3737
                        refine G_ps (pc' := 149) (st' := []) rfl rfl ?_
                        refine G_iinc (i := 2) (n := 2) (z := 3) (ls' := [(2, vi (k + 3)), (4, vi (txM M e (k + 1))), (3, vi (txM M e k)), (0, vr 55), (1, vi e)]) d_Mo_split_149 rfl (by decide) (by omega) rfl (G_pc (pc' := 152) rfl ?_)
                        refine G_goto (tgt := 162) d_Mo_split_152 (by decide) ?_
                        refine G_goto (tgt := 12) d_Mo_split_162 (by decide) ?_
                        refine G_ls (ls' := [(2, vi (k + 3)), (0, vr 55), (1, vi e)]) (by intro z hz; simp only [List.mem_cons] at hz ⊢; grind) ?_
                        have hH : lexH (txM M e) (M 64 e) (n + 1) k L w = lexL (txM M e) (M 64 e) (n + 1) k L := by unfold lexH; rw [if_pos (by omega)]
                        have hw9 := tok1_w (txM M e) k
                        have hT9 : tok1 (txM M e) k = chrT (txM M e) k := by unfold tok1; rw [if_neg (fun h => absurd (letB_t.mp h) (by assumption)), if_neg (fun h => absurd (digB_t.mp h) (by assumption)), if_pos (by omega)]
                        have hc9 : chrT (txM M e) k = (k + 3, 3, txM M e (k + 1), 1) := by unfold chrT; rw [if_pos (by omega)]
                        rw [hc9] at hT9
                        rw [lexM_s, lexM_add]
                        refine ih (k + 3) (L ++ [(3, txM M e (k + 1))]) 1 (by omega) (by omega) (by omega) (by omega) (by simp only [List.length_append, List.length_cons, List.length_nil]; omega) ?_
                        rw [← hF, hH]; exact lexH_s (T := (k + 3, 3, txM M e (k + 1), 1)) (by omega) (by omega) hT9
                      · skip
                        refine G_aload (i := 0) (n := 3) (len := 1) (Or.inl ⟨0, rfl, rfl, d_Mo_split_120⟩) rfl (by decide) (G_pc (pc' := 121) rfl ?_)
                        refine G_iload (i := 1) (n := 4) (len := 1) (Or.inl ⟨1, rfl, rfl, d_Mo_split_121⟩) rfl (G_pc (pc' := 122) rfl ?_)
                        refine G_iload (i := 2) (n := 2) (len := 1) (Or.inl ⟨2, rfl, rfl, d_Mo_split_122⟩) rfl (G_pc (pc' := 123) rfl ?_)
                        refine G_iconst (n := 2) d_Mo_split_123 (by decide) (G_pc (pc' := 124) rfl ?_)
                        refine G_iadd d_Mo_split_124 (by omega) (G_pc (pc' := 125) rfl ?_)
                        refine G_callV (K1 := KE) (d2 := 0) (o := 55) (cl := 9) (as := [vi e, vi (k + 2)]) (rest := [vr 55]) d_Mo_split_125 mf_Mo_at ml_Mo_169 rfl rfl (by decide) rfl rfl (Nat.le_of_ble_eq_true rfl) (by omega) ⟨Nat.le_refl _, Nat.le_refl _⟩ (g_Mo_at (by omega) e (k + 2) _ hL he (by omega)) (fun r3739 M3740 kq3741 q3741 => ?_)
                        clear kq3741; obtain ⟨q3741a, q3741b⟩ := q3741; subst r3739; subst M3740
                        refine G_ps (pc' := 128) (st' := [vi (txM M e (k + 2)), vr 55]) rfl rfl ?_
                        refine G_bipush (n := 39) d_Mo_split_128 (by decide) (G_pc (pc' := 130) rfl ?_)
                        refine G_icmp_eq (tgt := 137) d_Mo_split_130 (by decide) (fun h3742 => ?_) (fun h3742 => G_pc (pc' := 133) rfl ?_)
                        · skip
                          refine G_iconst (n := 0) d_Mo_split_137 (by decide) (G_pc (pc' := 138) rfl ?_)
                          refine G_putL (o := 55) (c := 9) (k := 44) (ki := 44) (x := 0) d_Mo_split_138 fl_Mo_166 rfl rfl (by decide) (by decide) (by decide) rfl rfl (tokZ (by decide)) rfl (G_pc (pc' := 141) rfl ?_)
                          refine G_aload (i := 0) (n := 3) (len := 1) (Or.inl ⟨0, rfl, rfl, d_Mo_split_141⟩) rfl (by decide) (G_pc (pc' := 142) rfl ?_)
                          refine G_iconst (n := 3) d_Mo_split_142 (by decide) (G_pc (pc' := 143) rfl ?_)
                          refine G_iload (i := 4) (n := 0) (len := 2) (Or.inr ⟨rfl, d_Mo_split_143⟩) rfl (G_pc (pc' := 145) rfl ?_)
                          refine G_i2l d_Mo_split_145 (G_pc (pc' := 146) rfl ?_)
                          refine G_callV (K1 := KE) (d2 := 0) (o := 55) (cl := 9) (as := [vi 3, vl (txM M e (k + 1))]) (rest := []) d_Mo_split_146 mf_Mo_add ml_Mo_184 rfl rfl (by decide) rfl rfl (Nat.le_of_ble_eq_true rfl) (by omega) ⟨Nat.le_refl _, Nat.le_refl _⟩ (g_Mo_add (by omega) 3 (txM M e (k + 1)) _ (by rw [lexM_s, lexM_n]; omega)) (fun r3743 M3744 kq3745 q3745 => ?_)
                          clear kq3745; obtain ⟨q3745a, q3745b⟩ := q3745; subst r3743; subst M3744
                          refine G_ps (pc' := 149) (st' := []) rfl rfl ?_
                          refine G_iinc (i := 2) (n := 2) (z := 3) (ls' := [(2, vi (k + 3)), (4, vi (txM M e (k + 1))), (3, vi (txM M e k)), (0, vr 55), (1, vi e)]) d_Mo_split_149 rfl (by decide) (by omega) rfl (G_pc (pc' := 152) rfl ?_)
                          refine G_goto (tgt := 162) d_Mo_split_152 (by decide) ?_
                          refine G_goto (tgt := 12) d_Mo_split_162 (by decide) ?_
                          refine G_ls (ls' := [(2, vi (k + 3)), (0, vr 55), (1, vi e)]) (by intro z hz; simp only [List.mem_cons] at hz ⊢; grind) ?_
                          have hH : lexH (txM M e) (M 64 e) (n + 1) k L w = lexL (txM M e) (M 64 e) (n + 1) k L := by unfold lexH; rw [if_pos (by omega)]
                          have hw9 := tok1_w (txM M e) k
                          have hT9 : tok1 (txM M e) k = chrT (txM M e) k := by unfold tok1; rw [if_neg (fun h => absurd (letB_t.mp h) (by assumption)), if_neg (fun h => absurd (digB_t.mp h) (by assumption)), if_pos (by omega)]
                          have hc9 : chrT (txM M e) k = (k + 3, 3, txM M e (k + 1), 0) := by unfold chrT; rw [if_neg (by omega)]
                          rw [hc9] at hT9
                          rw [lexM_s, lexM_add]
                          refine ih (k + 3) (L ++ [(3, txM M e (k + 1))]) 0 (by omega) (by omega) (by omega) (by omega) (by simp only [List.length_append, List.length_cons, List.length_nil]; omega) ?_
                          rw [← hF, hH]; exact lexH_s (T := (k + 3, 3, txM M e (k + 1), 0)) (by omega) (by omega) hT9
                        · skip
                          refine G_iconst (n := 1) d_Mo_split_133 (by decide) (G_pc (pc' := 134) rfl ?_)
                          refine G_goto (tgt := 138) d_Mo_split_134 (by decide) ?_
                          refine G_putL (o := 55) (c := 9) (k := 44) (ki := 44) (x := 1) d_Mo_split_138 fl_Mo_166 rfl rfl (by decide) (by decide) (by decide) rfl rfl (tokZ (by decide)) rfl (G_pc (pc' := 141) rfl ?_)
                          refine G_aload (i := 0) (n := 3) (len := 1) (Or.inl ⟨0, rfl, rfl, d_Mo_split_141⟩) rfl (by decide) (G_pc (pc' := 142) rfl ?_)
                          refine G_iconst (n := 3) d_Mo_split_142 (by decide) (G_pc (pc' := 143) rfl ?_)
                          refine G_iload (i := 4) (n := 0) (len := 2) (Or.inr ⟨rfl, d_Mo_split_143⟩) rfl (G_pc (pc' := 145) rfl ?_)
                          refine G_i2l d_Mo_split_145 (G_pc (pc' := 146) rfl ?_)
                          refine G_callV (K1 := KE) (d2 := 0) (o := 55) (cl := 9) (as := [vi 3, vl (txM M e (k + 1))]) (rest := []) d_Mo_split_146 mf_Mo_add ml_Mo_184 rfl rfl (by decide) rfl rfl (Nat.le_of_ble_eq_true rfl) (by omega) ⟨Nat.le_refl _, Nat.le_refl _⟩ (g_Mo_add (by omega) 3 (txM M e (k + 1)) _ (by rw [lexM_s, lexM_n]; omega)) (fun r3746 M3747 kq3748 q3748 => ?_)
                          clear kq3748; obtain ⟨q3748a, q3748b⟩ := q3748; subst r3746; subst M3747
                          refine G_ps (pc' := 149) (st' := []) rfl rfl ?_
                          refine G_iinc (i := 2) (n := 2) (z := 3) (ls' := [(2, vi (k + 3)), (4, vi (txM M e (k + 1))), (3, vi (txM M e k)), (0, vr 55), (1, vi e)]) d_Mo_split_149 rfl (by decide) (by omega) rfl (G_pc (pc' := 152) rfl ?_)
                          refine G_goto (tgt := 162) d_Mo_split_152 (by decide) ?_
                          refine G_goto (tgt := 12) d_Mo_split_162 (by decide) ?_
                          refine G_ls (ls' := [(2, vi (k + 3)), (0, vr 55), (1, vi e)]) (by intro z hz; simp only [List.mem_cons] at hz ⊢; grind) ?_
                          have hH : lexH (txM M e) (M 64 e) (n + 1) k L w = lexL (txM M e) (M 64 e) (n + 1) k L := by unfold lexH; rw [if_pos (by omega)]
                          have hw9 := tok1_w (txM M e) k
                          have hT9 : tok1 (txM M e) k = chrT (txM M e) k := by unfold tok1; rw [if_neg (fun h => absurd (letB_t.mp h) (by assumption)), if_neg (fun h => absurd (digB_t.mp h) (by assumption)), if_pos (by omega)]
                          have hc9 : chrT (txM M e) k = (k + 3, 3, txM M e (k + 1), 1) := by unfold chrT; rw [if_pos (by omega)]
                          rw [hc9] at hT9
                          rw [lexM_s, lexM_add]
                          refine ih (k + 3) (L ++ [(3, txM M e (k + 1))]) 1 (by omega) (by omega) (by omega) (by omega) (by simp only [List.length_append, List.length_cons, List.length_nil]; omega) ?_
                          rw [← hF, hH]; exact lexH_s (T := (k + 3, 3, txM M e (k + 1), 1)) (by omega) (by omega) hT9
              · skip
                replace h3719 := b2i_nz.mp h3719
                replace h3719 := digB_t.mp h3719
                refine G_aload (i := 0) (n := 2) (len := 1) (Or.inl ⟨0, rfl, rfl, d_Mo_split_72⟩) rfl (by decide) (G_pc (pc' := 73) rfl ?_)
                refine G_iload (i := 1) (n := 3) (len := 1) (Or.inl ⟨1, rfl, rfl, d_Mo_split_73⟩) rfl (G_pc (pc' := 74) rfl ?_)
                refine G_iload (i := 2) (n := 1) (len := 1) (Or.inl ⟨2, rfl, rfl, d_Mo_split_74⟩) rfl (G_pc (pc' := 75) rfl ?_)
                refine G_callV (K1 := KE) (d2 := 2) (o := 55) (cl := 9) (as := [vi e, vi k]) (rest := []) d_Mo_split_75 mf_Mo_number ml_Mo_181 rfl rfl (by decide) rfl rfl (Nat.le_of_ble_eq_true rfl) (by omega) ⟨Nat.le_refl _, Nat.le_refl _⟩ (g_Mo_number (by omega) e k _ hL hX he (by omega) (by rw [lexM_n]; omega)) (fun r3749 M3750 kq3751 q3751 => ?_)
                clear kq3751; obtain ⟨q3751a, q3751b⟩ := q3751; subst r3749; subst M3750
                refine G_ps (pc' := 78) (st' := [vi ((numT (txM M e) k).1)]) rfl rfl ?_
                refine G_istore (i := 2) (len := 1) (ls' := [(2, vi ((numT (txM M e) k).1)), (3, vi (txM M e k)), (0, vr 55), (1, vi e)]) (Or.inl ⟨2, rfl, rfl, d_Mo_split_78⟩) (by decide) rfl (G_pc (pc' := 79) rfl ?_)
                refine G_goto (tgt := 162) d_Mo_split_79 (by decide) ?_
                refine G_goto (tgt := 12) d_Mo_split_162 (by decide) ?_
                refine G_ls (ls' := [(2, vi ((numT (txM M e) k).1)), (0, vr 55), (1, vi e)]) (by intro z hz; simp only [List.mem_cons] at hz ⊢; grind) ?_
                have hH : lexH (txM M e) (M 64 e) (n + 1) k L w = lexL (txM M e) (M 64 e) (n + 1) k L := by unfold lexH; rw [if_pos (by omega)]
                have hw9 := tok1_w (txM M e) k
                have hT9 : tok1 (txM M e) k = (numT (txM M e) k) := by unfold tok1; rw [if_neg (fun h => absurd (letB_t.mp h) (by assumption)), if_pos (digB_t.mpr (by assumption))]
                have he9 := numT_end (f := txM M e) (digB_t.mpr (by assumption)) (k := k) (by omega) (by omega)
                rw [hT9] at hw9
                refine G_M numM_lex ?_
                refine ih (numT (txM M e) k).1 (L ++ [((numT (txM M e) k).2.1, (numT (txM M e) k).2.2.1)]) (numT (txM M e) k).2.2.2 (by omega) (by omega) (by omega) hw9 (by simp only [List.length_append, List.length_cons, List.length_nil]; omega) ?_
                rw [← hF, hH]; exact lexH_s (by omega) (by omega) hT9
            · skip
              replace h3715 := b2i_nz.mp h3715
              replace h3715 := letB_t.mp h3715
              refine G_aload (i := 0) (n := 2) (len := 1) (Or.inl ⟨0, rfl, rfl, d_Mo_split_55⟩) rfl (by decide) (G_pc (pc' := 56) rfl ?_)
              refine G_iload (i := 1) (n := 3) (len := 1) (Or.inl ⟨1, rfl, rfl, d_Mo_split_56⟩) rfl (G_pc (pc' := 57) rfl ?_)
              refine G_iload (i := 2) (n := 1) (len := 1) (Or.inl ⟨2, rfl, rfl, d_Mo_split_57⟩) rfl (G_pc (pc' := 58) rfl ?_)
              refine G_callV (K1 := KE) (d2 := 2) (o := 55) (cl := 9) (as := [vi e, vi k]) (rest := []) d_Mo_split_58 mf_Mo_word ml_Mo_175 rfl rfl (by decide) rfl rfl (Nat.le_of_ble_eq_true rfl) (by omega) ⟨Nat.le_refl _, Nat.le_refl _⟩ (g_Mo_word (by omega) e k _ hL hX he (by omega) (by rw [lexM_n]; omega)) (fun r3752 M3753 kq3754 q3754 => ?_)
              clear kq3754; obtain ⟨q3754a, q3754b⟩ := q3754; subst r3752; subst M3753
              refine G_ps (pc' := 61) (st' := [vi ((wordT (txM M e) k).1)]) rfl rfl ?_
              refine G_istore (i := 2) (len := 1) (ls' := [(2, vi ((wordT (txM M e) k).1)), (3, vi (txM M e k)), (0, vr 55), (1, vi e)]) (Or.inl ⟨2, rfl, rfl, d_Mo_split_61⟩) (by decide) rfl (G_pc (pc' := 62) rfl ?_)
              refine G_goto (tgt := 162) d_Mo_split_62 (by decide) ?_
              refine G_goto (tgt := 12) d_Mo_split_162 (by decide) ?_
              refine G_ls (ls' := [(2, vi ((wordT (txM M e) k).1)), (0, vr 55), (1, vi e)]) (by intro z hz; simp only [List.mem_cons] at hz ⊢; grind) ?_
              have hH : lexH (txM M e) (M 64 e) (n + 1) k L w = lexL (txM M e) (M 64 e) (n + 1) k L := by unfold lexH; rw [if_pos (by omega)]
              have hw9 := tok1_w (txM M e) k
              have hT9 : tok1 (txM M e) k = (wordT (txM M e) k) := by unfold tok1; rw [if_pos (letB_t.mpr (by assumption))]
              have he9 := wordT_end (f := txM M e) (letB_t.mpr (by assumption)) (k := k) (by omega) (by omega)
              rw [hT9] at hw9
              refine G_M wordM_lex ?_
              refine ih (wordT (txM M e) k).1 (L ++ [((wordT (txM M e) k).2.1, (wordT (txM M e) k).2.2.1)]) (wordT (txM M e) k).2.2.2 (by omega) (by omega) (by omega) hw9 (by simp only [List.length_append, List.length_cons, List.length_nil]; omega) ?_
              rw [← hF, hH]; exact lexH_s (by omega) (by omega) hT9
          · skip
            refine G_iinc (i := 2) (n := 1) (z := 1) (ls' := [(2, vi (k + 1)), (3, vi (txM M e k)), (0, vr 55), (1, vi e)]) d_Mo_split_42 rfl (by decide) (by omega) rfl (G_pc (pc' := 45) rfl ?_)
            refine G_goto (tgt := 162) d_Mo_split_45 (by decide) ?_
            refine G_goto (tgt := 12) d_Mo_split_162 (by decide) ?_
            refine G_ls (ls' := [(2, vi (k + 1)), (0, vr 55), (1, vi e)]) (by intro z hz; simp only [List.mem_cons] at hz ⊢; grind) ?_
            refine ih (k + 1) L w (by omega) (by omega) (by omega) hw (by omega) ?_
            rw [← hF]; unfold lexH; rw [if_pos (by omega), if_pos (by omega), lexL_sp (by omega) (by omega)]
  refine G_aload (i := 0) (n := 0) (len := 1) (Or.inl ⟨0, rfl, rfl, d_Mo_split_0⟩) rfl (by decide) (G_pc (pc' := 1) rfl ?_)
  refine G_iconst (n := 0) d_Mo_split_1 (by decide) (G_pc (pc' := 2) rfl ?_)
  refine G_putL (o := 55) (c := 9) (k := 25) (ki := 25) (x := 0) d_Mo_split_2 fl_Mo_163 rfl rfl (by decide) (by decide) (by decide) rfl rfl (tokI (by decide)) rfl (G_pc (pc' := 5) rfl ?_)
  refine G_aload (i := 0) (n := 0) (len := 1) (Or.inl ⟨0, rfl, rfl, d_Mo_split_5⟩) rfl (by decide) (G_pc (pc' := 6) rfl ?_)
  refine G_iconst (n := 0) d_Mo_split_6 (by decide) (G_pc (pc' := 7) rfl ?_)
  refine G_putL (o := 55) (c := 9) (k := 44) (ki := 44) (x := 0) d_Mo_split_7 fl_Mo_166 rfl rfl (by decide) (by decide) (by decide) rfl rfl (tokZ (by decide)) rfl (G_pc (pc' := 10) rfl ?_)
  refine G_iconst (n := 0) d_Mo_split_10 (by decide) (G_pc (pc' := 11) rfl ?_)
  refine G_istore (i := 2) (len := 1) (ls' := [(2, vi 0), (0, vr 55), (1, vi e)]) (Or.inl ⟨2, rfl, rfl, d_Mo_split_11⟩) (by decide) rfl (G_pc (pc' := 12) rfl ?_)
  rw [lexM_0]
  exact loop 41 0 [] 0 (by have := hL e he.1 he.2; omega) (by omega) (by omega) (by omega) (by simp) (by unfold lexH lexF; rw [if_pos rfl])

