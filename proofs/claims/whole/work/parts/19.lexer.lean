def p10 : Nat → Int
  | 0 => 1
  | n + 1 => 10 * p10 n
theorem p10_pos : ∀ n, 1 ≤ p10 n
  | 0 => by decide
  | n + 1 => by have := p10_pos n; unfold p10; omega
theorem p10_mono (a : Nat) : ∀ b, p10 a ≤ p10 (a + b)
  | 0 => by simp
  | b + 1 => by have := p10_mono a b; have := p10_pos (a + b); show p10 a ≤ 10 * p10 (a + b); omega
theorem p10_17 {a : Nat} (h : a ≤ 17) : p10 a ≤ 100000000000000000 := by
  have := p10_mono a (17 - a)
  rw [show a + (17 - a) = 17 by omega] at this
  exact Int.le_trans this (by decide)
theorem p10_18 {a : Nat} (h : a ≤ 18) : p10 a ≤ 1000000000000000000 := by
  have := p10_mono a (18 - a)
  rw [show a + (18 - a) = 18 by omega] at this
  exact Int.le_trans this (by decide)
def nvE (f : Int → Int) (a : Int) : Nat → Int
  | 0 => 0
  | n + 1 => 10 * nvE f a n + f (a + n) - 48
theorem nvE_b {f : Int → Int} {a : Int} : ∀ {n : Nat}, (∀ j : Nat, j < n → 48 ≤ f (a + j) ∧ f (a + j) ≤ 57) → 0 ≤ nvE f a n ∧ nvE f a n + 1 ≤ p10 n := by
  intro n
  induction n with
  | zero => intro _; simp [nvE, p10]
  | succ n ih => intro h; have h1 := ih (fun j hj => h j (by omega)); have h2 := h n (by omega); unfold nvE p10; omega
def numN (k a : Int) : Nat := if k - a < 18 then (k - a).toNat else 18
def numE (f : Int → Int) (a : Int) : Int := runE digB f (40 - a).toNat a
def numT1 (f : Int → Int) (k a v : Int) : TK := if f k = 76 then (k + 1, 2, v, if letB (f (k + 1)) = true ∨ 18 < k - a then 1 else 0) else (k, 1, v, if letB (f k) = true ∨ 10 < k - a ∨ 2147483648 < v then 1 else 0)
def numT (f : Int → Int) (a : Int) : TK := numT1 f (numE f a) a (nvE f a (numN (numE f a) a))
theorem numT_e {f : Int → Int} {a k v : Int} (hE : runE digB f (40 - a).toNat a = k) (hV : v = nvE f a (numN k a)) : numT f a = numT1 f k a v := by
  unfold numT numE; rw [hE, hV]
theorem d_Mo_number_0 : decode b_Mo_number 0 = .ok (.iload_n 2, 1) := by decide +kernel
theorem d_Mo_number_1 : decode b_Mo_number 1 = .ok (.istore_n 3, 1) := by decide +kernel
theorem d_Mo_number_2 : decode b_Mo_number 2 = .ok (.lconst 0, 1) := by decide +kernel
theorem d_Mo_number_3 : decode b_Mo_number 3 = .ok (.lstore 4, 2) := by decide +kernel
theorem d_Mo_number_5 : decode b_Mo_number 5 = .ok (.aload_n 0, 1) := by decide +kernel
theorem d_Mo_number_6 : decode b_Mo_number 6 = .ok (.iload_n 1, 1) := by decide +kernel
theorem d_Mo_number_7 : decode b_Mo_number 7 = .ok (.iload_n 3, 1) := by decide +kernel
theorem d_Mo_number_8 : decode b_Mo_number 8 = .ok (.invokevirtual 169, 3) := by decide +kernel
theorem d_Mo_number_11 : decode b_Mo_number 11 = .ok (.invokestatic 178, 3) := by decide +kernel
theorem d_Mo_number_14 : decode b_Mo_number 14 = .ok (.ifCond .eq 42, 3) := by decide +kernel
theorem d_Mo_number_17 : decode b_Mo_number 17 = .ok (.iload_n 3, 1) := by decide +kernel
theorem d_Mo_number_18 : decode b_Mo_number 18 = .ok (.iload_n 2, 1) := by decide +kernel
theorem d_Mo_number_19 : decode b_Mo_number 19 = .ok (.isub, 1) := by decide +kernel
theorem d_Mo_number_20 : decode b_Mo_number 20 = .ok (.bipush 18, 2) := by decide +kernel
theorem d_Mo_number_22 : decode b_Mo_number 22 = .ok (.if_icmp .ge 24, 3) := by decide +kernel
theorem d_Mo_number_25 : decode b_Mo_number 25 = .ok (.ldc2_w 201, 3) := by decide +kernel
theorem d_Mo_number_28 : decode b_Mo_number 28 = .ok (.lload 4, 2) := by decide +kernel
theorem d_Mo_number_30 : decode b_Mo_number 30 = .ok (.lmul, 1) := by decide +kernel
theorem d_Mo_number_31 : decode b_Mo_number 31 = .ok (.aload_n 0, 1) := by decide +kernel
theorem d_Mo_number_32 : decode b_Mo_number 32 = .ok (.iload_n 1, 1) := by decide +kernel
theorem d_Mo_number_33 : decode b_Mo_number 33 = .ok (.iload_n 3, 1) := by decide +kernel
theorem d_Mo_number_34 : decode b_Mo_number 34 = .ok (.invokevirtual 169, 3) := by decide +kernel
theorem d_Mo_number_37 : decode b_Mo_number 37 = .ok (.i2l, 1) := by decide +kernel
theorem d_Mo_number_38 : decode b_Mo_number 38 = .ok (.ladd, 1) := by decide +kernel
theorem d_Mo_number_39 : decode b_Mo_number 39 = .ok (.ldc2_w 203, 3) := by decide +kernel
theorem d_Mo_number_42 : decode b_Mo_number 42 = .ok (.lsub, 1) := by decide +kernel
theorem d_Mo_number_43 : decode b_Mo_number 43 = .ok (.goto 5, 3) := by decide +kernel
theorem d_Mo_number_46 : decode b_Mo_number 46 = .ok (.lload 4, 2) := by decide +kernel
theorem d_Mo_number_48 : decode b_Mo_number 48 = .ok (.lstore 4, 2) := by decide +kernel
theorem d_Mo_number_50 : decode b_Mo_number 50 = .ok (.iinc 3 1, 3) := by decide +kernel
theorem d_Mo_number_53 : decode b_Mo_number 53 = .ok (.goto (-48), 3) := by decide +kernel
theorem d_Mo_number_56 : decode b_Mo_number 56 = .ok (.iload_n 3, 1) := by decide +kernel
theorem d_Mo_number_57 : decode b_Mo_number 57 = .ok (.iload_n 2, 1) := by decide +kernel
theorem d_Mo_number_58 : decode b_Mo_number 58 = .ok (.isub, 1) := by decide +kernel
theorem d_Mo_number_59 : decode b_Mo_number 59 = .ok (.istore 6, 2) := by decide +kernel
theorem d_Mo_number_61 : decode b_Mo_number 61 = .ok (.aload_n 0, 1) := by decide +kernel
theorem d_Mo_number_62 : decode b_Mo_number 62 = .ok (.iload_n 1, 1) := by decide +kernel
theorem d_Mo_number_63 : decode b_Mo_number 63 = .ok (.iload_n 3, 1) := by decide +kernel
theorem d_Mo_number_64 : decode b_Mo_number 64 = .ok (.invokevirtual 169, 3) := by decide +kernel
theorem d_Mo_number_67 : decode b_Mo_number 67 = .ok (.bipush 76, 2) := by decide +kernel
theorem d_Mo_number_69 : decode b_Mo_number 69 = .ok (.if_icmp .ne 7, 3) := by decide +kernel
theorem d_Mo_number_72 : decode b_Mo_number 72 = .ok (.iconst 1, 1) := by decide +kernel
theorem d_Mo_number_73 : decode b_Mo_number 73 = .ok (.goto 4, 3) := by decide +kernel
theorem d_Mo_number_76 : decode b_Mo_number 76 = .ok (.iconst 0, 1) := by decide +kernel
theorem d_Mo_number_77 : decode b_Mo_number 77 = .ok (.istore 7, 2) := by decide +kernel
theorem d_Mo_number_79 : decode b_Mo_number 79 = .ok (.iload 7, 2) := by decide +kernel
theorem d_Mo_number_81 : decode b_Mo_number 81 = .ok (.ifCond .eq 9, 3) := by decide +kernel
theorem d_Mo_number_84 : decode b_Mo_number 84 = .ok (.iload_n 3, 1) := by decide +kernel
theorem d_Mo_number_85 : decode b_Mo_number 85 = .ok (.iconst 1, 1) := by decide +kernel
theorem d_Mo_number_86 : decode b_Mo_number 86 = .ok (.iadd, 1) := by decide +kernel
theorem d_Mo_number_87 : decode b_Mo_number 87 = .ok (.goto 4, 3) := by decide +kernel
theorem d_Mo_number_90 : decode b_Mo_number 90 = .ok (.iload_n 3, 1) := by decide +kernel
theorem d_Mo_number_91 : decode b_Mo_number 91 = .ok (.istore_n 3, 1) := by decide +kernel
theorem d_Mo_number_92 : decode b_Mo_number 92 = .ok (.aload_n 0, 1) := by decide +kernel
theorem d_Mo_number_93 : decode b_Mo_number 93 = .ok (.aload_n 0, 1) := by decide +kernel
theorem d_Mo_number_94 : decode b_Mo_number 94 = .ok (.iload_n 1, 1) := by decide +kernel
theorem d_Mo_number_95 : decode b_Mo_number 95 = .ok (.iload_n 3, 1) := by decide +kernel
theorem d_Mo_number_96 : decode b_Mo_number 96 = .ok (.invokevirtual 169, 3) := by decide +kernel
theorem d_Mo_number_99 : decode b_Mo_number 99 = .ok (.invokestatic 172, 3) := by decide +kernel
theorem d_Mo_number_102 : decode b_Mo_number 102 = .ok (.ifCond .ne 34, 3) := by decide +kernel
theorem d_Mo_number_105 : decode b_Mo_number 105 = .ok (.iload 7, 2) := by decide +kernel
theorem d_Mo_number_107 : decode b_Mo_number 107 = .ok (.ifCond .eq 13, 3) := by decide +kernel
theorem d_Mo_number_110 : decode b_Mo_number 110 = .ok (.iload 6, 2) := by decide +kernel
theorem d_Mo_number_112 : decode b_Mo_number 112 = .ok (.bipush 18, 2) := by decide +kernel
theorem d_Mo_number_114 : decode b_Mo_number 114 = .ok (.if_icmp .le 26, 3) := by decide +kernel
theorem d_Mo_number_117 : decode b_Mo_number 117 = .ok (.goto 19, 3) := by decide +kernel
theorem d_Mo_number_120 : decode b_Mo_number 120 = .ok (.iload 6, 2) := by decide +kernel
theorem d_Mo_number_122 : decode b_Mo_number 122 = .ok (.bipush 10, 2) := by decide +kernel
theorem d_Mo_number_124 : decode b_Mo_number 124 = .ok (.if_icmp .gt 12, 3) := by decide +kernel
theorem d_Mo_number_127 : decode b_Mo_number 127 = .ok (.lload 4, 2) := by decide +kernel
theorem d_Mo_number_129 : decode b_Mo_number 129 = .ok (.ldc2_w 205, 3) := by decide +kernel
theorem d_Mo_number_132 : decode b_Mo_number 132 = .ok (.lcmp, 1) := by decide +kernel
theorem d_Mo_number_133 : decode b_Mo_number 133 = .ok (.ifCond .le 7, 3) := by decide +kernel
theorem d_Mo_number_136 : decode b_Mo_number 136 = .ok (.iconst 1, 1) := by decide +kernel
theorem d_Mo_number_137 : decode b_Mo_number 137 = .ok (.goto 4, 3) := by decide +kernel
theorem d_Mo_number_140 : decode b_Mo_number 140 = .ok (.iconst 0, 1) := by decide +kernel
theorem d_Mo_number_141 : decode b_Mo_number 141 = .ok (.putfield 166, 3) := by decide +kernel
theorem d_Mo_number_144 : decode b_Mo_number 144 = .ok (.aload_n 0, 1) := by decide +kernel
theorem d_Mo_number_145 : decode b_Mo_number 145 = .ok (.iload 7, 2) := by decide +kernel
theorem d_Mo_number_147 : decode b_Mo_number 147 = .ok (.ifCond .eq 7, 3) := by decide +kernel
theorem d_Mo_number_150 : decode b_Mo_number 150 = .ok (.iconst 2, 1) := by decide +kernel
theorem d_Mo_number_151 : decode b_Mo_number 151 = .ok (.goto 4, 3) := by decide +kernel
theorem d_Mo_number_154 : decode b_Mo_number 154 = .ok (.iconst 1, 1) := by decide +kernel
theorem d_Mo_number_155 : decode b_Mo_number 155 = .ok (.lload 4, 2) := by decide +kernel
theorem d_Mo_number_157 : decode b_Mo_number 157 = .ok (.invokevirtual 184, 3) := by decide +kernel
theorem d_Mo_number_160 : decode b_Mo_number 160 = .ok (.iload_n 3, 1) := by decide +kernel
theorem d_Mo_number_161 : decode b_Mo_number 161 = .ok (.ireturn, 1) := by decide +kernel
set_option maxHeartbeats 1000000 in
theorem g_Mo_number {X : WX} {d : Nat} (hd : 2 ≤ d) (e f : Int) (M : Mem) (hL : okL M) (hX : okT M e) (he : 0 ≤ e ∧ e < 5) (hf : 0 ≤ f ∧ f < 40) (hT : 0 ≤ M 55 25 ∧ M 55 25 ≤ 1000) : MG X gt d KE KE y_Mo_number b_Mo_number 8 (some .int) [vr 55, vi e, vi f] M (fun r M' => r = some (vi (numT (txM M e) f).1) ∧ M' = tokM M (numT (txM M e) f)) := by
  refine MG_of_G (by decide) (Nat.le_of_ble_eq_true rfl) (Nat.le_refl _) (by decide) ?_
  show G X gt d KE KE y_Mo_number b_Mo_number 8 (some .int) _ 0 [(0, vr 55), (1, vi e), (2, vi f)] [] KE M
  refine G_rngl (i := 1) rfl (fun hr1 => ?_)
  refine G_rngl (i := 2) rfl (fun hr2 => ?_)
  have loop : ∀ (n : Nat) (k v : Int), k + n = 40 → f ≤ k → runE digB (txM M e) n k = runE digB (txM M e) (40 - f).toNat f → (∀ j : Int, 0 ≤ j → f + j < k → 48 ≤ txM M e (f + j) ∧ txM M e (f + j) ≤ 57) → v = nvE (txM M e) f (numN k f) → G X gt d KE KE y_Mo_number b_Mo_number 8 (some .int) (fun r M' => r = some (vi (numT (txM M e) f).1) ∧ M' = tokM M (numT (txM M e) f)) 5 [(4, vl v), (3, vi k), (0, vr 55), (1, vi e), (2, vi f)] [] KE M := by
    intro n
    induction n with
    | zero =>
      intro k v h1 h2 hE0 hD hV
      have hx9 := txM_rng hX (k := k) (by omega)
      have hb9 : 0 ≤ v ∧ v < p10 (numN k f) := by have := nvE_b (f := txM M e) (a := f) (n := numN k f) (fun j hj => hD j (by omega) (by unfold numN at hj; split at hj <;> omega)); omega
      have hc9 : p10 (numN k f) ≤ 1000000000000000000 := p10_18 (by unfold numN; split <;> omega)
      refine G_aload (i := 0) (n := 2) (len := 1) (Or.inl ⟨0, rfl, rfl, d_Mo_number_5⟩) rfl (by decide) (G_pc (pc' := 6) rfl ?_)
      refine G_iload (i := 1) (n := 3) (len := 1) (Or.inl ⟨1, rfl, rfl, d_Mo_number_6⟩) rfl (G_pc (pc' := 7) rfl ?_)
      refine G_iload (i := 3) (n := 1) (len := 1) (Or.inl ⟨3, rfl, rfl, d_Mo_number_7⟩) rfl (G_pc (pc' := 8) rfl ?_)
      refine G_callV (K1 := KE) (d2 := 0) (o := 55) (cl := 9) (as := [vi e, vi k]) (rest := []) d_Mo_number_8 mf_Mo_at ml_Mo_169 rfl rfl (by decide) rfl rfl (Nat.le_of_ble_eq_true rfl) (by omega) ⟨Nat.le_refl _, Nat.le_refl _⟩ (g_Mo_at (by omega) e k _ hL he (by omega)) (fun r3401 M3402 kq3403 q3403 => ?_)
      clear kq3403; obtain ⟨q3403a, q3403b⟩ := q3403; subst r3401; subst M3402
      refine G_ps (pc' := 11) (st' := [vi (txM M e k)]) rfl rfl ?_
      refine G_callS (K1 := KE) (d2 := 0) (as := [vi (txM M e k)]) (rest := []) d_Mo_number_11 mf_Mo_digit ml_Mo_178 rfl rfl (Nat.le_of_ble_eq_true rfl) (by omega) ⟨Nat.le_refl _, Nat.le_refl _⟩ (g_Mo_digit (by omega) (txM M e k) _) (fun r3404 M3405 kq3406 q3406 => ?_)
      clear kq3406; obtain ⟨q3406a, q3406b⟩ := q3406; subst r3404; subst M3405
      refine G_ps (pc' := 14) (st' := [vi (b2i (digB (txM M e k)))]) rfl rfl ?_
      refine G_if_eq (tgt := 56) d_Mo_number_14 (by decide) (fun h3407 => ?_) (fun h3407 => absurd h3407 (by rw [txM_out (by have := hL e he.1 he.2; omega)]; decide))
      replace h3407 := b2i_0.mp h3407
      replace h3407 := digB_f.mp h3407
      have hE := (hE0.symm.trans (runE_f (fun h => absurd (digB_t.mp h) (by assumption))))
      refine G_iload (i := 3) (n := 1) (len := 1) (Or.inl ⟨3, rfl, rfl, d_Mo_number_56⟩) rfl (G_pc (pc' := 57) rfl ?_)
      refine G_iload (i := 2) (n := 4) (len := 1) (Or.inl ⟨2, rfl, rfl, d_Mo_number_57⟩) rfl (G_pc (pc' := 58) rfl ?_)
      refine G_isub d_Mo_number_58 (by omega) (G_pc (pc' := 59) rfl ?_)
      refine G_istore (i := 6) (len := 2) (ls' := [(6, vi (k - f)), (4, vl v), (3, vi k), (0, vr 55), (1, vi e), (2, vi f)]) (Or.inr ⟨rfl, d_Mo_number_59⟩) (by decide) rfl (G_pc (pc' := 61) rfl ?_)
      refine G_aload (i := 0) (n := 3) (len := 1) (Or.inl ⟨0, rfl, rfl, d_Mo_number_61⟩) rfl (by decide) (G_pc (pc' := 62) rfl ?_)
      refine G_iload (i := 1) (n := 4) (len := 1) (Or.inl ⟨1, rfl, rfl, d_Mo_number_62⟩) rfl (G_pc (pc' := 63) rfl ?_)
      refine G_iload (i := 3) (n := 2) (len := 1) (Or.inl ⟨3, rfl, rfl, d_Mo_number_63⟩) rfl (G_pc (pc' := 64) rfl ?_)
      refine G_callV (K1 := KE) (d2 := 0) (o := 55) (cl := 9) (as := [vi e, vi k]) (rest := []) d_Mo_number_64 mf_Mo_at ml_Mo_169 rfl rfl (by decide) rfl rfl (Nat.le_of_ble_eq_true rfl) (by omega) ⟨Nat.le_refl _, Nat.le_refl _⟩ (g_Mo_at (by omega) e k _ hL he (by omega)) (fun r3408 M3409 kq3410 q3410 => ?_)
      clear kq3410; obtain ⟨q3410a, q3410b⟩ := q3410; subst r3408; subst M3409
      refine G_ps (pc' := 67) (st' := [vi (txM M e k)]) rfl rfl ?_
      refine G_bipush (n := 76) d_Mo_number_67 (by decide) (G_pc (pc' := 69) rfl ?_)
      refine G_icmp_ne (tgt := 76) d_Mo_number_69 (by decide) (fun h3411 => ?_) (fun h3411 => G_pc (pc' := 72) rfl ?_)
      · skip
        refine G_iconst (n := 0) d_Mo_number_76 (by decide) (G_pc (pc' := 77) rfl ?_)
        refine G_istore (i := 7) (len := 2) (ls' := [(7, vi 0), (6, vi (k - f)), (4, vl v), (3, vi k), (0, vr 55), (1, vi e), (2, vi f)]) (Or.inr ⟨rfl, d_Mo_number_77⟩) (by decide) rfl (G_pc (pc' := 79) rfl ?_)
        refine G_iload (i := 7) (n := 0) (len := 2) (Or.inr ⟨rfl, d_Mo_number_79⟩) rfl (G_pc (pc' := 81) rfl ?_)
        refine G_if_eq (tgt := 90) d_Mo_number_81 (by decide) (fun h3412 => ?_) (fun h3412 => absurd h3412 (by decide))
        refine G_iload (i := 3) (n := 3) (len := 1) (Or.inl ⟨3, rfl, rfl, d_Mo_number_90⟩) rfl (G_pc (pc' := 91) rfl ?_)
        refine G_istore (i := 3) (len := 1) (ls' := [(3, vi k), (7, vi 0), (6, vi (k - f)), (4, vl v), (0, vr 55), (1, vi e), (2, vi f)]) (Or.inl ⟨3, rfl, rfl, d_Mo_number_91⟩) (by decide) rfl (G_pc (pc' := 92) rfl ?_)
        refine G_aload (i := 0) (n := 4) (len := 1) (Or.inl ⟨0, rfl, rfl, d_Mo_number_92⟩) rfl (by decide) (G_pc (pc' := 93) rfl ?_)
        refine G_aload (i := 0) (n := 4) (len := 1) (Or.inl ⟨0, rfl, rfl, d_Mo_number_93⟩) rfl (by decide) (G_pc (pc' := 94) rfl ?_)
        refine G_iload (i := 1) (n := 5) (len := 1) (Or.inl ⟨1, rfl, rfl, d_Mo_number_94⟩) rfl (G_pc (pc' := 95) rfl ?_)
        refine G_iload (i := 3) (n := 0) (len := 1) (Or.inl ⟨3, rfl, rfl, d_Mo_number_95⟩) rfl (G_pc (pc' := 96) rfl ?_)
        refine G_callV (K1 := KE) (d2 := 0) (o := 55) (cl := 9) (as := [vi e, vi k]) (rest := [vr 55]) d_Mo_number_96 mf_Mo_at ml_Mo_169 rfl rfl (by decide) rfl rfl (Nat.le_of_ble_eq_true rfl) (by omega) ⟨Nat.le_refl _, Nat.le_refl _⟩ (g_Mo_at (by omega) e k _ hL he (by omega)) (fun r3413 M3414 kq3415 q3415 => ?_)
        clear kq3415; obtain ⟨q3415a, q3415b⟩ := q3415; subst r3413; subst M3414
        refine G_ps (pc' := 99) (st' := [vi (txM M e k), vr 55]) rfl rfl ?_
        refine G_callS (K1 := KE) (d2 := 1) (as := [vi (txM M e k)]) (rest := [vr 55]) d_Mo_number_99 mf_Mo_letter ml_Mo_172 rfl rfl (Nat.le_of_ble_eq_true rfl) (by omega) ⟨Nat.le_refl _, Nat.le_refl _⟩ (g_Mo_letter (by omega) (txM M e k) _) (fun r3416 M3417 kq3418 q3418 => ?_)
        clear kq3418; obtain ⟨q3418a, q3418b⟩ := q3418; subst r3416; subst M3417
        refine G_ps (pc' := 102) (st' := [vi (b2i (letB (txM M e k))), vr 55]) rfl rfl ?_
        refine G_if_ne (tgt := 136) d_Mo_number_102 (by decide) (fun h3419 => ?_) (fun h3419 => G_pc (pc' := 105) rfl ?_)
        · skip
          replace h3419 := b2i_nz.mp h3419
          replace h3419 := letB_t.mp h3419
          refine G_iconst (n := 1) d_Mo_number_136 (by decide) (G_pc (pc' := 137) rfl ?_)
          refine G_goto (tgt := 141) d_Mo_number_137 (by decide) ?_
          refine G_putL (o := 55) (c := 9) (k := 44) (ki := 44) (x := 1) d_Mo_number_141 fl_Mo_166 rfl rfl (by decide) (by decide) (by decide) rfl rfl (tokZ (by decide)) rfl (G_pc (pc' := 144) rfl ?_)
          refine G_aload (i := 0) (n := 4) (len := 1) (Or.inl ⟨0, rfl, rfl, d_Mo_number_144⟩) rfl (by decide) (G_pc (pc' := 145) rfl ?_)
          refine G_iload (i := 7) (n := 1) (len := 2) (Or.inr ⟨rfl, d_Mo_number_145⟩) rfl (G_pc (pc' := 147) rfl ?_)
          refine G_if_eq (tgt := 154) d_Mo_number_147 (by decide) (fun h3420 => ?_) (fun h3420 => absurd h3420 (by decide))
          refine G_iconst (n := 1) d_Mo_number_154 (by decide) (G_pc (pc' := 155) rfl ?_)
          refine G_lload (i := 4) (n := 3) (len := 2) (Or.inr ⟨rfl, d_Mo_number_155⟩) rfl (G_pc (pc' := 157) rfl ?_)
          refine G_callV (K1 := KE) (d2 := 0) (o := 55) (cl := 9) (as := [vi 1, vl v]) (rest := []) d_Mo_number_157 mf_Mo_add ml_Mo_184 rfl rfl (by decide) rfl rfl (Nat.le_of_ble_eq_true rfl) (by omega) ⟨Nat.le_refl _, Nat.le_refl _⟩ (g_Mo_add (by omega) 1 v _ hT) (fun r3421 M3422 kq3423 q3423 => ?_)
          clear kq3423; obtain ⟨q3423a, q3423b⟩ := q3423; subst r3421; subst M3422
          refine G_ps (pc' := 160) (st' := []) rfl rfl ?_
          refine G_iload (i := 3) (n := 0) (len := 1) (Or.inl ⟨3, rfl, rfl, d_Mo_number_160⟩) rfl (G_pc (pc' := 161) rfl ?_)
          refine G_iret d_Mo_number_161 rfl (tokI (by omega)) rfl rfl ?_
          exact ⟨by rw [numT_e hE hV]; unfold numT1; grind, by rw [numT_e hE hV]; unfold tokM numT1; grind [letB]⟩
        · skip
          replace h3419 := b2i_0.mp h3419
          replace h3419 := letB_f.mp h3419
          refine G_iload (i := 7) (n := 1) (len := 2) (Or.inr ⟨rfl, d_Mo_number_105⟩) rfl (G_pc (pc' := 107) rfl ?_)
          refine G_if_eq (tgt := 120) d_Mo_number_107 (by decide) (fun h3424 => ?_) (fun h3424 => absurd h3424 (by decide))
          refine G_iload (i := 6) (n := 2) (len := 2) (Or.inr ⟨rfl, d_Mo_number_120⟩) rfl (G_pc (pc' := 122) rfl ?_)
          refine G_bipush (n := 10) d_Mo_number_122 (by decide) (G_pc (pc' := 124) rfl ?_)
          refine G_icmp_gt (tgt := 136) d_Mo_number_124 (by decide) (fun h3425 => ?_) (fun h3425 => G_pc (pc' := 127) rfl ?_)
          · skip
            refine G_iconst (n := 1) d_Mo_number_136 (by decide) (G_pc (pc' := 137) rfl ?_)
            refine G_goto (tgt := 141) d_Mo_number_137 (by decide) ?_
            refine G_putL (o := 55) (c := 9) (k := 44) (ki := 44) (x := 1) d_Mo_number_141 fl_Mo_166 rfl rfl (by decide) (by decide) (by decide) rfl rfl (tokZ (by decide)) rfl (G_pc (pc' := 144) rfl ?_)
            refine G_aload (i := 0) (n := 4) (len := 1) (Or.inl ⟨0, rfl, rfl, d_Mo_number_144⟩) rfl (by decide) (G_pc (pc' := 145) rfl ?_)
            refine G_iload (i := 7) (n := 1) (len := 2) (Or.inr ⟨rfl, d_Mo_number_145⟩) rfl (G_pc (pc' := 147) rfl ?_)
            refine G_if_eq (tgt := 154) d_Mo_number_147 (by decide) (fun h3426 => ?_) (fun h3426 => absurd h3426 (by decide))
            refine G_iconst (n := 1) d_Mo_number_154 (by decide) (G_pc (pc' := 155) rfl ?_)
            refine G_lload (i := 4) (n := 3) (len := 2) (Or.inr ⟨rfl, d_Mo_number_155⟩) rfl (G_pc (pc' := 157) rfl ?_)
            refine G_callV (K1 := KE) (d2 := 0) (o := 55) (cl := 9) (as := [vi 1, vl v]) (rest := []) d_Mo_number_157 mf_Mo_add ml_Mo_184 rfl rfl (by decide) rfl rfl (Nat.le_of_ble_eq_true rfl) (by omega) ⟨Nat.le_refl _, Nat.le_refl _⟩ (g_Mo_add (by omega) 1 v _ hT) (fun r3427 M3428 kq3429 q3429 => ?_)
            clear kq3429; obtain ⟨q3429a, q3429b⟩ := q3429; subst r3427; subst M3428
            refine G_ps (pc' := 160) (st' := []) rfl rfl ?_
            refine G_iload (i := 3) (n := 0) (len := 1) (Or.inl ⟨3, rfl, rfl, d_Mo_number_160⟩) rfl (G_pc (pc' := 161) rfl ?_)
            refine G_iret d_Mo_number_161 rfl (tokI (by omega)) rfl rfl ?_
            exact ⟨by rw [numT_e hE hV]; unfold numT1; grind, by rw [numT_e hE hV]; unfold tokM numT1; grind [letB]⟩
          · skip
            refine G_lload (i := 4) (n := 3) (len := 2) (Or.inr ⟨rfl, d_Mo_number_127⟩) rfl (G_pc (pc' := 129) rfl ?_)
            refine G_ldc2 (x := 2147483648) d_Mo_number_129 k2_Mo_205 (by decide) (G_pc (pc' := 132) rfl ?_)
            refine G_lcmp_le (tgt := 140) d_Mo_number_132 d_Mo_number_133 (by decide) (fun h3430 => ?_) (fun h3430 => G_pc (pc' := 136) rfl ?_)
            · skip
              refine G_iconst (n := 0) d_Mo_number_140 (by decide) (G_pc (pc' := 141) rfl ?_)
              refine G_putL (o := 55) (c := 9) (k := 44) (ki := 44) (x := 0) d_Mo_number_141 fl_Mo_166 rfl rfl (by decide) (by decide) (by decide) rfl rfl (tokZ (by decide)) rfl (G_pc (pc' := 144) rfl ?_)
              refine G_aload (i := 0) (n := 4) (len := 1) (Or.inl ⟨0, rfl, rfl, d_Mo_number_144⟩) rfl (by decide) (G_pc (pc' := 145) rfl ?_)
              refine G_iload (i := 7) (n := 1) (len := 2) (Or.inr ⟨rfl, d_Mo_number_145⟩) rfl (G_pc (pc' := 147) rfl ?_)
              refine G_if_eq (tgt := 154) d_Mo_number_147 (by decide) (fun h3431 => ?_) (fun h3431 => absurd h3431 (by decide))
              refine G_iconst (n := 1) d_Mo_number_154 (by decide) (G_pc (pc' := 155) rfl ?_)
              refine G_lload (i := 4) (n := 3) (len := 2) (Or.inr ⟨rfl, d_Mo_number_155⟩) rfl (G_pc (pc' := 157) rfl ?_)
              refine G_callV (K1 := KE) (d2 := 0) (o := 55) (cl := 9) (as := [vi 1, vl v]) (rest := []) d_Mo_number_157 mf_Mo_add ml_Mo_184 rfl rfl (by decide) rfl rfl (Nat.le_of_ble_eq_true rfl) (by omega) ⟨Nat.le_refl _, Nat.le_refl _⟩ (g_Mo_add (by omega) 1 v _ hT) (fun r3432 M3433 kq3434 q3434 => ?_)
              clear kq3434; obtain ⟨q3434a, q3434b⟩ := q3434; subst r3432; subst M3433
              refine G_ps (pc' := 160) (st' := []) rfl rfl ?_
              refine G_iload (i := 3) (n := 0) (len := 1) (Or.inl ⟨3, rfl, rfl, d_Mo_number_160⟩) rfl (G_pc (pc' := 161) rfl ?_)
              refine G_iret d_Mo_number_161 rfl (tokI (by omega)) rfl rfl ?_
              exact ⟨by rw [numT_e hE hV]; unfold numT1; grind, by rw [numT_e hE hV]; unfold tokM numT1; grind [letB]⟩
            · skip
              refine G_iconst (n := 1) d_Mo_number_136 (by decide) (G_pc (pc' := 137) rfl ?_)
              refine G_goto (tgt := 141) d_Mo_number_137 (by decide) ?_
              refine G_putL (o := 55) (c := 9) (k := 44) (ki := 44) (x := 1) d_Mo_number_141 fl_Mo_166 rfl rfl (by decide) (by decide) (by decide) rfl rfl (tokZ (by decide)) rfl (G_pc (pc' := 144) rfl ?_)
              refine G_aload (i := 0) (n := 4) (len := 1) (Or.inl ⟨0, rfl, rfl, d_Mo_number_144⟩) rfl (by decide) (G_pc (pc' := 145) rfl ?_)
              refine G_iload (i := 7) (n := 1) (len := 2) (Or.inr ⟨rfl, d_Mo_number_145⟩) rfl (G_pc (pc' := 147) rfl ?_)
              refine G_if_eq (tgt := 154) d_Mo_number_147 (by decide) (fun h3435 => ?_) (fun h3435 => absurd h3435 (by decide))
              refine G_iconst (n := 1) d_Mo_number_154 (by decide) (G_pc (pc' := 155) rfl ?_)
              refine G_lload (i := 4) (n := 3) (len := 2) (Or.inr ⟨rfl, d_Mo_number_155⟩) rfl (G_pc (pc' := 157) rfl ?_)
              refine G_callV (K1 := KE) (d2 := 0) (o := 55) (cl := 9) (as := [vi 1, vl v]) (rest := []) d_Mo_number_157 mf_Mo_add ml_Mo_184 rfl rfl (by decide) rfl rfl (Nat.le_of_ble_eq_true rfl) (by omega) ⟨Nat.le_refl _, Nat.le_refl _⟩ (g_Mo_add (by omega) 1 v _ hT) (fun r3436 M3437 kq3438 q3438 => ?_)
              clear kq3438; obtain ⟨q3438a, q3438b⟩ := q3438; subst r3436; subst M3437
              refine G_ps (pc' := 160) (st' := []) rfl rfl ?_
              refine G_iload (i := 3) (n := 0) (len := 1) (Or.inl ⟨3, rfl, rfl, d_Mo_number_160⟩) rfl (G_pc (pc' := 161) rfl ?_)
              refine G_iret d_Mo_number_161 rfl (tokI (by omega)) rfl rfl ?_
              exact ⟨by rw [numT_e hE hV]; unfold numT1; grind, by rw [numT_e hE hV]; unfold tokM numT1; grind [letB]⟩
      · skip
        refine G_iconst (n := 1) d_Mo_number_72 (by decide) (G_pc (pc' := 73) rfl ?_)
        refine G_goto (tgt := 77) d_Mo_number_73 (by decide) ?_
        refine G_istore (i := 7) (len := 2) (ls' := [(7, vi 1), (6, vi (k - f)), (4, vl v), (3, vi k), (0, vr 55), (1, vi e), (2, vi f)]) (Or.inr ⟨rfl, d_Mo_number_77⟩) (by decide) rfl (G_pc (pc' := 79) rfl ?_)
        refine G_iload (i := 7) (n := 0) (len := 2) (Or.inr ⟨rfl, d_Mo_number_79⟩) rfl (G_pc (pc' := 81) rfl ?_)
        refine G_if_eq (tgt := 90) d_Mo_number_81 (by decide) (fun h3439 => absurd h3439 (by decide)) (fun h3439 => G_pc (pc' := 84) rfl ?_)
        refine G_iload (i := 3) (n := 3) (len := 1) (Or.inl ⟨3, rfl, rfl, d_Mo_number_84⟩) rfl (G_pc (pc' := 85) rfl ?_)
        refine G_iconst (n := 1) d_Mo_number_85 (by decide) (G_pc (pc' := 86) rfl ?_)
        refine G_iadd d_Mo_number_86 (by omega) (G_pc (pc' := 87) rfl ?_)
        refine G_goto (tgt := 91) d_Mo_number_87 (by decide) ?_
        refine G_istore (i := 3) (len := 1) (ls' := [(3, vi (k + 1)), (7, vi 1), (6, vi (k - f)), (4, vl v), (0, vr 55), (1, vi e), (2, vi f)]) (Or.inl ⟨3, rfl, rfl, d_Mo_number_91⟩) (by decide) rfl (G_pc (pc' := 92) rfl ?_)
        refine G_aload (i := 0) (n := 4) (len := 1) (Or.inl ⟨0, rfl, rfl, d_Mo_number_92⟩) rfl (by decide) (G_pc (pc' := 93) rfl ?_)
        refine G_aload (i := 0) (n := 4) (len := 1) (Or.inl ⟨0, rfl, rfl, d_Mo_number_93⟩) rfl (by decide) (G_pc (pc' := 94) rfl ?_)
        refine G_iload (i := 1) (n := 5) (len := 1) (Or.inl ⟨1, rfl, rfl, d_Mo_number_94⟩) rfl (G_pc (pc' := 95) rfl ?_)
        refine G_iload (i := 3) (n := 0) (len := 1) (Or.inl ⟨3, rfl, rfl, d_Mo_number_95⟩) rfl (G_pc (pc' := 96) rfl ?_)
        refine G_callV (K1 := KE) (d2 := 0) (o := 55) (cl := 9) (as := [vi e, vi (k + 1)]) (rest := [vr 55]) d_Mo_number_96 mf_Mo_at ml_Mo_169 rfl rfl (by decide) rfl rfl (Nat.le_of_ble_eq_true rfl) (by omega) ⟨Nat.le_refl _, Nat.le_refl _⟩ (g_Mo_at (by omega) e (k + 1) _ hL he (by omega)) (fun r3440 M3441 kq3442 q3442 => ?_)
        clear kq3442; obtain ⟨q3442a, q3442b⟩ := q3442; subst r3440; subst M3441
        refine G_ps (pc' := 99) (st' := [vi (txM M e (k + 1)), vr 55]) rfl rfl ?_
        refine G_callS (K1 := KE) (d2 := 1) (as := [vi (txM M e (k + 1))]) (rest := [vr 55]) d_Mo_number_99 mf_Mo_letter ml_Mo_172 rfl rfl (Nat.le_of_ble_eq_true rfl) (by omega) ⟨Nat.le_refl _, Nat.le_refl _⟩ (g_Mo_letter (by omega) (txM M e (k + 1)) _) (fun r3443 M3444 kq3445 q3445 => ?_)
        clear kq3445; obtain ⟨q3445a, q3445b⟩ := q3445; subst r3443; subst M3444
        refine G_ps (pc' := 102) (st' := [vi (b2i (letB (txM M e (k + 1)))), vr 55]) rfl rfl ?_
        refine G_if_ne (tgt := 136) d_Mo_number_102 (by decide) (fun h3446 => ?_) (fun h3446 => G_pc (pc' := 105) rfl ?_)
        · skip
          replace h3446 := b2i_nz.mp h3446
          replace h3446 := letB_t.mp h3446
          refine G_iconst (n := 1) d_Mo_number_136 (by decide) (G_pc (pc' := 137) rfl ?_)
          refine G_goto (tgt := 141) d_Mo_number_137 (by decide) ?_
          refine G_putL (o := 55) (c := 9) (k := 44) (ki := 44) (x := 1) d_Mo_number_141 fl_Mo_166 rfl rfl (by decide) (by decide) (by decide) rfl rfl (tokZ (by decide)) rfl (G_pc (pc' := 144) rfl ?_)
          refine G_aload (i := 0) (n := 4) (len := 1) (Or.inl ⟨0, rfl, rfl, d_Mo_number_144⟩) rfl (by decide) (G_pc (pc' := 145) rfl ?_)
          refine G_iload (i := 7) (n := 1) (len := 2) (Or.inr ⟨rfl, d_Mo_number_145⟩) rfl (G_pc (pc' := 147) rfl ?_)
          refine G_if_eq (tgt := 154) d_Mo_number_147 (by decide) (fun h3447 => absurd h3447 (by decide)) (fun h3447 => G_pc (pc' := 150) rfl ?_)
          refine G_iconst (n := 2) d_Mo_number_150 (by decide) (G_pc (pc' := 151) rfl ?_)
          refine G_goto (tgt := 155) d_Mo_number_151 (by decide) ?_
          refine G_lload (i := 4) (n := 3) (len := 2) (Or.inr ⟨rfl, d_Mo_number_155⟩) rfl (G_pc (pc' := 157) rfl ?_)
          refine G_callV (K1 := KE) (d2 := 0) (o := 55) (cl := 9) (as := [vi 2, vl v]) (rest := []) d_Mo_number_157 mf_Mo_add ml_Mo_184 rfl rfl (by decide) rfl rfl (Nat.le_of_ble_eq_true rfl) (by omega) ⟨Nat.le_refl _, Nat.le_refl _⟩ (g_Mo_add (by omega) 2 v _ hT) (fun r3448 M3449 kq3450 q3450 => ?_)
          clear kq3450; obtain ⟨q3450a, q3450b⟩ := q3450; subst r3448; subst M3449
          refine G_ps (pc' := 160) (st' := []) rfl rfl ?_
          refine G_iload (i := 3) (n := 0) (len := 1) (Or.inl ⟨3, rfl, rfl, d_Mo_number_160⟩) rfl (G_pc (pc' := 161) rfl ?_)
          refine G_iret d_Mo_number_161 rfl (tokI (by omega)) rfl rfl ?_
          exact ⟨by rw [numT_e hE hV]; unfold numT1; grind, by rw [numT_e hE hV]; unfold tokM numT1; grind [letB]⟩
        · skip
          replace h3446 := b2i_0.mp h3446
          replace h3446 := letB_f.mp h3446
          refine G_iload (i := 7) (n := 1) (len := 2) (Or.inr ⟨rfl, d_Mo_number_105⟩) rfl (G_pc (pc' := 107) rfl ?_)
          refine G_if_eq (tgt := 120) d_Mo_number_107 (by decide) (fun h3451 => absurd h3451 (by decide)) (fun h3451 => G_pc (pc' := 110) rfl ?_)
          refine G_iload (i := 6) (n := 2) (len := 2) (Or.inr ⟨rfl, d_Mo_number_110⟩) rfl (G_pc (pc' := 112) rfl ?_)
          refine G_bipush (n := 18) d_Mo_number_112 (by decide) (G_pc (pc' := 114) rfl ?_)
          refine G_icmp_le (tgt := 140) d_Mo_number_114 (by decide) (fun h3452 => ?_) (fun h3452 => G_pc (pc' := 117) rfl ?_)
          · skip
            refine G_iconst (n := 0) d_Mo_number_140 (by decide) (G_pc (pc' := 141) rfl ?_)
            refine G_putL (o := 55) (c := 9) (k := 44) (ki := 44) (x := 0) d_Mo_number_141 fl_Mo_166 rfl rfl (by decide) (by decide) (by decide) rfl rfl (tokZ (by decide)) rfl (G_pc (pc' := 144) rfl ?_)
            refine G_aload (i := 0) (n := 4) (len := 1) (Or.inl ⟨0, rfl, rfl, d_Mo_number_144⟩) rfl (by decide) (G_pc (pc' := 145) rfl ?_)
            refine G_iload (i := 7) (n := 1) (len := 2) (Or.inr ⟨rfl, d_Mo_number_145⟩) rfl (G_pc (pc' := 147) rfl ?_)
            refine G_if_eq (tgt := 154) d_Mo_number_147 (by decide) (fun h3453 => absurd h3453 (by decide)) (fun h3453 => G_pc (pc' := 150) rfl ?_)
            refine G_iconst (n := 2) d_Mo_number_150 (by decide) (G_pc (pc' := 151) rfl ?_)
            refine G_goto (tgt := 155) d_Mo_number_151 (by decide) ?_
            refine G_lload (i := 4) (n := 3) (len := 2) (Or.inr ⟨rfl, d_Mo_number_155⟩) rfl (G_pc (pc' := 157) rfl ?_)
            refine G_callV (K1 := KE) (d2 := 0) (o := 55) (cl := 9) (as := [vi 2, vl v]) (rest := []) d_Mo_number_157 mf_Mo_add ml_Mo_184 rfl rfl (by decide) rfl rfl (Nat.le_of_ble_eq_true rfl) (by omega) ⟨Nat.le_refl _, Nat.le_refl _⟩ (g_Mo_add (by omega) 2 v _ hT) (fun r3454 M3455 kq3456 q3456 => ?_)
            clear kq3456; obtain ⟨q3456a, q3456b⟩ := q3456; subst r3454; subst M3455
            refine G_ps (pc' := 160) (st' := []) rfl rfl ?_
            refine G_iload (i := 3) (n := 0) (len := 1) (Or.inl ⟨3, rfl, rfl, d_Mo_number_160⟩) rfl (G_pc (pc' := 161) rfl ?_)
            refine G_iret d_Mo_number_161 rfl (tokI (by omega)) rfl rfl ?_
            exact ⟨by rw [numT_e hE hV]; unfold numT1; grind, by rw [numT_e hE hV]; unfold tokM numT1; grind [letB]⟩
          · skip
            refine G_goto (tgt := 136) d_Mo_number_117 (by decide) ?_
            refine G_iconst (n := 1) d_Mo_number_136 (by decide) (G_pc (pc' := 137) rfl ?_)
            refine G_goto (tgt := 141) d_Mo_number_137 (by decide) ?_
            refine G_putL (o := 55) (c := 9) (k := 44) (ki := 44) (x := 1) d_Mo_number_141 fl_Mo_166 rfl rfl (by decide) (by decide) (by decide) rfl rfl (tokZ (by decide)) rfl (G_pc (pc' := 144) rfl ?_)
            refine G_aload (i := 0) (n := 4) (len := 1) (Or.inl ⟨0, rfl, rfl, d_Mo_number_144⟩) rfl (by decide) (G_pc (pc' := 145) rfl ?_)
            refine G_iload (i := 7) (n := 1) (len := 2) (Or.inr ⟨rfl, d_Mo_number_145⟩) rfl (G_pc (pc' := 147) rfl ?_)
            refine G_if_eq (tgt := 154) d_Mo_number_147 (by decide) (fun h3457 => absurd h3457 (by decide)) (fun h3457 => G_pc (pc' := 150) rfl ?_)
            refine G_iconst (n := 2) d_Mo_number_150 (by decide) (G_pc (pc' := 151) rfl ?_)
            refine G_goto (tgt := 155) d_Mo_number_151 (by decide) ?_
            refine G_lload (i := 4) (n := 3) (len := 2) (Or.inr ⟨rfl, d_Mo_number_155⟩) rfl (G_pc (pc' := 157) rfl ?_)
            refine G_callV (K1 := KE) (d2 := 0) (o := 55) (cl := 9) (as := [vi 2, vl v]) (rest := []) d_Mo_number_157 mf_Mo_add ml_Mo_184 rfl rfl (by decide) rfl rfl (Nat.le_of_ble_eq_true rfl) (by omega) ⟨Nat.le_refl _, Nat.le_refl _⟩ (g_Mo_add (by omega) 2 v _ hT) (fun r3458 M3459 kq3460 q3460 => ?_)
            clear kq3460; obtain ⟨q3460a, q3460b⟩ := q3460; subst r3458; subst M3459
            refine G_ps (pc' := 160) (st' := []) rfl rfl ?_
            refine G_iload (i := 3) (n := 0) (len := 1) (Or.inl ⟨3, rfl, rfl, d_Mo_number_160⟩) rfl (G_pc (pc' := 161) rfl ?_)
            refine G_iret d_Mo_number_161 rfl (tokI (by omega)) rfl rfl ?_
            exact ⟨by rw [numT_e hE hV]; unfold numT1; grind, by rw [numT_e hE hV]; unfold tokM numT1; grind [letB]⟩
    | succ n ih =>
      intro k v h1 h2 hE0 hD hV
      have hx9 := txM_rng hX (k := k) (by omega)
      have hb9 : 0 ≤ v ∧ v < p10 (numN k f) := by have := nvE_b (f := txM M e) (a := f) (n := numN k f) (fun j hj => hD j (by omega) (by unfold numN at hj; split at hj <;> omega)); omega
      have hc9 : p10 (numN k f) ≤ 1000000000000000000 := p10_18 (by unfold numN; split <;> omega)
      refine G_aload (i := 0) (n := 2) (len := 1) (Or.inl ⟨0, rfl, rfl, d_Mo_number_5⟩) rfl (by decide) (G_pc (pc' := 6) rfl ?_)
      refine G_iload (i := 1) (n := 3) (len := 1) (Or.inl ⟨1, rfl, rfl, d_Mo_number_6⟩) rfl (G_pc (pc' := 7) rfl ?_)
      refine G_iload (i := 3) (n := 1) (len := 1) (Or.inl ⟨3, rfl, rfl, d_Mo_number_7⟩) rfl (G_pc (pc' := 8) rfl ?_)
      refine G_callV (K1 := KE) (d2 := 0) (o := 55) (cl := 9) (as := [vi e, vi k]) (rest := []) d_Mo_number_8 mf_Mo_at ml_Mo_169 rfl rfl (by decide) rfl rfl (Nat.le_of_ble_eq_true rfl) (by omega) ⟨Nat.le_refl _, Nat.le_refl _⟩ (g_Mo_at (by omega) e k _ hL he (by omega)) (fun r3501 M3502 kq3503 q3503 => ?_)
      clear kq3503; obtain ⟨q3503a, q3503b⟩ := q3503; subst r3501; subst M3502
      refine G_ps (pc' := 11) (st' := [vi (txM M e k)]) rfl rfl ?_
      refine G_callS (K1 := KE) (d2 := 0) (as := [vi (txM M e k)]) (rest := []) d_Mo_number_11 mf_Mo_digit ml_Mo_178 rfl rfl (Nat.le_of_ble_eq_true rfl) (by omega) ⟨Nat.le_refl _, Nat.le_refl _⟩ (g_Mo_digit (by omega) (txM M e k) _) (fun r3504 M3505 kq3506 q3506 => ?_)
      clear kq3506; obtain ⟨q3506a, q3506b⟩ := q3506; subst r3504; subst M3505
      refine G_ps (pc' := 14) (st' := [vi (b2i (digB (txM M e k)))]) rfl rfl ?_
      refine G_if_eq (tgt := 56) d_Mo_number_14 (by decide) (fun h3507 => ?_) (fun h3507 => G_pc (pc' := 17) rfl ?_)
      · skip
        replace h3507 := b2i_0.mp h3507
        replace h3507 := digB_f.mp h3507
        have hE := (hE0.symm.trans (runE_f (fun h => absurd (digB_t.mp h) (by assumption))))
        refine G_iload (i := 3) (n := 1) (len := 1) (Or.inl ⟨3, rfl, rfl, d_Mo_number_56⟩) rfl (G_pc (pc' := 57) rfl ?_)
        refine G_iload (i := 2) (n := 4) (len := 1) (Or.inl ⟨2, rfl, rfl, d_Mo_number_57⟩) rfl (G_pc (pc' := 58) rfl ?_)
        refine G_isub d_Mo_number_58 (by omega) (G_pc (pc' := 59) rfl ?_)
        refine G_istore (i := 6) (len := 2) (ls' := [(6, vi (k - f)), (4, vl v), (3, vi k), (0, vr 55), (1, vi e), (2, vi f)]) (Or.inr ⟨rfl, d_Mo_number_59⟩) (by decide) rfl (G_pc (pc' := 61) rfl ?_)
        refine G_aload (i := 0) (n := 3) (len := 1) (Or.inl ⟨0, rfl, rfl, d_Mo_number_61⟩) rfl (by decide) (G_pc (pc' := 62) rfl ?_)
        refine G_iload (i := 1) (n := 4) (len := 1) (Or.inl ⟨1, rfl, rfl, d_Mo_number_62⟩) rfl (G_pc (pc' := 63) rfl ?_)
        refine G_iload (i := 3) (n := 2) (len := 1) (Or.inl ⟨3, rfl, rfl, d_Mo_number_63⟩) rfl (G_pc (pc' := 64) rfl ?_)
        refine G_callV (K1 := KE) (d2 := 0) (o := 55) (cl := 9) (as := [vi e, vi k]) (rest := []) d_Mo_number_64 mf_Mo_at ml_Mo_169 rfl rfl (by decide) rfl rfl (Nat.le_of_ble_eq_true rfl) (by omega) ⟨Nat.le_refl _, Nat.le_refl _⟩ (g_Mo_at (by omega) e k _ hL he (by omega)) (fun r3508 M3509 kq3510 q3510 => ?_)
        clear kq3510; obtain ⟨q3510a, q3510b⟩ := q3510; subst r3508; subst M3509
        refine G_ps (pc' := 67) (st' := [vi (txM M e k)]) rfl rfl ?_
        refine G_bipush (n := 76) d_Mo_number_67 (by decide) (G_pc (pc' := 69) rfl ?_)
        refine G_icmp_ne (tgt := 76) d_Mo_number_69 (by decide) (fun h3511 => ?_) (fun h3511 => G_pc (pc' := 72) rfl ?_)
        · skip
          refine G_iconst (n := 0) d_Mo_number_76 (by decide) (G_pc (pc' := 77) rfl ?_)
          refine G_istore (i := 7) (len := 2) (ls' := [(7, vi 0), (6, vi (k - f)), (4, vl v), (3, vi k), (0, vr 55), (1, vi e), (2, vi f)]) (Or.inr ⟨rfl, d_Mo_number_77⟩) (by decide) rfl (G_pc (pc' := 79) rfl ?_)
          refine G_iload (i := 7) (n := 0) (len := 2) (Or.inr ⟨rfl, d_Mo_number_79⟩) rfl (G_pc (pc' := 81) rfl ?_)
          refine G_if_eq (tgt := 90) d_Mo_number_81 (by decide) (fun h3512 => ?_) (fun h3512 => absurd h3512 (by decide))
          refine G_iload (i := 3) (n := 3) (len := 1) (Or.inl ⟨3, rfl, rfl, d_Mo_number_90⟩) rfl (G_pc (pc' := 91) rfl ?_)
          refine G_istore (i := 3) (len := 1) (ls' := [(3, vi k), (7, vi 0), (6, vi (k - f)), (4, vl v), (0, vr 55), (1, vi e), (2, vi f)]) (Or.inl ⟨3, rfl, rfl, d_Mo_number_91⟩) (by decide) rfl (G_pc (pc' := 92) rfl ?_)
          refine G_aload (i := 0) (n := 4) (len := 1) (Or.inl ⟨0, rfl, rfl, d_Mo_number_92⟩) rfl (by decide) (G_pc (pc' := 93) rfl ?_)
          refine G_aload (i := 0) (n := 4) (len := 1) (Or.inl ⟨0, rfl, rfl, d_Mo_number_93⟩) rfl (by decide) (G_pc (pc' := 94) rfl ?_)
          refine G_iload (i := 1) (n := 5) (len := 1) (Or.inl ⟨1, rfl, rfl, d_Mo_number_94⟩) rfl (G_pc (pc' := 95) rfl ?_)
          refine G_iload (i := 3) (n := 0) (len := 1) (Or.inl ⟨3, rfl, rfl, d_Mo_number_95⟩) rfl (G_pc (pc' := 96) rfl ?_)
          refine G_callV (K1 := KE) (d2 := 0) (o := 55) (cl := 9) (as := [vi e, vi k]) (rest := [vr 55]) d_Mo_number_96 mf_Mo_at ml_Mo_169 rfl rfl (by decide) rfl rfl (Nat.le_of_ble_eq_true rfl) (by omega) ⟨Nat.le_refl _, Nat.le_refl _⟩ (g_Mo_at (by omega) e k _ hL he (by omega)) (fun r3513 M3514 kq3515 q3515 => ?_)
          clear kq3515; obtain ⟨q3515a, q3515b⟩ := q3515; subst r3513; subst M3514
          refine G_ps (pc' := 99) (st' := [vi (txM M e k), vr 55]) rfl rfl ?_
          refine G_callS (K1 := KE) (d2 := 1) (as := [vi (txM M e k)]) (rest := [vr 55]) d_Mo_number_99 mf_Mo_letter ml_Mo_172 rfl rfl (Nat.le_of_ble_eq_true rfl) (by omega) ⟨Nat.le_refl _, Nat.le_refl _⟩ (g_Mo_letter (by omega) (txM M e k) _) (fun r3516 M3517 kq3518 q3518 => ?_)
          clear kq3518; obtain ⟨q3518a, q3518b⟩ := q3518; subst r3516; subst M3517
          refine G_ps (pc' := 102) (st' := [vi (b2i (letB (txM M e k))), vr 55]) rfl rfl ?_
          refine G_if_ne (tgt := 136) d_Mo_number_102 (by decide) (fun h3519 => ?_) (fun h3519 => G_pc (pc' := 105) rfl ?_)
          · skip
            replace h3519 := b2i_nz.mp h3519
            replace h3519 := letB_t.mp h3519
            refine G_iconst (n := 1) d_Mo_number_136 (by decide) (G_pc (pc' := 137) rfl ?_)
            refine G_goto (tgt := 141) d_Mo_number_137 (by decide) ?_
            refine G_putL (o := 55) (c := 9) (k := 44) (ki := 44) (x := 1) d_Mo_number_141 fl_Mo_166 rfl rfl (by decide) (by decide) (by decide) rfl rfl (tokZ (by decide)) rfl (G_pc (pc' := 144) rfl ?_)
            refine G_aload (i := 0) (n := 4) (len := 1) (Or.inl ⟨0, rfl, rfl, d_Mo_number_144⟩) rfl (by decide) (G_pc (pc' := 145) rfl ?_)
            refine G_iload (i := 7) (n := 1) (len := 2) (Or.inr ⟨rfl, d_Mo_number_145⟩) rfl (G_pc (pc' := 147) rfl ?_)
            refine G_if_eq (tgt := 154) d_Mo_number_147 (by decide) (fun h3520 => ?_) (fun h3520 => absurd h3520 (by decide))
            refine G_iconst (n := 1) d_Mo_number_154 (by decide) (G_pc (pc' := 155) rfl ?_)
            refine G_lload (i := 4) (n := 3) (len := 2) (Or.inr ⟨rfl, d_Mo_number_155⟩) rfl (G_pc (pc' := 157) rfl ?_)
            refine G_callV (K1 := KE) (d2 := 0) (o := 55) (cl := 9) (as := [vi 1, vl v]) (rest := []) d_Mo_number_157 mf_Mo_add ml_Mo_184 rfl rfl (by decide) rfl rfl (Nat.le_of_ble_eq_true rfl) (by omega) ⟨Nat.le_refl _, Nat.le_refl _⟩ (g_Mo_add (by omega) 1 v _ hT) (fun r3521 M3522 kq3523 q3523 => ?_)
            clear kq3523; obtain ⟨q3523a, q3523b⟩ := q3523; subst r3521; subst M3522
            refine G_ps (pc' := 160) (st' := []) rfl rfl ?_
            refine G_iload (i := 3) (n := 0) (len := 1) (Or.inl ⟨3, rfl, rfl, d_Mo_number_160⟩) rfl (G_pc (pc' := 161) rfl ?_)
            refine G_iret d_Mo_number_161 rfl (tokI (by omega)) rfl rfl ?_
            exact ⟨by rw [numT_e hE hV]; unfold numT1; grind, by rw [numT_e hE hV]; unfold tokM numT1; grind [letB]⟩
          · skip
            replace h3519 := b2i_0.mp h3519
            replace h3519 := letB_f.mp h3519
            refine G_iload (i := 7) (n := 1) (len := 2) (Or.inr ⟨rfl, d_Mo_number_105⟩) rfl (G_pc (pc' := 107) rfl ?_)
            refine G_if_eq (tgt := 120) d_Mo_number_107 (by decide) (fun h3524 => ?_) (fun h3524 => absurd h3524 (by decide))
            refine G_iload (i := 6) (n := 2) (len := 2) (Or.inr ⟨rfl, d_Mo_number_120⟩) rfl (G_pc (pc' := 122) rfl ?_)
            refine G_bipush (n := 10) d_Mo_number_122 (by decide) (G_pc (pc' := 124) rfl ?_)
            refine G_icmp_gt (tgt := 136) d_Mo_number_124 (by decide) (fun h3525 => ?_) (fun h3525 => G_pc (pc' := 127) rfl ?_)
            · skip
              refine G_iconst (n := 1) d_Mo_number_136 (by decide) (G_pc (pc' := 137) rfl ?_)
              refine G_goto (tgt := 141) d_Mo_number_137 (by decide) ?_
              refine G_putL (o := 55) (c := 9) (k := 44) (ki := 44) (x := 1) d_Mo_number_141 fl_Mo_166 rfl rfl (by decide) (by decide) (by decide) rfl rfl (tokZ (by decide)) rfl (G_pc (pc' := 144) rfl ?_)
              refine G_aload (i := 0) (n := 4) (len := 1) (Or.inl ⟨0, rfl, rfl, d_Mo_number_144⟩) rfl (by decide) (G_pc (pc' := 145) rfl ?_)
              refine G_iload (i := 7) (n := 1) (len := 2) (Or.inr ⟨rfl, d_Mo_number_145⟩) rfl (G_pc (pc' := 147) rfl ?_)
              refine G_if_eq (tgt := 154) d_Mo_number_147 (by decide) (fun h3526 => ?_) (fun h3526 => absurd h3526 (by decide))
              refine G_iconst (n := 1) d_Mo_number_154 (by decide) (G_pc (pc' := 155) rfl ?_)
              refine G_lload (i := 4) (n := 3) (len := 2) (Or.inr ⟨rfl, d_Mo_number_155⟩) rfl (G_pc (pc' := 157) rfl ?_)
              refine G_callV (K1 := KE) (d2 := 0) (o := 55) (cl := 9) (as := [vi 1, vl v]) (rest := []) d_Mo_number_157 mf_Mo_add ml_Mo_184 rfl rfl (by decide) rfl rfl (Nat.le_of_ble_eq_true rfl) (by omega) ⟨Nat.le_refl _, Nat.le_refl _⟩ (g_Mo_add (by omega) 1 v _ hT) (fun r3527 M3528 kq3529 q3529 => ?_)
              clear kq3529; obtain ⟨q3529a, q3529b⟩ := q3529; subst r3527; subst M3528
              refine G_ps (pc' := 160) (st' := []) rfl rfl ?_
              refine G_iload (i := 3) (n := 0) (len := 1) (Or.inl ⟨3, rfl, rfl, d_Mo_number_160⟩) rfl (G_pc (pc' := 161) rfl ?_)
              refine G_iret d_Mo_number_161 rfl (tokI (by omega)) rfl rfl ?_
              exact ⟨by rw [numT_e hE hV]; unfold numT1; grind, by rw [numT_e hE hV]; unfold tokM numT1; grind [letB]⟩
            · skip
              refine G_lload (i := 4) (n := 3) (len := 2) (Or.inr ⟨rfl, d_Mo_number_127⟩) rfl (G_pc (pc' := 129) rfl ?_)
              refine G_ldc2 (x := 2147483648) d_Mo_number_129 k2_Mo_205 (by decide) (G_pc (pc' := 132) rfl ?_)
              refine G_lcmp_le (tgt := 140) d_Mo_number_132 d_Mo_number_133 (by decide) (fun h3530 => ?_) (fun h3530 => G_pc (pc' := 136) rfl ?_)
              · skip
                refine G_iconst (n := 0) d_Mo_number_140 (by decide) (G_pc (pc' := 141) rfl ?_)
                refine G_putL (o := 55) (c := 9) (k := 44) (ki := 44) (x := 0) d_Mo_number_141 fl_Mo_166 rfl rfl (by decide) (by decide) (by decide) rfl rfl (tokZ (by decide)) rfl (G_pc (pc' := 144) rfl ?_)
                refine G_aload (i := 0) (n := 4) (len := 1) (Or.inl ⟨0, rfl, rfl, d_Mo_number_144⟩) rfl (by decide) (G_pc (pc' := 145) rfl ?_)
                refine G_iload (i := 7) (n := 1) (len := 2) (Or.inr ⟨rfl, d_Mo_number_145⟩) rfl (G_pc (pc' := 147) rfl ?_)
                refine G_if_eq (tgt := 154) d_Mo_number_147 (by decide) (fun h3531 => ?_) (fun h3531 => absurd h3531 (by decide))
                refine G_iconst (n := 1) d_Mo_number_154 (by decide) (G_pc (pc' := 155) rfl ?_)
                refine G_lload (i := 4) (n := 3) (len := 2) (Or.inr ⟨rfl, d_Mo_number_155⟩) rfl (G_pc (pc' := 157) rfl ?_)
                refine G_callV (K1 := KE) (d2 := 0) (o := 55) (cl := 9) (as := [vi 1, vl v]) (rest := []) d_Mo_number_157 mf_Mo_add ml_Mo_184 rfl rfl (by decide) rfl rfl (Nat.le_of_ble_eq_true rfl) (by omega) ⟨Nat.le_refl _, Nat.le_refl _⟩ (g_Mo_add (by omega) 1 v _ hT) (fun r3532 M3533 kq3534 q3534 => ?_)
                clear kq3534; obtain ⟨q3534a, q3534b⟩ := q3534; subst r3532; subst M3533
                refine G_ps (pc' := 160) (st' := []) rfl rfl ?_
                refine G_iload (i := 3) (n := 0) (len := 1) (Or.inl ⟨3, rfl, rfl, d_Mo_number_160⟩) rfl (G_pc (pc' := 161) rfl ?_)
                refine G_iret d_Mo_number_161 rfl (tokI (by omega)) rfl rfl ?_
                exact ⟨by rw [numT_e hE hV]; unfold numT1; grind, by rw [numT_e hE hV]; unfold tokM numT1; grind [letB]⟩
              · skip
                refine G_iconst (n := 1) d_Mo_number_136 (by decide) (G_pc (pc' := 137) rfl ?_)
                refine G_goto (tgt := 141) d_Mo_number_137 (by decide) ?_
                refine G_putL (o := 55) (c := 9) (k := 44) (ki := 44) (x := 1) d_Mo_number_141 fl_Mo_166 rfl rfl (by decide) (by decide) (by decide) rfl rfl (tokZ (by decide)) rfl (G_pc (pc' := 144) rfl ?_)
                refine G_aload (i := 0) (n := 4) (len := 1) (Or.inl ⟨0, rfl, rfl, d_Mo_number_144⟩) rfl (by decide) (G_pc (pc' := 145) rfl ?_)
                refine G_iload (i := 7) (n := 1) (len := 2) (Or.inr ⟨rfl, d_Mo_number_145⟩) rfl (G_pc (pc' := 147) rfl ?_)
                refine G_if_eq (tgt := 154) d_Mo_number_147 (by decide) (fun h3535 => ?_) (fun h3535 => absurd h3535 (by decide))
                refine G_iconst (n := 1) d_Mo_number_154 (by decide) (G_pc (pc' := 155) rfl ?_)
                refine G_lload (i := 4) (n := 3) (len := 2) (Or.inr ⟨rfl, d_Mo_number_155⟩) rfl (G_pc (pc' := 157) rfl ?_)
                refine G_callV (K1 := KE) (d2 := 0) (o := 55) (cl := 9) (as := [vi 1, vl v]) (rest := []) d_Mo_number_157 mf_Mo_add ml_Mo_184 rfl rfl (by decide) rfl rfl (Nat.le_of_ble_eq_true rfl) (by omega) ⟨Nat.le_refl _, Nat.le_refl _⟩ (g_Mo_add (by omega) 1 v _ hT) (fun r3536 M3537 kq3538 q3538 => ?_)
                clear kq3538; obtain ⟨q3538a, q3538b⟩ := q3538; subst r3536; subst M3537
                refine G_ps (pc' := 160) (st' := []) rfl rfl ?_
                refine G_iload (i := 3) (n := 0) (len := 1) (Or.inl ⟨3, rfl, rfl, d_Mo_number_160⟩) rfl (G_pc (pc' := 161) rfl ?_)
                refine G_iret d_Mo_number_161 rfl (tokI (by omega)) rfl rfl ?_
                exact ⟨by rw [numT_e hE hV]; unfold numT1; grind, by rw [numT_e hE hV]; unfold tokM numT1; grind [letB]⟩
        · skip
          refine G_iconst (n := 1) d_Mo_number_72 (by decide) (G_pc (pc' := 73) rfl ?_)
          refine G_goto (tgt := 77) d_Mo_number_73 (by decide) ?_
          refine G_istore (i := 7) (len := 2) (ls' := [(7, vi 1), (6, vi (k - f)), (4, vl v), (3, vi k), (0, vr 55), (1, vi e), (2, vi f)]) (Or.inr ⟨rfl, d_Mo_number_77⟩) (by decide) rfl (G_pc (pc' := 79) rfl ?_)
          refine G_iload (i := 7) (n := 0) (len := 2) (Or.inr ⟨rfl, d_Mo_number_79⟩) rfl (G_pc (pc' := 81) rfl ?_)
          refine G_if_eq (tgt := 90) d_Mo_number_81 (by decide) (fun h3539 => absurd h3539 (by decide)) (fun h3539 => G_pc (pc' := 84) rfl ?_)
          refine G_iload (i := 3) (n := 3) (len := 1) (Or.inl ⟨3, rfl, rfl, d_Mo_number_84⟩) rfl (G_pc (pc' := 85) rfl ?_)
          refine G_iconst (n := 1) d_Mo_number_85 (by decide) (G_pc (pc' := 86) rfl ?_)
          refine G_iadd d_Mo_number_86 (by omega) (G_pc (pc' := 87) rfl ?_)
          refine G_goto (tgt := 91) d_Mo_number_87 (by decide) ?_
          refine G_istore (i := 3) (len := 1) (ls' := [(3, vi (k + 1)), (7, vi 1), (6, vi (k - f)), (4, vl v), (0, vr 55), (1, vi e), (2, vi f)]) (Or.inl ⟨3, rfl, rfl, d_Mo_number_91⟩) (by decide) rfl (G_pc (pc' := 92) rfl ?_)
          refine G_aload (i := 0) (n := 4) (len := 1) (Or.inl ⟨0, rfl, rfl, d_Mo_number_92⟩) rfl (by decide) (G_pc (pc' := 93) rfl ?_)
          refine G_aload (i := 0) (n := 4) (len := 1) (Or.inl ⟨0, rfl, rfl, d_Mo_number_93⟩) rfl (by decide) (G_pc (pc' := 94) rfl ?_)
          refine G_iload (i := 1) (n := 5) (len := 1) (Or.inl ⟨1, rfl, rfl, d_Mo_number_94⟩) rfl (G_pc (pc' := 95) rfl ?_)
          refine G_iload (i := 3) (n := 0) (len := 1) (Or.inl ⟨3, rfl, rfl, d_Mo_number_95⟩) rfl (G_pc (pc' := 96) rfl ?_)
          refine G_callV (K1 := KE) (d2 := 0) (o := 55) (cl := 9) (as := [vi e, vi (k + 1)]) (rest := [vr 55]) d_Mo_number_96 mf_Mo_at ml_Mo_169 rfl rfl (by decide) rfl rfl (Nat.le_of_ble_eq_true rfl) (by omega) ⟨Nat.le_refl _, Nat.le_refl _⟩ (g_Mo_at (by omega) e (k + 1) _ hL he (by omega)) (fun r3540 M3541 kq3542 q3542 => ?_)
          clear kq3542; obtain ⟨q3542a, q3542b⟩ := q3542; subst r3540; subst M3541
          refine G_ps (pc' := 99) (st' := [vi (txM M e (k + 1)), vr 55]) rfl rfl ?_
          refine G_callS (K1 := KE) (d2 := 1) (as := [vi (txM M e (k + 1))]) (rest := [vr 55]) d_Mo_number_99 mf_Mo_letter ml_Mo_172 rfl rfl (Nat.le_of_ble_eq_true rfl) (by omega) ⟨Nat.le_refl _, Nat.le_refl _⟩ (g_Mo_letter (by omega) (txM M e (k + 1)) _) (fun r3543 M3544 kq3545 q3545 => ?_)
          clear kq3545; obtain ⟨q3545a, q3545b⟩ := q3545; subst r3543; subst M3544
          refine G_ps (pc' := 102) (st' := [vi (b2i (letB (txM M e (k + 1)))), vr 55]) rfl rfl ?_
          refine G_if_ne (tgt := 136) d_Mo_number_102 (by decide) (fun h3546 => ?_) (fun h3546 => G_pc (pc' := 105) rfl ?_)
          · skip
            replace h3546 := b2i_nz.mp h3546
            replace h3546 := letB_t.mp h3546
            refine G_iconst (n := 1) d_Mo_number_136 (by decide) (G_pc (pc' := 137) rfl ?_)
            refine G_goto (tgt := 141) d_Mo_number_137 (by decide) ?_
            refine G_putL (o := 55) (c := 9) (k := 44) (ki := 44) (x := 1) d_Mo_number_141 fl_Mo_166 rfl rfl (by decide) (by decide) (by decide) rfl rfl (tokZ (by decide)) rfl (G_pc (pc' := 144) rfl ?_)
            refine G_aload (i := 0) (n := 4) (len := 1) (Or.inl ⟨0, rfl, rfl, d_Mo_number_144⟩) rfl (by decide) (G_pc (pc' := 145) rfl ?_)
            refine G_iload (i := 7) (n := 1) (len := 2) (Or.inr ⟨rfl, d_Mo_number_145⟩) rfl (G_pc (pc' := 147) rfl ?_)
            refine G_if_eq (tgt := 154) d_Mo_number_147 (by decide) (fun h3547 => absurd h3547 (by decide)) (fun h3547 => G_pc (pc' := 150) rfl ?_)
            refine G_iconst (n := 2) d_Mo_number_150 (by decide) (G_pc (pc' := 151) rfl ?_)
            refine G_goto (tgt := 155) d_Mo_number_151 (by decide) ?_
            refine G_lload (i := 4) (n := 3) (len := 2) (Or.inr ⟨rfl, d_Mo_number_155⟩) rfl (G_pc (pc' := 157) rfl ?_)
            refine G_callV (K1 := KE) (d2 := 0) (o := 55) (cl := 9) (as := [vi 2, vl v]) (rest := []) d_Mo_number_157 mf_Mo_add ml_Mo_184 rfl rfl (by decide) rfl rfl (Nat.le_of_ble_eq_true rfl) (by omega) ⟨Nat.le_refl _, Nat.le_refl _⟩ (g_Mo_add (by omega) 2 v _ hT) (fun r3548 M3549 kq3550 q3550 => ?_)
            clear kq3550; obtain ⟨q3550a, q3550b⟩ := q3550; subst r3548; subst M3549
            refine G_ps (pc' := 160) (st' := []) rfl rfl ?_
            refine G_iload (i := 3) (n := 0) (len := 1) (Or.inl ⟨3, rfl, rfl, d_Mo_number_160⟩) rfl (G_pc (pc' := 161) rfl ?_)
            refine G_iret d_Mo_number_161 rfl (tokI (by omega)) rfl rfl ?_
            exact ⟨by rw [numT_e hE hV]; unfold numT1; grind, by rw [numT_e hE hV]; unfold tokM numT1; grind [letB]⟩
          · skip
            replace h3546 := b2i_0.mp h3546
            replace h3546 := letB_f.mp h3546
            refine G_iload (i := 7) (n := 1) (len := 2) (Or.inr ⟨rfl, d_Mo_number_105⟩) rfl (G_pc (pc' := 107) rfl ?_)
            refine G_if_eq (tgt := 120) d_Mo_number_107 (by decide) (fun h3551 => absurd h3551 (by decide)) (fun h3551 => G_pc (pc' := 110) rfl ?_)
            refine G_iload (i := 6) (n := 2) (len := 2) (Or.inr ⟨rfl, d_Mo_number_110⟩) rfl (G_pc (pc' := 112) rfl ?_)
            refine G_bipush (n := 18) d_Mo_number_112 (by decide) (G_pc (pc' := 114) rfl ?_)
            refine G_icmp_le (tgt := 140) d_Mo_number_114 (by decide) (fun h3552 => ?_) (fun h3552 => G_pc (pc' := 117) rfl ?_)
            · skip
              refine G_iconst (n := 0) d_Mo_number_140 (by decide) (G_pc (pc' := 141) rfl ?_)
              refine G_putL (o := 55) (c := 9) (k := 44) (ki := 44) (x := 0) d_Mo_number_141 fl_Mo_166 rfl rfl (by decide) (by decide) (by decide) rfl rfl (tokZ (by decide)) rfl (G_pc (pc' := 144) rfl ?_)
              refine G_aload (i := 0) (n := 4) (len := 1) (Or.inl ⟨0, rfl, rfl, d_Mo_number_144⟩) rfl (by decide) (G_pc (pc' := 145) rfl ?_)
              refine G_iload (i := 7) (n := 1) (len := 2) (Or.inr ⟨rfl, d_Mo_number_145⟩) rfl (G_pc (pc' := 147) rfl ?_)
              refine G_if_eq (tgt := 154) d_Mo_number_147 (by decide) (fun h3553 => absurd h3553 (by decide)) (fun h3553 => G_pc (pc' := 150) rfl ?_)
              refine G_iconst (n := 2) d_Mo_number_150 (by decide) (G_pc (pc' := 151) rfl ?_)
              refine G_goto (tgt := 155) d_Mo_number_151 (by decide) ?_
              refine G_lload (i := 4) (n := 3) (len := 2) (Or.inr ⟨rfl, d_Mo_number_155⟩) rfl (G_pc (pc' := 157) rfl ?_)
              refine G_callV (K1 := KE) (d2 := 0) (o := 55) (cl := 9) (as := [vi 2, vl v]) (rest := []) d_Mo_number_157 mf_Mo_add ml_Mo_184 rfl rfl (by decide) rfl rfl (Nat.le_of_ble_eq_true rfl) (by omega) ⟨Nat.le_refl _, Nat.le_refl _⟩ (g_Mo_add (by omega) 2 v _ hT) (fun r3554 M3555 kq3556 q3556 => ?_)
              clear kq3556; obtain ⟨q3556a, q3556b⟩ := q3556; subst r3554; subst M3555
              refine G_ps (pc' := 160) (st' := []) rfl rfl ?_
              refine G_iload (i := 3) (n := 0) (len := 1) (Or.inl ⟨3, rfl, rfl, d_Mo_number_160⟩) rfl (G_pc (pc' := 161) rfl ?_)
              refine G_iret d_Mo_number_161 rfl (tokI (by omega)) rfl rfl ?_
              exact ⟨by rw [numT_e hE hV]; unfold numT1; grind, by rw [numT_e hE hV]; unfold tokM numT1; grind [letB]⟩
            · skip
              refine G_goto (tgt := 136) d_Mo_number_117 (by decide) ?_
              refine G_iconst (n := 1) d_Mo_number_136 (by decide) (G_pc (pc' := 137) rfl ?_)
              refine G_goto (tgt := 141) d_Mo_number_137 (by decide) ?_
              refine G_putL (o := 55) (c := 9) (k := 44) (ki := 44) (x := 1) d_Mo_number_141 fl_Mo_166 rfl rfl (by decide) (by decide) (by decide) rfl rfl (tokZ (by decide)) rfl (G_pc (pc' := 144) rfl ?_)
              refine G_aload (i := 0) (n := 4) (len := 1) (Or.inl ⟨0, rfl, rfl, d_Mo_number_144⟩) rfl (by decide) (G_pc (pc' := 145) rfl ?_)
              refine G_iload (i := 7) (n := 1) (len := 2) (Or.inr ⟨rfl, d_Mo_number_145⟩) rfl (G_pc (pc' := 147) rfl ?_)
              refine G_if_eq (tgt := 154) d_Mo_number_147 (by decide) (fun h3557 => absurd h3557 (by decide)) (fun h3557 => G_pc (pc' := 150) rfl ?_)
              refine G_iconst (n := 2) d_Mo_number_150 (by decide) (G_pc (pc' := 151) rfl ?_)
              refine G_goto (tgt := 155) d_Mo_number_151 (by decide) ?_
              refine G_lload (i := 4) (n := 3) (len := 2) (Or.inr ⟨rfl, d_Mo_number_155⟩) rfl (G_pc (pc' := 157) rfl ?_)
              refine G_callV (K1 := KE) (d2 := 0) (o := 55) (cl := 9) (as := [vi 2, vl v]) (rest := []) d_Mo_number_157 mf_Mo_add ml_Mo_184 rfl rfl (by decide) rfl rfl (Nat.le_of_ble_eq_true rfl) (by omega) ⟨Nat.le_refl _, Nat.le_refl _⟩ (g_Mo_add (by omega) 2 v _ hT) (fun r3558 M3559 kq3560 q3560 => ?_)
              clear kq3560; obtain ⟨q3560a, q3560b⟩ := q3560; subst r3558; subst M3559
              refine G_ps (pc' := 160) (st' := []) rfl rfl ?_
              refine G_iload (i := 3) (n := 0) (len := 1) (Or.inl ⟨3, rfl, rfl, d_Mo_number_160⟩) rfl (G_pc (pc' := 161) rfl ?_)
              refine G_iret d_Mo_number_161 rfl (tokI (by omega)) rfl rfl ?_
              exact ⟨by rw [numT_e hE hV]; unfold numT1; grind, by rw [numT_e hE hV]; unfold tokM numT1; grind [letB]⟩
      · skip
        replace h3507 := b2i_nz.mp h3507
        replace h3507 := digB_t.mp h3507
        refine G_iload (i := 3) (n := 1) (len := 1) (Or.inl ⟨3, rfl, rfl, d_Mo_number_17⟩) rfl (G_pc (pc' := 18) rfl ?_)
        refine G_iload (i := 2) (n := 4) (len := 1) (Or.inl ⟨2, rfl, rfl, d_Mo_number_18⟩) rfl (G_pc (pc' := 19) rfl ?_)
        refine G_isub d_Mo_number_19 (by omega) (G_pc (pc' := 20) rfl ?_)
        refine G_bipush (n := 18) d_Mo_number_20 (by decide) (G_pc (pc' := 22) rfl ?_)
        refine G_icmp_ge (tgt := 46) d_Mo_number_22 (by decide) (fun h3561 => ?_) (fun h3561 => G_pc (pc' := 25) rfl ?_)
        · skip
          refine G_lload (i := 4) (n := 0) (len := 2) (Or.inr ⟨rfl, d_Mo_number_46⟩) rfl (G_pc (pc' := 48) rfl ?_)
          refine G_lstore (i := 4) (len := 2) (ls' := [(4, vl v), (3, vi k), (0, vr 55), (1, vi e), (2, vi f)]) (Or.inr ⟨rfl, d_Mo_number_48⟩) (by decide) rfl (G_pc (pc' := 50) rfl ?_)
          refine G_iinc (i := 3) (n := 1) (z := 1) (ls' := [(3, vi (k + 1)), (4, vl v), (0, vr 55), (1, vi e), (2, vi f)]) d_Mo_number_50 rfl (by decide) (by omega) rfl (G_pc (pc' := 53) rfl ?_)
          refine G_goto (tgt := 5) d_Mo_number_53 (by decide) ?_
          refine G_ls (ls' := [(4, vl v), (3, vi (k + 1)), (0, vr 55), (1, vi e), (2, vi f)]) (by intro z hz; simp only [List.mem_cons] at hz ⊢; grind) ?_
          refine ih (k + 1) _ (by omega) (by omega) (hE0.symm.trans (runE_t (digB_t.mpr (by assumption)))).symm ?_ ?_
          · intro j hj hj2
            by_cases hjk : f + j = k
            · rw [hjk]; omega
            · exact hD j hj (by omega)
          · have e1 : numN (k + 1) f = numN k f := by unfold numN; split <;> split <;> omega
            rw [e1]; exact hV
        · skip
          have hc8 : p10 (numN k f) ≤ 100000000000000000 := p10_17 (by unfold numN; split <;> omega)
          refine G_ldc2 (x := 10) d_Mo_number_25 k2_Mo_201 (by decide) (G_pc (pc' := 28) rfl ?_)
          refine G_lload (i := 4) (n := 0) (len := 2) (Or.inr ⟨rfl, d_Mo_number_28⟩) rfl (G_pc (pc' := 30) rfl ?_)
          refine G_lmul d_Mo_number_30 (G_pc (pc' := 31) rfl ?_)
          refine G_aload (i := 0) (n := 2) (len := 1) (Or.inl ⟨0, rfl, rfl, d_Mo_number_31⟩) rfl (by decide) (G_pc (pc' := 32) rfl ?_)
          refine G_iload (i := 1) (n := 3) (len := 1) (Or.inl ⟨1, rfl, rfl, d_Mo_number_32⟩) rfl (G_pc (pc' := 33) rfl ?_)
          refine G_iload (i := 3) (n := 1) (len := 1) (Or.inl ⟨3, rfl, rfl, d_Mo_number_33⟩) rfl (G_pc (pc' := 34) rfl ?_)
          refine G_callV (K1 := KE) (d2 := 0) (o := 55) (cl := 9) (as := [vi e, vi k]) (rest := [vl (o_lmul 10 v)]) d_Mo_number_34 mf_Mo_at ml_Mo_169 rfl rfl (by decide) rfl rfl (Nat.le_of_ble_eq_true rfl) (by omega) ⟨Nat.le_refl _, Nat.le_refl _⟩ (g_Mo_at (by omega) e k _ hL he (by omega)) (fun r3562 M3563 kq3564 q3564 => ?_)
          clear kq3564; obtain ⟨q3564a, q3564b⟩ := q3564; subst r3562; subst M3563
          refine G_ps (pc' := 37) (st' := [vi (txM M e k), vl (o_lmul 10 v)]) rfl rfl ?_
          refine G_i2l d_Mo_number_37 (G_pc (pc' := 38) rfl ?_)
          refine G_ladd d_Mo_number_38 (G_pc (pc' := 39) rfl ?_)
          refine G_ldc2 (x := 48) d_Mo_number_39 k2_Mo_203 (by decide) (G_pc (pc' := 42) rfl ?_)
          refine G_lsub d_Mo_number_42 (G_pc (pc' := 43) rfl ?_)
          refine G_goto (tgt := 48) d_Mo_number_43 (by decide) ?_
          refine G_lstore (i := 4) (len := 2) (ls' := [(4, vl (o_lsub (o_ladd (o_lmul 10 v) (txM M e k)) 48)), (3, vi k), (0, vr 55), (1, vi e), (2, vi f)]) (Or.inr ⟨rfl, d_Mo_number_48⟩) (by decide) rfl (G_pc (pc' := 50) rfl ?_)
          refine G_iinc (i := 3) (n := 1) (z := 1) (ls' := [(3, vi (k + 1)), (4, vl (o_lsub (o_ladd (o_lmul 10 v) (txM M e k)) 48)), (0, vr 55), (1, vi e), (2, vi f)]) d_Mo_number_50 rfl (by decide) (by omega) rfl (G_pc (pc' := 53) rfl ?_)
          refine G_goto (tgt := 5) d_Mo_number_53 (by decide) ?_
          refine G_ls (ls' := [(4, vl (o_lsub (o_ladd (o_lmul 10 v) (txM M e k)) 48)), (3, vi (k + 1)), (0, vr 55), (1, vi e), (2, vi f)]) (by intro z hz; simp only [List.mem_cons] at hz ⊢; grind) ?_
          refine ih (k + 1) _ (by omega) (by omega) (hE0.symm.trans (runE_t (digB_t.mpr (by assumption)))).symm ?_ ?_
          · intro j hj hj2
            by_cases hjk : f + j = k
            · rw [hjk]; omega
            · exact hD j hj (by omega)
          · have e1 : numN (k + 1) f = numN k f + 1 := by unfold numN; split <;> split <;> omega
            have e2 : f + ((numN k f : Nat) : Int) = k := by unfold numN; split <;> omega
            rw [e1]; unfold nvE; rw [e2, ← hV]
            exact dig_e (by omega) (by omega)
  refine G_iload (i := 2) (n := 2) (len := 1) (Or.inl ⟨2, rfl, rfl, d_Mo_number_0⟩) rfl (G_pc (pc' := 1) rfl ?_)
  refine G_istore (i := 3) (len := 1) (ls' := [(3, vi f), (0, vr 55), (1, vi e), (2, vi f)]) (Or.inl ⟨3, rfl, rfl, d_Mo_number_1⟩) (by decide) rfl (G_pc (pc' := 2) rfl ?_)
  refine G_lconst0 d_Mo_number_2 (G_pc (pc' := 3) rfl ?_)
  refine G_lstore (i := 4) (len := 2) (ls' := [(4, vl 0), (3, vi f), (0, vr 55), (1, vi e), (2, vi f)]) (Or.inr ⟨rfl, d_Mo_number_3⟩) (by decide) rfl (G_pc (pc' := 5) rfl ?_)
  exact loop (40 - f).toNat f 0 (by omega) (by omega) rfl (fun j hj hj2 => absurd hj2 (by omega)) (by unfold numN; simp [nvE])

