theorem run_len {p : Int → Bool} {f : Int → Int} {len : Int} (hz : ∀ j, len ≤ j → ¬ p (f j) = true) : ∀ {n : Nat} {k : Int}, k ≤ len → runE p f n k ≤ len := by
  intro n
  induction n with
  | zero => intro k h; exact h
  | succ n ih =>
    intro k h
    by_cases hp : p (f k) = true
    · rw [runE_t hp]
      have : k < len := by
        by_cases hk : k < len
        · exact hk
        · exact absurd hp (hz k (by omega))
      exact ih (by omega)
    · rw [runE_f hp]; exact h
theorem dgB_at {f : Int → Int} {a b j : Int} (hb : runE digB f (40 - a).toNat a = b) (h1 : a ≤ j) (h2 : j < b) : 48 ≤ f j ∧ f j ≤ 57 := digB_t.mp (runE_all (n := (40 - a).toNat) (k := a) h1 (by rw [hb]; exact h2))
theorem nv_rng {f : Int → Int} {a b : Int} (hb : runE digB f (40 - a).toNat a = b) {n : Nat} (hn : a + n ≤ b) (h18 : n ≤ 18) : 0 ≤ nvE f a n ∧ nvE f a n < 1000000000000000000 := by
  have h1 := nvE_b (f := f) (a := a) (n := n) (fun j hj => dgB_at hb (by omega) (by omega))
  have h2 := p10_18 h18
  omega
theorem nv_17 {f : Int → Int} {a b : Int} (hb : runE digB f (40 - a).toNat a = b) {n : Nat} (hn : a + n ≤ b) (h18 : n ≤ 17) : 0 ≤ nvE f a n ∧ nvE f a n < 100000000000000000 := by
  have h1 := nvE_b (f := f) (a := a) (n := n) (fun j hj => dgB_at hb (by omega) (by omega))
  have h2 := p10_17 h18
  omega
theorem dig_e2 {v c : Int} (hv : 0 ≤ v ∧ v ≤ 100000000000000000) (hc : 48 ≤ c ∧ c ≤ 57) : o_ladd (o_lmul v 10) (c - 48) = 10 * v + c - 48 := by
  rw [lmul_w, w64_id (by omega), ladd_w, w64_id (by omega)]; omega
theorem nm_b {f : Int → Int} {a b : Int} (hb : runE digB f (40 - a).toNat a = b) (h18 : b - a ≤ 18) (h0 : a ≤ b) : numT f a = numT1 f b a (nvE f a (b - a).toNat) := numT_e hb (by congr 1; unfold numN; split <;> omega)
theorem n1_w {f : Int → Int} {k a v : Int} (h : f k = 76) (h2 : letB (f (k + 1)) = true ∨ 18 < k - a) : numT1 f k a v = (k + 1, 2, v, 1) := by unfold numT1; rw [if_pos h, if_pos h2]
theorem n1_wg {f : Int → Int} {k a v : Int} (h : f k = 76) (h2 : ¬ (letB (f (k + 1)) = true ∨ 18 < k - a)) : numT1 f k a v = (k + 1, 2, v, 0) := by unfold numT1; rw [if_pos h, if_neg h2]
theorem n1_s {f : Int → Int} {k a v : Int} (h : ¬ f k = 76) (h2 : letB (f k) = true ∨ 10 < k - a ∨ 2147483648 < v) : numT1 f k a v = (k, 1, v, 1) := by unfold numT1; rw [if_neg h, if_pos h2]
theorem n1_sg {f : Int → Int} {k a v : Int} (h : ¬ f k = 76) (h2 : ¬ (letB (f k) = true ∨ 10 < k - a ∨ 2147483648 < v)) : numT1 f k a v = (k, 1, v, 0) := by unfold numT1; rw [if_neg h, if_neg h2]
theorem nm_n {f : Int → Int} {a b : Int} (hb : runE digB f (40 - a).toNat a = b) : numT f a = numT1 f b a (nvE f a (numN b a)) := numT_e hb rfl
theorem d_To_readNumber_0 : decode b_To_readNumber 0 = .ok (.aload_n 0, 1) := by decide +kernel
theorem d_To_readNumber_1 : decode b_To_readNumber 1 = .ok (.iload_n 1, 1) := by decide +kernel
theorem d_To_readNumber_2 : decode b_To_readNumber 2 = .ok (.invokevirtual 104, 3) := by decide +kernel
theorem d_To_readNumber_5 : decode b_To_readNumber 5 = .ok (.istore_n 2, 1) := by decide +kernel
theorem d_To_readNumber_6 : decode b_To_readNumber 6 = .ok (.aload_n 0, 1) := by decide +kernel
theorem d_To_readNumber_7 : decode b_To_readNumber 7 = .ok (.iload_n 2, 1) := by decide +kernel
theorem d_To_readNumber_8 : decode b_To_readNumber 8 = .ok (.invokevirtual 107, 3) := by decide +kernel
theorem d_To_readNumber_11 : decode b_To_readNumber 11 = .ok (.bipush 76, 2) := by decide +kernel
theorem d_To_readNumber_13 : decode b_To_readNumber 13 = .ok (.if_icmp .ne 7, 3) := by decide +kernel
theorem d_To_readNumber_16 : decode b_To_readNumber 16 = .ok (.iconst 1, 1) := by decide +kernel
theorem d_To_readNumber_17 : decode b_To_readNumber 17 = .ok (.goto 4, 3) := by decide +kernel
theorem d_To_readNumber_20 : decode b_To_readNumber 20 = .ok (.iconst 0, 1) := by decide +kernel
theorem d_To_readNumber_21 : decode b_To_readNumber 21 = .ok (.istore_n 3, 1) := by decide +kernel
theorem d_To_readNumber_22 : decode b_To_readNumber 22 = .ok (.iload_n 3, 1) := by decide +kernel
theorem d_To_readNumber_23 : decode b_To_readNumber 23 = .ok (.ifCond .eq 9, 3) := by decide +kernel
theorem d_To_readNumber_26 : decode b_To_readNumber 26 = .ok (.iload_n 2, 1) := by decide +kernel
theorem d_To_readNumber_27 : decode b_To_readNumber 27 = .ok (.iconst 1, 1) := by decide +kernel
theorem d_To_readNumber_28 : decode b_To_readNumber 28 = .ok (.iadd, 1) := by decide +kernel
theorem d_To_readNumber_29 : decode b_To_readNumber 29 = .ok (.goto 4, 3) := by decide +kernel
theorem d_To_readNumber_32 : decode b_To_readNumber 32 = .ok (.iload_n 2, 1) := by decide +kernel
theorem d_To_readNumber_33 : decode b_To_readNumber 33 = .ok (.istore 4, 2) := by decide +kernel
theorem d_To_readNumber_35 : decode b_To_readNumber 35 = .ok (.iload_n 3, 1) := by decide +kernel
theorem d_To_readNumber_36 : decode b_To_readNumber 36 = .ok (.ifCond .eq 8, 3) := by decide +kernel
theorem d_To_readNumber_39 : decode b_To_readNumber 39 = .ok (.bipush 18, 2) := by decide +kernel
theorem d_To_readNumber_41 : decode b_To_readNumber 41 = .ok (.goto 5, 3) := by decide +kernel
theorem d_To_readNumber_44 : decode b_To_readNumber 44 = .ok (.bipush 10, 2) := by decide +kernel
theorem d_To_readNumber_46 : decode b_To_readNumber 46 = .ok (.istore 5, 2) := by decide +kernel
theorem d_To_readNumber_48 : decode b_To_readNumber 48 = .ok (.iload_n 2, 1) := by decide +kernel
theorem d_To_readNumber_49 : decode b_To_readNumber 49 = .ok (.iload_n 1, 1) := by decide +kernel
theorem d_To_readNumber_50 : decode b_To_readNumber 50 = .ok (.isub, 1) := by decide +kernel
theorem d_To_readNumber_51 : decode b_To_readNumber 51 = .ok (.iload 5, 2) := by decide +kernel
theorem d_To_readNumber_53 : decode b_To_readNumber 53 = .ok (.if_icmp .gt 15, 3) := by decide +kernel
theorem d_To_readNumber_56 : decode b_To_readNumber 56 = .ok (.aload_n 0, 1) := by decide +kernel
theorem d_To_readNumber_57 : decode b_To_readNumber 57 = .ok (.iload 4, 2) := by decide +kernel
theorem d_To_readNumber_59 : decode b_To_readNumber 59 = .ok (.invokevirtual 107, 3) := by decide +kernel
theorem d_To_readNumber_62 : decode b_To_readNumber 62 = .ok (.invokestatic 37, 3) := by decide +kernel
theorem d_To_readNumber_65 : decode b_To_readNumber 65 = .ok (.ifCond .eq 5, 3) := by decide +kernel
theorem d_To_readNumber_68 : decode b_To_readNumber 68 = .ok (.iconst (-1), 1) := by decide +kernel
theorem d_To_readNumber_69 : decode b_To_readNumber 69 = .ok (.ireturn, 1) := by decide +kernel
theorem d_To_readNumber_70 : decode b_To_readNumber 70 = .ok (.lconst 0, 1) := by decide +kernel
theorem d_To_readNumber_71 : decode b_To_readNumber 71 = .ok (.lstore 6, 2) := by decide +kernel
theorem d_To_readNumber_73 : decode b_To_readNumber 73 = .ok (.iload_n 1, 1) := by decide +kernel
theorem d_To_readNumber_74 : decode b_To_readNumber 74 = .ok (.istore 8, 2) := by decide +kernel
theorem d_To_readNumber_76 : decode b_To_readNumber 76 = .ok (.iload 8, 2) := by decide +kernel
theorem d_To_readNumber_78 : decode b_To_readNumber 78 = .ok (.iload_n 2, 1) := by decide +kernel
theorem d_To_readNumber_79 : decode b_To_readNumber 79 = .ok (.if_icmp .ge 29, 3) := by decide +kernel
theorem d_To_readNumber_82 : decode b_To_readNumber 82 = .ok (.lload 6, 2) := by decide +kernel
theorem d_To_readNumber_84 : decode b_To_readNumber 84 = .ok (.ldc2_w 108, 3) := by decide +kernel
theorem d_To_readNumber_87 : decode b_To_readNumber 87 = .ok (.lmul, 1) := by decide +kernel
theorem d_To_readNumber_88 : decode b_To_readNumber 88 = .ok (.aload_n 0, 1) := by decide +kernel
theorem d_To_readNumber_89 : decode b_To_readNumber 89 = .ok (.getfield 22, 3) := by decide +kernel
theorem d_To_readNumber_92 : decode b_To_readNumber 92 = .ok (.iload 8, 2) := by decide +kernel
theorem d_To_readNumber_94 : decode b_To_readNumber 94 = .ok (.caload, 1) := by decide +kernel
theorem d_To_readNumber_95 : decode b_To_readNumber 95 = .ok (.bipush 48, 2) := by decide +kernel
theorem d_To_readNumber_97 : decode b_To_readNumber 97 = .ok (.isub, 1) := by decide +kernel
theorem d_To_readNumber_98 : decode b_To_readNumber 98 = .ok (.i2l, 1) := by decide +kernel
theorem d_To_readNumber_99 : decode b_To_readNumber 99 = .ok (.ladd, 1) := by decide +kernel
theorem d_To_readNumber_100 : decode b_To_readNumber 100 = .ok (.lstore 6, 2) := by decide +kernel
theorem d_To_readNumber_102 : decode b_To_readNumber 102 = .ok (.iinc 8 1, 3) := by decide +kernel
theorem d_To_readNumber_105 : decode b_To_readNumber 105 = .ok (.goto (-29), 3) := by decide +kernel
theorem d_To_readNumber_108 : decode b_To_readNumber 108 = .ok (.iload_n 3, 1) := by decide +kernel
theorem d_To_readNumber_109 : decode b_To_readNumber 109 = .ok (.ifCond .ne 14, 3) := by decide +kernel
theorem d_To_readNumber_112 : decode b_To_readNumber 112 = .ok (.lload 6, 2) := by decide +kernel
theorem d_To_readNumber_114 : decode b_To_readNumber 114 = .ok (.ldc2_w 110, 3) := by decide +kernel
theorem d_To_readNumber_117 : decode b_To_readNumber 117 = .ok (.lcmp, 1) := by decide +kernel
theorem d_To_readNumber_118 : decode b_To_readNumber 118 = .ok (.ifCond .le 5, 3) := by decide +kernel
theorem d_To_readNumber_121 : decode b_To_readNumber 121 = .ok (.iconst (-1), 1) := by decide +kernel
theorem d_To_readNumber_122 : decode b_To_readNumber 122 = .ok (.ireturn, 1) := by decide +kernel
theorem d_To_readNumber_123 : decode b_To_readNumber 123 = .ok (.aload_n 0, 1) := by decide +kernel
theorem d_To_readNumber_124 : decode b_To_readNumber 124 = .ok (.sipush 137, 3) := by decide +kernel
theorem d_To_readNumber_127 : decode b_To_readNumber 127 = .ok (.iload_n 3, 1) := by decide +kernel
theorem d_To_readNumber_128 : decode b_To_readNumber 128 = .ok (.ifCond .eq 7, 3) := by decide +kernel
theorem d_To_readNumber_131 : decode b_To_readNumber 131 = .ok (.iconst 1, 1) := by decide +kernel
theorem d_To_readNumber_132 : decode b_To_readNumber 132 = .ok (.goto 4, 3) := by decide +kernel
theorem d_To_readNumber_135 : decode b_To_readNumber 135 = .ok (.iconst 0, 1) := by decide +kernel
theorem d_To_readNumber_136 : decode b_To_readNumber 136 = .ok (.lload 6, 2) := by decide +kernel
theorem d_To_readNumber_138 : decode b_To_readNumber 138 = .ok (.iload 4, 2) := by decide +kernel
theorem d_To_readNumber_140 : decode b_To_readNumber 140 = .ok (.invokevirtual 64, 3) := by decide +kernel
theorem d_To_readNumber_143 : decode b_To_readNumber 143 = .ok (.ireturn, 1) := by decide +kernel
set_option maxHeartbeats 1000000 in
theorem g_To_readNumber {X : WX} {d : Nat} (hd : 2 ≤ d) (e : Nat) (f : Int → Int) (len : Int) (k : Int) (M : Mem) (he : e < 4) (hL : LT e f len M) (hs : 0 ≤ M 14 3 ∧ M 14 3 < 24) (hk : 0 ≤ k ∧ k < len) : MG X gt d KE KE y_To_readNumber b_To_readNumber 9 (some .int) [vr 14, vi k] M (tokQ M (numT f k)) := by
  refine MG_of_G (by decide) (Nat.le_of_ble_eq_true rfl) (Nat.le_refl _) (by decide) ?_
  show G X gt d KE KE y_To_readNumber b_To_readNumber 9 (some .int) _ 0 [(0, vr 14), (1, vi k)] [] KE M
  have hlen := hL.2.2.1
  have hre := @runE_le digB f (40 - k).toNat k
  have hrl := run_len (p := digB) (f := f) (len := len) (fun j hj => by rw [hL.2.2.2.2 j hj]; decide) (n := (40 - k).toNat) (k := k) (by omega)
  refine G_rngl (i := 1) rfl (fun hr1 => ?_)
  have loop1 : ∀ (n : Nat) (j z : Int), j + n = (runE digB f (40 - k).toNat k) → k ≤ j → z = nvE f k (j - k).toNat → f (runE digB f (40 - k).toNat k) = 76 → (runE digB f (40 - k).toNat k) - k ≤ 18 → ¬ letB (f ((runE digB f (40 - k).toNat k) + 1)) = true → k ≤ (runE digB f (40 - k).toNat k) ∧ (runE digB f (40 - k).toNat k) ≤ len → (0 ≤ M 14 3 ∧ M 14 3 < 24) → G X gt d KE KE y_To_readNumber b_To_readNumber 9 (some .int) (tokQ M (numT f k)) 76 [(8, vi j), (6, vl z), (5, vi 18), (4, vi ((runE digB f (40 - k).toNat k) + 1)), (3, vi 1), (2, vi (runE digB f (40 - k).toNat k)), (0, vr 14), (1, vi k)] [] KE M := by
    intro n
    induction n with
    | zero =>
      intro j z h1 h2 hze h76 hn9 hnl hb9 hs9
      refine G_iload (i := 8) (n := 0) (len := 2) (Or.inr ⟨rfl, d_To_readNumber_76⟩) rfl (G_pc (pc' := 78) rfl ?_)
      refine G_iload (i := 2) (n := 5) (len := 1) (Or.inl ⟨2, rfl, rfl, d_To_readNumber_78⟩) rfl (G_pc (pc' := 79) rfl ?_)
      refine G_icmp_ge (tgt := 108) d_To_readNumber_79 (by decide) (fun h1501 => ?_) (fun h1501 => absurd h1501 (by omega))
      have hjb : j = (runE digB f (40 - k).toNat k) := by omega
      have hzr := nv_rng (f := f) (a := k) (b := (runE digB f (40 - k).toNat k)) rfl (n := (j - k).toNat) (by omega) (by omega)
      rw [hjb] at hze
      rw [hjb] at hzr
      rw [← hze] at hzr
      have hs := hs9
      refine G_iload (i := 3) (n := 4) (len := 1) (Or.inl ⟨3, rfl, rfl, d_To_readNumber_108⟩) rfl (G_pc (pc' := 109) rfl ?_)
      refine G_if_ne (tgt := 123) d_To_readNumber_109 (by decide) (fun h1502 => ?_) (fun h1502 => absurd h1502 (by decide))
      refine G_aload (i := 0) (n := 6) (len := 1) (Or.inl ⟨0, rfl, rfl, d_To_readNumber_123⟩) rfl (by decide) (G_pc (pc' := 124) rfl ?_)
      refine G_sipush (n := 137) d_To_readNumber_124 (by decide) (G_pc (pc' := 127) rfl ?_)
      refine G_iload (i := 3) (n := 4) (len := 1) (Or.inl ⟨3, rfl, rfl, d_To_readNumber_127⟩) rfl (G_pc (pc' := 128) rfl ?_)
      refine G_if_eq (tgt := 135) d_To_readNumber_128 (by decide) (fun h1503 => absurd h1503 (by decide)) (fun h1503 => G_pc (pc' := 131) rfl ?_)
      refine G_iconst (n := 1) d_To_readNumber_131 (by decide) (G_pc (pc' := 132) rfl ?_)
      refine G_goto (tgt := 136) d_To_readNumber_132 (by decide) ?_
      refine G_lload (i := 6) (n := 1) (len := 2) (Or.inr ⟨rfl, d_To_readNumber_136⟩) rfl (G_pc (pc' := 138) rfl ?_)
      refine G_iload (i := 4) (n := 3) (len := 2) (Or.inr ⟨rfl, d_To_readNumber_138⟩) rfl (G_pc (pc' := 140) rfl ?_)
      refine G_callV (K1 := KE) (d2 := 0) (o := 14) (cl := 7) (as := [vi 137, vi 1, vl z, vi ((runE digB f (40 - k).toNat k) + 1)]) (rest := []) d_To_readNumber_140 mf_To_add ml_To_64 rfl rfl (by decide) rfl rfl (Nat.le_of_ble_eq_true rfl) (by omega) ⟨Nat.le_refl _, Nat.le_refl _⟩ (g_To_add (by omega) 137 1 z ((runE digB f (40 - k).toNat k) + 1) M hs) (fun r1504 M1505 kq1506 q1506 => ?_)
      clear kq1506; obtain ⟨q1506a, q1506b⟩ := q1506; subst r1504; subst M1505
      refine G_ps (pc' := 143) (st' := [vi ((runE digB f (40 - k).toNat k) + 1)]) rfl rfl ?_
      refine G_iret d_To_readNumber_143 rfl (tokI (by omega)) rfl rfl ?_
      exact tokQ_s ((nm_b rfl (by omega) (by omega)).trans (n1_wg (by assumption) (by rintro (h9 | h9); exact hnl h9; omega))) rfl rfl (by rw [hze]; rfl)
    | succ n ih =>
      intro j z h1 h2 hze h76 hn9 hnl hb9 hs9
      refine G_iload (i := 8) (n := 0) (len := 2) (Or.inr ⟨rfl, d_To_readNumber_76⟩) rfl (G_pc (pc' := 78) rfl ?_)
      refine G_iload (i := 2) (n := 5) (len := 1) (Or.inl ⟨2, rfl, rfl, d_To_readNumber_78⟩) rfl (G_pc (pc' := 79) rfl ?_)
      refine G_icmp_ge (tgt := 108) d_To_readNumber_79 (by decide) (fun h1601 => absurd h1601 (by omega)) (fun h1601 => G_pc (pc' := 82) rfl ?_)
      refine G_lload (i := 6) (n := 1) (len := 2) (Or.inr ⟨rfl, d_To_readNumber_82⟩) rfl (G_pc (pc' := 84) rfl ?_)
      refine G_ldc2 (x := 10) d_To_readNumber_84 k2_To_108 (by decide) (G_pc (pc' := 87) rfl ?_)
      refine G_lmul d_To_readNumber_87 (G_pc (pc' := 88) rfl ?_)
      refine G_aload (i := 0) (n := 6) (len := 1) (Or.inl ⟨0, rfl, rfl, d_To_readNumber_88⟩) rfl (by decide) (G_pc (pc' := 89) rfl ?_)
      refine G_get (o := 14) (c := 7) (k := 4) (v := M 14 4) d_To_readNumber_89 fl_To_22 rfl (by decide) (by decide) rfl rfl (G_pc (pc' := 92) rfl ?_)
      rw [show M 14 4 = ((27 + 9 * e : Nat) : Int) from hL.1]
      refine G_iload (i := 8) (n := 0) (len := 2) (Or.inr ⟨rfl, d_To_readNumber_92⟩) rfl (G_pc (pc' := 94) rfl ?_)
      refine G_caload (o := (27 + 9 * e)) (n := 40) (i := j) (v := M (27 + 9 * e) j) d_To_readNumber_94 (kd_S6 he) ⟨by omega, (by show 27 + 9 * e < 87; omega)⟩ (by omega) (rdw (gn_S6 he _) (by first | rfl | (repeat (first | rfl | exact mset_eq (by omega) | refine (mset_ne (by omega)).trans ?_ | refine (mset_ni (by omega)).trans ?_)))) (fun t1602 => G_pc (pc' := 95) rfl ?_)
      have t1602 := tok_c t1602
      have cx1603 := hL.2.2.2.1 j (by omega) (by omega)
      rw [show M (27 + 9 * e) j = f j from cx1603.1]
      refine G_bipush (n := 48) d_To_readNumber_95 (by decide) (G_pc (pc' := 97) rfl ?_)
      refine G_isub d_To_readNumber_97 (by omega) (G_pc (pc' := 98) rfl ?_)
      refine G_i2l d_To_readNumber_98 (G_pc (pc' := 99) rfl ?_)
      refine G_ladd d_To_readNumber_99 (G_pc (pc' := 100) rfl ?_)
      have hzr := nv_17 (f := f) (a := k) (b := (runE digB f (40 - k).toNat k)) rfl (n := (j - k).toNat) (by omega) (by omega)
      have hdg := dgB_at (f := f) (a := k) (b := (runE digB f (40 - k).toNat k)) (j := j) rfl (by omega) (by omega)
      rw [dig_e2 (v := z) (c := f j) (by omega) hdg]
      refine G_lstore (i := 6) (len := 2) (ls' := [(6, vl (10 * z + f j - 48)), (8, vi j), (5, vi 18), (4, vi ((runE digB f (40 - k).toNat k) + 1)), (3, vi 1), (2, vi (runE digB f (40 - k).toNat k)), (0, vr 14), (1, vi k)]) (Or.inr ⟨rfl, d_To_readNumber_100⟩) (by decide) rfl (G_pc (pc' := 102) rfl ?_)
      refine G_iinc (i := 8) (n := 1) (z := 1) (ls' := [(8, vi (j + 1)), (6, vl (10 * z + f j - 48)), (5, vi 18), (4, vi ((runE digB f (40 - k).toNat k) + 1)), (3, vi 1), (2, vi (runE digB f (40 - k).toNat k)), (0, vr 14), (1, vi k)]) d_To_readNumber_102 rfl (by decide) (by omega) rfl (G_pc (pc' := 105) rfl ?_)
      refine G_goto (tgt := 76) d_To_readNumber_105 (by decide) ?_
      exact ih (j + 1) _ (by omega) (by omega) (by rw [show (j + 1 - k).toNat = (j - k).toNat + 1 by omega]; show _ = 10 * nvE f k (j - k).toNat + f (k + ((j - k).toNat : Nat)) - 48; rw [show k + (((j - k).toNat : Nat) : Int) = j by omega, ← hze]) h76 hn9 hnl hb9 hs9
  have loop0 : ∀ (n : Nat) (j z : Int), j + n = (runE digB f (40 - k).toNat k) → k ≤ j → z = nvE f k (j - k).toNat → ¬ f (runE digB f (40 - k).toNat k) = 76 → (runE digB f (40 - k).toNat k) - k ≤ 10 → ¬ letB (f ((runE digB f (40 - k).toNat k))) = true → k ≤ (runE digB f (40 - k).toNat k) ∧ (runE digB f (40 - k).toNat k) ≤ len → (0 ≤ M 14 3 ∧ M 14 3 < 24) → G X gt d KE KE y_To_readNumber b_To_readNumber 9 (some .int) (tokQ M (numT f k)) 76 [(8, vi j), (6, vl z), (5, vi 10), (4, vi (runE digB f (40 - k).toNat k)), (3, vi 0), (2, vi (runE digB f (40 - k).toNat k)), (0, vr 14), (1, vi k)] [] KE M := by
    intro n
    induction n with
    | zero =>
      intro j z h1 h2 hze h76 hn9 hnl hb9 hs9
      refine G_iload (i := 8) (n := 0) (len := 2) (Or.inr ⟨rfl, d_To_readNumber_76⟩) rfl (G_pc (pc' := 78) rfl ?_)
      refine G_iload (i := 2) (n := 5) (len := 1) (Or.inl ⟨2, rfl, rfl, d_To_readNumber_78⟩) rfl (G_pc (pc' := 79) rfl ?_)
      refine G_icmp_ge (tgt := 108) d_To_readNumber_79 (by decide) (fun h1701 => ?_) (fun h1701 => absurd h1701 (by omega))
      have hjb : j = (runE digB f (40 - k).toNat k) := by omega
      have hzr := nv_rng (f := f) (a := k) (b := (runE digB f (40 - k).toNat k)) rfl (n := (j - k).toNat) (by omega) (by omega)
      rw [hjb] at hze
      rw [hjb] at hzr
      rw [← hze] at hzr
      have hs := hs9
      refine G_iload (i := 3) (n := 4) (len := 1) (Or.inl ⟨3, rfl, rfl, d_To_readNumber_108⟩) rfl (G_pc (pc' := 109) rfl ?_)
      refine G_if_ne (tgt := 123) d_To_readNumber_109 (by decide) (fun h1702 => absurd h1702 (by decide)) (fun h1702 => G_pc (pc' := 112) rfl ?_)
      refine G_lload (i := 6) (n := 1) (len := 2) (Or.inr ⟨rfl, d_To_readNumber_112⟩) rfl (G_pc (pc' := 114) rfl ?_)
      refine G_ldc2 (x := 2147483648) d_To_readNumber_114 k2_To_110 (by decide) (G_pc (pc' := 117) rfl ?_)
      refine G_lcmp_le (tgt := 123) d_To_readNumber_117 d_To_readNumber_118 (by decide) (fun h1703 => ?_) (fun h1703 => G_pc (pc' := 121) rfl ?_)
      · skip
        refine G_aload (i := 0) (n := 6) (len := 1) (Or.inl ⟨0, rfl, rfl, d_To_readNumber_123⟩) rfl (by decide) (G_pc (pc' := 124) rfl ?_)
        refine G_sipush (n := 137) d_To_readNumber_124 (by decide) (G_pc (pc' := 127) rfl ?_)
        refine G_iload (i := 3) (n := 4) (len := 1) (Or.inl ⟨3, rfl, rfl, d_To_readNumber_127⟩) rfl (G_pc (pc' := 128) rfl ?_)
        refine G_if_eq (tgt := 135) d_To_readNumber_128 (by decide) (fun h1704 => ?_) (fun h1704 => absurd h1704 (by decide))
        refine G_iconst (n := 0) d_To_readNumber_135 (by decide) (G_pc (pc' := 136) rfl ?_)
        refine G_lload (i := 6) (n := 1) (len := 2) (Or.inr ⟨rfl, d_To_readNumber_136⟩) rfl (G_pc (pc' := 138) rfl ?_)
        refine G_iload (i := 4) (n := 3) (len := 2) (Or.inr ⟨rfl, d_To_readNumber_138⟩) rfl (G_pc (pc' := 140) rfl ?_)
        refine G_callV (K1 := KE) (d2 := 0) (o := 14) (cl := 7) (as := [vi 137, vi 0, vl z, vi (runE digB f (40 - k).toNat k)]) (rest := []) d_To_readNumber_140 mf_To_add ml_To_64 rfl rfl (by decide) rfl rfl (Nat.le_of_ble_eq_true rfl) (by omega) ⟨Nat.le_refl _, Nat.le_refl _⟩ (g_To_add (by omega) 137 0 z (runE digB f (40 - k).toNat k) M hs) (fun r1705 M1706 kq1707 q1707 => ?_)
        clear kq1707; obtain ⟨q1707a, q1707b⟩ := q1707; subst r1705; subst M1706
        refine G_ps (pc' := 143) (st' := [vi (runE digB f (40 - k).toNat k)]) rfl rfl ?_
        refine G_iret d_To_readNumber_143 rfl (tokI (by omega)) rfl rfl ?_
        exact tokQ_s ((nm_b rfl (by omega) (by omega)).trans (n1_sg (by assumption) (by rintro (h9 | h9 | h9); exact hnl h9; omega; (rw [← hze] at h9; omega)))) rfl rfl (by rw [hze]; rfl)
      · skip
        refine G_iconst (n := (-1)) d_To_readNumber_121 (by decide) (G_pc (pc' := 122) rfl ?_)
        refine G_iret d_To_readNumber_122 rfl (tokI (by decide)) rfl rfl ?_
        exact tokQ_n ((nm_b rfl (by omega) (by omega)).trans (n1_s (by assumption) (Or.inr (Or.inr (by rw [← hze]; omega))))) (by show ¬ (1 : Int) = 0; decide) rfl rfl
    | succ n ih =>
      intro j z h1 h2 hze h76 hn9 hnl hb9 hs9
      refine G_iload (i := 8) (n := 0) (len := 2) (Or.inr ⟨rfl, d_To_readNumber_76⟩) rfl (G_pc (pc' := 78) rfl ?_)
      refine G_iload (i := 2) (n := 5) (len := 1) (Or.inl ⟨2, rfl, rfl, d_To_readNumber_78⟩) rfl (G_pc (pc' := 79) rfl ?_)
      refine G_icmp_ge (tgt := 108) d_To_readNumber_79 (by decide) (fun h1801 => absurd h1801 (by omega)) (fun h1801 => G_pc (pc' := 82) rfl ?_)
      refine G_lload (i := 6) (n := 1) (len := 2) (Or.inr ⟨rfl, d_To_readNumber_82⟩) rfl (G_pc (pc' := 84) rfl ?_)
      refine G_ldc2 (x := 10) d_To_readNumber_84 k2_To_108 (by decide) (G_pc (pc' := 87) rfl ?_)
      refine G_lmul d_To_readNumber_87 (G_pc (pc' := 88) rfl ?_)
      refine G_aload (i := 0) (n := 6) (len := 1) (Or.inl ⟨0, rfl, rfl, d_To_readNumber_88⟩) rfl (by decide) (G_pc (pc' := 89) rfl ?_)
      refine G_get (o := 14) (c := 7) (k := 4) (v := M 14 4) d_To_readNumber_89 fl_To_22 rfl (by decide) (by decide) rfl rfl (G_pc (pc' := 92) rfl ?_)
      rw [show M 14 4 = ((27 + 9 * e : Nat) : Int) from hL.1]
      refine G_iload (i := 8) (n := 0) (len := 2) (Or.inr ⟨rfl, d_To_readNumber_92⟩) rfl (G_pc (pc' := 94) rfl ?_)
      refine G_caload (o := (27 + 9 * e)) (n := 40) (i := j) (v := M (27 + 9 * e) j) d_To_readNumber_94 (kd_S6 he) ⟨by omega, (by show 27 + 9 * e < 87; omega)⟩ (by omega) (rdw (gn_S6 he _) (by first | rfl | (repeat (first | rfl | exact mset_eq (by omega) | refine (mset_ne (by omega)).trans ?_ | refine (mset_ni (by omega)).trans ?_)))) (fun t1802 => G_pc (pc' := 95) rfl ?_)
      have t1802 := tok_c t1802
      have cx1803 := hL.2.2.2.1 j (by omega) (by omega)
      rw [show M (27 + 9 * e) j = f j from cx1803.1]
      refine G_bipush (n := 48) d_To_readNumber_95 (by decide) (G_pc (pc' := 97) rfl ?_)
      refine G_isub d_To_readNumber_97 (by omega) (G_pc (pc' := 98) rfl ?_)
      refine G_i2l d_To_readNumber_98 (G_pc (pc' := 99) rfl ?_)
      refine G_ladd d_To_readNumber_99 (G_pc (pc' := 100) rfl ?_)
      have hzr := nv_17 (f := f) (a := k) (b := (runE digB f (40 - k).toNat k)) rfl (n := (j - k).toNat) (by omega) (by omega)
      have hdg := dgB_at (f := f) (a := k) (b := (runE digB f (40 - k).toNat k)) (j := j) rfl (by omega) (by omega)
      rw [dig_e2 (v := z) (c := f j) (by omega) hdg]
      refine G_lstore (i := 6) (len := 2) (ls' := [(6, vl (10 * z + f j - 48)), (8, vi j), (5, vi 10), (4, vi (runE digB f (40 - k).toNat k)), (3, vi 0), (2, vi (runE digB f (40 - k).toNat k)), (0, vr 14), (1, vi k)]) (Or.inr ⟨rfl, d_To_readNumber_100⟩) (by decide) rfl (G_pc (pc' := 102) rfl ?_)
      refine G_iinc (i := 8) (n := 1) (z := 1) (ls' := [(8, vi (j + 1)), (6, vl (10 * z + f j - 48)), (5, vi 10), (4, vi (runE digB f (40 - k).toNat k)), (3, vi 0), (2, vi (runE digB f (40 - k).toNat k)), (0, vr 14), (1, vi k)]) d_To_readNumber_102 rfl (by decide) (by omega) rfl (G_pc (pc' := 105) rfl ?_)
      refine G_goto (tgt := 76) d_To_readNumber_105 (by decide) ?_
      exact ih (j + 1) _ (by omega) (by omega) (by rw [show (j + 1 - k).toNat = (j - k).toNat + 1 by omega]; show _ = 10 * nvE f k (j - k).toNat + f (k + ((j - k).toNat : Nat)) - 48; rw [show k + (((j - k).toNat : Nat) : Int) = j by omega, ← hze]) h76 hn9 hnl hb9 hs9
  refine G_aload (i := 0) (n := 0) (len := 1) (Or.inl ⟨0, rfl, rfl, d_To_readNumber_0⟩) rfl (by decide) (G_pc (pc' := 1) rfl ?_)
  refine G_iload (i := 1) (n := 1) (len := 1) (Or.inl ⟨1, rfl, rfl, d_To_readNumber_1⟩) rfl (G_pc (pc' := 2) rfl ?_)
  refine G_callV (K1 := KE) (d2 := 1) (o := 14) (cl := 7) (as := [vi k]) (rest := []) d_To_readNumber_2 mf_To_behindDigits ml_To_104 rfl rfl (by decide) rfl rfl (Nat.le_of_ble_eq_true rfl) (by omega) ⟨Nat.le_refl _, Nat.le_refl _⟩ (g_To_behindDigits (by omega) e f len k M he hL (by omega)) (fun r1 M2 kq3 q3 => ?_)
  clear kq3; obtain ⟨q3a, q3b⟩ := q3; subst r1; subst M2
  refine G_ps (pc' := 5) (st' := [vi (runE digB f (40 - k).toNat k)]) rfl rfl ?_
  refine G_istore (i := 2) (len := 1) (ls' := [(2, vi (runE digB f (40 - k).toNat k)), (0, vr 14), (1, vi k)]) (Or.inl ⟨2, rfl, rfl, d_To_readNumber_5⟩) (by decide) rfl (G_pc (pc' := 6) rfl ?_)
  refine G_aload (i := 0) (n := 1) (len := 1) (Or.inl ⟨0, rfl, rfl, d_To_readNumber_6⟩) rfl (by decide) (G_pc (pc' := 7) rfl ?_)
  refine G_iload (i := 2) (n := 0) (len := 1) (Or.inl ⟨2, rfl, rfl, d_To_readNumber_7⟩) rfl (G_pc (pc' := 8) rfl ?_)
  refine G_callV (K1 := KE) (d2 := 0) (o := 14) (cl := 7) (as := [vi (runE digB f (40 - k).toNat k)]) (rest := []) d_To_readNumber_8 mf_To_charAt ml_To_107 rfl rfl (by decide) rfl rfl (Nat.le_of_ble_eq_true rfl) (by omega) ⟨Nat.le_refl _, Nat.le_refl _⟩ (g_To_charAt (by omega) e f len (runE digB f (40 - k).toNat k) M he hL (by omega)) (fun r4 M5 kq6 q6 => ?_)
  clear kq6; obtain ⟨q6a, q6b⟩ := q6; subst r4; subst M5
  refine G_ps (pc' := 11) (st' := [vi (f (runE digB f (40 - k).toNat k))]) rfl rfl ?_
  have cf7 := LT_f hL (k := (runE digB f (40 - k).toNat k)) (by omega)
  refine G_bipush (n := 76) d_To_readNumber_11 (by decide) (G_pc (pc' := 13) rfl ?_)
  refine G_icmp_ne (tgt := 20) d_To_readNumber_13 (by decide) (fun h8 => ?_) (fun h8 => G_pc (pc' := 16) rfl ?_)
  · skip
    refine G_iconst (n := 0) d_To_readNumber_20 (by decide) (G_pc (pc' := 21) rfl ?_)
    refine G_istore (i := 3) (len := 1) (ls' := [(3, vi 0), (2, vi (runE digB f (40 - k).toNat k)), (0, vr 14), (1, vi k)]) (Or.inl ⟨3, rfl, rfl, d_To_readNumber_21⟩) (by decide) rfl (G_pc (pc' := 22) rfl ?_)
    refine G_iload (i := 3) (n := 0) (len := 1) (Or.inl ⟨3, rfl, rfl, d_To_readNumber_22⟩) rfl (G_pc (pc' := 23) rfl ?_)
    refine G_if_eq (tgt := 32) d_To_readNumber_23 (by decide) (fun h9 => ?_) (fun h9 => absurd h9 (by decide))
    refine G_iload (i := 2) (n := 1) (len := 1) (Or.inl ⟨2, rfl, rfl, d_To_readNumber_32⟩) rfl (G_pc (pc' := 33) rfl ?_)
    refine G_istore (i := 4) (len := 2) (ls' := [(4, vi (runE digB f (40 - k).toNat k)), (3, vi 0), (2, vi (runE digB f (40 - k).toNat k)), (0, vr 14), (1, vi k)]) (Or.inr ⟨rfl, d_To_readNumber_33⟩) (by decide) rfl (G_pc (pc' := 35) rfl ?_)
    refine G_iload (i := 3) (n := 1) (len := 1) (Or.inl ⟨3, rfl, rfl, d_To_readNumber_35⟩) rfl (G_pc (pc' := 36) rfl ?_)
    refine G_if_eq (tgt := 44) d_To_readNumber_36 (by decide) (fun h10 => ?_) (fun h10 => absurd h10 (by decide))
    refine G_bipush (n := 10) d_To_readNumber_44 (by decide) (G_pc (pc' := 46) rfl ?_)
    refine G_istore (i := 5) (len := 2) (ls' := [(5, vi 10), (4, vi (runE digB f (40 - k).toNat k)), (3, vi 0), (2, vi (runE digB f (40 - k).toNat k)), (0, vr 14), (1, vi k)]) (Or.inr ⟨rfl, d_To_readNumber_46⟩) (by decide) rfl (G_pc (pc' := 48) rfl ?_)
    refine G_iload (i := 2) (n := 3) (len := 1) (Or.inl ⟨2, rfl, rfl, d_To_readNumber_48⟩) rfl (G_pc (pc' := 49) rfl ?_)
    refine G_iload (i := 1) (n := 5) (len := 1) (Or.inl ⟨1, rfl, rfl, d_To_readNumber_49⟩) rfl (G_pc (pc' := 50) rfl ?_)
    refine G_isub d_To_readNumber_50 (by omega) (G_pc (pc' := 51) rfl ?_)
    refine G_iload (i := 5) (n := 0) (len := 2) (Or.inr ⟨rfl, d_To_readNumber_51⟩) rfl (G_pc (pc' := 53) rfl ?_)
    refine G_icmp_gt (tgt := 68) d_To_readNumber_53 (by decide) (fun h11 => ?_) (fun h11 => G_pc (pc' := 56) rfl ?_)
    · skip
      refine G_iconst (n := (-1)) d_To_readNumber_68 (by decide) (G_pc (pc' := 69) rfl ?_)
      refine G_iret d_To_readNumber_69 rfl (tokI (by decide)) rfl rfl ?_
      exact tokQ_n ((nm_n rfl).trans (n1_s (by assumption) (by first | (right; left; omega) | (left; assumption)))) (by show ¬ (1 : Int) = 0; decide) rfl rfl
    · skip
      refine G_aload (i := 0) (n := 4) (len := 1) (Or.inl ⟨0, rfl, rfl, d_To_readNumber_56⟩) rfl (by decide) (G_pc (pc' := 57) rfl ?_)
      refine G_iload (i := 4) (n := 1) (len := 2) (Or.inr ⟨rfl, d_To_readNumber_57⟩) rfl (G_pc (pc' := 59) rfl ?_)
      refine G_callV (K1 := KE) (d2 := 0) (o := 14) (cl := 7) (as := [vi (runE digB f (40 - k).toNat k)]) (rest := []) d_To_readNumber_59 mf_To_charAt ml_To_107 rfl rfl (by decide) rfl rfl (Nat.le_of_ble_eq_true rfl) (by omega) ⟨Nat.le_refl _, Nat.le_refl _⟩ (g_To_charAt (by omega) e f len (runE digB f (40 - k).toNat k) M he hL (by omega)) (fun r12 M13 kq14 q14 => ?_)
      clear kq14; obtain ⟨q14a, q14b⟩ := q14; subst r12; subst M13
      refine G_ps (pc' := 62) (st' := [vi (f (runE digB f (40 - k).toNat k))]) rfl rfl ?_
      have cf15 := LT_f hL (k := (runE digB f (40 - k).toNat k)) (by omega)
      refine G_callS (K1 := KE) (d2 := 0) (as := [vi (f (runE digB f (40 - k).toNat k))]) (rest := []) d_To_readNumber_62 mf_To_isLetter ml_To_37 rfl rfl (Nat.le_of_ble_eq_true rfl) (by omega) ⟨Nat.le_refl _, Nat.le_refl _⟩ (g_To_isLetter (by omega) (f (runE digB f (40 - k).toNat k)) _) (fun r16 M17 kq18 q18 => ?_)
      clear kq18; obtain ⟨q18a, q18b⟩ := q18; subst r16; subst M17
      refine G_ps (pc' := 65) (st' := [vi (b2i (letB (f (runE digB f (40 - k).toNat k))))]) rfl rfl ?_
      refine G_if_eq (tgt := 70) d_To_readNumber_65 (by decide) (fun h19 => ?_) (fun h19 => G_pc (pc' := 68) rfl ?_)
      · skip
        replace h19 := b2i_0.mp h19
        have hnl9 : ¬ letB (f (runE digB f (40 - k).toNat k)) = true := by rw [h19]; decide
        refine G_lconst0 d_To_readNumber_70 (G_pc (pc' := 71) rfl ?_)
        refine G_lstore (i := 6) (len := 2) (ls' := [(6, vl 0), (5, vi 10), (4, vi (runE digB f (40 - k).toNat k)), (3, vi 0), (2, vi (runE digB f (40 - k).toNat k)), (0, vr 14), (1, vi k)]) (Or.inr ⟨rfl, d_To_readNumber_71⟩) (by decide) rfl (G_pc (pc' := 73) rfl ?_)
        refine G_iload (i := 1) (n := 6) (len := 1) (Or.inl ⟨1, rfl, rfl, d_To_readNumber_73⟩) rfl (G_pc (pc' := 74) rfl ?_)
        refine G_istore (i := 8) (len := 2) (ls' := [(8, vi k), (6, vl 0), (5, vi 10), (4, vi (runE digB f (40 - k).toNat k)), (3, vi 0), (2, vi (runE digB f (40 - k).toNat k)), (0, vr 14), (1, vi k)]) (Or.inr ⟨rfl, d_To_readNumber_74⟩) (by decide) rfl (G_pc (pc' := 76) rfl ?_)
        exact loop0 ((runE digB f (40 - k).toNat k) - k).toNat k 0 (by omega) (by omega) (by rw [show (k - k).toNat = 0 by omega]; rfl) (by assumption) (by omega) (by assumption) (by omega) hs
      · skip
        replace h19 := b2i_nz.mp h19
        refine G_iconst (n := (-1)) d_To_readNumber_68 (by decide) (G_pc (pc' := 69) rfl ?_)
        refine G_iret d_To_readNumber_69 rfl (tokI (by decide)) rfl rfl ?_
        exact tokQ_n ((nm_n rfl).trans (n1_s (by assumption) (by first | (right; left; omega) | (left; assumption)))) (by show ¬ (1 : Int) = 0; decide) rfl rfl
  · skip
    refine G_iconst (n := 1) d_To_readNumber_16 (by decide) (G_pc (pc' := 17) rfl ?_)
    refine G_goto (tgt := 21) d_To_readNumber_17 (by decide) ?_
    refine G_istore (i := 3) (len := 1) (ls' := [(3, vi 1), (2, vi (runE digB f (40 - k).toNat k)), (0, vr 14), (1, vi k)]) (Or.inl ⟨3, rfl, rfl, d_To_readNumber_21⟩) (by decide) rfl (G_pc (pc' := 22) rfl ?_)
    refine G_iload (i := 3) (n := 0) (len := 1) (Or.inl ⟨3, rfl, rfl, d_To_readNumber_22⟩) rfl (G_pc (pc' := 23) rfl ?_)
    refine G_if_eq (tgt := 32) d_To_readNumber_23 (by decide) (fun h20 => absurd h20 (by decide)) (fun h20 => G_pc (pc' := 26) rfl ?_)
    refine G_iload (i := 2) (n := 1) (len := 1) (Or.inl ⟨2, rfl, rfl, d_To_readNumber_26⟩) rfl (G_pc (pc' := 27) rfl ?_)
    refine G_iconst (n := 1) d_To_readNumber_27 (by decide) (G_pc (pc' := 28) rfl ?_)
    refine G_iadd d_To_readNumber_28 (by omega) (G_pc (pc' := 29) rfl ?_)
    refine G_goto (tgt := 33) d_To_readNumber_29 (by decide) ?_
    refine G_istore (i := 4) (len := 2) (ls' := [(4, vi ((runE digB f (40 - k).toNat k) + 1)), (3, vi 1), (2, vi (runE digB f (40 - k).toNat k)), (0, vr 14), (1, vi k)]) (Or.inr ⟨rfl, d_To_readNumber_33⟩) (by decide) rfl (G_pc (pc' := 35) rfl ?_)
    refine G_iload (i := 3) (n := 1) (len := 1) (Or.inl ⟨3, rfl, rfl, d_To_readNumber_35⟩) rfl (G_pc (pc' := 36) rfl ?_)
    refine G_if_eq (tgt := 44) d_To_readNumber_36 (by decide) (fun h21 => absurd h21 (by decide)) (fun h21 => G_pc (pc' := 39) rfl ?_)
    refine G_bipush (n := 18) d_To_readNumber_39 (by decide) (G_pc (pc' := 41) rfl ?_)
    refine G_goto (tgt := 46) d_To_readNumber_41 (by decide) ?_
    refine G_istore (i := 5) (len := 2) (ls' := [(5, vi 18), (4, vi ((runE digB f (40 - k).toNat k) + 1)), (3, vi 1), (2, vi (runE digB f (40 - k).toNat k)), (0, vr 14), (1, vi k)]) (Or.inr ⟨rfl, d_To_readNumber_46⟩) (by decide) rfl (G_pc (pc' := 48) rfl ?_)
    refine G_iload (i := 2) (n := 3) (len := 1) (Or.inl ⟨2, rfl, rfl, d_To_readNumber_48⟩) rfl (G_pc (pc' := 49) rfl ?_)
    refine G_iload (i := 1) (n := 5) (len := 1) (Or.inl ⟨1, rfl, rfl, d_To_readNumber_49⟩) rfl (G_pc (pc' := 50) rfl ?_)
    refine G_isub d_To_readNumber_50 (by omega) (G_pc (pc' := 51) rfl ?_)
    refine G_iload (i := 5) (n := 0) (len := 2) (Or.inr ⟨rfl, d_To_readNumber_51⟩) rfl (G_pc (pc' := 53) rfl ?_)
    refine G_icmp_gt (tgt := 68) d_To_readNumber_53 (by decide) (fun h22 => ?_) (fun h22 => G_pc (pc' := 56) rfl ?_)
    · skip
      refine G_iconst (n := (-1)) d_To_readNumber_68 (by decide) (G_pc (pc' := 69) rfl ?_)
      refine G_iret d_To_readNumber_69 rfl (tokI (by decide)) rfl rfl ?_
      exact tokQ_n ((nm_n rfl).trans (n1_w (by assumption) (by first | (right; omega) | (left; assumption)))) (by show ¬ (1 : Int) = 0; decide) rfl rfl
    · skip
      refine G_aload (i := 0) (n := 4) (len := 1) (Or.inl ⟨0, rfl, rfl, d_To_readNumber_56⟩) rfl (by decide) (G_pc (pc' := 57) rfl ?_)
      refine G_iload (i := 4) (n := 1) (len := 2) (Or.inr ⟨rfl, d_To_readNumber_57⟩) rfl (G_pc (pc' := 59) rfl ?_)
      refine G_callV (K1 := KE) (d2 := 0) (o := 14) (cl := 7) (as := [vi ((runE digB f (40 - k).toNat k) + 1)]) (rest := []) d_To_readNumber_59 mf_To_charAt ml_To_107 rfl rfl (by decide) rfl rfl (Nat.le_of_ble_eq_true rfl) (by omega) ⟨Nat.le_refl _, Nat.le_refl _⟩ (g_To_charAt (by omega) e f len ((runE digB f (40 - k).toNat k) + 1) M he hL (by omega)) (fun r23 M24 kq25 q25 => ?_)
      clear kq25; obtain ⟨q25a, q25b⟩ := q25; subst r23; subst M24
      refine G_ps (pc' := 62) (st' := [vi (f ((runE digB f (40 - k).toNat k) + 1))]) rfl rfl ?_
      have cf26 := LT_f hL (k := ((runE digB f (40 - k).toNat k) + 1)) (by omega)
      refine G_callS (K1 := KE) (d2 := 0) (as := [vi (f ((runE digB f (40 - k).toNat k) + 1))]) (rest := []) d_To_readNumber_62 mf_To_isLetter ml_To_37 rfl rfl (Nat.le_of_ble_eq_true rfl) (by omega) ⟨Nat.le_refl _, Nat.le_refl _⟩ (g_To_isLetter (by omega) (f ((runE digB f (40 - k).toNat k) + 1)) _) (fun r27 M28 kq29 q29 => ?_)
      clear kq29; obtain ⟨q29a, q29b⟩ := q29; subst r27; subst M28
      refine G_ps (pc' := 65) (st' := [vi (b2i (letB (f ((runE digB f (40 - k).toNat k) + 1))))]) rfl rfl ?_
      refine G_if_eq (tgt := 70) d_To_readNumber_65 (by decide) (fun h30 => ?_) (fun h30 => G_pc (pc' := 68) rfl ?_)
      · skip
        replace h30 := b2i_0.mp h30
        have hnl9 : ¬ letB (f ((runE digB f (40 - k).toNat k) + 1)) = true := by rw [h30]; decide
        refine G_lconst0 d_To_readNumber_70 (G_pc (pc' := 71) rfl ?_)
        refine G_lstore (i := 6) (len := 2) (ls' := [(6, vl 0), (5, vi 18), (4, vi ((runE digB f (40 - k).toNat k) + 1)), (3, vi 1), (2, vi (runE digB f (40 - k).toNat k)), (0, vr 14), (1, vi k)]) (Or.inr ⟨rfl, d_To_readNumber_71⟩) (by decide) rfl (G_pc (pc' := 73) rfl ?_)
        refine G_iload (i := 1) (n := 6) (len := 1) (Or.inl ⟨1, rfl, rfl, d_To_readNumber_73⟩) rfl (G_pc (pc' := 74) rfl ?_)
        refine G_istore (i := 8) (len := 2) (ls' := [(8, vi k), (6, vl 0), (5, vi 18), (4, vi ((runE digB f (40 - k).toNat k) + 1)), (3, vi 1), (2, vi (runE digB f (40 - k).toNat k)), (0, vr 14), (1, vi k)]) (Or.inr ⟨rfl, d_To_readNumber_74⟩) (by decide) rfl (G_pc (pc' := 76) rfl ?_)
        exact loop1 ((runE digB f (40 - k).toNat k) - k).toNat k 0 (by omega) (by omega) (by rw [show (k - k).toNat = 0 by omega]; rfl) (by assumption) (by omega) (by assumption) (by omega) hs
      · skip
        replace h30 := b2i_nz.mp h30
        refine G_iconst (n := (-1)) d_To_readNumber_68 (by decide) (G_pc (pc' := 69) rfl ?_)
        refine G_iret d_To_readNumber_69 rfl (tokI (by decide)) rfl rfl ?_
        exact tokQ_n ((nm_n rfl).trans (n1_w (by assumption) (by first | (right; omega) | (left; assumption)))) (by show ¬ (1 : Int) = 0; decide) rfl rfl

theorem tok1_l {f : Int → Int} {k : Int} (h : letB (f k) = true) : tok1 f k = wordT f k := if_pos h
theorem tok1_d {f : Int → Int} {k : Int} (h : ¬ letB (f k) = true) (h2 : digB (f k) = true) : tok1 f k = numT f k := by unfold tok1; rw [if_neg h, if_pos h2]
theorem tok1_c {f : Int → Int} {k : Int} (h : ¬ letB (f k) = true) (h2 : ¬ digB (f k) = true) (h3 : f k = 39) : tok1 f k = chrT f k := by unfold tok1; rw [if_neg h, if_neg h2, if_pos h3]
theorem tok1_s {f : Int → Int} {k : Int} (h : ¬ letB (f k) = true) (h2 : ¬ digB (f k) = true) (h3 : ¬ f k = 39) : tok1 f k = signT f k := by unfold tok1; rw [if_neg h, if_neg h2, if_neg h3]
theorem tok1_end {f : Int → Int} {k : Int} (hk : k < 40) (hk0 : 0 ≤ k) : k + 1 ≤ (tok1 f k).1 ∧ (tok1 f k).1 ≤ 43 := by
  unfold tok1
  split
  · have := wordT_end (f := f) (by assumption) hk hk0; omega
  split
  · have := numT_end (f := f) (by assumption) hk hk0; omega
  split
  · show k + 1 ≤ k + 3 ∧ k + 3 ≤ 43; omega
  · have := sgN_rng (f k) (f (k + 1)) (f (k + 2))
    show k + 1 ≤ k + sgN (f k) (f (k + 1)) (f (k + 2)) ∧ k + sgN (f k) (f (k + 1)) (f (k + 2)) ≤ 43; omega
def tokZ' (f : Int → Int) (k : Int) (M : Mem) (r : Option PV) (M' : Mem) : Prop := (M 14 3 = 24 → r = some (vi (-1)) ∧ M' = M) ∧ (¬ M 14 3 = 24 → tokQ M (tok1 f k) r M')
theorem d_To_readToken_0 : decode b_To_readToken 0 = .ok (.aload_n 0, 1) := by decide +kernel
theorem d_To_readToken_1 : decode b_To_readToken 1 = .ok (.getfield 30, 3) := by decide +kernel
theorem d_To_readToken_4 : decode b_To_readToken 4 = .ok (.bipush 24, 2) := by decide +kernel
theorem d_To_readToken_6 : decode b_To_readToken 6 = .ok (.if_icmp .ne 5, 3) := by decide +kernel
theorem d_To_readToken_9 : decode b_To_readToken 9 = .ok (.iconst (-1), 1) := by decide +kernel
theorem d_To_readToken_10 : decode b_To_readToken 10 = .ok (.ireturn, 1) := by decide +kernel
theorem d_To_readToken_11 : decode b_To_readToken 11 = .ok (.aload_n 0, 1) := by decide +kernel
theorem d_To_readToken_12 : decode b_To_readToken 12 = .ok (.getfield 22, 3) := by decide +kernel
theorem d_To_readToken_15 : decode b_To_readToken 15 = .ok (.iload_n 1, 1) := by decide +kernel
theorem d_To_readToken_16 : decode b_To_readToken 16 = .ok (.caload, 1) := by decide +kernel
theorem d_To_readToken_17 : decode b_To_readToken 17 = .ok (.istore_n 2, 1) := by decide +kernel
theorem d_To_readToken_18 : decode b_To_readToken 18 = .ok (.iload_n 2, 1) := by decide +kernel
theorem d_To_readToken_19 : decode b_To_readToken 19 = .ok (.invokestatic 37, 3) := by decide +kernel
theorem d_To_readToken_22 : decode b_To_readToken 22 = .ok (.ifCond .eq 32, 3) := by decide +kernel
theorem d_To_readToken_25 : decode b_To_readToken 25 = .ok (.aload_n 0, 1) := by decide +kernel
theorem d_To_readToken_26 : decode b_To_readToken 26 = .ok (.iload_n 1, 1) := by decide +kernel
theorem d_To_readToken_27 : decode b_To_readToken 27 = .ok (.invokevirtual 41, 3) := by decide +kernel
theorem d_To_readToken_30 : decode b_To_readToken 30 = .ok (.istore_n 3, 1) := by decide +kernel
theorem d_To_readToken_31 : decode b_To_readToken 31 = .ok (.iload_n 3, 1) := by decide +kernel
theorem d_To_readToken_32 : decode b_To_readToken 32 = .ok (.iload_n 1, 1) := by decide +kernel
theorem d_To_readToken_33 : decode b_To_readToken 33 = .ok (.isub, 1) := by decide +kernel
theorem d_To_readToken_34 : decode b_To_readToken 34 = .ok (.iconst 1, 1) := by decide +kernel
theorem d_To_readToken_35 : decode b_To_readToken 35 = .ok (.if_icmp .ne 12, 3) := by decide +kernel
theorem d_To_readToken_38 : decode b_To_readToken 38 = .ok (.aload_n 0, 1) := by decide +kernel
theorem d_To_readToken_39 : decode b_To_readToken 39 = .ok (.iload_n 2, 1) := by decide +kernel
theorem d_To_readToken_40 : decode b_To_readToken 40 = .ok (.iload_n 3, 1) := by decide +kernel
theorem d_To_readToken_41 : decode b_To_readToken 41 = .ok (.invokevirtual 44, 3) := by decide +kernel
theorem d_To_readToken_44 : decode b_To_readToken 44 = .ok (.goto 9, 3) := by decide +kernel
theorem d_To_readToken_47 : decode b_To_readToken 47 = .ok (.aload_n 0, 1) := by decide +kernel
theorem d_To_readToken_48 : decode b_To_readToken 48 = .ok (.iload_n 1, 1) := by decide +kernel
theorem d_To_readToken_49 : decode b_To_readToken 49 = .ok (.iload_n 3, 1) := by decide +kernel
theorem d_To_readToken_50 : decode b_To_readToken 50 = .ok (.invokevirtual 48, 3) := by decide +kernel
theorem d_To_readToken_53 : decode b_To_readToken 53 = .ok (.ireturn, 1) := by decide +kernel
theorem d_To_readToken_54 : decode b_To_readToken 54 = .ok (.iload_n 2, 1) := by decide +kernel
theorem d_To_readToken_55 : decode b_To_readToken 55 = .ok (.invokestatic 52, 3) := by decide +kernel
theorem d_To_readToken_58 : decode b_To_readToken 58 = .ok (.ifCond .eq 9, 3) := by decide +kernel
theorem d_To_readToken_61 : decode b_To_readToken 61 = .ok (.aload_n 0, 1) := by decide +kernel
theorem d_To_readToken_62 : decode b_To_readToken 62 = .ok (.iload_n 1, 1) := by decide +kernel
theorem d_To_readToken_63 : decode b_To_readToken 63 = .ok (.invokevirtual 55, 3) := by decide +kernel
theorem d_To_readToken_66 : decode b_To_readToken 66 = .ok (.ireturn, 1) := by decide +kernel
theorem d_To_readToken_67 : decode b_To_readToken 67 = .ok (.iload_n 2, 1) := by decide +kernel
theorem d_To_readToken_68 : decode b_To_readToken 68 = .ok (.bipush 39, 2) := by decide +kernel
theorem d_To_readToken_70 : decode b_To_readToken 70 = .ok (.if_icmp .ne 11, 3) := by decide +kernel
theorem d_To_readToken_73 : decode b_To_readToken 73 = .ok (.aload_n 0, 1) := by decide +kernel
theorem d_To_readToken_74 : decode b_To_readToken 74 = .ok (.iload_n 1, 1) := by decide +kernel
theorem d_To_readToken_75 : decode b_To_readToken 75 = .ok (.invokevirtual 58, 3) := by decide +kernel
theorem d_To_readToken_78 : decode b_To_readToken 78 = .ok (.goto 8, 3) := by decide +kernel
theorem d_To_readToken_81 : decode b_To_readToken 81 = .ok (.aload_n 0, 1) := by decide +kernel
theorem d_To_readToken_82 : decode b_To_readToken 82 = .ok (.iload_n 1, 1) := by decide +kernel
theorem d_To_readToken_83 : decode b_To_readToken 83 = .ok (.invokevirtual 61, 3) := by decide +kernel
theorem d_To_readToken_86 : decode b_To_readToken 86 = .ok (.ireturn, 1) := by decide +kernel
set_option maxHeartbeats 1000000 in
theorem g_To_readToken {X : WX} {d : Nat} (hd : 6 ≤ d) (e : Nat) (f : Int → Int) (len : Int) (k : Int) (M : Mem) (he : e < 4) (hL : LT e f len M) (hk : 0 ≤ k ∧ k < len) (hs24 : 0 ≤ M 14 3 ∧ M 14 3 ≤ 24) : MG X gt d KE KE y_To_readToken b_To_readToken 4 (some .int) [vr 14, vi k] M (tokZ' f k M) := by
  refine MG_of_G (by decide) (Nat.le_of_ble_eq_true rfl) (Nat.le_refl _) (by decide) ?_
  show G X gt d KE KE y_To_readToken b_To_readToken 4 (some .int) _ 0 [(0, vr 14), (1, vi k)] [] KE M
  have hlen := hL.2.2.1
  have hre := @runE_le letB f (40 - k).toNat k
  have hrl := run_len (p := letB) (f := f) (len := len) (fun j hj => by rw [hL.2.2.2.2 j hj]; decide) (n := (40 - k).toNat) (k := k) (by omega)
  refine G_rngl (i := 1) rfl (fun hr1 => ?_)
  refine G_aload (i := 0) (n := 0) (len := 1) (Or.inl ⟨0, rfl, rfl, d_To_readToken_0⟩) rfl (by decide) (G_pc (pc' := 1) rfl ?_)
  refine G_get (o := 14) (c := 7) (k := 3) (v := M 14 3) d_To_readToken_1 fl_To_30 rfl (by decide) (by decide) rfl rfl (G_pc (pc' := 4) rfl ?_)
  refine G_bipush (n := 24) d_To_readToken_4 (by decide) (G_pc (pc' := 6) rfl ?_)
  refine G_icmp_ne (tgt := 11) d_To_readToken_6 (by decide) (fun h1 => ?_) (fun h1 => G_pc (pc' := 9) rfl ?_)
  · skip
    have hs : 0 ≤ M 14 3 ∧ M 14 3 < 24 := by omega
    refine G_aload (i := 0) (n := 0) (len := 1) (Or.inl ⟨0, rfl, rfl, d_To_readToken_11⟩) rfl (by decide) (G_pc (pc' := 12) rfl ?_)
    refine G_get (o := 14) (c := 7) (k := 4) (v := M 14 4) d_To_readToken_12 fl_To_22 rfl (by decide) (by decide) rfl rfl (G_pc (pc' := 15) rfl ?_)
    rw [show M 14 4 = ((27 + 9 * e : Nat) : Int) from hL.1]
    refine G_iload (i := 1) (n := 1) (len := 1) (Or.inl ⟨1, rfl, rfl, d_To_readToken_15⟩) rfl (G_pc (pc' := 16) rfl ?_)
    refine G_caload (o := (27 + 9 * e)) (n := 40) (i := k) (v := M (27 + 9 * e) k) d_To_readToken_16 (kd_S6 he) ⟨by omega, (by show 27 + 9 * e < 87; omega)⟩ (by omega) (rdw (gn_S6 he _) (by first | rfl | (repeat (first | rfl | exact mset_eq (by omega) | refine (mset_ne (by omega)).trans ?_ | refine (mset_ni (by omega)).trans ?_)))) (fun t2 => G_pc (pc' := 17) rfl ?_)
    have t2 := tok_c t2
    have cx3 := hL.2.2.2.1 k (by omega) (by omega)
    rw [show M (27 + 9 * e) k = f k from cx3.1]
    refine G_istore (i := 2) (len := 1) (ls' := [(2, vi (f k)), (0, vr 14), (1, vi k)]) (Or.inl ⟨2, rfl, rfl, d_To_readToken_17⟩) (by decide) rfl (G_pc (pc' := 18) rfl ?_)
    refine G_iload (i := 2) (n := 0) (len := 1) (Or.inl ⟨2, rfl, rfl, d_To_readToken_18⟩) rfl (G_pc (pc' := 19) rfl ?_)
    refine G_callS (K1 := KE) (d2 := 0) (as := [vi (f k)]) (rest := []) d_To_readToken_19 mf_To_isLetter ml_To_37 rfl rfl (Nat.le_of_ble_eq_true rfl) (by omega) ⟨Nat.le_refl _, Nat.le_refl _⟩ (g_To_isLetter (by omega) (f k) _) (fun r4 M5 kq6 q6 => ?_)
    clear kq6; obtain ⟨q6a, q6b⟩ := q6; subst r4; subst M5
    refine G_ps (pc' := 22) (st' := [vi (b2i (letB (f k)))]) rfl rfl ?_
    refine G_if_eq (tgt := 54) d_To_readToken_22 (by decide) (fun h7 => ?_) (fun h7 => G_pc (pc' := 25) rfl ?_)
    · skip
      replace h7 := b2i_0.mp h7
      have hnl9 : ¬ letB (f k) = true := by rw [h7]; decide
      refine G_iload (i := 2) (n := 0) (len := 1) (Or.inl ⟨2, rfl, rfl, d_To_readToken_54⟩) rfl (G_pc (pc' := 55) rfl ?_)
      refine G_callS (K1 := KE) (d2 := 0) (as := [vi (f k)]) (rest := []) d_To_readToken_55 mf_To_isDigit ml_To_52 rfl rfl (Nat.le_of_ble_eq_true rfl) (by omega) ⟨Nat.le_refl _, Nat.le_refl _⟩ (g_To_isDigit (by omega) (f k) _) (fun r8 M9 kq10 q10 => ?_)
      clear kq10; obtain ⟨q10a, q10b⟩ := q10; subst r8; subst M9
      refine G_ps (pc' := 58) (st' := [vi (b2i (digB (f k)))]) rfl rfl ?_
      refine G_if_eq (tgt := 67) d_To_readToken_58 (by decide) (fun h11 => ?_) (fun h11 => G_pc (pc' := 61) rfl ?_)
      · skip
        replace h11 := b2i_0.mp h11
        have hnd9 : ¬ digB (f k) = true := by rw [h11]; decide
        refine G_iload (i := 2) (n := 0) (len := 1) (Or.inl ⟨2, rfl, rfl, d_To_readToken_67⟩) rfl (G_pc (pc' := 68) rfl ?_)
        refine G_bipush (n := 39) d_To_readToken_68 (by decide) (G_pc (pc' := 70) rfl ?_)
        refine G_icmp_ne (tgt := 81) d_To_readToken_70 (by decide) (fun h12 => ?_) (fun h12 => G_pc (pc' := 73) rfl ?_)
        · skip
          refine G_aload (i := 0) (n := 1) (len := 1) (Or.inl ⟨0, rfl, rfl, d_To_readToken_81⟩) rfl (by decide) (G_pc (pc' := 82) rfl ?_)
          refine G_iload (i := 1) (n := 2) (len := 1) (Or.inl ⟨1, rfl, rfl, d_To_readToken_82⟩) rfl (G_pc (pc' := 83) rfl ?_)
          refine G_callV (K1 := KE) (d2 := 5) (o := 14) (cl := 7) (as := [vi k]) (rest := []) d_To_readToken_83 mf_To_readSign ml_To_61 rfl rfl (by decide) rfl rfl (Nat.le_of_ble_eq_true rfl) (by omega) ⟨Nat.le_refl _, Nat.le_refl _⟩ (g_To_readSign (by omega) e f len k M he hL hs (by omega)) (fun r13 M14 kq15 q15 => ?_)
          clear kq15
          rcases q15 with ⟨q15w, rfl, rfl⟩ | ⟨q15w, rfl, rfl⟩
          · skip
            refine G_ps (pc' := 86) (st' := [vi (-1)]) rfl rfl ?_
            refine G_iret d_To_readToken_86 rfl (tokI (by decide)) rfl rfl ?_
            exact ⟨fun h => absurd h (by omega), fun _ => tokQ_n (tok1_s hnl9 hnd9 (by assumption)) q15w rfl rfl⟩
          · skip
            refine G_ps (pc' := 86) (st' := [vi ((signT f k).1)]) rfl rfl ?_
            have hte : tok1 f k = signT f k := tok1_s hnl9 hnd9 (by assumption)
            refine G_iret d_To_readToken_86 rfl (tokI (by have h9 := tok1_end (f := f) (k := k) (by omega) (by omega); rw [hte] at h9; omega)) rfl rfl ?_
            exact ⟨fun h => absurd h (by omega), fun _ => tokQ_s (tok1_s hnl9 hnd9 (by assumption)) q15w rfl rfl⟩
        · skip
          refine G_aload (i := 0) (n := 1) (len := 1) (Or.inl ⟨0, rfl, rfl, d_To_readToken_73⟩) rfl (by decide) (G_pc (pc' := 74) rfl ?_)
          refine G_iload (i := 1) (n := 2) (len := 1) (Or.inl ⟨1, rfl, rfl, d_To_readToken_74⟩) rfl (G_pc (pc' := 75) rfl ?_)
          refine G_callV (K1 := KE) (d2 := 1) (o := 14) (cl := 7) (as := [vi k]) (rest := []) d_To_readToken_75 mf_To_readCharacter ml_To_58 rfl rfl (by decide) rfl rfl (Nat.le_of_ble_eq_true rfl) (by omega) ⟨Nat.le_refl _, Nat.le_refl _⟩ (g_To_readCharacter (by omega) e f len k M he hL hs (by omega)) (fun r16 M17 kq18 q18 => ?_)
          clear kq18
          rcases q18 with ⟨q18w, rfl, rfl⟩ | ⟨q18w, rfl, rfl⟩
          · skip
            refine G_ps (pc' := 78) (st' := [vi (-1)]) rfl rfl ?_
            refine G_goto (tgt := 86) d_To_readToken_78 (by decide) ?_
            refine G_iret d_To_readToken_86 rfl (tokI (by decide)) rfl rfl ?_
            exact ⟨fun h => absurd h (by omega), fun _ => tokQ_n (tok1_c hnl9 hnd9 (by assumption)) q18w rfl rfl⟩
          · skip
            refine G_ps (pc' := 78) (st' := [vi ((chrT f k).1)]) rfl rfl ?_
            refine G_goto (tgt := 86) d_To_readToken_78 (by decide) ?_
            have hte : tok1 f k = chrT f k := tok1_c hnl9 hnd9 (by assumption)
            refine G_iret d_To_readToken_86 rfl (tokI (by have h9 := tok1_end (f := f) (k := k) (by omega) (by omega); rw [hte] at h9; omega)) rfl rfl ?_
            exact ⟨fun h => absurd h (by omega), fun _ => tokQ_s (tok1_c hnl9 hnd9 (by assumption)) q18w rfl rfl⟩
      · skip
        replace h11 := b2i_nz.mp h11
        refine G_aload (i := 0) (n := 1) (len := 1) (Or.inl ⟨0, rfl, rfl, d_To_readToken_61⟩) rfl (by decide) (G_pc (pc' := 62) rfl ?_)
        refine G_iload (i := 1) (n := 2) (len := 1) (Or.inl ⟨1, rfl, rfl, d_To_readToken_62⟩) rfl (G_pc (pc' := 63) rfl ?_)
        refine G_callV (K1 := KE) (d2 := 2) (o := 14) (cl := 7) (as := [vi k]) (rest := []) d_To_readToken_63 mf_To_readNumber ml_To_55 rfl rfl (by decide) rfl rfl (Nat.le_of_ble_eq_true rfl) (by omega) ⟨Nat.le_refl _, Nat.le_refl _⟩ (g_To_readNumber (by omega) e f len k M he hL hs (by omega)) (fun r19 M20 kq21 q21 => ?_)
        clear kq21
        rcases q21 with ⟨q21w, rfl, rfl⟩ | ⟨q21w, rfl, rfl⟩
        · skip
          refine G_ps (pc' := 66) (st' := [vi (-1)]) rfl rfl ?_
          refine G_iret d_To_readToken_66 rfl (tokI (by decide)) rfl rfl ?_
          exact ⟨fun h => absurd h (by omega), fun _ => tokQ_n (tok1_d hnl9 (by assumption)) q21w rfl rfl⟩
        · skip
          refine G_ps (pc' := 66) (st' := [vi ((numT f k).1)]) rfl rfl ?_
          have hte : tok1 f k = numT f k := tok1_d hnl9 (by assumption)
          refine G_iret d_To_readToken_66 rfl (tokI (by have h9 := tok1_end (f := f) (k := k) (by omega) (by omega); rw [hte] at h9; omega)) rfl rfl ?_
          exact ⟨fun h => absurd h (by omega), fun _ => tokQ_s (tok1_d hnl9 (by assumption)) q21w rfl rfl⟩
    · skip
      replace h7 := b2i_nz.mp h7
      refine G_aload (i := 0) (n := 1) (len := 1) (Or.inl ⟨0, rfl, rfl, d_To_readToken_25⟩) rfl (by decide) (G_pc (pc' := 26) rfl ?_)
      refine G_iload (i := 1) (n := 2) (len := 1) (Or.inl ⟨1, rfl, rfl, d_To_readToken_26⟩) rfl (G_pc (pc' := 27) rfl ?_)
      refine G_callV (K1 := KE) (d2 := 1) (o := 14) (cl := 7) (as := [vi k]) (rest := []) d_To_readToken_27 mf_To_behindLetters ml_To_41 rfl rfl (by decide) rfl rfl (Nat.le_of_ble_eq_true rfl) (by omega) ⟨Nat.le_refl _, Nat.le_refl _⟩ (g_To_behindLetters (by omega) e f len k M he hL (by omega)) (fun r22 M23 kq24 q24 => ?_)
      clear kq24; obtain ⟨q24a, q24b⟩ := q24; subst r22; subst M23
      refine G_ps (pc' := 30) (st' := [vi (runE letB f (40 - k).toNat k)]) rfl rfl ?_
      refine G_istore (i := 3) (len := 1) (ls' := [(3, vi (runE letB f (40 - k).toNat k)), (2, vi (f k)), (0, vr 14), (1, vi k)]) (Or.inl ⟨3, rfl, rfl, d_To_readToken_30⟩) (by decide) rfl (G_pc (pc' := 31) rfl ?_)
      refine G_iload (i := 3) (n := 0) (len := 1) (Or.inl ⟨3, rfl, rfl, d_To_readToken_31⟩) rfl (G_pc (pc' := 32) rfl ?_)
      refine G_iload (i := 1) (n := 3) (len := 1) (Or.inl ⟨1, rfl, rfl, d_To_readToken_32⟩) rfl (G_pc (pc' := 33) rfl ?_)
      refine G_isub d_To_readToken_33 (by omega) (G_pc (pc' := 34) rfl ?_)
      refine G_iconst (n := 1) d_To_readToken_34 (by decide) (G_pc (pc' := 35) rfl ?_)
      refine G_icmp_ne (tgt := 47) d_To_readToken_35 (by decide) (fun h25 => ?_) (fun h25 => G_pc (pc' := 38) rfl ?_)
      · skip
        refine G_aload (i := 0) (n := 2) (len := 1) (Or.inl ⟨0, rfl, rfl, d_To_readToken_47⟩) rfl (by decide) (G_pc (pc' := 48) rfl ?_)
        refine G_iload (i := 1) (n := 3) (len := 1) (Or.inl ⟨1, rfl, rfl, d_To_readToken_48⟩) rfl (G_pc (pc' := 49) rfl ?_)
        refine G_iload (i := 3) (n := 0) (len := 1) (Or.inl ⟨3, rfl, rfl, d_To_readToken_49⟩) rfl (G_pc (pc' := 50) rfl ?_)
        refine G_callV (K1 := KE) (d2 := 5) (o := 14) (cl := 7) (as := [vi k, vi (runE letB f (40 - k).toNat k)]) (rest := []) d_To_readToken_50 mf_To_addWord ml_To_48 rfl rfl (by decide) rfl rfl (Nat.le_of_ble_eq_true rfl) (by omega) ⟨Nat.le_refl _, Nat.le_refl _⟩ (g_To_addWord (by omega) e f len k (runE letB f (40 - k).toNat k) M he hL hs (by omega) rfl (by omega)) (fun r26 M27 kq28 q28 => ?_)
        clear kq28
        rcases q28 with ⟨q28w, rfl, rfl⟩ | ⟨q28w, rfl, rfl⟩
        · skip
          refine G_ps (pc' := 53) (st' := [vi (-1)]) rfl rfl ?_
          refine G_iret d_To_readToken_53 rfl (tokI (by decide)) rfl rfl ?_
          exact ⟨fun h => absurd h (by omega), fun _ => tokQ_n (tok1_l (by assumption)) q28w rfl rfl⟩
        · skip
          refine G_ps (pc' := 53) (st' := [vi ((wordT f k).1)]) rfl rfl ?_
          have hte : tok1 f k = wordT f k := tok1_l (by assumption)
          refine G_iret d_To_readToken_53 rfl (tokI (by have h9 := tok1_end (f := f) (k := k) (by omega) (by omega); rw [hte] at h9; omega)) rfl rfl ?_
          exact ⟨fun h => absurd h (by omega), fun _ => tokQ_s (tok1_l (by assumption)) q28w rfl rfl⟩
      · skip
        refine G_aload (i := 0) (n := 2) (len := 1) (Or.inl ⟨0, rfl, rfl, d_To_readToken_38⟩) rfl (by decide) (G_pc (pc' := 39) rfl ?_)
        refine G_iload (i := 2) (n := 1) (len := 1) (Or.inl ⟨2, rfl, rfl, d_To_readToken_39⟩) rfl (G_pc (pc' := 40) rfl ?_)
        refine G_iload (i := 3) (n := 0) (len := 1) (Or.inl ⟨3, rfl, rfl, d_To_readToken_40⟩) rfl (G_pc (pc' := 41) rfl ?_)
        refine G_callV (K1 := KE) (d2 := 1) (o := 14) (cl := 7) (as := [vi (f k), vi (runE letB f (40 - k).toNat k)]) (rest := []) d_To_readToken_41 mf_To_addLetter ml_To_44 rfl rfl (by decide) rfl rfl (Nat.le_of_ble_eq_true rfl) (by omega) ⟨Nat.le_refl _, Nat.le_refl _⟩ (g_To_addLetter (by omega) (f k) (runE letB f (40 - k).toNat k) M hs (letB_t.mp (by assumption))) (fun r29 M30 kq31 q31 => ?_)
        clear kq31
        rcases q31 with ⟨q31w, rfl, rfl⟩ | ⟨q31w, rfl, rfl⟩
        · skip
          refine G_ps (pc' := 44) (st' := [vi (-1)]) rfl rfl ?_
          refine G_goto (tgt := 53) d_To_readToken_44 (by decide) ?_
          refine G_iret d_To_readToken_53 rfl (tokI (by decide)) rfl rfl ?_
          exact ⟨fun h => absurd h (by omega), fun _ => tokQ_n ((tok1_l (by assumption)).trans (wordT_1 rfl (by omega))) q31w rfl rfl⟩
        · skip
          refine G_ps (pc' := 44) (st' := [vi ((wordT1 (runE letB f (40 - k).toNat k) (f k)).1)]) rfl rfl ?_
          refine G_goto (tgt := 53) d_To_readToken_44 (by decide) ?_
          have hte : tok1 f k = wordT1 (runE letB f (40 - k).toNat k) (f k) := (tok1_l (by assumption)).trans (wordT_1 rfl (by omega))
          refine G_iret d_To_readToken_53 rfl (tokI (by have h9 := tok1_end (f := f) (k := k) (by omega) (by omega); rw [hte] at h9; omega)) rfl rfl ?_
          exact ⟨fun h => absurd h (by omega), fun _ => tokQ_s ((tok1_l (by assumption)).trans (wordT_1 rfl (by omega))) q31w rfl rfl⟩
  · skip
    refine G_iconst (n := (-1)) d_To_readToken_9 (by decide) (G_pc (pc' := 10) rfl ?_)
    refine G_iret d_To_readToken_10 rfl (tokI (by decide)) rfl rfl ?_
    exact ⟨fun _ => ⟨rfl, rfl⟩, fun h => absurd (by assumption) h⟩

