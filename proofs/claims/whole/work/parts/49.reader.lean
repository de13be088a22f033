section EQ
variable {T W : Int → Int} {R R0 B F L : DS → Option DS} {BB : Int → DS → Option DS} {k o a c c0 lev t n : Int} {N : List ND} {S : List SD}
theorem parts_24 (h : T k = 24) : partsD T W R L (k, N, S, o, a, c) = (partD T W (k, N, S, o, a, c)).bind L := by unfold partsD; simp only []; rw [if_pos h]
theorem parts_22 (h : T k = 22) : partsD T W R L (k, N, S, o, a, c) = (enclD T R 23 (k + 1, N, S, o, a, 0)).bind (fun σ => L (indexD N S σ)) := by unfold partsD; simp only []; rw [if_neg (by omega), if_pos h]
theorem parts_x (h : ¬ T k = 24) (h2 : ¬ T k = 22) : partsD T W R L (k, N, S, o, a, c) = some (k, N, S, o, a, 0) := by unfold partsD; simp only []; rw [if_neg h, if_neg h2]
theorem part_inv (hT : tkn T n) {k2 o2 a2 c2 : Int} {N2 : List ND} {S2 : List SD} (h : partD T W (k, N, S, o, a, c) = some (k2, N2, S2, o2, a2, c2)) : k2 = k + 2 ∧ k + 2 ≤ n ∧ S2.length = S.length + 1 ∧ o2 = o ∧ a2 = a ∧ c2 = 0 := by
  unfold partD at h; simp only [] at h
  split at h
  · have := tk1 hT (k := k + 1) (by omega)
    cases h; simp; omega
  split at h
  · have := tk1 hT (k := k + 1) (by omega)
    cases h; simp; omega
  · cases h
theorem loop_x (h : bq (T k) < lev ∨ (c = 1 ∧ 7 < bq (T k))) : loopD T W lev BB L (k, N, S, o, a, c) = some (k, N, S, o, a, c) := by unfold loopD; simp only []; rw [if_pos h]
theorem loop_13 (h : ¬ (bq (T k) < lev ∨ (c = 1 ∧ 7 < bq (T k)))) (h2 : T k = 13) : loopD T W lev BB L (k, N, S, o, a, c) = (if T (k + 1) = 8 then some (k + 2, N ++ [(63, tp N, -1, -1, W (k + 1))], S ++ [(141, ts S, 4 + W (k + 1), 0, 0, 0)], o, a, 1) else none : Option DS).bind L := by
  unfold loopD; simp only []; rw [if_neg h, if_pos h2]; split <;> rfl
theorem loop_r (h : ¬ (bq (T k) < lev ∨ (c = 1 ∧ 7 < bq (T k)))) (h2 : ¬ T k = 13) : loopD T W lev BB L (k, N, S, o, a, c) = (rightD (BB (bdV (T k) + 1)) (T k) N S (k + 1, N, S, o, a, 0)).bind L := by
  unfold loopD; simp only []; rw [if_neg h, if_neg h2]
theorem of_inv (hT : tkn T n) {k2 o2 a2 c2 : Int} {N2 : List ND} {S2 : List SD} (h : (if T (k + 1) = 8 then some (k + 2, N ++ [(63, tp N, -1, -1, W (k + 1))], S ++ [(141, ts S, 4 + W (k + 1), 0, 0, 0)], o, a, 1) else none : Option DS) = some (k2, N2, S2, o2, a2, c2)) : k2 = k + 2 ∧ k + 2 ≤ n ∧ S2.length = S.length + 1 ∧ o2 = o ∧ a2 = a ∧ c2 = 1 := by
  split at h
  · have := tk1 hT (k := k + 1) (by omega)
    cases h; simp; omega
  · cases h
theorem right_inv (hJ : J1 n B) (hE : E1 T lev B) (h0 : 0 ≤ k) (hn : k ≤ n) (ha : a ≤ 4) {k2 o2 a2 c2 : Int} {N2 : List ND} {S2 : List SD} (h : rightD B t N S (k, N, S, o, a, c) = some (k2, N2, S2, o2, a2, c2)) :
    (k + 1 ≤ k2 ∧ k2 ≤ n) ∧ (S.length < S2.length ∧ (S2.length : Int) ≤ S.length + 2 * (k2 - k) + 1) ∧ o2 = o ∧ (a ≤ a2 ∧ a2 ≤ 4) ∧ (c2 = 0 ∨ c2 = 1) ∧ (bq (T k2) < lev ∨ (c2 = 1 ∧ 7 < bq (T k2))) ∧ (c2 = 1 → lev ≤ 7) := by
  simp only [rightD] at h
  split at h
  · generalize hz : (if t = 44 then (151 : Int) else 152) = z at h
    cases hB : B (k, N, S ++ [(z, ts S, 0, 0, 0, 0)], o, a, 0) with
    | none => simp only [hB] at h; cases h
    | some σ =>
      obtain ⟨k3, N3, S3, o3, a3, c3⟩ := σ
      simp only [hB] at h
      obtain ⟨⟨m1, m2, m3, m4, m5, m6⟩, _⟩ := hJ k N _ o a _ h0 hn ha hB
      have he := hE _ _ _ _ _ _ _ hB
      simp only [List.length_append, List.length_cons, List.length_nil] at m3
      cases h
      exact ⟨m1, ⟨by simp [patch_len]; omega, by simp [patch_len]; omega⟩, m4, m5, m6, he⟩
  · cases hB : B (k, N, S, o, a, 0) with
    | none => simp only [hB] at h; cases h
    | some σ =>
      obtain ⟨k3, N3, S3, o3, a3, c3⟩ := σ
      simp only [hB] at h
      obtain ⟨⟨m1, m2, m3, m4, m5, m6⟩, _⟩ := hJ k N _ o a _ h0 hn ha hB
      have he := hE _ _ _ _ _ _ _ hB
      cases h
      exact ⟨m1, ⟨by simp; omega, by simp; omega⟩, m4, m5, m6, he⟩
theorem cho_n {σ : DS} (h : B σ = none) : choiceD T B R σ = none := by simp only [choiceD, h]
theorem cho_x {σ : DS} (h : B σ = some (k, N, S, o, a, c)) (h2 : ¬ T k = 25) : choiceD T B R σ = some (k, N, S, o, a, c) := by simp only [choiceD, h, if_pos h2]
theorem cho_4 {σ : DS} (h : B σ = some (k, N, S, o, a, c)) (h2 : T k = 25) (h3 : 4 < a + 1) : choiceD T B R σ = none := by simp only [choiceD, h, if_neg (not_not_intro h2), if_pos h3]
theorem cho_rn {σ : DS} (h : B σ = some (k, N, S, o, a, c)) (h2 : T k = 25) (h3 : ¬ 4 < a + 1) (h4 : R (k + 1, N, S ++ [(151, ts S, 0, 0, 0, 0)], o, a + 1, 0) = none) : choiceD T B R σ = none := by simp only [choiceD, h, if_neg (not_not_intro h2), if_neg h3, h4]
theorem cho_c {σ : DS} {k2 o2 a2 c2 : Int} {N2 : List ND} {S2 : List SD} (h : B σ = some (k, N, S, o, a, c)) (h2 : T k = 25) (h3 : ¬ 4 < a + 1) (h4 : R (k + 1, N, S ++ [(151, ts S, 0, 0, 0, 0)], o, a + 1, 0) = some (k2, N2, S2, o2, a2, c2)) (h5 : ¬ T k2 = 26) : choiceD T B R σ = none := by simp only [choiceD, h, if_neg (not_not_intro h2), if_neg h3, h4, if_pos h5]
theorem cho_yn {σ : DS} {k2 o2 a2 c2 : Int} {N2 : List ND} {S2 : List SD} (h : B σ = some (k, N, S, o, a, c)) (h2 : T k = 25) (h3 : ¬ 4 < a + 1) (h4 : R (k + 1, N, S ++ [(151, ts S, 0, 0, 0, 0)], o, a + 1, 0) = some (k2, N2, S2, o2, a2, c2)) (h5 : T k2 = 26)
    (h6 : R (k2 + 1, N2, patchS (S2 ++ [(150, ts S, 0, 0, 0, 0)]) S.length (S2.length + 1), o2, a2, 0) = none) : choiceD T B R σ = none := by simp only [choiceD, h, if_neg (not_not_intro h2), if_neg h3, h4, if_neg (not_not_intro h5), h6]
theorem cho_s {σ : DS} {k2 o2 a2 c2 k3 o3 a3 c3 : Int} {N2 N3 : List ND} {S2 S3 : List SD} (h : B σ = some (k, N, S, o, a, c)) (h2 : T k = 25) (h3 : ¬ 4 < a + 1) (h4 : R (k + 1, N, S ++ [(151, ts S, 0, 0, 0, 0)], o, a + 1, 0) = some (k2, N2, S2, o2, a2, c2)) (h5 : T k2 = 26)
    (h6 : R (k2 + 1, N2, patchS (S2 ++ [(150, ts S, 0, 0, 0, 0)]) S.length (S2.length + 1), o2, a2, 0) = some (k3, N3, S3, o3, a3, c3)) : choiceD T B R σ = some (k3, N3 ++ [(65, tp N, tp N2, tp N3, 0)], patchS S3 S2.length S3.length ++ [(149, ts S, ts S2, ts S3, 0, 0)], o3, a3, c3) := by simp only [choiceD, h, if_neg (not_not_intro h2), if_neg h3, h4, if_neg (not_not_intro h5), h6]
end EQ
section GP
variable {X : WX} {g : SG} {d k0 kE : Nat} {y : MethodName} {cc : ByteArray} {nL : Nat} {ret : Option FieldType} {Q Q' : Option PV → Mem → Prop} {pc : Nat} {ls ls' : List (Nat × PV)} {st : List PV} {K : Nat} {M : Mem}
theorem G_lse (h : ls = ls') (k : G X g d k0 kE y cc nL ret Q pc ls' st K M) : G X g d k0 kE y cc nL ret Q pc ls st K M := h ▸ k
end GP
theorem d_Re_readUnary_0 : decode b_Re_readUnary 0 = .ok (.iload_n 1, 1) := by decide +kernel
theorem d_Re_readUnary_1 : decode b_Re_readUnary 1 = .ok (.bipush 24, 2) := by decide +kernel
theorem d_Re_readUnary_3 : decode b_Re_readUnary 3 = .ok (.if_icmp .le 5, 3) := by decide +kernel
theorem d_Re_readUnary_6 : decode b_Re_readUnary 6 = .ok (.iconst (-1), 1) := by decide +kernel
theorem d_Re_readUnary_7 : decode b_Re_readUnary 7 = .ok (.ireturn, 1) := by decide +kernel
theorem d_Re_readUnary_8 : decode b_Re_readUnary 8 = .ok (.aload_n 0, 1) := by decide +kernel
theorem d_Re_readUnary_9 : decode b_Re_readUnary 9 = .ok (.getfield 12, 3) := by decide +kernel
theorem d_Re_readUnary_12 : decode b_Re_readUnary 12 = .ok (.aload_n 0, 1) := by decide +kernel
theorem d_Re_readUnary_13 : decode b_Re_readUnary 13 = .ok (.getfield 27, 3) := by decide +kernel
theorem d_Re_readUnary_16 : decode b_Re_readUnary 16 = .ok (.invokevirtual 45, 3) := by decide +kernel
theorem d_Re_readUnary_19 : decode b_Re_readUnary 19 = .ok (.istore_n 2, 1) := by decide +kernel
theorem d_Re_readUnary_20 : decode b_Re_readUnary 20 = .ok (.iload_n 2, 1) := by decide +kernel
theorem d_Re_readUnary_21 : decode b_Re_readUnary 21 = .ok (.bipush 40, 2) := by decide +kernel
theorem d_Re_readUnary_23 : decode b_Re_readUnary 23 = .ok (.if_icmp .ne 28, 3) := by decide +kernel
theorem d_Re_readUnary_26 : decode b_Re_readUnary 26 = .ok (.aload_n 0, 1) := by decide +kernel
theorem d_Re_readUnary_27 : decode b_Re_readUnary 27 = .ok (.getfield 12, 3) := by decide +kernel
theorem d_Re_readUnary_30 : decode b_Re_readUnary 30 = .ok (.aload_n 0, 1) := by decide +kernel
theorem d_Re_readUnary_31 : decode b_Re_readUnary 31 = .ok (.getfield 27, 3) := by decide +kernel
theorem d_Re_readUnary_34 : decode b_Re_readUnary 34 = .ok (.iconst 1, 1) := by decide +kernel
theorem d_Re_readUnary_35 : decode b_Re_readUnary 35 = .ok (.iadd, 1) := by decide +kernel
theorem d_Re_readUnary_36 : decode b_Re_readUnary 36 = .ok (.invokevirtual 45, 3) := by decide +kernel
theorem d_Re_readUnary_39 : decode b_Re_readUnary 39 = .ok (.sipush 140, 3) := by decide +kernel
theorem d_Re_readUnary_42 : decode b_Re_readUnary 42 = .ok (.if_icmp .ne 9, 3) := by decide +kernel
theorem d_Re_readUnary_45 : decode b_Re_readUnary 45 = .ok (.aload_n 0, 1) := by decide +kernel
theorem d_Re_readUnary_46 : decode b_Re_readUnary 46 = .ok (.iload_n 1, 1) := by decide +kernel
theorem d_Re_readUnary_47 : decode b_Re_readUnary 47 = .ok (.invokevirtual 93, 3) := by decide +kernel
theorem d_Re_readUnary_50 : decode b_Re_readUnary 50 = .ok (.ireturn, 1) := by decide +kernel
theorem d_Re_readUnary_51 : decode b_Re_readUnary 51 = .ok (.iload_n 2, 1) := by decide +kernel
theorem d_Re_readUnary_52 : decode b_Re_readUnary 52 = .ok (.invokestatic 96, 3) := by decide +kernel
theorem d_Re_readUnary_55 : decode b_Re_readUnary 55 = .ok (.istore_n 3, 1) := by decide +kernel
theorem d_Re_readUnary_56 : decode b_Re_readUnary 56 = .ok (.iload_n 3, 1) := by decide +kernel
theorem d_Re_readUnary_57 : decode b_Re_readUnary 57 = .ok (.ifCond .ne 9, 3) := by decide +kernel
theorem d_Re_readUnary_60 : decode b_Re_readUnary 60 = .ok (.aload_n 0, 1) := by decide +kernel
theorem d_Re_readUnary_61 : decode b_Re_readUnary 61 = .ok (.iload_n 1, 1) := by decide +kernel
theorem d_Re_readUnary_62 : decode b_Re_readUnary 62 = .ok (.invokevirtual 99, 3) := by decide +kernel
theorem d_Re_readUnary_65 : decode b_Re_readUnary 65 = .ok (.ireturn, 1) := by decide +kernel
theorem d_Re_readUnary_66 : decode b_Re_readUnary 66 = .ok (.aload_n 0, 1) := by decide +kernel
theorem d_Re_readUnary_67 : decode b_Re_readUnary 67 = .ok (.dup, 1) := by decide +kernel
theorem d_Re_readUnary_68 : decode b_Re_readUnary 68 = .ok (.getfield 27, 3) := by decide +kernel
theorem d_Re_readUnary_71 : decode b_Re_readUnary 71 = .ok (.iconst 1, 1) := by decide +kernel
theorem d_Re_readUnary_72 : decode b_Re_readUnary 72 = .ok (.iadd, 1) := by decide +kernel
theorem d_Re_readUnary_73 : decode b_Re_readUnary 73 = .ok (.putfield 27, 3) := by decide +kernel
theorem d_Re_readUnary_76 : decode b_Re_readUnary 76 = .ok (.iload_n 2, 1) := by decide +kernel
theorem d_Re_readUnary_77 : decode b_Re_readUnary 77 = .ok (.bipush 45, 2) := by decide +kernel
theorem d_Re_readUnary_79 : decode b_Re_readUnary 79 = .ok (.if_icmp .ne 17, 3) := by decide +kernel
theorem d_Re_readUnary_82 : decode b_Re_readUnary 82 = .ok (.aload_n 0, 1) := by decide +kernel
theorem d_Re_readUnary_83 : decode b_Re_readUnary 83 = .ok (.invokevirtual 102, 3) := by decide +kernel
theorem d_Re_readUnary_86 : decode b_Re_readUnary 86 = .ok (.ifCond .eq 10, 3) := by decide +kernel
theorem d_Re_readUnary_89 : decode b_Re_readUnary 89 = .ok (.aload_n 0, 1) := by decide +kernel
theorem d_Re_readUnary_90 : decode b_Re_readUnary 90 = .ok (.invokevirtual 106, 3) := by decide +kernel
theorem d_Re_readUnary_93 : decode b_Re_readUnary 93 = .ok (.goto 10, 3) := by decide +kernel
theorem d_Re_readUnary_96 : decode b_Re_readUnary 96 = .ok (.aload_n 0, 1) := by decide +kernel
theorem d_Re_readUnary_97 : decode b_Re_readUnary 97 = .ok (.iload_n 1, 1) := by decide +kernel
theorem d_Re_readUnary_98 : decode b_Re_readUnary 98 = .ok (.iconst 1, 1) := by decide +kernel
theorem d_Re_readUnary_99 : decode b_Re_readUnary 99 = .ok (.iadd, 1) := by decide +kernel
theorem d_Re_readUnary_100 : decode b_Re_readUnary 100 = .ok (.invokevirtual 72, 3) := by decide +kernel
theorem d_Re_readUnary_103 : decode b_Re_readUnary 103 = .ok (.istore 4, 2) := by decide +kernel
theorem d_Re_readUnary_105 : decode b_Re_readUnary 105 = .ok (.iload 4, 2) := by decide +kernel
theorem d_Re_readUnary_107 : decode b_Re_readUnary 107 = .ok (.iconst (-1), 1) := by decide +kernel
theorem d_Re_readUnary_108 : decode b_Re_readUnary 108 = .ok (.if_icmp .ne 7, 3) := by decide +kernel
theorem d_Re_readUnary_111 : decode b_Re_readUnary 111 = .ok (.iconst (-1), 1) := by decide +kernel
theorem d_Re_readUnary_112 : decode b_Re_readUnary 112 = .ok (.goto 14, 3) := by decide +kernel
theorem d_Re_readUnary_115 : decode b_Re_readUnary 115 = .ok (.aload_n 0, 1) := by decide +kernel
theorem d_Re_readUnary_116 : decode b_Re_readUnary 116 = .ok (.getfield 18, 3) := by decide +kernel
theorem d_Re_readUnary_119 : decode b_Re_readUnary 119 = .ok (.iload_n 3, 1) := by decide +kernel
theorem d_Re_readUnary_120 : decode b_Re_readUnary 120 = .ok (.iload 4, 2) := by decide +kernel
theorem d_Re_readUnary_122 : decode b_Re_readUnary 122 = .ok (.iconst 0, 1) := by decide +kernel
theorem d_Re_readUnary_123 : decode b_Re_readUnary 123 = .ok (.invokevirtual 56, 3) := by decide +kernel
theorem d_Re_readUnary_126 : decode b_Re_readUnary 126 = .ok (.ireturn, 1) := by decide +kernel
set_option maxHeartbeats 400000 in
theorem g_Re_readUnary {X : WX} {d : Nat} (hd : 3 ≤ d) (e : Nat) (T W : Int → Int) (n : Int) (M0 : Mem) (b : Int) (N : List ND) (S : List SD) (k o a dep : Int) (R F : DS → Option DS) (d0 : Nat) (M : Mem) (he : e < 4) (hTR : TR M0 T W n) (hst : M0 13 1 = ((20 + 9 * e : Nat) : Int)) (hR : RD e M0 M S k o a) (hk : 0 ≤ k ∧ k ≤ n) (ho : 0 ≤ o ∧ o ≤ 6) (ha : 0 ≤ a ∧ a ≤ 4) (hS : (S.length : Int) ≤ 2 * k) (hdep : 0 ≤ dep ∧ dep ≤ k) (h10 : 10 ≤ d0) (hd0 : d0 + 2 ≤ d) (hC : CU X d0 e n M0 b R) (hF : CO X d0 e n M0 b F) (hJ : J1 n R) (hJu : J1 n (unaryD T W R F)) (hb : 5 * (n - k) + 2 ≤ b) : MG X gt d KE KE y_Re_readUnary b_Re_readUnary 5 (some .int) [vr 13, vi dep] M (RQ e M0 o (unaryD T W R F (k, N, S, o, a, 0))) := by
  refine MG_of_G (by decide) (Nat.le_of_ble_eq_true rfl) (Nat.le_refl _) (by decide) ?_
  show G X gt d KE KE y_Re_readUnary b_Re_readUnary 5 (some .int) _ 0 [(0, vr 13), (1, vi dep)] [] KE M
  have hn2 := hTR.2.1
  have hq1 := (TR_T hTR (k := k + 1) (by omega)).2
  refine G_iload (i := 1) (n := 1) (len := 1) (Or.inl ⟨1, rfl, rfl, d_Re_readUnary_0⟩) rfl (G_pc (pc' := 1) rfl ?_)
  refine G_bipush (n := 24) d_Re_readUnary_1 (by decide) (G_pc (pc' := 3) rfl ?_)
  refine G_icmp_le (tgt := 8) d_Re_readUnary_3 (by decide) (fun h1 => ?_) (fun h1 => G_pc (pc' := 6) rfl ?_)
  · skip
    refine G_aload (i := 0) (n := 0) (len := 1) (Or.inl ⟨0, rfl, rfl, d_Re_readUnary_8⟩) rfl (by decide) (G_pc (pc' := 9) rfl ?_)
    refine G_get (o := 13) (c := 4) (k := 0) (v := 14) d_Re_readUnary_9 fl_Re_12 rfl (by decide) (by decide) rfl rfl (G_pc (pc' := 12) rfl ?_)
    refine G_aload (i := 0) (n := 0) (len := 1) (Or.inl ⟨0, rfl, rfl, d_Re_readUnary_12⟩) rfl (by decide) (G_pc (pc' := 13) rfl ?_)
    refine G_get (o := 13) (c := 4) (k := 2) (v := M 13 2) d_Re_readUnary_13 fl_Re_27 rfl (by decide) (by decide) rfl rfl (G_pc (pc' := 16) rfl ?_)
    rw [show M 13 2 = k from RD_k hR]
    refine G_callV (K1 := KE) (d2 := 0) (o := 14) (cl := 7) (as := [vi k]) (rest := []) d_Re_readUnary_16 mf_To_codeAt ml_Re_45 rfl rfl (by decide) rfl rfl (Nat.le_of_ble_eq_true rfl) (by omega) ⟨Nat.le_refl _, Nat.le_refl _⟩ (g_To_codeAt (by omega) T W n k M (RD_TR hR he hTR) (by omega)) (fun r2 M3 kq4 q4 => ?_)
    clear kq4; obtain ⟨q4a, q4b⟩ := q4; subst r2; subst M3
    refine G_ps (pc' := 19) (st' := [vi (tcode (T k))]) rfl rfl ?_
    have ok5 := TR_T hTR (k := k) (by omega)
    have rgok5 := tcode_rng ok5.1
    have tz1 := tc_40 ok5.1; have tz2 := tc_45 ok5.1; have tz3 := uc_nz (T k); have tz4 := uc_rng (T k)
    have tz9 := ok5.2
    refine G_istore (i := 2) (len := 1) (ls' := [(2, vi (tcode (T k))), (0, vr 13), (1, vi dep)]) (Or.inl ⟨2, rfl, rfl, d_Re_readUnary_19⟩) (by decide) rfl (G_pc (pc' := 20) rfl ?_)
    refine G_iload (i := 2) (n := 0) (len := 1) (Or.inl ⟨2, rfl, rfl, d_Re_readUnary_20⟩) rfl (G_pc (pc' := 21) rfl ?_)
    refine G_bipush (n := 40) d_Re_readUnary_21 (by decide) (G_pc (pc' := 23) rfl ?_)
    refine G_icmp_ne (tgt := 51) d_Re_readUnary_23 (by decide) (fun h6 => ?_) (fun h6 => G_pc (pc' := 26) rfl ?_)
    · skip
      refine G_iload (i := 2) (n := 0) (len := 1) (Or.inl ⟨2, rfl, rfl, d_Re_readUnary_51⟩) rfl (G_pc (pc' := 52) rfl ?_)
      refine G_callS (K1 := KE) (d2 := 0) (as := [vi (tcode (T k))]) (rest := []) d_Re_readUnary_52 mf_Re_unaryCode ml_Re_96 rfl rfl (Nat.le_of_ble_eq_true rfl) (by omega) ⟨Nat.le_refl _, Nat.le_refl _⟩ (g_Re_unaryCode (by omega) (tcode (T k)) M) (fun r7 M8 kq9 q9 => ?_)
      clear kq9; obtain ⟨q9a, q9b⟩ := q9; subst r7; subst M8
      rw [uc_t (TR_T hTR (by omega)).1]
      refine G_ps (pc' := 55) (st' := [vi (ucode (T k))]) rfl rfl ?_
      refine G_istore (i := 3) (len := 1) (ls' := [(3, vi (ucode (T k))), (2, vi (tcode (T k))), (0, vr 13), (1, vi dep)]) (Or.inl ⟨3, rfl, rfl, d_Re_readUnary_55⟩) (by decide) rfl (G_pc (pc' := 56) rfl ?_)
      refine G_iload (i := 3) (n := 0) (len := 1) (Or.inl ⟨3, rfl, rfl, d_Re_readUnary_56⟩) rfl (G_pc (pc' := 57) rfl ?_)
      refine G_if_ne (tgt := 66) d_Re_readUnary_57 (by decide) (fun h10 => ?_) (fun h10 => G_pc (pc' := 60) rfl ?_)
      · skip
        refine G_aload (i := 0) (n := 2) (len := 1) (Or.inl ⟨0, rfl, rfl, d_Re_readUnary_66⟩) rfl (by decide) (G_pc (pc' := 67) rfl ?_)
        refine G_dup d_Re_readUnary_67 (fun _ h => by cases h) (G_pc (pc' := 68) rfl ?_)
        refine G_get (o := 13) (c := 4) (k := 2) (v := M 13 2) d_Re_readUnary_68 fl_Re_27 rfl (by decide) (by decide) rfl rfl (G_pc (pc' := 71) rfl ?_)
        rw [show M 13 2 = k from RD_k hR]
        refine G_iconst (n := 1) d_Re_readUnary_71 (by decide) (G_pc (pc' := 72) rfl ?_)
        refine G_iadd d_Re_readUnary_72 (by omega) (G_pc (pc' := 73) rfl ?_)
        refine G_putL (o := 13) (c := 4) (k := 2) (ki := 2) (x := k + 1) d_Re_readUnary_73 fl_Re_27 rfl rfl (by decide) (by decide) (by decide) rfl rfl (tokI (by omega)) rfl (G_pc (pc' := 76) rfl ?_)
        refine G_abs (R := fun M9 => RD e M0 M9 S (k + 1) o a) (RD_nk (RD_sk hR) (by omega)) (fun M11 hR12 => ?_)
        refine G_iload (i := 2) (n := 1) (len := 1) (Or.inl ⟨2, rfl, rfl, d_Re_readUnary_76⟩) rfl (G_pc (pc' := 77) rfl ?_)
        refine G_bipush (n := 45) d_Re_readUnary_77 (by decide) (G_pc (pc' := 79) rfl ?_)
        refine G_icmp_ne (tgt := 96) d_Re_readUnary_79 (by decide) (fun h13 => ?_) (fun h13 => G_pc (pc' := 82) rfl ?_)
        · skip
          refine G_aload (i := 0) (n := 2) (len := 1) (Or.inl ⟨0, rfl, rfl, d_Re_readUnary_96⟩) rfl (by decide) (G_pc (pc' := 97) rfl ?_)
          refine G_iload (i := 1) (n := 3) (len := 1) (Or.inl ⟨1, rfl, rfl, d_Re_readUnary_97⟩) rfl (G_pc (pc' := 98) rfl ?_)
          refine G_iconst (n := 1) d_Re_readUnary_98 (by decide) (G_pc (pc' := 99) rfl ?_)
          refine G_iadd d_Re_readUnary_99 (by omega) (G_pc (pc' := 100) rfl ?_)
          refine G_callV (K1 := KE) (d2 := d0) (o := 13) (cl := 4) (as := [vi (dep + 1)]) (rest := []) d_Re_readUnary_100 mf_Re_readUnary ml_Re_72 rfl rfl (by decide) rfl rfl (Nat.le_of_ble_eq_true rfl) (by omega) ⟨Nat.le_refl _, Nat.le_refl _⟩ (hC N S (k + 1) o a (dep + 1) M11 (by omega) hR12 (by omega) (by omega) (by omega) (by omega) (by omega)) (fun r14 M15 kq16 q16 => ?_)
          clear kq16
          rcases q16 with ⟨hE_17, rfl, hf_17, ho_17⟩ | ⟨k_17, N_17, S_17, o_17, a_17, c_17, hE_17, rfl, hR_17⟩
          · skip
            refine G_ps (pc' := 103) (st' := [vi (-1)]) rfl rfl ?_
            refine G_istore (i := 4) (len := 2) (ls' := [(4, vi (-1)), (3, vi (ucode (T k))), (2, vi (tcode (T k))), (0, vr 13), (1, vi dep)]) (Or.inr ⟨rfl, d_Re_readUnary_103⟩) (by decide) rfl (G_pc (pc' := 105) rfl ?_)
            refine G_iload (i := 4) (n := 0) (len := 2) (Or.inr ⟨rfl, d_Re_readUnary_105⟩) rfl (G_pc (pc' := 107) rfl ?_)
            refine G_iconst (n := (-1)) d_Re_readUnary_107 (by decide) (G_pc (pc' := 108) rfl ?_)
            refine G_icmp_ne (tgt := 115) d_Re_readUnary_108 (by decide) (fun h18 => absurd h18 (by decide)) (fun h18 => G_pc (pc' := 111) rfl ?_)
            refine G_iconst (n := (-1)) d_Re_readUnary_111 (by decide) (G_pc (pc' := 112) rfl ?_)
            refine G_goto (tgt := 126) d_Re_readUnary_112 (by decide) ?_
            refine G_iret d_Re_readUnary_126 rfl (tokI (by decide)) rfl rfl ?_
            exact Or.inl ⟨(un_op (by omega) (by omega)).trans (endU_n hE_17), rfl, hf_17, ho_17⟩
          · skip
            obtain ⟨⟨ja_17, jb_17, jc_17, jd_17, je_17, jf_17⟩, jg_17⟩ := hJ (k + 1) N S o a _ (by omega) (by omega) (by omega) hE_17
            have jc1_17 := jc_17.1; have jc2_17 := jc_17.2.1
            have jt_17 : ts S_17 = (S_17.length : Int) - 1 := rfl
            (try simp only [List.length_append, List.length_cons, List.length_nil, patch_len] at jc1_17 jc2_17)
            refine G_ps (pc' := 103) (st' := [vi (ts S_17)]) rfl rfl ?_
            refine G_istore (i := 4) (len := 2) (ls' := [(4, vi (ts S_17)), (3, vi (ucode (T k))), (2, vi (tcode (T k))), (0, vr 13), (1, vi dep)]) (Or.inr ⟨rfl, d_Re_readUnary_103⟩) (by decide) rfl (G_pc (pc' := 105) rfl ?_)
            refine G_iload (i := 4) (n := 0) (len := 2) (Or.inr ⟨rfl, d_Re_readUnary_105⟩) rfl (G_pc (pc' := 107) rfl ?_)
            refine G_iconst (n := (-1)) d_Re_readUnary_107 (by decide) (G_pc (pc' := 108) rfl ?_)
            refine G_icmp_ne (tgt := 115) d_Re_readUnary_108 (by decide) (fun h19 => ?_) (fun h19 => absurd h19 (by omega))
            refine G_aload (i := 0) (n := 3) (len := 1) (Or.inl ⟨0, rfl, rfl, d_Re_readUnary_115⟩) rfl (by decide) (G_pc (pc' := 116) rfl ?_)
            refine G_get (o := 13) (c := 4) (k := 1) (v := M15 13 1) d_Re_readUnary_116 fl_Re_18 rfl (by decide) (by decide) rfl rfl (G_pc (pc' := 119) rfl ?_)
            rw [show M15 13 1 = ((20 + 9 * e : Nat) : Int) from RD_st hR_17 he hst]
            refine G_iload (i := 3) (n := 1) (len := 1) (Or.inl ⟨3, rfl, rfl, d_Re_readUnary_119⟩) rfl (G_pc (pc' := 120) rfl ?_)
            refine G_iload (i := 4) (n := 0) (len := 2) (Or.inr ⟨rfl, d_Re_readUnary_120⟩) rfl (G_pc (pc' := 122) rfl ?_)
            refine G_iconst (n := 0) d_Re_readUnary_122 (by decide) (G_pc (pc' := 123) rfl ?_)
            refine G_callV (K1 := KE) (d2 := 1) (o := (20 + 9 * e)) (cl := 5) (as := [vi (ucode (T k)), vi (ts S_17), vi 0]) (rest := []) d_Re_readUnary_123 mf_St_add ml_Re_56 (kd_St he) rfl (by show 20 + 9 * e < 87; omega) rfl rfl (Nat.le_of_ble_eq_true rfl) (by omega) ⟨Nat.le_refl _, Nat.le_refl _⟩ (g_St_add (by omega) e (ucode (T k)) (ts S_17) 0 M15 he (by have h9 := RD_n hR_17; omega)) (fun r20 M21 kq22 q22 => ?_)
            clear kq22; obtain ⟨q22a, q22b⟩ := q22; subst r20; subst M21
            rw [RD_n hR_17]
            refine G_ps (pc' := 126) (st' := [vi ((S_17).length : Int)]) rfl rfl ?_
            refine G_abs (R := fun M9 => RD e M0 M9 (S_17 ++ [(ucode (T k), ts S_17, 0, 0, 0, 0)]) k_17 o_17 a_17) (RD_add hR_17 (by first | decide | omega) he) (fun M23 hR24 => ?_)
            have hl25 : ((S_17 ++ [(ucode (T k), ts S_17, 0, 0, 0, 0)]).length : Int) = (S_17).length + 1 := len_add _ _
            refine G_iret d_Re_readUnary_126 rfl (tokI (by omega)) rfl rfl ?_
            exact Or.inr ⟨_, _, _, _, _, _, (un_op (by omega) (by omega)).trans (endU_s hE_17), by rw [ts_add], hR24⟩
        · skip
          refine G_aload (i := 0) (n := 2) (len := 1) (Or.inl ⟨0, rfl, rfl, d_Re_readUnary_82⟩) rfl (by decide) (G_pc (pc' := 83) rfl ?_)
          refine G_callV (K1 := KE) (d2 := 1) (o := 13) (cl := 4) (as := []) (rest := []) d_Re_readUnary_83 mf_Re_isTooLarge ml_Re_102 rfl rfl (by decide) rfl rfl (Nat.le_of_ble_eq_true rfl) (by omega) ⟨Nat.le_refl _, Nat.le_refl _⟩ (g_Re_isTooLarge (by omega) e T W n M0 S (k + 1) o a M11 he hTR hR12 (by omega)) (fun r26 M27 kq28 q28 => ?_)
          clear kq28; obtain ⟨q28a, q28b⟩ := q28; subst r26; subst M27
          refine G_ps (pc' := 86) (st' := [vi (b2i (decide (T (k + 1) = 1 ∧ W (k + 1) = 2147483648)))]) rfl rfl ?_
          refine G_if_eq (tgt := 96) d_Re_readUnary_86 (by decide) (fun h29 => ?_) (fun h29 => G_pc (pc' := 89) rfl ?_)
          · skip
            replace h29 := b2i_0.mp h29
            replace h29 := of_decide_eq_false h29
            refine G_aload (i := 0) (n := 2) (len := 1) (Or.inl ⟨0, rfl, rfl, d_Re_readUnary_96⟩) rfl (by decide) (G_pc (pc' := 97) rfl ?_)
            refine G_iload (i := 1) (n := 3) (len := 1) (Or.inl ⟨1, rfl, rfl, d_Re_readUnary_97⟩) rfl (G_pc (pc' := 98) rfl ?_)
            refine G_iconst (n := 1) d_Re_readUnary_98 (by decide) (G_pc (pc' := 99) rfl ?_)
            refine G_iadd d_Re_readUnary_99 (by omega) (G_pc (pc' := 100) rfl ?_)
            refine G_callV (K1 := KE) (d2 := d0) (o := 13) (cl := 4) (as := [vi (dep + 1)]) (rest := []) d_Re_readUnary_100 mf_Re_readUnary ml_Re_72 rfl rfl (by decide) rfl rfl (Nat.le_of_ble_eq_true rfl) (by omega) ⟨Nat.le_refl _, Nat.le_refl _⟩ (hC N S (k + 1) o a (dep + 1) M11 (by omega) hR12 (by omega) (by omega) (by omega) (by omega) (by omega)) (fun r30 M31 kq32 q32 => ?_)
            clear kq32
            rcases q32 with ⟨hE_33, rfl, hf_33, ho_33⟩ | ⟨k_33, N_33, S_33, o_33, a_33, c_33, hE_33, rfl, hR_33⟩
            · skip
              refine G_ps (pc' := 103) (st' := [vi (-1)]) rfl rfl ?_
              refine G_istore (i := 4) (len := 2) (ls' := [(4, vi (-1)), (3, vi (ucode (T k))), (2, vi (tcode (T k))), (0, vr 13), (1, vi dep)]) (Or.inr ⟨rfl, d_Re_readUnary_103⟩) (by decide) rfl (G_pc (pc' := 105) rfl ?_)
              refine G_iload (i := 4) (n := 0) (len := 2) (Or.inr ⟨rfl, d_Re_readUnary_105⟩) rfl (G_pc (pc' := 107) rfl ?_)
              refine G_iconst (n := (-1)) d_Re_readUnary_107 (by decide) (G_pc (pc' := 108) rfl ?_)
              refine G_icmp_ne (tgt := 115) d_Re_readUnary_108 (by decide) (fun h34 => absurd h34 (by decide)) (fun h34 => G_pc (pc' := 111) rfl ?_)
              refine G_iconst (n := (-1)) d_Re_readUnary_111 (by decide) (G_pc (pc' := 112) rfl ?_)
              refine G_goto (tgt := 126) d_Re_readUnary_112 (by decide) ?_
              refine G_iret d_Re_readUnary_126 rfl (tokI (by decide)) rfl rfl ?_
              exact Or.inl ⟨(un_op (by omega) (by omega)).trans (endU_n hE_33), rfl, hf_33, ho_33⟩
            · skip
              obtain ⟨⟨ja_33, jb_33, jc_33, jd_33, je_33, jf_33⟩, jg_33⟩ := hJ (k + 1) N S o a _ (by omega) (by omega) (by omega) hE_33
              have jc1_33 := jc_33.1; have jc2_33 := jc_33.2.1
              have jt_33 : ts S_33 = (S_33.length : Int) - 1 := rfl
              (try simp only [List.length_append, List.length_cons, List.length_nil, patch_len] at jc1_33 jc2_33)
              refine G_ps (pc' := 103) (st' := [vi (ts S_33)]) rfl rfl ?_
              refine G_istore (i := 4) (len := 2) (ls' := [(4, vi (ts S_33)), (3, vi (ucode (T k))), (2, vi (tcode (T k))), (0, vr 13), (1, vi dep)]) (Or.inr ⟨rfl, d_Re_readUnary_103⟩) (by decide) rfl (G_pc (pc' := 105) rfl ?_)
              refine G_iload (i := 4) (n := 0) (len := 2) (Or.inr ⟨rfl, d_Re_readUnary_105⟩) rfl (G_pc (pc' := 107) rfl ?_)
              refine G_iconst (n := (-1)) d_Re_readUnary_107 (by decide) (G_pc (pc' := 108) rfl ?_)
              refine G_icmp_ne (tgt := 115) d_Re_readUnary_108 (by decide) (fun h35 => ?_) (fun h35 => absurd h35 (by omega))
              refine G_aload (i := 0) (n := 3) (len := 1) (Or.inl ⟨0, rfl, rfl, d_Re_readUnary_115⟩) rfl (by decide) (G_pc (pc' := 116) rfl ?_)
              refine G_get (o := 13) (c := 4) (k := 1) (v := M31 13 1) d_Re_readUnary_116 fl_Re_18 rfl (by decide) (by decide) rfl rfl (G_pc (pc' := 119) rfl ?_)
              rw [show M31 13 1 = ((20 + 9 * e : Nat) : Int) from RD_st hR_33 he hst]
              refine G_iload (i := 3) (n := 1) (len := 1) (Or.inl ⟨3, rfl, rfl, d_Re_readUnary_119⟩) rfl (G_pc (pc' := 120) rfl ?_)
              refine G_iload (i := 4) (n := 0) (len := 2) (Or.inr ⟨rfl, d_Re_readUnary_120⟩) rfl (G_pc (pc' := 122) rfl ?_)
              refine G_iconst (n := 0) d_Re_readUnary_122 (by decide) (G_pc (pc' := 123) rfl ?_)
              refine G_callV (K1 := KE) (d2 := 1) (o := (20 + 9 * e)) (cl := 5) (as := [vi (ucode (T k)), vi (ts S_33), vi 0]) (rest := []) d_Re_readUnary_123 mf_St_add ml_Re_56 (kd_St he) rfl (by show 20 + 9 * e < 87; omega) rfl rfl (Nat.le_of_ble_eq_true rfl) (by omega) ⟨Nat.le_refl _, Nat.le_refl _⟩ (g_St_add (by omega) e (ucode (T k)) (ts S_33) 0 M31 he (by have h9 := RD_n hR_33; omega)) (fun r36 M37 kq38 q38 => ?_)
              clear kq38; obtain ⟨q38a, q38b⟩ := q38; subst r36; subst M37
              rw [RD_n hR_33]
              refine G_ps (pc' := 126) (st' := [vi ((S_33).length : Int)]) rfl rfl ?_
              refine G_abs (R := fun M9 => RD e M0 M9 (S_33 ++ [(ucode (T k), ts S_33, 0, 0, 0, 0)]) k_33 o_33 a_33) (RD_add hR_33 (by first | decide | omega) he) (fun M39 hR40 => ?_)
              have hl41 : ((S_33 ++ [(ucode (T k), ts S_33, 0, 0, 0, 0)]).length : Int) = (S_33).length + 1 := len_add _ _
              refine G_iret d_Re_readUnary_126 rfl (tokI (by omega)) rfl rfl ?_
              exact Or.inr ⟨_, _, _, _, _, _, (un_op (by omega) (by omega)).trans (endU_s hE_33), by rw [ts_add], hR40⟩
          · skip
            replace h29 := b2i_nz.mp h29
            replace h29 := of_decide_eq_true h29
            refine G_aload (i := 0) (n := 2) (len := 1) (Or.inl ⟨0, rfl, rfl, d_Re_readUnary_89⟩) rfl (by decide) (G_pc (pc' := 90) rfl ?_)
            refine G_callV (K1 := KE) (d2 := 2) (o := 13) (cl := 4) (as := []) (rest := []) d_Re_readUnary_90 mf_Re_readConstant ml_Re_106 rfl rfl (by decide) rfl rfl (Nat.le_of_ble_eq_true rfl) (by omega) ⟨Nat.le_refl _, Nat.le_refl _⟩ (g_Re_readConstant (by omega) e T W n M0 S (k + 1) o a M11 he hTR hR12 hst (by omega) (by omega)) (fun r42 M43 kq44 q44 => ?_)
            clear kq44; obtain ⟨q44a, q44b⟩ := q44; subst r42
            refine G_ps (pc' := 93) (st' := [vi ((S).length : Int)]) rfl rfl ?_
            replace q44b := RD_nk q44b (show (k + 1) + 1 = k + 2 by omega)
            have hl45 : ((S ++ [(137, 0, 0, 0, tkind (T (k + 1)), tnum (T (k + 1)) (W (k + 1)))] : List SD).length : Int) = (S).length + 1 := len_add _ _
            refine G_goto (tgt := 103) d_Re_readUnary_93 (by decide) ?_
            refine G_istore (i := 4) (len := 2) (ls' := [(4, vi ((S).length : Int)), (3, vi (ucode (T k))), (2, vi (tcode (T k))), (0, vr 13), (1, vi dep)]) (Or.inr ⟨rfl, d_Re_readUnary_103⟩) (by decide) rfl (G_pc (pc' := 105) rfl ?_)
            refine G_iload (i := 4) (n := 0) (len := 2) (Or.inr ⟨rfl, d_Re_readUnary_105⟩) rfl (G_pc (pc' := 107) rfl ?_)
            refine G_iconst (n := (-1)) d_Re_readUnary_107 (by decide) (G_pc (pc' := 108) rfl ?_)
            refine G_icmp_ne (tgt := 115) d_Re_readUnary_108 (by decide) (fun h46 => ?_) (fun h46 => absurd h46 (by omega))
            refine G_aload (i := 0) (n := 3) (len := 1) (Or.inl ⟨0, rfl, rfl, d_Re_readUnary_115⟩) rfl (by decide) (G_pc (pc' := 116) rfl ?_)
            refine G_get (o := 13) (c := 4) (k := 1) (v := M43 13 1) d_Re_readUnary_116 fl_Re_18 rfl (by decide) (by decide) rfl rfl (G_pc (pc' := 119) rfl ?_)
            rw [show M43 13 1 = ((20 + 9 * e : Nat) : Int) from RD_st q44b he hst]
            refine G_iload (i := 3) (n := 1) (len := 1) (Or.inl ⟨3, rfl, rfl, d_Re_readUnary_119⟩) rfl (G_pc (pc' := 120) rfl ?_)
            refine G_iload (i := 4) (n := 0) (len := 2) (Or.inr ⟨rfl, d_Re_readUnary_120⟩) rfl (G_pc (pc' := 122) rfl ?_)
            refine G_iconst (n := 0) d_Re_readUnary_122 (by decide) (G_pc (pc' := 123) rfl ?_)
            refine G_callV (K1 := KE) (d2 := 1) (o := (20 + 9 * e)) (cl := 5) (as := [vi (ucode (T k)), vi ((S).length : Int), vi 0]) (rest := []) d_Re_readUnary_123 mf_St_add ml_Re_56 (kd_St he) rfl (by show 20 + 9 * e < 87; omega) rfl rfl (Nat.le_of_ble_eq_true rfl) (by omega) ⟨Nat.le_refl _, Nat.le_refl _⟩ (g_St_add (by omega) e (ucode (T k)) ((S).length : Int) 0 M43 he (by have h9 := RD_n q44b; omega)) (fun r47 M48 kq49 q49 => ?_)
            clear kq49; obtain ⟨q49a, q49b⟩ := q49; subst r47; subst M48
            rw [RD_n q44b]
            refine G_ps (pc' := 126) (st' := [vi (((S ++ [(137, 0, 0, 0, tkind (T (k + 1)), tnum (T (k + 1)) (W (k + 1)))])).length : Int)]) rfl rfl ?_
            refine G_abs (R := fun M9 => RD e M0 M9 ((S ++ [(137, 0, 0, 0, tkind (T (k + 1)), tnum (T (k + 1)) (W (k + 1)))]) ++ [(ucode (T k), ((S).length : Int), 0, 0, 0, 0)]) (k + 2) o a) (RD_add q44b (by first | decide | omega) he) (fun M50 hR51 => ?_)
            have hl52 : (((S ++ [(137, 0, 0, 0, tkind (T (k + 1)), tnum (T (k + 1)) (W (k + 1)))]) ++ [(ucode (T k), ((S).length : Int), 0, 0, 0, 0)]).length : Int) = ((S ++ [(137, 0, 0, 0, tkind (T (k + 1)), tnum (T (k + 1)) (W (k + 1)))])).length + 1 := len_add _ _
            refine G_iret d_Re_readUnary_126 rfl (tokI (by omega)) rfl rfl ?_
            have u1 : tkind (T (k + 1)) = 0 := (tk_0 _).mpr (by omega)
            have u2 : tnum (T (k + 1)) (W (k + 1)) = W (k + 1) := tn_1 _ (by omega)
            have u3 : ucode (T k) = 148 := by rw [show T k = 28 by omega]; rfl
            rw [u1, u2, u3] at hR51
            exact Or.inr ⟨_, _, _, _, _, _, un_big ⟨by omega, by omega, by omega⟩, by rw [u1, u2, ts_add], by rw [ts_add]; exact hR51⟩
      · skip
        refine G_aload (i := 0) (n := 2) (len := 1) (Or.inl ⟨0, rfl, rfl, d_Re_readUnary_60⟩) rfl (by decide) (G_pc (pc' := 61) rfl ?_)
        refine G_iload (i := 1) (n := 3) (len := 1) (Or.inl ⟨1, rfl, rfl, d_Re_readUnary_61⟩) rfl (G_pc (pc' := 62) rfl ?_)
        refine G_callV (K1 := KE) (d2 := d0) (o := 13) (cl := 4) (as := [vi dep]) (rest := []) d_Re_readUnary_62 mf_Re_readOperand ml_Re_99 rfl rfl (by decide) rfl rfl (Nat.le_of_ble_eq_true rfl) (by omega) ⟨Nat.le_refl _, Nat.le_refl _⟩ (hF N S k o a dep M (by omega) hR (by omega) (by omega) (by omega) (by omega) (by omega)) (fun r53 M54 kq55 q55 => ?_)
        clear kq55
        rcases q55 with ⟨hE_56, rfl, hf_56, ho_56⟩ | ⟨k_56, N_56, S_56, o_56, a_56, c_56, hE_56, rfl, hR_56⟩
        · skip
          refine G_ps (pc' := 65) (st' := [vi (-1)]) rfl rfl ?_
          refine G_iret d_Re_readUnary_65 rfl (tokI (by decide)) rfl rfl ?_
          exact Or.inl ⟨(un_none (by omega) (by omega)).trans hE_56, rfl, hf_56, ho_56⟩
        · skip
          obtain ⟨⟨ja_56, jb_56, jc_56, jd_56, je_56, jf_56⟩, jg_56⟩ := hJu k N S o a _ (by omega) (by omega) (by omega) ((un_none (c0 := 0) (by omega) (by omega)).trans hE_56)
          have jc1_56 := jc_56.1; have jc2_56 := jc_56.2.1
          have jt_56 : ts S_56 = (S_56.length : Int) - 1 := rfl
          (try simp only [List.length_append, List.length_cons, List.length_nil, patch_len] at jc1_56 jc2_56)
          refine G_ps (pc' := 65) (st' := [vi (ts S_56)]) rfl rfl ?_
          refine G_iret d_Re_readUnary_65 rfl (tokI (by omega)) rfl rfl ?_
          exact Or.inr ⟨_, _, _, _, _, _, (un_none (by omega) (by omega)).trans hE_56, rfl, hR_56⟩
    · skip
      refine G_aload (i := 0) (n := 1) (len := 1) (Or.inl ⟨0, rfl, rfl, d_Re_readUnary_26⟩) rfl (by decide) (G_pc (pc' := 27) rfl ?_)
      refine G_get (o := 13) (c := 4) (k := 0) (v := 14) d_Re_readUnary_27 fl_Re_12 rfl (by decide) (by decide) rfl rfl (G_pc (pc' := 30) rfl ?_)
      refine G_aload (i := 0) (n := 1) (len := 1) (Or.inl ⟨0, rfl, rfl, d_Re_readUnary_30⟩) rfl (by decide) (G_pc (pc' := 31) rfl ?_)
      refine G_get (o := 13) (c := 4) (k := 2) (v := M 13 2) d_Re_readUnary_31 fl_Re_27 rfl (by decide) (by decide) rfl rfl (G_pc (pc' := 34) rfl ?_)
      rw [show M 13 2 = k from RD_k hR]
      refine G_iconst (n := 1) d_Re_readUnary_34 (by decide) (G_pc (pc' := 35) rfl ?_)
      refine G_iadd d_Re_readUnary_35 (by omega) (G_pc (pc' := 36) rfl ?_)
      refine G_callV (K1 := KE) (d2 := 0) (o := 14) (cl := 7) (as := [vi (k + 1)]) (rest := []) d_Re_readUnary_36 mf_To_codeAt ml_Re_45 rfl rfl (by decide) rfl rfl (Nat.le_of_ble_eq_true rfl) (by omega) ⟨Nat.le_refl _, Nat.le_refl _⟩ (g_To_codeAt (by omega) T W n (k + 1) M (RD_TR hR he hTR) (by omega)) (fun r57 M58 kq59 q59 => ?_)
      clear kq59; obtain ⟨q59a, q59b⟩ := q59; subst r57; subst M58
      refine G_ps (pc' := 39) (st' := [vi (tcode (T (k + 1)))]) rfl rfl ?_
      have ok60 := TR_T hTR (k := k + 1) (by omega)
      have rgok60 := tcode_rng ok60.1
      have tz5 := tc_140 ok60.1; have tz8 := ok60.2
      refine G_sipush (n := 140) d_Re_readUnary_39 (by decide) (G_pc (pc' := 42) rfl ?_)
      refine G_icmp_ne (tgt := 51) d_Re_readUnary_42 (by decide) (fun h61 => ?_) (fun h61 => G_pc (pc' := 45) rfl ?_)
      · skip
        refine G_iload (i := 2) (n := 0) (len := 1) (Or.inl ⟨2, rfl, rfl, d_Re_readUnary_51⟩) rfl (G_pc (pc' := 52) rfl ?_)
        refine G_callS (K1 := KE) (d2 := 0) (as := [vi (tcode (T k))]) (rest := []) d_Re_readUnary_52 mf_Re_unaryCode ml_Re_96 rfl rfl (Nat.le_of_ble_eq_true rfl) (by omega) ⟨Nat.le_refl _, Nat.le_refl _⟩ (g_Re_unaryCode (by omega) (tcode (T k)) M) (fun r62 M63 kq64 q64 => ?_)
        clear kq64; obtain ⟨q64a, q64b⟩ := q64; subst r62; subst M63
        rw [uc_t (TR_T hTR (by omega)).1]
        refine G_ps (pc' := 55) (st' := [vi (ucode (T k))]) rfl rfl ?_
        refine G_istore (i := 3) (len := 1) (ls' := [(3, vi (ucode (T k))), (2, vi (tcode (T k))), (0, vr 13), (1, vi dep)]) (Or.inl ⟨3, rfl, rfl, d_Re_readUnary_55⟩) (by decide) rfl (G_pc (pc' := 56) rfl ?_)
        refine G_iload (i := 3) (n := 0) (len := 1) (Or.inl ⟨3, rfl, rfl, d_Re_readUnary_56⟩) rfl (G_pc (pc' := 57) rfl ?_)
        refine G_if_ne (tgt := 66) d_Re_readUnary_57 (by decide) (fun h65 => ?_) (fun h65 => G_pc (pc' := 60) rfl ?_)
        · skip
          refine G_aload (i := 0) (n := 2) (len := 1) (Or.inl ⟨0, rfl, rfl, d_Re_readUnary_66⟩) rfl (by decide) (G_pc (pc' := 67) rfl ?_)
          refine G_dup d_Re_readUnary_67 (fun _ h => by cases h) (G_pc (pc' := 68) rfl ?_)
          refine G_get (o := 13) (c := 4) (k := 2) (v := M 13 2) d_Re_readUnary_68 fl_Re_27 rfl (by decide) (by decide) rfl rfl (G_pc (pc' := 71) rfl ?_)
          rw [show M 13 2 = k from RD_k hR]
          refine G_iconst (n := 1) d_Re_readUnary_71 (by decide) (G_pc (pc' := 72) rfl ?_)
          refine G_iadd d_Re_readUnary_72 (by omega) (G_pc (pc' := 73) rfl ?_)
          refine G_putL (o := 13) (c := 4) (k := 2) (ki := 2) (x := k + 1) d_Re_readUnary_73 fl_Re_27 rfl rfl (by decide) (by decide) (by decide) rfl rfl (tokI (by omega)) rfl (G_pc (pc' := 76) rfl ?_)
          refine G_abs (R := fun M9 => RD e M0 M9 S (k + 1) o a) (RD_nk (RD_sk hR) (by omega)) (fun M66 hR67 => ?_)
          refine G_iload (i := 2) (n := 1) (len := 1) (Or.inl ⟨2, rfl, rfl, d_Re_readUnary_76⟩) rfl (G_pc (pc' := 77) rfl ?_)
          refine G_bipush (n := 45) d_Re_readUnary_77 (by decide) (G_pc (pc' := 79) rfl ?_)
          refine G_icmp_ne (tgt := 96) d_Re_readUnary_79 (by decide) (fun h68 => ?_) (fun h68 => G_pc (pc' := 82) rfl ?_)
          · skip
            refine G_aload (i := 0) (n := 2) (len := 1) (Or.inl ⟨0, rfl, rfl, d_Re_readUnary_96⟩) rfl (by decide) (G_pc (pc' := 97) rfl ?_)
            refine G_iload (i := 1) (n := 3) (len := 1) (Or.inl ⟨1, rfl, rfl, d_Re_readUnary_97⟩) rfl (G_pc (pc' := 98) rfl ?_)
            refine G_iconst (n := 1) d_Re_readUnary_98 (by decide) (G_pc (pc' := 99) rfl ?_)
            refine G_iadd d_Re_readUnary_99 (by omega) (G_pc (pc' := 100) rfl ?_)
            refine G_callV (K1 := KE) (d2 := d0) (o := 13) (cl := 4) (as := [vi (dep + 1)]) (rest := []) d_Re_readUnary_100 mf_Re_readUnary ml_Re_72 rfl rfl (by decide) rfl rfl (Nat.le_of_ble_eq_true rfl) (by omega) ⟨Nat.le_refl _, Nat.le_refl _⟩ (hC N S (k + 1) o a (dep + 1) M66 (by omega) hR67 (by omega) (by omega) (by omega) (by omega) (by omega)) (fun r69 M70 kq71 q71 => ?_)
            clear kq71
            rcases q71 with ⟨hE_72, rfl, hf_72, ho_72⟩ | ⟨k_72, N_72, S_72, o_72, a_72, c_72, hE_72, rfl, hR_72⟩
            · skip
              refine G_ps (pc' := 103) (st' := [vi (-1)]) rfl rfl ?_
              refine G_istore (i := 4) (len := 2) (ls' := [(4, vi (-1)), (3, vi (ucode (T k))), (2, vi (tcode (T k))), (0, vr 13), (1, vi dep)]) (Or.inr ⟨rfl, d_Re_readUnary_103⟩) (by decide) rfl (G_pc (pc' := 105) rfl ?_)
              refine G_iload (i := 4) (n := 0) (len := 2) (Or.inr ⟨rfl, d_Re_readUnary_105⟩) rfl (G_pc (pc' := 107) rfl ?_)
              refine G_iconst (n := (-1)) d_Re_readUnary_107 (by decide) (G_pc (pc' := 108) rfl ?_)
              refine G_icmp_ne (tgt := 115) d_Re_readUnary_108 (by decide) (fun h73 => absurd h73 (by decide)) (fun h73 => G_pc (pc' := 111) rfl ?_)
              refine G_iconst (n := (-1)) d_Re_readUnary_111 (by decide) (G_pc (pc' := 112) rfl ?_)
              refine G_goto (tgt := 126) d_Re_readUnary_112 (by decide) ?_
              refine G_iret d_Re_readUnary_126 rfl (tokI (by decide)) rfl rfl ?_
              exact Or.inl ⟨(un_op (by omega) (by omega)).trans (endU_n hE_72), rfl, hf_72, ho_72⟩
            · skip
              obtain ⟨⟨ja_72, jb_72, jc_72, jd_72, je_72, jf_72⟩, jg_72⟩ := hJ (k + 1) N S o a _ (by omega) (by omega) (by omega) hE_72
              have jc1_72 := jc_72.1; have jc2_72 := jc_72.2.1
              have jt_72 : ts S_72 = (S_72.length : Int) - 1 := rfl
              (try simp only [List.length_append, List.length_cons, List.length_nil, patch_len] at jc1_72 jc2_72)
              refine G_ps (pc' := 103) (st' := [vi (ts S_72)]) rfl rfl ?_
              refine G_istore (i := 4) (len := 2) (ls' := [(4, vi (ts S_72)), (3, vi (ucode (T k))), (2, vi (tcode (T k))), (0, vr 13), (1, vi dep)]) (Or.inr ⟨rfl, d_Re_readUnary_103⟩) (by decide) rfl (G_pc (pc' := 105) rfl ?_)
              refine G_iload (i := 4) (n := 0) (len := 2) (Or.inr ⟨rfl, d_Re_readUnary_105⟩) rfl (G_pc (pc' := 107) rfl ?_)
              refine G_iconst (n := (-1)) d_Re_readUnary_107 (by decide) (G_pc (pc' := 108) rfl ?_)
              refine G_icmp_ne (tgt := 115) d_Re_readUnary_108 (by decide) (fun h74 => ?_) (fun h74 => absurd h74 (by omega))
              refine G_aload (i := 0) (n := 3) (len := 1) (Or.inl ⟨0, rfl, rfl, d_Re_readUnary_115⟩) rfl (by decide) (G_pc (pc' := 116) rfl ?_)
              refine G_get (o := 13) (c := 4) (k := 1) (v := M70 13 1) d_Re_readUnary_116 fl_Re_18 rfl (by decide) (by decide) rfl rfl (G_pc (pc' := 119) rfl ?_)
              rw [show M70 13 1 = ((20 + 9 * e : Nat) : Int) from RD_st hR_72 he hst]
              refine G_iload (i := 3) (n := 1) (len := 1) (Or.inl ⟨3, rfl, rfl, d_Re_readUnary_119⟩) rfl (G_pc (pc' := 120) rfl ?_)
              refine G_iload (i := 4) (n := 0) (len := 2) (Or.inr ⟨rfl, d_Re_readUnary_120⟩) rfl (G_pc (pc' := 122) rfl ?_)
              refine G_iconst (n := 0) d_Re_readUnary_122 (by decide) (G_pc (pc' := 123) rfl ?_)
              refine G_callV (K1 := KE) (d2 := 1) (o := (20 + 9 * e)) (cl := 5) (as := [vi (ucode (T k)), vi (ts S_72), vi 0]) (rest := []) d_Re_readUnary_123 mf_St_add ml_Re_56 (kd_St he) rfl (by show 20 + 9 * e < 87; omega) rfl rfl (Nat.le_of_ble_eq_true rfl) (by omega) ⟨Nat.le_refl _, Nat.le_refl _⟩ (g_St_add (by omega) e (ucode (T k)) (ts S_72) 0 M70 he (by have h9 := RD_n hR_72; omega)) (fun r75 M76 kq77 q77 => ?_)
              clear kq77; obtain ⟨q77a, q77b⟩ := q77; subst r75; subst M76
              rw [RD_n hR_72]
              refine G_ps (pc' := 126) (st' := [vi ((S_72).length : Int)]) rfl rfl ?_
              refine G_abs (R := fun M9 => RD e M0 M9 (S_72 ++ [(ucode (T k), ts S_72, 0, 0, 0, 0)]) k_72 o_72 a_72) (RD_add hR_72 (by first | decide | omega) he) (fun M78 hR79 => ?_)
              have hl80 : ((S_72 ++ [(ucode (T k), ts S_72, 0, 0, 0, 0)]).length : Int) = (S_72).length + 1 := len_add _ _
              refine G_iret d_Re_readUnary_126 rfl (tokI (by omega)) rfl rfl ?_
              exact Or.inr ⟨_, _, _, _, _, _, (un_op (by omega) (by omega)).trans (endU_s hE_72), by rw [ts_add], hR79⟩
          · skip
            refine G_aload (i := 0) (n := 2) (len := 1) (Or.inl ⟨0, rfl, rfl, d_Re_readUnary_82⟩) rfl (by decide) (G_pc (pc' := 83) rfl ?_)
            refine G_callV (K1 := KE) (d2 := 1) (o := 13) (cl := 4) (as := []) (rest := []) d_Re_readUnary_83 mf_Re_isTooLarge ml_Re_102 rfl rfl (by decide) rfl rfl (Nat.le_of_ble_eq_true rfl) (by omega) ⟨Nat.le_refl _, Nat.le_refl _⟩ (g_Re_isTooLarge (by omega) e T W n M0 S (k + 1) o a M66 he hTR hR67 (by omega)) (fun r81 M82 kq83 q83 => ?_)
            clear kq83; obtain ⟨q83a, q83b⟩ := q83; subst r81; subst M82
            refine G_ps (pc' := 86) (st' := [vi (b2i (decide (T (k + 1) = 1 ∧ W (k + 1) = 2147483648)))]) rfl rfl ?_
            refine G_if_eq (tgt := 96) d_Re_readUnary_86 (by decide) (fun h84 => ?_) (fun h84 => G_pc (pc' := 89) rfl ?_)
            · skip
              replace h84 := b2i_0.mp h84
              replace h84 := of_decide_eq_false h84
              refine G_aload (i := 0) (n := 2) (len := 1) (Or.inl ⟨0, rfl, rfl, d_Re_readUnary_96⟩) rfl (by decide) (G_pc (pc' := 97) rfl ?_)
              refine G_iload (i := 1) (n := 3) (len := 1) (Or.inl ⟨1, rfl, rfl, d_Re_readUnary_97⟩) rfl (G_pc (pc' := 98) rfl ?_)
              refine G_iconst (n := 1) d_Re_readUnary_98 (by decide) (G_pc (pc' := 99) rfl ?_)
              refine G_iadd d_Re_readUnary_99 (by omega) (G_pc (pc' := 100) rfl ?_)
              refine G_callV (K1 := KE) (d2 := d0) (o := 13) (cl := 4) (as := [vi (dep + 1)]) (rest := []) d_Re_readUnary_100 mf_Re_readUnary ml_Re_72 rfl rfl (by decide) rfl rfl (Nat.le_of_ble_eq_true rfl) (by omega) ⟨Nat.le_refl _, Nat.le_refl _⟩ (hC N S (k + 1) o a (dep + 1) M66 (by omega) hR67 (by omega) (by omega) (by omega) (by omega) (by omega)) (fun r85 M86 kq87 q87 => ?_)
              clear kq87
              rcases q87 with ⟨hE_88, rfl, hf_88, ho_88⟩ | ⟨k_88, N_88, S_88, o_88, a_88, c_88, hE_88, rfl, hR_88⟩
              · skip
                refine G_ps (pc' := 103) (st' := [vi (-1)]) rfl rfl ?_
                refine G_istore (i := 4) (len := 2) (ls' := [(4, vi (-1)), (3, vi (ucode (T k))), (2, vi (tcode (T k))), (0, vr 13), (1, vi dep)]) (Or.inr ⟨rfl, d_Re_readUnary_103⟩) (by decide) rfl (G_pc (pc' := 105) rfl ?_)
                refine G_iload (i := 4) (n := 0) (len := 2) (Or.inr ⟨rfl, d_Re_readUnary_105⟩) rfl (G_pc (pc' := 107) rfl ?_)
                refine G_iconst (n := (-1)) d_Re_readUnary_107 (by decide) (G_pc (pc' := 108) rfl ?_)
                refine G_icmp_ne (tgt := 115) d_Re_readUnary_108 (by decide) (fun h89 => absurd h89 (by decide)) (fun h89 => G_pc (pc' := 111) rfl ?_)
                refine G_iconst (n := (-1)) d_Re_readUnary_111 (by decide) (G_pc (pc' := 112) rfl ?_)
                refine G_goto (tgt := 126) d_Re_readUnary_112 (by decide) ?_
                refine G_iret d_Re_readUnary_126 rfl (tokI (by decide)) rfl rfl ?_
                exact Or.inl ⟨(un_op (by omega) (by omega)).trans (endU_n hE_88), rfl, hf_88, ho_88⟩
              · skip
                obtain ⟨⟨ja_88, jb_88, jc_88, jd_88, je_88, jf_88⟩, jg_88⟩ := hJ (k + 1) N S o a _ (by omega) (by omega) (by omega) hE_88
                have jc1_88 := jc_88.1; have jc2_88 := jc_88.2.1
                have jt_88 : ts S_88 = (S_88.length : Int) - 1 := rfl
                (try simp only [List.length_append, List.length_cons, List.length_nil, patch_len] at jc1_88 jc2_88)
                refine G_ps (pc' := 103) (st' := [vi (ts S_88)]) rfl rfl ?_
                refine G_istore (i := 4) (len := 2) (ls' := [(4, vi (ts S_88)), (3, vi (ucode (T k))), (2, vi (tcode (T k))), (0, vr 13), (1, vi dep)]) (Or.inr ⟨rfl, d_Re_readUnary_103⟩) (by decide) rfl (G_pc (pc' := 105) rfl ?_)
                refine G_iload (i := 4) (n := 0) (len := 2) (Or.inr ⟨rfl, d_Re_readUnary_105⟩) rfl (G_pc (pc' := 107) rfl ?_)
                refine G_iconst (n := (-1)) d_Re_readUnary_107 (by decide) (G_pc (pc' := 108) rfl ?_)
                refine G_icmp_ne (tgt := 115) d_Re_readUnary_108 (by decide) (fun h90 => ?_) (fun h90 => absurd h90 (by omega))
                refine G_aload (i := 0) (n := 3) (len := 1) (Or.inl ⟨0, rfl, rfl, d_Re_readUnary_115⟩) rfl (by decide) (G_pc (pc' := 116) rfl ?_)
                refine G_get (o := 13) (c := 4) (k := 1) (v := M86 13 1) d_Re_readUnary_116 fl_Re_18 rfl (by decide) (by decide) rfl rfl (G_pc (pc' := 119) rfl ?_)
                rw [show M86 13 1 = ((20 + 9 * e : Nat) : Int) from RD_st hR_88 he hst]
                refine G_iload (i := 3) (n := 1) (len := 1) (Or.inl ⟨3, rfl, rfl, d_Re_readUnary_119⟩) rfl (G_pc (pc' := 120) rfl ?_)
                refine G_iload (i := 4) (n := 0) (len := 2) (Or.inr ⟨rfl, d_Re_readUnary_120⟩) rfl (G_pc (pc' := 122) rfl ?_)
                refine G_iconst (n := 0) d_Re_readUnary_122 (by decide) (G_pc (pc' := 123) rfl ?_)
                refine G_callV (K1 := KE) (d2 := 1) (o := (20 + 9 * e)) (cl := 5) (as := [vi (ucode (T k)), vi (ts S_88), vi 0]) (rest := []) d_Re_readUnary_123 mf_St_add ml_Re_56 (kd_St he) rfl (by show 20 + 9 * e < 87; omega) rfl rfl (Nat.le_of_ble_eq_true rfl) (by omega) ⟨Nat.le_refl _, Nat.le_refl _⟩ (g_St_add (by omega) e (ucode (T k)) (ts S_88) 0 M86 he (by have h9 := RD_n hR_88; omega)) (fun r91 M92 kq93 q93 => ?_)
                clear kq93; obtain ⟨q93a, q93b⟩ := q93; subst r91; subst M92
                rw [RD_n hR_88]
                refine G_ps (pc' := 126) (st' := [vi ((S_88).length : Int)]) rfl rfl ?_
                refine G_abs (R := fun M9 => RD e M0 M9 (S_88 ++ [(ucode (T k), ts S_88, 0, 0, 0, 0)]) k_88 o_88 a_88) (RD_add hR_88 (by first | decide | omega) he) (fun M94 hR95 => ?_)
                have hl96 : ((S_88 ++ [(ucode (T k), ts S_88, 0, 0, 0, 0)]).length : Int) = (S_88).length + 1 := len_add _ _
                refine G_iret d_Re_readUnary_126 rfl (tokI (by omega)) rfl rfl ?_
                exact Or.inr ⟨_, _, _, _, _, _, (un_op (by omega) (by omega)).trans (endU_s hE_88), by rw [ts_add], hR95⟩
            · skip
              replace h84 := b2i_nz.mp h84
              replace h84 := of_decide_eq_true h84
              refine G_aload (i := 0) (n := 2) (len := 1) (Or.inl ⟨0, rfl, rfl, d_Re_readUnary_89⟩) rfl (by decide) (G_pc (pc' := 90) rfl ?_)
              refine G_callV (K1 := KE) (d2 := 2) (o := 13) (cl := 4) (as := []) (rest := []) d_Re_readUnary_90 mf_Re_readConstant ml_Re_106 rfl rfl (by decide) rfl rfl (Nat.le_of_ble_eq_true rfl) (by omega) ⟨Nat.le_refl _, Nat.le_refl _⟩ (g_Re_readConstant (by omega) e T W n M0 S (k + 1) o a M66 he hTR hR67 hst (by omega) (by omega)) (fun r97 M98 kq99 q99 => ?_)
              clear kq99; obtain ⟨q99a, q99b⟩ := q99; subst r97
              refine G_ps (pc' := 93) (st' := [vi ((S).length : Int)]) rfl rfl ?_
              replace q99b := RD_nk q99b (show (k + 1) + 1 = k + 2 by omega)
              have hl100 : ((S ++ [(137, 0, 0, 0, tkind (T (k + 1)), tnum (T (k + 1)) (W (k + 1)))] : List SD).length : Int) = (S).length + 1 := len_add _ _
              refine G_goto (tgt := 103) d_Re_readUnary_93 (by decide) ?_
              refine G_istore (i := 4) (len := 2) (ls' := [(4, vi ((S).length : Int)), (3, vi (ucode (T k))), (2, vi (tcode (T k))), (0, vr 13), (1, vi dep)]) (Or.inr ⟨rfl, d_Re_readUnary_103⟩) (by decide) rfl (G_pc (pc' := 105) rfl ?_)
              refine G_iload (i := 4) (n := 0) (len := 2) (Or.inr ⟨rfl, d_Re_readUnary_105⟩) rfl (G_pc (pc' := 107) rfl ?_)
              refine G_iconst (n := (-1)) d_Re_readUnary_107 (by decide) (G_pc (pc' := 108) rfl ?_)
              refine G_icmp_ne (tgt := 115) d_Re_readUnary_108 (by decide) (fun h101 => ?_) (fun h101 => absurd h101 (by omega))
              refine G_aload (i := 0) (n := 3) (len := 1) (Or.inl ⟨0, rfl, rfl, d_Re_readUnary_115⟩) rfl (by decide) (G_pc (pc' := 116) rfl ?_)
              refine G_get (o := 13) (c := 4) (k := 1) (v := M98 13 1) d_Re_readUnary_116 fl_Re_18 rfl (by decide) (by decide) rfl rfl (G_pc (pc' := 119) rfl ?_)
              rw [show M98 13 1 = ((20 + 9 * e : Nat) : Int) from RD_st q99b he hst]
              refine G_iload (i := 3) (n := 1) (len := 1) (Or.inl ⟨3, rfl, rfl, d_Re_readUnary_119⟩) rfl (G_pc (pc' := 120) rfl ?_)
              refine G_iload (i := 4) (n := 0) (len := 2) (Or.inr ⟨rfl, d_Re_readUnary_120⟩) rfl (G_pc (pc' := 122) rfl ?_)
              refine G_iconst (n := 0) d_Re_readUnary_122 (by decide) (G_pc (pc' := 123) rfl ?_)
              refine G_callV (K1 := KE) (d2 := 1) (o := (20 + 9 * e)) (cl := 5) (as := [vi (ucode (T k)), vi ((S).length : Int), vi 0]) (rest := []) d_Re_readUnary_123 mf_St_add ml_Re_56 (kd_St he) rfl (by show 20 + 9 * e < 87; omega) rfl rfl (Nat.le_of_ble_eq_true rfl) (by omega) ⟨Nat.le_refl _, Nat.le_refl _⟩ (g_St_add (by omega) e (ucode (T k)) ((S).length : Int) 0 M98 he (by have h9 := RD_n q99b; omega)) (fun r102 M103 kq104 q104 => ?_)
              clear kq104; obtain ⟨q104a, q104b⟩ := q104; subst r102; subst M103
              rw [RD_n q99b]
              refine G_ps (pc' := 126) (st' := [vi (((S ++ [(137, 0, 0, 0, tkind (T (k + 1)), tnum (T (k + 1)) (W (k + 1)))])).length : Int)]) rfl rfl ?_
              refine G_abs (R := fun M9 => RD e M0 M9 ((S ++ [(137, 0, 0, 0, tkind (T (k + 1)), tnum (T (k + 1)) (W (k + 1)))]) ++ [(ucode (T k), ((S).length : Int), 0, 0, 0, 0)]) (k + 2) o a) (RD_add q99b (by first | decide | omega) he) (fun M105 hR106 => ?_)
              have hl107 : (((S ++ [(137, 0, 0, 0, tkind (T (k + 1)), tnum (T (k + 1)) (W (k + 1)))]) ++ [(ucode (T k), ((S).length : Int), 0, 0, 0, 0)]).length : Int) = ((S ++ [(137, 0, 0, 0, tkind (T (k + 1)), tnum (T (k + 1)) (W (k + 1)))])).length + 1 := len_add _ _
              refine G_iret d_Re_readUnary_126 rfl (tokI (by omega)) rfl rfl ?_
              have u1 : tkind (T (k + 1)) = 0 := (tk_0 _).mpr (by omega)
              have u2 : tnum (T (k + 1)) (W (k + 1)) = W (k + 1) := tn_1 _ (by omega)
              have u3 : ucode (T k) = 148 := by rw [show T k = 28 by omega]; rfl
              rw [u1, u2, u3] at hR106
              exact Or.inr ⟨_, _, _, _, _, _, un_big ⟨by omega, by omega, by omega⟩, by rw [u1, u2, ts_add], by rw [ts_add]; exact hR106⟩
        · skip
          refine G_aload (i := 0) (n := 2) (len := 1) (Or.inl ⟨0, rfl, rfl, d_Re_readUnary_60⟩) rfl (by decide) (G_pc (pc' := 61) rfl ?_)
          refine G_iload (i := 1) (n := 3) (len := 1) (Or.inl ⟨1, rfl, rfl, d_Re_readUnary_61⟩) rfl (G_pc (pc' := 62) rfl ?_)
          refine G_callV (K1 := KE) (d2 := d0) (o := 13) (cl := 4) (as := [vi dep]) (rest := []) d_Re_readUnary_62 mf_Re_readOperand ml_Re_99 rfl rfl (by decide) rfl rfl (Nat.le_of_ble_eq_true rfl) (by omega) ⟨Nat.le_refl _, Nat.le_refl _⟩ (hF N S k o a dep M (by omega) hR (by omega) (by omega) (by omega) (by omega) (by omega)) (fun r108 M109 kq110 q110 => ?_)
          clear kq110
          rcases q110 with ⟨hE_111, rfl, hf_111, ho_111⟩ | ⟨k_111, N_111, S_111, o_111, a_111, c_111, hE_111, rfl, hR_111⟩
          · skip
            refine G_ps (pc' := 65) (st' := [vi (-1)]) rfl rfl ?_
            refine G_iret d_Re_readUnary_65 rfl (tokI (by decide)) rfl rfl ?_
            exact Or.inl ⟨(un_none (by omega) (by omega)).trans hE_111, rfl, hf_111, ho_111⟩
          · skip
            obtain ⟨⟨ja_111, jb_111, jc_111, jd_111, je_111, jf_111⟩, jg_111⟩ := hJu k N S o a _ (by omega) (by omega) (by omega) ((un_none (c0 := 0) (by omega) (by omega)).trans hE_111)
            have jc1_111 := jc_111.1; have jc2_111 := jc_111.2.1
            have jt_111 : ts S_111 = (S_111.length : Int) - 1 := rfl
            (try simp only [List.length_append, List.length_cons, List.length_nil, patch_len] at jc1_111 jc2_111)
            refine G_ps (pc' := 65) (st' := [vi (ts S_111)]) rfl rfl ?_
            refine G_iret d_Re_readUnary_65 rfl (tokI (by omega)) rfl rfl ?_
            exact Or.inr ⟨_, _, _, _, _, _, (un_none (by omega) (by omega)).trans hE_111, rfl, hR_111⟩
      · skip
        refine G_aload (i := 0) (n := 1) (len := 1) (Or.inl ⟨0, rfl, rfl, d_Re_readUnary_45⟩) rfl (by decide) (G_pc (pc' := 46) rfl ?_)
        refine G_iload (i := 1) (n := 2) (len := 1) (Or.inl ⟨1, rfl, rfl, d_Re_readUnary_46⟩) rfl (G_pc (pc' := 47) rfl ?_)
        refine G_callV (K1 := KE) (d2 := (d0 + 1)) (o := 13) (cl := 4) (as := [vi dep]) (rest := []) d_Re_readUnary_47 mf_Re_readCast ml_Re_93 rfl rfl (by decide) rfl rfl (Nat.le_of_ble_eq_true rfl) (by omega) ⟨Nat.le_refl _, Nat.le_refl _⟩ (g_Re_readCast (by omega) e T W n M0 b N S k o a dep R d0 M he hTR hst hR (by omega) (by omega) (by omega) (by omega) (by omega) h10 (Nat.le_refl _) hC hJ (by omega) (by omega) (by omega)) (fun r112 M113 kq114 q114 => ?_)
        clear kq114
        rcases q114 with ⟨hE_115, rfl, hf_115, ho_115⟩ | ⟨k_115, N_115, S_115, o_115, a_115, c_115, hE_115, rfl, hR_115⟩
        · skip
          refine G_ps (pc' := 50) (st' := [vi (-1)]) rfl rfl ?_
          refine G_iret d_Re_readUnary_50 rfl (tokI (by decide)) rfl rfl ?_
          exact Or.inl ⟨(un_cast ⟨by omega, by omega, by omega⟩).trans hE_115, rfl, hf_115, ho_115⟩
        · skip
          obtain ⟨⟨ja_115, jb_115, jc_115, jd_115, je_115, jf_115⟩, jg_115⟩ := hJu k N S o a _ (by omega) (by omega) (by omega) ((un_cast (c0 := 0) ⟨by omega, by omega, by omega⟩).trans hE_115)
          have jc1_115 := jc_115.1; have jc2_115 := jc_115.2.1
          have jt_115 : ts S_115 = (S_115.length : Int) - 1 := rfl
          (try simp only [List.length_append, List.length_cons, List.length_nil, patch_len] at jc1_115 jc2_115)
          refine G_ps (pc' := 50) (st' := [vi (ts S_115)]) rfl rfl ?_
          refine G_iret d_Re_readUnary_50 rfl (tokI (by omega)) rfl rfl ?_
          exact Or.inr ⟨_, _, _, _, _, _, (un_cast ⟨by omega, by omega, by omega⟩).trans hE_115, rfl, hR_115⟩
  · skip
    refine G_iconst (n := (-1)) d_Re_readUnary_6 (by decide) (G_pc (pc' := 7) rfl ?_)
    refine G_iret d_Re_readUnary_7 rfl (tokI (by decide)) rfl rfl ?_
    exfalso; omega

