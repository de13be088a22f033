section EQ
variable {T W : Int → Int} {R B F L : DS → Option DS} {k o a c0 t : Int} {N : List ND} {S : List SD}
theorem right_an (h : t = 44 ∨ t = 46) (h2 : B (k, N, S ++ [(if t = 44 then 151 else 152, ts S, 0, 0, 0, 0)], o, a, 0) = none) : rightD B t N S (k, N, S, o, a, c0) = none := by simp only [rightD, if_pos h, h2]
theorem right_as {k2 o2 a2 c2 : Int} {N2 : List ND} {S2 : List SD} (h : t = 44 ∨ t = 46) (h2 : B (k, N, S ++ [(if t = 44 then 151 else 152, ts S, 0, 0, 0, 0)], o, a, 0) = some (k2, N2, S2, o2, a2, c2)) : rightD B t N S (k, N, S, o, a, c0) = some (k2, N2 ++ [(t, tp N, tp N2, -1, 0)], patchS S2 S.length S2.length ++ [(tcode t, ts S, ts S2, 0, 0, 0)], o2, a2, c2) := by simp only [rightD, if_pos h, h2]
theorem right_bn (h : ¬ (t = 44 ∨ t = 46)) (h2 : B (k, N, S, o, a, 0) = none) : rightD B t N S (k, N, S, o, a, c0) = none := by simp only [rightD, if_neg h, h2]
theorem right_bs {k2 o2 a2 c2 : Int} {N2 : List ND} {S2 : List SD} (h : ¬ (t = 44 ∨ t = 46)) (h2 : B (k, N, S, o, a, 0) = some (k2, N2, S2, o2, a2, c2)) : rightD B t N S (k, N, S, o, a, c0) = some (k2, N2 ++ [(t, tp N, tp N2, -1, 0)], S2 ++ [(tcode t, ts S, ts S2, 0, 0, 0)], o2, a2, c2) := by simp only [rightD, if_neg h, h2]
theorem endU_n {R : Option DS} {u c v : Int} (h : R = none) : R.bind (endUD u c v) = none := by rw [h]; rfl
theorem endU_s {R : Option DS} {u c v k2 o2 a2 c2 : Int} {N2 : List ND} {S2 : List SD} (h : R = some (k2, N2, S2, o2, a2, c2)) : R.bind (endUD u c v) = some (k2, N2 ++ [(u, tp N2, -1, -1, v)], S2 ++ [(c, ts S2, v, 0, 0, 0)], o2, a2, c2) := by rw [h]; rfl
theorem cast_a (h : T (k + 2) = 22) (h2 : T (k + 3) = 23) (h3 : T (k + 1) = 8 ∨ T (k + 1) = 9) (h4 : T (k + 4) = 21) : castD T W k = some (k + 5, castK (T (k + 1)) (W (k + 1)) true) := by
  unfold castD; rw [if_pos h, if_pos ⟨h2, h3, h4⟩]
theorem cast_an (h : T (k + 2) = 22) (h2 : ¬ (T (k + 3) = 23 ∧ (T (k + 1) = 8 ∨ T (k + 1) = 9) ∧ T (k + 4) = 21)) : castD T W k = none := by
  unfold castD; rw [if_pos h, if_neg h2]
theorem cast_b (h : ¬ T (k + 2) = 22) (h2 : T (k + 2) = 21) : castD T W k = some (k + 3, castK (T (k + 1)) (W (k + 1)) false) := by
  unfold castD; rw [if_neg h, if_pos h2]
theorem cast_bn (h : ¬ T (k + 2) = 22) (h2 : ¬ T (k + 2) = 21) : castD T W k = none := by
  unfold castD; rw [if_neg h, if_neg h2]
def castR (R : DS → Option DS) (N : List ND) (S : List SD) (o a : Int) : Option (Int × Int) → Option DS
  | none => none
  | some (k1, v) => (R (k1, N, S, o, a, 0)).bind (endUD 64 146 v)
theorem un_cast (h : T k = 20 ∧ 8 ≤ T (k + 1) ∧ T (k + 1) ≤ 12) : unaryD T W R F (k, N, S, o, a, c0) = castR R N S o a (castD T W k) := by
  unfold unaryD; simp only []; rw [if_pos h]; cases castD T W k <;> rfl
theorem un_big (h : T k = 28 ∧ T (k + 1) = 1 ∧ W (k + 1) = 2147483648) : unaryD T W R F (k, N, S, o, a, c0) = some (k + 2, N ++ [(1, -1, -1, -1, W (k + 1))] ++ [(128, tp (N ++ [(1, -1, -1, -1, W (k + 1))]), -1, -1, 0)], S ++ [(137, 0, 0, 0, 0, W (k + 1))] ++ [(148, ts (S ++ [(137, 0, 0, 0, 0, W (k + 1))]), 0, 0, 0, 0)], o, a, 0) := by
  unfold unaryD; simp only []; rw [if_neg (by omega), if_pos (by omega), if_pos h]; rfl
theorem un_op (h1 : T k = 27 ∨ T k = 28 ∨ T k = 32 ∨ T k = 33) (h : ¬ (T k = 28 ∧ T (k + 1) = 1 ∧ W (k + 1) = 2147483648)) : unaryD T W R F (k, N, S, o, a, c0) = (R (k + 1, N, S, o, a, 0)).bind (endUD (100 + T k) (ucode (T k)) 0) := by
  unfold unaryD; simp only []; rw [if_neg (by omega), if_pos h1, if_neg h]
theorem un_none (h : ¬ (T k = 20 ∧ 8 ≤ T (k + 1) ∧ T (k + 1) ≤ 12)) (h1 : ¬ (T k = 27 ∨ T k = 28 ∨ T k = 32 ∨ T k = 33)) : unaryD T W R F (k, N, S, o, a, c0) = F (k, N, S, o, a, c0) := by
  unfold unaryD; simp only []; rw [if_neg h, if_neg h1]
theorem ck_a8 (v : Int) : castK 8 v true = 11 + v := rfl
theorem ao_ck {t v : Int} (h : 8 ≤ t ∧ t ≤ 12) (hv : 0 ≤ v ∧ v < 6) : ((t = 8 ∨ t = 9) → aoD (castK t v false) = castK t v true ∧ 0 ≤ castK t v true ∧ castK t v true < 17) ∧ (¬ (t = 8 ∨ t = 9) → aoD (castK t v false) = -1) := by
  unfold aoD castK; grind
theorem uc_nz (t : Int) : ¬ ucode t = 137 ∧ (ucode t = 0 ↔ ¬ (t = 27 ∨ t = 28 ∨ t = 32 ∨ t = 33)) := by unfold ucode; grind
theorem uc_rng (t : Int) : 0 ≤ ucode t ∧ ucode t ≤ 148 := by unfold ucode; grind
theorem tc_n137 {t : Int} (h : 0 < bdV t) : ¬ tcode t = 137 := by
  have hb := bd_in h
  intro e
  have := (tc_137 (t := t) (by unfold okt; omega)).mp e
  omega
end EQ
theorem d_Re_readRight_0 : decode b_Re_readRight 0 = .ok (.iload_n 1, 1) := by decide +kernel
theorem d_Re_readRight_1 : decode b_Re_readRight 1 = .ok (.sipush 135, 3) := by decide +kernel
theorem d_Re_readRight_4 : decode b_Re_readRight 4 = .ok (.if_icmp .eq 47, 3) := by decide +kernel
theorem d_Re_readRight_7 : decode b_Re_readRight 7 = .ok (.iload_n 1, 1) := by decide +kernel
theorem d_Re_readRight_8 : decode b_Re_readRight 8 = .ok (.sipush 136, 3) := by decide +kernel
theorem d_Re_readRight_11 : decode b_Re_readRight 11 = .ok (.if_icmp .eq 40, 3) := by decide +kernel
theorem d_Re_readRight_14 : decode b_Re_readRight 14 = .ok (.aload_n 0, 1) := by decide +kernel
theorem d_Re_readRight_15 : decode b_Re_readRight 15 = .ok (.iload_n 1, 1) := by decide +kernel
theorem d_Re_readRight_16 : decode b_Re_readRight 16 = .ok (.invokestatic 75, 3) := by decide +kernel
theorem d_Re_readRight_19 : decode b_Re_readRight 19 = .ok (.iconst 1, 1) := by decide +kernel
theorem d_Re_readRight_20 : decode b_Re_readRight 20 = .ok (.iadd, 1) := by decide +kernel
theorem d_Re_readRight_21 : decode b_Re_readRight 21 = .ok (.iload_n 3, 1) := by decide +kernel
theorem d_Re_readRight_22 : decode b_Re_readRight 22 = .ok (.iconst 1, 1) := by decide +kernel
theorem d_Re_readRight_23 : decode b_Re_readRight 23 = .ok (.iadd, 1) := by decide +kernel
theorem d_Re_readRight_24 : decode b_Re_readRight 24 = .ok (.invokevirtual 48, 3) := by decide +kernel
theorem d_Re_readRight_27 : decode b_Re_readRight 27 = .ok (.istore 4, 2) := by decide +kernel
theorem d_Re_readRight_29 : decode b_Re_readRight 29 = .ok (.iload 4, 2) := by decide +kernel
theorem d_Re_readRight_31 : decode b_Re_readRight 31 = .ok (.iconst (-1), 1) := by decide +kernel
theorem d_Re_readRight_32 : decode b_Re_readRight 32 = .ok (.if_icmp .ne 7, 3) := by decide +kernel
theorem d_Re_readRight_35 : decode b_Re_readRight 35 = .ok (.iconst (-1), 1) := by decide +kernel
theorem d_Re_readRight_36 : decode b_Re_readRight 36 = .ok (.goto 14, 3) := by decide +kernel
theorem d_Re_readRight_39 : decode b_Re_readRight 39 = .ok (.aload_n 0, 1) := by decide +kernel
theorem d_Re_readRight_40 : decode b_Re_readRight 40 = .ok (.getfield 18, 3) := by decide +kernel
theorem d_Re_readRight_43 : decode b_Re_readRight 43 = .ok (.iload_n 1, 1) := by decide +kernel
theorem d_Re_readRight_44 : decode b_Re_readRight 44 = .ok (.iload_n 2, 1) := by decide +kernel
theorem d_Re_readRight_45 : decode b_Re_readRight 45 = .ok (.iload 4, 2) := by decide +kernel
theorem d_Re_readRight_47 : decode b_Re_readRight 47 = .ok (.invokevirtual 56, 3) := by decide +kernel
theorem d_Re_readRight_50 : decode b_Re_readRight 50 = .ok (.ireturn, 1) := by decide +kernel
theorem d_Re_readRight_51 : decode b_Re_readRight 51 = .ok (.aload_n 0, 1) := by decide +kernel
theorem d_Re_readRight_52 : decode b_Re_readRight 52 = .ok (.getfield 18, 3) := by decide +kernel
theorem d_Re_readRight_55 : decode b_Re_readRight 55 = .ok (.iload_n 1, 1) := by decide +kernel
theorem d_Re_readRight_56 : decode b_Re_readRight 56 = .ok (.sipush 135, 3) := by decide +kernel
theorem d_Re_readRight_59 : decode b_Re_readRight 59 = .ok (.if_icmp .ne 9, 3) := by decide +kernel
theorem d_Re_readRight_62 : decode b_Re_readRight 62 = .ok (.sipush 151, 3) := by decide +kernel
theorem d_Re_readRight_65 : decode b_Re_readRight 65 = .ok (.goto 6, 3) := by decide +kernel
theorem d_Re_readRight_68 : decode b_Re_readRight 68 = .ok (.sipush 152, 3) := by decide +kernel
theorem d_Re_readRight_71 : decode b_Re_readRight 71 = .ok (.iload_n 2, 1) := by decide +kernel
theorem d_Re_readRight_72 : decode b_Re_readRight 72 = .ok (.iconst 0, 1) := by decide +kernel
theorem d_Re_readRight_73 : decode b_Re_readRight 73 = .ok (.invokevirtual 56, 3) := by decide +kernel
theorem d_Re_readRight_76 : decode b_Re_readRight 76 = .ok (.istore 4, 2) := by decide +kernel
theorem d_Re_readRight_78 : decode b_Re_readRight 78 = .ok (.iload 4, 2) := by decide +kernel
theorem d_Re_readRight_80 : decode b_Re_readRight 80 = .ok (.iconst (-1), 1) := by decide +kernel
theorem d_Re_readRight_81 : decode b_Re_readRight 81 = .ok (.if_icmp .ne 7, 3) := by decide +kernel
theorem d_Re_readRight_88 : decode b_Re_readRight 88 = .ok (.aload_n 0, 1) := by decide +kernel
theorem d_Re_readRight_89 : decode b_Re_readRight 89 = .ok (.iload_n 1, 1) := by decide +kernel
theorem d_Re_readRight_90 : decode b_Re_readRight 90 = .ok (.invokestatic 75, 3) := by decide +kernel
theorem d_Re_readRight_93 : decode b_Re_readRight 93 = .ok (.iconst 1, 1) := by decide +kernel
theorem d_Re_readRight_94 : decode b_Re_readRight 94 = .ok (.iadd, 1) := by decide +kernel
theorem d_Re_readRight_95 : decode b_Re_readRight 95 = .ok (.iload_n 3, 1) := by decide +kernel
theorem d_Re_readRight_96 : decode b_Re_readRight 96 = .ok (.iconst 1, 1) := by decide +kernel
theorem d_Re_readRight_97 : decode b_Re_readRight 97 = .ok (.iadd, 1) := by decide +kernel
theorem d_Re_readRight_98 : decode b_Re_readRight 98 = .ok (.invokevirtual 48, 3) := by decide +kernel
theorem d_Re_readRight_101 : decode b_Re_readRight 101 = .ok (.istore 5, 2) := by decide +kernel
theorem d_Re_readRight_103 : decode b_Re_readRight 103 = .ok (.iload 5, 2) := by decide +kernel
theorem d_Re_readRight_105 : decode b_Re_readRight 105 = .ok (.iconst (-1), 1) := by decide +kernel
theorem d_Re_readRight_106 : decode b_Re_readRight 106 = .ok (.if_icmp .ne 5, 3) := by decide +kernel
theorem d_Re_readRight_109 : decode b_Re_readRight 109 = .ok (.iconst (-1), 1) := by decide +kernel
theorem d_Re_readRight_110 : decode b_Re_readRight 110 = .ok (.ireturn, 1) := by decide +kernel
theorem d_Re_readRight_111 : decode b_Re_readRight 111 = .ok (.aload_n 0, 1) := by decide +kernel
theorem d_Re_readRight_112 : decode b_Re_readRight 112 = .ok (.getfield 18, 3) := by decide +kernel
theorem d_Re_readRight_115 : decode b_Re_readRight 115 = .ok (.iload 4, 2) := by decide +kernel
theorem d_Re_readRight_117 : decode b_Re_readRight 117 = .ok (.aload_n 0, 1) := by decide +kernel
theorem d_Re_readRight_118 : decode b_Re_readRight 118 = .ok (.getfield 18, 3) := by decide +kernel
theorem d_Re_readRight_121 : decode b_Re_readRight 121 = .ok (.invokevirtual 60, 3) := by decide +kernel
theorem d_Re_readRight_124 : decode b_Re_readRight 124 = .ok (.invokevirtual 64, 3) := by decide +kernel
theorem d_Re_readRight_127 : decode b_Re_readRight 127 = .ok (.aload_n 0, 1) := by decide +kernel
theorem d_Re_readRight_128 : decode b_Re_readRight 128 = .ok (.getfield 18, 3) := by decide +kernel
theorem d_Re_readRight_131 : decode b_Re_readRight 131 = .ok (.iload_n 1, 1) := by decide +kernel
theorem d_Re_readRight_132 : decode b_Re_readRight 132 = .ok (.iload_n 2, 1) := by decide +kernel
theorem d_Re_readRight_133 : decode b_Re_readRight 133 = .ok (.iload 5, 2) := by decide +kernel
theorem d_Re_readRight_135 : decode b_Re_readRight 135 = .ok (.invokevirtual 56, 3) := by decide +kernel
theorem d_Re_readRight_138 : decode b_Re_readRight 138 = .ok (.ireturn, 1) := by decide +kernel
set_option maxHeartbeats 400000 in
theorem g_Re_readRight {X : WX} {d : Nat} (hd : 2 ≤ d) (e : Nat) (T W : Int → Int) (n : Int) (M0 : Mem) (b : Int) (N : List ND) (S : List SD) (k o a dep : Int) (R : DS → Option DS) (t : Int) (d0 : Nat) (M : Mem) (he : e < 4) (hTR : TR M0 T W n) (hst : M0 13 1 = ((20 + 9 * e : Nat) : Int)) (hR : RD e M0 M S k o a) (hk : 0 ≤ k ∧ k ≤ n) (ho : 0 ≤ o ∧ o ≤ 6) (ha : 0 ≤ a ∧ a ≤ 4) (hS : (S.length : Int) + 2 ≤ 2 * k) (hS1 : 1 ≤ S.length) (hdep : 0 ≤ dep ∧ dep + 1 ≤ k) (h10 : 10 ≤ d0) (hd0 : d0 + 1 ≤ d) (hokt : okt t) (hbd : 0 < bdV t) (hC : CB X d0 e n M0 b R (bdV t + 1)) (hJ : J1 n R) (hb : 5 * (n - k) + 4 ≤ b) : MG X gt d KE KE y_Re_readRight b_Re_readRight 6 (some .int) [vr 13, vi (tcode t), vi (ts S), vi dep] M (RQ e M0 o (rightD R t N S (k, N, S, o, a, 0))) := by
  refine MG_of_G (by decide) (Nat.le_of_ble_eq_true rfl) (Nat.le_refl _) (by decide) ?_
  show G X gt d KE KE y_Re_readRight b_Re_readRight 6 (some .int) _ 0 [(0, vr 13), (1, vi (tcode t)), (2, vi (ts S)), (3, vi dep)] [] KE M
  have hn2 := hTR.2.1
  have tz1 := tc_135 hokt
  have tz2 := tc_136 hokt
  have tz3 := tc_n137 hbd
  have tz4 := bd_in hbd
  have tz5 := tcode_rng hokt
  have hts : ts S = (S.length : Int) - 1 := rfl
  refine G_iload (i := 1) (n := 1) (len := 1) (Or.inl ⟨1, rfl, rfl, d_Re_readRight_0⟩) rfl (G_pc (pc' := 1) rfl ?_)
  refine G_sipush (n := 135) d_Re_readRight_1 (by decide) (G_pc (pc' := 4) rfl ?_)
  refine G_icmp_eq (tgt := 51) d_Re_readRight_4 (by decide) (fun h1 => ?_) (fun h1 => G_pc (pc' := 7) rfl ?_)
  · skip
    refine G_aload (i := 0) (n := 0) (len := 1) (Or.inl ⟨0, rfl, rfl, d_Re_readRight_51⟩) rfl (by decide) (G_pc (pc' := 52) rfl ?_)
    refine G_get (o := 13) (c := 4) (k := 1) (v := M 13 1) d_Re_readRight_52 fl_Re_18 rfl (by decide) (by decide) rfl rfl (G_pc (pc' := 55) rfl ?_)
    rw [show M 13 1 = ((20 + 9 * e : Nat) : Int) from RD_st hR he hst]
    refine G_iload (i := 1) (n := 1) (len := 1) (Or.inl ⟨1, rfl, rfl, d_Re_readRight_55⟩) rfl (G_pc (pc' := 56) rfl ?_)
    refine G_sipush (n := 135) d_Re_readRight_56 (by decide) (G_pc (pc' := 59) rfl ?_)
    refine G_icmp_ne (tgt := 68) d_Re_readRight_59 (by decide) (fun h2 => ?_) (fun h2 => G_pc (pc' := 62) rfl ?_)
    · skip
      refine G_sipush (n := 152) d_Re_readRight_68 (by decide) (G_pc (pc' := 71) rfl ?_)
      refine G_iload (i := 2) (n := 2) (len := 1) (Or.inl ⟨2, rfl, rfl, d_Re_readRight_71⟩) rfl (G_pc (pc' := 72) rfl ?_)
      refine G_iconst (n := 0) d_Re_readRight_72 (by decide) (G_pc (pc' := 73) rfl ?_)
      refine G_callV (K1 := KE) (d2 := 1) (o := (20 + 9 * e)) (cl := 5) (as := [vi 152, vi (ts S), vi 0]) (rest := []) d_Re_readRight_73 mf_St_add ml_Re_56 (kd_St he) rfl (by show 20 + 9 * e < 87; omega) rfl rfl (Nat.le_of_ble_eq_true rfl) (by omega) ⟨Nat.le_refl _, Nat.le_refl _⟩ (g_St_add (by omega) e 152 (ts S) 0 M he (by have h9 := RD_n hR; omega)) (fun r3 M4 kq5 q5 => ?_)
      clear kq5; obtain ⟨q5a, q5b⟩ := q5; subst r3; subst M4
      rw [RD_n hR]
      refine G_ps (pc' := 76) (st' := [vi ((S).length : Int)]) rfl rfl ?_
      refine G_abs (R := fun M9 => RD e M0 M9 (S ++ [(152, ts S, 0, 0, 0, 0)]) k o a) (RD_add hR (by first | decide | omega) he) (fun M6 hR7 => ?_)
      have hl8 : ((S ++ [(152, ts S, 0, 0, 0, 0)]).length : Int) = (S).length + 1 := len_add _ _
      refine G_istore (i := 4) (len := 2) (ls' := [(4, vi ((S).length : Int)), (0, vr 13), (1, vi (tcode t)), (2, vi (ts S)), (3, vi dep)]) (Or.inr ⟨rfl, d_Re_readRight_76⟩) (by decide) rfl (G_pc (pc' := 78) rfl ?_)
      refine G_iload (i := 4) (n := 0) (len := 2) (Or.inr ⟨rfl, d_Re_readRight_78⟩) rfl (G_pc (pc' := 80) rfl ?_)
      refine G_iconst (n := (-1)) d_Re_readRight_80 (by decide) (G_pc (pc' := 81) rfl ?_)
      refine G_icmp_ne (tgt := 88) d_Re_readRight_81 (by decide) (fun h9 => ?_) (fun h9 => absurd h9 (by omega))
      refine G_aload (i := 0) (n := 1) (len := 1) (Or.inl ⟨0, rfl, rfl, d_Re_readRight_88⟩) rfl (by decide) (G_pc (pc' := 89) rfl ?_)
      refine G_iload (i := 1) (n := 2) (len := 1) (Or.inl ⟨1, rfl, rfl, d_Re_readRight_89⟩) rfl (G_pc (pc' := 90) rfl ?_)
      refine G_callS (K1 := KE) (d2 := 0) (as := [vi (tcode t)]) (rest := [vr 13]) d_Re_readRight_90 mf_Re_levelOf ml_Re_75 rfl rfl (Nat.le_of_ble_eq_true rfl) (by omega) ⟨Nat.le_refl _, Nat.le_refl _⟩ (g_Re_levelOf (by omega) (tcode t) M6) (fun r10 M11 kq12 q12 => ?_)
      clear kq12; obtain ⟨q12a, q12b⟩ := q12; subst r10; subst M11
      rw [lv_t hokt]
      refine G_ps (pc' := 93) (st' := [vi (bq t), vr 13]) rfl rfl ?_
      have hb13 := bq_rng t
      refine G_iconst (n := 1) d_Re_readRight_93 (by decide) (G_pc (pc' := 94) rfl ?_)
      refine G_iadd d_Re_readRight_94 (by omega) (G_pc (pc' := 95) rfl ?_)
      rw [show (bq t) + 1 = bdV t + 1 from by rw [bq_13 (by omega)]]
      refine G_iload (i := 3) (n := 4) (len := 1) (Or.inl ⟨3, rfl, rfl, d_Re_readRight_95⟩) rfl (G_pc (pc' := 96) rfl ?_)
      refine G_iconst (n := 1) d_Re_readRight_96 (by decide) (G_pc (pc' := 97) rfl ?_)
      refine G_iadd d_Re_readRight_97 (by omega) (G_pc (pc' := 98) rfl ?_)
      refine G_callV (K1 := KE) (d2 := d0) (o := 13) (cl := 4) (as := [vi (bdV t + 1), vi (dep + 1)]) (rest := []) d_Re_readRight_98 mf_Re_readBinary ml_Re_48 rfl rfl (by decide) rfl rfl (Nat.le_of_ble_eq_true rfl) (by omega) ⟨Nat.le_refl _, Nat.le_refl _⟩ (hC N (S ++ [(152, ts S, 0, 0, 0, 0)]) k o a (dep + 1) M6 (by omega) hR7 (by omega) (by omega) (by omega) (by (try simp only [List.length_append, List.length_cons, List.length_nil]); omega) (by omega)) (fun r14 M15 kq16 q16 => ?_)
      clear kq16
      rcases q16 with ⟨hE_17, rfl, hf_17, ho_17⟩ | ⟨k_17, N_17, S_17, o_17, a_17, c_17, hE_17, rfl, hR_17⟩
      · skip
        refine G_ps (pc' := 101) (st' := [vi (-1)]) rfl rfl ?_
        refine G_istore (i := 5) (len := 2) (ls' := [(5, vi (-1)), (4, vi ((S).length : Int)), (0, vr 13), (1, vi (tcode t)), (2, vi (ts S)), (3, vi dep)]) (Or.inr ⟨rfl, d_Re_readRight_101⟩) (by decide) rfl (G_pc (pc' := 103) rfl ?_)
        refine G_iload (i := 5) (n := 0) (len := 2) (Or.inr ⟨rfl, d_Re_readRight_103⟩) rfl (G_pc (pc' := 105) rfl ?_)
        refine G_iconst (n := (-1)) d_Re_readRight_105 (by decide) (G_pc (pc' := 106) rfl ?_)
        refine G_icmp_ne (tgt := 111) d_Re_readRight_106 (by decide) (fun h18 => absurd h18 (by decide)) (fun h18 => G_pc (pc' := 109) rfl ?_)
        refine G_iconst (n := (-1)) d_Re_readRight_109 (by decide) (G_pc (pc' := 110) rfl ?_)
        refine G_iret d_Re_readRight_110 rfl (tokI (by decide)) rfl rfl ?_
        exact Or.inl ⟨right_an (by omega) (by first | exact hE_17 | (rw [if_pos (by omega)]; exact hE_17) | (rw [if_neg (by omega)]; exact hE_17)), rfl, hf_17, ho_17⟩
      · skip
        obtain ⟨⟨ja_17, jb_17, jc_17, jd_17, je_17, jf_17⟩, jg_17⟩ := hJ k N (S ++ [(152, ts S, 0, 0, 0, 0)]) o a _ (by omega) (by omega) (by omega) hE_17
        have jc1_17 := jc_17.1; have jc2_17 := jc_17.2.1
        have jt_17 : ts S_17 = (S_17.length : Int) - 1 := rfl
        (try simp only [List.length_append, List.length_cons, List.length_nil, patch_len] at jc1_17 jc2_17)
        refine G_ps (pc' := 101) (st' := [vi (ts S_17)]) rfl rfl ?_
        refine G_istore (i := 5) (len := 2) (ls' := [(5, vi (ts S_17)), (4, vi ((S).length : Int)), (0, vr 13), (1, vi (tcode t)), (2, vi (ts S)), (3, vi dep)]) (Or.inr ⟨rfl, d_Re_readRight_101⟩) (by decide) rfl (G_pc (pc' := 103) rfl ?_)
        refine G_iload (i := 5) (n := 0) (len := 2) (Or.inr ⟨rfl, d_Re_readRight_103⟩) rfl (G_pc (pc' := 105) rfl ?_)
        refine G_iconst (n := (-1)) d_Re_readRight_105 (by decide) (G_pc (pc' := 106) rfl ?_)
        refine G_icmp_ne (tgt := 111) d_Re_readRight_106 (by decide) (fun h19 => ?_) (fun h19 => absurd h19 (by omega))
        refine G_aload (i := 0) (n := 2) (len := 1) (Or.inl ⟨0, rfl, rfl, d_Re_readRight_111⟩) rfl (by decide) (G_pc (pc' := 112) rfl ?_)
        refine G_get (o := 13) (c := 4) (k := 1) (v := M15 13 1) d_Re_readRight_112 fl_Re_18 rfl (by decide) (by decide) rfl rfl (G_pc (pc' := 115) rfl ?_)
        rw [show M15 13 1 = ((20 + 9 * e : Nat) : Int) from RD_st hR_17 he hst]
        refine G_iload (i := 4) (n := 1) (len := 2) (Or.inr ⟨rfl, d_Re_readRight_115⟩) rfl (G_pc (pc' := 117) rfl ?_)
        refine G_aload (i := 0) (n := 2) (len := 1) (Or.inl ⟨0, rfl, rfl, d_Re_readRight_117⟩) rfl (by decide) (G_pc (pc' := 118) rfl ?_)
        refine G_get (o := 13) (c := 4) (k := 1) (v := M15 13 1) d_Re_readRight_118 fl_Re_18 rfl (by decide) (by decide) rfl rfl (G_pc (pc' := 121) rfl ?_)
        rw [show M15 13 1 = ((20 + 9 * e : Nat) : Int) from RD_st hR_17 he hst]
        refine G_callV (K1 := KE) (d2 := 0) (o := (20 + 9 * e)) (cl := 5) (as := []) (rest := [vi ((S).length : Int), vr ((20 + 9 * e : Nat) : Int)]) d_Re_readRight_121 mf_St_size ml_Re_60 (kd_St he) rfl (by show 20 + 9 * e < 87; omega) rfl rfl (Nat.le_of_ble_eq_true rfl) (by omega) ⟨Nat.le_refl _, Nat.le_refl _⟩ (g_St_size (by omega) e M15 he) (fun r20 M21 kq22 q22 => ?_)
        clear kq22; obtain ⟨q22a, q22b⟩ := q22; subst r20; subst M21
        rw [RD_n hR_17]
        refine G_ps (pc' := 124) (st' := [vi ((S_17).length : Int), vi ((S).length : Int), vr ((20 + 9 * e : Nat) : Int)]) rfl rfl ?_
        refine G_callV (K1 := KE) (d2 := 0) (o := (20 + 9 * e)) (cl := 5) (as := [vi ((S).length : Int), vi ((S_17).length : Int)]) (rest := []) d_Re_readRight_124 mf_St_leadSkip ml_Re_64 (kd_St he) rfl (by show 20 + 9 * e < 87; omega) rfl rfl (Nat.le_of_ble_eq_true rfl) (by omega) ⟨Nat.le_refl _, Nat.le_refl _⟩ (g_St_leadSkip (by omega) e ((S).length : Int) ((S_17).length : Int) M15 he (by omega)) (fun r23 M24 kq25 q25 => ?_)
        clear kq25; obtain ⟨q25a, q25b⟩ := q25; subst r23; subst M24
        refine G_ps (pc' := 127) (st' := []) rfl rfl ?_
        refine G_abs (R := fun M9 => RD e M0 M9 (patchS S_17 (S).length ((S_17).length : Int)) k_17 o_17 a_17) (RD_lead (i := (S).length) hR_17 he (by simp only [List.length_append, List.length_cons, List.length_nil, patch_len] at *; omega)) (fun M26 hR27 => ?_)
        have hl28 : ((patchS S_17 (S).length ((S_17).length : Int))).length = (S_17).length := patch_len
        refine G_aload (i := 0) (n := 2) (len := 1) (Or.inl ⟨0, rfl, rfl, d_Re_readRight_127⟩) rfl (by decide) (G_pc (pc' := 128) rfl ?_)
        refine G_get (o := 13) (c := 4) (k := 1) (v := M26 13 1) d_Re_readRight_128 fl_Re_18 rfl (by decide) (by decide) rfl rfl (G_pc (pc' := 131) rfl ?_)
        rw [show M26 13 1 = ((20 + 9 * e : Nat) : Int) from RD_st hR27 he hst]
        refine G_iload (i := 1) (n := 3) (len := 1) (Or.inl ⟨1, rfl, rfl, d_Re_readRight_131⟩) rfl (G_pc (pc' := 132) rfl ?_)
        refine G_iload (i := 2) (n := 4) (len := 1) (Or.inl ⟨2, rfl, rfl, d_Re_readRight_132⟩) rfl (G_pc (pc' := 133) rfl ?_)
        refine G_iload (i := 5) (n := 0) (len := 2) (Or.inr ⟨rfl, d_Re_readRight_133⟩) rfl (G_pc (pc' := 135) rfl ?_)
        refine G_callV (K1 := KE) (d2 := 1) (o := (20 + 9 * e)) (cl := 5) (as := [vi (tcode t), vi (ts S), vi (ts S_17)]) (rest := []) d_Re_readRight_135 mf_St_add ml_Re_56 (kd_St he) rfl (by show 20 + 9 * e < 87; omega) rfl rfl (Nat.le_of_ble_eq_true rfl) (by omega) ⟨Nat.le_refl _, Nat.le_refl _⟩ (g_St_add (by omega) e (tcode t) (ts S) (ts S_17) M26 he (by have h9 := RD_n hR27; omega)) (fun r29 M30 kq31 q31 => ?_)
        clear kq31; obtain ⟨q31a, q31b⟩ := q31; subst r29; subst M30
        rw [RD_n hR27]
        refine G_ps (pc' := 138) (st' := [vi (((patchS S_17 (S).length ((S_17).length : Int))).length : Int)]) rfl rfl ?_
        refine G_abs (R := fun M9 => RD e M0 M9 ((patchS S_17 (S).length ((S_17).length : Int)) ++ [(tcode t, ts S, ts S_17, 0, 0, 0)]) k_17 o_17 a_17) (RD_add hR27 (by first | decide | omega) he) (fun M32 hR33 => ?_)
        have hl34 : (((patchS S_17 (S).length ((S_17).length : Int)) ++ [(tcode t, ts S, ts S_17, 0, 0, 0)]).length : Int) = ((patchS S_17 (S).length ((S_17).length : Int))).length + 1 := len_add _ _
        refine G_iret d_Re_readRight_138 rfl (tokI (by omega)) rfl rfl ?_
        exact Or.inr ⟨_, _, _, _, _, _, right_as (by omega) (by first | exact hE_17 | (rw [if_pos (by omega)]; exact hE_17) | (rw [if_neg (by omega)]; exact hE_17)), by rw [ts_add], hR33⟩
    · skip
      refine G_sipush (n := 151) d_Re_readRight_62 (by decide) (G_pc (pc' := 65) rfl ?_)
      refine G_goto (tgt := 71) d_Re_readRight_65 (by decide) ?_
      refine G_iload (i := 2) (n := 2) (len := 1) (Or.inl ⟨2, rfl, rfl, d_Re_readRight_71⟩) rfl (G_pc (pc' := 72) rfl ?_)
      refine G_iconst (n := 0) d_Re_readRight_72 (by decide) (G_pc (pc' := 73) rfl ?_)
      refine G_callV (K1 := KE) (d2 := 1) (o := (20 + 9 * e)) (cl := 5) (as := [vi 151, vi (ts S), vi 0]) (rest := []) d_Re_readRight_73 mf_St_add ml_Re_56 (kd_St he) rfl (by show 20 + 9 * e < 87; omega) rfl rfl (Nat.le_of_ble_eq_true rfl) (by omega) ⟨Nat.le_refl _, Nat.le_refl _⟩ (g_St_add (by omega) e 151 (ts S) 0 M he (by have h9 := RD_n hR; omega)) (fun r35 M36 kq37 q37 => ?_)
      clear kq37; obtain ⟨q37a, q37b⟩ := q37; subst r35; subst M36
      rw [RD_n hR]
      refine G_ps (pc' := 76) (st' := [vi ((S).length : Int)]) rfl rfl ?_
      refine G_abs (R := fun M9 => RD e M0 M9 (S ++ [(151, ts S, 0, 0, 0, 0)]) k o a) (RD_add hR (by first | decide | omega) he) (fun M38 hR39 => ?_)
      have hl40 : ((S ++ [(151, ts S, 0, 0, 0, 0)]).length : Int) = (S).length + 1 := len_add _ _
      refine G_istore (i := 4) (len := 2) (ls' := [(4, vi ((S).length : Int)), (0, vr 13), (1, vi (tcode t)), (2, vi (ts S)), (3, vi dep)]) (Or.inr ⟨rfl, d_Re_readRight_76⟩) (by decide) rfl (G_pc (pc' := 78) rfl ?_)
      refine G_iload (i := 4) (n := 0) (len := 2) (Or.inr ⟨rfl, d_Re_readRight_78⟩) rfl (G_pc (pc' := 80) rfl ?_)
      refine G_iconst (n := (-1)) d_Re_readRight_80 (by decide) (G_pc (pc' := 81) rfl ?_)
      refine G_icmp_ne (tgt := 88) d_Re_readRight_81 (by decide) (fun h41 => ?_) (fun h41 => absurd h41 (by omega))
      refine G_aload (i := 0) (n := 1) (len := 1) (Or.inl ⟨0, rfl, rfl, d_Re_readRight_88⟩) rfl (by decide) (G_pc (pc' := 89) rfl ?_)
      refine G_iload (i := 1) (n := 2) (len := 1) (Or.inl ⟨1, rfl, rfl, d_Re_readRight_89⟩) rfl (G_pc (pc' := 90) rfl ?_)
      refine G_callS (K1 := KE) (d2 := 0) (as := [vi (tcode t)]) (rest := [vr 13]) d_Re_readRight_90 mf_Re_levelOf ml_Re_75 rfl rfl (Nat.le_of_ble_eq_true rfl) (by omega) ⟨Nat.le_refl _, Nat.le_refl _⟩ (g_Re_levelOf (by omega) (tcode t) M38) (fun r42 M43 kq44 q44 => ?_)
      clear kq44; obtain ⟨q44a, q44b⟩ := q44; subst r42; subst M43
      rw [lv_t hokt]
      refine G_ps (pc' := 93) (st' := [vi (bq t), vr 13]) rfl rfl ?_
      have hb45 := bq_rng t
      refine G_iconst (n := 1) d_Re_readRight_93 (by decide) (G_pc (pc' := 94) rfl ?_)
      refine G_iadd d_Re_readRight_94 (by omega) (G_pc (pc' := 95) rfl ?_)
      rw [show (bq t) + 1 = bdV t + 1 from by rw [bq_13 (by omega)]]
      refine G_iload (i := 3) (n := 4) (len := 1) (Or.inl ⟨3, rfl, rfl, d_Re_readRight_95⟩) rfl (G_pc (pc' := 96) rfl ?_)
      refine G_iconst (n := 1) d_Re_readRight_96 (by decide) (G_pc (pc' := 97) rfl ?_)
      refine G_iadd d_Re_readRight_97 (by omega) (G_pc (pc' := 98) rfl ?_)
      refine G_callV (K1 := KE) (d2 := d0) (o := 13) (cl := 4) (as := [vi (bdV t + 1), vi (dep + 1)]) (rest := []) d_Re_readRight_98 mf_Re_readBinary ml_Re_48 rfl rfl (by decide) rfl rfl (Nat.le_of_ble_eq_true rfl) (by omega) ⟨Nat.le_refl _, Nat.le_refl _⟩ (hC N (S ++ [(151, ts S, 0, 0, 0, 0)]) k o a (dep + 1) M38 (by omega) hR39 (by omega) (by omega) (by omega) (by (try simp only [List.length_append, List.length_cons, List.length_nil]); omega) (by omega)) (fun r46 M47 kq48 q48 => ?_)
      clear kq48
      rcases q48 with ⟨hE_49, rfl, hf_49, ho_49⟩ | ⟨k_49, N_49, S_49, o_49, a_49, c_49, hE_49, rfl, hR_49⟩
      · skip
        refine G_ps (pc' := 101) (st' := [vi (-1)]) rfl rfl ?_
        refine G_istore (i := 5) (len := 2) (ls' := [(5, vi (-1)), (4, vi ((S).length : Int)), (0, vr 13), (1, vi (tcode t)), (2, vi (ts S)), (3, vi dep)]) (Or.inr ⟨rfl, d_Re_readRight_101⟩) (by decide) rfl (G_pc (pc' := 103) rfl ?_)
        refine G_iload (i := 5) (n := 0) (len := 2) (Or.inr ⟨rfl, d_Re_readRight_103⟩) rfl (G_pc (pc' := 105) rfl ?_)
        refine G_iconst (n := (-1)) d_Re_readRight_105 (by decide) (G_pc (pc' := 106) rfl ?_)
        refine G_icmp_ne (tgt := 111) d_Re_readRight_106 (by decide) (fun h50 => absurd h50 (by decide)) (fun h50 => G_pc (pc' := 109) rfl ?_)
        refine G_iconst (n := (-1)) d_Re_readRight_109 (by decide) (G_pc (pc' := 110) rfl ?_)
        refine G_iret d_Re_readRight_110 rfl (tokI (by decide)) rfl rfl ?_
        exact Or.inl ⟨right_an (by omega) (by first | exact hE_49 | (rw [if_pos (by omega)]; exact hE_49) | (rw [if_neg (by omega)]; exact hE_49)), rfl, hf_49, ho_49⟩
      · skip
        obtain ⟨⟨ja_49, jb_49, jc_49, jd_49, je_49, jf_49⟩, jg_49⟩ := hJ k N (S ++ [(151, ts S, 0, 0, 0, 0)]) o a _ (by omega) (by omega) (by omega) hE_49
        have jc1_49 := jc_49.1; have jc2_49 := jc_49.2.1
        have jt_49 : ts S_49 = (S_49.length : Int) - 1 := rfl
        (try simp only [List.length_append, List.length_cons, List.length_nil, patch_len] at jc1_49 jc2_49)
        refine G_ps (pc' := 101) (st' := [vi (ts S_49)]) rfl rfl ?_
        refine G_istore (i := 5) (len := 2) (ls' := [(5, vi (ts S_49)), (4, vi ((S).length : Int)), (0, vr 13), (1, vi (tcode t)), (2, vi (ts S)), (3, vi dep)]) (Or.inr ⟨rfl, d_Re_readRight_101⟩) (by decide) rfl (G_pc (pc' := 103) rfl ?_)
        refine G_iload (i := 5) (n := 0) (len := 2) (Or.inr ⟨rfl, d_Re_readRight_103⟩) rfl (G_pc (pc' := 105) rfl ?_)
        refine G_iconst (n := (-1)) d_Re_readRight_105 (by decide) (G_pc (pc' := 106) rfl ?_)
        refine G_icmp_ne (tgt := 111) d_Re_readRight_106 (by decide) (fun h51 => ?_) (fun h51 => absurd h51 (by omega))
        refine G_aload (i := 0) (n := 2) (len := 1) (Or.inl ⟨0, rfl, rfl, d_Re_readRight_111⟩) rfl (by decide) (G_pc (pc' := 112) rfl ?_)
        refine G_get (o := 13) (c := 4) (k := 1) (v := M47 13 1) d_Re_readRight_112 fl_Re_18 rfl (by decide) (by decide) rfl rfl (G_pc (pc' := 115) rfl ?_)
        rw [show M47 13 1 = ((20 + 9 * e : Nat) : Int) from RD_st hR_49 he hst]
        refine G_iload (i := 4) (n := 1) (len := 2) (Or.inr ⟨rfl, d_Re_readRight_115⟩) rfl (G_pc (pc' := 117) rfl ?_)
        refine G_aload (i := 0) (n := 2) (len := 1) (Or.inl ⟨0, rfl, rfl, d_Re_readRight_117⟩) rfl (by decide) (G_pc (pc' := 118) rfl ?_)
        refine G_get (o := 13) (c := 4) (k := 1) (v := M47 13 1) d_Re_readRight_118 fl_Re_18 rfl (by decide) (by decide) rfl rfl (G_pc (pc' := 121) rfl ?_)
        rw [show M47 13 1 = ((20 + 9 * e : Nat) : Int) from RD_st hR_49 he hst]
        refine G_callV (K1 := KE) (d2 := 0) (o := (20 + 9 * e)) (cl := 5) (as := []) (rest := [vi ((S).length : Int), vr ((20 + 9 * e : Nat) : Int)]) d_Re_readRight_121 mf_St_size ml_Re_60 (kd_St he) rfl (by show 20 + 9 * e < 87; omega) rfl rfl (Nat.le_of_ble_eq_true rfl) (by omega) ⟨Nat.le_refl _, Nat.le_refl _⟩ (g_St_size (by omega) e M47 he) (fun r52 M53 kq54 q54 => ?_)
        clear kq54; obtain ⟨q54a, q54b⟩ := q54; subst r52; subst M53
        rw [RD_n hR_49]
        refine G_ps (pc' := 124) (st' := [vi ((S_49).length : Int), vi ((S).length : Int), vr ((20 + 9 * e : Nat) : Int)]) rfl rfl ?_
        refine G_callV (K1 := KE) (d2 := 0) (o := (20 + 9 * e)) (cl := 5) (as := [vi ((S).length : Int), vi ((S_49).length : Int)]) (rest := []) d_Re_readRight_124 mf_St_leadSkip ml_Re_64 (kd_St he) rfl (by show 20 + 9 * e < 87; omega) rfl rfl (Nat.le_of_ble_eq_true rfl) (by omega) ⟨Nat.le_refl _, Nat.le_refl _⟩ (g_St_leadSkip (by omega) e ((S).length : Int) ((S_49).length : Int) M47 he (by omega)) (fun r55 M56 kq57 q57 => ?_)
        clear kq57; obtain ⟨q57a, q57b⟩ := q57; subst r55; subst M56
        refine G_ps (pc' := 127) (st' := []) rfl rfl ?_
        refine G_abs (R := fun M9 => RD e M0 M9 (patchS S_49 (S).length ((S_49).length : Int)) k_49 o_49 a_49) (RD_lead (i := (S).length) hR_49 he (by simp only [List.length_append, List.length_cons, List.length_nil, patch_len] at *; omega)) (fun M58 hR59 => ?_)
        have hl60 : ((patchS S_49 (S).length ((S_49).length : Int))).length = (S_49).length := patch_len
        refine G_aload (i := 0) (n := 2) (len := 1) (Or.inl ⟨0, rfl, rfl, d_Re_readRight_127⟩) rfl (by decide) (G_pc (pc' := 128) rfl ?_)
        refine G_get (o := 13) (c := 4) (k := 1) (v := M58 13 1) d_Re_readRight_128 fl_Re_18 rfl (by decide) (by decide) rfl rfl (G_pc (pc' := 131) rfl ?_)
        rw [show M58 13 1 = ((20 + 9 * e : Nat) : Int) from RD_st hR59 he hst]
        refine G_iload (i := 1) (n := 3) (len := 1) (Or.inl ⟨1, rfl, rfl, d_Re_readRight_131⟩) rfl (G_pc (pc' := 132) rfl ?_)
        refine G_iload (i := 2) (n := 4) (len := 1) (Or.inl ⟨2, rfl, rfl, d_Re_readRight_132⟩) rfl (G_pc (pc' := 133) rfl ?_)
        refine G_iload (i := 5) (n := 0) (len := 2) (Or.inr ⟨rfl, d_Re_readRight_133⟩) rfl (G_pc (pc' := 135) rfl ?_)
        refine G_callV (K1 := KE) (d2 := 1) (o := (20 + 9 * e)) (cl := 5) (as := [vi (tcode t), vi (ts S), vi (ts S_49)]) (rest := []) d_Re_readRight_135 mf_St_add ml_Re_56 (kd_St he) rfl (by show 20 + 9 * e < 87; omega) rfl rfl (Nat.le_of_ble_eq_true rfl) (by omega) ⟨Nat.le_refl _, Nat.le_refl _⟩ (g_St_add (by omega) e (tcode t) (ts S) (ts S_49) M58 he (by have h9 := RD_n hR59; omega)) (fun r61 M62 kq63 q63 => ?_)
        clear kq63; obtain ⟨q63a, q63b⟩ := q63; subst r61; subst M62
        rw [RD_n hR59]
        refine G_ps (pc' := 138) (st' := [vi (((patchS S_49 (S).length ((S_49).length : Int))).length : Int)]) rfl rfl ?_
        refine G_abs (R := fun M9 => RD e M0 M9 ((patchS S_49 (S).length ((S_49).length : Int)) ++ [(tcode t, ts S, ts S_49, 0, 0, 0)]) k_49 o_49 a_49) (RD_add hR59 (by first | decide | omega) he) (fun M64 hR65 => ?_)
        have hl66 : (((patchS S_49 (S).length ((S_49).length : Int)) ++ [(tcode t, ts S, ts S_49, 0, 0, 0)]).length : Int) = ((patchS S_49 (S).length ((S_49).length : Int))).length + 1 := len_add _ _
        refine G_iret d_Re_readRight_138 rfl (tokI (by omega)) rfl rfl ?_
        exact Or.inr ⟨_, _, _, _, _, _, right_as (by omega) (by first | exact hE_49 | (rw [if_pos (by omega)]; exact hE_49) | (rw [if_neg (by omega)]; exact hE_49)), by rw [ts_add], hR65⟩
  · skip
    refine G_iload (i := 1) (n := 1) (len := 1) (Or.inl ⟨1, rfl, rfl, d_Re_readRight_7⟩) rfl (G_pc (pc' := 8) rfl ?_)
    refine G_sipush (n := 136) d_Re_readRight_8 (by decide) (G_pc (pc' := 11) rfl ?_)
    refine G_icmp_eq (tgt := 51) d_Re_readRight_11 (by decide) (fun h67 => ?_) (fun h67 => G_pc (pc' := 14) rfl ?_)
    · skip
      refine G_aload (i := 0) (n := 0) (len := 1) (Or.inl ⟨0, rfl, rfl, d_Re_readRight_51⟩) rfl (by decide) (G_pc (pc' := 52) rfl ?_)
      refine G_get (o := 13) (c := 4) (k := 1) (v := M 13 1) d_Re_readRight_52 fl_Re_18 rfl (by decide) (by decide) rfl rfl (G_pc (pc' := 55) rfl ?_)
      rw [show M 13 1 = ((20 + 9 * e : Nat) : Int) from RD_st hR he hst]
      refine G_iload (i := 1) (n := 1) (len := 1) (Or.inl ⟨1, rfl, rfl, d_Re_readRight_55⟩) rfl (G_pc (pc' := 56) rfl ?_)
      refine G_sipush (n := 135) d_Re_readRight_56 (by decide) (G_pc (pc' := 59) rfl ?_)
      refine G_icmp_ne (tgt := 68) d_Re_readRight_59 (by decide) (fun h68 => ?_) (fun h68 => G_pc (pc' := 62) rfl ?_)
      · skip
        refine G_sipush (n := 152) d_Re_readRight_68 (by decide) (G_pc (pc' := 71) rfl ?_)
        refine G_iload (i := 2) (n := 2) (len := 1) (Or.inl ⟨2, rfl, rfl, d_Re_readRight_71⟩) rfl (G_pc (pc' := 72) rfl ?_)
        refine G_iconst (n := 0) d_Re_readRight_72 (by decide) (G_pc (pc' := 73) rfl ?_)
        refine G_callV (K1 := KE) (d2 := 1) (o := (20 + 9 * e)) (cl := 5) (as := [vi 152, vi (ts S), vi 0]) (rest := []) d_Re_readRight_73 mf_St_add ml_Re_56 (kd_St he) rfl (by show 20 + 9 * e < 87; omega) rfl rfl (Nat.le_of_ble_eq_true rfl) (by omega) ⟨Nat.le_refl _, Nat.le_refl _⟩ (g_St_add (by omega) e 152 (ts S) 0 M he (by have h9 := RD_n hR; omega)) (fun r69 M70 kq71 q71 => ?_)
        clear kq71; obtain ⟨q71a, q71b⟩ := q71; subst r69; subst M70
        rw [RD_n hR]
        refine G_ps (pc' := 76) (st' := [vi ((S).length : Int)]) rfl rfl ?_
        refine G_abs (R := fun M9 => RD e M0 M9 (S ++ [(152, ts S, 0, 0, 0, 0)]) k o a) (RD_add hR (by first | decide | omega) he) (fun M72 hR73 => ?_)
        have hl74 : ((S ++ [(152, ts S, 0, 0, 0, 0)]).length : Int) = (S).length + 1 := len_add _ _
        refine G_istore (i := 4) (len := 2) (ls' := [(4, vi ((S).length : Int)), (0, vr 13), (1, vi (tcode t)), (2, vi (ts S)), (3, vi dep)]) (Or.inr ⟨rfl, d_Re_readRight_76⟩) (by decide) rfl (G_pc (pc' := 78) rfl ?_)
        refine G_iload (i := 4) (n := 0) (len := 2) (Or.inr ⟨rfl, d_Re_readRight_78⟩) rfl (G_pc (pc' := 80) rfl ?_)
        refine G_iconst (n := (-1)) d_Re_readRight_80 (by decide) (G_pc (pc' := 81) rfl ?_)
        refine G_icmp_ne (tgt := 88) d_Re_readRight_81 (by decide) (fun h75 => ?_) (fun h75 => absurd h75 (by omega))
        refine G_aload (i := 0) (n := 1) (len := 1) (Or.inl ⟨0, rfl, rfl, d_Re_readRight_88⟩) rfl (by decide) (G_pc (pc' := 89) rfl ?_)
        refine G_iload (i := 1) (n := 2) (len := 1) (Or.inl ⟨1, rfl, rfl, d_Re_readRight_89⟩) rfl (G_pc (pc' := 90) rfl ?_)
        refine G_callS (K1 := KE) (d2 := 0) (as := [vi (tcode t)]) (rest := [vr 13]) d_Re_readRight_90 mf_Re_levelOf ml_Re_75 rfl rfl (Nat.le_of_ble_eq_true rfl) (by omega) ⟨Nat.le_refl _, Nat.le_refl _⟩ (g_Re_levelOf (by omega) (tcode t) M72) (fun r76 M77 kq78 q78 => ?_)
        clear kq78; obtain ⟨q78a, q78b⟩ := q78; subst r76; subst M77
        rw [lv_t hokt]
        refine G_ps (pc' := 93) (st' := [vi (bq t), vr 13]) rfl rfl ?_
        have hb79 := bq_rng t
        refine G_iconst (n := 1) d_Re_readRight_93 (by decide) (G_pc (pc' := 94) rfl ?_)
        refine G_iadd d_Re_readRight_94 (by omega) (G_pc (pc' := 95) rfl ?_)
        rw [show (bq t) + 1 = bdV t + 1 from by rw [bq_13 (by omega)]]
        refine G_iload (i := 3) (n := 4) (len := 1) (Or.inl ⟨3, rfl, rfl, d_Re_readRight_95⟩) rfl (G_pc (pc' := 96) rfl ?_)
        refine G_iconst (n := 1) d_Re_readRight_96 (by decide) (G_pc (pc' := 97) rfl ?_)
        refine G_iadd d_Re_readRight_97 (by omega) (G_pc (pc' := 98) rfl ?_)
        refine G_callV (K1 := KE) (d2 := d0) (o := 13) (cl := 4) (as := [vi (bdV t + 1), vi (dep + 1)]) (rest := []) d_Re_readRight_98 mf_Re_readBinary ml_Re_48 rfl rfl (by decide) rfl rfl (Nat.le_of_ble_eq_true rfl) (by omega) ⟨Nat.le_refl _, Nat.le_refl _⟩ (hC N (S ++ [(152, ts S, 0, 0, 0, 0)]) k o a (dep + 1) M72 (by omega) hR73 (by omega) (by omega) (by omega) (by (try simp only [List.length_append, List.length_cons, List.length_nil]); omega) (by omega)) (fun r80 M81 kq82 q82 => ?_)
        clear kq82
        rcases q82 with ⟨hE_83, rfl, hf_83, ho_83⟩ | ⟨k_83, N_83, S_83, o_83, a_83, c_83, hE_83, rfl, hR_83⟩
        · skip
          refine G_ps (pc' := 101) (st' := [vi (-1)]) rfl rfl ?_
          refine G_istore (i := 5) (len := 2) (ls' := [(5, vi (-1)), (4, vi ((S).length : Int)), (0, vr 13), (1, vi (tcode t)), (2, vi (ts S)), (3, vi dep)]) (Or.inr ⟨rfl, d_Re_readRight_101⟩) (by decide) rfl (G_pc (pc' := 103) rfl ?_)
          refine G_iload (i := 5) (n := 0) (len := 2) (Or.inr ⟨rfl, d_Re_readRight_103⟩) rfl (G_pc (pc' := 105) rfl ?_)
          refine G_iconst (n := (-1)) d_Re_readRight_105 (by decide) (G_pc (pc' := 106) rfl ?_)
          refine G_icmp_ne (tgt := 111) d_Re_readRight_106 (by decide) (fun h84 => absurd h84 (by decide)) (fun h84 => G_pc (pc' := 109) rfl ?_)
          refine G_iconst (n := (-1)) d_Re_readRight_109 (by decide) (G_pc (pc' := 110) rfl ?_)
          refine G_iret d_Re_readRight_110 rfl (tokI (by decide)) rfl rfl ?_
          exact Or.inl ⟨right_an (by omega) (by first | exact hE_83 | (rw [if_pos (by omega)]; exact hE_83) | (rw [if_neg (by omega)]; exact hE_83)), rfl, hf_83, ho_83⟩
        · skip
          obtain ⟨⟨ja_83, jb_83, jc_83, jd_83, je_83, jf_83⟩, jg_83⟩ := hJ k N (S ++ [(152, ts S, 0, 0, 0, 0)]) o a _ (by omega) (by omega) (by omega) hE_83
          have jc1_83 := jc_83.1; have jc2_83 := jc_83.2.1
          have jt_83 : ts S_83 = (S_83.length : Int) - 1 := rfl
          (try simp only [List.length_append, List.length_cons, List.length_nil, patch_len] at jc1_83 jc2_83)
          refine G_ps (pc' := 101) (st' := [vi (ts S_83)]) rfl rfl ?_
          refine G_istore (i := 5) (len := 2) (ls' := [(5, vi (ts S_83)), (4, vi ((S).length : Int)), (0, vr 13), (1, vi (tcode t)), (2, vi (ts S)), (3, vi dep)]) (Or.inr ⟨rfl, d_Re_readRight_101⟩) (by decide) rfl (G_pc (pc' := 103) rfl ?_)
          refine G_iload (i := 5) (n := 0) (len := 2) (Or.inr ⟨rfl, d_Re_readRight_103⟩) rfl (G_pc (pc' := 105) rfl ?_)
          refine G_iconst (n := (-1)) d_Re_readRight_105 (by decide) (G_pc (pc' := 106) rfl ?_)
          refine G_icmp_ne (tgt := 111) d_Re_readRight_106 (by decide) (fun h85 => ?_) (fun h85 => absurd h85 (by omega))
          refine G_aload (i := 0) (n := 2) (len := 1) (Or.inl ⟨0, rfl, rfl, d_Re_readRight_111⟩) rfl (by decide) (G_pc (pc' := 112) rfl ?_)
          refine G_get (o := 13) (c := 4) (k := 1) (v := M81 13 1) d_Re_readRight_112 fl_Re_18 rfl (by decide) (by decide) rfl rfl (G_pc (pc' := 115) rfl ?_)
          rw [show M81 13 1 = ((20 + 9 * e : Nat) : Int) from RD_st hR_83 he hst]
          refine G_iload (i := 4) (n := 1) (len := 2) (Or.inr ⟨rfl, d_Re_readRight_115⟩) rfl (G_pc (pc' := 117) rfl ?_)
          refine G_aload (i := 0) (n := 2) (len := 1) (Or.inl ⟨0, rfl, rfl, d_Re_readRight_117⟩) rfl (by decide) (G_pc (pc' := 118) rfl ?_)
          refine G_get (o := 13) (c := 4) (k := 1) (v := M81 13 1) d_Re_readRight_118 fl_Re_18 rfl (by decide) (by decide) rfl rfl (G_pc (pc' := 121) rfl ?_)
          rw [show M81 13 1 = ((20 + 9 * e : Nat) : Int) from RD_st hR_83 he hst]
          refine G_callV (K1 := KE) (d2 := 0) (o := (20 + 9 * e)) (cl := 5) (as := []) (rest := [vi ((S).length : Int), vr ((20 + 9 * e : Nat) : Int)]) d_Re_readRight_121 mf_St_size ml_Re_60 (kd_St he) rfl (by show 20 + 9 * e < 87; omega) rfl rfl (Nat.le_of_ble_eq_true rfl) (by omega) ⟨Nat.le_refl _, Nat.le_refl _⟩ (g_St_size (by omega) e M81 he) (fun r86 M87 kq88 q88 => ?_)
          clear kq88; obtain ⟨q88a, q88b⟩ := q88; subst r86; subst M87
          rw [RD_n hR_83]
          refine G_ps (pc' := 124) (st' := [vi ((S_83).length : Int), vi ((S).length : Int), vr ((20 + 9 * e : Nat) : Int)]) rfl rfl ?_
          refine G_callV (K1 := KE) (d2 := 0) (o := (20 + 9 * e)) (cl := 5) (as := [vi ((S).length : Int), vi ((S_83).length : Int)]) (rest := []) d_Re_readRight_124 mf_St_leadSkip ml_Re_64 (kd_St he) rfl (by show 20 + 9 * e < 87; omega) rfl rfl (Nat.le_of_ble_eq_true rfl) (by omega) ⟨Nat.le_refl _, Nat.le_refl _⟩ (g_St_leadSkip (by omega) e ((S).length : Int) ((S_83).length : Int) M81 he (by omega)) (fun r89 M90 kq91 q91 => ?_)
          clear kq91; obtain ⟨q91a, q91b⟩ := q91; subst r89; subst M90
          refine G_ps (pc' := 127) (st' := []) rfl rfl ?_
          refine G_abs (R := fun M9 => RD e M0 M9 (patchS S_83 (S).length ((S_83).length : Int)) k_83 o_83 a_83) (RD_lead (i := (S).length) hR_83 he (by simp only [List.length_append, List.length_cons, List.length_nil, patch_len] at *; omega)) (fun M92 hR93 => ?_)
          have hl94 : ((patchS S_83 (S).length ((S_83).length : Int))).length = (S_83).length := patch_len
          refine G_aload (i := 0) (n := 2) (len := 1) (Or.inl ⟨0, rfl, rfl, d_Re_readRight_127⟩) rfl (by decide) (G_pc (pc' := 128) rfl ?_)
          refine G_get (o := 13) (c := 4) (k := 1) (v := M92 13 1) d_Re_readRight_128 fl_Re_18 rfl (by decide) (by decide) rfl rfl (G_pc (pc' := 131) rfl ?_)
          rw [show M92 13 1 = ((20 + 9 * e : Nat) : Int) from RD_st hR93 he hst]
          refine G_iload (i := 1) (n := 3) (len := 1) (Or.inl ⟨1, rfl, rfl, d_Re_readRight_131⟩) rfl (G_pc (pc' := 132) rfl ?_)
          refine G_iload (i := 2) (n := 4) (len := 1) (Or.inl ⟨2, rfl, rfl, d_Re_readRight_132⟩) rfl (G_pc (pc' := 133) rfl ?_)
          refine G_iload (i := 5) (n := 0) (len := 2) (Or.inr ⟨rfl, d_Re_readRight_133⟩) rfl (G_pc (pc' := 135) rfl ?_)
          refine G_callV (K1 := KE) (d2 := 1) (o := (20 + 9 * e)) (cl := 5) (as := [vi (tcode t), vi (ts S), vi (ts S_83)]) (rest := []) d_Re_readRight_135 mf_St_add ml_Re_56 (kd_St he) rfl (by show 20 + 9 * e < 87; omega) rfl rfl (Nat.le_of_ble_eq_true rfl) (by omega) ⟨Nat.le_refl _, Nat.le_refl _⟩ (g_St_add (by omega) e (tcode t) (ts S) (ts S_83) M92 he (by have h9 := RD_n hR93; omega)) (fun r95 M96 kq97 q97 => ?_)
          clear kq97; obtain ⟨q97a, q97b⟩ := q97; subst r95; subst M96
          rw [RD_n hR93]
          refine G_ps (pc' := 138) (st' := [vi (((patchS S_83 (S).length ((S_83).length : Int))).length : Int)]) rfl rfl ?_
          refine G_abs (R := fun M9 => RD e M0 M9 ((patchS S_83 (S).length ((S_83).length : Int)) ++ [(tcode t, ts S, ts S_83, 0, 0, 0)]) k_83 o_83 a_83) (RD_add hR93 (by first | decide | omega) he) (fun M98 hR99 => ?_)
          have hl100 : (((patchS S_83 (S).length ((S_83).length : Int)) ++ [(tcode t, ts S, ts S_83, 0, 0, 0)]).length : Int) = ((patchS S_83 (S).length ((S_83).length : Int))).length + 1 := len_add _ _
          refine G_iret d_Re_readRight_138 rfl (tokI (by omega)) rfl rfl ?_
          exact Or.inr ⟨_, _, _, _, _, _, right_as (by omega) (by first | exact hE_83 | (rw [if_pos (by omega)]; exact hE_83) | (rw [if_neg (by omega)]; exact hE_83)), by rw [ts_add], hR99⟩
      · skip
        refine G_sipush (n := 151) d_Re_readRight_62 (by decide) (G_pc (pc' := 65) rfl ?_)
        refine G_goto (tgt := 71) d_Re_readRight_65 (by decide) ?_
        refine G_iload (i := 2) (n := 2) (len := 1) (Or.inl ⟨2, rfl, rfl, d_Re_readRight_71⟩) rfl (G_pc (pc' := 72) rfl ?_)
        refine G_iconst (n := 0) d_Re_readRight_72 (by decide) (G_pc (pc' := 73) rfl ?_)
        refine G_callV (K1 := KE) (d2 := 1) (o := (20 + 9 * e)) (cl := 5) (as := [vi 151, vi (ts S), vi 0]) (rest := []) d_Re_readRight_73 mf_St_add ml_Re_56 (kd_St he) rfl (by show 20 + 9 * e < 87; omega) rfl rfl (Nat.le_of_ble_eq_true rfl) (by omega) ⟨Nat.le_refl _, Nat.le_refl _⟩ (g_St_add (by omega) e 151 (ts S) 0 M he (by have h9 := RD_n hR; omega)) (fun r101 M102 kq103 q103 => ?_)
        clear kq103; obtain ⟨q103a, q103b⟩ := q103; subst r101; subst M102
        rw [RD_n hR]
        refine G_ps (pc' := 76) (st' := [vi ((S).length : Int)]) rfl rfl ?_
        refine G_abs (R := fun M9 => RD e M0 M9 (S ++ [(151, ts S, 0, 0, 0, 0)]) k o a) (RD_add hR (by first | decide | omega) he) (fun M104 hR105 => ?_)
        have hl106 : ((S ++ [(151, ts S, 0, 0, 0, 0)]).length : Int) = (S).length + 1 := len_add _ _
        refine G_istore (i := 4) (len := 2) (ls' := [(4, vi ((S).length : Int)), (0, vr 13), (1, vi (tcode t)), (2, vi (ts S)), (3, vi dep)]) (Or.inr ⟨rfl, d_Re_readRight_76⟩) (by decide) rfl (G_pc (pc' := 78) rfl ?_)
        refine G_iload (i := 4) (n := 0) (len := 2) (Or.inr ⟨rfl, d_Re_readRight_78⟩) rfl (G_pc (pc' := 80) rfl ?_)
        refine G_iconst (n := (-1)) d_Re_readRight_80 (by decide) (G_pc (pc' := 81) rfl ?_)
        refine G_icmp_ne (tgt := 88) d_Re_readRight_81 (by decide) (fun h107 => ?_) (fun h107 => absurd h107 (by omega))
        refine G_aload (i := 0) (n := 1) (len := 1) (Or.inl ⟨0, rfl, rfl, d_Re_readRight_88⟩) rfl (by decide) (G_pc (pc' := 89) rfl ?_)
        refine G_iload (i := 1) (n := 2) (len := 1) (Or.inl ⟨1, rfl, rfl, d_Re_readRight_89⟩) rfl (G_pc (pc' := 90) rfl ?_)
        refine G_callS (K1 := KE) (d2 := 0) (as := [vi (tcode t)]) (rest := [vr 13]) d_Re_readRight_90 mf_Re_levelOf ml_Re_75 rfl rfl (Nat.le_of_ble_eq_true rfl) (by omega) ⟨Nat.le_refl _, Nat.le_refl _⟩ (g_Re_levelOf (by omega) (tcode t) M104) (fun r108 M109 kq110 q110 => ?_)
        clear kq110; obtain ⟨q110a, q110b⟩ := q110; subst r108; subst M109
        rw [lv_t hokt]
        refine G_ps (pc' := 93) (st' := [vi (bq t), vr 13]) rfl rfl ?_
        have hb111 := bq_rng t
        refine G_iconst (n := 1) d_Re_readRight_93 (by decide) (G_pc (pc' := 94) rfl ?_)
        refine G_iadd d_Re_readRight_94 (by omega) (G_pc (pc' := 95) rfl ?_)
        rw [show (bq t) + 1 = bdV t + 1 from by rw [bq_13 (by omega)]]
        refine G_iload (i := 3) (n := 4) (len := 1) (Or.inl ⟨3, rfl, rfl, d_Re_readRight_95⟩) rfl (G_pc (pc' := 96) rfl ?_)
        refine G_iconst (n := 1) d_Re_readRight_96 (by decide) (G_pc (pc' := 97) rfl ?_)
        refine G_iadd d_Re_readRight_97 (by omega) (G_pc (pc' := 98) rfl ?_)
        refine G_callV (K1 := KE) (d2 := d0) (o := 13) (cl := 4) (as := [vi (bdV t + 1), vi (dep + 1)]) (rest := []) d_Re_readRight_98 mf_Re_readBinary ml_Re_48 rfl rfl (by decide) rfl rfl (Nat.le_of_ble_eq_true rfl) (by omega) ⟨Nat.le_refl _, Nat.le_refl _⟩ (hC N (S ++ [(151, ts S, 0, 0, 0, 0)]) k o a (dep + 1) M104 (by omega) hR105 (by omega) (by omega) (by omega) (by (try simp only [List.length_append, List.length_cons, List.length_nil]); omega) (by omega)) (fun r112 M113 kq114 q114 => ?_)
        clear kq114
        rcases q114 with ⟨hE_115, rfl, hf_115, ho_115⟩ | ⟨k_115, N_115, S_115, o_115, a_115, c_115, hE_115, rfl, hR_115⟩
        · skip
          refine G_ps (pc' := 101) (st' := [vi (-1)]) rfl rfl ?_
          refine G_istore (i := 5) (len := 2) (ls' := [(5, vi (-1)), (4, vi ((S).length : Int)), (0, vr 13), (1, vi (tcode t)), (2, vi (ts S)), (3, vi dep)]) (Or.inr ⟨rfl, d_Re_readRight_101⟩) (by decide) rfl (G_pc (pc' := 103) rfl ?_)
          refine G_iload (i := 5) (n := 0) (len := 2) (Or.inr ⟨rfl, d_Re_readRight_103⟩) rfl (G_pc (pc' := 105) rfl ?_)
          refine G_iconst (n := (-1)) d_Re_readRight_105 (by decide) (G_pc (pc' := 106) rfl ?_)
          refine G_icmp_ne (tgt := 111) d_Re_readRight_106 (by decide) (fun h116 => absurd h116 (by decide)) (fun h116 => G_pc (pc' := 109) rfl ?_)
          refine G_iconst (n := (-1)) d_Re_readRight_109 (by decide) (G_pc (pc' := 110) rfl ?_)
          refine G_iret d_Re_readRight_110 rfl (tokI (by decide)) rfl rfl ?_
          exact Or.inl ⟨right_an (by omega) (by first | exact hE_115 | (rw [if_pos (by omega)]; exact hE_115) | (rw [if_neg (by omega)]; exact hE_115)), rfl, hf_115, ho_115⟩
        · skip
          obtain ⟨⟨ja_115, jb_115, jc_115, jd_115, je_115, jf_115⟩, jg_115⟩ := hJ k N (S ++ [(151, ts S, 0, 0, 0, 0)]) o a _ (by omega) (by omega) (by omega) hE_115
          have jc1_115 := jc_115.1; have jc2_115 := jc_115.2.1
          have jt_115 : ts S_115 = (S_115.length : Int) - 1 := rfl
          (try simp only [List.length_append, List.length_cons, List.length_nil, patch_len] at jc1_115 jc2_115)
          refine G_ps (pc' := 101) (st' := [vi (ts S_115)]) rfl rfl ?_
          refine G_istore (i := 5) (len := 2) (ls' := [(5, vi (ts S_115)), (4, vi ((S).length : Int)), (0, vr 13), (1, vi (tcode t)), (2, vi (ts S)), (3, vi dep)]) (Or.inr ⟨rfl, d_Re_readRight_101⟩) (by decide) rfl (G_pc (pc' := 103) rfl ?_)
          refine G_iload (i := 5) (n := 0) (len := 2) (Or.inr ⟨rfl, d_Re_readRight_103⟩) rfl (G_pc (pc' := 105) rfl ?_)
          refine G_iconst (n := (-1)) d_Re_readRight_105 (by decide) (G_pc (pc' := 106) rfl ?_)
          refine G_icmp_ne (tgt := 111) d_Re_readRight_106 (by decide) (fun h117 => ?_) (fun h117 => absurd h117 (by omega))
          refine G_aload (i := 0) (n := 2) (len := 1) (Or.inl ⟨0, rfl, rfl, d_Re_readRight_111⟩) rfl (by decide) (G_pc (pc' := 112) rfl ?_)
          refine G_get (o := 13) (c := 4) (k := 1) (v := M113 13 1) d_Re_readRight_112 fl_Re_18 rfl (by decide) (by decide) rfl rfl (G_pc (pc' := 115) rfl ?_)
          rw [show M113 13 1 = ((20 + 9 * e : Nat) : Int) from RD_st hR_115 he hst]
          refine G_iload (i := 4) (n := 1) (len := 2) (Or.inr ⟨rfl, d_Re_readRight_115⟩) rfl (G_pc (pc' := 117) rfl ?_)
          refine G_aload (i := 0) (n := 2) (len := 1) (Or.inl ⟨0, rfl, rfl, d_Re_readRight_117⟩) rfl (by decide) (G_pc (pc' := 118) rfl ?_)
          refine G_get (o := 13) (c := 4) (k := 1) (v := M113 13 1) d_Re_readRight_118 fl_Re_18 rfl (by decide) (by decide) rfl rfl (G_pc (pc' := 121) rfl ?_)
          rw [show M113 13 1 = ((20 + 9 * e : Nat) : Int) from RD_st hR_115 he hst]
          refine G_callV (K1 := KE) (d2 := 0) (o := (20 + 9 * e)) (cl := 5) (as := []) (rest := [vi ((S).length : Int), vr ((20 + 9 * e : Nat) : Int)]) d_Re_readRight_121 mf_St_size ml_Re_60 (kd_St he) rfl (by show 20 + 9 * e < 87; omega) rfl rfl (Nat.le_of_ble_eq_true rfl) (by omega) ⟨Nat.le_refl _, Nat.le_refl _⟩ (g_St_size (by omega) e M113 he) (fun r118 M119 kq120 q120 => ?_)
          clear kq120; obtain ⟨q120a, q120b⟩ := q120; subst r118; subst M119
          rw [RD_n hR_115]
          refine G_ps (pc' := 124) (st' := [vi ((S_115).length : Int), vi ((S).length : Int), vr ((20 + 9 * e : Nat) : Int)]) rfl rfl ?_
          refine G_callV (K1 := KE) (d2 := 0) (o := (20 + 9 * e)) (cl := 5) (as := [vi ((S).length : Int), vi ((S_115).length : Int)]) (rest := []) d_Re_readRight_124 mf_St_leadSkip ml_Re_64 (kd_St he) rfl (by show 20 + 9 * e < 87; omega) rfl rfl (Nat.le_of_ble_eq_true rfl) (by omega) ⟨Nat.le_refl _, Nat.le_refl _⟩ (g_St_leadSkip (by omega) e ((S).length : Int) ((S_115).length : Int) M113 he (by omega)) (fun r121 M122 kq123 q123 => ?_)
          clear kq123; obtain ⟨q123a, q123b⟩ := q123; subst r121; subst M122
          refine G_ps (pc' := 127) (st' := []) rfl rfl ?_
          refine G_abs (R := fun M9 => RD e M0 M9 (patchS S_115 (S).length ((S_115).length : Int)) k_115 o_115 a_115) (RD_lead (i := (S).length) hR_115 he (by simp only [List.length_append, List.length_cons, List.length_nil, patch_len] at *; omega)) (fun M124 hR125 => ?_)
          have hl126 : ((patchS S_115 (S).length ((S_115).length : Int))).length = (S_115).length := patch_len
          refine G_aload (i := 0) (n := 2) (len := 1) (Or.inl ⟨0, rfl, rfl, d_Re_readRight_127⟩) rfl (by decide) (G_pc (pc' := 128) rfl ?_)
          refine G_get (o := 13) (c := 4) (k := 1) (v := M124 13 1) d_Re_readRight_128 fl_Re_18 rfl (by decide) (by decide) rfl rfl (G_pc (pc' := 131) rfl ?_)
          rw [show M124 13 1 = ((20 + 9 * e : Nat) : Int) from RD_st hR125 he hst]
          refine G_iload (i := 1) (n := 3) (len := 1) (Or.inl ⟨1, rfl, rfl, d_Re_readRight_131⟩) rfl (G_pc (pc' := 132) rfl ?_)
          refine G_iload (i := 2) (n := 4) (len := 1) (Or.inl ⟨2, rfl, rfl, d_Re_readRight_132⟩) rfl (G_pc (pc' := 133) rfl ?_)
          refine G_iload (i := 5) (n := 0) (len := 2) (Or.inr ⟨rfl, d_Re_readRight_133⟩) rfl (G_pc (pc' := 135) rfl ?_)
          refine G_callV (K1 := KE) (d2 := 1) (o := (20 + 9 * e)) (cl := 5) (as := [vi (tcode t), vi (ts S), vi (ts S_115)]) (rest := []) d_Re_readRight_135 mf_St_add ml_Re_56 (kd_St he) rfl (by show 20 + 9 * e < 87; omega) rfl rfl (Nat.le_of_ble_eq_true rfl) (by omega) ⟨Nat.le_refl _, Nat.le_refl _⟩ (g_St_add (by omega) e (tcode t) (ts S) (ts S_115) M124 he (by have h9 := RD_n hR125; omega)) (fun r127 M128 kq129 q129 => ?_)
          clear kq129; obtain ⟨q129a, q129b⟩ := q129; subst r127; subst M128
          rw [RD_n hR125]
          refine G_ps (pc' := 138) (st' := [vi (((patchS S_115 (S).length ((S_115).length : Int))).length : Int)]) rfl rfl ?_
          refine G_abs (R := fun M9 => RD e M0 M9 ((patchS S_115 (S).length ((S_115).length : Int)) ++ [(tcode t, ts S, ts S_115, 0, 0, 0)]) k_115 o_115 a_115) (RD_add hR125 (by first | decide | omega) he) (fun M130 hR131 => ?_)
          have hl132 : (((patchS S_115 (S).length ((S_115).length : Int)) ++ [(tcode t, ts S, ts S_115, 0, 0, 0)]).length : Int) = ((patchS S_115 (S).length ((S_115).length : Int))).length + 1 := len_add _ _
          refine G_iret d_Re_readRight_138 rfl (tokI (by omega)) rfl rfl ?_
          exact Or.inr ⟨_, _, _, _, _, _, right_as (by omega) (by first | exact hE_115 | (rw [if_pos (by omega)]; exact hE_115) | (rw [if_neg (by omega)]; exact hE_115)), by rw [ts_add], hR131⟩
    · skip
      refine G_aload (i := 0) (n := 0) (len := 1) (Or.inl ⟨0, rfl, rfl, d_Re_readRight_14⟩) rfl (by decide) (G_pc (pc' := 15) rfl ?_)
      refine G_iload (i := 1) (n := 1) (len := 1) (Or.inl ⟨1, rfl, rfl, d_Re_readRight_15⟩) rfl (G_pc (pc' := 16) rfl ?_)
      refine G_callS (K1 := KE) (d2 := 0) (as := [vi (tcode t)]) (rest := [vr 13]) d_Re_readRight_16 mf_Re_levelOf ml_Re_75 rfl rfl (Nat.le_of_ble_eq_true rfl) (by omega) ⟨Nat.le_refl _, Nat.le_refl _⟩ (g_Re_levelOf (by omega) (tcode t) M) (fun r133 M134 kq135 q135 => ?_)
      clear kq135; obtain ⟨q135a, q135b⟩ := q135; subst r133; subst M134
      rw [lv_t hokt]
      refine G_ps (pc' := 19) (st' := [vi (bq t), vr 13]) rfl rfl ?_
      have hb136 := bq_rng t
      refine G_iconst (n := 1) d_Re_readRight_19 (by decide) (G_pc (pc' := 20) rfl ?_)
      refine G_iadd d_Re_readRight_20 (by omega) (G_pc (pc' := 21) rfl ?_)
      rw [show (bq t) + 1 = bdV t + 1 from by rw [bq_13 (by omega)]]
      refine G_iload (i := 3) (n := 3) (len := 1) (Or.inl ⟨3, rfl, rfl, d_Re_readRight_21⟩) rfl (G_pc (pc' := 22) rfl ?_)
      refine G_iconst (n := 1) d_Re_readRight_22 (by decide) (G_pc (pc' := 23) rfl ?_)
      refine G_iadd d_Re_readRight_23 (by omega) (G_pc (pc' := 24) rfl ?_)
      refine G_callV (K1 := KE) (d2 := d0) (o := 13) (cl := 4) (as := [vi (bdV t + 1), vi (dep + 1)]) (rest := []) d_Re_readRight_24 mf_Re_readBinary ml_Re_48 rfl rfl (by decide) rfl rfl (Nat.le_of_ble_eq_true rfl) (by omega) ⟨Nat.le_refl _, Nat.le_refl _⟩ (hC N S k o a (dep + 1) M (by omega) hR (by omega) (by omega) (by omega) (by (try simp only [List.length_append, List.length_cons, List.length_nil]); omega) (by omega)) (fun r137 M138 kq139 q139 => ?_)
      clear kq139
      rcases q139 with ⟨hE_140, rfl, hf_140, ho_140⟩ | ⟨k_140, N_140, S_140, o_140, a_140, c_140, hE_140, rfl, hR_140⟩
      · skip
        refine G_ps (pc' := 27) (st' := [vi (-1)]) rfl rfl ?_
        refine G_istore (i := 4) (len := 2) (ls' := [(4, vi (-1)), (0, vr 13), (1, vi (tcode t)), (2, vi (ts S)), (3, vi dep)]) (Or.inr ⟨rfl, d_Re_readRight_27⟩) (by decide) rfl (G_pc (pc' := 29) rfl ?_)
        refine G_iload (i := 4) (n := 0) (len := 2) (Or.inr ⟨rfl, d_Re_readRight_29⟩) rfl (G_pc (pc' := 31) rfl ?_)
        refine G_iconst (n := (-1)) d_Re_readRight_31 (by decide) (G_pc (pc' := 32) rfl ?_)
        refine G_icmp_ne (tgt := 39) d_Re_readRight_32 (by decide) (fun h141 => absurd h141 (by decide)) (fun h141 => G_pc (pc' := 35) rfl ?_)
        refine G_iconst (n := (-1)) d_Re_readRight_35 (by decide) (G_pc (pc' := 36) rfl ?_)
        refine G_goto (tgt := 50) d_Re_readRight_36 (by decide) ?_
        refine G_iret d_Re_readRight_50 rfl (tokI (by decide)) rfl rfl ?_
        exact Or.inl ⟨right_bn (by omega) (by first | exact hE_140 | (rw [if_pos (by omega)]; exact hE_140) | (rw [if_neg (by omega)]; exact hE_140)), rfl, hf_140, ho_140⟩
      · skip
        obtain ⟨⟨ja_140, jb_140, jc_140, jd_140, je_140, jf_140⟩, jg_140⟩ := hJ k N S o a _ (by omega) (by omega) (by omega) hE_140
        have jc1_140 := jc_140.1; have jc2_140 := jc_140.2.1
        have jt_140 : ts S_140 = (S_140.length : Int) - 1 := rfl
        (try simp only [List.length_append, List.length_cons, List.length_nil, patch_len] at jc1_140 jc2_140)
        refine G_ps (pc' := 27) (st' := [vi (ts S_140)]) rfl rfl ?_
        refine G_istore (i := 4) (len := 2) (ls' := [(4, vi (ts S_140)), (0, vr 13), (1, vi (tcode t)), (2, vi (ts S)), (3, vi dep)]) (Or.inr ⟨rfl, d_Re_readRight_27⟩) (by decide) rfl (G_pc (pc' := 29) rfl ?_)
        refine G_iload (i := 4) (n := 0) (len := 2) (Or.inr ⟨rfl, d_Re_readRight_29⟩) rfl (G_pc (pc' := 31) rfl ?_)
        refine G_iconst (n := (-1)) d_Re_readRight_31 (by decide) (G_pc (pc' := 32) rfl ?_)
        refine G_icmp_ne (tgt := 39) d_Re_readRight_32 (by decide) (fun h142 => ?_) (fun h142 => absurd h142 (by omega))
        refine G_aload (i := 0) (n := 1) (len := 1) (Or.inl ⟨0, rfl, rfl, d_Re_readRight_39⟩) rfl (by decide) (G_pc (pc' := 40) rfl ?_)
        refine G_get (o := 13) (c := 4) (k := 1) (v := M138 13 1) d_Re_readRight_40 fl_Re_18 rfl (by decide) (by decide) rfl rfl (G_pc (pc' := 43) rfl ?_)
        rw [show M138 13 1 = ((20 + 9 * e : Nat) : Int) from RD_st hR_140 he hst]
        refine G_iload (i := 1) (n := 2) (len := 1) (Or.inl ⟨1, rfl, rfl, d_Re_readRight_43⟩) rfl (G_pc (pc' := 44) rfl ?_)
        refine G_iload (i := 2) (n := 3) (len := 1) (Or.inl ⟨2, rfl, rfl, d_Re_readRight_44⟩) rfl (G_pc (pc' := 45) rfl ?_)
        refine G_iload (i := 4) (n := 0) (len := 2) (Or.inr ⟨rfl, d_Re_readRight_45⟩) rfl (G_pc (pc' := 47) rfl ?_)
        refine G_callV (K1 := KE) (d2 := 1) (o := (20 + 9 * e)) (cl := 5) (as := [vi (tcode t), vi (ts S), vi (ts S_140)]) (rest := []) d_Re_readRight_47 mf_St_add ml_Re_56 (kd_St he) rfl (by show 20 + 9 * e < 87; omega) rfl rfl (Nat.le_of_ble_eq_true rfl) (by omega) ⟨Nat.le_refl _, Nat.le_refl _⟩ (g_St_add (by omega) e (tcode t) (ts S) (ts S_140) M138 he (by have h9 := RD_n hR_140; omega)) (fun r143 M144 kq145 q145 => ?_)
        clear kq145; obtain ⟨q145a, q145b⟩ := q145; subst r143; subst M144
        rw [RD_n hR_140]
        refine G_ps (pc' := 50) (st' := [vi ((S_140).length : Int)]) rfl rfl ?_
        refine G_abs (R := fun M9 => RD e M0 M9 (S_140 ++ [(tcode t, ts S, ts S_140, 0, 0, 0)]) k_140 o_140 a_140) (RD_add hR_140 (by first | decide | omega) he) (fun M146 hR147 => ?_)
        have hl148 : ((S_140 ++ [(tcode t, ts S, ts S_140, 0, 0, 0)]).length : Int) = (S_140).length + 1 := len_add _ _
        refine G_iret d_Re_readRight_50 rfl (tokI (by omega)) rfl rfl ?_
        exact Or.inr ⟨_, _, _, _, _, _, right_bs (by omega) (by first | exact hE_140 | (rw [if_pos (by omega)]; exact hE_140) | (rw [if_neg (by omega)]; exact hE_140)), by rw [ts_add], hR147⟩

theorem d_Re_readCast_0 : decode b_Re_readCast 0 = .ok (.aload_n 0, 1) := by decide +kernel
theorem d_Re_readCast_1 : decode b_Re_readCast 1 = .ok (.getfield 12, 3) := by decide +kernel
theorem d_Re_readCast_4 : decode b_Re_readCast 4 = .ok (.aload_n 0, 1) := by decide +kernel
theorem d_Re_readCast_5 : decode b_Re_readCast 5 = .ok (.getfield 27, 3) := by decide +kernel
theorem d_Re_readCast_8 : decode b_Re_readCast 8 = .ok (.iconst 1, 1) := by decide +kernel
theorem d_Re_readCast_9 : decode b_Re_readCast 9 = .ok (.iadd, 1) := by decide +kernel
theorem d_Re_readCast_10 : decode b_Re_readCast 10 = .ok (.invokevirtual 84, 3) := by decide +kernel
theorem d_Re_readCast_13 : decode b_Re_readCast 13 = .ok (.l2i, 1) := by decide +kernel
theorem d_Re_readCast_14 : decode b_Re_readCast 14 = .ok (.istore_n 2, 1) := by decide +kernel
theorem d_Re_readCast_15 : decode b_Re_readCast 15 = .ok (.aload_n 0, 1) := by decide +kernel
theorem d_Re_readCast_16 : decode b_Re_readCast 16 = .ok (.dup, 1) := by decide +kernel
theorem d_Re_readCast_17 : decode b_Re_readCast 17 = .ok (.getfield 27, 3) := by decide +kernel
theorem d_Re_readCast_20 : decode b_Re_readCast 20 = .ok (.iconst 2, 1) := by decide +kernel
theorem d_Re_readCast_21 : decode b_Re_readCast 21 = .ok (.iadd, 1) := by decide +kernel
theorem d_Re_readCast_22 : decode b_Re_readCast 22 = .ok (.putfield 27, 3) := by decide +kernel
theorem d_Re_readCast_25 : decode b_Re_readCast 25 = .ok (.aload_n 0, 1) := by decide +kernel
theorem d_Re_readCast_26 : decode b_Re_readCast 26 = .ok (.bipush 91, 2) := by decide +kernel
theorem d_Re_readCast_28 : decode b_Re_readCast 28 = .ok (.invokevirtual 52, 3) := by decide +kernel
theorem d_Re_readCast_31 : decode b_Re_readCast 31 = .ok (.ifCond .eq 21, 3) := by decide +kernel
theorem d_Re_readCast_34 : decode b_Re_readCast 34 = .ok (.aload_n 0, 1) := by decide +kernel
theorem d_Re_readCast_35 : decode b_Re_readCast 35 = .ok (.bipush 93, 2) := by decide +kernel
theorem d_Re_readCast_37 : decode b_Re_readCast 37 = .ok (.invokevirtual 52, 3) := by decide +kernel
theorem d_Re_readCast_40 : decode b_Re_readCast 40 = .ok (.ifCond .eq 10, 3) := by decide +kernel
theorem d_Re_readCast_43 : decode b_Re_readCast 43 = .ok (.iload_n 2, 1) := by decide +kernel
theorem d_Re_readCast_44 : decode b_Re_readCast 44 = .ok (.invokestatic 114, 3) := by decide +kernel
theorem d_Re_readCast_47 : decode b_Re_readCast 47 = .ok (.goto 4, 3) := by decide +kernel
theorem d_Re_readCast_50 : decode b_Re_readCast 50 = .ok (.iconst (-1), 1) := by decide +kernel
theorem d_Re_readCast_51 : decode b_Re_readCast 51 = .ok (.istore_n 2, 1) := by decide +kernel
theorem d_Re_readCast_52 : decode b_Re_readCast 52 = .ok (.iload_n 2, 1) := by decide +kernel
theorem d_Re_readCast_53 : decode b_Re_readCast 53 = .ok (.iconst (-1), 1) := by decide +kernel
theorem d_Re_readCast_54 : decode b_Re_readCast 54 = .ok (.if_icmp .eq 12, 3) := by decide +kernel
theorem d_Re_readCast_57 : decode b_Re_readCast 57 = .ok (.aload_n 0, 1) := by decide +kernel
theorem d_Re_readCast_58 : decode b_Re_readCast 58 = .ok (.bipush 41, 2) := by decide +kernel
theorem d_Re_readCast_60 : decode b_Re_readCast 60 = .ok (.invokevirtual 52, 3) := by decide +kernel
theorem d_Re_readCast_63 : decode b_Re_readCast 63 = .ok (.ifCond .ne 5, 3) := by decide +kernel
theorem d_Re_readCast_66 : decode b_Re_readCast 66 = .ok (.iconst (-1), 1) := by decide +kernel
theorem d_Re_readCast_67 : decode b_Re_readCast 67 = .ok (.ireturn, 1) := by decide +kernel
theorem d_Re_readCast_68 : decode b_Re_readCast 68 = .ok (.aload_n 0, 1) := by decide +kernel
theorem d_Re_readCast_69 : decode b_Re_readCast 69 = .ok (.iload_n 1, 1) := by decide +kernel
theorem d_Re_readCast_70 : decode b_Re_readCast 70 = .ok (.iconst 1, 1) := by decide +kernel
theorem d_Re_readCast_71 : decode b_Re_readCast 71 = .ok (.iadd, 1) := by decide +kernel
theorem d_Re_readCast_72 : decode b_Re_readCast 72 = .ok (.invokevirtual 72, 3) := by decide +kernel
theorem d_Re_readCast_75 : decode b_Re_readCast 75 = .ok (.istore_n 3, 1) := by decide +kernel
theorem d_Re_readCast_76 : decode b_Re_readCast 76 = .ok (.iload_n 3, 1) := by decide +kernel
theorem d_Re_readCast_77 : decode b_Re_readCast 77 = .ok (.iconst (-1), 1) := by decide +kernel
theorem d_Re_readCast_78 : decode b_Re_readCast 78 = .ok (.if_icmp .ne 7, 3) := by decide +kernel
theorem d_Re_readCast_81 : decode b_Re_readCast 81 = .ok (.iconst (-1), 1) := by decide +kernel
theorem d_Re_readCast_82 : decode b_Re_readCast 82 = .ok (.goto 15, 3) := by decide +kernel
theorem d_Re_readCast_85 : decode b_Re_readCast 85 = .ok (.aload_n 0, 1) := by decide +kernel
theorem d_Re_readCast_86 : decode b_Re_readCast 86 = .ok (.getfield 18, 3) := by decide +kernel
theorem d_Re_readCast_89 : decode b_Re_readCast 89 = .ok (.sipush 146, 3) := by decide +kernel
theorem d_Re_readCast_92 : decode b_Re_readCast 92 = .ok (.iload_n 3, 1) := by decide +kernel
theorem d_Re_readCast_93 : decode b_Re_readCast 93 = .ok (.iload_n 2, 1) := by decide +kernel
theorem d_Re_readCast_94 : decode b_Re_readCast 94 = .ok (.invokevirtual 56, 3) := by decide +kernel
theorem d_Re_readCast_97 : decode b_Re_readCast 97 = .ok (.ireturn, 1) := by decide +kernel
set_option maxHeartbeats 400000 in
theorem g_Re_readCast {X : WX} {d : Nat} (hd : 2 ≤ d) (e : Nat) (T W : Int → Int) (n : Int) (M0 : Mem) (b : Int) (N : List ND) (S : List SD) (k o a dep : Int) (R : DS → Option DS) (d0 : Nat) (M : Mem) (he : e < 4) (hTR : TR M0 T W n) (hst : M0 13 1 = ((20 + 9 * e : Nat) : Int)) (hR : RD e M0 M S k o a) (hk : 0 ≤ k ∧ k ≤ n) (ho : 0 ≤ o ∧ o ≤ 6) (ha : 0 ≤ a ∧ a ≤ 4) (hS : (S.length : Int) ≤ 2 * k) (hdep : 0 ≤ dep ∧ dep ≤ k) (h10 : 10 ≤ d0) (hd0 : d0 + 1 ≤ d) (hC : CU X d0 e n M0 b R) (hJ : J1 n R) (hb : 5 * (n - k) ≤ b + 2) (hc0 : T k = 20) (hc1 : 8 ≤ T (k + 1) ∧ T (k + 1) ≤ 12) : MG X gt d KE KE y_Re_readCast b_Re_readCast 4 (some .int) [vr 13, vi dep] M (RQ e M0 o (castR R N S o a (castD T W k))) := by
  refine MG_of_G (by decide) (Nat.le_of_ble_eq_true rfl) (Nat.le_refl _) (by decide) ?_
  show G X gt d KE KE y_Re_readCast b_Re_readCast 4 (some .int) _ 0 [(0, vr 13), (1, vi dep)] [] KE M
  have hn2 := hTR.2.1
  have q0 := (TR_T hTR (k := k) (by omega)).2
  have q1 := (TR_T hTR (k := k + 1) (by omega)).2
  have q2 := (TR_T hTR (k := k + 2) (by omega)).2
  have q3 := (TR_T hTR (k := k + 3) (by omega)).2
  have q4 := (TR_T hTR (k := k + 4) (by omega)).2
  have e7 := hc1
  have e6 := (hTR.2.2.2.2.2 (k + 1) (by omega) (by omega)).2.1 (by omega) (by omega)
  have e9 := tn_ty e7 e6
  refine G_aload (i := 0) (n := 0) (len := 1) (Or.inl ⟨0, rfl, rfl, d_Re_readCast_0⟩) rfl (by decide) (G_pc (pc' := 1) rfl ?_)
  refine G_get (o := 13) (c := 4) (k := 0) (v := 14) d_Re_readCast_1 fl_Re_12 rfl (by decide) (by decide) rfl rfl (G_pc (pc' := 4) rfl ?_)
  refine G_aload (i := 0) (n := 0) (len := 1) (Or.inl ⟨0, rfl, rfl, d_Re_readCast_4⟩) rfl (by decide) (G_pc (pc' := 5) rfl ?_)
  refine G_get (o := 13) (c := 4) (k := 2) (v := M 13 2) d_Re_readCast_5 fl_Re_27 rfl (by decide) (by decide) rfl rfl (G_pc (pc' := 8) rfl ?_)
  rw [show M 13 2 = k from RD_k hR]
  refine G_iconst (n := 1) d_Re_readCast_8 (by decide) (G_pc (pc' := 9) rfl ?_)
  refine G_iadd d_Re_readCast_9 (by omega) (G_pc (pc' := 10) rfl ?_)
  refine G_callV (K1 := KE) (d2 := 0) (o := 14) (cl := 7) (as := [vi (k + 1)]) (rest := []) d_Re_readCast_10 mf_To_numberAt ml_Re_84 rfl rfl (by decide) rfl rfl (Nat.le_of_ble_eq_true rfl) (by omega) ⟨Nat.le_refl _, Nat.le_refl _⟩ (g_To_numberAt (by omega) T W n (k + 1) M (RD_TR hR he hTR) (by omega)) (fun r1 M2 kq3 q3 => ?_)
  clear kq3; obtain ⟨q3a, q3b⟩ := q3; subst r1; subst M2
  refine G_ps (pc' := 13) (st' := [vl (tnum (T (k + 1)) (W (k + 1)))]) rfl rfl ?_
  have ok4 := TR_T hTR (k := k + 1) (by omega)
  refine G_l2i d_Re_readCast_13 (G_pc (pc' := 14) rfl ?_)
  rw [show w32 (tnum (T (k + 1)) (W (k + 1))) = castK (T (k + 1)) (W (k + 1)) false from e9.1]
  refine G_istore (i := 2) (len := 1) (ls' := [(2, vi (castK (T (k + 1)) (W (k + 1)) false)), (0, vr 13), (1, vi dep)]) (Or.inl ⟨2, rfl, rfl, d_Re_readCast_14⟩) (by decide) rfl (G_pc (pc' := 15) rfl ?_)
  refine G_aload (i := 0) (n := 1) (len := 1) (Or.inl ⟨0, rfl, rfl, d_Re_readCast_15⟩) rfl (by decide) (G_pc (pc' := 16) rfl ?_)
  refine G_dup d_Re_readCast_16 (fun _ h => by cases h) (G_pc (pc' := 17) rfl ?_)
  refine G_get (o := 13) (c := 4) (k := 2) (v := M 13 2) d_Re_readCast_17 fl_Re_27 rfl (by decide) (by decide) rfl rfl (G_pc (pc' := 20) rfl ?_)
  rw [show M 13 2 = k from RD_k hR]
  refine G_iconst (n := 2) d_Re_readCast_20 (by decide) (G_pc (pc' := 21) rfl ?_)
  refine G_iadd d_Re_readCast_21 (by omega) (G_pc (pc' := 22) rfl ?_)
  refine G_putL (o := 13) (c := 4) (k := 2) (ki := 2) (x := k + 2) d_Re_readCast_22 fl_Re_27 rfl rfl (by decide) (by decide) (by decide) rfl rfl (tokI (by omega)) rfl (G_pc (pc' := 25) rfl ?_)
  refine G_abs (R := fun M9 => RD e M0 M9 S (k + 2) o a) (RD_nk (RD_sk hR) (by omega)) (fun M5 hR6 => ?_)
  refine G_aload (i := 0) (n := 1) (len := 1) (Or.inl ⟨0, rfl, rfl, d_Re_readCast_25⟩) rfl (by decide) (G_pc (pc' := 26) rfl ?_)
  refine G_bipush (n := 91) d_Re_readCast_26 (by decide) (G_pc (pc' := 28) rfl ?_)
  refine G_callV (K1 := KE) (d2 := 1) (o := 13) (cl := 4) (as := [vi 91]) (rest := []) d_Re_readCast_28 mf_Re_takes ml_Re_52 rfl rfl (by decide) rfl rfl (Nat.le_of_ble_eq_true rfl) (by omega) ⟨Nat.le_refl _, Nat.le_refl _⟩ (g_Re_takes (by omega) e T W n M0 91 S (k + 2) o a M5 he hTR hR6 (by omega)) (fun r7 M8 kq9 q9 => ?_)
  clear kq9
  by_cases hc10 : tcode (T (k + 2)) = 91
  · skip
    obtain ⟨q9a, q9b⟩ := q9.1 hc10
    subst r7; subst M8
    rw [tc_91 (TR_T hTR (by omega)).1] at hc10
    refine G_ps (pc' := 31) (st' := [vi 1]) rfl rfl ?_
    refine G_abs (R := fun M9 => RD e M0 M9 S (k + 3) o a) (RD_nk (RD_sk hR6) (by omega)) (fun M11 hR12 => ?_)
    refine G_if_eq (tgt := 52) d_Re_readCast_31 (by decide) (fun h13 => absurd h13 (by decide)) (fun h13 => G_pc (pc' := 34) rfl ?_)
    refine G_aload (i := 0) (n := 1) (len := 1) (Or.inl ⟨0, rfl, rfl, d_Re_readCast_34⟩) rfl (by decide) (G_pc (pc' := 35) rfl ?_)
    refine G_bipush (n := 93) d_Re_readCast_35 (by decide) (G_pc (pc' := 37) rfl ?_)
    refine G_callV (K1 := KE) (d2 := 1) (o := 13) (cl := 4) (as := [vi 93]) (rest := []) d_Re_readCast_37 mf_Re_takes ml_Re_52 rfl rfl (by decide) rfl rfl (Nat.le_of_ble_eq_true rfl) (by omega) ⟨Nat.le_refl _, Nat.le_refl _⟩ (g_Re_takes (by omega) e T W n M0 93 S (k + 3) o a M11 he hTR hR12 (by omega)) (fun r14 M15 kq16 q16 => ?_)
    clear kq16
    by_cases hc17 : tcode (T (k + 3)) = 93
    · skip
      obtain ⟨q16a, q16b⟩ := q16.1 hc17
      subst r14; subst M15
      rw [tc_93 (TR_T hTR (by omega)).1] at hc17
      refine G_ps (pc' := 40) (st' := [vi 1]) rfl rfl ?_
      refine G_abs (R := fun M9 => RD e M0 M9 S (k + 4) o a) (RD_nk (RD_sk hR12) (by omega)) (fun M18 hR19 => ?_)
      refine G_if_eq (tgt := 50) d_Re_readCast_40 (by decide) (fun h20 => absurd h20 (by decide)) (fun h20 => G_pc (pc' := 43) rfl ?_)
      refine G_iload (i := 2) (n := 0) (len := 1) (Or.inl ⟨2, rfl, rfl, d_Re_readCast_43⟩) rfl (G_pc (pc' := 44) rfl ?_)
      refine G_callS (K1 := KE) (d2 := 1) (as := [vi (castK (T (k + 1)) (W (k + 1)) false)]) (rest := []) d_Re_readCast_44 mf_Ki_arrayOf ml_Re_114 rfl rfl (Nat.le_of_ble_eq_true rfl) (by omega) ⟨Nat.le_refl _, Nat.le_refl _⟩ (g_Ki_arrayOf (by omega) (castK (T (k + 1)) (W (k + 1)) false) _) (fun r21 M22 kq23 q23 => ?_)
      clear kq23; obtain ⟨q23a, q23b⟩ := q23; subst r21; subst M22
      refine G_ps (pc' := 47) (st' := [vi (aoD (castK (T (k + 1)) (W (k + 1)) false))]) rfl rfl ?_
      refine G_goto (tgt := 51) d_Re_readCast_47 (by decide) ?_
      by_cases h89 : T (k + 1) = 8 ∨ T (k + 1) = 9
      · skip
        have e8 := (ao_ck e7 e6).1 h89
        refine G_istore (i := 2) (len := 1) (ls' := [(2, vi (aoD (castK (T (k + 1)) (W (k + 1)) false))), (0, vr 13), (1, vi dep)]) (Or.inl ⟨2, rfl, rfl, d_Re_readCast_51⟩) (by decide) rfl (G_pc (pc' := 52) rfl ?_)
        refine G_iload (i := 2) (n := 0) (len := 1) (Or.inl ⟨2, rfl, rfl, d_Re_readCast_52⟩) rfl (G_pc (pc' := 53) rfl ?_)
        refine G_iconst (n := (-1)) d_Re_readCast_53 (by decide) (G_pc (pc' := 54) rfl ?_)
        refine G_icmp_eq (tgt := 66) d_Re_readCast_54 (by decide) (fun h24 => ?_) (fun h24 => G_pc (pc' := 57) rfl ?_)
        · skip
          refine G_iconst (n := (-1)) d_Re_readCast_66 (by decide) (G_pc (pc' := 67) rfl ?_)
          refine G_iret d_Re_readCast_67 rfl (tokI (by decide)) rfl rfl ?_
          exact Or.inl ⟨by rw [cast_an (by omega) (by omega)]; rfl, rfl, hR19.1, RD_o hR19⟩
        · skip
          refine G_aload (i := 0) (n := 1) (len := 1) (Or.inl ⟨0, rfl, rfl, d_Re_readCast_57⟩) rfl (by decide) (G_pc (pc' := 58) rfl ?_)
          refine G_bipush (n := 41) d_Re_readCast_58 (by decide) (G_pc (pc' := 60) rfl ?_)
          refine G_callV (K1 := KE) (d2 := 1) (o := 13) (cl := 4) (as := [vi 41]) (rest := []) d_Re_readCast_60 mf_Re_takes ml_Re_52 rfl rfl (by decide) rfl rfl (Nat.le_of_ble_eq_true rfl) (by omega) ⟨Nat.le_refl _, Nat.le_refl _⟩ (g_Re_takes (by omega) e T W n M0 41 S (k + 4) o a M18 he hTR hR19 (by omega)) (fun r25 M26 kq27 q27 => ?_)
          clear kq27
          by_cases hc28 : tcode (T (k + 4)) = 41
          · skip
            obtain ⟨q27a, q27b⟩ := q27.1 hc28
            subst r25; subst M26
            rw [tc_41 (TR_T hTR (by omega)).1] at hc28
            refine G_ps (pc' := 63) (st' := [vi 1]) rfl rfl ?_
            refine G_abs (R := fun M9 => RD e M0 M9 S (k + 5) o a) (RD_nk (RD_sk hR19) (by omega)) (fun M29 hR30 => ?_)
            refine G_if_ne (tgt := 68) d_Re_readCast_63 (by decide) (fun h31 => ?_) (fun h31 => absurd h31 (by decide))
            refine G_aload (i := 0) (n := 1) (len := 1) (Or.inl ⟨0, rfl, rfl, d_Re_readCast_68⟩) rfl (by decide) (G_pc (pc' := 69) rfl ?_)
            refine G_iload (i := 1) (n := 2) (len := 1) (Or.inl ⟨1, rfl, rfl, d_Re_readCast_69⟩) rfl (G_pc (pc' := 70) rfl ?_)
            refine G_iconst (n := 1) d_Re_readCast_70 (by decide) (G_pc (pc' := 71) rfl ?_)
            refine G_iadd d_Re_readCast_71 (by omega) (G_pc (pc' := 72) rfl ?_)
            refine G_callV (K1 := KE) (d2 := d0) (o := 13) (cl := 4) (as := [vi (dep + 1)]) (rest := []) d_Re_readCast_72 mf_Re_readUnary ml_Re_72 rfl rfl (by decide) rfl rfl (Nat.le_of_ble_eq_true rfl) (by omega) ⟨Nat.le_refl _, Nat.le_refl _⟩ (hC N S (k + 5) o a (dep + 1) M29 (by omega) hR30 (by omega) (by omega) (by omega) (by omega) (by omega)) (fun r32 M33 kq34 q34 => ?_)
            clear kq34
            rcases q34 with ⟨hE_35, rfl, hf_35, ho_35⟩ | ⟨k_35, N_35, S_35, o_35, a_35, c_35, hE_35, rfl, hR_35⟩
            · skip
              refine G_ps (pc' := 75) (st' := [vi (-1)]) rfl rfl ?_
              refine G_istore (i := 3) (len := 1) (ls' := [(3, vi (-1)), (2, vi (aoD (castK (T (k + 1)) (W (k + 1)) false))), (0, vr 13), (1, vi dep)]) (Or.inl ⟨3, rfl, rfl, d_Re_readCast_75⟩) (by decide) rfl (G_pc (pc' := 76) rfl ?_)
              refine G_iload (i := 3) (n := 0) (len := 1) (Or.inl ⟨3, rfl, rfl, d_Re_readCast_76⟩) rfl (G_pc (pc' := 77) rfl ?_)
              refine G_iconst (n := (-1)) d_Re_readCast_77 (by decide) (G_pc (pc' := 78) rfl ?_)
              refine G_icmp_ne (tgt := 85) d_Re_readCast_78 (by decide) (fun h36 => absurd h36 (by decide)) (fun h36 => G_pc (pc' := 81) rfl ?_)
              refine G_iconst (n := (-1)) d_Re_readCast_81 (by decide) (G_pc (pc' := 82) rfl ?_)
              refine G_goto (tgt := 97) d_Re_readCast_82 (by decide) ?_
              refine G_iret d_Re_readCast_97 rfl (tokI (by decide)) rfl rfl ?_
              exact Or.inl ⟨by rw [cast_a (by omega) (by omega) (by omega) (by omega)]; exact endU_n hE_35, rfl, hf_35, ho_35⟩
            · skip
              obtain ⟨⟨ja_35, jb_35, jc_35, jd_35, je_35, jf_35⟩, jg_35⟩ := hJ (k + 5) N S o a _ (by omega) (by omega) (by omega) hE_35
              have jc1_35 := jc_35.1; have jc2_35 := jc_35.2.1
              have jt_35 : ts S_35 = (S_35.length : Int) - 1 := rfl
              (try simp only [List.length_append, List.length_cons, List.length_nil, patch_len] at jc1_35 jc2_35)
              refine G_ps (pc' := 75) (st' := [vi (ts S_35)]) rfl rfl ?_
              refine G_istore (i := 3) (len := 1) (ls' := [(3, vi (ts S_35)), (2, vi (aoD (castK (T (k + 1)) (W (k + 1)) false))), (0, vr 13), (1, vi dep)]) (Or.inl ⟨3, rfl, rfl, d_Re_readCast_75⟩) (by decide) rfl (G_pc (pc' := 76) rfl ?_)
              refine G_iload (i := 3) (n := 0) (len := 1) (Or.inl ⟨3, rfl, rfl, d_Re_readCast_76⟩) rfl (G_pc (pc' := 77) rfl ?_)
              refine G_iconst (n := (-1)) d_Re_readCast_77 (by decide) (G_pc (pc' := 78) rfl ?_)
              refine G_icmp_ne (tgt := 85) d_Re_readCast_78 (by decide) (fun h37 => ?_) (fun h37 => absurd h37 (by omega))
              refine G_aload (i := 0) (n := 2) (len := 1) (Or.inl ⟨0, rfl, rfl, d_Re_readCast_85⟩) rfl (by decide) (G_pc (pc' := 86) rfl ?_)
              refine G_get (o := 13) (c := 4) (k := 1) (v := M33 13 1) d_Re_readCast_86 fl_Re_18 rfl (by decide) (by decide) rfl rfl (G_pc (pc' := 89) rfl ?_)
              rw [show M33 13 1 = ((20 + 9 * e : Nat) : Int) from RD_st hR_35 he hst]
              refine G_sipush (n := 146) d_Re_readCast_89 (by decide) (G_pc (pc' := 92) rfl ?_)
              refine G_iload (i := 3) (n := 0) (len := 1) (Or.inl ⟨3, rfl, rfl, d_Re_readCast_92⟩) rfl (G_pc (pc' := 93) rfl ?_)
              refine G_iload (i := 2) (n := 1) (len := 1) (Or.inl ⟨2, rfl, rfl, d_Re_readCast_93⟩) rfl (G_pc (pc' := 94) rfl ?_)
              refine G_callV (K1 := KE) (d2 := 1) (o := (20 + 9 * e)) (cl := 5) (as := [vi 146, vi (ts S_35), vi (aoD (castK (T (k + 1)) (W (k + 1)) false))]) (rest := []) d_Re_readCast_94 mf_St_add ml_Re_56 (kd_St he) rfl (by show 20 + 9 * e < 87; omega) rfl rfl (Nat.le_of_ble_eq_true rfl) (by omega) ⟨Nat.le_refl _, Nat.le_refl _⟩ (g_St_add (by omega) e 146 (ts S_35) (aoD (castK (T (k + 1)) (W (k + 1)) false)) M33 he (by have h9 := RD_n hR_35; omega)) (fun r38 M39 kq40 q40 => ?_)
              clear kq40; obtain ⟨q40a, q40b⟩ := q40; subst r38; subst M39
              rw [RD_n hR_35]
              refine G_ps (pc' := 97) (st' := [vi ((S_35).length : Int)]) rfl rfl ?_
              refine G_abs (R := fun M9 => RD e M0 M9 (S_35 ++ [(146, ts S_35, aoD (castK (T (k + 1)) (W (k + 1)) false), 0, 0, 0)]) k_35 o_35 a_35) (RD_add hR_35 (by first | decide | omega) he) (fun M41 hR42 => ?_)
              have hl43 : ((S_35 ++ [(146, ts S_35, aoD (castK (T (k + 1)) (W (k + 1)) false), 0, 0, 0)]).length : Int) = (S_35).length + 1 := len_add _ _
              refine G_iret d_Re_readCast_97 rfl (tokI (by omega)) rfl rfl ?_
              rw [e8.1] at hR42
              exact Or.inr ⟨_, _, _, _, _, _, by rw [cast_a (by omega) (by omega) (by omega) (by omega)]; exact endU_s hE_35, by rw [ts_add], hR42⟩
          · skip
            obtain ⟨q27a, q27b⟩ := q27.2 hc28
            subst r25; subst M26
            rw [tc_41 (TR_T hTR (by omega)).1] at hc28
            refine G_ps (pc' := 63) (st' := [vi 0]) rfl rfl ?_
            refine G_if_ne (tgt := 68) d_Re_readCast_63 (by decide) (fun h44 => absurd h44 (by decide)) (fun h44 => G_pc (pc' := 66) rfl ?_)
            refine G_iconst (n := (-1)) d_Re_readCast_66 (by decide) (G_pc (pc' := 67) rfl ?_)
            refine G_iret d_Re_readCast_67 rfl (tokI (by decide)) rfl rfl ?_
            exact Or.inl ⟨by rw [cast_an (by omega) (by omega)]; rfl, rfl, hR19.1, RD_o hR19⟩
      · skip
        have e8 := (ao_ck e7 e6).2 h89
        rw [show aoD (castK (T (k + 1)) (W (k + 1)) false) = (-1) from e8]
        refine G_istore (i := 2) (len := 1) (ls' := [(2, vi (-1)), (0, vr 13), (1, vi dep)]) (Or.inl ⟨2, rfl, rfl, d_Re_readCast_51⟩) (by decide) rfl (G_pc (pc' := 52) rfl ?_)
        refine G_iload (i := 2) (n := 0) (len := 1) (Or.inl ⟨2, rfl, rfl, d_Re_readCast_52⟩) rfl (G_pc (pc' := 53) rfl ?_)
        refine G_iconst (n := (-1)) d_Re_readCast_53 (by decide) (G_pc (pc' := 54) rfl ?_)
        refine G_icmp_eq (tgt := 66) d_Re_readCast_54 (by decide) (fun h45 => ?_) (fun h45 => absurd h45 (by decide))
        refine G_iconst (n := (-1)) d_Re_readCast_66 (by decide) (G_pc (pc' := 67) rfl ?_)
        refine G_iret d_Re_readCast_67 rfl (tokI (by decide)) rfl rfl ?_
        exact Or.inl ⟨by rw [cast_an (by omega) (by omega)]; rfl, rfl, hR19.1, RD_o hR19⟩
    · skip
      obtain ⟨q16a, q16b⟩ := q16.2 hc17
      subst r14; subst M15
      rw [tc_93 (TR_T hTR (by omega)).1] at hc17
      refine G_ps (pc' := 40) (st' := [vi 0]) rfl rfl ?_
      refine G_if_eq (tgt := 50) d_Re_readCast_40 (by decide) (fun h46 => ?_) (fun h46 => absurd h46 (by decide))
      refine G_iconst (n := (-1)) d_Re_readCast_50 (by decide) (G_pc (pc' := 51) rfl ?_)
      refine G_istore (i := 2) (len := 1) (ls' := [(2, vi (-1)), (0, vr 13), (1, vi dep)]) (Or.inl ⟨2, rfl, rfl, d_Re_readCast_51⟩) (by decide) rfl (G_pc (pc' := 52) rfl ?_)
      refine G_iload (i := 2) (n := 0) (len := 1) (Or.inl ⟨2, rfl, rfl, d_Re_readCast_52⟩) rfl (G_pc (pc' := 53) rfl ?_)
      refine G_iconst (n := (-1)) d_Re_readCast_53 (by decide) (G_pc (pc' := 54) rfl ?_)
      refine G_icmp_eq (tgt := 66) d_Re_readCast_54 (by decide) (fun h47 => ?_) (fun h47 => absurd h47 (by decide))
      refine G_iconst (n := (-1)) d_Re_readCast_66 (by decide) (G_pc (pc' := 67) rfl ?_)
      refine G_iret d_Re_readCast_67 rfl (tokI (by decide)) rfl rfl ?_
      exact Or.inl ⟨by rw [cast_an (by omega) (by omega)]; rfl, rfl, hR12.1, RD_o hR12⟩
  · skip
    obtain ⟨q9a, q9b⟩ := q9.2 hc10
    subst r7; subst M8
    rw [tc_91 (TR_T hTR (by omega)).1] at hc10
    refine G_ps (pc' := 31) (st' := [vi 0]) rfl rfl ?_
    refine G_if_eq (tgt := 52) d_Re_readCast_31 (by decide) (fun h48 => ?_) (fun h48 => absurd h48 (by decide))
    refine G_iload (i := 2) (n := 0) (len := 1) (Or.inl ⟨2, rfl, rfl, d_Re_readCast_52⟩) rfl (G_pc (pc' := 53) rfl ?_)
    refine G_iconst (n := (-1)) d_Re_readCast_53 (by decide) (G_pc (pc' := 54) rfl ?_)
    refine G_icmp_eq (tgt := 66) d_Re_readCast_54 (by decide) (fun h49 => ?_) (fun h49 => G_pc (pc' := 57) rfl ?_)
    · skip
      refine G_iconst (n := (-1)) d_Re_readCast_66 (by decide) (G_pc (pc' := 67) rfl ?_)
      refine G_iret d_Re_readCast_67 rfl (tokI (by decide)) rfl rfl ?_
      exact Or.inl ⟨by rw [cast_bn (by omega) (by omega)]; rfl, rfl, hR6.1, RD_o hR6⟩
    · skip
      refine G_aload (i := 0) (n := 1) (len := 1) (Or.inl ⟨0, rfl, rfl, d_Re_readCast_57⟩) rfl (by decide) (G_pc (pc' := 58) rfl ?_)
      refine G_bipush (n := 41) d_Re_readCast_58 (by decide) (G_pc (pc' := 60) rfl ?_)
      refine G_callV (K1 := KE) (d2 := 1) (o := 13) (cl := 4) (as := [vi 41]) (rest := []) d_Re_readCast_60 mf_Re_takes ml_Re_52 rfl rfl (by decide) rfl rfl (Nat.le_of_ble_eq_true rfl) (by omega) ⟨Nat.le_refl _, Nat.le_refl _⟩ (g_Re_takes (by omega) e T W n M0 41 S (k + 2) o a M5 he hTR hR6 (by omega)) (fun r50 M51 kq52 q52 => ?_)
      clear kq52
      by_cases hc53 : tcode (T (k + 2)) = 41
      · skip
        obtain ⟨q52a, q52b⟩ := q52.1 hc53
        subst r50; subst M51
        rw [tc_41 (TR_T hTR (by omega)).1] at hc53
        refine G_ps (pc' := 63) (st' := [vi 1]) rfl rfl ?_
        refine G_abs (R := fun M9 => RD e M0 M9 S (k + 3) o a) (RD_nk (RD_sk hR6) (by omega)) (fun M54 hR55 => ?_)
        refine G_if_ne (tgt := 68) d_Re_readCast_63 (by decide) (fun h56 => ?_) (fun h56 => absurd h56 (by decide))
        refine G_aload (i := 0) (n := 1) (len := 1) (Or.inl ⟨0, rfl, rfl, d_Re_readCast_68⟩) rfl (by decide) (G_pc (pc' := 69) rfl ?_)
        refine G_iload (i := 1) (n := 2) (len := 1) (Or.inl ⟨1, rfl, rfl, d_Re_readCast_69⟩) rfl (G_pc (pc' := 70) rfl ?_)
        refine G_iconst (n := 1) d_Re_readCast_70 (by decide) (G_pc (pc' := 71) rfl ?_)
        refine G_iadd d_Re_readCast_71 (by omega) (G_pc (pc' := 72) rfl ?_)
        refine G_callV (K1 := KE) (d2 := d0) (o := 13) (cl := 4) (as := [vi (dep + 1)]) (rest := []) d_Re_readCast_72 mf_Re_readUnary ml_Re_72 rfl rfl (by decide) rfl rfl (Nat.le_of_ble_eq_true rfl) (by omega) ⟨Nat.le_refl _, Nat.le_refl _⟩ (hC N S (k + 3) o a (dep + 1) M54 (by omega) hR55 (by omega) (by omega) (by omega) (by omega) (by omega)) (fun r57 M58 kq59 q59 => ?_)
        clear kq59
        rcases q59 with ⟨hE_60, rfl, hf_60, ho_60⟩ | ⟨k_60, N_60, S_60, o_60, a_60, c_60, hE_60, rfl, hR_60⟩
        · skip
          refine G_ps (pc' := 75) (st' := [vi (-1)]) rfl rfl ?_
          refine G_istore (i := 3) (len := 1) (ls' := [(3, vi (-1)), (2, vi (castK (T (k + 1)) (W (k + 1)) false)), (0, vr 13), (1, vi dep)]) (Or.inl ⟨3, rfl, rfl, d_Re_readCast_75⟩) (by decide) rfl (G_pc (pc' := 76) rfl ?_)
          refine G_iload (i := 3) (n := 0) (len := 1) (Or.inl ⟨3, rfl, rfl, d_Re_readCast_76⟩) rfl (G_pc (pc' := 77) rfl ?_)
          refine G_iconst (n := (-1)) d_Re_readCast_77 (by decide) (G_pc (pc' := 78) rfl ?_)
          refine G_icmp_ne (tgt := 85) d_Re_readCast_78 (by decide) (fun h61 => absurd h61 (by decide)) (fun h61 => G_pc (pc' := 81) rfl ?_)
          refine G_iconst (n := (-1)) d_Re_readCast_81 (by decide) (G_pc (pc' := 82) rfl ?_)
          refine G_goto (tgt := 97) d_Re_readCast_82 (by decide) ?_
          refine G_iret d_Re_readCast_97 rfl (tokI (by decide)) rfl rfl ?_
          exact Or.inl ⟨by rw [cast_b (by omega) (by omega)]; exact endU_n hE_60, rfl, hf_60, ho_60⟩
        · skip
          obtain ⟨⟨ja_60, jb_60, jc_60, jd_60, je_60, jf_60⟩, jg_60⟩ := hJ (k + 3) N S o a _ (by omega) (by omega) (by omega) hE_60
          have jc1_60 := jc_60.1; have jc2_60 := jc_60.2.1
          have jt_60 : ts S_60 = (S_60.length : Int) - 1 := rfl
          (try simp only [List.length_append, List.length_cons, List.length_nil, patch_len] at jc1_60 jc2_60)
          refine G_ps (pc' := 75) (st' := [vi (ts S_60)]) rfl rfl ?_
          refine G_istore (i := 3) (len := 1) (ls' := [(3, vi (ts S_60)), (2, vi (castK (T (k + 1)) (W (k + 1)) false)), (0, vr 13), (1, vi dep)]) (Or.inl ⟨3, rfl, rfl, d_Re_readCast_75⟩) (by decide) rfl (G_pc (pc' := 76) rfl ?_)
          refine G_iload (i := 3) (n := 0) (len := 1) (Or.inl ⟨3, rfl, rfl, d_Re_readCast_76⟩) rfl (G_pc (pc' := 77) rfl ?_)
          refine G_iconst (n := (-1)) d_Re_readCast_77 (by decide) (G_pc (pc' := 78) rfl ?_)
          refine G_icmp_ne (tgt := 85) d_Re_readCast_78 (by decide) (fun h62 => ?_) (fun h62 => absurd h62 (by omega))
          refine G_aload (i := 0) (n := 2) (len := 1) (Or.inl ⟨0, rfl, rfl, d_Re_readCast_85⟩) rfl (by decide) (G_pc (pc' := 86) rfl ?_)
          refine G_get (o := 13) (c := 4) (k := 1) (v := M58 13 1) d_Re_readCast_86 fl_Re_18 rfl (by decide) (by decide) rfl rfl (G_pc (pc' := 89) rfl ?_)
          rw [show M58 13 1 = ((20 + 9 * e : Nat) : Int) from RD_st hR_60 he hst]
          refine G_sipush (n := 146) d_Re_readCast_89 (by decide) (G_pc (pc' := 92) rfl ?_)
          refine G_iload (i := 3) (n := 0) (len := 1) (Or.inl ⟨3, rfl, rfl, d_Re_readCast_92⟩) rfl (G_pc (pc' := 93) rfl ?_)
          refine G_iload (i := 2) (n := 1) (len := 1) (Or.inl ⟨2, rfl, rfl, d_Re_readCast_93⟩) rfl (G_pc (pc' := 94) rfl ?_)
          refine G_callV (K1 := KE) (d2 := 1) (o := (20 + 9 * e)) (cl := 5) (as := [vi 146, vi (ts S_60), vi (castK (T (k + 1)) (W (k + 1)) false)]) (rest := []) d_Re_readCast_94 mf_St_add ml_Re_56 (kd_St he) rfl (by show 20 + 9 * e < 87; omega) rfl rfl (Nat.le_of_ble_eq_true rfl) (by omega) ⟨Nat.le_refl _, Nat.le_refl _⟩ (g_St_add (by omega) e 146 (ts S_60) (castK (T (k + 1)) (W (k + 1)) false) M58 he (by have h9 := RD_n hR_60; omega)) (fun r63 M64 kq65 q65 => ?_)
          clear kq65; obtain ⟨q65a, q65b⟩ := q65; subst r63; subst M64
          rw [RD_n hR_60]
          refine G_ps (pc' := 97) (st' := [vi ((S_60).length : Int)]) rfl rfl ?_
          refine G_abs (R := fun M9 => RD e M0 M9 (S_60 ++ [(146, ts S_60, castK (T (k + 1)) (W (k + 1)) false, 0, 0, 0)]) k_60 o_60 a_60) (RD_add hR_60 (by first | decide | omega) he) (fun M66 hR67 => ?_)
          have hl68 : ((S_60 ++ [(146, ts S_60, castK (T (k + 1)) (W (k + 1)) false, 0, 0, 0)]).length : Int) = (S_60).length + 1 := len_add _ _
          refine G_iret d_Re_readCast_97 rfl (tokI (by omega)) rfl rfl ?_
          exact Or.inr ⟨_, _, _, _, _, _, by rw [cast_b (by omega) (by omega)]; exact endU_s hE_60, by rw [ts_add], hR67⟩
      · skip
        obtain ⟨q52a, q52b⟩ := q52.2 hc53
        subst r50; subst M51
        rw [tc_41 (TR_T hTR (by omega)).1] at hc53
        refine G_ps (pc' := 63) (st' := [vi 0]) rfl rfl ?_
        refine G_if_ne (tgt := 68) d_Re_readCast_63 (by decide) (fun h69 => absurd h69 (by decide)) (fun h69 => G_pc (pc' := 66) rfl ?_)
        refine G_iconst (n := (-1)) d_Re_readCast_66 (by decide) (G_pc (pc' := 67) rfl ?_)
        refine G_iret d_Re_readCast_67 rfl (tokI (by decide)) rfl rfl ?_
        exact Or.inl ⟨by rw [cast_bn (by omega) (by omega)]; rfl, rfl, hR6.1, RD_o hR6⟩

