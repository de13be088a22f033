section EQ
variable {T W : Int → Int} {R L B F : DS → Option DS} {k o a c c0 lev t : Int} {N : List ND} {S : List SD}
theorem encl_o (h : 6 < o + 1) : enclD T R c (k, N, S, o, a, c0) = none := if_pos h
theorem encl_n (h : ¬ 6 < o + 1) (h2 : R (k, N, S, o + 1, a, 0) = none) : enclD T R c (k, N, S, o, a, c0) = none := by simp [enclD, h, h2]
theorem encl_f {k2 o2 a2 c2 : Int} {N2 : List ND} {S2 : List SD} (h : ¬ 6 < o + 1) (h2 : R (k, N, S, o + 1, a, 0) = some (k2, N2, S2, o2, a2, c2)) (h3 : ¬ T k2 = c) : enclD T R c (k, N, S, o, a, c0) = none := by simp [enclD, h, h2, h3]
theorem encl_s {k2 o2 a2 c2 : Int} {N2 : List ND} {S2 : List SD} (h : ¬ 6 < o + 1) (h2 : R (k, N, S, o + 1, a, 0) = some (k2, N2, S2, o2, a2, c2)) (h3 : T k2 = c) : enclD T R c (k, N, S, o, a, c0) = some (k2 + 1, N2, S2, o2 - 1, a2, 0) := by simp [enclD, h, h2, h3]
theorem bind_n {R : Option DS} (h : R = none) : R.bind L = none := by rw [h]; rfl
theorem bind_s {R : Option DS} {σ : DS} (h : R = some σ) : R.bind L = L σ := by rw [h]; rfl
end EQ
section CT
variable (X : WX) (d e : Nat) (T W : Int → Int) (n : Int) (M0 : Mem) (b : Int) (R : DS → Option DS)
/-- contracts of the reading methods, for a descent R with b levels left -/
def CH : Prop := ∀ (N : List ND) (S : List SD) (k o a dep : Int) (M : Mem), 5 * (n - k) + 5 ≤ b → RD e M0 M S k o a → (0 ≤ k ∧ k ≤ n) → (0 ≤ o ∧ o ≤ 6) → (0 ≤ a ∧ a ≤ 4) → (S.length : Int) ≤ 2 * k → (0 ≤ dep ∧ dep ≤ k) → MG X gt d KE KE y_Re_readChoice b_Re_readChoice 7 (some .int) [vr 13, vi dep] M (RQ e M0 o (R (k, N, S, o, a, 0)))
def CB (lev : Int) : Prop := ∀ (N : List ND) (S : List SD) (k o a dep : Int) (M : Mem), 5 * (n - k) + 4 ≤ b → RD e M0 M S k o a → (0 ≤ k ∧ k ≤ n) → (0 ≤ o ∧ o ≤ 6) → (0 ≤ a ∧ a ≤ 4) → (S.length : Int) ≤ 2 * k → (0 ≤ dep ∧ dep ≤ k) → MG X gt d KE KE y_Re_readBinary b_Re_readBinary 7 (some .int) [vr 13, vi lev, vi dep] M (RQ e M0 o (R (k, N, S, o, a, 0)))
def CU : Prop := ∀ (N : List ND) (S : List SD) (k o a dep : Int) (M : Mem), 5 * (n - k) + 3 ≤ b → RD e M0 M S k o a → (0 ≤ k ∧ k ≤ n) → (0 ≤ o ∧ o ≤ 6) → (0 ≤ a ∧ a ≤ 4) → (S.length : Int) ≤ 2 * k → (0 ≤ dep ∧ dep ≤ k) → MG X gt d KE KE y_Re_readUnary b_Re_readUnary 5 (some .int) [vr 13, vi dep] M (RQ e M0 o (R (k, N, S, o, a, 0)))
def CO : Prop := ∀ (N : List ND) (S : List SD) (k o a dep : Int) (M : Mem), 5 * (n - k) + 2 ≤ b → RD e M0 M S k o a → (0 ≤ k ∧ k ≤ n) → (0 ≤ o ∧ o ≤ 6) → (0 ≤ a ∧ a ≤ 4) → (S.length : Int) ≤ 2 * k → (0 ≤ dep ∧ dep ≤ k) → MG X gt d KE KE y_Re_readOperand b_Re_readOperand 5 (some .int) [vr 13, vi dep] M (RQ e M0 o (R (k, N, S, o, a, 0)))
end CT
theorem d_Re_readEnclosed_0 : decode b_Re_readEnclosed 0 = .ok (.aload_n 0, 1) := by decide +kernel
theorem d_Re_readEnclosed_1 : decode b_Re_readEnclosed 1 = .ok (.getfield 31, 3) := by decide +kernel
theorem d_Re_readEnclosed_4 : decode b_Re_readEnclosed 4 = .ok (.bipush 6, 2) := by decide +kernel
theorem d_Re_readEnclosed_6 : decode b_Re_readEnclosed 6 = .ok (.if_icmp .ne 5, 3) := by decide +kernel
theorem d_Re_readEnclosed_9 : decode b_Re_readEnclosed 9 = .ok (.iconst (-1), 1) := by decide +kernel
theorem d_Re_readEnclosed_10 : decode b_Re_readEnclosed 10 = .ok (.ireturn, 1) := by decide +kernel
theorem d_Re_readEnclosed_11 : decode b_Re_readEnclosed 11 = .ok (.aload_n 0, 1) := by decide +kernel
theorem d_Re_readEnclosed_12 : decode b_Re_readEnclosed 12 = .ok (.dup, 1) := by decide +kernel
theorem d_Re_readEnclosed_13 : decode b_Re_readEnclosed 13 = .ok (.getfield 31, 3) := by decide +kernel
theorem d_Re_readEnclosed_16 : decode b_Re_readEnclosed 16 = .ok (.iconst 1, 1) := by decide +kernel
theorem d_Re_readEnclosed_17 : decode b_Re_readEnclosed 17 = .ok (.iadd, 1) := by decide +kernel
theorem d_Re_readEnclosed_18 : decode b_Re_readEnclosed 18 = .ok (.putfield 31, 3) := by decide +kernel
theorem d_Re_readEnclosed_21 : decode b_Re_readEnclosed 21 = .ok (.aload_n 0, 1) := by decide +kernel
theorem d_Re_readEnclosed_22 : decode b_Re_readEnclosed 22 = .ok (.iload_n 2, 1) := by decide +kernel
theorem d_Re_readEnclosed_23 : decode b_Re_readEnclosed 23 = .ok (.iconst 1, 1) := by decide +kernel
theorem d_Re_readEnclosed_24 : decode b_Re_readEnclosed 24 = .ok (.iadd, 1) := by decide +kernel
theorem d_Re_readEnclosed_25 : decode b_Re_readEnclosed 25 = .ok (.invokevirtual 41, 3) := by decide +kernel
theorem d_Re_readEnclosed_28 : decode b_Re_readEnclosed 28 = .ok (.istore_n 3, 1) := by decide +kernel
theorem d_Re_readEnclosed_29 : decode b_Re_readEnclosed 29 = .ok (.aload_n 0, 1) := by decide +kernel
theorem d_Re_readEnclosed_30 : decode b_Re_readEnclosed 30 = .ok (.dup, 1) := by decide +kernel
theorem d_Re_readEnclosed_31 : decode b_Re_readEnclosed 31 = .ok (.getfield 31, 3) := by decide +kernel
theorem d_Re_readEnclosed_34 : decode b_Re_readEnclosed 34 = .ok (.iconst 1, 1) := by decide +kernel
theorem d_Re_readEnclosed_35 : decode b_Re_readEnclosed 35 = .ok (.isub, 1) := by decide +kernel
theorem d_Re_readEnclosed_36 : decode b_Re_readEnclosed 36 = .ok (.putfield 31, 3) := by decide +kernel
theorem d_Re_readEnclosed_39 : decode b_Re_readEnclosed 39 = .ok (.iload_n 3, 1) := by decide +kernel
theorem d_Re_readEnclosed_40 : decode b_Re_readEnclosed 40 = .ok (.iconst (-1), 1) := by decide +kernel
theorem d_Re_readEnclosed_41 : decode b_Re_readEnclosed 41 = .ok (.if_icmp .eq 15, 3) := by decide +kernel
theorem d_Re_readEnclosed_44 : decode b_Re_readEnclosed 44 = .ok (.aload_n 0, 1) := by decide +kernel
theorem d_Re_readEnclosed_45 : decode b_Re_readEnclosed 45 = .ok (.iload_n 1, 1) := by decide +kernel
theorem d_Re_readEnclosed_46 : decode b_Re_readEnclosed 46 = .ok (.invokevirtual 52, 3) := by decide +kernel
theorem d_Re_readEnclosed_49 : decode b_Re_readEnclosed 49 = .ok (.ifCond .eq 7, 3) := by decide +kernel
theorem d_Re_readEnclosed_52 : decode b_Re_readEnclosed 52 = .ok (.iload_n 3, 1) := by decide +kernel
theorem d_Re_readEnclosed_53 : decode b_Re_readEnclosed 53 = .ok (.goto 4, 3) := by decide +kernel
theorem d_Re_readEnclosed_56 : decode b_Re_readEnclosed 56 = .ok (.iconst (-1), 1) := by decide +kernel
theorem d_Re_readEnclosed_57 : decode b_Re_readEnclosed 57 = .ok (.ireturn, 1) := by decide +kernel
theorem g_Re_readEnclosed {X : WX} {d : Nat} (hd : 2 ≤ d) (e : Nat) (T W : Int → Int) (n : Int) (M0 : Mem) (b : Int) (N : List ND) (S : List SD) (k o a dep : Int) (R : DS → Option DS) (c ct : Int) (d0 : Nat) (M : Mem) (he : e < 4) (hTR : TR M0 T W n) (hst : M0 13 1 = ((20 + 9 * e : Nat) : Int)) (hR : RD e M0 M S k o a) (hk : 0 ≤ k ∧ k ≤ n) (ho : 0 ≤ o ∧ o ≤ 6) (ha : 0 ≤ a ∧ a ≤ 4) (hS : (S.length : Int) ≤ 2 * k) (hdep : 0 ≤ dep ∧ dep + 1 ≤ k) (hd0 : d0 + 1 ≤ d) (hC : CH X d0 e n M0 b R) (hJ : J1 n R) (hb : 5 * (n - k) + 5 ≤ b) (htc : ∀ {t : Int}, okt t → (tcode t = c ↔ t = ct)) : MG X gt d KE KE y_Re_readEnclosed b_Re_readEnclosed 4 (some .int) [vr 13, vi c, vi dep] M (RQ e M0 o (enclD T R ct (k, N, S, o, a, 0))) := by
  refine MG_of_G (by decide) (Nat.le_of_ble_eq_true rfl) (Nat.le_refl _) (by decide) ?_
  show G X gt d KE KE y_Re_readEnclosed b_Re_readEnclosed 4 (some .int) _ 0 [(0, vr 13), (1, vi c), (2, vi dep)] [] KE M
  have hn2 := hTR.2.1
  refine G_aload (i := 0) (n := 0) (len := 1) (Or.inl ⟨0, rfl, rfl, d_Re_readEnclosed_0⟩) rfl (by decide) (G_pc (pc' := 1) rfl ?_)
  refine G_get (o := 13) (c := 4) (k := 3) (v := M 13 3) d_Re_readEnclosed_1 fl_Re_31 rfl (by decide) (by decide) rfl rfl (G_pc (pc' := 4) rfl ?_)
  rw [show M 13 3 = o from RD_o hR]
  refine G_bipush (n := 6) d_Re_readEnclosed_4 (by decide) (G_pc (pc' := 6) rfl ?_)
  refine G_icmp_ne (tgt := 11) d_Re_readEnclosed_6 (by decide) (fun h1 => ?_) (fun h1 => G_pc (pc' := 9) rfl ?_)
  · skip
    refine G_aload (i := 0) (n := 0) (len := 1) (Or.inl ⟨0, rfl, rfl, d_Re_readEnclosed_11⟩) rfl (by decide) (G_pc (pc' := 12) rfl ?_)
    refine G_dup d_Re_readEnclosed_12 (fun _ h => by cases h) (G_pc (pc' := 13) rfl ?_)
    refine G_get (o := 13) (c := 4) (k := 3) (v := M 13 3) d_Re_readEnclosed_13 fl_Re_31 rfl (by decide) (by decide) rfl rfl (G_pc (pc' := 16) rfl ?_)
    rw [show M 13 3 = o from RD_o hR]
    refine G_iconst (n := 1) d_Re_readEnclosed_16 (by decide) (G_pc (pc' := 17) rfl ?_)
    refine G_iadd d_Re_readEnclosed_17 (by omega) (G_pc (pc' := 18) rfl ?_)
    refine G_putL (o := 13) (c := 4) (k := 3) (ki := 3) (x := o + 1) d_Re_readEnclosed_18 fl_Re_31 rfl rfl (by decide) (by decide) (by decide) rfl rfl (tokI (by omega)) rfl (G_pc (pc' := 21) rfl ?_)
    refine G_abs (R := fun M9 => RD e M0 M9 S k (o + 1) a) (RD_so hR) (fun M2 hR3 => ?_)
    refine G_aload (i := 0) (n := 0) (len := 1) (Or.inl ⟨0, rfl, rfl, d_Re_readEnclosed_21⟩) rfl (by decide) (G_pc (pc' := 22) rfl ?_)
    refine G_iload (i := 2) (n := 2) (len := 1) (Or.inl ⟨2, rfl, rfl, d_Re_readEnclosed_22⟩) rfl (G_pc (pc' := 23) rfl ?_)
    refine G_iconst (n := 1) d_Re_readEnclosed_23 (by decide) (G_pc (pc' := 24) rfl ?_)
    refine G_iadd d_Re_readEnclosed_24 (by omega) (G_pc (pc' := 25) rfl ?_)
    refine G_callV (K1 := KE) (d2 := d0) (o := 13) (cl := 4) (as := [vi (dep + 1)]) (rest := []) d_Re_readEnclosed_25 mf_Re_readChoice ml_Re_41 rfl rfl (by decide) rfl rfl (Nat.le_of_ble_eq_true rfl) (by omega) ⟨Nat.le_refl _, Nat.le_refl _⟩ (hC N S k (o + 1) a (dep + 1) M2 (by omega) hR3 (by omega) (by omega) (by omega) (by omega) (by omega)) (fun r4 M5 kq6 q6 => ?_)
    clear kq6
    rcases q6 with ⟨hE_7, rfl, hf_7, ho_7⟩ | ⟨k_7, N_7, S_7, o_7, a_7, c_7, hE_7, rfl, hR_7⟩
    · skip
      refine G_ps (pc' := 28) (st' := [vi (-1)]) rfl rfl ?_
      refine G_istore (i := 3) (len := 1) (ls' := [(3, vi (-1)), (0, vr 13), (1, vi c), (2, vi dep)]) (Or.inl ⟨3, rfl, rfl, d_Re_readEnclosed_28⟩) (by decide) rfl (G_pc (pc' := 29) rfl ?_)
      refine G_aload (i := 0) (n := 1) (len := 1) (Or.inl ⟨0, rfl, rfl, d_Re_readEnclosed_29⟩) rfl (by decide) (G_pc (pc' := 30) rfl ?_)
      refine G_dup d_Re_readEnclosed_30 (fun _ h => by cases h) (G_pc (pc' := 31) rfl ?_)
      refine G_get (o := 13) (c := 4) (k := 3) (v := M5 13 3) d_Re_readEnclosed_31 fl_Re_31 rfl (by decide) (by decide) rfl rfl (G_pc (pc' := 34) rfl ?_)
      rw [show M5 13 3 = o + 1 from by omega]
      refine G_iconst (n := 1) d_Re_readEnclosed_34 (by decide) (G_pc (pc' := 35) rfl ?_)
      refine G_isub d_Re_readEnclosed_35 (by omega) (G_pc (pc' := 36) rfl ?_)
      refine G_putL (o := 13) (c := 4) (k := 3) (ki := 3) (x := (o + 1) - 1) d_Re_readEnclosed_36 fl_Re_31 rfl rfl (by decide) (by decide) (by decide) rfl rfl (tokI (by omega)) rfl (G_pc (pc' := 39) rfl ?_)
      refine G_iload (i := 3) (n := 0) (len := 1) (Or.inl ⟨3, rfl, rfl, d_Re_readEnclosed_39⟩) rfl (G_pc (pc' := 40) rfl ?_)
      refine G_iconst (n := (-1)) d_Re_readEnclosed_40 (by decide) (G_pc (pc' := 41) rfl ?_)
      refine G_icmp_eq (tgt := 56) d_Re_readEnclosed_41 (by decide) (fun h8 => ?_) (fun h8 => absurd h8 (by decide))
      refine G_iconst (n := (-1)) d_Re_readEnclosed_56 (by decide) (G_pc (pc' := 57) rfl ?_)
      refine G_iret d_Re_readEnclosed_57 rfl (tokI (by decide)) rfl rfl ?_
      exact Or.inl ⟨encl_n (by omega) hE_7, rfl, frR_set hf_7 (by unfold rcell; omega), by show _ - 1 = _; omega⟩
    · skip
      obtain ⟨⟨ja_7, jb_7, jc_7, jd_7, je_7, jf_7⟩, jg_7⟩ := hJ k N S (o + 1) a _ (by omega) (by omega) (by omega) hE_7
      have jc1_7 := jc_7.1; have jc2_7 := jc_7.2.1
      have jt_7 : ts S_7 = (S_7.length : Int) - 1 := rfl
      (try simp only [List.length_append, List.length_cons, List.length_nil, patch_len] at jc1_7 jc2_7)
      refine G_ps (pc' := 28) (st' := [vi (ts S_7)]) rfl rfl ?_
      refine G_istore (i := 3) (len := 1) (ls' := [(3, vi (ts S_7)), (0, vr 13), (1, vi c), (2, vi dep)]) (Or.inl ⟨3, rfl, rfl, d_Re_readEnclosed_28⟩) (by decide) rfl (G_pc (pc' := 29) rfl ?_)
      refine G_aload (i := 0) (n := 1) (len := 1) (Or.inl ⟨0, rfl, rfl, d_Re_readEnclosed_29⟩) rfl (by decide) (G_pc (pc' := 30) rfl ?_)
      refine G_dup d_Re_readEnclosed_30 (fun _ h => by cases h) (G_pc (pc' := 31) rfl ?_)
      refine G_get (o := 13) (c := 4) (k := 3) (v := M5 13 3) d_Re_readEnclosed_31 fl_Re_31 rfl (by decide) (by decide) rfl rfl (G_pc (pc' := 34) rfl ?_)
      rw [show M5 13 3 = o_7 from RD_o hR_7]
      refine G_iconst (n := 1) d_Re_readEnclosed_34 (by decide) (G_pc (pc' := 35) rfl ?_)
      refine G_isub d_Re_readEnclosed_35 (by omega) (G_pc (pc' := 36) rfl ?_)
      refine G_putL (o := 13) (c := 4) (k := 3) (ki := 3) (x := o_7 - 1) d_Re_readEnclosed_36 fl_Re_31 rfl rfl (by decide) (by decide) (by decide) rfl rfl (tokI (by omega)) rfl (G_pc (pc' := 39) rfl ?_)
      refine G_abs (R := fun M9 => RD e M0 M9 S_7 k_7 (o_7 - 1) a_7) (RD_so hR_7) (fun M9 hR10 => ?_)
      refine G_iload (i := 3) (n := 0) (len := 1) (Or.inl ⟨3, rfl, rfl, d_Re_readEnclosed_39⟩) rfl (G_pc (pc' := 40) rfl ?_)
      refine G_iconst (n := (-1)) d_Re_readEnclosed_40 (by decide) (G_pc (pc' := 41) rfl ?_)
      refine G_icmp_eq (tgt := 56) d_Re_readEnclosed_41 (by decide) (fun h11 => absurd h11 (by omega)) (fun h11 => G_pc (pc' := 44) rfl ?_)
      refine G_aload (i := 0) (n := 1) (len := 1) (Or.inl ⟨0, rfl, rfl, d_Re_readEnclosed_44⟩) rfl (by decide) (G_pc (pc' := 45) rfl ?_)
      refine G_iload (i := 1) (n := 2) (len := 1) (Or.inl ⟨1, rfl, rfl, d_Re_readEnclosed_45⟩) rfl (G_pc (pc' := 46) rfl ?_)
      refine G_callV (K1 := KE) (d2 := 1) (o := 13) (cl := 4) (as := [vi c]) (rest := []) d_Re_readEnclosed_46 mf_Re_takes ml_Re_52 rfl rfl (by decide) rfl rfl (Nat.le_of_ble_eq_true rfl) (by omega) ⟨Nat.le_refl _, Nat.le_refl _⟩ (g_Re_takes (by omega) e T W n M0 c S_7 k_7 (o_7 - 1) a_7 M9 he hTR hR10 (by omega)) (fun r12 M13 kq14 q14 => ?_)
      clear kq14
      by_cases hc15 : tcode (T k_7) = c
      · skip
        obtain ⟨q14a, q14b⟩ := q14.1 hc15
        subst r12; subst M13
        rw [htc (TR_T hTR (by omega)).1] at hc15
        refine G_ps (pc' := 49) (st' := [vi 1]) rfl rfl ?_
        refine G_abs (R := fun M9 => RD e M0 M9 S_7 (k_7 + 1) (o_7 - 1) a_7) (RD_nk (RD_sk hR10) (by omega)) (fun M16 hR17 => ?_)
        refine G_if_eq (tgt := 56) d_Re_readEnclosed_49 (by decide) (fun h18 => absurd h18 (by decide)) (fun h18 => G_pc (pc' := 52) rfl ?_)
        refine G_iload (i := 3) (n := 0) (len := 1) (Or.inl ⟨3, rfl, rfl, d_Re_readEnclosed_52⟩) rfl (G_pc (pc' := 53) rfl ?_)
        refine G_goto (tgt := 57) d_Re_readEnclosed_53 (by decide) ?_
        refine G_iret d_Re_readEnclosed_57 rfl (tokI (by omega)) rfl rfl ?_
        exact Or.inr ⟨_, _, _, _, _, _, encl_s (by omega) hE_7 hc15, rfl, hR17⟩
      · skip
        obtain ⟨q14a, q14b⟩ := q14.2 hc15
        subst r12; subst M13
        rw [htc (TR_T hTR (by omega)).1] at hc15
        refine G_ps (pc' := 49) (st' := [vi 0]) rfl rfl ?_
        refine G_if_eq (tgt := 56) d_Re_readEnclosed_49 (by decide) (fun h19 => ?_) (fun h19 => absurd h19 (by decide))
        refine G_iconst (n := (-1)) d_Re_readEnclosed_56 (by decide) (G_pc (pc' := 57) rfl ?_)
        refine G_iret d_Re_readEnclosed_57 rfl (tokI (by decide)) rfl rfl ?_
        exact Or.inl ⟨encl_f (by omega) hE_7 hc15, rfl, hR10.1, by rw [RD_o hR10]; omega⟩
  · skip
    refine G_iconst (n := (-1)) d_Re_readEnclosed_9 (by decide) (G_pc (pc' := 10) rfl ?_)
    refine G_iret d_Re_readEnclosed_10 rfl (tokI (by decide)) rfl rfl ?_
    exact Or.inl ⟨encl_o (by omega), rfl, hR.1, RD_o hR⟩

section EQ
variable {T W : Int → Int} {R : DS → Option DS} {k o a c0 : Int} {N : List ND} {S : List SD}
theorem first_20 (h : T k = 20) : firstD T W R (k, N, S, o, a, c0) = enclD T R 21 (k + 1, N, S, o, a, 0) := if_pos h
theorem first_L (h : 1 ≤ T k ∧ T k ≤ 5) (h2 : T k = 1 ∧ W k = 2147483648) : firstD T W R (k, N, S, o, a, c0) = none := by
  unfold firstD; simp only []; rw [if_neg (by omega), if_pos h, if_pos h2]
theorem first_c (h : 1 ≤ T k ∧ T k ≤ 5) (h2 : ¬ (T k = 1 ∧ W k = 2147483648)) : firstD T W R (k, N, S, o, a, c0) = some (k + 1, N ++ [(T k, -1, -1, -1, W k)], S ++ [(137, 0, 0, 0, tkind (T k), tnum (T k) (W k))], o, a, 0) := by
  unfold firstD; simp only []; rw [if_neg (by omega), if_pos h, if_neg h2]
theorem first_7 (h : T k = 7) : firstD T W R (k, N, S, o, a, c0) = some (k + 1, N ++ [(7, -1, -1, -1, W k)], S ++ [(143, 0, W k, 0, 0, 0)], o, a, 0) := by
  unfold firstD; simp only []; rw [if_neg (by omega), if_neg (by omega), if_pos h]
theorem first_6 (h : T k = 6) : firstD T W R (k, N, S, o, a, c0) = some (k + 1, N ++ [(6, -1, -1, -1, W k)], S ++ [(143, 0, 26, 0, 0, 0)], o, a, 0) := by
  unfold firstD; simp only []; rw [if_neg (by omega), if_neg (by omega), if_neg (by omega), if_pos h]
theorem first_n (h : ¬ T k = 20) (h1 : ¬ (1 ≤ T k ∧ T k ≤ 5)) (h2 : ¬ T k = 7) (h3 : ¬ T k = 6) : firstD T W R (k, N, S, o, a, c0) = none := by
  unfold firstD; simp only []; rw [if_neg h, if_neg h1, if_neg h2, if_neg h3]
end EQ
theorem d_Re_readFirst_0 : decode b_Re_readFirst 0 = .ok (.aload_n 0, 1) := by decide +kernel
theorem d_Re_readFirst_1 : decode b_Re_readFirst 1 = .ok (.getfield 12, 3) := by decide +kernel
theorem d_Re_readFirst_4 : decode b_Re_readFirst 4 = .ok (.aload_n 0, 1) := by decide +kernel
theorem d_Re_readFirst_5 : decode b_Re_readFirst 5 = .ok (.getfield 27, 3) := by decide +kernel
theorem d_Re_readFirst_8 : decode b_Re_readFirst 8 = .ok (.invokevirtual 84, 3) := by decide +kernel
theorem d_Re_readFirst_11 : decode b_Re_readFirst 11 = .ok (.l2i, 1) := by decide +kernel
theorem d_Re_readFirst_12 : decode b_Re_readFirst 12 = .ok (.istore_n 2, 1) := by decide +kernel
theorem d_Re_readFirst_13 : decode b_Re_readFirst 13 = .ok (.aload_n 0, 1) := by decide +kernel
theorem d_Re_readFirst_14 : decode b_Re_readFirst 14 = .ok (.getfield 12, 3) := by decide +kernel
theorem d_Re_readFirst_17 : decode b_Re_readFirst 17 = .ok (.aload_n 0, 1) := by decide +kernel
theorem d_Re_readFirst_18 : decode b_Re_readFirst 18 = .ok (.getfield 27, 3) := by decide +kernel
theorem d_Re_readFirst_21 : decode b_Re_readFirst 21 = .ok (.invokevirtual 45, 3) := by decide +kernel
theorem d_Re_readFirst_24 : decode b_Re_readFirst 24 = .ok (.lookupswitch 125 #[(40, 44), (137, 62), (138, 78), (139, 101)], 44) := by decide +kernel
theorem d_Re_readFirst_68 : decode b_Re_readFirst 68 = .ok (.aload_n 0, 1) := by decide +kernel
theorem d_Re_readFirst_69 : decode b_Re_readFirst 69 = .ok (.dup, 1) := by decide +kernel
theorem d_Re_readFirst_70 : decode b_Re_readFirst 70 = .ok (.getfield 27, 3) := by decide +kernel
theorem d_Re_readFirst_73 : decode b_Re_readFirst 73 = .ok (.iconst 1, 1) := by decide +kernel
theorem d_Re_readFirst_74 : decode b_Re_readFirst 74 = .ok (.iadd, 1) := by decide +kernel
theorem d_Re_readFirst_75 : decode b_Re_readFirst 75 = .ok (.putfield 27, 3) := by decide +kernel
theorem d_Re_readFirst_78 : decode b_Re_readFirst 78 = .ok (.aload_n 0, 1) := by decide +kernel
theorem d_Re_readFirst_79 : decode b_Re_readFirst 79 = .ok (.bipush 41, 2) := by decide +kernel
theorem d_Re_readFirst_81 : decode b_Re_readFirst 81 = .ok (.iload_n 1, 1) := by decide +kernel
theorem d_Re_readFirst_82 : decode b_Re_readFirst 82 = .ok (.invokevirtual 123, 3) := by decide +kernel
theorem d_Re_readFirst_85 : decode b_Re_readFirst 85 = .ok (.ireturn, 1) := by decide +kernel
theorem d_Re_readFirst_86 : decode b_Re_readFirst 86 = .ok (.aload_n 0, 1) := by decide +kernel
theorem d_Re_readFirst_87 : decode b_Re_readFirst 87 = .ok (.invokevirtual 102, 3) := by decide +kernel
theorem d_Re_readFirst_90 : decode b_Re_readFirst 90 = .ok (.ifCond .eq 7, 3) := by decide +kernel
theorem d_Re_readFirst_93 : decode b_Re_readFirst 93 = .ok (.iconst (-1), 1) := by decide +kernel
theorem d_Re_readFirst_94 : decode b_Re_readFirst 94 = .ok (.goto 7, 3) := by decide +kernel
theorem d_Re_readFirst_97 : decode b_Re_readFirst 97 = .ok (.aload_n 0, 1) := by decide +kernel
theorem d_Re_readFirst_98 : decode b_Re_readFirst 98 = .ok (.invokevirtual 106, 3) := by decide +kernel
theorem d_Re_readFirst_101 : decode b_Re_readFirst 101 = .ok (.ireturn, 1) := by decide +kernel
theorem d_Re_readFirst_102 : decode b_Re_readFirst 102 = .ok (.aload_n 0, 1) := by decide +kernel
theorem d_Re_readFirst_103 : decode b_Re_readFirst 103 = .ok (.dup, 1) := by decide +kernel
theorem d_Re_readFirst_104 : decode b_Re_readFirst 104 = .ok (.getfield 27, 3) := by decide +kernel
theorem d_Re_readFirst_107 : decode b_Re_readFirst 107 = .ok (.iconst 1, 1) := by decide +kernel
theorem d_Re_readFirst_108 : decode b_Re_readFirst 108 = .ok (.iadd, 1) := by decide +kernel
theorem d_Re_readFirst_109 : decode b_Re_readFirst 109 = .ok (.putfield 27, 3) := by decide +kernel
theorem d_Re_readFirst_112 : decode b_Re_readFirst 112 = .ok (.aload_n 0, 1) := by decide +kernel
theorem d_Re_readFirst_113 : decode b_Re_readFirst 113 = .ok (.getfield 18, 3) := by decide +kernel
theorem d_Re_readFirst_116 : decode b_Re_readFirst 116 = .ok (.sipush 143, 3) := by decide +kernel
theorem d_Re_readFirst_119 : decode b_Re_readFirst 119 = .ok (.iconst 0, 1) := by decide +kernel
theorem d_Re_readFirst_120 : decode b_Re_readFirst 120 = .ok (.iload_n 2, 1) := by decide +kernel
theorem d_Re_readFirst_121 : decode b_Re_readFirst 121 = .ok (.invokevirtual 56, 3) := by decide +kernel
theorem d_Re_readFirst_124 : decode b_Re_readFirst 124 = .ok (.ireturn, 1) := by decide +kernel
theorem d_Re_readFirst_125 : decode b_Re_readFirst 125 = .ok (.aload_n 0, 1) := by decide +kernel
theorem d_Re_readFirst_126 : decode b_Re_readFirst 126 = .ok (.dup, 1) := by decide +kernel
theorem d_Re_readFirst_127 : decode b_Re_readFirst 127 = .ok (.getfield 27, 3) := by decide +kernel
theorem d_Re_readFirst_130 : decode b_Re_readFirst 130 = .ok (.iconst 1, 1) := by decide +kernel
theorem d_Re_readFirst_131 : decode b_Re_readFirst 131 = .ok (.iadd, 1) := by decide +kernel
theorem d_Re_readFirst_132 : decode b_Re_readFirst 132 = .ok (.putfield 27, 3) := by decide +kernel
theorem d_Re_readFirst_135 : decode b_Re_readFirst 135 = .ok (.aload_n 0, 1) := by decide +kernel
theorem d_Re_readFirst_136 : decode b_Re_readFirst 136 = .ok (.getfield 18, 3) := by decide +kernel
theorem d_Re_readFirst_139 : decode b_Re_readFirst 139 = .ok (.sipush 143, 3) := by decide +kernel
theorem d_Re_readFirst_142 : decode b_Re_readFirst 142 = .ok (.iconst 0, 1) := by decide +kernel
theorem d_Re_readFirst_143 : decode b_Re_readFirst 143 = .ok (.bipush 26, 2) := by decide +kernel
theorem d_Re_readFirst_145 : decode b_Re_readFirst 145 = .ok (.invokevirtual 56, 3) := by decide +kernel
theorem d_Re_readFirst_148 : decode b_Re_readFirst 148 = .ok (.ireturn, 1) := by decide +kernel
theorem d_Re_readFirst_149 : decode b_Re_readFirst 149 = .ok (.iconst (-1), 1) := by decide +kernel
theorem d_Re_readFirst_150 : decode b_Re_readFirst 150 = .ok (.ireturn, 1) := by decide +kernel
theorem g_Re_readFirst {X : WX} {d : Nat} (hd : 3 ≤ d) (e : Nat) (T W : Int → Int) (n : Int) (M0 : Mem) (b : Int) (N : List ND) (S : List SD) (k o a dep : Int) (d0 : Nat) (R0 : DS → Option DS) (M : Mem) (he : e < 4) (hTR : TR M0 T W n) (hst : M0 13 1 = ((20 + 9 * e : Nat) : Int)) (hR : RD e M0 M S k o a) (hk : 0 ≤ k ∧ k ≤ n) (ho : 0 ≤ o ∧ o ≤ 6) (ha : 0 ≤ a ∧ a ≤ 4) (hS : (S.length : Int) ≤ 2 * k) (hdep : 0 ≤ dep ∧ dep ≤ k) (h10 : 10 ≤ d0) (hd0 : d0 + 2 ≤ d) (hC0 : CH X d0 e n M0 b R0) (hJ0 : J1 n R0) (hb : 5 * (n - k) ≤ b) : MG X gt d KE KE y_Re_readFirst b_Re_readFirst 3 (some .int) [vr 13, vi dep] M (RQ e M0 o (firstD T W R0 (k, N, S, o, a, 0))) := by
  refine MG_of_G (by decide) (Nat.le_of_ble_eq_true rfl) (Nat.le_refl _) (by decide) ?_
  show G X gt d KE KE y_Re_readFirst b_Re_readFirst 3 (some .int) _ 0 [(0, vr 13), (1, vi dep)] [] KE M
  have hn2 := hTR.2.1
  refine G_aload (i := 0) (n := 0) (len := 1) (Or.inl ⟨0, rfl, rfl, d_Re_readFirst_0⟩) rfl (by decide) (G_pc (pc' := 1) rfl ?_)
  refine G_get (o := 13) (c := 4) (k := 0) (v := 14) d_Re_readFirst_1 fl_Re_12 rfl (by decide) (by decide) rfl rfl (G_pc (pc' := 4) rfl ?_)
  refine G_aload (i := 0) (n := 0) (len := 1) (Or.inl ⟨0, rfl, rfl, d_Re_readFirst_4⟩) rfl (by decide) (G_pc (pc' := 5) rfl ?_)
  refine G_get (o := 13) (c := 4) (k := 2) (v := M 13 2) d_Re_readFirst_5 fl_Re_27 rfl (by decide) (by decide) rfl rfl (G_pc (pc' := 8) rfl ?_)
  rw [show M 13 2 = k from RD_k hR]
  refine G_callV (K1 := KE) (d2 := 0) (o := 14) (cl := 7) (as := [vi k]) (rest := []) d_Re_readFirst_8 mf_To_numberAt ml_Re_84 rfl rfl (by decide) rfl rfl (Nat.le_of_ble_eq_true rfl) (by omega) ⟨Nat.le_refl _, Nat.le_refl _⟩ (g_To_numberAt (by omega) T W n k M (RD_TR hR he hTR) (by omega)) (fun r1 M2 kq3 q3 => ?_)
  clear kq3; obtain ⟨q3a, q3b⟩ := q3; subst r1; subst M2
  refine G_ps (pc' := 11) (st' := [vl (tnum (T k) (W k))]) rfl rfl ?_
  have ok4 := TR_T hTR (k := k) (by omega)
  refine G_l2i d_Re_readFirst_11 (G_pc (pc' := 12) rfl ?_)
  refine G_istore (i := 2) (len := 1) (ls' := [(2, vi (w32 (tnum (T k) (W k)))), (0, vr 13), (1, vi dep)]) (Or.inl ⟨2, rfl, rfl, d_Re_readFirst_12⟩) (by decide) rfl (G_pc (pc' := 13) rfl ?_)
  refine G_aload (i := 0) (n := 1) (len := 1) (Or.inl ⟨0, rfl, rfl, d_Re_readFirst_13⟩) rfl (by decide) (G_pc (pc' := 14) rfl ?_)
  refine G_get (o := 13) (c := 4) (k := 0) (v := 14) d_Re_readFirst_14 fl_Re_12 rfl (by decide) (by decide) rfl rfl (G_pc (pc' := 17) rfl ?_)
  refine G_aload (i := 0) (n := 1) (len := 1) (Or.inl ⟨0, rfl, rfl, d_Re_readFirst_17⟩) rfl (by decide) (G_pc (pc' := 18) rfl ?_)
  refine G_get (o := 13) (c := 4) (k := 2) (v := M 13 2) d_Re_readFirst_18 fl_Re_27 rfl (by decide) (by decide) rfl rfl (G_pc (pc' := 21) rfl ?_)
  rw [show M 13 2 = k from RD_k hR]
  refine G_callV (K1 := KE) (d2 := 0) (o := 14) (cl := 7) (as := [vi k]) (rest := []) d_Re_readFirst_21 mf_To_codeAt ml_Re_45 rfl rfl (by decide) rfl rfl (Nat.le_of_ble_eq_true rfl) (by omega) ⟨Nat.le_refl _, Nat.le_refl _⟩ (g_To_codeAt (by omega) T W n k M (RD_TR hR he hTR) (by omega)) (fun r5 M6 kq7 q7 => ?_)
  clear kq7; obtain ⟨q7a, q7b⟩ := q7; subst r5; subst M6
  refine G_ps (pc' := 24) (st' := [vi (tcode (T k))]) rfl rfl ?_
  have ok8 := TR_T hTR (k := k) (by omega)
  have rgok8 := tcode_rng ok8.1
  have tz40 := tc_40 ok8.1
  have tz139 := tc_139 ok8.1
  have tz138 := tc_138 ok8.1
  have tz137 := tc_137 ok8.1
  by_cases h9 : tcode (T k) = 40
  · skip
    have e10o : Op.lookupswitch.offset [(40, 44), (137, 62), (138, 78), (139, 101)] 125 (tcode (T k)) = 44 := by rw [h9]; rfl
    refine G_lookup (off := 44) (tgt := 68) d_Re_readFirst_24 (by decide) e10o (by decide) ?_
    refine G_aload (i := 0) (n := 1) (len := 1) (Or.inl ⟨0, rfl, rfl, d_Re_readFirst_68⟩) rfl (by decide) (G_pc (pc' := 69) rfl ?_)
    refine G_dup d_Re_readFirst_69 (fun _ h => by cases h) (G_pc (pc' := 70) rfl ?_)
    refine G_get (o := 13) (c := 4) (k := 2) (v := M 13 2) d_Re_readFirst_70 fl_Re_27 rfl (by decide) (by decide) rfl rfl (G_pc (pc' := 73) rfl ?_)
    rw [show M 13 2 = k from RD_k hR]
    refine G_iconst (n := 1) d_Re_readFirst_73 (by decide) (G_pc (pc' := 74) rfl ?_)
    refine G_iadd d_Re_readFirst_74 (by omega) (G_pc (pc' := 75) rfl ?_)
    refine G_putL (o := 13) (c := 4) (k := 2) (ki := 2) (x := k + 1) d_Re_readFirst_75 fl_Re_27 rfl rfl (by decide) (by decide) (by decide) rfl rfl (tokI (by omega)) rfl (G_pc (pc' := 78) rfl ?_)
    refine G_abs (R := fun M9 => RD e M0 M9 S (k + 1) o a) (RD_nk (RD_sk hR) (by omega)) (fun M11 hR12 => ?_)
    refine G_aload (i := 0) (n := 1) (len := 1) (Or.inl ⟨0, rfl, rfl, d_Re_readFirst_78⟩) rfl (by decide) (G_pc (pc' := 79) rfl ?_)
    refine G_bipush (n := 41) d_Re_readFirst_79 (by decide) (G_pc (pc' := 81) rfl ?_)
    refine G_iload (i := 1) (n := 2) (len := 1) (Or.inl ⟨1, rfl, rfl, d_Re_readFirst_81⟩) rfl (G_pc (pc' := 82) rfl ?_)
    refine G_callV (K1 := KE) (d2 := (d0 + 1)) (o := 13) (cl := 4) (as := [vi 41, vi dep]) (rest := []) d_Re_readFirst_82 mf_Re_readEnclosed ml_Re_123 rfl rfl (by decide) rfl rfl (Nat.le_of_ble_eq_true rfl) (by omega) ⟨Nat.le_refl _, Nat.le_refl _⟩ (g_Re_readEnclosed (by omega) e T W n M0 b N S (k + 1) o a dep R0 41 21 d0 M11 he hTR hst hR12 (by omega) (by omega) (by omega) (by omega) (by omega) (by omega) hC0 hJ0 (by omega) (fun h9 => tc_41 h9)) (fun r13 M14 kq15 q15 => ?_)
    clear kq15
    rcases q15 with ⟨hE_16, rfl, hf_16, ho_16⟩ | ⟨k_16, N_16, S_16, o_16, a_16, c_16, hE_16, rfl, hR_16⟩
    · skip
      refine G_ps (pc' := 85) (st' := [vi (-1)]) rfl rfl ?_
      refine G_iret d_Re_readFirst_85 rfl (tokI (by decide)) rfl rfl ?_
      exact Or.inl ⟨(first_20 (by omega)).trans hE_16, rfl, hf_16, ho_16⟩
    · skip
      obtain ⟨⟨jk_16, ⟨ja_16, jb_16, jc_16, jd_16, je_16, jf_16⟩, jl_16, jz_16⟩, jg_16⟩ := j_encl (TR_tkn hTR) hJ0 (by omega) (by omega) (by omega) (by decide) hE_16
      simp only at jk_16 jl_16 jz_16 jg_16
      have jc1_16 := jc_16.1; have jc2_16 := jc_16.2.1
      have jt_16 : ts S_16 = (S_16.length : Int) - 1 := rfl
      refine G_ps (pc' := 85) (st' := [vi (ts S_16)]) rfl rfl ?_
      refine G_iret d_Re_readFirst_85 rfl (tokI (by omega)) rfl rfl ?_
      exact Or.inr ⟨_, _, _, _, _, _, (first_20 (by omega)).trans hE_16, rfl, hR_16⟩
  by_cases h9 : tcode (T k) = 137
  · skip
    have e17o : Op.lookupswitch.offset [(40, 44), (137, 62), (138, 78), (139, 101)] 125 (tcode (T k)) = 62 := by rw [h9]; rfl
    refine G_lookup (off := 62) (tgt := 86) d_Re_readFirst_24 (by decide) e17o (by decide) ?_
    refine G_aload (i := 0) (n := 1) (len := 1) (Or.inl ⟨0, rfl, rfl, d_Re_readFirst_86⟩) rfl (by decide) (G_pc (pc' := 87) rfl ?_)
    refine G_callV (K1 := KE) (d2 := 1) (o := 13) (cl := 4) (as := []) (rest := []) d_Re_readFirst_87 mf_Re_isTooLarge ml_Re_102 rfl rfl (by decide) rfl rfl (Nat.le_of_ble_eq_true rfl) (by omega) ⟨Nat.le_refl _, Nat.le_refl _⟩ (g_Re_isTooLarge (by omega) e T W n M0 S k o a M he hTR hR (by omega)) (fun r18 M19 kq20 q20 => ?_)
    clear kq20; obtain ⟨q20a, q20b⟩ := q20; subst r18; subst M19
    refine G_ps (pc' := 90) (st' := [vi (b2i (decide (T k = 1 ∧ W k = 2147483648)))]) rfl rfl ?_
    refine G_if_eq (tgt := 97) d_Re_readFirst_90 (by decide) (fun h21 => ?_) (fun h21 => G_pc (pc' := 93) rfl ?_)
    · skip
      replace h21 := b2i_0.mp h21
      replace h21 := of_decide_eq_false h21
      refine G_aload (i := 0) (n := 1) (len := 1) (Or.inl ⟨0, rfl, rfl, d_Re_readFirst_97⟩) rfl (by decide) (G_pc (pc' := 98) rfl ?_)
      refine G_callV (K1 := KE) (d2 := 2) (o := 13) (cl := 4) (as := []) (rest := []) d_Re_readFirst_98 mf_Re_readConstant ml_Re_106 rfl rfl (by decide) rfl rfl (Nat.le_of_ble_eq_true rfl) (by omega) ⟨Nat.le_refl _, Nat.le_refl _⟩ (g_Re_readConstant (by omega) e T W n M0 S k o a M he hTR hR hst (by omega) (by omega)) (fun r22 M23 kq24 q24 => ?_)
      clear kq24; obtain ⟨q24a, q24b⟩ := q24; subst r22
      refine G_ps (pc' := 101) (st' := [vi ((S).length : Int)]) rfl rfl ?_
      replace q24b := RD_nk q24b (show k + 1 = k + 1 by omega)
      have hl25 : ((S ++ [(137, 0, 0, 0, tkind (T k), tnum (T k) (W k))] : List SD).length : Int) = (S).length + 1 := len_add _ _
      refine G_iret d_Re_readFirst_101 rfl (tokI (by omega)) rfl rfl ?_
      exact Or.inr ⟨_, _, _, _, _, _, first_c (by omega) (by assumption), by rw [ts_add], q24b⟩
    · skip
      replace h21 := b2i_nz.mp h21
      replace h21 := of_decide_eq_true h21
      refine G_iconst (n := (-1)) d_Re_readFirst_93 (by decide) (G_pc (pc' := 94) rfl ?_)
      refine G_goto (tgt := 101) d_Re_readFirst_94 (by decide) ?_
      refine G_iret d_Re_readFirst_101 rfl (tokI (by decide)) rfl rfl ?_
      exact Or.inl ⟨first_L (by omega) (by assumption), rfl, hR.1, RD_o hR⟩
  by_cases h9 : tcode (T k) = 138
  · skip
    have e26o : Op.lookupswitch.offset [(40, 44), (137, 62), (138, 78), (139, 101)] 125 (tcode (T k)) = 78 := by rw [h9]; rfl
    refine G_lookup (off := 78) (tgt := 102) d_Re_readFirst_24 (by decide) e26o (by decide) ?_
    refine G_aload (i := 0) (n := 1) (len := 1) (Or.inl ⟨0, rfl, rfl, d_Re_readFirst_102⟩) rfl (by decide) (G_pc (pc' := 103) rfl ?_)
    refine G_dup d_Re_readFirst_103 (fun _ h => by cases h) (G_pc (pc' := 104) rfl ?_)
    refine G_get (o := 13) (c := 4) (k := 2) (v := M 13 2) d_Re_readFirst_104 fl_Re_27 rfl (by decide) (by decide) rfl rfl (G_pc (pc' := 107) rfl ?_)
    rw [show M 13 2 = k from RD_k hR]
    refine G_iconst (n := 1) d_Re_readFirst_107 (by decide) (G_pc (pc' := 108) rfl ?_)
    refine G_iadd d_Re_readFirst_108 (by omega) (G_pc (pc' := 109) rfl ?_)
    refine G_putL (o := 13) (c := 4) (k := 2) (ki := 2) (x := k + 1) d_Re_readFirst_109 fl_Re_27 rfl rfl (by decide) (by decide) (by decide) rfl rfl (tokI (by omega)) rfl (G_pc (pc' := 112) rfl ?_)
    refine G_abs (R := fun M9 => RD e M0 M9 S (k + 1) o a) (RD_nk (RD_sk hR) (by omega)) (fun M27 hR28 => ?_)
    refine G_aload (i := 0) (n := 1) (len := 1) (Or.inl ⟨0, rfl, rfl, d_Re_readFirst_112⟩) rfl (by decide) (G_pc (pc' := 113) rfl ?_)
    refine G_get (o := 13) (c := 4) (k := 1) (v := M27 13 1) d_Re_readFirst_113 fl_Re_18 rfl (by decide) (by decide) rfl rfl (G_pc (pc' := 116) rfl ?_)
    rw [show M27 13 1 = ((20 + 9 * e : Nat) : Int) from RD_st hR28 he hst]
    refine G_sipush (n := 143) d_Re_readFirst_116 (by decide) (G_pc (pc' := 119) rfl ?_)
    refine G_iconst (n := 0) d_Re_readFirst_119 (by decide) (G_pc (pc' := 120) rfl ?_)
    refine G_iload (i := 2) (n := 0) (len := 1) (Or.inl ⟨2, rfl, rfl, d_Re_readFirst_120⟩) rfl (G_pc (pc' := 121) rfl ?_)
    refine G_callV (K1 := KE) (d2 := 1) (o := (20 + 9 * e)) (cl := 5) (as := [vi 143, vi 0, vi (w32 (tnum (T k) (W k)))]) (rest := []) d_Re_readFirst_121 mf_St_add ml_Re_56 (kd_St he) rfl (by show 20 + 9 * e < 87; omega) rfl rfl (Nat.le_of_ble_eq_true rfl) (by omega) ⟨Nat.le_refl _, Nat.le_refl _⟩ (g_St_add (by omega) e 143 0 (w32 (tnum (T k) (W k))) M27 he (by have h9 := RD_n hR28; omega)) (fun r29 M30 kq31 q31 => ?_)
    clear kq31; obtain ⟨q31a, q31b⟩ := q31; subst r29; subst M30
    rw [RD_n hR28]
    refine G_ps (pc' := 124) (st' := [vi ((S).length : Int)]) rfl rfl ?_
    refine G_abs (R := fun M9 => RD e M0 M9 (S ++ [(143, 0, w32 (tnum (T k) (W k)), 0, 0, 0)]) (k + 1) o a) (RD_add hR28 (by first | decide | omega) he) (fun M32 hR33 => ?_)
    have hl34 : ((S ++ [(143, 0, w32 (tnum (T k) (W k)), 0, 0, 0)]).length : Int) = (S).length + 1 := len_add _ _
    refine G_iret d_Re_readFirst_124 rfl (tokI (by omega)) rfl rfl ?_
    have e7 : w32 (tnum (T k) (W k)) = W k := tn_7 (by omega) ((hTR.2.2.2.2.2 k (by omega) (by omega)).1 (by omega))
    rw [e7] at hR33
    exact Or.inr ⟨_, _, _, _, _, _, first_7 (by omega), by rw [ts_add], hR33⟩
  by_cases h9 : tcode (T k) = 139
  · skip
    have e35o : Op.lookupswitch.offset [(40, 44), (137, 62), (138, 78), (139, 101)] 125 (tcode (T k)) = 101 := by rw [h9]; rfl
    refine G_lookup (off := 101) (tgt := 125) d_Re_readFirst_24 (by decide) e35o (by decide) ?_
    refine G_aload (i := 0) (n := 1) (len := 1) (Or.inl ⟨0, rfl, rfl, d_Re_readFirst_125⟩) rfl (by decide) (G_pc (pc' := 126) rfl ?_)
    refine G_dup d_Re_readFirst_126 (fun _ h => by cases h) (G_pc (pc' := 127) rfl ?_)
    refine G_get (o := 13) (c := 4) (k := 2) (v := M 13 2) d_Re_readFirst_127 fl_Re_27 rfl (by decide) (by decide) rfl rfl (G_pc (pc' := 130) rfl ?_)
    rw [show M 13 2 = k from RD_k hR]
    refine G_iconst (n := 1) d_Re_readFirst_130 (by decide) (G_pc (pc' := 131) rfl ?_)
    refine G_iadd d_Re_readFirst_131 (by omega) (G_pc (pc' := 132) rfl ?_)
    refine G_putL (o := 13) (c := 4) (k := 2) (ki := 2) (x := k + 1) d_Re_readFirst_132 fl_Re_27 rfl rfl (by decide) (by decide) (by decide) rfl rfl (tokI (by omega)) rfl (G_pc (pc' := 135) rfl ?_)
    refine G_abs (R := fun M9 => RD e M0 M9 S (k + 1) o a) (RD_nk (RD_sk hR) (by omega)) (fun M36 hR37 => ?_)
    refine G_aload (i := 0) (n := 1) (len := 1) (Or.inl ⟨0, rfl, rfl, d_Re_readFirst_135⟩) rfl (by decide) (G_pc (pc' := 136) rfl ?_)
    refine G_get (o := 13) (c := 4) (k := 1) (v := M36 13 1) d_Re_readFirst_136 fl_Re_18 rfl (by decide) (by decide) rfl rfl (G_pc (pc' := 139) rfl ?_)
    rw [show M36 13 1 = ((20 + 9 * e : Nat) : Int) from RD_st hR37 he hst]
    refine G_sipush (n := 143) d_Re_readFirst_139 (by decide) (G_pc (pc' := 142) rfl ?_)
    refine G_iconst (n := 0) d_Re_readFirst_142 (by decide) (G_pc (pc' := 143) rfl ?_)
    refine G_bipush (n := 26) d_Re_readFirst_143 (by decide) (G_pc (pc' := 145) rfl ?_)
    refine G_callV (K1 := KE) (d2 := 1) (o := (20 + 9 * e)) (cl := 5) (as := [vi 143, vi 0, vi 26]) (rest := []) d_Re_readFirst_145 mf_St_add ml_Re_56 (kd_St he) rfl (by show 20 + 9 * e < 87; omega) rfl rfl (Nat.le_of_ble_eq_true rfl) (by omega) ⟨Nat.le_refl _, Nat.le_refl _⟩ (g_St_add (by omega) e 143 0 26 M36 he (by have h9 := RD_n hR37; omega)) (fun r38 M39 kq40 q40 => ?_)
    clear kq40; obtain ⟨q40a, q40b⟩ := q40; subst r38; subst M39
    rw [RD_n hR37]
    refine G_ps (pc' := 148) (st' := [vi ((S).length : Int)]) rfl rfl ?_
    refine G_abs (R := fun M9 => RD e M0 M9 (S ++ [(143, 0, 26, 0, 0, 0)]) (k + 1) o a) (RD_add hR37 (by first | decide | omega) he) (fun M41 hR42 => ?_)
    have hl43 : ((S ++ [(143, 0, 26, 0, 0, 0)]).length : Int) = (S).length + 1 := len_add _ _
    refine G_iret d_Re_readFirst_148 rfl (tokI (by omega)) rfl rfl ?_
    exact Or.inr ⟨_, _, _, _, _, _, first_6 (by omega), by rw [ts_add], hR42⟩
  have e44o : Op.lookupswitch.offset [(40, 44), (137, 62), (138, 78), (139, 101)] 125 (tcode (T k)) = 125 := by rw [lk_ne (by omega), lk_ne (by omega), lk_ne (by omega), lk_ne (by omega)]; rfl
  refine G_lookup (off := 125) (tgt := 149) d_Re_readFirst_24 (by decide) e44o (by decide) ?_
  refine G_iconst (n := (-1)) d_Re_readFirst_149 (by decide) (G_pc (pc' := 150) rfl ?_)
  refine G_iret d_Re_readFirst_150 rfl (tokI (by decide)) rfl rfl ?_
  exact Or.inl ⟨first_n (by omega) (by omega) (by omega) (by omega), rfl, hR.1, RD_o hR⟩

