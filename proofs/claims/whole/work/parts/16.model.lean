theorem idiv_e {a b : Int} (ha : 0 ≤ a ∧ a < 2147483648) (hb : 0 < b ∧ b < 2147483648) : o_idiv a b = a / b := by
  obtain ⟨n, rfl⟩ := Int.eq_ofNat_of_zero_le ha.1
  obtain ⟨m, rfl⟩ := Int.eq_ofNat_of_zero_le (show 0 ≤ b by omega)
  unfold o_idiv
  rw [Int32.ofInt_eq_ofNat, Int32.ofInt_eq_ofNat]
  have h := pk_div (a := n) (d := m) (by omega) (by omega) (by omega)
  unfold nI at h
  rw [h]
  exact nI_toInt (by have := Nat.div_le_self n m; omega)
theorem irem_e {a b : Int} (ha : 0 ≤ a ∧ a < 2147483648) (hb : 0 < b ∧ b < 2147483648) : o_irem a b = a % b := by
  obtain ⟨n, rfl⟩ := Int.eq_ofNat_of_zero_le ha.1
  obtain ⟨m, rfl⟩ := Int.eq_ofNat_of_zero_le (show 0 ≤ b by omega)
  unfold o_irem
  rw [Int32.ofInt_eq_ofNat, Int32.ofInt_eq_ofNat]
  have h := pk_rem (a := n) (d := m) (by omega) (by omega) (by omega)
  unfold nI at h
  rw [h]
  exact nI_toInt (by have := Nat.mod_lt n (show m > 0 by omega); omega)
def sortM (p : Int) : Int := if p < 27 then 0 else if p < 339 then 1 else if p < 399 then 2 else if p < 411 then 3 else 4
def whoM (p : Int) : Int := if p < 27 then p else if p < 339 then 1 + (p - 27) / 26 else if p < 399 then 1 + (p - 339) / 5 else if p < 411 then p - 398 else p - 410
def partM (p : Int) : Int := if p < 27 then 0 else if p < 339 then (p - 27) % 26 else if p < 399 then (p - 339) % 5 else 0
def reqM (M : Mem) (k what : Int) : Int := if (0 ≤ k ∧ k < M 55 21) ∧ (0 ≤ what ∧ what < 4) then
  (if what = 0 then sortM (M 72 k) else if what = 3 then M 73 k else if what = 1 then whoM (M 72 k) else partM (M 72 k)) else -1
theorem d_Mo_request_0 : decode b_Mo_request 0 = .ok (.iload_n 1, 1) := by decide +kernel
theorem d_Mo_request_1 : decode b_Mo_request 1 = .ok (.aload_n 0, 1) := by decide +kernel
theorem d_Mo_request_2 : decode b_Mo_request 2 = .ok (.getfield 150, 3) := by decide +kernel
theorem d_Mo_request_5 : decode b_Mo_request 5 = .ok (.invokestatic 105, 3) := by decide +kernel
theorem d_Mo_request_8 : decode b_Mo_request 8 = .ok (.ifCond .eq 11, 3) := by decide +kernel
theorem d_Mo_request_11 : decode b_Mo_request 11 = .ok (.iload_n 2, 1) := by decide +kernel
theorem d_Mo_request_12 : decode b_Mo_request 12 = .ok (.iconst 4, 1) := by decide +kernel
theorem d_Mo_request_13 : decode b_Mo_request 13 = .ok (.invokestatic 105, 3) := by decide +kernel
theorem d_Mo_request_16 : decode b_Mo_request 16 = .ok (.ifCond .ne 5, 3) := by decide +kernel
theorem d_Mo_request_19 : decode b_Mo_request 19 = .ok (.iconst (-1), 1) := by decide +kernel
theorem d_Mo_request_20 : decode b_Mo_request 20 = .ok (.ireturn, 1) := by decide +kernel
theorem d_Mo_request_21 : decode b_Mo_request 21 = .ok (.aload_n 0, 1) := by decide +kernel
theorem d_Mo_request_22 : decode b_Mo_request 22 = .ok (.getfield 60, 3) := by decide +kernel
theorem d_Mo_request_25 : decode b_Mo_request 25 = .ok (.iload_n 1, 1) := by decide +kernel
theorem d_Mo_request_26 : decode b_Mo_request 26 = .ok (.iaload, 1) := by decide +kernel
theorem d_Mo_request_27 : decode b_Mo_request 27 = .ok (.istore_n 3, 1) := by decide +kernel
theorem d_Mo_request_28 : decode b_Mo_request 28 = .ok (.iload_n 3, 1) := by decide +kernel
theorem d_Mo_request_29 : decode b_Mo_request 29 = .ok (.bipush 27, 2) := by decide +kernel
theorem d_Mo_request_31 : decode b_Mo_request 31 = .ok (.if_icmp .ge 7, 3) := by decide +kernel
theorem d_Mo_request_34 : decode b_Mo_request 34 = .ok (.iconst 0, 1) := by decide +kernel
theorem d_Mo_request_35 : decode b_Mo_request 35 = .ok (.goto 37, 3) := by decide +kernel
theorem d_Mo_request_38 : decode b_Mo_request 38 = .ok (.iload_n 3, 1) := by decide +kernel
theorem d_Mo_request_39 : decode b_Mo_request 39 = .ok (.sipush 339, 3) := by decide +kernel
theorem d_Mo_request_42 : decode b_Mo_request 42 = .ok (.if_icmp .ge 7, 3) := by decide +kernel
theorem d_Mo_request_45 : decode b_Mo_request 45 = .ok (.iconst 1, 1) := by decide +kernel
theorem d_Mo_request_46 : decode b_Mo_request 46 = .ok (.goto 26, 3) := by decide +kernel
theorem d_Mo_request_49 : decode b_Mo_request 49 = .ok (.iload_n 3, 1) := by decide +kernel
theorem d_Mo_request_50 : decode b_Mo_request 50 = .ok (.sipush 399, 3) := by decide +kernel
theorem d_Mo_request_53 : decode b_Mo_request 53 = .ok (.if_icmp .ge 7, 3) := by decide +kernel
theorem d_Mo_request_56 : decode b_Mo_request 56 = .ok (.iconst 2, 1) := by decide +kernel
theorem d_Mo_request_57 : decode b_Mo_request 57 = .ok (.goto 15, 3) := by decide +kernel
theorem d_Mo_request_60 : decode b_Mo_request 60 = .ok (.iload_n 3, 1) := by decide +kernel
theorem d_Mo_request_61 : decode b_Mo_request 61 = .ok (.sipush 411, 3) := by decide +kernel
theorem d_Mo_request_64 : decode b_Mo_request 64 = .ok (.if_icmp .ge 7, 3) := by decide +kernel
theorem d_Mo_request_67 : decode b_Mo_request 67 = .ok (.iconst 3, 1) := by decide +kernel
theorem d_Mo_request_68 : decode b_Mo_request 68 = .ok (.goto 4, 3) := by decide +kernel
theorem d_Mo_request_71 : decode b_Mo_request 71 = .ok (.iconst 4, 1) := by decide +kernel
theorem d_Mo_request_72 : decode b_Mo_request 72 = .ok (.istore 4, 2) := by decide +kernel
theorem d_Mo_request_74 : decode b_Mo_request 74 = .ok (.iload_n 2, 1) := by decide +kernel
theorem d_Mo_request_75 : decode b_Mo_request 75 = .ok (.ifCond .eq 8, 3) := by decide +kernel
theorem d_Mo_request_78 : decode b_Mo_request 78 = .ok (.iload_n 2, 1) := by decide +kernel
theorem d_Mo_request_79 : decode b_Mo_request 79 = .ok (.iconst 3, 1) := by decide +kernel
theorem d_Mo_request_80 : decode b_Mo_request 80 = .ok (.if_icmp .ne 19, 3) := by decide +kernel
theorem d_Mo_request_83 : decode b_Mo_request 83 = .ok (.iload_n 2, 1) := by decide +kernel
theorem d_Mo_request_84 : decode b_Mo_request 84 = .ok (.ifCond .ne 8, 3) := by decide +kernel
theorem d_Mo_request_87 : decode b_Mo_request 87 = .ok (.iload 4, 2) := by decide +kernel
theorem d_Mo_request_89 : decode b_Mo_request 89 = .ok (.goto 9, 3) := by decide +kernel
theorem d_Mo_request_92 : decode b_Mo_request 92 = .ok (.aload_n 0, 1) := by decide +kernel
theorem d_Mo_request_93 : decode b_Mo_request 93 = .ok (.getfield 63, 3) := by decide +kernel
theorem d_Mo_request_96 : decode b_Mo_request 96 = .ok (.iload_n 1, 1) := by decide +kernel
theorem d_Mo_request_97 : decode b_Mo_request 97 = .ok (.iaload, 1) := by decide +kernel
theorem d_Mo_request_98 : decode b_Mo_request 98 = .ok (.ireturn, 1) := by decide +kernel
theorem d_Mo_request_99 : decode b_Mo_request 99 = .ok (.iload 4, 2) := by decide +kernel
theorem d_Mo_request_101 : decode b_Mo_request 101 = .ok (.ifCond .eq 9, 3) := by decide +kernel
theorem d_Mo_request_104 : decode b_Mo_request 104 = .ok (.iload 4, 2) := by decide +kernel
theorem d_Mo_request_106 : decode b_Mo_request 106 = .ok (.iconst 2, 1) := by decide +kernel
theorem d_Mo_request_107 : decode b_Mo_request 107 = .ok (.if_icmp .le 41, 3) := by decide +kernel
theorem d_Mo_request_110 : decode b_Mo_request 110 = .ok (.iload_n 2, 1) := by decide +kernel
theorem d_Mo_request_111 : decode b_Mo_request 111 = .ok (.iconst 2, 1) := by decide +kernel
theorem d_Mo_request_112 : decode b_Mo_request 112 = .ok (.if_icmp .ne 7, 3) := by decide +kernel
theorem d_Mo_request_115 : decode b_Mo_request 115 = .ok (.iconst 0, 1) := by decide +kernel
theorem d_Mo_request_116 : decode b_Mo_request 116 = .ok (.goto 31, 3) := by decide +kernel
theorem d_Mo_request_119 : decode b_Mo_request 119 = .ok (.iload 4, 2) := by decide +kernel
theorem d_Mo_request_121 : decode b_Mo_request 121 = .ok (.ifCond .ne 7, 3) := by decide +kernel
theorem d_Mo_request_124 : decode b_Mo_request 124 = .ok (.iload_n 3, 1) := by decide +kernel
theorem d_Mo_request_125 : decode b_Mo_request 125 = .ok (.goto 22, 3) := by decide +kernel
theorem d_Mo_request_128 : decode b_Mo_request 128 = .ok (.iload 4, 2) := by decide +kernel
theorem d_Mo_request_130 : decode b_Mo_request 130 = .ok (.iconst 3, 1) := by decide +kernel
theorem d_Mo_request_131 : decode b_Mo_request 131 = .ok (.if_icmp .ne 11, 3) := by decide +kernel
theorem d_Mo_request_134 : decode b_Mo_request 134 = .ok (.iload_n 3, 1) := by decide +kernel
theorem d_Mo_request_135 : decode b_Mo_request 135 = .ok (.sipush 398, 3) := by decide +kernel
theorem d_Mo_request_138 : decode b_Mo_request 138 = .ok (.isub, 1) := by decide +kernel
theorem d_Mo_request_139 : decode b_Mo_request 139 = .ok (.goto 8, 3) := by decide +kernel
theorem d_Mo_request_142 : decode b_Mo_request 142 = .ok (.iload_n 3, 1) := by decide +kernel
theorem d_Mo_request_143 : decode b_Mo_request 143 = .ok (.sipush 410, 3) := by decide +kernel
theorem d_Mo_request_146 : decode b_Mo_request 146 = .ok (.isub, 1) := by decide +kernel
theorem d_Mo_request_147 : decode b_Mo_request 147 = .ok (.ireturn, 1) := by decide +kernel
theorem d_Mo_request_148 : decode b_Mo_request 148 = .ok (.iload 4, 2) := by decide +kernel
theorem d_Mo_request_150 : decode b_Mo_request 150 = .ok (.iconst 1, 1) := by decide +kernel
theorem d_Mo_request_151 : decode b_Mo_request 151 = .ok (.if_icmp .ne 10, 3) := by decide +kernel
theorem d_Mo_request_154 : decode b_Mo_request 154 = .ok (.iload_n 3, 1) := by decide +kernel
theorem d_Mo_request_155 : decode b_Mo_request 155 = .ok (.bipush 27, 2) := by decide +kernel
theorem d_Mo_request_157 : decode b_Mo_request 157 = .ok (.isub, 1) := by decide +kernel
theorem d_Mo_request_158 : decode b_Mo_request 158 = .ok (.goto 8, 3) := by decide +kernel
theorem d_Mo_request_161 : decode b_Mo_request 161 = .ok (.iload_n 3, 1) := by decide +kernel
theorem d_Mo_request_162 : decode b_Mo_request 162 = .ok (.sipush 339, 3) := by decide +kernel
theorem d_Mo_request_165 : decode b_Mo_request 165 = .ok (.isub, 1) := by decide +kernel
theorem d_Mo_request_166 : decode b_Mo_request 166 = .ok (.istore 5, 2) := by decide +kernel
theorem d_Mo_request_168 : decode b_Mo_request 168 = .ok (.iload 4, 2) := by decide +kernel
theorem d_Mo_request_170 : decode b_Mo_request 170 = .ok (.iconst 1, 1) := by decide +kernel
theorem d_Mo_request_171 : decode b_Mo_request 171 = .ok (.if_icmp .ne 8, 3) := by decide +kernel
theorem d_Mo_request_174 : decode b_Mo_request 174 = .ok (.bipush 26, 2) := by decide +kernel
theorem d_Mo_request_176 : decode b_Mo_request 176 = .ok (.goto 4, 3) := by decide +kernel
theorem d_Mo_request_179 : decode b_Mo_request 179 = .ok (.iconst 5, 1) := by decide +kernel
theorem d_Mo_request_180 : decode b_Mo_request 180 = .ok (.istore 6, 2) := by decide +kernel
theorem d_Mo_request_182 : decode b_Mo_request 182 = .ok (.iload_n 2, 1) := by decide +kernel
theorem d_Mo_request_183 : decode b_Mo_request 183 = .ok (.iconst 1, 1) := by decide +kernel
theorem d_Mo_request_184 : decode b_Mo_request 184 = .ok (.if_icmp .ne 13, 3) := by decide +kernel
theorem d_Mo_request_187 : decode b_Mo_request 187 = .ok (.iconst 1, 1) := by decide +kernel
theorem d_Mo_request_188 : decode b_Mo_request 188 = .ok (.iload 5, 2) := by decide +kernel
theorem d_Mo_request_190 : decode b_Mo_request 190 = .ok (.iload 6, 2) := by decide +kernel
theorem d_Mo_request_192 : decode b_Mo_request 192 = .ok (.idiv, 1) := by decide +kernel
theorem d_Mo_request_193 : decode b_Mo_request 193 = .ok (.iadd, 1) := by decide +kernel
theorem d_Mo_request_194 : decode b_Mo_request 194 = .ok (.goto 8, 3) := by decide +kernel
theorem d_Mo_request_197 : decode b_Mo_request 197 = .ok (.iload 5, 2) := by decide +kernel
theorem d_Mo_request_199 : decode b_Mo_request 199 = .ok (.iload 6, 2) := by decide +kernel
theorem d_Mo_request_201 : decode b_Mo_request 201 = .ok (.irem, 1) := by decide +kernel
theorem d_Mo_request_202 : decode b_Mo_request 202 = .ok (.ireturn, 1) := by decide +kernel
theorem g_Mo_request {X : WX} {d : Nat} (hd : 1 ≤ d) (k what : Int) (M : Mem) (hR : 0 ≤ M 55 21 ∧ M 55 21 ≤ 400) (hp : ∀ j, 0 ≤ j → j < M 55 21 → 0 ≤ M 72 j ∧ M 72 j < 423) : MG X gt d KE KE y_Mo_request b_Mo_request 7 (some .int) [vr 55, vi k, vi what] M (fun r M' => r = some (vi (reqM M k what)) ∧ M' = M) := by
  refine MG_of_G (by decide) (Nat.le_of_ble_eq_true rfl) (Nat.le_refl _) (by decide) ?_
  show G X gt d KE KE y_Mo_request b_Mo_request 7 (some .int) _ 0 [(0, vr 55), (1, vi k), (2, vi what)] [] KE M
  refine G_rngl (i := 1) rfl (fun hr1 => ?_)
  refine G_rngl (i := 2) rfl (fun hr2 => ?_)
  refine G_iload (i := 1) (n := 1) (len := 1) (Or.inl ⟨1, rfl, rfl, d_Mo_request_0⟩) rfl (G_pc (pc' := 1) rfl ?_)
  refine G_aload (i := 0) (n := 0) (len := 1) (Or.inl ⟨0, rfl, rfl, d_Mo_request_1⟩) rfl (by decide) (G_pc (pc' := 2) rfl ?_)
  refine G_get (o := 55) (c := 9) (k := 21) (v := M 55 21) d_Mo_request_2 fl_Mo_150 rfl (by decide) (by decide) rfl rfl (G_pc (pc' := 5) rfl ?_)
  refine G_callS (K1 := KE) (d2 := 0) (as := [vi k, vi (M 55 21)]) (rest := []) d_Mo_request_5 mf_Mo_in ml_Mo_105 rfl rfl (by decide) (by omega) ⟨Nat.le_refl _, Nat.le_refl _⟩ (g_Mo_in (by omega) k (M 55 21) _) (fun r1 M2 kq3 q3 => ?_)
  clear kq3; obtain ⟨q3a, q3b⟩ := q3; subst r1; subst M2
  refine G_ps (pc' := 8) (st' := [vi (b2i (inB k (M 55 21)))]) rfl rfl ?_
  refine G_if_eq (tgt := 19) d_Mo_request_8 (by decide) (fun h4 => ?_) (fun h4 => G_pc (pc' := 11) rfl ?_)
  · skip
    replace h4 := b2i_0.mp h4
    replace h4 := inB_f.mp h4
    refine G_iconst (n := (-1)) d_Mo_request_19 (by decide) (G_pc (pc' := 20) rfl ?_)
    refine G_iret d_Mo_request_20 rfl (tokI (by decide)) rfl rfl ?_
    exact ret_e (by unfold reqM sortM whoM partM; grind) rfl
  · skip
    replace h4 := b2i_nz.mp h4
    replace h4 := inB_t.mp h4
    refine G_iload (i := 2) (n := 2) (len := 1) (Or.inl ⟨2, rfl, rfl, d_Mo_request_11⟩) rfl (G_pc (pc' := 12) rfl ?_)
    refine G_iconst (n := 4) d_Mo_request_12 (by decide) (G_pc (pc' := 13) rfl ?_)
    refine G_callS (K1 := KE) (d2 := 0) (as := [vi what, vi 4]) (rest := []) d_Mo_request_13 mf_Mo_in ml_Mo_105 rfl rfl (by decide) (by omega) ⟨Nat.le_refl _, Nat.le_refl _⟩ (g_Mo_in (by omega) what 4 _) (fun r5 M6 kq7 q7 => ?_)
    clear kq7; obtain ⟨q7a, q7b⟩ := q7; subst r5; subst M6
    refine G_ps (pc' := 16) (st' := [vi (b2i (inB what 4))]) rfl rfl ?_
    refine G_if_ne (tgt := 21) d_Mo_request_16 (by decide) (fun h8 => ?_) (fun h8 => G_pc (pc' := 19) rfl ?_)
    · skip
      replace h8 := b2i_nz.mp h8
      replace h8 := inB_t.mp h8
      refine G_aload (i := 0) (n := 0) (len := 1) (Or.inl ⟨0, rfl, rfl, d_Mo_request_21⟩) rfl (by decide) (G_pc (pc' := 22) rfl ?_)
      refine G_get (o := 55) (c := 9) (k := 22) (v := 72) d_Mo_request_22 fl_Mo_60 rfl (by decide) (by decide) rfl rfl (G_pc (pc' := 25) rfl ?_)
      refine G_iload (i := 1) (n := 1) (len := 1) (Or.inl ⟨1, rfl, rfl, d_Mo_request_25⟩) rfl (G_pc (pc' := 26) rfl ?_)
      refine G_iaload (o := 72) (n := 423) (i := k) (v := M 72 k) d_Mo_request_26 rfl ⟨by decide, by decide⟩ (by omega) (rd_arr rfl) (fun t9 => G_pc (pc' := 27) rfl ?_)
      have t9 := tok_i t9
      refine G_istore (i := 3) (len := 1) (ls' := [(3, vi (M 72 k)), (0, vr 55), (1, vi k), (2, vi what)]) (Or.inl ⟨3, rfl, rfl, d_Mo_request_27⟩) (by decide) rfl (G_pc (pc' := 28) rfl ?_)
      have hpk := hp k (by omega) (by omega)
      refine G_iload (i := 3) (n := 0) (len := 1) (Or.inl ⟨3, rfl, rfl, d_Mo_request_28⟩) rfl (G_pc (pc' := 29) rfl ?_)
      refine G_bipush (n := 27) d_Mo_request_29 (by decide) (G_pc (pc' := 31) rfl ?_)
      refine G_icmp_ge (tgt := 38) d_Mo_request_31 (by decide) (fun h10 => ?_) (fun h10 => G_pc (pc' := 34) rfl ?_)
      · skip
        refine G_iload (i := 3) (n := 0) (len := 1) (Or.inl ⟨3, rfl, rfl, d_Mo_request_38⟩) rfl (G_pc (pc' := 39) rfl ?_)
        refine G_sipush (n := 339) d_Mo_request_39 (by decide) (G_pc (pc' := 42) rfl ?_)
        refine G_icmp_ge (tgt := 49) d_Mo_request_42 (by decide) (fun h11 => ?_) (fun h11 => G_pc (pc' := 45) rfl ?_)
        · skip
          refine G_iload (i := 3) (n := 0) (len := 1) (Or.inl ⟨3, rfl, rfl, d_Mo_request_49⟩) rfl (G_pc (pc' := 50) rfl ?_)
          refine G_sipush (n := 399) d_Mo_request_50 (by decide) (G_pc (pc' := 53) rfl ?_)
          refine G_icmp_ge (tgt := 60) d_Mo_request_53 (by decide) (fun h12 => ?_) (fun h12 => G_pc (pc' := 56) rfl ?_)
          · skip
            refine G_iload (i := 3) (n := 0) (len := 1) (Or.inl ⟨3, rfl, rfl, d_Mo_request_60⟩) rfl (G_pc (pc' := 61) rfl ?_)
            refine G_sipush (n := 411) d_Mo_request_61 (by decide) (G_pc (pc' := 64) rfl ?_)
            refine G_icmp_ge (tgt := 71) d_Mo_request_64 (by decide) (fun h13 => ?_) (fun h13 => G_pc (pc' := 67) rfl ?_)
            · skip
              refine G_iconst (n := 4) d_Mo_request_71 (by decide) (G_pc (pc' := 72) rfl ?_)
              refine G_istore (i := 4) (len := 2) (ls' := [(4, vi 4), (3, vi (M 72 k)), (0, vr 55), (1, vi k), (2, vi what)]) (Or.inr ⟨rfl, d_Mo_request_72⟩) (by decide) rfl (G_pc (pc' := 74) rfl ?_)
              refine G_iload (i := 2) (n := 4) (len := 1) (Or.inl ⟨2, rfl, rfl, d_Mo_request_74⟩) rfl (G_pc (pc' := 75) rfl ?_)
              refine G_if_eq (tgt := 83) d_Mo_request_75 (by decide) (fun h14 => ?_) (fun h14 => G_pc (pc' := 78) rfl ?_)
              · skip
                refine G_iload (i := 2) (n := 4) (len := 1) (Or.inl ⟨2, rfl, rfl, d_Mo_request_83⟩) rfl (G_pc (pc' := 84) rfl ?_)
                refine G_if_ne (tgt := 92) d_Mo_request_84 (by decide) (fun h15 => ?_) (fun h15 => G_pc (pc' := 87) rfl ?_)
                · skip
                  refine G_aload (i := 0) (n := 2) (len := 1) (Or.inl ⟨0, rfl, rfl, d_Mo_request_92⟩) rfl (by decide) (G_pc (pc' := 93) rfl ?_)
                  refine G_get (o := 55) (c := 9) (k := 23) (v := 73) d_Mo_request_93 fl_Mo_63 rfl (by decide) (by decide) rfl rfl (G_pc (pc' := 96) rfl ?_)
                  refine G_iload (i := 1) (n := 3) (len := 1) (Or.inl ⟨1, rfl, rfl, d_Mo_request_96⟩) rfl (G_pc (pc' := 97) rfl ?_)
                  refine G_iaload (o := 73) (n := 423) (i := k) (v := M 73 k) d_Mo_request_97 rfl ⟨by decide, by decide⟩ (by omega) (rd_arr rfl) (fun t16 => G_pc (pc' := 98) rfl ?_)
                  have t16 := tok_i t16
                  refine G_iret d_Mo_request_98 rfl (tokI (by omega)) rfl rfl ?_
                  exact ret_e (by unfold reqM sortM whoM partM; grind) rfl
                · skip
                  refine G_iload (i := 4) (n := 0) (len := 2) (Or.inr ⟨rfl, d_Mo_request_87⟩) rfl (G_pc (pc' := 89) rfl ?_)
                  refine G_goto (tgt := 98) d_Mo_request_89 (by decide) ?_
                  refine G_iret d_Mo_request_98 rfl (tokI (by decide)) rfl rfl ?_
                  exact ret_e (by unfold reqM sortM whoM partM; grind) rfl
              · skip
                refine G_iload (i := 2) (n := 4) (len := 1) (Or.inl ⟨2, rfl, rfl, d_Mo_request_78⟩) rfl (G_pc (pc' := 79) rfl ?_)
                refine G_iconst (n := 3) d_Mo_request_79 (by decide) (G_pc (pc' := 80) rfl ?_)
                refine G_icmp_ne (tgt := 99) d_Mo_request_80 (by decide) (fun h17 => ?_) (fun h17 => G_pc (pc' := 83) rfl ?_)
                · skip
                  refine G_iload (i := 4) (n := 0) (len := 2) (Or.inr ⟨rfl, d_Mo_request_99⟩) rfl (G_pc (pc' := 101) rfl ?_)
                  refine G_if_eq (tgt := 110) d_Mo_request_101 (by decide) (fun h18 => absurd h18 (by decide)) (fun h18 => G_pc (pc' := 104) rfl ?_)
                  refine G_iload (i := 4) (n := 0) (len := 2) (Or.inr ⟨rfl, d_Mo_request_104⟩) rfl (G_pc (pc' := 106) rfl ?_)
                  refine G_iconst (n := 2) d_Mo_request_106 (by decide) (G_pc (pc' := 107) rfl ?_)
                  refine G_icmp_le (tgt := 148) d_Mo_request_107 (by decide) (fun h19 => absurd h19 (by decide)) (fun h19 => G_pc (pc' := 110) rfl ?_)
                  refine G_iload (i := 2) (n := 4) (len := 1) (Or.inl ⟨2, rfl, rfl, d_Mo_request_110⟩) rfl (G_pc (pc' := 111) rfl ?_)
                  refine G_iconst (n := 2) d_Mo_request_111 (by decide) (G_pc (pc' := 112) rfl ?_)
                  refine G_icmp_ne (tgt := 119) d_Mo_request_112 (by decide) (fun h20 => ?_) (fun h20 => G_pc (pc' := 115) rfl ?_)
                  · skip
                    refine G_iload (i := 4) (n := 0) (len := 2) (Or.inr ⟨rfl, d_Mo_request_119⟩) rfl (G_pc (pc' := 121) rfl ?_)
                    refine G_if_ne (tgt := 128) d_Mo_request_121 (by decide) (fun h21 => ?_) (fun h21 => absurd h21 (by decide))
                    refine G_iload (i := 4) (n := 0) (len := 2) (Or.inr ⟨rfl, d_Mo_request_128⟩) rfl (G_pc (pc' := 130) rfl ?_)
                    refine G_iconst (n := 3) d_Mo_request_130 (by decide) (G_pc (pc' := 131) rfl ?_)
                    refine G_icmp_ne (tgt := 142) d_Mo_request_131 (by decide) (fun h22 => ?_) (fun h22 => absurd h22 (by decide))
                    refine G_iload (i := 3) (n := 1) (len := 1) (Or.inl ⟨3, rfl, rfl, d_Mo_request_142⟩) rfl (G_pc (pc' := 143) rfl ?_)
                    refine G_sipush (n := 410) d_Mo_request_143 (by decide) (G_pc (pc' := 146) rfl ?_)
                    refine G_isub d_Mo_request_146 (by omega) (G_pc (pc' := 147) rfl ?_)
                    refine G_iret d_Mo_request_147 rfl (tokI (by omega)) rfl rfl ?_
                    exact ret_e (by unfold reqM sortM whoM partM; grind) rfl
                  · skip
                    refine G_iconst (n := 0) d_Mo_request_115 (by decide) (G_pc (pc' := 116) rfl ?_)
                    refine G_goto (tgt := 147) d_Mo_request_116 (by decide) ?_
                    refine G_iret d_Mo_request_147 rfl (tokI (by decide)) rfl rfl ?_
                    exact ret_e (by unfold reqM sortM whoM partM; grind) rfl
                · skip
                  refine G_iload (i := 2) (n := 4) (len := 1) (Or.inl ⟨2, rfl, rfl, d_Mo_request_83⟩) rfl (G_pc (pc' := 84) rfl ?_)
                  refine G_if_ne (tgt := 92) d_Mo_request_84 (by decide) (fun h23 => ?_) (fun h23 => G_pc (pc' := 87) rfl ?_)
                  · skip
                    refine G_aload (i := 0) (n := 2) (len := 1) (Or.inl ⟨0, rfl, rfl, d_Mo_request_92⟩) rfl (by decide) (G_pc (pc' := 93) rfl ?_)
                    refine G_get (o := 55) (c := 9) (k := 23) (v := 73) d_Mo_request_93 fl_Mo_63 rfl (by decide) (by decide) rfl rfl (G_pc (pc' := 96) rfl ?_)
                    refine G_iload (i := 1) (n := 3) (len := 1) (Or.inl ⟨1, rfl, rfl, d_Mo_request_96⟩) rfl (G_pc (pc' := 97) rfl ?_)
                    refine G_iaload (o := 73) (n := 423) (i := k) (v := M 73 k) d_Mo_request_97 rfl ⟨by decide, by decide⟩ (by omega) (rd_arr rfl) (fun t24 => G_pc (pc' := 98) rfl ?_)
                    have t24 := tok_i t24
                    refine G_iret d_Mo_request_98 rfl (tokI (by omega)) rfl rfl ?_
                    exact ret_e (by unfold reqM sortM whoM partM; grind) rfl
                  · skip
                    refine G_iload (i := 4) (n := 0) (len := 2) (Or.inr ⟨rfl, d_Mo_request_87⟩) rfl (G_pc (pc' := 89) rfl ?_)
                    refine G_goto (tgt := 98) d_Mo_request_89 (by decide) ?_
                    refine G_iret d_Mo_request_98 rfl (tokI (by decide)) rfl rfl ?_
                    exact ret_e (by unfold reqM sortM whoM partM; grind) rfl
            · skip
              refine G_iconst (n := 3) d_Mo_request_67 (by decide) (G_pc (pc' := 68) rfl ?_)
              refine G_goto (tgt := 72) d_Mo_request_68 (by decide) ?_
              refine G_istore (i := 4) (len := 2) (ls' := [(4, vi 3), (3, vi (M 72 k)), (0, vr 55), (1, vi k), (2, vi what)]) (Or.inr ⟨rfl, d_Mo_request_72⟩) (by decide) rfl (G_pc (pc' := 74) rfl ?_)
              refine G_iload (i := 2) (n := 4) (len := 1) (Or.inl ⟨2, rfl, rfl, d_Mo_request_74⟩) rfl (G_pc (pc' := 75) rfl ?_)
              refine G_if_eq (tgt := 83) d_Mo_request_75 (by decide) (fun h25 => ?_) (fun h25 => G_pc (pc' := 78) rfl ?_)
              · skip
                refine G_iload (i := 2) (n := 4) (len := 1) (Or.inl ⟨2, rfl, rfl, d_Mo_request_83⟩) rfl (G_pc (pc' := 84) rfl ?_)
                refine G_if_ne (tgt := 92) d_Mo_request_84 (by decide) (fun h26 => ?_) (fun h26 => G_pc (pc' := 87) rfl ?_)
                · skip
                  refine G_aload (i := 0) (n := 2) (len := 1) (Or.inl ⟨0, rfl, rfl, d_Mo_request_92⟩) rfl (by decide) (G_pc (pc' := 93) rfl ?_)
                  refine G_get (o := 55) (c := 9) (k := 23) (v := 73) d_Mo_request_93 fl_Mo_63 rfl (by decide) (by decide) rfl rfl (G_pc (pc' := 96) rfl ?_)
                  refine G_iload (i := 1) (n := 3) (len := 1) (Or.inl ⟨1, rfl, rfl, d_Mo_request_96⟩) rfl (G_pc (pc' := 97) rfl ?_)
                  refine G_iaload (o := 73) (n := 423) (i := k) (v := M 73 k) d_Mo_request_97 rfl ⟨by decide, by decide⟩ (by omega) (rd_arr rfl) (fun t27 => G_pc (pc' := 98) rfl ?_)
                  have t27 := tok_i t27
                  refine G_iret d_Mo_request_98 rfl (tokI (by omega)) rfl rfl ?_
                  exact ret_e (by unfold reqM sortM whoM partM; grind) rfl
                · skip
                  refine G_iload (i := 4) (n := 0) (len := 2) (Or.inr ⟨rfl, d_Mo_request_87⟩) rfl (G_pc (pc' := 89) rfl ?_)
                  refine G_goto (tgt := 98) d_Mo_request_89 (by decide) ?_
                  refine G_iret d_Mo_request_98 rfl (tokI (by decide)) rfl rfl ?_
                  exact ret_e (by unfold reqM sortM whoM partM; grind) rfl
              · skip
                refine G_iload (i := 2) (n := 4) (len := 1) (Or.inl ⟨2, rfl, rfl, d_Mo_request_78⟩) rfl (G_pc (pc' := 79) rfl ?_)
                refine G_iconst (n := 3) d_Mo_request_79 (by decide) (G_pc (pc' := 80) rfl ?_)
                refine G_icmp_ne (tgt := 99) d_Mo_request_80 (by decide) (fun h28 => ?_) (fun h28 => G_pc (pc' := 83) rfl ?_)
                · skip
                  refine G_iload (i := 4) (n := 0) (len := 2) (Or.inr ⟨rfl, d_Mo_request_99⟩) rfl (G_pc (pc' := 101) rfl ?_)
                  refine G_if_eq (tgt := 110) d_Mo_request_101 (by decide) (fun h29 => absurd h29 (by decide)) (fun h29 => G_pc (pc' := 104) rfl ?_)
                  refine G_iload (i := 4) (n := 0) (len := 2) (Or.inr ⟨rfl, d_Mo_request_104⟩) rfl (G_pc (pc' := 106) rfl ?_)
                  refine G_iconst (n := 2) d_Mo_request_106 (by decide) (G_pc (pc' := 107) rfl ?_)
                  refine G_icmp_le (tgt := 148) d_Mo_request_107 (by decide) (fun h30 => absurd h30 (by decide)) (fun h30 => G_pc (pc' := 110) rfl ?_)
                  refine G_iload (i := 2) (n := 4) (len := 1) (Or.inl ⟨2, rfl, rfl, d_Mo_request_110⟩) rfl (G_pc (pc' := 111) rfl ?_)
                  refine G_iconst (n := 2) d_Mo_request_111 (by decide) (G_pc (pc' := 112) rfl ?_)
                  refine G_icmp_ne (tgt := 119) d_Mo_request_112 (by decide) (fun h31 => ?_) (fun h31 => G_pc (pc' := 115) rfl ?_)
                  · skip
                    refine G_iload (i := 4) (n := 0) (len := 2) (Or.inr ⟨rfl, d_Mo_request_119⟩) rfl (G_pc (pc' := 121) rfl ?_)
                    refine G_if_ne (tgt := 128) d_Mo_request_121 (by decide) (fun h32 => ?_) (fun h32 => absurd h32 (by decide))
                    refine G_iload (i := 4) (n := 0) (len := 2) (Or.inr ⟨rfl, d_Mo_request_128⟩) rfl (G_pc (pc' := 130) rfl ?_)
                    refine G_iconst (n := 3) d_Mo_request_130 (by decide) (G_pc (pc' := 131) rfl ?_)
                    refine G_icmp_ne (tgt := 142) d_Mo_request_131 (by decide) (fun h33 => absurd h33 (by decide)) (fun h33 => G_pc (pc' := 134) rfl ?_)
                    refine G_iload (i := 3) (n := 1) (len := 1) (Or.inl ⟨3, rfl, rfl, d_Mo_request_134⟩) rfl (G_pc (pc' := 135) rfl ?_)
                    refine G_sipush (n := 398) d_Mo_request_135 (by decide) (G_pc (pc' := 138) rfl ?_)
                    refine G_isub d_Mo_request_138 (by omega) (G_pc (pc' := 139) rfl ?_)
                    refine G_goto (tgt := 147) d_Mo_request_139 (by decide) ?_
                    refine G_iret d_Mo_request_147 rfl (tokI (by omega)) rfl rfl ?_
                    exact ret_e (by unfold reqM sortM whoM partM; grind) rfl
                  · skip
                    refine G_iconst (n := 0) d_Mo_request_115 (by decide) (G_pc (pc' := 116) rfl ?_)
                    refine G_goto (tgt := 147) d_Mo_request_116 (by decide) ?_
                    refine G_iret d_Mo_request_147 rfl (tokI (by decide)) rfl rfl ?_
                    exact ret_e (by unfold reqM sortM whoM partM; grind) rfl
                · skip
                  refine G_iload (i := 2) (n := 4) (len := 1) (Or.inl ⟨2, rfl, rfl, d_Mo_request_83⟩) rfl (G_pc (pc' := 84) rfl ?_)
                  refine G_if_ne (tgt := 92) d_Mo_request_84 (by decide) (fun h34 => ?_) (fun h34 => G_pc (pc' := 87) rfl ?_)
                  · skip
                    refine G_aload (i := 0) (n := 2) (len := 1) (Or.inl ⟨0, rfl, rfl, d_Mo_request_92⟩) rfl (by decide) (G_pc (pc' := 93) rfl ?_)
                    refine G_get (o := 55) (c := 9) (k := 23) (v := 73) d_Mo_request_93 fl_Mo_63 rfl (by decide) (by decide) rfl rfl (G_pc (pc' := 96) rfl ?_)
                    refine G_iload (i := 1) (n := 3) (len := 1) (Or.inl ⟨1, rfl, rfl, d_Mo_request_96⟩) rfl (G_pc (pc' := 97) rfl ?_)
                    refine G_iaload (o := 73) (n := 423) (i := k) (v := M 73 k) d_Mo_request_97 rfl ⟨by decide, by decide⟩ (by omega) (rd_arr rfl) (fun t35 => G_pc (pc' := 98) rfl ?_)
                    have t35 := tok_i t35
                    refine G_iret d_Mo_request_98 rfl (tokI (by omega)) rfl rfl ?_
                    exact ret_e (by unfold reqM sortM whoM partM; grind) rfl
                  · skip
                    refine G_iload (i := 4) (n := 0) (len := 2) (Or.inr ⟨rfl, d_Mo_request_87⟩) rfl (G_pc (pc' := 89) rfl ?_)
                    refine G_goto (tgt := 98) d_Mo_request_89 (by decide) ?_
                    refine G_iret d_Mo_request_98 rfl (tokI (by decide)) rfl rfl ?_
                    exact ret_e (by unfold reqM sortM whoM partM; grind) rfl
          · skip
            refine G_iconst (n := 2) d_Mo_request_56 (by decide) (G_pc (pc' := 57) rfl ?_)
            refine G_goto (tgt := 72) d_Mo_request_57 (by decide) ?_
            refine G_istore (i := 4) (len := 2) (ls' := [(4, vi 2), (3, vi (M 72 k)), (0, vr 55), (1, vi k), (2, vi what)]) (Or.inr ⟨rfl, d_Mo_request_72⟩) (by decide) rfl (G_pc (pc' := 74) rfl ?_)
            refine G_iload (i := 2) (n := 4) (len := 1) (Or.inl ⟨2, rfl, rfl, d_Mo_request_74⟩) rfl (G_pc (pc' := 75) rfl ?_)
            refine G_if_eq (tgt := 83) d_Mo_request_75 (by decide) (fun h36 => ?_) (fun h36 => G_pc (pc' := 78) rfl ?_)
            · skip
              refine G_iload (i := 2) (n := 4) (len := 1) (Or.inl ⟨2, rfl, rfl, d_Mo_request_83⟩) rfl (G_pc (pc' := 84) rfl ?_)
              refine G_if_ne (tgt := 92) d_Mo_request_84 (by decide) (fun h37 => ?_) (fun h37 => G_pc (pc' := 87) rfl ?_)
              · skip
                refine G_aload (i := 0) (n := 2) (len := 1) (Or.inl ⟨0, rfl, rfl, d_Mo_request_92⟩) rfl (by decide) (G_pc (pc' := 93) rfl ?_)
                refine G_get (o := 55) (c := 9) (k := 23) (v := 73) d_Mo_request_93 fl_Mo_63 rfl (by decide) (by decide) rfl rfl (G_pc (pc' := 96) rfl ?_)
                refine G_iload (i := 1) (n := 3) (len := 1) (Or.inl ⟨1, rfl, rfl, d_Mo_request_96⟩) rfl (G_pc (pc' := 97) rfl ?_)
                refine G_iaload (o := 73) (n := 423) (i := k) (v := M 73 k) d_Mo_request_97 rfl ⟨by decide, by decide⟩ (by omega) (rd_arr rfl) (fun t38 => G_pc (pc' := 98) rfl ?_)
                have t38 := tok_i t38
                refine G_iret d_Mo_request_98 rfl (tokI (by omega)) rfl rfl ?_
                exact ret_e (by unfold reqM sortM whoM partM; grind) rfl
              · skip
                refine G_iload (i := 4) (n := 0) (len := 2) (Or.inr ⟨rfl, d_Mo_request_87⟩) rfl (G_pc (pc' := 89) rfl ?_)
                refine G_goto (tgt := 98) d_Mo_request_89 (by decide) ?_
                refine G_iret d_Mo_request_98 rfl (tokI (by decide)) rfl rfl ?_
                exact ret_e (by unfold reqM sortM whoM partM; grind) rfl
            · skip
              refine G_iload (i := 2) (n := 4) (len := 1) (Or.inl ⟨2, rfl, rfl, d_Mo_request_78⟩) rfl (G_pc (pc' := 79) rfl ?_)
              refine G_iconst (n := 3) d_Mo_request_79 (by decide) (G_pc (pc' := 80) rfl ?_)
              refine G_icmp_ne (tgt := 99) d_Mo_request_80 (by decide) (fun h39 => ?_) (fun h39 => G_pc (pc' := 83) rfl ?_)
              · skip
                refine G_iload (i := 4) (n := 0) (len := 2) (Or.inr ⟨rfl, d_Mo_request_99⟩) rfl (G_pc (pc' := 101) rfl ?_)
                refine G_if_eq (tgt := 110) d_Mo_request_101 (by decide) (fun h40 => absurd h40 (by decide)) (fun h40 => G_pc (pc' := 104) rfl ?_)
                refine G_iload (i := 4) (n := 0) (len := 2) (Or.inr ⟨rfl, d_Mo_request_104⟩) rfl (G_pc (pc' := 106) rfl ?_)
                refine G_iconst (n := 2) d_Mo_request_106 (by decide) (G_pc (pc' := 107) rfl ?_)
                refine G_icmp_le (tgt := 148) d_Mo_request_107 (by decide) (fun h41 => ?_) (fun h41 => absurd h41 (by decide))
                refine G_iload (i := 4) (n := 0) (len := 2) (Or.inr ⟨rfl, d_Mo_request_148⟩) rfl (G_pc (pc' := 150) rfl ?_)
                refine G_iconst (n := 1) d_Mo_request_150 (by decide) (G_pc (pc' := 151) rfl ?_)
                refine G_icmp_ne (tgt := 161) d_Mo_request_151 (by decide) (fun h42 => ?_) (fun h42 => absurd h42 (by decide))
                refine G_iload (i := 3) (n := 1) (len := 1) (Or.inl ⟨3, rfl, rfl, d_Mo_request_161⟩) rfl (G_pc (pc' := 162) rfl ?_)
                refine G_sipush (n := 339) d_Mo_request_162 (by decide) (G_pc (pc' := 165) rfl ?_)
                refine G_isub d_Mo_request_165 (by omega) (G_pc (pc' := 166) rfl ?_)
                refine G_istore (i := 5) (len := 2) (ls' := [(5, vi ((M 72 k) - 339)), (4, vi 2), (3, vi (M 72 k)), (0, vr 55), (1, vi k), (2, vi what)]) (Or.inr ⟨rfl, d_Mo_request_166⟩) (by decide) rfl (G_pc (pc' := 168) rfl ?_)
                refine G_iload (i := 4) (n := 1) (len := 2) (Or.inr ⟨rfl, d_Mo_request_168⟩) rfl (G_pc (pc' := 170) rfl ?_)
                refine G_iconst (n := 1) d_Mo_request_170 (by decide) (G_pc (pc' := 171) rfl ?_)
                refine G_icmp_ne (tgt := 179) d_Mo_request_171 (by decide) (fun h43 => ?_) (fun h43 => absurd h43 (by decide))
                refine G_iconst (n := 5) d_Mo_request_179 (by decide) (G_pc (pc' := 180) rfl ?_)
                refine G_istore (i := 6) (len := 2) (ls' := [(6, vi 5), (5, vi ((M 72 k) - 339)), (4, vi 2), (3, vi (M 72 k)), (0, vr 55), (1, vi k), (2, vi what)]) (Or.inr ⟨rfl, d_Mo_request_180⟩) (by decide) rfl (G_pc (pc' := 182) rfl ?_)
                refine G_iload (i := 2) (n := 6) (len := 1) (Or.inl ⟨2, rfl, rfl, d_Mo_request_182⟩) rfl (G_pc (pc' := 183) rfl ?_)
                refine G_iconst (n := 1) d_Mo_request_183 (by decide) (G_pc (pc' := 184) rfl ?_)
                refine G_icmp_ne (tgt := 197) d_Mo_request_184 (by decide) (fun h44 => ?_) (fun h44 => G_pc (pc' := 187) rfl ?_)
                · skip
                  refine G_iload (i := 5) (n := 1) (len := 2) (Or.inr ⟨rfl, d_Mo_request_197⟩) rfl (G_pc (pc' := 199) rfl ?_)
                  refine G_iload (i := 6) (n := 0) (len := 2) (Or.inr ⟨rfl, d_Mo_request_199⟩) rfl (G_pc (pc' := 201) rfl ?_)
                  refine G_irem d_Mo_request_201 (by decide) (G_pc (pc' := 202) rfl ?_)
                  rw [irem_e (a := ((M 72 k) - 339)) (b := 5) (by omega) (by decide)]
                  refine G_iret d_Mo_request_202 rfl (tokI (by omega)) rfl rfl ?_
                  exact ret_e (by unfold reqM sortM whoM partM; grind) rfl
                · skip
                  refine G_iconst (n := 1) d_Mo_request_187 (by decide) (G_pc (pc' := 188) rfl ?_)
                  refine G_iload (i := 5) (n := 1) (len := 2) (Or.inr ⟨rfl, d_Mo_request_188⟩) rfl (G_pc (pc' := 190) rfl ?_)
                  refine G_iload (i := 6) (n := 0) (len := 2) (Or.inr ⟨rfl, d_Mo_request_190⟩) rfl (G_pc (pc' := 192) rfl ?_)
                  refine G_idiv d_Mo_request_192 (by decide) (G_pc (pc' := 193) rfl ?_)
                  rw [idiv_e (a := ((M 72 k) - 339)) (b := 5) (by omega) (by decide)]
                  refine G_iadd d_Mo_request_193 (by omega) (G_pc (pc' := 194) rfl ?_)
                  refine G_goto (tgt := 202) d_Mo_request_194 (by decide) ?_
                  refine G_iret d_Mo_request_202 rfl (tokI (by omega)) rfl rfl ?_
                  exact ret_e (by unfold reqM sortM whoM partM; grind) rfl
              · skip
                refine G_iload (i := 2) (n := 4) (len := 1) (Or.inl ⟨2, rfl, rfl, d_Mo_request_83⟩) rfl (G_pc (pc' := 84) rfl ?_)
                refine G_if_ne (tgt := 92) d_Mo_request_84 (by decide) (fun h45 => ?_) (fun h45 => G_pc (pc' := 87) rfl ?_)
                · skip
                  refine G_aload (i := 0) (n := 2) (len := 1) (Or.inl ⟨0, rfl, rfl, d_Mo_request_92⟩) rfl (by decide) (G_pc (pc' := 93) rfl ?_)
                  refine G_get (o := 55) (c := 9) (k := 23) (v := 73) d_Mo_request_93 fl_Mo_63 rfl (by decide) (by decide) rfl rfl (G_pc (pc' := 96) rfl ?_)
                  refine G_iload (i := 1) (n := 3) (len := 1) (Or.inl ⟨1, rfl, rfl, d_Mo_request_96⟩) rfl (G_pc (pc' := 97) rfl ?_)
                  refine G_iaload (o := 73) (n := 423) (i := k) (v := M 73 k) d_Mo_request_97 rfl ⟨by decide, by decide⟩ (by omega) (rd_arr rfl) (fun t46 => G_pc (pc' := 98) rfl ?_)
                  have t46 := tok_i t46
                  refine G_iret d_Mo_request_98 rfl (tokI (by omega)) rfl rfl ?_
                  exact ret_e (by unfold reqM sortM whoM partM; grind) rfl
                · skip
                  refine G_iload (i := 4) (n := 0) (len := 2) (Or.inr ⟨rfl, d_Mo_request_87⟩) rfl (G_pc (pc' := 89) rfl ?_)
                  refine G_goto (tgt := 98) d_Mo_request_89 (by decide) ?_
                  refine G_iret d_Mo_request_98 rfl (tokI (by decide)) rfl rfl ?_
                  exact ret_e (by unfold reqM sortM whoM partM; grind) rfl
        · skip
          refine G_iconst (n := 1) d_Mo_request_45 (by decide) (G_pc (pc' := 46) rfl ?_)
          refine G_goto (tgt := 72) d_Mo_request_46 (by decide) ?_
          refine G_istore (i := 4) (len := 2) (ls' := [(4, vi 1), (3, vi (M 72 k)), (0, vr 55), (1, vi k), (2, vi what)]) (Or.inr ⟨rfl, d_Mo_request_72⟩) (by decide) rfl (G_pc (pc' := 74) rfl ?_)
          refine G_iload (i := 2) (n := 4) (len := 1) (Or.inl ⟨2, rfl, rfl, d_Mo_request_74⟩) rfl (G_pc (pc' := 75) rfl ?_)
          refine G_if_eq (tgt := 83) d_Mo_request_75 (by decide) (fun h47 => ?_) (fun h47 => G_pc (pc' := 78) rfl ?_)
          · skip
            refine G_iload (i := 2) (n := 4) (len := 1) (Or.inl ⟨2, rfl, rfl, d_Mo_request_83⟩) rfl (G_pc (pc' := 84) rfl ?_)
            refine G_if_ne (tgt := 92) d_Mo_request_84 (by decide) (fun h48 => ?_) (fun h48 => G_pc (pc' := 87) rfl ?_)
            · skip
              refine G_aload (i := 0) (n := 2) (len := 1) (Or.inl ⟨0, rfl, rfl, d_Mo_request_92⟩) rfl (by decide) (G_pc (pc' := 93) rfl ?_)
              refine G_get (o := 55) (c := 9) (k := 23) (v := 73) d_Mo_request_93 fl_Mo_63 rfl (by decide) (by decide) rfl rfl (G_pc (pc' := 96) rfl ?_)
              refine G_iload (i := 1) (n := 3) (len := 1) (Or.inl ⟨1, rfl, rfl, d_Mo_request_96⟩) rfl (G_pc (pc' := 97) rfl ?_)
              refine G_iaload (o := 73) (n := 423) (i := k) (v := M 73 k) d_Mo_request_97 rfl ⟨by decide, by decide⟩ (by omega) (rd_arr rfl) (fun t49 => G_pc (pc' := 98) rfl ?_)
              have t49 := tok_i t49
              refine G_iret d_Mo_request_98 rfl (tokI (by omega)) rfl rfl ?_
              exact ret_e (by unfold reqM sortM whoM partM; grind) rfl
            · skip
              refine G_iload (i := 4) (n := 0) (len := 2) (Or.inr ⟨rfl, d_Mo_request_87⟩) rfl (G_pc (pc' := 89) rfl ?_)
              refine G_goto (tgt := 98) d_Mo_request_89 (by decide) ?_
              refine G_iret d_Mo_request_98 rfl (tokI (by decide)) rfl rfl ?_
              exact ret_e (by unfold reqM sortM whoM partM; grind) rfl
          · skip
            refine G_iload (i := 2) (n := 4) (len := 1) (Or.inl ⟨2, rfl, rfl, d_Mo_request_78⟩) rfl (G_pc (pc' := 79) rfl ?_)
            refine G_iconst (n := 3) d_Mo_request_79 (by decide) (G_pc (pc' := 80) rfl ?_)
            refine G_icmp_ne (tgt := 99) d_Mo_request_80 (by decide) (fun h50 => ?_) (fun h50 => G_pc (pc' := 83) rfl ?_)
            · skip
              refine G_iload (i := 4) (n := 0) (len := 2) (Or.inr ⟨rfl, d_Mo_request_99⟩) rfl (G_pc (pc' := 101) rfl ?_)
              refine G_if_eq (tgt := 110) d_Mo_request_101 (by decide) (fun h51 => absurd h51 (by decide)) (fun h51 => G_pc (pc' := 104) rfl ?_)
              refine G_iload (i := 4) (n := 0) (len := 2) (Or.inr ⟨rfl, d_Mo_request_104⟩) rfl (G_pc (pc' := 106) rfl ?_)
              refine G_iconst (n := 2) d_Mo_request_106 (by decide) (G_pc (pc' := 107) rfl ?_)
              refine G_icmp_le (tgt := 148) d_Mo_request_107 (by decide) (fun h52 => ?_) (fun h52 => absurd h52 (by decide))
              refine G_iload (i := 4) (n := 0) (len := 2) (Or.inr ⟨rfl, d_Mo_request_148⟩) rfl (G_pc (pc' := 150) rfl ?_)
              refine G_iconst (n := 1) d_Mo_request_150 (by decide) (G_pc (pc' := 151) rfl ?_)
              refine G_icmp_ne (tgt := 161) d_Mo_request_151 (by decide) (fun h53 => absurd h53 (by decide)) (fun h53 => G_pc (pc' := 154) rfl ?_)
              refine G_iload (i := 3) (n := 1) (len := 1) (Or.inl ⟨3, rfl, rfl, d_Mo_request_154⟩) rfl (G_pc (pc' := 155) rfl ?_)
              refine G_bipush (n := 27) d_Mo_request_155 (by decide) (G_pc (pc' := 157) rfl ?_)
              refine G_isub d_Mo_request_157 (by omega) (G_pc (pc' := 158) rfl ?_)
              refine G_goto (tgt := 166) d_Mo_request_158 (by decide) ?_
              refine G_istore (i := 5) (len := 2) (ls' := [(5, vi ((M 72 k) - 27)), (4, vi 1), (3, vi (M 72 k)), (0, vr 55), (1, vi k), (2, vi what)]) (Or.inr ⟨rfl, d_Mo_request_166⟩) (by decide) rfl (G_pc (pc' := 168) rfl ?_)
              refine G_iload (i := 4) (n := 1) (len := 2) (Or.inr ⟨rfl, d_Mo_request_168⟩) rfl (G_pc (pc' := 170) rfl ?_)
              refine G_iconst (n := 1) d_Mo_request_170 (by decide) (G_pc (pc' := 171) rfl ?_)
              refine G_icmp_ne (tgt := 179) d_Mo_request_171 (by decide) (fun h54 => absurd h54 (by decide)) (fun h54 => G_pc (pc' := 174) rfl ?_)
              refine G_bipush (n := 26) d_Mo_request_174 (by decide) (G_pc (pc' := 176) rfl ?_)
              refine G_goto (tgt := 180) d_Mo_request_176 (by decide) ?_
              refine G_istore (i := 6) (len := 2) (ls' := [(6, vi 26), (5, vi ((M 72 k) - 27)), (4, vi 1), (3, vi (M 72 k)), (0, vr 55), (1, vi k), (2, vi what)]) (Or.inr ⟨rfl, d_Mo_request_180⟩) (by decide) rfl (G_pc (pc' := 182) rfl ?_)
              refine G_iload (i := 2) (n := 6) (len := 1) (Or.inl ⟨2, rfl, rfl, d_Mo_request_182⟩) rfl (G_pc (pc' := 183) rfl ?_)
              refine G_iconst (n := 1) d_Mo_request_183 (by decide) (G_pc (pc' := 184) rfl ?_)
              refine G_icmp_ne (tgt := 197) d_Mo_request_184 (by decide) (fun h55 => ?_) (fun h55 => G_pc (pc' := 187) rfl ?_)
              · skip
                refine G_iload (i := 5) (n := 1) (len := 2) (Or.inr ⟨rfl, d_Mo_request_197⟩) rfl (G_pc (pc' := 199) rfl ?_)
                refine G_iload (i := 6) (n := 0) (len := 2) (Or.inr ⟨rfl, d_Mo_request_199⟩) rfl (G_pc (pc' := 201) rfl ?_)
                refine G_irem d_Mo_request_201 (by decide) (G_pc (pc' := 202) rfl ?_)
                rw [irem_e (a := ((M 72 k) - 27)) (b := 26) (by omega) (by decide)]
                refine G_iret d_Mo_request_202 rfl (tokI (by omega)) rfl rfl ?_
                exact ret_e (by unfold reqM sortM whoM partM; grind) rfl
              · skip
                refine G_iconst (n := 1) d_Mo_request_187 (by decide) (G_pc (pc' := 188) rfl ?_)
                refine G_iload (i := 5) (n := 1) (len := 2) (Or.inr ⟨rfl, d_Mo_request_188⟩) rfl (G_pc (pc' := 190) rfl ?_)
                refine G_iload (i := 6) (n := 0) (len := 2) (Or.inr ⟨rfl, d_Mo_request_190⟩) rfl (G_pc (pc' := 192) rfl ?_)
                refine G_idiv d_Mo_request_192 (by decide) (G_pc (pc' := 193) rfl ?_)
                rw [idiv_e (a := ((M 72 k) - 27)) (b := 26) (by omega) (by decide)]
                refine G_iadd d_Mo_request_193 (by omega) (G_pc (pc' := 194) rfl ?_)
                refine G_goto (tgt := 202) d_Mo_request_194 (by decide) ?_
                refine G_iret d_Mo_request_202 rfl (tokI (by omega)) rfl rfl ?_
                exact ret_e (by unfold reqM sortM whoM partM; grind) rfl
            · skip
              refine G_iload (i := 2) (n := 4) (len := 1) (Or.inl ⟨2, rfl, rfl, d_Mo_request_83⟩) rfl (G_pc (pc' := 84) rfl ?_)
              refine G_if_ne (tgt := 92) d_Mo_request_84 (by decide) (fun h56 => ?_) (fun h56 => G_pc (pc' := 87) rfl ?_)
              · skip
                refine G_aload (i := 0) (n := 2) (len := 1) (Or.inl ⟨0, rfl, rfl, d_Mo_request_92⟩) rfl (by decide) (G_pc (pc' := 93) rfl ?_)
                refine G_get (o := 55) (c := 9) (k := 23) (v := 73) d_Mo_request_93 fl_Mo_63 rfl (by decide) (by decide) rfl rfl (G_pc (pc' := 96) rfl ?_)
                refine G_iload (i := 1) (n := 3) (len := 1) (Or.inl ⟨1, rfl, rfl, d_Mo_request_96⟩) rfl (G_pc (pc' := 97) rfl ?_)
                refine G_iaload (o := 73) (n := 423) (i := k) (v := M 73 k) d_Mo_request_97 rfl ⟨by decide, by decide⟩ (by omega) (rd_arr rfl) (fun t57 => G_pc (pc' := 98) rfl ?_)
                have t57 := tok_i t57
                refine G_iret d_Mo_request_98 rfl (tokI (by omega)) rfl rfl ?_
                exact ret_e (by unfold reqM sortM whoM partM; grind) rfl
              · skip
                refine G_iload (i := 4) (n := 0) (len := 2) (Or.inr ⟨rfl, d_Mo_request_87⟩) rfl (G_pc (pc' := 89) rfl ?_)
                refine G_goto (tgt := 98) d_Mo_request_89 (by decide) ?_
                refine G_iret d_Mo_request_98 rfl (tokI (by decide)) rfl rfl ?_
                exact ret_e (by unfold reqM sortM whoM partM; grind) rfl
      · skip
        refine G_iconst (n := 0) d_Mo_request_34 (by decide) (G_pc (pc' := 35) rfl ?_)
        refine G_goto (tgt := 72) d_Mo_request_35 (by decide) ?_
        refine G_istore (i := 4) (len := 2) (ls' := [(4, vi 0), (3, vi (M 72 k)), (0, vr 55), (1, vi k), (2, vi what)]) (Or.inr ⟨rfl, d_Mo_request_72⟩) (by decide) rfl (G_pc (pc' := 74) rfl ?_)
        refine G_iload (i := 2) (n := 4) (len := 1) (Or.inl ⟨2, rfl, rfl, d_Mo_request_74⟩) rfl (G_pc (pc' := 75) rfl ?_)
        refine G_if_eq (tgt := 83) d_Mo_request_75 (by decide) (fun h58 => ?_) (fun h58 => G_pc (pc' := 78) rfl ?_)
        · skip
          refine G_iload (i := 2) (n := 4) (len := 1) (Or.inl ⟨2, rfl, rfl, d_Mo_request_83⟩) rfl (G_pc (pc' := 84) rfl ?_)
          refine G_if_ne (tgt := 92) d_Mo_request_84 (by decide) (fun h59 => ?_) (fun h59 => G_pc (pc' := 87) rfl ?_)
          · skip
            refine G_aload (i := 0) (n := 2) (len := 1) (Or.inl ⟨0, rfl, rfl, d_Mo_request_92⟩) rfl (by decide) (G_pc (pc' := 93) rfl ?_)
            refine G_get (o := 55) (c := 9) (k := 23) (v := 73) d_Mo_request_93 fl_Mo_63 rfl (by decide) (by decide) rfl rfl (G_pc (pc' := 96) rfl ?_)
            refine G_iload (i := 1) (n := 3) (len := 1) (Or.inl ⟨1, rfl, rfl, d_Mo_request_96⟩) rfl (G_pc (pc' := 97) rfl ?_)
            refine G_iaload (o := 73) (n := 423) (i := k) (v := M 73 k) d_Mo_request_97 rfl ⟨by decide, by decide⟩ (by omega) (rd_arr rfl) (fun t60 => G_pc (pc' := 98) rfl ?_)
            have t60 := tok_i t60
            refine G_iret d_Mo_request_98 rfl (tokI (by omega)) rfl rfl ?_
            exact ret_e (by unfold reqM sortM whoM partM; grind) rfl
          · skip
            refine G_iload (i := 4) (n := 0) (len := 2) (Or.inr ⟨rfl, d_Mo_request_87⟩) rfl (G_pc (pc' := 89) rfl ?_)
            refine G_goto (tgt := 98) d_Mo_request_89 (by decide) ?_
            refine G_iret d_Mo_request_98 rfl (tokI (by decide)) rfl rfl ?_
            exact ret_e (by unfold reqM sortM whoM partM; grind) rfl
        · skip
          refine G_iload (i := 2) (n := 4) (len := 1) (Or.inl ⟨2, rfl, rfl, d_Mo_request_78⟩) rfl (G_pc (pc' := 79) rfl ?_)
          refine G_iconst (n := 3) d_Mo_request_79 (by decide) (G_pc (pc' := 80) rfl ?_)
          refine G_icmp_ne (tgt := 99) d_Mo_request_80 (by decide) (fun h61 => ?_) (fun h61 => G_pc (pc' := 83) rfl ?_)
          · skip
            refine G_iload (i := 4) (n := 0) (len := 2) (Or.inr ⟨rfl, d_Mo_request_99⟩) rfl (G_pc (pc' := 101) rfl ?_)
            refine G_if_eq (tgt := 110) d_Mo_request_101 (by decide) (fun h62 => ?_) (fun h62 => absurd h62 (by decide))
            refine G_iload (i := 2) (n := 4) (len := 1) (Or.inl ⟨2, rfl, rfl, d_Mo_request_110⟩) rfl (G_pc (pc' := 111) rfl ?_)
            refine G_iconst (n := 2) d_Mo_request_111 (by decide) (G_pc (pc' := 112) rfl ?_)
            refine G_icmp_ne (tgt := 119) d_Mo_request_112 (by decide) (fun h63 => ?_) (fun h63 => G_pc (pc' := 115) rfl ?_)
            · skip
              refine G_iload (i := 4) (n := 0) (len := 2) (Or.inr ⟨rfl, d_Mo_request_119⟩) rfl (G_pc (pc' := 121) rfl ?_)
              refine G_if_ne (tgt := 128) d_Mo_request_121 (by decide) (fun h64 => absurd h64 (by decide)) (fun h64 => G_pc (pc' := 124) rfl ?_)
              refine G_iload (i := 3) (n := 1) (len := 1) (Or.inl ⟨3, rfl, rfl, d_Mo_request_124⟩) rfl (G_pc (pc' := 125) rfl ?_)
              refine G_goto (tgt := 147) d_Mo_request_125 (by decide) ?_
              refine G_iret d_Mo_request_147 rfl (tokI (by omega)) rfl rfl ?_
              exact ret_e (by unfold reqM sortM whoM partM; grind) rfl
            · skip
              refine G_iconst (n := 0) d_Mo_request_115 (by decide) (G_pc (pc' := 116) rfl ?_)
              refine G_goto (tgt := 147) d_Mo_request_116 (by decide) ?_
              refine G_iret d_Mo_request_147 rfl (tokI (by decide)) rfl rfl ?_
              exact ret_e (by unfold reqM sortM whoM partM; grind) rfl
          · skip
            refine G_iload (i := 2) (n := 4) (len := 1) (Or.inl ⟨2, rfl, rfl, d_Mo_request_83⟩) rfl (G_pc (pc' := 84) rfl ?_)
            refine G_if_ne (tgt := 92) d_Mo_request_84 (by decide) (fun h65 => ?_) (fun h65 => G_pc (pc' := 87) rfl ?_)
            · skip
              refine G_aload (i := 0) (n := 2) (len := 1) (Or.inl ⟨0, rfl, rfl, d_Mo_request_92⟩) rfl (by decide) (G_pc (pc' := 93) rfl ?_)
              refine G_get (o := 55) (c := 9) (k := 23) (v := 73) d_Mo_request_93 fl_Mo_63 rfl (by decide) (by decide) rfl rfl (G_pc (pc' := 96) rfl ?_)
              refine G_iload (i := 1) (n := 3) (len := 1) (Or.inl ⟨1, rfl, rfl, d_Mo_request_96⟩) rfl (G_pc (pc' := 97) rfl ?_)
              refine G_iaload (o := 73) (n := 423) (i := k) (v := M 73 k) d_Mo_request_97 rfl ⟨by decide, by decide⟩ (by omega) (rd_arr rfl) (fun t66 => G_pc (pc' := 98) rfl ?_)
              have t66 := tok_i t66
              refine G_iret d_Mo_request_98 rfl (tokI (by omega)) rfl rfl ?_
              exact ret_e (by unfold reqM sortM whoM partM; grind) rfl
            · skip
              refine G_iload (i := 4) (n := 0) (len := 2) (Or.inr ⟨rfl, d_Mo_request_87⟩) rfl (G_pc (pc' := 89) rfl ?_)
              refine G_goto (tgt := 98) d_Mo_request_89 (by decide) ?_
              refine G_iret d_Mo_request_98 rfl (tokI (by decide)) rfl rfl ?_
              exact ret_e (by unfold reqM sortM whoM partM; grind) rfl
    · skip
      replace h8 := b2i_0.mp h8
      replace h8 := inB_f.mp h8
      refine G_iconst (n := (-1)) d_Mo_request_19 (by decide) (G_pc (pc' := 20) rfl ?_)
      refine G_iret d_Mo_request_20 rfl (tokI (by decide)) rfl rfl ?_
      exact ret_e (by unfold reqM sortM whoM partM; grind) rfl

theorem wbit {M : Mem} {p e : Int} (he : 0 ≤ e ∧ e < 4) : o_iand (o_ishr (waitM M p) e) 1 = wb M p e := by
  rw [bit_e (waitM_rng M p) he]
  obtain ⟨h1, h2, h3, h4⟩ := bits_of (wb_rng M p 0) (wb_rng M p 1) (wb_rng M p 2) (wb_rng M p 3)
  rcases (show e = 0 ∨ e = 1 ∨ e = 2 ∨ e = 3 by omega) with rfl | rfl | rfl | rfl
  · simpa [waitM] using h1
  · simpa [waitM] using h2
  · simpa [waitM] using h3
  · simpa [waitM] using h4
def markM (M0 M : Mem) (p to n : Int) : Mem := fun c i => if c = 66 ∧ 0 ≤ i ∧ i < n ∧ wb M0 p i = 1 then to else M c i
theorem markM_0 {M0 M : Mem} {p to : Int} : markM M0 M p to 0 = M := by
  funext c i; unfold markM; rw [if_neg (by omega)]
theorem markM_at {M0 M : Mem} {p to n : Int} : markM M0 M p to n 66 n = M 66 n := by
  unfold markM; rw [if_neg (by omega)]
theorem markM_t {M0 M : Mem} {p to n : Int} (h : 0 ≤ n) (h2 : wb M0 p n = 1) : mset (markM M0 M p to n) 66 n to = markM M0 M p to (n + 1) := by
  funext c i; unfold markM mset; grind
theorem markM_f {M0 M : Mem} {p to n x : Int} (h : 0 ≤ n) (h2 : wb M0 p n ≠ 1) (hx : x = M 66 n) : mset (markM M0 M p to n) 66 n x = markM M0 M p to (n + 1) := by
  funext c i; unfold markM mset; grind
def refuseM (M : Mem) (k : Int) : Mem := markM (takeOutM M k) (takeOutM M k) (M 72 k) 6 4
theorem d_Mo_refuse_0 : decode b_Mo_refuse 0 = .ok (.iload_n 1, 1) := by decide +kernel
theorem d_Mo_refuse_1 : decode b_Mo_refuse 1 = .ok (.aload_n 0, 1) := by decide +kernel
theorem d_Mo_refuse_2 : decode b_Mo_refuse 2 = .ok (.getfield 150, 3) := by decide +kernel
theorem d_Mo_refuse_5 : decode b_Mo_refuse 5 = .ok (.invokestatic 105, 3) := by decide +kernel
theorem d_Mo_refuse_8 : decode b_Mo_refuse 8 = .ok (.ifCond .ne 5, 3) := by decide +kernel
theorem d_Mo_refuse_11 : decode b_Mo_refuse 11 = .ok (.iconst (-1), 1) := by decide +kernel
theorem d_Mo_refuse_12 : decode b_Mo_refuse 12 = .ok (.ireturn, 1) := by decide +kernel
theorem d_Mo_refuse_13 : decode b_Mo_refuse 13 = .ok (.aload_n 0, 1) := by decide +kernel
theorem d_Mo_refuse_14 : decode b_Mo_refuse 14 = .ok (.iload_n 1, 1) := by decide +kernel
theorem d_Mo_refuse_15 : decode b_Mo_refuse 15 = .ok (.invokevirtual 328, 3) := by decide +kernel
theorem d_Mo_refuse_18 : decode b_Mo_refuse 18 = .ok (.istore_n 2, 1) := by decide +kernel
theorem d_Mo_refuse_19 : decode b_Mo_refuse 19 = .ok (.aload_n 0, 1) := by decide +kernel
theorem d_Mo_refuse_20 : decode b_Mo_refuse 20 = .ok (.iload_n 2, 1) := by decide +kernel
theorem d_Mo_refuse_21 : decode b_Mo_refuse 21 = .ok (.invokevirtual 331, 3) := by decide +kernel
theorem d_Mo_refuse_24 : decode b_Mo_refuse 24 = .ok (.istore_n 3, 1) := by decide +kernel
theorem d_Mo_refuse_25 : decode b_Mo_refuse 25 = .ok (.iconst 0, 1) := by decide +kernel
theorem d_Mo_refuse_26 : decode b_Mo_refuse 26 = .ok (.istore 4, 2) := by decide +kernel
theorem d_Mo_refuse_28 : decode b_Mo_refuse 28 = .ok (.iload 4, 2) := by decide +kernel
theorem d_Mo_refuse_30 : decode b_Mo_refuse 30 = .ok (.iconst 4, 1) := by decide +kernel
theorem d_Mo_refuse_31 : decode b_Mo_refuse 31 = .ok (.if_icmp .ge 38, 3) := by decide +kernel
theorem d_Mo_refuse_34 : decode b_Mo_refuse 34 = .ok (.aload_n 0, 1) := by decide +kernel
theorem d_Mo_refuse_35 : decode b_Mo_refuse 35 = .ok (.getfield 42, 3) := by decide +kernel
theorem d_Mo_refuse_38 : decode b_Mo_refuse 38 = .ok (.iload 4, 2) := by decide +kernel
theorem d_Mo_refuse_40 : decode b_Mo_refuse 40 = .ok (.iload_n 3, 1) := by decide +kernel
theorem d_Mo_refuse_41 : decode b_Mo_refuse 41 = .ok (.iload 4, 2) := by decide +kernel
theorem d_Mo_refuse_43 : decode b_Mo_refuse 43 = .ok (.ishr, 1) := by decide +kernel
theorem d_Mo_refuse_44 : decode b_Mo_refuse 44 = .ok (.iconst 1, 1) := by decide +kernel
theorem d_Mo_refuse_45 : decode b_Mo_refuse 45 = .ok (.iand, 1) := by decide +kernel
theorem d_Mo_refuse_46 : decode b_Mo_refuse 46 = .ok (.iconst 1, 1) := by decide +kernel
theorem d_Mo_refuse_47 : decode b_Mo_refuse 47 = .ok (.if_icmp .ne 8, 3) := by decide +kernel
theorem d_Mo_refuse_50 : decode b_Mo_refuse 50 = .ok (.bipush 6, 2) := by decide +kernel
theorem d_Mo_refuse_52 : decode b_Mo_refuse 52 = .ok (.goto 10, 3) := by decide +kernel
theorem d_Mo_refuse_55 : decode b_Mo_refuse 55 = .ok (.aload_n 0, 1) := by decide +kernel
theorem d_Mo_refuse_56 : decode b_Mo_refuse 56 = .ok (.getfield 42, 3) := by decide +kernel
theorem d_Mo_refuse_59 : decode b_Mo_refuse 59 = .ok (.iload 4, 2) := by decide +kernel
theorem d_Mo_refuse_61 : decode b_Mo_refuse 61 = .ok (.iaload, 1) := by decide +kernel
theorem d_Mo_refuse_62 : decode b_Mo_refuse 62 = .ok (.iastore, 1) := by decide +kernel
theorem d_Mo_refuse_63 : decode b_Mo_refuse 63 = .ok (.iinc 4 1, 3) := by decide +kernel
theorem d_Mo_refuse_66 : decode b_Mo_refuse 66 = .ok (.goto (-38), 3) := by decide +kernel
theorem d_Mo_refuse_69 : decode b_Mo_refuse 69 = .ok (.iload_n 3, 1) := by decide +kernel
theorem d_Mo_refuse_70 : decode b_Mo_refuse 70 = .ok (.invokestatic 334, 3) := by decide +kernel
theorem d_Mo_refuse_73 : decode b_Mo_refuse 73 = .ok (.ireturn, 1) := by decide +kernel
theorem g_Mo_refuse {X : WX} {d : Nat} (hd : 1 ≤ d) (k : Int) (M : Mem) (hR : 0 ≤ M 55 21 ∧ M 55 21 ≤ 400) : MG X gt d KE KE y_Mo_refuse b_Mo_refuse 5 (some .int) [vr 55, vi k] M (fun r M' => ((0 ≤ k ∧ k < M 55 21) → r = some (vi (onesM (waitM (takeOutM M k) (M 72 k)))) ∧ M' = refuseM M k) ∧ (¬ (0 ≤ k ∧ k < M 55 21) → r = some (vi (-1)) ∧ M' = M)) := by
  refine MG_of_G (by decide) (Nat.le_of_ble_eq_true rfl) (Nat.le_refl _) (by decide) ?_
  show G X gt d KE KE y_Mo_refuse b_Mo_refuse 5 (some .int) _ 0 [(0, vr 55), (1, vi k)] [] KE M
  refine G_rngl (i := 1) rfl (fun hr1 => ?_)
  have loop : ∀ (n : Nat) (e : Int), e + n = 4 → 0 ≤ e → (0 ≤ k ∧ k < M 55 21) → G X gt d KE KE y_Mo_refuse b_Mo_refuse 5 (some .int) (fun r M' => ((0 ≤ k ∧ k < M 55 21) → r = some (vi (onesM (waitM (takeOutM M k) (M 72 k)))) ∧ M' = refuseM M k) ∧ (¬ (0 ≤ k ∧ k < M 55 21) → r = some (vi (-1)) ∧ M' = M)) 28 [(4, vi e), (3, vi (waitM (takeOutM M k) (M 72 k))), (2, vi (M 72 k)), (0, vr 55), (1, vi k)] [] KE (markM (takeOutM M k) (takeOutM M k) (M 72 k) 6 e) := by
    intro n
    induction n with
    | zero =>
      intro e h1 h2 hk
      refine G_iload (i := 4) (n := 0) (len := 2) (Or.inr ⟨rfl, d_Mo_refuse_28⟩) rfl (G_pc (pc' := 30) rfl ?_)
      refine G_iconst (n := 4) d_Mo_refuse_30 (by decide) (G_pc (pc' := 31) rfl ?_)
      refine G_icmp_ge (tgt := 69) d_Mo_refuse_31 (by decide) (fun h2501 => ?_) (fun h2501 => absurd h2501 (by omega))
      refine G_iload (i := 3) (n := 1) (len := 1) (Or.inl ⟨3, rfl, rfl, d_Mo_refuse_69⟩) rfl (G_pc (pc' := 70) rfl ?_)
      refine G_callS (K1 := KE) (d2 := 0) (as := [vi (waitM (takeOutM M k) (M 72 k))]) (rest := []) d_Mo_refuse_70 mf_Mo_ones ml_Mo_334 rfl rfl (by decide) (by omega) ⟨Nat.le_refl _, Nat.le_refl _⟩ (g_Mo_ones (by omega) (waitM (takeOutM M k) (M 72 k)) _ (waitM_rng _ _)) (fun r2502 M2503 kq2504 q2504 => ?_)
      clear kq2504; obtain ⟨q2504a, q2504b⟩ := q2504; subst r2502; subst M2503
      refine G_ps (pc' := 73) (st' := [vi (onesM (waitM (takeOutM M k) (M 72 k)))]) rfl rfl ?_
      refine G_iret d_Mo_refuse_73 rfl (tokI (by unfold onesM; omega)) rfl rfl ?_
      exact ⟨fun _ => ⟨rfl, by unfold refuseM; rw [show (4 : Int) = e by omega]⟩, fun h => absurd hk h⟩
    | succ n ih =>
      intro e h1 h2 hk
      refine G_iload (i := 4) (n := 0) (len := 2) (Or.inr ⟨rfl, d_Mo_refuse_28⟩) rfl (G_pc (pc' := 30) rfl ?_)
      refine G_iconst (n := 4) d_Mo_refuse_30 (by decide) (G_pc (pc' := 31) rfl ?_)
      refine G_icmp_ge (tgt := 69) d_Mo_refuse_31 (by decide) (fun h2601 => absurd h2601 (by omega)) (fun h2601 => G_pc (pc' := 34) rfl ?_)
      refine G_aload (i := 0) (n := 3) (len := 1) (Or.inl ⟨0, rfl, rfl, d_Mo_refuse_34⟩) rfl (by decide) (G_pc (pc' := 35) rfl ?_)
      refine G_get (o := 55) (c := 9) (k := 15) (v := 66) d_Mo_refuse_35 fl_Mo_42 rfl (by decide) (by decide) rfl rfl (G_pc (pc' := 38) rfl ?_)
      refine G_iload (i := 4) (n := 0) (len := 2) (Or.inr ⟨rfl, d_Mo_refuse_38⟩) rfl (G_pc (pc' := 40) rfl ?_)
      refine G_iload (i := 3) (n := 1) (len := 1) (Or.inl ⟨3, rfl, rfl, d_Mo_refuse_40⟩) rfl (G_pc (pc' := 41) rfl ?_)
      refine G_iload (i := 4) (n := 0) (len := 2) (Or.inr ⟨rfl, d_Mo_refuse_41⟩) rfl (G_pc (pc' := 43) rfl ?_)
      refine G_ishr d_Mo_refuse_43 (G_pc (pc' := 44) rfl ?_)
      refine G_iconst (n := 1) d_Mo_refuse_44 (by decide) (G_pc (pc' := 45) rfl ?_)
      refine G_iand d_Mo_refuse_45 (G_pc (pc' := 46) rfl ?_)
      rw [wbit (by omega)]
      refine G_iconst (n := 1) d_Mo_refuse_46 (by decide) (G_pc (pc' := 47) rfl ?_)
      refine G_icmp_ne (tgt := 55) d_Mo_refuse_47 (by decide) (fun h2602 => ?_) (fun h2602 => G_pc (pc' := 50) rfl ?_)
      · skip
        refine G_aload (i := 0) (n := 3) (len := 1) (Or.inl ⟨0, rfl, rfl, d_Mo_refuse_55⟩) rfl (by decide) (G_pc (pc' := 56) rfl ?_)
        refine G_get (o := 55) (c := 9) (k := 15) (v := 66) d_Mo_refuse_56 fl_Mo_42 rfl (by decide) (by decide) rfl rfl (G_pc (pc' := 59) rfl ?_)
        refine G_iload (i := 4) (n := 0) (len := 2) (Or.inr ⟨rfl, d_Mo_refuse_59⟩) rfl (G_pc (pc' := 61) rfl ?_)
        refine G_iaload (o := 66) (n := 4) (i := e) (v := (markM (takeOutM M k) (takeOutM M k) (M 72 k) 6 e) 66 e) d_Mo_refuse_61 rfl ⟨by decide, by decide⟩ (by omega) (rd_arr rfl) (fun t2603 => G_pc (pc' := 62) rfl ?_)
        have t2603 := tok_i t2603
        refine G_iastore (o := 66) (n := 4) (i := e) (x := (markM (takeOutM M k) (takeOutM M k) (M 72 k) 6 e) 66 e) d_Mo_refuse_62 rfl ⟨by decide, by decide⟩ (by decide) (gt_arr rfl _) (by omega) (tokI (by omega)) (G_pc (pc' := 63) rfl ?_)
        refine G_iinc (i := 4) (n := 0) (z := 1) (ls' := [(4, vi (e + 1)), (3, vi (waitM (takeOutM M k) (M 72 k))), (2, vi (M 72 k)), (0, vr 55), (1, vi k)]) d_Mo_refuse_63 rfl (by decide) (by omega) rfl (G_pc (pc' := 66) rfl ?_)
        refine G_goto (tgt := 28) d_Mo_refuse_66 (by decide) ?_
        rw [markM_f (by omega) (by omega) markM_at]
        exact ih (e + 1) (by omega) (by omega) hk
      · skip
        refine G_bipush (n := 6) d_Mo_refuse_50 (by decide) (G_pc (pc' := 52) rfl ?_)
        refine G_goto (tgt := 62) d_Mo_refuse_52 (by decide) ?_
        refine G_iastore (o := 66) (n := 4) (i := e) (x := 6) d_Mo_refuse_62 rfl ⟨by decide, by decide⟩ (by decide) (gt_arr rfl _) (by omega) (tokI (by decide)) (G_pc (pc' := 63) rfl ?_)
        refine G_iinc (i := 4) (n := 0) (z := 1) (ls' := [(4, vi (e + 1)), (3, vi (waitM (takeOutM M k) (M 72 k))), (2, vi (M 72 k)), (0, vr 55), (1, vi k)]) d_Mo_refuse_63 rfl (by decide) (by omega) rfl (G_pc (pc' := 66) rfl ?_)
        refine G_goto (tgt := 28) d_Mo_refuse_66 (by decide) ?_
        rw [markM_t (by omega) (by omega)]
        exact ih (e + 1) (by omega) (by omega) hk
  refine G_iload (i := 1) (n := 1) (len := 1) (Or.inl ⟨1, rfl, rfl, d_Mo_refuse_0⟩) rfl (G_pc (pc' := 1) rfl ?_)
  refine G_aload (i := 0) (n := 0) (len := 1) (Or.inl ⟨0, rfl, rfl, d_Mo_refuse_1⟩) rfl (by decide) (G_pc (pc' := 2) rfl ?_)
  refine G_get (o := 55) (c := 9) (k := 21) (v := M 55 21) d_Mo_refuse_2 fl_Mo_150 rfl (by decide) (by decide) rfl rfl (G_pc (pc' := 5) rfl ?_)
  refine G_callS (K1 := KE) (d2 := 0) (as := [vi k, vi (M 55 21)]) (rest := []) d_Mo_refuse_5 mf_Mo_in ml_Mo_105 rfl rfl (by decide) (by omega) ⟨Nat.le_refl _, Nat.le_refl _⟩ (g_Mo_in (by omega) k (M 55 21) _) (fun r1 M2 kq3 q3 => ?_)
  clear kq3; obtain ⟨q3a, q3b⟩ := q3; subst r1; subst M2
  refine G_ps (pc' := 8) (st' := [vi (b2i (inB k (M 55 21)))]) rfl rfl ?_
  refine G_if_ne (tgt := 13) d_Mo_refuse_8 (by decide) (fun h4 => ?_) (fun h4 => G_pc (pc' := 11) rfl ?_)
  · skip
    replace h4 := b2i_nz.mp h4
    replace h4 := inB_t.mp h4
    refine G_aload (i := 0) (n := 0) (len := 1) (Or.inl ⟨0, rfl, rfl, d_Mo_refuse_13⟩) rfl (by decide) (G_pc (pc' := 14) rfl ?_)
    refine G_iload (i := 1) (n := 1) (len := 1) (Or.inl ⟨1, rfl, rfl, d_Mo_refuse_14⟩) rfl (G_pc (pc' := 15) rfl ?_)
    refine G_callV (K1 := KE) (d2 := 0) (o := 55) (cl := 9) (as := [vi k]) (rest := []) d_Mo_refuse_15 mf_Mo_takeOut ml_Mo_328 rfl rfl (by decide) rfl rfl (by decide) (by omega) ⟨Nat.le_refl _, Nat.le_refl _⟩ (g_Mo_takeOut (by omega) k _ hR (by assumption)) (fun r5 M6 kq7 q7 => ?_)
    clear kq7; obtain ⟨q7a, q7b⟩ := q7; subst r5; subst M6
    refine G_ps (pc' := 18) (st' := [vi (M 72 k)]) rfl rfl ?_
    refine G_istore (i := 2) (len := 1) (ls' := [(2, vi (M 72 k)), (0, vr 55), (1, vi k)]) (Or.inl ⟨2, rfl, rfl, d_Mo_refuse_18⟩) (by decide) rfl (G_pc (pc' := 19) rfl ?_)
    refine G_aload (i := 0) (n := 1) (len := 1) (Or.inl ⟨0, rfl, rfl, d_Mo_refuse_19⟩) rfl (by decide) (G_pc (pc' := 20) rfl ?_)
    refine G_iload (i := 2) (n := 0) (len := 1) (Or.inl ⟨2, rfl, rfl, d_Mo_refuse_20⟩) rfl (G_pc (pc' := 21) rfl ?_)
    refine G_callV (K1 := KE) (d2 := 0) (o := 55) (cl := 9) (as := [vi (M 72 k)]) (rest := []) d_Mo_refuse_21 mf_Mo_waiting ml_Mo_331 rfl rfl (by decide) rfl rfl (by decide) (by omega) ⟨Nat.le_refl _, Nat.le_refl _⟩ (g_Mo_waiting (by omega) (M 72 k) _) (fun r8 M9 kq10 q10 => ?_)
    clear kq10; obtain ⟨q10a, q10b⟩ := q10; subst r8; subst M9
    refine G_ps (pc' := 24) (st' := [vi (waitM (takeOutM M k) (M 72 k))]) rfl rfl ?_
    refine G_istore (i := 3) (len := 1) (ls' := [(3, vi (waitM (takeOutM M k) (M 72 k))), (2, vi (M 72 k)), (0, vr 55), (1, vi k)]) (Or.inl ⟨3, rfl, rfl, d_Mo_refuse_24⟩) (by decide) rfl (G_pc (pc' := 25) rfl ?_)
    refine G_iconst (n := 0) d_Mo_refuse_25 (by decide) (G_pc (pc' := 26) rfl ?_)
    refine G_istore (i := 4) (len := 2) (ls' := [(4, vi 0), (3, vi (waitM (takeOutM M k) (M 72 k))), (2, vi (M 72 k)), (0, vr 55), (1, vi k)]) (Or.inr ⟨rfl, d_Mo_refuse_26⟩) (by decide) rfl (G_pc (pc' := 28) rfl ?_)
    have h9 := loop 4 0 (by omega) (by omega) (by assumption)
    rw [markM_0] at h9
    exact h9
  · skip
    replace h4 := b2i_0.mp h4
    replace h4 := inB_f.mp h4
    refine G_iconst (n := (-1)) d_Mo_refuse_11 (by decide) (G_pc (pc' := 12) rfl ?_)
    refine G_iret d_Mo_refuse_12 rfl (tokI (by decide)) rfl rfl ?_
    exact ⟨fun h => absurd h (by assumption), fun _ => ⟨rfl, rfl⟩⟩

