theorem gx_De_look {X : WX} {d : Nat} (hd : 1 ≤ d) (z : Int) (w : Int) (M : Mem) (hx : ¬ (0 ≤ z ∧ z < 4)) : MG X gt d KE KE y_De_look b_De_look 3 (some .int) [vr 1, vi z, vi w] M (fun r M' => r = some (vi (-1)) ∧ M' = M) := by
  refine MG_of_G (by decide) (Nat.le_of_ble_eq_true rfl) (Nat.le_refl _) (by decide) ?_
  show G X gt d KE KE y_De_look b_De_look 3 (some .int) _ 0 [(0, vr 1), (1, vi z), (2, vi w)] [] KE M
  refine G_rngl (i := 1) rfl (fun hr1 => ?_)
  refine G_rngl (i := 2) rfl (fun hr2 => ?_)
  refine G_iload (i := 1) (n := 1) (len := 1) (Or.inl ⟨1, rfl, rfl, d_De_look_0⟩) rfl (G_pc (pc' := 1) rfl ?_)
  refine G_callS (K1 := KE) (d2 := 0) (as := [vi z]) (rest := []) d_De_look_1 mf_De_isEvaluation ml_De_81 rfl rfl (Nat.le_of_ble_eq_true rfl) (by omega) ⟨Nat.le_refl _, Nat.le_refl _⟩ (g_De_isEvaluation (by omega) z _) (fun r1 M2 kq3 q3 => ?_)
  clear kq3; obtain ⟨q3a, q3b⟩ := q3; subst r1; subst M2
  refine G_ps (pc' := 4) (st' := [vi (b2i (decide (0 ≤ z ∧ z < 4)))]) rfl rfl ?_
  refine G_if_ne (tgt := 9) d_De_look_4 (by decide) (fun h4 => ?_) (fun h4 => G_pc (pc' := 7) rfl ?_)
  · skip
    replace h4 := b2i_nz.mp h4
    replace h4 := of_decide_eq_true h4
    refine G_iload (i := 2) (n := 2) (len := 1) (Or.inl ⟨2, rfl, rfl, d_De_look_9⟩) rfl (G_pc (pc' := 10) rfl ?_)
    by_cases h5 : w = 0
    · skip
      have e6o : (#[26, 36, 46] : Array Int)[(w - 0).toNat]? = some 26 := by rw [h5]; rfl
      refine G_tableIn (off := 26) (tgt := 36) d_De_look_10 (by omega) e6o (by decide) ?_
      refine G_aload (i := 0) (n := 0) (len := 1) (Or.inl ⟨0, rfl, rfl, d_De_look_36⟩) rfl (by decide) (G_pc (pc' := 37) rfl ?_)
      refine G_get (o := 1) (c := 8) (k := 2) (v := 2) d_De_look_37 fl_De_11 rfl (by decide) (by decide) rfl rfl (G_pc (pc' := 40) rfl ?_)
      refine G_iload (i := 1) (n := 1) (len := 1) (Or.inl ⟨1, rfl, rfl, d_De_look_40⟩) rfl (G_pc (pc' := 41) rfl ?_)
      exfalso; omega
    by_cases h5 : w = 1
    · skip
      have e7o : (#[26, 36, 46] : Array Int)[(w - 0).toNat]? = some 36 := by rw [h5]; rfl
      refine G_tableIn (off := 36) (tgt := 46) d_De_look_10 (by omega) e7o (by decide) ?_
      refine G_aload (i := 0) (n := 0) (len := 1) (Or.inl ⟨0, rfl, rfl, d_De_look_46⟩) rfl (by decide) (G_pc (pc' := 47) rfl ?_)
      refine G_get (o := 1) (c := 8) (k := 2) (v := 2) d_De_look_47 fl_De_11 rfl (by decide) (by decide) rfl rfl (G_pc (pc' := 50) rfl ?_)
      refine G_iload (i := 1) (n := 1) (len := 1) (Or.inl ⟨1, rfl, rfl, d_De_look_50⟩) rfl (G_pc (pc' := 51) rfl ?_)
      exfalso; omega
    by_cases h5 : w = 2
    · skip
      have e8o : (#[26, 36, 46] : Array Int)[(w - 0).toNat]? = some 46 := by rw [h5]; rfl
      refine G_tableIn (off := 46) (tgt := 56) d_De_look_10 (by omega) e8o (by decide) ?_
      refine G_aload (i := 0) (n := 0) (len := 1) (Or.inl ⟨0, rfl, rfl, d_De_look_56⟩) rfl (by decide) (G_pc (pc' := 57) rfl ?_)
      refine G_get (o := 1) (c := 8) (k := 2) (v := 2) d_De_look_57 fl_De_11 rfl (by decide) (by decide) rfl rfl (G_pc (pc' := 60) rfl ?_)
      refine G_iload (i := 1) (n := 1) (len := 1) (Or.inl ⟨1, rfl, rfl, d_De_look_60⟩) rfl (G_pc (pc' := 61) rfl ?_)
      exfalso; omega
    refine G_tableOut (tgt := 66) d_De_look_10 (by omega) (by decide) ?_
    refine G_iconst (n := (-1)) d_De_look_66 (by decide) (G_pc (pc' := 67) rfl ?_)
    refine G_iret d_De_look_67 rfl (tokI (by decide)) rfl rfl ?_
    first | (exfalso; omega) | exact ret_e rfl rfl
  · skip
    replace h4 := b2i_0.mp h4
    replace h4 := of_decide_eq_false h4
    refine G_iconst (n := (-1)) d_De_look_7 (by decide) (G_pc (pc' := 8) rfl ?_)
    refine G_iret d_De_look_8 rfl (tokI (by decide)) rfl rfl ?_
    first | (exfalso; omega) | exact ret_e rfl rfl

theorem gx_De_value {X : WX} {d : Nat} (hd : 1 ≤ d) (z : Int) (M : Mem) (hx : ¬ (0 ≤ z ∧ z < 4)) : MG X gt d KE KE y_De_value b_De_value 2 (some .long) [vr 1, vi z] M (fun r M' => r = some (vl (0)) ∧ M' = M) := by
  refine MG_of_G (by decide) (Nat.le_of_ble_eq_true rfl) (Nat.le_refl _) (by decide) ?_
  show G X gt d KE KE y_De_value b_De_value 2 (some .long) _ 0 [(0, vr 1), (1, vi z)] [] KE M
  refine G_rngl (i := 1) rfl (fun hr1 => ?_)
  refine G_iload (i := 1) (n := 1) (len := 1) (Or.inl ⟨1, rfl, rfl, d_De_value_0⟩) rfl (G_pc (pc' := 1) rfl ?_)
  refine G_callS (K1 := KE) (d2 := 0) (as := [vi z]) (rest := []) d_De_value_1 mf_De_isEvaluation ml_De_81 rfl rfl (Nat.le_of_ble_eq_true rfl) (by omega) ⟨Nat.le_refl _, Nat.le_refl _⟩ (g_De_isEvaluation (by omega) z _) (fun r1 M2 kq3 q3 => ?_)
  clear kq3; obtain ⟨q3a, q3b⟩ := q3; subst r1; subst M2
  refine G_ps (pc' := 4) (st' := [vi (b2i (decide (0 ≤ z ∧ z < 4)))]) rfl rfl ?_
  refine G_if_eq (tgt := 19) d_De_value_4 (by decide) (fun h4 => ?_) (fun h4 => G_pc (pc' := 7) rfl ?_)
  · skip
    replace h4 := b2i_0.mp h4
    replace h4 := of_decide_eq_false h4
    refine G_lconst0 d_De_value_19 (G_pc (pc' := 20) rfl ?_)
    refine G_lret d_De_value_20 rfl rfl ?_
    first | (exfalso; omega) | exact ret_l rfl rfl
  · skip
    replace h4 := b2i_nz.mp h4
    replace h4 := of_decide_eq_true h4
    refine G_aload (i := 0) (n := 0) (len := 1) (Or.inl ⟨0, rfl, rfl, d_De_value_7⟩) rfl (by decide) (G_pc (pc' := 8) rfl ?_)
    refine G_get (o := 1) (c := 8) (k := 2) (v := 2) d_De_value_8 fl_De_11 rfl (by decide) (by decide) rfl rfl (G_pc (pc' := 11) rfl ?_)
    refine G_iload (i := 1) (n := 1) (len := 1) (Or.inl ⟨1, rfl, rfl, d_De_value_11⟩) rfl (G_pc (pc' := 12) rfl ?_)
    exfalso; omega

def sortD (M : Mem) (o q : Int) : Int := if o = 0 then 0 else if q = 26 then 3 else if q = 27 then 4 else if 10 ≤ M 60 o then 2 else 1
theorem sortD_rng (M : Mem) (o q : Int) : 0 ≤ sortD M o q ∧ sortD M o q ≤ 4 := by unfold sortD; repeat (first | omega | split)
def reqD (M : Mem) (k w : Int) : Int := if w = 0 then sortD M (M 11 k / 28) (M 11 k % 28) else if w = 1 then (if M 11 k / 28 = 0 then M 11 k % 28 else M 11 k / 28) else if w = 2 then (if M 11 k / 28 = 0 ∨ 26 ≤ M 11 k % 28 then 0 else M 11 k % 28) else if w = 3 then M 12 k else -1
theorem d_De_request_0 : decode b_De_request 0 = .ok (.aload_n 0, 1) := by decide +kernel
theorem d_De_request_1 : decode b_De_request 1 = .ok (.getfield 40, 3) := by decide +kernel
theorem d_De_request_4 : decode b_De_request 4 = .ok (.iload_n 1, 1) := by decide +kernel
theorem d_De_request_5 : decode b_De_request 5 = .ok (.invokevirtual 100, 3) := by decide +kernel
theorem d_De_request_8 : decode b_De_request 8 = .ok (.ifCond .ne 5, 3) := by decide +kernel
theorem d_De_request_11 : decode b_De_request 11 = .ok (.iconst (-1), 1) := by decide +kernel
theorem d_De_request_12 : decode b_De_request 12 = .ok (.ireturn, 1) := by decide +kernel
theorem d_De_request_13 : decode b_De_request 13 = .ok (.aload_n 0, 1) := by decide +kernel
theorem d_De_request_14 : decode b_De_request 14 = .ok (.getfield 40, 3) := by decide +kernel
theorem d_De_request_17 : decode b_De_request 17 = .ok (.iload_n 1, 1) := by decide +kernel
theorem d_De_request_18 : decode b_De_request 18 = .ok (.invokevirtual 103, 3) := by decide +kernel
theorem d_De_request_21 : decode b_De_request 21 = .ok (.istore_n 3, 1) := by decide +kernel
theorem d_De_request_22 : decode b_De_request 22 = .ok (.iload_n 3, 1) := by decide +kernel
theorem d_De_request_23 : decode b_De_request 23 = .ok (.bipush 28, 2) := by decide +kernel
theorem d_De_request_25 : decode b_De_request 25 = .ok (.idiv, 1) := by decide +kernel
theorem d_De_request_26 : decode b_De_request 26 = .ok (.istore 4, 2) := by decide +kernel
theorem d_De_request_28 : decode b_De_request 28 = .ok (.iload_n 3, 1) := by decide +kernel
theorem d_De_request_29 : decode b_De_request 29 = .ok (.bipush 28, 2) := by decide +kernel
theorem d_De_request_31 : decode b_De_request 31 = .ok (.irem, 1) := by decide +kernel
theorem d_De_request_32 : decode b_De_request 32 = .ok (.istore 5, 2) := by decide +kernel
theorem d_De_request_34 : decode b_De_request 34 = .ok (.iload_n 2, 1) := by decide +kernel
theorem d_De_request_35 : decode b_De_request 35 = .ok (.tableswitch 82 0 3 #[29, 41, 54, 73], 29) := by decide +kernel
theorem d_De_request_64 : decode b_De_request 64 = .ok (.aload_n 0, 1) := by decide +kernel
theorem d_De_request_65 : decode b_De_request 65 = .ok (.getfield 36, 3) := by decide +kernel
theorem d_De_request_68 : decode b_De_request 68 = .ok (.iload 4, 2) := by decide +kernel
theorem d_De_request_70 : decode b_De_request 70 = .ok (.iload 5, 2) := by decide +kernel
theorem d_De_request_72 : decode b_De_request 72 = .ok (.invokevirtual 106, 3) := by decide +kernel
theorem d_De_request_75 : decode b_De_request 75 = .ok (.ireturn, 1) := by decide +kernel
theorem d_De_request_76 : decode b_De_request 76 = .ok (.iload 4, 2) := by decide +kernel
theorem d_De_request_78 : decode b_De_request 78 = .ok (.ifCond .ne 8, 3) := by decide +kernel
theorem d_De_request_81 : decode b_De_request 81 = .ok (.iload 5, 2) := by decide +kernel
theorem d_De_request_83 : decode b_De_request 83 = .ok (.goto 5, 3) := by decide +kernel
theorem d_De_request_86 : decode b_De_request 86 = .ok (.iload 4, 2) := by decide +kernel
theorem d_De_request_88 : decode b_De_request 88 = .ok (.ireturn, 1) := by decide +kernel
theorem d_De_request_89 : decode b_De_request 89 = .ok (.iload 4, 2) := by decide +kernel
theorem d_De_request_91 : decode b_De_request 91 = .ok (.ifCond .eq 10, 3) := by decide +kernel
theorem d_De_request_94 : decode b_De_request 94 = .ok (.iload 5, 2) := by decide +kernel
theorem d_De_request_96 : decode b_De_request 96 = .ok (.bipush 26, 2) := by decide +kernel
theorem d_De_request_98 : decode b_De_request 98 = .ok (.if_icmp .lt 7, 3) := by decide +kernel
theorem d_De_request_101 : decode b_De_request 101 = .ok (.iconst 0, 1) := by decide +kernel
theorem d_De_request_102 : decode b_De_request 102 = .ok (.goto 5, 3) := by decide +kernel
theorem d_De_request_105 : decode b_De_request 105 = .ok (.iload 5, 2) := by decide +kernel
theorem d_De_request_107 : decode b_De_request 107 = .ok (.ireturn, 1) := by decide +kernel
theorem d_De_request_108 : decode b_De_request 108 = .ok (.aload_n 0, 1) := by decide +kernel
theorem d_De_request_109 : decode b_De_request 109 = .ok (.getfield 40, 3) := by decide +kernel
theorem d_De_request_112 : decode b_De_request 112 = .ok (.iload_n 1, 1) := by decide +kernel
theorem d_De_request_113 : decode b_De_request 113 = .ok (.invokevirtual 109, 3) := by decide +kernel
theorem d_De_request_116 : decode b_De_request 116 = .ok (.ireturn, 1) := by decide +kernel
theorem d_De_request_117 : decode b_De_request 117 = .ok (.iconst (-1), 1) := by decide +kernel
theorem d_De_request_118 : decode b_De_request 118 = .ok (.ireturn, 1) := by decide +kernel
theorem g_De_request {X : WX} {d : Nat} (hd : 3 ≤ d) (k w : Int) (M : Mem) (hT : RT M) (hI : TI M) (hw : 0 ≤ M 9 3 ∧ M 9 3 ≤ 300) (hq : ∀ j, 0 ≤ j → j < M 9 3 → (0 ≤ M 11 j ∧ M 11 j < 364) ∧ 0 ≤ M 12 j ∧ M 12 j < 100000) : MG X gt d KE KE y_De_request b_De_request 6 (some .int) [vr 1, vi k, vi w] M (fun r M' => ((0 ≤ k ∧ k < M 9 3) → r = some (vi (reqD M k w)) ∧ M' = M) ∧ (¬ (0 ≤ k ∧ k < M 9 3) → r = some (vi (-1)) ∧ M' = M)) := by
  refine MG_of_G (by decide) (Nat.le_of_ble_eq_true rfl) (Nat.le_refl _) (by decide) ?_
  show G X gt d KE KE y_De_request b_De_request 6 (some .int) _ 0 [(0, vr 1), (1, vi k), (2, vi w)] [] KE M
  have hI0 := hI
  refine G_rngl (i := 1) rfl (fun hr1 => ?_)
  refine G_rngl (i := 2) rfl (fun hr2 => ?_)
  refine G_aload (i := 0) (n := 0) (len := 1) (Or.inl ⟨0, rfl, rfl, d_De_request_0⟩) rfl (by decide) (G_pc (pc' := 1) rfl ?_)
  refine G_get (o := 1) (c := 8) (k := 1) (v := 9) d_De_request_1 fl_De_40 rfl (by decide) (by decide) rfl rfl (G_pc (pc' := 4) rfl ?_)
  refine G_iload (i := 1) (n := 1) (len := 1) (Or.inl ⟨1, rfl, rfl, d_De_request_4⟩) rfl (G_pc (pc' := 5) rfl ?_)
  refine G_callV (K1 := KE) (d2 := 0) (o := 9) (cl := 3) (as := [vi k]) (rest := []) d_De_request_5 mf_Li_hasRequest ml_De_100 rfl rfl (by decide) rfl rfl (Nat.le_of_ble_eq_true rfl) (by omega) ⟨Nat.le_refl _, Nat.le_refl _⟩ (g_Li_hasRequest (by omega) k _) (fun r1 M2 kq3 q3 => ?_)
  clear kq3; obtain ⟨q3a, q3b⟩ := q3; subst r1; subst M2
  refine G_ps (pc' := 8) (st' := [vi (b2i (inB k (M 9 3)))]) rfl rfl ?_
  refine G_if_ne (tgt := 13) d_De_request_8 (by decide) (fun h4 => ?_) (fun h4 => G_pc (pc' := 11) rfl ?_)
  · skip
    replace h4 := b2i_nz.mp h4
    replace h4 := inB_t.mp h4
    obtain ⟨hq1, hq2⟩ := hq k (by omega) (by omega)
    refine G_aload (i := 0) (n := 0) (len := 1) (Or.inl ⟨0, rfl, rfl, d_De_request_13⟩) rfl (by decide) (G_pc (pc' := 14) rfl ?_)
    refine G_get (o := 1) (c := 8) (k := 1) (v := 9) d_De_request_14 fl_De_40 rfl (by decide) (by decide) rfl rfl (G_pc (pc' := 17) rfl ?_)
    refine G_iload (i := 1) (n := 1) (len := 1) (Or.inl ⟨1, rfl, rfl, d_De_request_17⟩) rfl (G_pc (pc' := 18) rfl ?_)
    refine G_callV (K1 := KE) (d2 := 0) (o := 9) (cl := 3) (as := [vi k]) (rest := []) d_De_request_18 mf_Li_placeAsked ml_De_103 rfl rfl (by decide) rfl rfl (Nat.le_of_ble_eq_true rfl) (by omega) ⟨Nat.le_refl _, Nat.le_refl _⟩ (g_Li_placeAsked (by omega) k _ (by omega)) (fun r5 M6 kq7 q7 => ?_)
    clear kq7; obtain ⟨q7a, q7b⟩ := q7; subst r5; subst M6
    refine G_ps (pc' := 21) (st' := [vi (M 11 k)]) rfl rfl ?_
    refine G_istore (i := 3) (len := 1) (ls' := [(3, vi (M 11 k)), (0, vr 1), (1, vi k), (2, vi w)]) (Or.inl ⟨3, rfl, rfl, d_De_request_21⟩) (by decide) rfl (G_pc (pc' := 22) rfl ?_)
    refine G_iload (i := 3) (n := 0) (len := 1) (Or.inl ⟨3, rfl, rfl, d_De_request_22⟩) rfl (G_pc (pc' := 23) rfl ?_)
    refine G_bipush (n := 28) d_De_request_23 (by decide) (G_pc (pc' := 25) rfl ?_)
    refine G_idiv d_De_request_25 (by decide) (G_pc (pc' := 26) rfl ?_)
    rw [show o_idiv (M 11 k) 28 = (M 11 k) / 28 from idiv_e (by omega) (by omega)]
    refine G_istore (i := 4) (len := 2) (ls' := [(4, vi ((M 11 k) / 28)), (3, vi (M 11 k)), (0, vr 1), (1, vi k), (2, vi w)]) (Or.inr ⟨rfl, d_De_request_26⟩) (by decide) rfl (G_pc (pc' := 28) rfl ?_)
    refine G_iload (i := 3) (n := 1) (len := 1) (Or.inl ⟨3, rfl, rfl, d_De_request_28⟩) rfl (G_pc (pc' := 29) rfl ?_)
    refine G_bipush (n := 28) d_De_request_29 (by decide) (G_pc (pc' := 31) rfl ?_)
    refine G_irem d_De_request_31 (by decide) (G_pc (pc' := 32) rfl ?_)
    rw [show o_irem (M 11 k) 28 = (M 11 k) % 28 from irem_e (by omega) (by omega)]
    refine G_istore (i := 5) (len := 2) (ls' := [(5, vi ((M 11 k) % 28)), (4, vi ((M 11 k) / 28)), (3, vi (M 11 k)), (0, vr 1), (1, vi k), (2, vi w)]) (Or.inr ⟨rfl, d_De_request_32⟩) (by decide) rfl (G_pc (pc' := 34) rfl ?_)
    refine G_iload (i := 2) (n := 5) (len := 1) (Or.inl ⟨2, rfl, rfl, d_De_request_34⟩) rfl (G_pc (pc' := 35) rfl ?_)
    by_cases h8 : w = 0
    · skip
      have e9o : (#[29, 41, 54, 73] : Array Int)[(w - 0).toNat]? = some 29 := by rw [h8]; rfl
      refine G_tableIn (off := 29) (tgt := 64) d_De_request_35 (by omega) e9o (by decide) ?_
      refine G_aload (i := 0) (n := 3) (len := 1) (Or.inl ⟨0, rfl, rfl, d_De_request_64⟩) rfl (by decide) (G_pc (pc' := 65) rfl ?_)
      refine G_get (o := 1) (c := 8) (k := 0) (v := 4) d_De_request_65 fl_De_36 rfl (by decide) (by decide) rfl rfl (G_pc (pc' := 68) rfl ?_)
      refine G_iload (i := 4) (n := 1) (len := 2) (Or.inr ⟨rfl, d_De_request_68⟩) rfl (G_pc (pc' := 70) rfl ?_)
      refine G_iload (i := 5) (n := 0) (len := 2) (Or.inr ⟨rfl, d_De_request_70⟩) rfl (G_pc (pc' := 72) rfl ?_)
      refine G_callV (K1 := KE) (d2 := 2) (o := 4) (cl := 6) (as := [vi ((M 11 k) / 28), vi ((M 11 k) % 28)]) (rest := []) d_De_request_72 mf_Ta_sortOfPiece ml_De_106 rfl rfl (by decide) rfl rfl (Nat.le_of_ble_eq_true rfl) (by omega) ⟨Nat.le_refl _, Nat.le_refl _⟩ (g_Ta_sortOfPiece (by omega) ((M 11 k) / 28) ((M 11 k) % 28) M hT hI0 (by omega)) (fun r10 M11 kq12 q12 => ?_)
      clear kq12; obtain ⟨q12a, q12b⟩ := q12; subst r10; subst M11
      refine G_ps (pc' := 75) (st' := [vi (sortD M ((M 11 k) / 28) ((M 11 k) % 28))]) rfl rfl ?_
      refine G_iret d_De_request_75 rfl (tokI (by first | omega | (have := sortD_rng M (M 11 k / 28) (M 11 k % 28); omega))) rfl rfl ?_
      first | (exfalso; omega) | exact ⟨fun _ => ret_e (by unfold reqD; repeat (first | (rw [if_pos (by omega)]; done) | (rw [if_neg (by omega)]; done) | (rw [if_pos (by omega)]) | (rw [if_neg (by omega)]))) rfl, fun h => absurd ⟨by omega, by omega⟩ h⟩
    by_cases h8 : w = 1
    · skip
      have e13o : (#[29, 41, 54, 73] : Array Int)[(w - 0).toNat]? = some 41 := by rw [h8]; rfl
      refine G_tableIn (off := 41) (tgt := 76) d_De_request_35 (by omega) e13o (by decide) ?_
      refine G_iload (i := 4) (n := 1) (len := 2) (Or.inr ⟨rfl, d_De_request_76⟩) rfl (G_pc (pc' := 78) rfl ?_)
      refine G_if_ne (tgt := 86) d_De_request_78 (by decide) (fun h14 => ?_) (fun h14 => G_pc (pc' := 81) rfl ?_)
      · skip
        refine G_iload (i := 4) (n := 1) (len := 2) (Or.inr ⟨rfl, d_De_request_86⟩) rfl (G_pc (pc' := 88) rfl ?_)
        refine G_iret d_De_request_88 rfl (tokI (by first | omega | (have := sortD_rng M (M 11 k / 28) (M 11 k % 28); omega))) rfl rfl ?_
        first | (exfalso; omega) | exact ⟨fun _ => ret_e (by unfold reqD; repeat (first | (rw [if_pos (by omega)]; done) | (rw [if_neg (by omega)]; done) | (rw [if_pos (by omega)]) | (rw [if_neg (by omega)]))) rfl, fun h => absurd ⟨by omega, by omega⟩ h⟩
      · skip
        refine G_iload (i := 5) (n := 0) (len := 2) (Or.inr ⟨rfl, d_De_request_81⟩) rfl (G_pc (pc' := 83) rfl ?_)
        refine G_goto (tgt := 88) d_De_request_83 (by decide) ?_
        refine G_iret d_De_request_88 rfl (tokI (by first | omega | (have := sortD_rng M (M 11 k / 28) (M 11 k % 28); omega))) rfl rfl ?_
        first | (exfalso; omega) | exact ⟨fun _ => ret_e (by unfold reqD; repeat (first | (rw [if_pos (by omega)]; done) | (rw [if_neg (by omega)]; done) | (rw [if_pos (by omega)]) | (rw [if_neg (by omega)]))) rfl, fun h => absurd ⟨by omega, by omega⟩ h⟩
    by_cases h8 : w = 2
    · skip
      have e15o : (#[29, 41, 54, 73] : Array Int)[(w - 0).toNat]? = some 54 := by rw [h8]; rfl
      refine G_tableIn (off := 54) (tgt := 89) d_De_request_35 (by omega) e15o (by decide) ?_
      refine G_iload (i := 4) (n := 1) (len := 2) (Or.inr ⟨rfl, d_De_request_89⟩) rfl (G_pc (pc' := 91) rfl ?_)
      refine G_if_eq (tgt := 101) d_De_request_91 (by decide) (fun h16 => ?_) (fun h16 => G_pc (pc' := 94) rfl ?_)
      · skip
        refine G_iconst (n := 0) d_De_request_101 (by decide) (G_pc (pc' := 102) rfl ?_)
        refine G_goto (tgt := 107) d_De_request_102 (by decide) ?_
        refine G_iret d_De_request_107 rfl (tokI (by decide)) rfl rfl ?_
        first | (exfalso; omega) | exact ⟨fun _ => ret_e (by unfold reqD; repeat (first | (rw [if_pos (by omega)]; done) | (rw [if_neg (by omega)]; done) | (rw [if_pos (by omega)]) | (rw [if_neg (by omega)]))) rfl, fun h => absurd ⟨by omega, by omega⟩ h⟩
      · skip
        refine G_iload (i := 5) (n := 0) (len := 2) (Or.inr ⟨rfl, d_De_request_94⟩) rfl (G_pc (pc' := 96) rfl ?_)
        refine G_bipush (n := 26) d_De_request_96 (by decide) (G_pc (pc' := 98) rfl ?_)
        refine G_icmp_lt (tgt := 105) d_De_request_98 (by decide) (fun h17 => ?_) (fun h17 => G_pc (pc' := 101) rfl ?_)
        · skip
          refine G_iload (i := 5) (n := 0) (len := 2) (Or.inr ⟨rfl, d_De_request_105⟩) rfl (G_pc (pc' := 107) rfl ?_)
          refine G_iret d_De_request_107 rfl (tokI (by first | omega | (have := sortD_rng M (M 11 k / 28) (M 11 k % 28); omega))) rfl rfl ?_
          first | (exfalso; omega) | exact ⟨fun _ => ret_e (by unfold reqD; repeat (first | (rw [if_pos (by omega)]; done) | (rw [if_neg (by omega)]; done) | (rw [if_pos (by omega)]) | (rw [if_neg (by omega)]))) rfl, fun h => absurd ⟨by omega, by omega⟩ h⟩
        · skip
          refine G_iconst (n := 0) d_De_request_101 (by decide) (G_pc (pc' := 102) rfl ?_)
          refine G_goto (tgt := 107) d_De_request_102 (by decide) ?_
          refine G_iret d_De_request_107 rfl (tokI (by decide)) rfl rfl ?_
          first | (exfalso; omega) | exact ⟨fun _ => ret_e (by unfold reqD; repeat (first | (rw [if_pos (by omega)]; done) | (rw [if_neg (by omega)]; done) | (rw [if_pos (by omega)]) | (rw [if_neg (by omega)]))) rfl, fun h => absurd ⟨by omega, by omega⟩ h⟩
    by_cases h8 : w = 3
    · skip
      have e18o : (#[29, 41, 54, 73] : Array Int)[(w - 0).toNat]? = some 73 := by rw [h8]; rfl
      refine G_tableIn (off := 73) (tgt := 108) d_De_request_35 (by omega) e18o (by decide) ?_
      refine G_aload (i := 0) (n := 3) (len := 1) (Or.inl ⟨0, rfl, rfl, d_De_request_108⟩) rfl (by decide) (G_pc (pc' := 109) rfl ?_)
      refine G_get (o := 1) (c := 8) (k := 1) (v := 9) d_De_request_109 fl_De_40 rfl (by decide) (by decide) rfl rfl (G_pc (pc' := 112) rfl ?_)
      refine G_iload (i := 1) (n := 4) (len := 1) (Or.inl ⟨1, rfl, rfl, d_De_request_112⟩) rfl (G_pc (pc' := 113) rfl ?_)
      refine G_callV (K1 := KE) (d2 := 0) (o := 9) (cl := 3) (as := [vi k]) (rest := []) d_De_request_113 mf_Li_sentBefore ml_De_109 rfl rfl (by decide) rfl rfl (Nat.le_of_ble_eq_true rfl) (by omega) ⟨Nat.le_refl _, Nat.le_refl _⟩ (g_Li_sentBefore (by omega) k _ (by omega)) (fun r19 M20 kq21 q21 => ?_)
      clear kq21; obtain ⟨q21a, q21b⟩ := q21; subst r19; subst M20
      refine G_ps (pc' := 116) (st' := [vi (M 12 k)]) rfl rfl ?_
      refine G_iret d_De_request_116 rfl (tokI (by first | omega | (have := sortD_rng M (M 11 k / 28) (M 11 k % 28); omega))) rfl rfl ?_
      first | (exfalso; omega) | exact ⟨fun _ => ret_e (by unfold reqD; repeat (first | (rw [if_pos (by omega)]; done) | (rw [if_neg (by omega)]; done) | (rw [if_pos (by omega)]) | (rw [if_neg (by omega)]))) rfl, fun h => absurd ⟨by omega, by omega⟩ h⟩
    refine G_tableOut (tgt := 117) d_De_request_35 (by omega) (by decide) ?_
    refine G_iconst (n := (-1)) d_De_request_117 (by decide) (G_pc (pc' := 118) rfl ?_)
    refine G_iret d_De_request_118 rfl (tokI (by decide)) rfl rfl ?_
    first | exact ⟨fun h => absurd h (by assumption), fun _ => ⟨rfl, rfl⟩⟩ | exact ⟨fun h => absurd h (by omega), fun _ => ⟨rfl, rfl⟩⟩ | exact ⟨fun _ => ret_e (by unfold reqD; rw [if_neg (by omega), if_neg (by omega), if_neg (by omega), if_neg (by omega)]) rfl, fun h => absurd ⟨by omega, by omega⟩ h⟩
  · skip
    replace h4 := b2i_0.mp h4
    replace h4 := inB_f.mp h4
    refine G_iconst (n := (-1)) d_De_request_11 (by decide) (G_pc (pc' := 12) rfl ?_)
    refine G_iret d_De_request_12 rfl (tokI (by decide)) rfl rfl ?_
    first | exact ⟨fun h => absurd h (by assumption), fun _ => ⟨rfl, rfl⟩⟩ | exact ⟨fun h => absurd h (by omega), fun _ => ⟨rfl, rfl⟩⟩ | exact ⟨fun _ => ret_e (by unfold reqD; rw [if_neg (by omega), if_neg (by omega), if_neg (by omega), if_neg (by omega)]) rfl, fun h => absurd ⟨by omega, by omega⟩ h⟩

def refN (p : Int) : Nat → Nat → Mem → Int → Int × Mem
  | 0, _, W, c => (c, W)
  | n + 1, i, W, c => if W (19 + 9 * i) 7 = 1 ∧ W (19 + 9 * i) 11 = p then refN p n (i + 1) (mset W (19 + 9 * i) 7 6) (c + 1) else refN p n (i + 1) W c
theorem refN_y {p c : Int} {n i : Nat} {W : Mem} (h : W (19 + 9 * i) 7 = 1 ∧ W (19 + 9 * i) 11 = p) : refN p (n + 1) i W c = refN p n (i + 1) (mset W (19 + 9 * i) 7 6) (c + 1) := if_pos h
theorem refN_n {p c : Int} {n i : Nat} {W : Mem} (h : ¬ (W (19 + 9 * i) 7 = 1 ∧ W (19 + 9 * i) 11 = p)) : refN p (n + 1) i W c = refN p n (i + 1) W c := if_neg h
def refD (M : Mem) (k : Int) : Int × Mem := refN (M 11 k) 4 0 (dropD M k) 0
theorem d_De_refuse_0 : decode b_De_refuse 0 = .ok (.aload_n 0, 1) := by decide +kernel
theorem d_De_refuse_1 : decode b_De_refuse 1 = .ok (.getfield 40, 3) := by decide +kernel
theorem d_De_refuse_4 : decode b_De_refuse 4 = .ok (.iload_n 1, 1) := by decide +kernel
theorem d_De_refuse_5 : decode b_De_refuse 5 = .ok (.invokevirtual 100, 3) := by decide +kernel
theorem d_De_refuse_8 : decode b_De_refuse 8 = .ok (.ifCond .ne 5, 3) := by decide +kernel
theorem d_De_refuse_11 : decode b_De_refuse 11 = .ok (.iconst (-1), 1) := by decide +kernel
theorem d_De_refuse_12 : decode b_De_refuse 12 = .ok (.ireturn, 1) := by decide +kernel
theorem d_De_refuse_13 : decode b_De_refuse 13 = .ok (.aload_n 0, 1) := by decide +kernel
theorem d_De_refuse_14 : decode b_De_refuse 14 = .ok (.getfield 40, 3) := by decide +kernel
theorem d_De_refuse_17 : decode b_De_refuse 17 = .ok (.iload_n 1, 1) := by decide +kernel
theorem d_De_refuse_18 : decode b_De_refuse 18 = .ok (.invokevirtual 103, 3) := by decide +kernel
theorem d_De_refuse_21 : decode b_De_refuse 21 = .ok (.istore_n 2, 1) := by decide +kernel
theorem d_De_refuse_22 : decode b_De_refuse 22 = .ok (.aload_n 0, 1) := by decide +kernel
theorem d_De_refuse_23 : decode b_De_refuse 23 = .ok (.getfield 40, 3) := by decide +kernel
theorem d_De_refuse_26 : decode b_De_refuse 26 = .ok (.iload_n 1, 1) := by decide +kernel
theorem d_De_refuse_27 : decode b_De_refuse 27 = .ok (.invokevirtual 112, 3) := by decide +kernel
theorem d_De_refuse_30 : decode b_De_refuse 30 = .ok (.iconst 0, 1) := by decide +kernel
theorem d_De_refuse_31 : decode b_De_refuse 31 = .ok (.istore_n 3, 1) := by decide +kernel
theorem d_De_refuse_32 : decode b_De_refuse 32 = .ok (.iconst 0, 1) := by decide +kernel
theorem d_De_refuse_33 : decode b_De_refuse 33 = .ok (.istore 4, 2) := by decide +kernel
theorem d_De_refuse_35 : decode b_De_refuse 35 = .ok (.iload 4, 2) := by decide +kernel
theorem d_De_refuse_37 : decode b_De_refuse 37 = .ok (.iconst 4, 1) := by decide +kernel
theorem d_De_refuse_38 : decode b_De_refuse 38 = .ok (.if_icmp .ge 38, 3) := by decide +kernel
theorem d_De_refuse_41 : decode b_De_refuse 41 = .ok (.aload_n 0, 1) := by decide +kernel
theorem d_De_refuse_42 : decode b_De_refuse 42 = .ok (.getfield 11, 3) := by decide +kernel
theorem d_De_refuse_45 : decode b_De_refuse 45 = .ok (.iload 4, 2) := by decide +kernel
theorem d_De_refuse_47 : decode b_De_refuse 47 = .ok (.aaload, 1) := by decide +kernel
theorem d_De_refuse_48 : decode b_De_refuse 48 = .ok (.iload_n 2, 1) := by decide +kernel
theorem d_De_refuse_49 : decode b_De_refuse 49 = .ok (.invokevirtual 118, 3) := by decide +kernel
theorem d_De_refuse_52 : decode b_De_refuse 52 = .ok (.ifCond .eq 18, 3) := by decide +kernel
theorem d_De_refuse_55 : decode b_De_refuse 55 = .ok (.iinc 3 1, 3) := by decide +kernel
theorem d_De_refuse_58 : decode b_De_refuse 58 = .ok (.aload_n 0, 1) := by decide +kernel
theorem d_De_refuse_59 : decode b_De_refuse 59 = .ok (.getfield 11, 3) := by decide +kernel
theorem d_De_refuse_62 : decode b_De_refuse 62 = .ok (.iload 4, 2) := by decide +kernel
theorem d_De_refuse_64 : decode b_De_refuse 64 = .ok (.aaload, 1) := by decide +kernel
theorem d_De_refuse_65 : decode b_De_refuse 65 = .ok (.bipush 6, 2) := by decide +kernel
theorem d_De_refuse_67 : decode b_De_refuse 67 = .ok (.invokevirtual 124, 3) := by decide +kernel
theorem d_De_refuse_70 : decode b_De_refuse 70 = .ok (.iinc 4 1, 3) := by decide +kernel
theorem d_De_refuse_73 : decode b_De_refuse 73 = .ok (.goto (-38), 3) := by decide +kernel
theorem d_De_refuse_76 : decode b_De_refuse 76 = .ok (.iload_n 3, 1) := by decide +kernel
theorem d_De_refuse_77 : decode b_De_refuse 77 = .ok (.ireturn, 1) := by decide +kernel
theorem g_De_refuse {X : WX} {d : Nat} (hd : 1 ≤ d) (k : Int) (M : Mem)  (hw : 0 ≤ M 9 3 ∧ M 9 3 ≤ 300) (hq : ∀ j, 0 ≤ j → j < M 9 3 → (0 ≤ M 11 j ∧ M 11 j < 364) ∧ 0 ≤ M 12 j ∧ M 12 j < 100000) : MG X gt d KE KE y_De_refuse b_De_refuse 5 (some .int) [vr 1, vi k] M (fun r M' => ((0 ≤ k ∧ k < M 9 3) → r = some (vi (refD M k).1) ∧ M' = (refD M k).2) ∧ (¬ (0 ≤ k ∧ k < M 9 3) → r = some (vi (-1)) ∧ M' = M)) := by
  refine MG_of_G (by decide) (Nat.le_of_ble_eq_true rfl) (Nat.le_refl _) (by decide) ?_
  show G X gt d KE KE y_De_refuse b_De_refuse 5 (some .int) _ 0 [(0, vr 1), (1, vi k)] [] KE M
  refine G_rngl (i := 1) rfl (fun hr1 => ?_)
  have loop : ∀ (p : Int) (n : Nat) (i : Nat) (c : Int) (W : Mem), i + n = 4 → (0 ≤ c ∧ c ≤ i) → (0 ≤ k ∧ k < M 9 3) → refN p n i W c = refD M k → G X gt d KE KE y_De_refuse b_De_refuse 5 (some .int) (fun r M' => ((0 ≤ k ∧ k < M 9 3) → r = some (vi (refD M k).1) ∧ M' = (refD M k).2) ∧ (¬ (0 ≤ k ∧ k < M 9 3) → r = some (vi (-1)) ∧ M' = M)) 35 [(4, vi (i : Int)), (3, vi c), (2, vi p), (0, vr 1), (1, vi k)] [] KE W := by
    intro p n
    induction n with
    | zero =>
      intro i c W h1 hc hk0 hF
      refine G_iload (i := 4) (n := 0) (len := 2) (Or.inr ⟨rfl, d_De_refuse_35⟩) rfl (G_pc (pc' := 37) rfl ?_)
      refine G_iconst (n := 4) d_De_refuse_37 (by decide) (G_pc (pc' := 38) rfl ?_)
      refine G_icmp_ge (tgt := 76) d_De_refuse_38 (by decide) (fun h2501 => ?_) (fun h2501 => absurd h2501 (by omega))
      refine G_iload (i := 3) (n := 1) (len := 1) (Or.inl ⟨3, rfl, rfl, d_De_refuse_76⟩) rfl (G_pc (pc' := 77) rfl ?_)
      refine G_iret d_De_refuse_77 rfl (tokI (by omega)) rfl rfl ?_
      exact ⟨fun _ => ⟨by rw [← hF]; rfl, by rw [← hF]; rfl⟩, fun h => absurd hk0 h⟩
    | succ n ih =>
      intro i c W h1 hc hk0 hF
      refine G_iload (i := 4) (n := 0) (len := 2) (Or.inr ⟨rfl, d_De_refuse_35⟩) rfl (G_pc (pc' := 37) rfl ?_)
      refine G_iconst (n := 4) d_De_refuse_37 (by decide) (G_pc (pc' := 38) rfl ?_)
      refine G_icmp_ge (tgt := 76) d_De_refuse_38 (by decide) (fun h2601 => absurd h2601 (by omega)) (fun h2601 => G_pc (pc' := 41) rfl ?_)
      refine G_aload (i := 0) (n := 3) (len := 1) (Or.inl ⟨0, rfl, rfl, d_De_refuse_41⟩) rfl (by decide) (G_pc (pc' := 42) rfl ?_)
      refine G_get (o := 1) (c := 8) (k := 2) (v := 2) d_De_refuse_42 fl_De_11 rfl (by decide) (by decide) rfl rfl (G_pc (pc' := 45) rfl ?_)
      refine G_iload (i := 4) (n := 0) (len := 2) (Or.inr ⟨rfl, d_De_refuse_45⟩) rfl (G_pc (pc' := 47) rfl ?_)
      refine G_aaload (o := 2) (n := 4) (i := (i : Int)) (v := ((19 + 9 * i : Nat) : Int)) d_De_refuse_47 rfl ⟨by decide, by decide⟩ (by omega) (rd_2 (by omega)) (G_pc (pc' := 48) rfl ?_)
      refine G_iload (i := 2) (n := 2) (len := 1) (Or.inl ⟨2, rfl, rfl, d_De_refuse_48⟩) rfl (G_pc (pc' := 49) rfl ?_)
      refine G_callV (K1 := KE) (d2 := 0) (o := (19 + 9 * i)) (cl := 1) (as := [vi p]) (rest := []) d_De_refuse_49 mf_Ev_waitsFor ml_De_118 (kd_Ev (by omega)) rfl (by show 19 + 9 * i < 87; omega) rfl rfl (Nat.le_of_ble_eq_true rfl) (by omega) ⟨Nat.le_refl _, Nat.le_refl _⟩ (g_Ev_waitsFor (by omega) i p W (by omega)) (fun r2602 M2603 kq2604 q2604 => ?_)
      clear kq2604; obtain ⟨q2604a, q2604b⟩ := q2604; subst r2602; subst M2603
      refine G_ps (pc' := 52) (st' := [vi (b2i (decide (W (19 + 9 * i) 7 = 1 ∧ W (19 + 9 * i) 11 = p)))]) rfl rfl ?_
      refine G_if_eq (tgt := 70) d_De_refuse_52 (by decide) (fun h2605 => ?_) (fun h2605 => G_pc (pc' := 55) rfl ?_)
      · skip
        replace h2605 := b2i_0.mp h2605
        replace h2605 := of_decide_eq_false h2605
        refine G_iinc (i := 4) (n := 0) (z := 1) (ls' := [(4, vi ((i : Int) + 1)), (3, vi c), (2, vi p), (0, vr 1), (1, vi k)]) d_De_refuse_70 rfl (by decide) (by omega) rfl (G_pc (pc' := 73) rfl ?_)
        refine G_goto (tgt := 35) d_De_refuse_73 (by decide) ?_
        rw [show ((i : Int) + 1) = ((i + 1 : Nat) : Int) from rfl]
        exact ih (i + 1) _ _ (by omega) (by omega) hk0 ((refN_n (by assumption)).symm.trans hF)
      · skip
        replace h2605 := b2i_nz.mp h2605
        replace h2605 := of_decide_eq_true h2605
        refine G_iinc (i := 3) (n := 1) (z := 1) (ls' := [(3, vi (c + 1)), (4, vi (i : Int)), (2, vi p), (0, vr 1), (1, vi k)]) d_De_refuse_55 rfl (by decide) (by omega) rfl (G_pc (pc' := 58) rfl ?_)
        refine G_aload (i := 0) (n := 3) (len := 1) (Or.inl ⟨0, rfl, rfl, d_De_refuse_58⟩) rfl (by decide) (G_pc (pc' := 59) rfl ?_)
        refine G_get (o := 1) (c := 8) (k := 2) (v := 2) d_De_refuse_59 fl_De_11 rfl (by decide) (by decide) rfl rfl (G_pc (pc' := 62) rfl ?_)
        refine G_iload (i := 4) (n := 1) (len := 2) (Or.inr ⟨rfl, d_De_refuse_62⟩) rfl (G_pc (pc' := 64) rfl ?_)
        refine G_aaload (o := 2) (n := 4) (i := (i : Int)) (v := ((19 + 9 * i : Nat) : Int)) d_De_refuse_64 rfl ⟨by decide, by decide⟩ (by omega) (rd_2 (by omega)) (G_pc (pc' := 65) rfl ?_)
        refine G_bipush (n := 6) d_De_refuse_65 (by decide) (G_pc (pc' := 67) rfl ?_)
        refine G_callV (K1 := KE) (d2 := 0) (o := (19 + 9 * i)) (cl := 1) (as := [vi 6]) (rest := []) d_De_refuse_67 mf_Ev_stopWaiting ml_De_124 (kd_Ev (by omega)) rfl (by show 19 + 9 * i < 87; omega) rfl rfl (Nat.le_of_ble_eq_true rfl) (by omega) ⟨Nat.le_refl _, Nat.le_refl _⟩ (g_Ev_stopWaiting (by omega) i 6 W (by omega)) (fun r2606 M2607 kq2608 q2608 => ?_)
        clear kq2608; obtain ⟨q2608a, q2608b⟩ := q2608; subst r2606; subst M2607
        refine G_ps (pc' := 70) (st' := []) rfl rfl ?_
        refine G_iinc (i := 4) (n := 1) (z := 1) (ls' := [(4, vi ((i : Int) + 1)), (3, vi (c + 1)), (2, vi p), (0, vr 1), (1, vi k)]) d_De_refuse_70 rfl (by decide) (by omega) rfl (G_pc (pc' := 73) rfl ?_)
        refine G_goto (tgt := 35) d_De_refuse_73 (by decide) ?_
        rw [show ((i : Int) + 1) = ((i + 1 : Nat) : Int) from rfl]
        exact ih (i + 1) _ _ (by omega) (by omega) hk0 ((refN_y (by assumption)).symm.trans hF)
  refine G_aload (i := 0) (n := 0) (len := 1) (Or.inl ⟨0, rfl, rfl, d_De_refuse_0⟩) rfl (by decide) (G_pc (pc' := 1) rfl ?_)
  refine G_get (o := 1) (c := 8) (k := 1) (v := 9) d_De_refuse_1 fl_De_40 rfl (by decide) (by decide) rfl rfl (G_pc (pc' := 4) rfl ?_)
  refine G_iload (i := 1) (n := 1) (len := 1) (Or.inl ⟨1, rfl, rfl, d_De_refuse_4⟩) rfl (G_pc (pc' := 5) rfl ?_)
  refine G_callV (K1 := KE) (d2 := 0) (o := 9) (cl := 3) (as := [vi k]) (rest := []) d_De_refuse_5 mf_Li_hasRequest ml_De_100 rfl rfl (by decide) rfl rfl (Nat.le_of_ble_eq_true rfl) (by omega) ⟨Nat.le_refl _, Nat.le_refl _⟩ (g_Li_hasRequest (by omega) k _) (fun r1 M2 kq3 q3 => ?_)
  clear kq3; obtain ⟨q3a, q3b⟩ := q3; subst r1; subst M2
  refine G_ps (pc' := 8) (st' := [vi (b2i (inB k (M 9 3)))]) rfl rfl ?_
  refine G_if_ne (tgt := 13) d_De_refuse_8 (by decide) (fun h4 => ?_) (fun h4 => G_pc (pc' := 11) rfl ?_)
  · skip
    replace h4 := b2i_nz.mp h4
    replace h4 := inB_t.mp h4
    obtain ⟨hq1, hq2⟩ := hq k (by omega) (by omega)
    refine G_aload (i := 0) (n := 0) (len := 1) (Or.inl ⟨0, rfl, rfl, d_De_refuse_13⟩) rfl (by decide) (G_pc (pc' := 14) rfl ?_)
    refine G_get (o := 1) (c := 8) (k := 1) (v := 9) d_De_refuse_14 fl_De_40 rfl (by decide) (by decide) rfl rfl (G_pc (pc' := 17) rfl ?_)
    refine G_iload (i := 1) (n := 1) (len := 1) (Or.inl ⟨1, rfl, rfl, d_De_refuse_17⟩) rfl (G_pc (pc' := 18) rfl ?_)
    refine G_callV (K1 := KE) (d2 := 0) (o := 9) (cl := 3) (as := [vi k]) (rest := []) d_De_refuse_18 mf_Li_placeAsked ml_De_103 rfl rfl (by decide) rfl rfl (Nat.le_of_ble_eq_true rfl) (by omega) ⟨Nat.le_refl _, Nat.le_refl _⟩ (g_Li_placeAsked (by omega) k _ (by omega)) (fun r5 M6 kq7 q7 => ?_)
    clear kq7; obtain ⟨q7a, q7b⟩ := q7; subst r5; subst M6
    refine G_ps (pc' := 21) (st' := [vi (M 11 k)]) rfl rfl ?_
    refine G_istore (i := 2) (len := 1) (ls' := [(2, vi (M 11 k)), (0, vr 1), (1, vi k)]) (Or.inl ⟨2, rfl, rfl, d_De_refuse_21⟩) (by decide) rfl (G_pc (pc' := 22) rfl ?_)
    refine G_aload (i := 0) (n := 1) (len := 1) (Or.inl ⟨0, rfl, rfl, d_De_refuse_22⟩) rfl (by decide) (G_pc (pc' := 23) rfl ?_)
    refine G_get (o := 1) (c := 8) (k := 1) (v := 9) d_De_refuse_23 fl_De_40 rfl (by decide) (by decide) rfl rfl (G_pc (pc' := 26) rfl ?_)
    refine G_iload (i := 1) (n := 2) (len := 1) (Or.inl ⟨1, rfl, rfl, d_De_refuse_26⟩) rfl (G_pc (pc' := 27) rfl ?_)
    refine G_callV (K1 := KE) (d2 := 0) (o := 9) (cl := 3) (as := [vi k]) (rest := []) d_De_refuse_27 mf_Li_drop ml_De_112 rfl rfl (by decide) rfl rfl (Nat.le_of_ble_eq_true rfl) (by omega) ⟨Nat.le_refl _, Nat.le_refl _⟩ (g_Li_drop (by omega) k _ (by omega) (by omega)) (fun r8 M9 kq10 q10 => ?_)
    clear kq10; obtain ⟨q10a, q10b⟩ := q10; subst r8; subst M9
    refine G_ps (pc' := 30) (st' := []) rfl rfl ?_
    refine G_iconst (n := 0) d_De_refuse_30 (by decide) (G_pc (pc' := 31) rfl ?_)
    refine G_istore (i := 3) (len := 1) (ls' := [(3, vi 0), (2, vi (M 11 k)), (0, vr 1), (1, vi k)]) (Or.inl ⟨3, rfl, rfl, d_De_refuse_31⟩) (by decide) rfl (G_pc (pc' := 32) rfl ?_)
    refine G_iconst (n := 0) d_De_refuse_32 (by decide) (G_pc (pc' := 33) rfl ?_)
    refine G_istore (i := 4) (len := 2) (ls' := [(4, vi 0), (3, vi 0), (2, vi (M 11 k)), (0, vr 1), (1, vi k)]) (Or.inr ⟨rfl, d_De_refuse_33⟩) (by decide) rfl (G_pc (pc' := 35) rfl ?_)
    exact loop (M 11 k) 4 0 0 _ rfl (by omega) (by omega) rfl
  · skip
    replace h4 := b2i_0.mp h4
    replace h4 := inB_f.mp h4
    refine G_iconst (n := (-1)) d_De_refuse_11 (by decide) (G_pc (pc' := 12) rfl ?_)
    refine G_iret d_De_refuse_12 rfl (tokI (by decide)) rfl rfl ?_
    exact ⟨fun h => absurd h (by assumption), fun _ => ⟨rfl, rfl⟩⟩

