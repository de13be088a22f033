theorem lkA {M : Mem} {n : Int} (h : wfN M) (h0 : 0 ≤ n) (hn : n < M 55 28) : 0 ≤ n ∧ n < 32 := ⟨h0, by have := h.1.2.2; omega⟩
theorem lkB {M : Mem} {n : Int} (h : wfN M) (h0 : 0 ≤ n) (hn : n < M 55 28) : 8 ≤ M 76 n → 0 ≤ M 77 n ∧ M 77 n < 32 := (h.2 n h0 hn).2.1.1
theorem lkC {M : Mem} {n : Int} (h : wfN M) (h0 : 0 ≤ n) (hn : n < M 55 28) : 8 ≤ M 76 n → M 78 n < 32 ∧ (M 76 n = 65 → 0 ≤ M 78 n) := fun e => ⟨by have := ((h.2 n h0 hn).2.2.1 e).2; have := h.1.2.2; omega, fun e2 => ((h.2 n h0 hn).2.1.2.1 (Or.inr (Or.inr e2))).1⟩
theorem lkD {M : Mem} {n : Int} (h : wfN M) (h0 : 0 ≤ n) (hn : n < M 55 28) : M 76 n = 65 → 0 ≤ M 79 n ∧ M 79 n < 32 := (h.2 n h0 hn).2.1.2.2.1
theorem wleaf2 {M M1 : Mem} {r : Option PV} {x : Int} (h : wQ (workL (M 84 0) 1000 (work0 M)) (2, x, M1)) (hr : r = some (vi 2)) : workQ M r M1 :=
  ⟨by rw [hr, ← h.1], h.2.2, fun e => absurd (h.1.trans e) (by simp)⟩
theorem wleaf1 {M M1 M2 : Mem} {r : Option PV} {p : Int} (h : wQ (workL (M 84 0) 1000 (work0 M)) (1, p, M1)) (hr : r = some (vi 1)) (he : eqX M1 M2) (hp : M2 55 47 = p ∧ 0 ≤ p ∧ p < 423) : workQ M r M2 :=
  ⟨by rw [hr, ← h.1], eqX_tr h.2.2 he, fun _ => ⟨by rw [← h.2.1]; exact hp.1, by omega, by omega⟩⟩
theorem wleaf3 {M M1 M2 : Mem} {r : Option PV} {x : Int} (h : wQ (workL (M 84 0) 1000 (work0 M)) (3, x, M1)) (hr : r = some (vi 3)) (he : eqX M1 M2) : workQ M r M2 :=
  ⟨by rw [hr, ← h.1], eqX_tr h.2.2 he, fun e => absurd (h.1.trans e) (by simp)⟩
theorem d_Mo_work_0 : decode b_Mo_work 0 = .ok (.iconst 0, 1) := by decide +kernel
theorem d_Mo_work_1 : decode b_Mo_work 1 = .ok (.istore_n 1, 1) := by decide +kernel
theorem d_Mo_work_2 : decode b_Mo_work 2 = .ok (.iload_n 1, 1) := by decide +kernel
theorem d_Mo_work_3 : decode b_Mo_work 3 = .ok (.aload_n 0, 1) := by decide +kernel
theorem d_Mo_work_4 : decode b_Mo_work 4 = .ok (.getfield 207, 3) := by decide +kernel
theorem d_Mo_work_7 : decode b_Mo_work 7 = .ok (.if_icmp .ge 16, 3) := by decide +kernel
theorem d_Mo_work_10 : decode b_Mo_work 10 = .ok (.aload_n 0, 1) := by decide +kernel
theorem d_Mo_work_11 : decode b_Mo_work 11 = .ok (.getfield 90, 3) := by decide +kernel
theorem d_Mo_work_14 : decode b_Mo_work 14 = .ok (.iload_n 1, 1) := by decide +kernel
theorem d_Mo_work_15 : decode b_Mo_work 15 = .ok (.iconst 0, 1) := by decide +kernel
theorem d_Mo_work_16 : decode b_Mo_work 16 = .ok (.bastore, 1) := by decide +kernel
theorem d_Mo_work_17 : decode b_Mo_work 17 = .ok (.iinc 1 1, 3) := by decide +kernel
theorem d_Mo_work_20 : decode b_Mo_work 20 = .ok (.goto (-18), 3) := by decide +kernel
theorem d_Mo_work_23 : decode b_Mo_work 23 = .ok (.aload_n 0, 1) := by decide +kernel
theorem d_Mo_work_24 : decode b_Mo_work 24 = .ok (.iconst 0, 1) := by decide +kernel
theorem d_Mo_work_25 : decode b_Mo_work 25 = .ok (.putfield 280, 3) := by decide +kernel
theorem d_Mo_work_28 : decode b_Mo_work 28 = .ok (.aload_n 0, 1) := by decide +kernel
theorem d_Mo_work_29 : decode b_Mo_work 29 = .ok (.iconst (-1), 1) := by decide +kernel
theorem d_Mo_work_30 : decode b_Mo_work 30 = .ok (.putfield 277, 3) := by decide +kernel
theorem d_Mo_work_33 : decode b_Mo_work 33 = .ok (.aload_n 0, 1) := by decide +kernel
theorem d_Mo_work_34 : decode b_Mo_work 34 = .ok (.getfield 96, 3) := by decide +kernel
theorem d_Mo_work_37 : decode b_Mo_work 37 = .ok (.iconst 0, 1) := by decide +kernel
theorem d_Mo_work_38 : decode b_Mo_work 38 = .ok (.iaload, 1) := by decide +kernel
theorem d_Mo_work_39 : decode b_Mo_work 39 = .ok (.istore_n 1, 1) := by decide +kernel
theorem d_Mo_work_40 : decode b_Mo_work 40 = .ok (.iload_n 1, 1) := by decide +kernel
theorem d_Mo_work_41 : decode b_Mo_work 41 = .ok (.istore_n 2, 1) := by decide +kernel
theorem d_Mo_work_42 : decode b_Mo_work 42 = .ok (.iconst 0, 1) := by decide +kernel
theorem d_Mo_work_43 : decode b_Mo_work 43 = .ok (.istore_n 3, 1) := by decide +kernel
theorem d_Mo_work_44 : decode b_Mo_work 44 = .ok (.iload_n 3, 1) := by decide +kernel
theorem d_Mo_work_45 : decode b_Mo_work 45 = .ok (.sipush 1000, 3) := by decide +kernel
theorem d_Mo_work_48 : decode b_Mo_work 48 = .ok (.if_icmp .ge 70, 3) := by decide +kernel
theorem d_Mo_work_51 : decode b_Mo_work 51 = .ok (.aload_n 0, 1) := by decide +kernel
theorem d_Mo_work_52 : decode b_Mo_work 52 = .ok (.getfield 90, 3) := by decide +kernel
theorem d_Mo_work_55 : decode b_Mo_work 55 = .ok (.iload_n 1, 1) := by decide +kernel
theorem d_Mo_work_56 : decode b_Mo_work 56 = .ok (.baload, 1) := by decide +kernel
theorem d_Mo_work_57 : decode b_Mo_work 57 = .ok (.ifCond .ne 61, 3) := by decide +kernel
theorem d_Mo_work_60 : decode b_Mo_work 60 = .ok (.iload_n 1, 1) := by decide +kernel
theorem d_Mo_work_61 : decode b_Mo_work 61 = .ok (.istore_n 2, 1) := by decide +kernel
theorem d_Mo_work_62 : decode b_Mo_work 62 = .ok (.aload_n 0, 1) := by decide +kernel
theorem d_Mo_work_63 : decode b_Mo_work 63 = .ok (.iload_n 2, 1) := by decide +kernel
theorem d_Mo_work_64 : decode b_Mo_work 64 = .ok (.invokevirtual 283, 3) := by decide +kernel
theorem d_Mo_work_67 : decode b_Mo_work 67 = .ok (.istore 4, 2) := by decide +kernel
theorem d_Mo_work_69 : decode b_Mo_work 69 = .ok (.iload 4, 2) := by decide +kernel
theorem d_Mo_work_71 : decode b_Mo_work 71 = .ok (.ifCond .lt 16, 3) := by decide +kernel
theorem d_Mo_work_74 : decode b_Mo_work 74 = .ok (.iload 4, 2) := by decide +kernel
theorem d_Mo_work_76 : decode b_Mo_work 76 = .ok (.istore_n 2, 1) := by decide +kernel
theorem d_Mo_work_77 : decode b_Mo_work 77 = .ok (.aload_n 0, 1) := by decide +kernel
theorem d_Mo_work_78 : decode b_Mo_work 78 = .ok (.iload_n 2, 1) := by decide +kernel
theorem d_Mo_work_79 : decode b_Mo_work 79 = .ok (.invokevirtual 283, 3) := by decide +kernel
theorem d_Mo_work_82 : decode b_Mo_work 82 = .ok (.istore 4, 2) := by decide +kernel
theorem d_Mo_work_84 : decode b_Mo_work 84 = .ok (.goto (-15), 3) := by decide +kernel
theorem d_Mo_work_87 : decode b_Mo_work 87 = .ok (.aload_n 0, 1) := by decide +kernel
theorem d_Mo_work_88 : decode b_Mo_work 88 = .ok (.iload_n 2, 1) := by decide +kernel
theorem d_Mo_work_89 : decode b_Mo_work 89 = .ok (.invokevirtual 286, 3) := by decide +kernel
theorem d_Mo_work_92 : decode b_Mo_work 92 = .ok (.aload_n 0, 1) := by decide +kernel
theorem d_Mo_work_93 : decode b_Mo_work 93 = .ok (.getfield 280, 3) := by decide +kernel
theorem d_Mo_work_96 : decode b_Mo_work 96 = .ok (.ifCond .le 5, 3) := by decide +kernel
theorem d_Mo_work_99 : decode b_Mo_work 99 = .ok (.iconst 3, 1) := by decide +kernel
theorem d_Mo_work_100 : decode b_Mo_work 100 = .ok (.ireturn, 1) := by decide +kernel
theorem d_Mo_work_101 : decode b_Mo_work 101 = .ok (.aload_n 0, 1) := by decide +kernel
theorem d_Mo_work_102 : decode b_Mo_work 102 = .ok (.getfield 90, 3) := by decide +kernel
theorem d_Mo_work_105 : decode b_Mo_work 105 = .ok (.iload_n 2, 1) := by decide +kernel
theorem d_Mo_work_106 : decode b_Mo_work 106 = .ok (.baload, 1) := by decide +kernel
theorem d_Mo_work_107 : decode b_Mo_work 107 = .ok (.ifCond .ne 5, 3) := by decide +kernel
theorem d_Mo_work_110 : decode b_Mo_work 110 = .ok (.iconst 1, 1) := by decide +kernel
theorem d_Mo_work_111 : decode b_Mo_work 111 = .ok (.ireturn, 1) := by decide +kernel
theorem d_Mo_work_112 : decode b_Mo_work 112 = .ok (.iinc 3 1, 3) := by decide +kernel
theorem d_Mo_work_115 : decode b_Mo_work 115 = .ok (.goto (-71), 3) := by decide +kernel
theorem d_Mo_work_118 : decode b_Mo_work 118 = .ok (.iconst 2, 1) := by decide +kernel
theorem d_Mo_work_119 : decode b_Mo_work 119 = .ok (.ireturn, 1) := by decide +kernel
set_option maxHeartbeats 400000 in
theorem g_Mo_work {X : WX} {d : Nat} (hd : 4 ≤ d) (I : Mem → Prop) (M : Mem) (hW : WInv I) (hI0 : I (work0 M)) (hN : 0 ≤ M 55 28 ∧ M 55 28 ≤ 32) : MG X gt d KE KE y_Mo_work b_Mo_work 5 (some .int) [vr 55] M (workQ M) := by
  refine MG_of_G (by decide) (Nat.le_of_ble_eq_true rfl) (Nat.le_refl _) (by decide) ?_
  show G X gt d KE KE y_Mo_work b_Mo_work 5 (some .int) _ 0 [(0, vr 55)] [] KE M
  have outer : ∀ (f : Nat) (k n2 : Int) (M1 : Mem), k + f = 1000 → 0 ≤ k → I M1 → M1 84 0 = M 84 0 → M1 55 46 = 0 → wQ (workL (M 84 0) 1000 (work0 M)) (workL (M 84 0) f M1) → G X gt d KE KE y_Mo_work b_Mo_work 5 (some .int) (workQ M) 44 [(3, vi k), (2, vi n2), (0, vr 55), (1, vi (M 84 0))] [] KE M1 := by
    intro f
    induction f with
    | zero =>
      intro k n2 M1 hk hk0 hI h84 h46 hw
      have hWf2 := hW.1 M1 hI
      have hWf := hWf2.1
      have hroot : 0 ≤ M 84 0 ∧ M 84 0 < M1 55 28 ∧ M1 55 28 ≤ 32 := by have := hWf.1; omega
      refine G_iload (i := 3) (n := 0) (len := 1) (Or.inl ⟨3, rfl, rfl, d_Mo_work_44⟩) rfl (G_pc (pc' := 45) rfl ?_)
      refine G_sipush (n := 1000) d_Mo_work_45 (by decide) (G_pc (pc' := 48) rfl ?_)
      refine G_icmp_ge (tgt := 118) d_Mo_work_48 (by decide) (fun h4301 => ?_) (fun h4301 => absurd h4301 (by omega))
      refine G_iconst (n := 2) d_Mo_work_118 (by decide) (G_pc (pc' := 119) rfl ?_)
      refine G_iret d_Mo_work_119 rfl (tokI (by decide)) rfl rfl ?_
      rw [show workL (M 84 0) 0 M1 = (2, 0, M1) from rfl] at hw
      exact wleaf2 hw rfl
    | succ f ih =>
      intro k n2 M1 hk hk0 hI h84 h46 hw
      have hWf2 := hW.1 M1 hI
      have hWf := hWf2.1
      have hroot : 0 ≤ M 84 0 ∧ M 84 0 < M1 55 28 ∧ M1 55 28 ≤ 32 := by have := hWf.1; omega
      have inner : M1 82 (M 84 0) = 0 → ∀ (g : Nat) (m : Int), m < g → 0 ≤ m → m < M1 55 28 → M1 82 m = 0 → dscF M1 g m = dscF M1 32 (M 84 0) → G X gt d KE KE y_Mo_work b_Mo_work 5 (some .int) (workQ M) 69 [(4, vi (lackM M1 m)), (2, vi m), (3, vi k), (0, vr 55), (1, vi (M 84 0))] [] KE M1 := by
        intro hr82 g
        induction g with
        | zero => intro m hm hm0; exfalso; omega
        | succ g ihg =>
          intro m hmg hm0 hmn hm82 hdsc
          refine G_iload (i := 4) (n := 0) (len := 2) (Or.inr ⟨rfl, d_Mo_work_69⟩) rfl (G_pc (pc' := 71) rfl ?_)
          refine G_if_lt (tgt := 87) d_Mo_work_71 (by decide) (fun h4401 => ?_) (fun h4401 => G_pc (pc' := 74) rfl ?_)
          · skip
            refine G_aload (i := 0) (n := 3) (len := 1) (Or.inl ⟨0, rfl, rfl, d_Mo_work_87⟩) rfl (by decide) (G_pc (pc' := 88) rfl ?_)
            refine G_iload (i := 2) (n := 1) (len := 1) (Or.inl ⟨2, rfl, rfl, d_Mo_work_88⟩) rfl (G_pc (pc' := 89) rfl ?_)
            refine G_callV (K1 := KE) (d2 := 3) (o := 55) (cl := 9) (as := [vi m]) (rest := []) d_Mo_work_89 mf_Mo_compute ml_Mo_286 rfl rfl (by decide) rfl rfl (Nat.le_of_ble_eq_true rfl) (by omega) ⟨Nat.le_refl _, Nat.le_refl _⟩ (g_Mo_compute (by omega) m M1 hWf2.2.1 (lkA hWf (by omega) (by omega)) (hWf.2 m (by omega) (by omega)).1 (hWf.2 m (by omega) (by omega)).2.1 (hW.2.1 M1 m hI (by omega) (by omega) (by omega)) hWf2.2.2.1 hWf2.2.2.2) (fun r4402 M4403 kq4404 q4404 => ?_)
            clear kq4404; obtain ⟨q4404a, q4404b⟩ := q4404; subst r4402
            have hdm : dscF M1 32 (M 84 0) = m := hdsc.symm.trans (by simp only [dscF]; rw [if_pos (by omega)])
            rcases q4404b with ⟨cv, hc1, hc2⟩ | ⟨cp, hc1, hc2, hc3⟩ | ⟨ct, hc1, hc2, hc3, hc4⟩
            · skip
              refine G_ps (pc' := 92) (st' := []) rfl rfl ?_
              have ht46 : M4403 55 46 = 0 := (hc2 55 46 (by simp)).trans h46
              have ht82 : M4403 82 m = 1 := (hc2 82 m (by simp)).trans (by unfold setM mset; simp)
              refine G_aload (i := 0) (n := 3) (len := 1) (Or.inl ⟨0, rfl, rfl, d_Mo_work_92⟩) rfl (by decide) (G_pc (pc' := 93) rfl ?_)
              refine G_get (o := 55) (c := 9) (k := 46) (v := M4403 55 46) d_Mo_work_93 fl_Mo_280 rfl (by decide) (by decide) rfl rfl (G_pc (pc' := 96) rfl ?_)
              refine G_if_le (tgt := 101) d_Mo_work_96 (by decide) (fun h4405 => ?_) (fun h4405 => G_pc (pc' := 99) rfl ?_)
              · skip
                refine G_aload (i := 0) (n := 3) (len := 1) (Or.inl ⟨0, rfl, rfl, d_Mo_work_101⟩) rfl (by decide) (G_pc (pc' := 102) rfl ?_)
                refine G_get (o := 55) (c := 9) (k := 35) (v := 82) d_Mo_work_102 fl_Mo_90 rfl (by decide) (by decide) rfl rfl (G_pc (pc' := 105) rfl ?_)
                refine G_iload (i := 2) (n := 1) (len := 1) (Or.inl ⟨2, rfl, rfl, d_Mo_work_105⟩) rfl (G_pc (pc' := 106) rfl ?_)
                refine G_zaload (o := 82) (n := 32) (i := m) (v := M4403 82 m) d_Mo_work_106 rfl ⟨by decide, by decide⟩ (by omega) (rd_arr rfl) (fun t4406 => G_pc (pc' := 107) rfl ?_)
                have t4406 := tok_z t4406
                refine G_if_ne (tgt := 112) d_Mo_work_107 (by decide) (fun h4407 => ?_) (fun h4407 => G_pc (pc' := 110) rfl ?_)
                · skip
                  refine G_iinc (i := 3) (n := 2) (z := 1) (ls' := [(3, vi (k + 1)), (4, vi (lackM M1 m)), (2, vi m), (0, vr 55), (1, vi (M 84 0))]) d_Mo_work_112 rfl (by decide) (by omega) rfl (G_pc (pc' := 115) rfl ?_)
                  refine G_goto (tgt := 44) d_Mo_work_115 (by decide) ?_
                  refine G_ls (ls' := [(3, vi (k + 1)), (2, vi m), (0, vr 55), (1, vi (M 84 0))]) (by intro z hz; simp only [List.mem_cons] at hz ⊢; grind) ?_
                  refine ih (k + 1) m M4403 (by omega) (by omega) (hW.2.2 M1 M4403 m cv hI (by omega) (by omega) (by omega) hc1 hc2) ((hc2 84 0 (by simp)).trans h84) ht46 ?_
                  rw [workL_v (M := M1) (by assumption) hdm hc1] at hw
                  exact wQ_tr hw (workL_eqX _ _ hc2)
                · skip
                  refine G_iconst (n := 1) d_Mo_work_110 (by decide) (G_pc (pc' := 111) rfl ?_)
                  refine G_iret d_Mo_work_111 rfl (tokI (by decide)) rfl rfl ?_
                  exfalso; omega
              · skip
                refine G_iconst (n := 3) d_Mo_work_99 (by decide) (G_pc (pc' := 100) rfl ?_)
                refine G_iret d_Mo_work_100 rfl (tokI (by decide)) rfl rfl ?_
                exfalso; omega
            · skip
              refine G_ps (pc' := 92) (st' := []) rfl rfl ?_
              have ht46 : M4403 55 46 = 0 := (hc2 55 46 (by simp)).trans h46
              have ht82 : M4403 82 m = 0 := (hc2 82 m (by simp)).trans hm82
              refine G_aload (i := 0) (n := 3) (len := 1) (Or.inl ⟨0, rfl, rfl, d_Mo_work_92⟩) rfl (by decide) (G_pc (pc' := 93) rfl ?_)
              refine G_get (o := 55) (c := 9) (k := 46) (v := M4403 55 46) d_Mo_work_93 fl_Mo_280 rfl (by decide) (by decide) rfl rfl (G_pc (pc' := 96) rfl ?_)
              refine G_if_le (tgt := 101) d_Mo_work_96 (by decide) (fun h4408 => ?_) (fun h4408 => G_pc (pc' := 99) rfl ?_)
              · skip
                refine G_aload (i := 0) (n := 3) (len := 1) (Or.inl ⟨0, rfl, rfl, d_Mo_work_101⟩) rfl (by decide) (G_pc (pc' := 102) rfl ?_)
                refine G_get (o := 55) (c := 9) (k := 35) (v := 82) d_Mo_work_102 fl_Mo_90 rfl (by decide) (by decide) rfl rfl (G_pc (pc' := 105) rfl ?_)
                refine G_iload (i := 2) (n := 1) (len := 1) (Or.inl ⟨2, rfl, rfl, d_Mo_work_105⟩) rfl (G_pc (pc' := 106) rfl ?_)
                refine G_zaload (o := 82) (n := 32) (i := m) (v := M4403 82 m) d_Mo_work_106 rfl ⟨by decide, by decide⟩ (by omega) (rd_arr rfl) (fun t4409 => G_pc (pc' := 107) rfl ?_)
                have t4409 := tok_z t4409
                refine G_if_ne (tgt := 112) d_Mo_work_107 (by decide) (fun h4410 => ?_) (fun h4410 => G_pc (pc' := 110) rfl ?_)
                · skip
                  refine G_iinc (i := 3) (n := 2) (z := 1) (ls' := [(3, vi (k + 1)), (4, vi (lackM M1 m)), (2, vi m), (0, vr 55), (1, vi (M 84 0))]) d_Mo_work_112 rfl (by decide) (by omega) rfl (G_pc (pc' := 115) rfl ?_)
                  refine G_goto (tgt := 44) d_Mo_work_115 (by decide) ?_
                  exfalso; omega
                · skip
                  refine G_iconst (n := 1) d_Mo_work_110 (by decide) (G_pc (pc' := 111) rfl ?_)
                  refine G_iret d_Mo_work_111 rfl (tokI (by decide)) rfl rfl ?_
                  first | (exfalso; omega) | (rw [workL_p (M := M1) (by assumption) hdm hc1] at hw; exact wleaf1 hw rfl hc2 hc3)
              · skip
                refine G_iconst (n := 3) d_Mo_work_99 (by decide) (G_pc (pc' := 100) rfl ?_)
                refine G_iret d_Mo_work_100 rfl (tokI (by decide)) rfl rfl ?_
                exfalso; omega
            · skip
              refine G_ps (pc' := 92) (st' := []) rfl rfl ?_
              have ht46 : M4403 55 46 = ct := (hc4 55 46 (by simp)).trans (by unfold mset; simp)
              refine G_aload (i := 0) (n := 3) (len := 1) (Or.inl ⟨0, rfl, rfl, d_Mo_work_92⟩) rfl (by decide) (G_pc (pc' := 93) rfl ?_)
              refine G_get (o := 55) (c := 9) (k := 46) (v := M4403 55 46) d_Mo_work_93 fl_Mo_280 rfl (by decide) (by decide) rfl rfl (G_pc (pc' := 96) rfl ?_)
              refine G_if_le (tgt := 101) d_Mo_work_96 (by decide) (fun h4411 => ?_) (fun h4411 => G_pc (pc' := 99) rfl ?_)
              · skip
                refine G_aload (i := 0) (n := 3) (len := 1) (Or.inl ⟨0, rfl, rfl, d_Mo_work_101⟩) rfl (by decide) (G_pc (pc' := 102) rfl ?_)
                refine G_get (o := 55) (c := 9) (k := 35) (v := 82) d_Mo_work_102 fl_Mo_90 rfl (by decide) (by decide) rfl rfl (G_pc (pc' := 105) rfl ?_)
                refine G_iload (i := 2) (n := 1) (len := 1) (Or.inl ⟨2, rfl, rfl, d_Mo_work_105⟩) rfl (G_pc (pc' := 106) rfl ?_)
                refine G_zaload (o := 82) (n := 32) (i := m) (v := M4403 82 m) d_Mo_work_106 rfl ⟨by decide, by decide⟩ (by omega) (rd_arr rfl) (fun t4412 => G_pc (pc' := 107) rfl ?_)
                have t4412 := tok_z t4412
                refine G_if_ne (tgt := 112) d_Mo_work_107 (by decide) (fun h4413 => ?_) (fun h4413 => G_pc (pc' := 110) rfl ?_)
                · skip
                  refine G_iinc (i := 3) (n := 2) (z := 1) (ls' := [(3, vi (k + 1)), (4, vi (lackM M1 m)), (2, vi m), (0, vr 55), (1, vi (M 84 0))]) d_Mo_work_112 rfl (by decide) (by omega) rfl (G_pc (pc' := 115) rfl ?_)
                  refine G_goto (tgt := 44) d_Mo_work_115 (by decide) ?_
                  exfalso; omega
                · skip
                  refine G_iconst (n := 1) d_Mo_work_110 (by decide) (G_pc (pc' := 111) rfl ?_)
                  refine G_iret d_Mo_work_111 rfl (tokI (by decide)) rfl rfl ?_
                  exfalso; omega
              · skip
                refine G_iconst (n := 3) d_Mo_work_99 (by decide) (G_pc (pc' := 100) rfl ?_)
                refine G_iret d_Mo_work_100 rfl (tokI (by decide)) rfl rfl ?_
                rw [workL_t (M := M1) (by assumption) hdm hc1] at hw
                exact wleaf3 hw rfl hc4
          · skip
            refine G_iload (i := 4) (n := 0) (len := 2) (Or.inr ⟨rfl, d_Mo_work_74⟩) rfl (G_pc (pc' := 76) rfl ?_)
            have hlk9 := lack_in hWf hm0 hmn (by omega)
            refine G_istore (i := 2) (len := 1) (ls' := [(2, vi (lackM M1 m)), (4, vi (lackM M1 m)), (3, vi k), (0, vr 55), (1, vi (M 84 0))]) (Or.inl ⟨2, rfl, rfl, d_Mo_work_76⟩) (by decide) rfl (G_pc (pc' := 77) rfl ?_)
            refine G_aload (i := 0) (n := 3) (len := 1) (Or.inl ⟨0, rfl, rfl, d_Mo_work_77⟩) rfl (by decide) (G_pc (pc' := 78) rfl ?_)
            refine G_iload (i := 2) (n := 0) (len := 1) (Or.inl ⟨2, rfl, rfl, d_Mo_work_78⟩) rfl (G_pc (pc' := 79) rfl ?_)
            refine G_callV (K1 := KE) (d2 := 0) (o := 55) (cl := 9) (as := [vi (lackM M1 m)]) (rest := []) d_Mo_work_79 mf_Mo_lacks ml_Mo_283 rfl rfl (by decide) rfl rfl (Nat.le_of_ble_eq_true rfl) (by omega) ⟨Nat.le_refl _, Nat.le_refl _⟩ (g_Mo_lacks (by omega) (lackM M1 m) _ (lkA hWf (by omega) (by omega)) (lkB hWf (by omega) (by omega)) (lkC hWf (by omega) (by omega)) (lkD hWf (by omega) (by omega))) (fun r4414 M4415 kq4416 q4416 => ?_)
            clear kq4416; obtain ⟨q4416a, q4416b⟩ := q4416; subst r4414; subst M4415
            refine G_ps (pc' := 82) (st' := [vi (lackM M1 (lackM M1 m))]) rfl rfl ?_
            refine G_istore (i := 4) (len := 2) (ls' := [(4, vi (lackM M1 (lackM M1 m))), (2, vi (lackM M1 m)), (3, vi k), (0, vr 55), (1, vi (M 84 0))]) (Or.inr ⟨rfl, d_Mo_work_82⟩) (by decide) rfl (G_pc (pc' := 84) rfl ?_)
            refine G_goto (tgt := 69) d_Mo_work_84 (by decide) ?_
            have hlk := lack_in hWf hm0 hmn (by omega)
            exact ihg (lackM M1 m) (by omega) (by omega) (by omega) hlk.2 (Eq.trans (by simp only [dscF]; rw [if_neg (by omega)]) hdsc)
      refine G_iload (i := 3) (n := 0) (len := 1) (Or.inl ⟨3, rfl, rfl, d_Mo_work_44⟩) rfl (G_pc (pc' := 45) rfl ?_)
      refine G_sipush (n := 1000) d_Mo_work_45 (by decide) (G_pc (pc' := 48) rfl ?_)
      refine G_icmp_ge (tgt := 118) d_Mo_work_48 (by decide) (fun h4501 => absurd h4501 (by omega)) (fun h4501 => G_pc (pc' := 51) rfl ?_)
      refine G_aload (i := 0) (n := 2) (len := 1) (Or.inl ⟨0, rfl, rfl, d_Mo_work_51⟩) rfl (by decide) (G_pc (pc' := 52) rfl ?_)
      refine G_get (o := 55) (c := 9) (k := 35) (v := 82) d_Mo_work_52 fl_Mo_90 rfl (by decide) (by decide) rfl rfl (G_pc (pc' := 55) rfl ?_)
      refine G_iload (i := 1) (n := 3) (len := 1) (Or.inl ⟨1, rfl, rfl, d_Mo_work_55⟩) rfl (G_pc (pc' := 56) rfl ?_)
      refine G_zaload (o := 82) (n := 32) (i := (M 84 0)) (v := M1 82 (M 84 0)) d_Mo_work_56 rfl ⟨by decide, by decide⟩ (by omega) (rd_arr rfl) (fun t4502 => G_pc (pc' := 57) rfl ?_)
      have t4502 := tok_z t4502
      refine G_if_ne (tgt := 118) d_Mo_work_57 (by decide) (fun h4503 => ?_) (fun h4503 => G_pc (pc' := 60) rfl ?_)
      · skip
        refine G_iconst (n := 2) d_Mo_work_118 (by decide) (G_pc (pc' := 119) rfl ?_)
        refine G_iret d_Mo_work_119 rfl (tokI (by decide)) rfl rfl ?_
        rw [workL_d (M := M1) (by assumption)] at hw
        exact wleaf2 hw rfl
      · skip
        refine G_iload (i := 1) (n := 3) (len := 1) (Or.inl ⟨1, rfl, rfl, d_Mo_work_60⟩) rfl (G_pc (pc' := 61) rfl ?_)
        refine G_istore (i := 2) (len := 1) (ls' := [(2, vi (M 84 0)), (3, vi k), (0, vr 55), (1, vi (M 84 0))]) (Or.inl ⟨2, rfl, rfl, d_Mo_work_61⟩) (by decide) rfl (G_pc (pc' := 62) rfl ?_)
        refine G_aload (i := 0) (n := 2) (len := 1) (Or.inl ⟨0, rfl, rfl, d_Mo_work_62⟩) rfl (by decide) (G_pc (pc' := 63) rfl ?_)
        refine G_iload (i := 2) (n := 0) (len := 1) (Or.inl ⟨2, rfl, rfl, d_Mo_work_63⟩) rfl (G_pc (pc' := 64) rfl ?_)
        refine G_callV (K1 := KE) (d2 := 0) (o := 55) (cl := 9) (as := [vi (M 84 0)]) (rest := []) d_Mo_work_64 mf_Mo_lacks ml_Mo_283 rfl rfl (by decide) rfl rfl (Nat.le_of_ble_eq_true rfl) (by omega) ⟨Nat.le_refl _, Nat.le_refl _⟩ (g_Mo_lacks (by omega) (M 84 0) _ (lkA hWf (by omega) (by omega)) (lkB hWf (by omega) (by omega)) (lkC hWf (by omega) (by omega)) (lkD hWf (by omega) (by omega))) (fun r4504 M4505 kq4506 q4506 => ?_)
        clear kq4506; obtain ⟨q4506a, q4506b⟩ := q4506; subst r4504; subst M4505
        refine G_ps (pc' := 67) (st' := [vi (lackM M1 (M 84 0))]) rfl rfl ?_
        refine G_istore (i := 4) (len := 2) (ls' := [(4, vi (lackM M1 (M 84 0))), (2, vi (M 84 0)), (3, vi k), (0, vr 55), (1, vi (M 84 0))]) (Or.inr ⟨rfl, d_Mo_work_67⟩) (by decide) rfl (G_pc (pc' := 69) rfl ?_)
        exact inner (by assumption) 32 (M 84 0) (by omega) (by omega) (by omega) (by assumption) rfl
  have clear : ∀ (n : Nat) (j : Int), j + n = M 55 28 → 0 ≤ j → G X gt d KE KE y_Mo_work b_Mo_work 5 (some .int) (workQ M) 2 [(1, vi j), (0, vr 55)] [] KE (clrM M j) := by
    intro n
    induction n with
    | zero =>
      intro j hj1 hj0
      have hc28 : clrM M j 55 28 = M 55 28 := rfl
      refine G_iload (i := 1) (n := 0) (len := 1) (Or.inl ⟨1, rfl, rfl, d_Mo_work_2⟩) rfl (G_pc (pc' := 3) rfl ?_)
      refine G_aload (i := 0) (n := 1) (len := 1) (Or.inl ⟨0, rfl, rfl, d_Mo_work_3⟩) rfl (by decide) (G_pc (pc' := 4) rfl ?_)
      refine G_get (o := 55) (c := 9) (k := 28) (v := M 55 28) d_Mo_work_4 fl_Mo_207 rfl (by decide) (by decide) rfl rfl (G_pc (pc' := 7) rfl ?_)
      refine G_icmp_ge (tgt := 23) d_Mo_work_7 (by decide) (fun h4601 => ?_) (fun h4601 => absurd h4601 (by omega))
      refine G_aload (i := 0) (n := 1) (len := 1) (Or.inl ⟨0, rfl, rfl, d_Mo_work_23⟩) rfl (by decide) (G_pc (pc' := 24) rfl ?_)
      refine G_iconst (n := 0) d_Mo_work_24 (by decide) (G_pc (pc' := 25) rfl ?_)
      refine G_putL (o := 55) (c := 9) (k := 46) (ki := 46) (x := 0) d_Mo_work_25 fl_Mo_280 rfl rfl (by decide) (by decide) (by decide) rfl rfl (tokI (by decide)) rfl (G_pc (pc' := 28) rfl ?_)
      refine G_aload (i := 0) (n := 1) (len := 1) (Or.inl ⟨0, rfl, rfl, d_Mo_work_28⟩) rfl (by decide) (G_pc (pc' := 29) rfl ?_)
      refine G_iconst (n := (-1)) d_Mo_work_29 (by decide) (G_pc (pc' := 30) rfl ?_)
      refine G_putL (o := 55) (c := 9) (k := 47) (ki := 47) (x := (-1)) d_Mo_work_30 fl_Mo_277 rfl rfl (by decide) (by decide) (by decide) rfl rfl (tokI (by decide)) rfl (G_pc (pc' := 33) rfl ?_)
      refine G_aload (i := 0) (n := 1) (len := 1) (Or.inl ⟨0, rfl, rfl, d_Mo_work_33⟩) rfl (by decide) (G_pc (pc' := 34) rfl ?_)
      refine G_get (o := 55) (c := 9) (k := 38) (v := 84) d_Mo_work_34 fl_Mo_96 rfl (by decide) (by decide) rfl rfl (G_pc (pc' := 37) rfl ?_)
      refine G_iconst (n := 0) d_Mo_work_37 (by decide) (G_pc (pc' := 38) rfl ?_)
      refine G_iaload (o := 84) (n := 32) (i := 0) (v := M 84 0) d_Mo_work_38 rfl ⟨by decide, by decide⟩ (by omega) (rd_arr rfl) (fun t4602 => G_pc (pc' := 39) rfl ?_)
      have t4602 := tok_i t4602
      refine G_istore (i := 1) (len := 1) (ls' := [(1, vi (M 84 0)), (0, vr 55)]) (Or.inl ⟨1, rfl, rfl, d_Mo_work_39⟩) (by decide) rfl (G_pc (pc' := 40) rfl ?_)
      refine G_iload (i := 1) (n := 0) (len := 1) (Or.inl ⟨1, rfl, rfl, d_Mo_work_40⟩) rfl (G_pc (pc' := 41) rfl ?_)
      refine G_istore (i := 2) (len := 1) (ls' := [(2, vi (M 84 0)), (1, vi (M 84 0)), (0, vr 55)]) (Or.inl ⟨2, rfl, rfl, d_Mo_work_41⟩) (by decide) rfl (G_pc (pc' := 42) rfl ?_)
      refine G_iconst (n := 0) d_Mo_work_42 (by decide) (G_pc (pc' := 43) rfl ?_)
      refine G_istore (i := 3) (len := 1) (ls' := [(3, vi 0), (2, vi (M 84 0)), (1, vi (M 84 0)), (0, vr 55)]) (Or.inl ⟨3, rfl, rfl, d_Mo_work_43⟩) (by decide) rfl (G_pc (pc' := 44) rfl ?_)
      refine G_ls (ls' := [(3, vi 0), (2, vi (M 84 0)), (0, vr 55), (1, vi (M 84 0))]) (by intro z hz; simp only [List.mem_cons] at hz ⊢; grind) ?_
      have hj : j = M 55 28 := by omega
      subst hj
      exact outer 1000 0 _ _ (by omega) (by omega) hI0 rfl rfl ⟨rfl, rfl, eqX_rfl⟩
    | succ n ih =>
      intro j hj1 hj0
      have hc28 : clrM M j 55 28 = M 55 28 := rfl
      refine G_iload (i := 1) (n := 0) (len := 1) (Or.inl ⟨1, rfl, rfl, d_Mo_work_2⟩) rfl (G_pc (pc' := 3) rfl ?_)
      refine G_aload (i := 0) (n := 1) (len := 1) (Or.inl ⟨0, rfl, rfl, d_Mo_work_3⟩) rfl (by decide) (G_pc (pc' := 4) rfl ?_)
      refine G_get (o := 55) (c := 9) (k := 28) (v := M 55 28) d_Mo_work_4 fl_Mo_207 rfl (by decide) (by decide) rfl rfl (G_pc (pc' := 7) rfl ?_)
      refine G_icmp_ge (tgt := 23) d_Mo_work_7 (by decide) (fun h4701 => absurd h4701 (by omega)) (fun h4701 => G_pc (pc' := 10) rfl ?_)
      refine G_aload (i := 0) (n := 1) (len := 1) (Or.inl ⟨0, rfl, rfl, d_Mo_work_10⟩) rfl (by decide) (G_pc (pc' := 11) rfl ?_)
      refine G_get (o := 55) (c := 9) (k := 35) (v := 82) d_Mo_work_11 fl_Mo_90 rfl (by decide) (by decide) rfl rfl (G_pc (pc' := 14) rfl ?_)
      refine G_iload (i := 1) (n := 0) (len := 1) (Or.inl ⟨1, rfl, rfl, d_Mo_work_14⟩) rfl (G_pc (pc' := 15) rfl ?_)
      refine G_iconst (n := 0) d_Mo_work_15 (by decide) (G_pc (pc' := 16) rfl ?_)
      refine G_zastore (o := 82) (n := 32) (i := j) (x := 0) d_Mo_work_16 rfl ⟨by decide, by decide⟩ (by decide) (gt_arr rfl _) (by omega) (tokZ (by decide)) (G_pc (pc' := 17) rfl ?_)
      refine G_iinc (i := 1) (n := 0) (z := 1) (ls' := [(1, vi (j + 1)), (0, vr 55)]) d_Mo_work_17 rfl (by decide) (by omega) rfl (G_pc (pc' := 20) rfl ?_)
      refine G_goto (tgt := 2) d_Mo_work_20 (by decide) ?_
      rw [clrM_s (by omega)]
      exact ih (j + 1) (by omega) (by omega)
  refine G_iconst (n := 0) d_Mo_work_0 (by decide) (G_pc (pc' := 1) rfl ?_)
  refine G_istore (i := 1) (len := 1) (ls' := [(1, vi 0), (0, vr 55)]) (Or.inl ⟨1, rfl, rfl, d_Mo_work_1⟩) (by decide) rfl (G_pc (pc' := 2) rfl ?_)
  have h9 := clear (M 55 28).toNat 0 (by omega) (by omega)
  rw [clrM_0] at h9
  exact h9

