def frX (e : Nat) (M M' : Mem) : Prop := ∀ c i, ¬ (rcell e c i ∨ (14 ≤ c ∧ c ≤ 17) ∨ (c = 13 ∧ i = 1)) → M' c i = M c i
def dfF (F : List (Int × Int) × Int) : Option (List ND × List SD) := if F.2 = 0 ∧ F.1.length ≤ 24 then descF (TF F.1) (WF F.1) else none
def rd0 (e : Nat) (M M1 : Mem) : Prop := M1 13 1 = ((20 + 9 * e : Nat) : Int) ∧ M1 (20 + 9 * e) 6 = 0 ∧ M1 13 2 = 0 ∧ M1 13 3 = 0 ∧ M1 13 4 = 0 ∧ frX e M M1
theorem rd0_i {e : Nat} {M : Mem} (he : e < 4) : rd0 e M (mset (mset (mset (mset (mset M 13 1 ((20 + 9 * e : Nat) : Int)) (20 + 9 * e) 6 0) 13 2 0) 13 3 0) 13 4 0) := by
  refine ⟨?_, ?_, ?_, ?_, rfl, fun c i h => ?_⟩
  · rw [mset_ni (by omega), mset_ni (by omega), mset_ni (by omega), mset_ne (by omega), mset_eq rfl]
  · rw [mset_ne (by omega), mset_ne (by omega), mset_ne (by omega), mset_eq rfl]
  · rw [mset_ni (by omega), mset_ni (by omega), mset_eq rfl]
  · rw [mset_ni (by omega), mset_eq rfl]
  · have hh : ∀ (M9 : Mem) (j v : Int), (j = 1 ∨ j = 2 ∨ j = 3 ∨ j = 4) → mset M9 13 j v c i = M9 c i := fun M9 j v hj => if_neg (by rintro ⟨rfl, rfl⟩; apply h; unfold rcell; omega)
    rw [hh _ 4 _ (by omega), hh _ 3 _ (by omega), hh _ 2 _ (by omega)]
    rw [show ∀ (M9 : Mem) (v : Int), mset M9 (20 + 9 * e) 6 v c i = M9 c i from fun M9 v => if_neg (by rintro ⟨rfl, rfl⟩; apply h; unfold rcell; omega), hh _ 1 _ (by omega)]
theorem descF_n {T W : Int → Int} (h : desc T W 125 0 0 (0, [], [], 0, 0, 0) = none) : descF T W = none := by unfold descF; rw [h]
theorem descF_s {T W : Int → Int} {k o a c : Int} {N : List ND} {S : List SD} (h : desc T W 125 0 0 (0, [], [], 0, 0, 0) = some (k, N, S, o, a, c)) (h2 : T k = 0) : descF T W = some (N, S) := by unfold descF; rw [h]; exact if_pos h2
theorem descF_x {T W : Int → Int} {k o a c : Int} {N : List ND} {S : List SD} (h : desc T W 125 0 0 (0, [], [], 0, 0, 0) = some (k, N, S, o, a, c)) (h2 : ¬ T k = 0) : descF T W = none := by unfold descF; rw [h]; exact if_neg h2
def rdQ (e : Nat) (M : Mem) (D : Option (List ND × List SD)) (r : Option PV) (M' : Mem) : Prop := (D = none → r = some (vi 0) ∧ frX e M M') ∧ ∀ N S, D = some (N, S) → r = some (vi 1) ∧ stp e M' S ∧ frX e M M'
theorem rdQ_n {e : Nat} {M M' : Mem} {D : Option (List ND × List SD)} {r : Option PV} (h : D = none) (hr : r = some (vi 0)) (hM : frX e M M') : rdQ e M D r M' := ⟨fun _ => ⟨hr, hM⟩, fun N S e => by rw [h] at e; cases e⟩
theorem rdQ_s {e : Nat} {M M' : Mem} {D : Option (List ND × List SD)} {r : Option PV} {N : List ND} {S : List SD} (h : D = some (N, S)) (hr : r = some (vi 1)) (hs : stp e M' S) (hM : frX e M M') : rdQ e M D r M' := ⟨fun e => (by rw [h] at e; cases e), fun N' S' e => (by rw [h] at e; cases e; exact ⟨hr, hs, hM⟩)⟩
theorem frX_T {e : Nat} {M M1 M2 : Mem} (h : frX e M M1) (h2 : frT M1 M2) : frX e M M2 := fun c i hc => (h2 c i (fun h9 => hc (Or.inr (Or.inl h9)))).trans (h c i hc)
theorem frX_R {e : Nat} {M M1 M2 : Mem} (h : frX e M M1) (h2 : frR e M1 M2) : frX e M M2 := fun c i hc => (h2 c i (fun h9 => hc (Or.inl h9))).trans (h c i hc)
theorem d_Re_reads_0 : decode b_Re_reads 0 = .ok (.aload_n 0, 1) := by decide +kernel
theorem d_Re_reads_1 : decode b_Re_reads 1 = .ok (.aload_n 3, 1) := by decide +kernel
theorem d_Re_reads_2 : decode b_Re_reads 2 = .ok (.putfield 18, 3) := by decide +kernel
theorem d_Re_reads_5 : decode b_Re_reads 5 = .ok (.aload_n 0, 1) := by decide +kernel
theorem d_Re_reads_6 : decode b_Re_reads 6 = .ok (.getfield 18, 3) := by decide +kernel
theorem d_Re_reads_9 : decode b_Re_reads 9 = .ok (.invokevirtual 22, 3) := by decide +kernel
theorem d_Re_reads_12 : decode b_Re_reads 12 = .ok (.aload_n 0, 1) := by decide +kernel
theorem d_Re_reads_13 : decode b_Re_reads 13 = .ok (.iconst 0, 1) := by decide +kernel
theorem d_Re_reads_14 : decode b_Re_reads 14 = .ok (.putfield 27, 3) := by decide +kernel
theorem d_Re_reads_17 : decode b_Re_reads 17 = .ok (.aload_n 0, 1) := by decide +kernel
theorem d_Re_reads_18 : decode b_Re_reads 18 = .ok (.iconst 0, 1) := by decide +kernel
theorem d_Re_reads_19 : decode b_Re_reads 19 = .ok (.putfield 31, 3) := by decide +kernel
theorem d_Re_reads_22 : decode b_Re_reads 22 = .ok (.aload_n 0, 1) := by decide +kernel
theorem d_Re_reads_23 : decode b_Re_reads 23 = .ok (.iconst 0, 1) := by decide +kernel
theorem d_Re_reads_24 : decode b_Re_reads 24 = .ok (.putfield 34, 3) := by decide +kernel
theorem d_Re_reads_27 : decode b_Re_reads 27 = .ok (.aload_n 0, 1) := by decide +kernel
theorem d_Re_reads_28 : decode b_Re_reads 28 = .ok (.getfield 12, 3) := by decide +kernel
theorem d_Re_reads_31 : decode b_Re_reads 31 = .ok (.aload_n 1, 1) := by decide +kernel
theorem d_Re_reads_32 : decode b_Re_reads 32 = .ok (.iload_n 2, 1) := by decide +kernel
theorem d_Re_reads_33 : decode b_Re_reads 33 = .ok (.invokevirtual 37, 3) := by decide +kernel
theorem d_Re_reads_36 : decode b_Re_reads 36 = .ok (.ifCond .eq 12, 3) := by decide +kernel
theorem d_Re_reads_39 : decode b_Re_reads 39 = .ok (.aload_n 0, 1) := by decide +kernel
theorem d_Re_reads_40 : decode b_Re_reads 40 = .ok (.iconst 0, 1) := by decide +kernel
theorem d_Re_reads_41 : decode b_Re_reads 41 = .ok (.invokevirtual 41, 3) := by decide +kernel
theorem d_Re_reads_44 : decode b_Re_reads 44 = .ok (.iconst (-1), 1) := by decide +kernel
theorem d_Re_reads_45 : decode b_Re_reads 45 = .ok (.if_icmp .ne 5, 3) := by decide +kernel
theorem d_Re_reads_48 : decode b_Re_reads 48 = .ok (.iconst 0, 1) := by decide +kernel
theorem d_Re_reads_49 : decode b_Re_reads 49 = .ok (.ireturn, 1) := by decide +kernel
theorem d_Re_reads_50 : decode b_Re_reads 50 = .ok (.aload_n 0, 1) := by decide +kernel
theorem d_Re_reads_51 : decode b_Re_reads 51 = .ok (.getfield 12, 3) := by decide +kernel
theorem d_Re_reads_54 : decode b_Re_reads 54 = .ok (.aload_n 0, 1) := by decide +kernel
theorem d_Re_reads_55 : decode b_Re_reads 55 = .ok (.getfield 27, 3) := by decide +kernel
theorem d_Re_reads_58 : decode b_Re_reads 58 = .ok (.invokevirtual 45, 3) := by decide +kernel
theorem d_Re_reads_61 : decode b_Re_reads 61 = .ok (.ifCond .ne 7, 3) := by decide +kernel
theorem d_Re_reads_64 : decode b_Re_reads 64 = .ok (.iconst 1, 1) := by decide +kernel
theorem d_Re_reads_65 : decode b_Re_reads 65 = .ok (.goto 4, 3) := by decide +kernel
theorem d_Re_reads_68 : decode b_Re_reads 68 = .ok (.iconst 0, 1) := by decide +kernel
theorem d_Re_reads_69 : decode b_Re_reads 69 = .ok (.ireturn, 1) := by decide +kernel
set_option maxHeartbeats 1000000 in
theorem g_Re_reads {X : WX} {d : Nat} (hd : 406 ≤ d) (e : Nat) (f : Int → Int) (len : Int) (F : List (Int × Int) × Int) (M : Mem) (he : e < 4) (hlen : 0 ≤ len ∧ len ≤ 40) (hch : ∀ k, 0 ≤ k → k < len → M (27 + 9 * e) k = f k ∧ 32 ≤ f k ∧ f k ≤ 126) (hz : ∀ k, len ≤ k → f k = 0) (hF : lexL f len 41 0 [] = F) : MG X gt d KE KE y_Re_reads b_Re_reads 4 (some .boolean) [vr 13, vr ((27 + 9 * e : Nat) : Int), vi len, vr ((20 + 9 * e : Nat) : Int)] M (rdQ e M (dfF F)) := by
  refine MG_of_G (by decide) (Nat.le_of_ble_eq_true rfl) (Nat.le_refl _) (by decide) ?_
  show G X gt d KE KE y_Re_reads b_Re_reads 4 (some .boolean) _ 0 [(0, vr 13), (1, vr ((27 + 9 * e : Nat) : Int)), (2, vi len), (3, vr ((20 + 9 * e : Nat) : Int))] [] KE M
  refine G_rngl (i := 2) rfl (fun hr2 => ?_)
  refine G_aload (i := 0) (n := 0) (len := 1) (Or.inl ⟨0, rfl, rfl, d_Re_reads_0⟩) rfl (by decide) (G_pc (pc' := 1) rfl ?_)
  refine G_aload (i := 3) (n := 3) (len := 1) (Or.inl ⟨3, rfl, rfl, d_Re_reads_1⟩) rfl (by omega) (G_pc (pc' := 2) rfl ?_)
  refine G_putL (o := 13) (c := 4) (k := 1) (ki := 1) (x := ((20 + 9 * e : Nat) : Int)) d_Re_reads_2 fl_Re_18 rfl rfl (by decide) (by decide) (by decide) rfl rfl (tokO (by omega)) rfl (G_pc (pc' := 5) rfl ?_)
  refine G_aload (i := 0) (n := 0) (len := 1) (Or.inl ⟨0, rfl, rfl, d_Re_reads_5⟩) rfl (by decide) (G_pc (pc' := 6) rfl ?_)
  refine G_get (o := 13) (c := 4) (k := 1) (v := ((20 + 9 * e : Nat) : Int)) d_Re_reads_6 fl_Re_18 rfl (by decide) (by decide) rfl rfl (G_pc (pc' := 9) rfl ?_)
  refine G_callV (K1 := KE) (d2 := 0) (o := (20 + 9 * e)) (cl := 5) (as := []) (rest := []) d_Re_reads_9 mf_St_clear ml_Re_22 (kd_St he) rfl (by show 20 + 9 * e < 87; omega) rfl rfl (Nat.le_of_ble_eq_true rfl) (by omega) ⟨Nat.le_refl _, Nat.le_refl _⟩ (g_St_clear (by omega) e  _ he) (fun r1 M2 kq3 q3 => ?_)
  clear kq3; obtain ⟨q3a, q3b⟩ := q3; subst r1; subst M2
  refine G_ps (pc' := 12) (st' := []) rfl rfl ?_
  refine G_aload (i := 0) (n := 0) (len := 1) (Or.inl ⟨0, rfl, rfl, d_Re_reads_12⟩) rfl (by decide) (G_pc (pc' := 13) rfl ?_)
  refine G_iconst (n := 0) d_Re_reads_13 (by decide) (G_pc (pc' := 14) rfl ?_)
  refine G_putL (o := 13) (c := 4) (k := 2) (ki := 2) (x := 0) d_Re_reads_14 fl_Re_27 rfl rfl (by decide) (by decide) (by decide) rfl rfl (tokI (by decide)) rfl (G_pc (pc' := 17) rfl ?_)
  refine G_aload (i := 0) (n := 0) (len := 1) (Or.inl ⟨0, rfl, rfl, d_Re_reads_17⟩) rfl (by decide) (G_pc (pc' := 18) rfl ?_)
  refine G_iconst (n := 0) d_Re_reads_18 (by decide) (G_pc (pc' := 19) rfl ?_)
  refine G_putL (o := 13) (c := 4) (k := 3) (ki := 3) (x := 0) d_Re_reads_19 fl_Re_31 rfl rfl (by decide) (by decide) (by decide) rfl rfl (tokI (by decide)) rfl (G_pc (pc' := 22) rfl ?_)
  refine G_aload (i := 0) (n := 0) (len := 1) (Or.inl ⟨0, rfl, rfl, d_Re_reads_22⟩) rfl (by decide) (G_pc (pc' := 23) rfl ?_)
  refine G_iconst (n := 0) d_Re_reads_23 (by decide) (G_pc (pc' := 24) rfl ?_)
  refine G_putL (o := 13) (c := 4) (k := 4) (ki := 4) (x := 0) d_Re_reads_24 fl_Re_34 rfl rfl (by decide) (by decide) (by decide) rfl rfl (tokI (by decide)) rfl (G_pc (pc' := 27) rfl ?_)
  refine G_abs (R := rd0 e M) (rd0_i he) (fun M1 h0 => ?_)
  obtain ⟨h01, h02, h03, h04, h05, h06⟩ := h0
  refine G_aload (i := 0) (n := 0) (len := 1) (Or.inl ⟨0, rfl, rfl, d_Re_reads_27⟩) rfl (by decide) (G_pc (pc' := 28) rfl ?_)
  refine G_get (o := 13) (c := 4) (k := 0) (v := 14) d_Re_reads_28 fl_Re_12 rfl (by decide) (by decide) rfl rfl (G_pc (pc' := 31) rfl ?_)
  refine G_aload (i := 1) (n := 1) (len := 1) (Or.inl ⟨1, rfl, rfl, d_Re_reads_31⟩) rfl (by omega) (G_pc (pc' := 32) rfl ?_)
  refine G_iload (i := 2) (n := 2) (len := 1) (Or.inl ⟨2, rfl, rfl, d_Re_reads_32⟩) rfl (G_pc (pc' := 33) rfl ?_)
  refine G_callV (K1 := KE) (d2 := 7) (o := 14) (cl := 7) (as := [vr ((27 + 9 * e : Nat) : Int), vi len]) (rest := []) d_Re_reads_33 mf_To_split ml_Re_37 rfl rfl (by decide) rfl rfl (Nat.le_of_ble_eq_true rfl) (by omega) ⟨Nat.le_refl _, Nat.le_refl _⟩ (g_To_split (by omega) e f len F M1 he hlen (fun j h0 h1 => by rw [h06 (27 + 9 * e) j (by unfold rcell; omega)]; exact hch j h0 h1) hz hF) (fun r4 M5 kq6 q6 => ?_)
  clear kq6
  by_cases hg : gdF F
  · skip
    obtain ⟨hr9, hTL, hfT⟩ := q6.1 hg
    subst hr9
    refine G_ps (pc' := 36) (st' := [vi 1]) rfl rfl ?_
    have hfx := frX_T h06 hfT
    have hfr0 : ∀ j, 0 ≤ j → 0 ≤ f j ∧ f j ≤ 126 := fun j h0 => by by_cases hj : j < len; have := hch j h0 hj; omega; have := hz j (by omega); omega
    have hV := lexL_ok (len := len) hfr0 hlen.2 (n := 41) (k := 0) (L := []) (Int.le_refl _) (fun x hx => absurd hx (by simp)) (by rw [hF]; exact hg.1)
    rw [hF] at hV
    have hTR := TR_of hTL hg.2 hV
    have hst : M5 13 1 = ((20 + 9 * e : Nat) : Int) := (hfT 13 1 (by omega)).trans h01
    have hR : RD e M5 M5 [] 0 0 0 := ⟨fun _ _ _ => rfl, ⟨(hfT _ 6 (by omega)).trans h02, fun i x hx => absurd hx (by simp)⟩, (hfT 13 2 (by omega)).trans h03, (hfT 13 3 (by omega)).trans h04, (hfT 13 4 (by omega)).trans h05⟩
    have hn24 := hg.2
    have hdf : dfF F = descF (TF F.1) (WF F.1) := if_pos hg
    refine G_if_eq (tgt := 48) d_Re_reads_36 (by decide) (fun h7 => absurd h7 (by decide)) (fun h7 => G_pc (pc' := 39) rfl ?_)
    refine G_aload (i := 0) (n := 0) (len := 1) (Or.inl ⟨0, rfl, rfl, d_Re_reads_39⟩) rfl (by decide) (G_pc (pc' := 40) rfl ?_)
    refine G_iconst (n := 0) d_Re_reads_40 (by decide) (G_pc (pc' := 41) rfl ?_)
    refine G_callV (K1 := KE) (d2 := 405) (o := 13) (cl := 4) (as := [vi 0]) (rest := []) d_Re_reads_41 mf_Re_readChoice ml_Re_41 rfl rfl (by decide) rfl rfl (Nat.le_of_ble_eq_true rfl) (by omega) ⟨Nat.le_refl _, Nat.le_refl _⟩ ((read_all he hTR hst 125 405 (by omega)).1 0 [] [] 0 0 0 0 M5 (by omega) hR (by omega) (by omega) (by omega) (by simp) (by omega)) (fun r8 M9 kq10 q10 => ?_)
    clear kq10
    rcases q10 with ⟨hE_9, rfl, hf_9, ho_9⟩ | ⟨k_9, N_9, S_9, o_9, a_9, c_9, hE_9, rfl, hR_9⟩
    · skip
      refine G_ps (pc' := 44) (st' := [vi (-1)]) rfl rfl ?_
      refine G_iconst (n := (-1)) d_Re_reads_44 (by decide) (G_pc (pc' := 45) rfl ?_)
      refine G_icmp_ne (tgt := 50) d_Re_reads_45 (by decide) (fun h11 => absurd h11 (by decide)) (fun h11 => G_pc (pc' := 48) rfl ?_)
      refine G_iconst (n := 0) d_Re_reads_48 (by decide) (G_pc (pc' := 49) rfl ?_)
      refine G_iret d_Re_reads_49 rfl (tokZ (by decide)) rfl rfl ?_
      exact rdQ_n (hdf.trans (descF_n hE_9)) rfl (frX_R hfx hf_9)
    · skip
      obtain ⟨⟨ja_9, jb_9, jc_9, jd_9, je_9, jf_9⟩, jg_9⟩ := (j_desc (T := TF F.1) (W := WF F.1) (TR_tkn hTR) 125).1 0 0 [] [] 0 0 _ (by omega) (by omega) (by omega) hE_9
      have jc1_9 := jc_9.1; have jc2_9 := jc_9.2.1
      have jt_9 : ts S_9 = (S_9.length : Int) - 1 := rfl
      (try simp only [List.length_nil] at jc1_9 jc2_9)
      refine G_ps (pc' := 44) (st' := [vi (ts S_9)]) rfl rfl ?_
      refine G_iconst (n := (-1)) d_Re_reads_44 (by decide) (G_pc (pc' := 45) rfl ?_)
      refine G_icmp_ne (tgt := 50) d_Re_reads_45 (by decide) (fun h12 => ?_) (fun h12 => absurd h12 (by omega))
      refine G_aload (i := 0) (n := 0) (len := 1) (Or.inl ⟨0, rfl, rfl, d_Re_reads_50⟩) rfl (by decide) (G_pc (pc' := 51) rfl ?_)
      refine G_get (o := 13) (c := 4) (k := 0) (v := 14) d_Re_reads_51 fl_Re_12 rfl (by decide) (by decide) rfl rfl (G_pc (pc' := 54) rfl ?_)
      refine G_aload (i := 0) (n := 0) (len := 1) (Or.inl ⟨0, rfl, rfl, d_Re_reads_54⟩) rfl (by decide) (G_pc (pc' := 55) rfl ?_)
      refine G_get (o := 13) (c := 4) (k := 2) (v := M9 13 2) d_Re_reads_55 fl_Re_27 rfl (by decide) (by decide) rfl rfl (G_pc (pc' := 58) rfl ?_)
      rw [show M9 13 2 = k_9 from RD_k hR_9]
      refine G_callV (K1 := KE) (d2 := 0) (o := 14) (cl := 7) (as := [vi k_9]) (rest := []) d_Re_reads_58 mf_To_codeAt ml_Re_45 rfl rfl (by decide) rfl rfl (Nat.le_of_ble_eq_true rfl) (by omega) ⟨Nat.le_refl _, Nat.le_refl _⟩ (g_To_codeAt (by omega) (TF F.1) (WF F.1) _ k_9 M9 (RD_TR hR_9 he hTR) (by omega)) (fun r13 M14 kq15 q15 => ?_)
      clear kq15; obtain ⟨q15a, q15b⟩ := q15; subst r13; subst M14
      refine G_ps (pc' := 61) (st' := [vi (tcode (TF F.1 k_9))]) rfl rfl ?_
      have tz9 := tc_0 (TR_T hTR (k := k_9) (by omega)).1
      refine G_if_ne (tgt := 68) d_Re_reads_61 (by decide) (fun h16 => ?_) (fun h16 => G_pc (pc' := 64) rfl ?_)
      · skip
        refine G_iconst (n := 0) d_Re_reads_68 (by decide) (G_pc (pc' := 69) rfl ?_)
        refine G_iret d_Re_reads_69 rfl (tokZ (by decide)) rfl rfl ?_
        exact rdQ_n (hdf.trans (descF_x hE_9 (by omega))) rfl (frX_R hfx hR_9.1)
      · skip
        refine G_iconst (n := 1) d_Re_reads_64 (by decide) (G_pc (pc' := 65) rfl ?_)
        refine G_goto (tgt := 69) d_Re_reads_65 (by decide) ?_
        refine G_iret d_Re_reads_69 rfl (tokZ (by decide)) rfl rfl ?_
        exact rdQ_s (hdf.trans (descF_s hE_9 (by omega))) rfl hR_9.2.1 (frX_R hfx hR_9.1)
  · skip
    obtain ⟨hr9, hfT⟩ := q6.2 hg; subst hr9
    refine G_ps (pc' := 36) (st' := [vi 0]) rfl rfl ?_
    refine G_if_eq (tgt := 48) d_Re_reads_36 (by decide) (fun h17 => ?_) (fun h17 => absurd h17 (by decide))
    refine G_iconst (n := 0) d_Re_reads_48 (by decide) (G_pc (pc' := 49) rfl ?_)
    refine G_iret d_Re_reads_49 rfl (tokZ (by decide)) rfl rfl ?_
    exact rdQ_n (if_neg hg) rfl (frX_T h06 hfT)

