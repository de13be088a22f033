theorem naD_nr {k y : Int} (h : k = 0 ∨ k = 1 ∨ k = 3) : naD k y = if k = 0 then w32 y else y := by
  rcases h with rfl | rfl | rfl <;> rfl
section SG
variable {W : Mem} {k ka kb kc a b v : Int}
theorem sg_27 (hk : k = 0 ∨ k = 1 ∨ k = 3) : rlR W (sgnR 43 k a b) (nrK k (reckF 27 k a b)) := by
  have e1 : sgnR 43 k a b = (0, naD k (o_ladd a b)) := by simp [sgnR, cmbD]
  have e2 : reckF 27 k a b = (0, o_ladd a b) := by simp [reckF]
  rw [e1, e2, nr_v, naD_nr hk]; exact rl_0
theorem sg_28 (hk : k = 0 ∨ k = 1 ∨ k = 3) : rlR W (sgnR 45 k a b) (nrK k (reckF 28 k a b)) := by
  have e1 : sgnR 45 k a b = (0, naD k (o_lsub a b)) := by simp [sgnR, cmbD]
  have e2 : reckF 28 k a b = (0, o_lsub a b) := by simp [reckF]
  rw [e1, e2, nr_v, naD_nr hk]; exact rl_0
theorem sg_29 (hk : k = 0 ∨ k = 1 ∨ k = 3) : rlR W (sgnR 42 k a b) (nrK k (reckF 29 k a b)) := by
  have e1 : sgnR 42 k a b = (0, naD k (o_lmul a b)) := by simp [sgnR, cmbD]
  have e2 : reckF 29 k a b = (0, o_lmul a b) := by simp [reckF]
  rw [e1, e2, nr_v, naD_nr hk]; exact rl_0
theorem sg_30 (hk : k = 0 ∨ k = 1 ∨ k = 3) : rlR W (sgnR 47 k a b) (nrK k (reckF 30 k a b)) := by
  by_cases hb : b = 0
  · have e1 : sgnR 47 k a b = (2, 1) := by simp [sgnR, hb]
    have e2 : reckF 30 k a b = (2, 1) := by simp [reckF, hb]
    rw [e1, e2, nr_2]; exact rl_2
  · have e1 : sgnR 47 k a b = (0, naD k (o_ldiv a b)) := by simp [sgnR, cmbD, hb]
    have e2 : reckF 30 k a b = (0, o_ldiv a b) := by simp [reckF, hb]
    rw [e1, e2, nr_v, naD_nr hk]; exact rl_0
theorem sg_31 (hk : k = 0 ∨ k = 1 ∨ k = 3) : rlR W (sgnR 37 k a b) (nrK k (reckF 31 k a b)) := by
  by_cases hb : b = 0
  · have e1 : sgnR 37 k a b = (2, 1) := by simp [sgnR, hb]
    have e2 : reckF 31 k a b = (2, 1) := by simp [reckF, hb]
    rw [e1, e2, nr_2]; exact rl_2
  · have e1 : sgnR 37 k a b = (0, naD k (o_lrem a b)) := by simp [sgnR, cmbD, hb]
    have e2 : reckF 31 k a b = (0, o_lrem a b) := by simp [reckF, hb]
    rw [e1, e2, nr_v, naD_nr hk]; exact rl_0
theorem sg_43 (hk : k = 0 ∨ k = 1 ∨ k = 3) : rlR W (sgnR 38 k a b) (nrK k (reckF 43 k a b)) := by
  have e1 : sgnR 38 k a b = (0, naD k (o_land a b)) := by simp [sgnR, cmbD]
  have e2 : reckF 43 k a b = (0, o_land a b) := by simp [reckF]
  rw [e1, e2, nr_v, naD_nr hk]; exact rl_0
theorem sg_45 (hk : k = 0 ∨ k = 1 ∨ k = 3) : rlR W (sgnR 124 k a b) (nrK k (reckF 45 k a b)) := by
  have e1 : sgnR 124 k a b = (0, naD k (o_lor a b)) := by simp [sgnR, cmbD]
  have e2 : reckF 45 k a b = (0, o_lor a b) := by simp [reckF]
  rw [e1, e2, nr_v, naD_nr hk]; exact rl_0
theorem sg_47 (hk : k = 0 ∨ k = 1 ∨ k = 3) : rlR W (sgnR 94 k a b) (nrK k (reckF 47 k a b)) := by
  have e1 : sgnR 94 k a b = (0, naD k (o_lxor a b)) := by simp [sgnR, cmbD]
  have e2 : reckF 47 k a b = (0, o_lxor a b) := by simp [reckF]
  rw [e1, e2, nr_v, naD_nr hk]; exact rl_0
theorem sg_34 : rlR W (sgnR 60 3 a b) (nrK 3 (reckF 34 3 a b)) := by
  have e1 : sgnR 60 3 a b = (0, if a < b then 1 else 0) := by simp [sgnR, holD, b2i]
  have e2 : reckF 34 3 a b = (0, if a < b then 1 else 0) := by simp [reckF, cmpB]
  rw [e1, e2, nr_v]; exact rl_0
theorem sg_35 : rlR W (sgnR 128 3 a b) (nrK 3 (reckF 35 3 a b)) := by
  have e1 : sgnR 128 3 a b = (0, if a ≤ b then 1 else 0) := by simp [sgnR, holD, b2i]
  have e2 : reckF 35 3 a b = (0, if a ≤ b then 1 else 0) := by simp [reckF, cmpB]
  rw [e1, e2, nr_v]; exact rl_0
theorem sg_36 : rlR W (sgnR 62 3 a b) (nrK 3 (reckF 36 3 a b)) := by
  have e1 : sgnR 62 3 a b = (0, if b < a then 1 else 0) := by simp [sgnR, holD, b2i]
  have e2 : reckF 36 3 a b = (0, if b < a then 1 else 0) := by simp [reckF, cmpB]
  rw [e1, e2, nr_v]; exact rl_0
theorem sg_37 : rlR W (sgnR 129 3 a b) (nrK 3 (reckF 37 3 a b)) := by
  have e1 : sgnR 129 3 a b = (0, if b ≤ a then 1 else 0) := by simp [sgnR, holD, b2i]
  have e2 : reckF 37 3 a b = (0, if b ≤ a then 1 else 0) := by simp [reckF, cmpB]
  rw [e1, e2, nr_v]; exact rl_0
theorem sg_41 : rlR W (sgnR 133 3 a b) (nrK 3 (reckF 41 3 a b)) := by
  have e1 : sgnR 133 3 a b = (0, if a = b then 1 else 0) := by simp [sgnR, holD, b2i]
  have e2 : reckF 41 3 a b = (0, if a = b then 1 else 0) := by simp [reckF, cmpB]
  rw [e1, e2, nr_v]; exact rl_0
theorem sg_42 : rlR W (sgnR 134 3 a b) (nrK 3 (reckF 42 3 a b)) := by
  have e1 : sgnR 134 3 a b = (0, if ¬ a = b then 1 else 0) := by simp [sgnR, holD, b2i]
  have e2 : reckF 42 3 a b = (0, if ¬ a = b then 1 else 0) := by simp [reckF, cmpB]
  rw [e1, e2, nr_v]; exact rl_0
theorem int_rng {y : Int} (hk : ka = 0 ∨ ka = 2) (h : validB W ka y = true) : w32 y = y := by
  rcases hk with rfl | rfl
  · rw [val_0] at h; exact (of_decide_eq_true h).symm
  · rw [val_2] at h; have := of_decide_eq_true h; exact w32_id (by omega)
theorem sg_38 (hk : k = 0 ∨ k = 1) (h0 : k = 0 → w32 a = a) : rlR W (sgnR 130 k a b) (nrK k (reckF 38 k a b)) := by
  rcases hk with rfl | rfl
  · have e1 : sgnR 130 0 a b = (0, o_ishl (w32 a) (w32 (o_land b 31))) := by simp [sgnR, shvD]
    have e2 : reckF 38 0 a b = (0, o_lshl a (o_iand (w32 b) 31)) := by simp [reckF]
    rw [e1, e2, nr_v, if_pos rfl, by_31]
    obtain ⟨s, hs, e⟩ := by_rng31 b
    rw [e]
    refine rl_0' ?_
    exact (shl_i s hs).symm
  · have e1 : sgnR 130 1 a b = (0, o_lshl a (w32 (o_land b 63))) := by simp [sgnR, shvD]
    have e2 : reckF 38 1 a b = (0, o_lshl a (o_iand (w32 b) 63)) := by simp [reckF]
    rw [e1, e2, nr_v, if_neg (by decide), by_63]; exact rl_0
theorem sg_39 (hk : k = 0 ∨ k = 1) (h0 : k = 0 → w32 a = a) : rlR W (sgnR 131 k a b) (nrK k (reckF 39 k a b)) := by
  rcases hk with rfl | rfl
  · have e1 : sgnR 131 0 a b = (0, o_ishr (w32 a) (w32 (o_land b 31))) := by simp [sgnR, shvD]
    have e2 : reckF 39 0 a b = (0, o_lshr a (o_iand (w32 b) 31)) := by simp [reckF]
    rw [e1, e2, nr_v, if_pos rfl, by_31]
    obtain ⟨s, hs, e⟩ := by_rng31 b
    rw [e]
    refine rl_0' ?_
    exact (shr_i (h0 rfl) s hs).symm
  · have e1 : sgnR 131 1 a b = (0, o_lshr a (w32 (o_land b 63))) := by simp [sgnR, shvD]
    have e2 : reckF 39 1 a b = (0, o_lshr a (o_iand (w32 b) 63)) := by simp [reckF]
    rw [e1, e2, nr_v, if_neg (by decide), by_63]; exact rl_0
theorem sg_40 (hk : k = 0 ∨ k = 1) (h0 : k = 0 → w32 a = a) : rlR W (sgnR 132 k a b) (nrK k (reckF 40 k a b)) := by
  rcases hk with rfl | rfl
  · have e1 : sgnR 132 0 a b = (0, o_iushr (w32 a) (w32 (o_land b 31))) := by simp [sgnR, shvD]
    have e2 : reckF 40 0 a b = (0, o_iushr (w32 a) (o_iand (w32 b) 31)) := by simp [reckF]
    rw [e1, e2, nr_v, if_pos rfl, by_31]
    obtain ⟨s, hs, e⟩ := by_rng31 b
    rw [e]
    refine rl_0' ?_
    exact ushr_i.symm
  · have e1 : sgnR 132 1 a b = (0, o_lushr a (w32 (o_land b 63))) := by simp [sgnR, shvD]
    have e2 : reckF 40 1 a b = (0, o_lushr a (o_iand (w32 b) 63)) := by simp [reckF]
    rw [e1, e2, nr_v, if_neg (by decide), by_63]; exact rl_0
theorem kc_shift {M : Mem} {o v a b c : Int} (h : o = 38 ∨ o = 39 ∨ o = 40) (h0 : 0 ≤ a) (hk : kchk M o v a b c = 0) : a = 0 ∨ a = 2 := by
  rcases h with rfl | rfl | rfl <;> simp [kchk, comV] at hk <;> grind
/-- a sign between two operands -/
theorem op_bin {t : Int} (ht : 0 < bdV t) (h44 : ¬ t = 44) (h46 : ¬ t = 46) (hk : k = kchk W t v ka kb kc) (h0 : 0 ≤ k) (hka : 0 ≤ ka) (ha : validB W ka a = true) : rlR W (sgnR (tcode t) k a b) (nrK k (reckF t k a b)) := by
  rcases bdV_cs ht with rfl | rfl | rfl | rfl | rfl | rfl | rfl | rfl | rfl | rfl | rfl | rfl | rfl | rfl | rfl | rfl | rfl | rfl | rfl
  · refine sg_27 ?_
    have := kc_num (M := W) (o := 27) (v := v) (a := ka) (b := kb) (c := kc) (by decide)
    omega
  · refine sg_28 ?_
    have := kc_num (M := W) (o := 28) (v := v) (a := ka) (b := kb) (c := kc) (by decide)
    omega
  · refine sg_29 ?_
    have := kc_num (M := W) (o := 29) (v := v) (a := ka) (b := kb) (c := kc) (by decide)
    omega
  · refine sg_30 ?_
    have := kc_num (M := W) (o := 30) (v := v) (a := ka) (b := kb) (c := kc) (by decide)
    omega
  · refine sg_31 ?_
    have := kc_num (M := W) (o := 31) (v := v) (a := ka) (b := kb) (c := kc) (by decide)
    omega
  · have h9 := kc_cmp (M := W) (o := 34) (v := v) (a := ka) (b := kb) (c := kc) (by decide)
    rw [show k = 3 by omega]
    exact sg_34
  · have h9 := kc_cmp (M := W) (o := 35) (v := v) (a := ka) (b := kb) (c := kc) (by decide)
    rw [show k = 3 by omega]
    exact sg_35
  · have h9 := kc_cmp (M := W) (o := 36) (v := v) (a := ka) (b := kb) (c := kc) (by decide)
    rw [show k = 3 by omega]
    exact sg_36
  · have h9 := kc_cmp (M := W) (o := 37) (v := v) (a := ka) (b := kb) (c := kc) (by decide)
    rw [show k = 3 by omega]
    exact sg_37
  · have h9 := kc_num (M := W) (o := 38) (v := v) (a := ka) (b := kb) (c := kc) (by decide)
    exact sg_38 (by omega) (fun e => int_rng (kc_shift (o := 38) (by decide) hka (hk.symm.trans e)) ha)
  · have h9 := kc_num (M := W) (o := 39) (v := v) (a := ka) (b := kb) (c := kc) (by decide)
    exact sg_39 (by omega) (fun e => int_rng (kc_shift (o := 39) (by decide) hka (hk.symm.trans e)) ha)
  · have h9 := kc_num (M := W) (o := 40) (v := v) (a := ka) (b := kb) (c := kc) (by decide)
    exact sg_40 (by omega) (fun e => int_rng (kc_shift (o := 40) (by decide) hka (hk.symm.trans e)) ha)
  · have h9 := kc_cmp (M := W) (o := 41) (v := v) (a := ka) (b := kb) (c := kc) (by decide)
    rw [show k = 3 by omega]
    exact sg_41
  · have h9 := kc_cmp (M := W) (o := 42) (v := v) (a := ka) (b := kb) (c := kc) (by decide)
    rw [show k = 3 by omega]
    exact sg_42
  · refine sg_43 ?_
    have := kc_bit (M := W) (o := 43) (v := v) (a := ka) (b := kb) (c := kc) (by decide)
    omega
  · exact absurd rfl h44
  · refine sg_45 ?_
    have := kc_bit (M := W) (o := 45) (v := v) (a := ka) (b := kb) (c := kc) (by decide)
    omega
  · exact absurd rfl h46
  · refine sg_47 ?_
    have := kc_bit (M := W) (o := 47) (v := v) (a := ka) (b := kb) (c := kc) (by decide)
    omega
theorem op_44 (ha : a = 0 ∨ a = 1) (hb : ¬ a = 0 → b = 0 ∨ b = 1) : sgnR 135 3 a b = (0, if a = 0 then a else b) := by
  have e1 : sgnR 135 3 a b = (0, b2i (decide (a = 1 ∧ b = 1))) := by simp [sgnR, holD]
  rw [e1]
  rcases ha with rfl | rfl
  · simp [b2i]
  · rcases hb (by decide) with rfl | rfl <;> rfl
theorem op_46 (ha : a = 0 ∨ a = 1) (hb : a = 0 → b = 0 ∨ b = 1) : sgnR 136 3 a b = (0, if a = 0 then b else a) := by
  have e1 : sgnR 136 3 a b = (0, b2i (decide (a = 1 ∨ b = 1))) := by simp [sgnR, holD]
  rw [e1]
  rcases ha with rfl | rfl
  · rcases hb rfl with rfl | rfl <;> rfl
  · simp [b2i]
/-- a sign before an operand -/
theorem op_una {t : Int} (ht : t = 27 ∨ t = 28 ∨ t = 32 ∨ t = 33) (hk : k = kchk W (100 + t) v ka kb kc) (h0 : 0 ≤ k) : rlR W (sgnR (ucode t) k a b) (nrK k (0, unF (100 + t) a)) := by
  have h9 := kc_una (M := W) (o := 100 + t) (v := v) (a := ka) (b := kb) (c := kc) (by omega)
  have hk3 : k = 0 ∨ k = 1 ∨ k = 3 := by omega
  rw [nr_v]
  rcases ht with rfl | rfl | rfl | rfl
  · have e1 : sgnR (ucode 27) k a b = (0, naD k a) := by simp [sgnR, chgD, ucode]
    rw [e1, naD_nr hk3]; exact rl_0
  · have e1 : sgnR (ucode 28) k a b = (0, naD k (o_lneg a)) := by simp [sgnR, chgD, ucode]
    rw [e1, naD_nr hk3]; exact rl_0
  · have e1 : sgnR (ucode 32) k a b = (0, naD k (o_lxor a (-1))) := by simp [sgnR, chgD, ucode]
    rw [e1, naD_nr hk3]; exact rl_0
  · have e1 : sgnR (ucode 33) k a b = (0, naD k (o_lsub 1 a)) := by simp [sgnR, chgD, ucode]
    rw [e1, naD_nr hk3]; exact rl_0
end SG
