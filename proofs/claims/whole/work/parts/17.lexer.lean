def txM (M : Mem) (e k : Int) : Int := if k < M 64 e then M 63 (40 * e + k) else 0
def okL (M : Mem) : Prop := ∀ e, 0 ≤ e → e < 5 → 0 ≤ M 64 e ∧ M 64 e ≤ 40
def okT (M : Mem) (e : Int) : Prop := ∀ k, 0 ≤ k → k < M 64 e → 32 ≤ M 63 (40 * e + k) ∧ M 63 (40 * e + k) ≤ 126
theorem txM_rng {M : Mem} {e : Int} (h : okT M e) {k : Int} (hk : 0 ≤ k) : 0 ≤ txM M e k ∧ txM M e k ≤ 126 := by
  unfold txM; split
  · have := h k hk (by omega); omega
  · omega
theorem txM_out {M : Mem} {e k : Int} (h : M 64 e ≤ k) : txM M e k = 0 := by unfold txM; rw [if_neg (by omega)]
theorem txM_in {M : Mem} {e k : Int} (h : txM M e k ≠ 0) : k < M 64 e := by unfold txM at h; grind
def addM (M : Mem) (t v : Int) : Mem := mset (if M 55 25 < 25 then mset (mset M 74 (M 55 25) t) 75 (M 55 25) v else M) 55 25 (M 55 25 + 1)
theorem d_Mo_at_0 : decode b_Mo_at 0 = .ok (.iload_n 2, 1) := by decide +kernel
theorem d_Mo_at_1 : decode b_Mo_at 1 = .ok (.aload_n 0, 1) := by decide +kernel
theorem d_Mo_at_2 : decode b_Mo_at 2 = .ok (.getfield 35, 3) := by decide +kernel
theorem d_Mo_at_5 : decode b_Mo_at 5 = .ok (.iload_n 1, 1) := by decide +kernel
theorem d_Mo_at_6 : decode b_Mo_at 6 = .ok (.iaload, 1) := by decide +kernel
theorem d_Mo_at_7 : decode b_Mo_at 7 = .ok (.if_icmp .ge 17, 3) := by decide +kernel
theorem d_Mo_at_10 : decode b_Mo_at 10 = .ok (.aload_n 0, 1) := by decide +kernel
theorem d_Mo_at_11 : decode b_Mo_at 11 = .ok (.getfield 32, 3) := by decide +kernel
theorem d_Mo_at_14 : decode b_Mo_at 14 = .ok (.bipush 40, 2) := by decide +kernel
theorem d_Mo_at_16 : decode b_Mo_at 16 = .ok (.iload_n 1, 1) := by decide +kernel
theorem d_Mo_at_17 : decode b_Mo_at 17 = .ok (.imul, 1) := by decide +kernel
theorem d_Mo_at_18 : decode b_Mo_at 18 = .ok (.iload_n 2, 1) := by decide +kernel
theorem d_Mo_at_19 : decode b_Mo_at 19 = .ok (.iadd, 1) := by decide +kernel
theorem d_Mo_at_20 : decode b_Mo_at 20 = .ok (.iaload, 1) := by decide +kernel
theorem d_Mo_at_21 : decode b_Mo_at 21 = .ok (.goto 4, 3) := by decide +kernel
theorem d_Mo_at_24 : decode b_Mo_at 24 = .ok (.iconst 0, 1) := by decide +kernel
theorem d_Mo_at_25 : decode b_Mo_at 25 = .ok (.ireturn, 1) := by decide +kernel
theorem g_Mo_at {X : WX} {d : Nat} (hd : 0 ≤ d) (e k : Int) (M : Mem) (hL : okL M) (he : 0 ≤ e ∧ e < 5) (hk : 0 ≤ k) : MG X gt d KE KE y_Mo_at b_Mo_at 3 (some .int) [vr 55, vi e, vi k] M (fun r M' => r = some (vi (txM M e k)) ∧ M' = M) := by
  refine MG_of_G (by decide) (Nat.le_of_ble_eq_true rfl) (Nat.le_refl _) (by decide) ?_
  show G X gt d KE KE y_Mo_at b_Mo_at 3 (some .int) _ 0 [(0, vr 55), (1, vi e), (2, vi k)] [] KE M
  refine G_rngl (i := 1) rfl (fun hr1 => ?_)
  refine G_rngl (i := 2) rfl (fun hr2 => ?_)
  refine G_iload (i := 2) (n := 2) (len := 1) (Or.inl ⟨2, rfl, rfl, d_Mo_at_0⟩) rfl (G_pc (pc' := 1) rfl ?_)
  refine G_aload (i := 0) (n := 0) (len := 1) (Or.inl ⟨0, rfl, rfl, d_Mo_at_1⟩) rfl (by decide) (G_pc (pc' := 2) rfl ?_)
  refine G_get (o := 55) (c := 9) (k := 13) (v := 64) d_Mo_at_2 fl_Mo_35 rfl (by decide) (by decide) rfl rfl (G_pc (pc' := 5) rfl ?_)
  refine G_iload (i := 1) (n := 1) (len := 1) (Or.inl ⟨1, rfl, rfl, d_Mo_at_5⟩) rfl (G_pc (pc' := 6) rfl ?_)
  refine G_iaload (o := 64) (n := 5) (i := e) (v := M 64 e) d_Mo_at_6 rfl ⟨by decide, by decide⟩ (by omega) (rd_arr rfl) (fun t1 => G_pc (pc' := 7) rfl ?_)
  have t1 := tok_i t1
  have hle := hL e he.1 he.2
  refine G_icmp_ge (tgt := 24) d_Mo_at_7 (by decide) (fun h2 => ?_) (fun h2 => G_pc (pc' := 10) rfl ?_)
  · skip
    refine G_iconst (n := 0) d_Mo_at_24 (by decide) (G_pc (pc' := 25) rfl ?_)
    refine G_iret d_Mo_at_25 rfl (tokI (by decide)) rfl rfl ?_
    exact ret_e (by unfold txM; grind) rfl
  · skip
    refine G_aload (i := 0) (n := 0) (len := 1) (Or.inl ⟨0, rfl, rfl, d_Mo_at_10⟩) rfl (by decide) (G_pc (pc' := 11) rfl ?_)
    refine G_get (o := 55) (c := 9) (k := 12) (v := 63) d_Mo_at_11 fl_Mo_32 rfl (by decide) (by decide) rfl rfl (G_pc (pc' := 14) rfl ?_)
    refine G_bipush (n := 40) d_Mo_at_14 (by decide) (G_pc (pc' := 16) rfl ?_)
    refine G_iload (i := 1) (n := 1) (len := 1) (Or.inl ⟨1, rfl, rfl, d_Mo_at_16⟩) rfl (G_pc (pc' := 17) rfl ?_)
    refine G_imul d_Mo_at_17 (by omega) (G_pc (pc' := 18) rfl ?_)
    refine G_iload (i := 2) (n := 2) (len := 1) (Or.inl ⟨2, rfl, rfl, d_Mo_at_18⟩) rfl (G_pc (pc' := 19) rfl ?_)
    refine G_iadd d_Mo_at_19 (by omega) (G_pc (pc' := 20) rfl ?_)
    refine G_iaload (o := 63) (n := 200) (i := (40 * e) + k) (v := M 63 ((40 * e) + k)) d_Mo_at_20 rfl ⟨by decide, by decide⟩ (by omega) (rd_arr rfl) (fun t3 => G_pc (pc' := 21) rfl ?_)
    have t3 := tok_i t3
    refine G_goto (tgt := 25) d_Mo_at_21 (by decide) ?_
    refine G_iret d_Mo_at_25 rfl (tokI (by omega)) rfl rfl ?_
    exact ret_e (by unfold txM; grind) rfl

theorem d_Mo_add_0 : decode b_Mo_add 0 = .ok (.aload_n 0, 1) := by decide +kernel
theorem d_Mo_add_1 : decode b_Mo_add 1 = .ok (.getfield 163, 3) := by decide +kernel
theorem d_Mo_add_4 : decode b_Mo_add 4 = .ok (.bipush 25, 2) := by decide +kernel
theorem d_Mo_add_6 : decode b_Mo_add 6 = .ok (.if_icmp .ge 23, 3) := by decide +kernel
theorem d_Mo_add_9 : decode b_Mo_add 9 = .ok (.aload_n 0, 1) := by decide +kernel
theorem d_Mo_add_10 : decode b_Mo_add 10 = .ok (.getfield 66, 3) := by decide +kernel
theorem d_Mo_add_13 : decode b_Mo_add 13 = .ok (.aload_n 0, 1) := by decide +kernel
theorem d_Mo_add_14 : decode b_Mo_add 14 = .ok (.getfield 163, 3) := by decide +kernel
theorem d_Mo_add_17 : decode b_Mo_add 17 = .ok (.iload_n 1, 1) := by decide +kernel
theorem d_Mo_add_18 : decode b_Mo_add 18 = .ok (.iastore, 1) := by decide +kernel
theorem d_Mo_add_19 : decode b_Mo_add 19 = .ok (.aload_n 0, 1) := by decide +kernel
theorem d_Mo_add_20 : decode b_Mo_add 20 = .ok (.getfield 69, 3) := by decide +kernel
theorem d_Mo_add_23 : decode b_Mo_add 23 = .ok (.aload_n 0, 1) := by decide +kernel
theorem d_Mo_add_24 : decode b_Mo_add 24 = .ok (.getfield 163, 3) := by decide +kernel
theorem d_Mo_add_27 : decode b_Mo_add 27 = .ok (.lload_n 2, 1) := by decide +kernel
theorem d_Mo_add_28 : decode b_Mo_add 28 = .ok (.lastore, 1) := by decide +kernel
theorem d_Mo_add_29 : decode b_Mo_add 29 = .ok (.aload_n 0, 1) := by decide +kernel
theorem d_Mo_add_30 : decode b_Mo_add 30 = .ok (.dup, 1) := by decide +kernel
theorem d_Mo_add_31 : decode b_Mo_add 31 = .ok (.getfield 163, 3) := by decide +kernel
theorem d_Mo_add_34 : decode b_Mo_add 34 = .ok (.iconst 1, 1) := by decide +kernel
theorem d_Mo_add_35 : decode b_Mo_add 35 = .ok (.iadd, 1) := by decide +kernel
theorem d_Mo_add_36 : decode b_Mo_add 36 = .ok (.putfield 163, 3) := by decide +kernel
theorem d_Mo_add_39 : decode b_Mo_add 39 = .ok (.return_, 1) := by decide +kernel
theorem g_Mo_add {X : WX} {d : Nat} (hd : 0 ≤ d) (t v : Int) (M : Mem) (hT : 0 ≤ M 55 25 ∧ M 55 25 ≤ 1000) : MG X gt d KE KE y_Mo_add b_Mo_add 4 none [vr 55, vi t, vl v] M (fun r M' => r = none ∧ M' = addM M t v) := by
  refine MG_of_G (by decide) (Nat.le_of_ble_eq_true rfl) (Nat.le_refl _) (by decide) ?_
  show G X gt d KE KE y_Mo_add b_Mo_add 4 none _ 0 [(0, vr 55), (1, vi t), (2, vl v)] [] KE M
  refine G_rngl (i := 1) rfl (fun hr1 => ?_)
  refine G_rngL (i := 2) rfl (fun hr2 => ?_)
  refine G_aload (i := 0) (n := 0) (len := 1) (Or.inl ⟨0, rfl, rfl, d_Mo_add_0⟩) rfl (by decide) (G_pc (pc' := 1) rfl ?_)
  refine G_get (o := 55) (c := 9) (k := 25) (v := M 55 25) d_Mo_add_1 fl_Mo_163 rfl (by decide) (by decide) rfl rfl (G_pc (pc' := 4) rfl ?_)
  refine G_bipush (n := 25) d_Mo_add_4 (by decide) (G_pc (pc' := 6) rfl ?_)
  refine G_icmp_ge (tgt := 29) d_Mo_add_6 (by decide) (fun h1 => ?_) (fun h1 => G_pc (pc' := 9) rfl ?_)
  · skip
    refine G_aload (i := 0) (n := 0) (len := 1) (Or.inl ⟨0, rfl, rfl, d_Mo_add_29⟩) rfl (by decide) (G_pc (pc' := 30) rfl ?_)
    refine G_dup d_Mo_add_30 (fun _ h => by cases h) (G_pc (pc' := 31) rfl ?_)
    refine G_get (o := 55) (c := 9) (k := 25) (v := M 55 25) d_Mo_add_31 fl_Mo_163 rfl (by decide) (by decide) rfl rfl (G_pc (pc' := 34) rfl ?_)
    refine G_iconst (n := 1) d_Mo_add_34 (by decide) (G_pc (pc' := 35) rfl ?_)
    refine G_iadd d_Mo_add_35 (by omega) (G_pc (pc' := 36) rfl ?_)
    refine G_putL (o := 55) (c := 9) (k := 25) (ki := 25) (x := (M 55 25) + 1) d_Mo_add_36 fl_Mo_163 rfl rfl (by decide) (by decide) (by decide) rfl rfl (tokI (by omega)) rfl (G_pc (pc' := 39) rfl ?_)
    refine G_vret d_Mo_add_39 rfl rfl ?_
    exact ⟨rfl, by unfold addM; first | rw [if_pos (by omega)] | rw [if_neg (by omega)]⟩
  · skip
    refine G_aload (i := 0) (n := 0) (len := 1) (Or.inl ⟨0, rfl, rfl, d_Mo_add_9⟩) rfl (by decide) (G_pc (pc' := 10) rfl ?_)
    refine G_get (o := 55) (c := 9) (k := 26) (v := 74) d_Mo_add_10 fl_Mo_66 rfl (by decide) (by decide) rfl rfl (G_pc (pc' := 13) rfl ?_)
    refine G_aload (i := 0) (n := 0) (len := 1) (Or.inl ⟨0, rfl, rfl, d_Mo_add_13⟩) rfl (by decide) (G_pc (pc' := 14) rfl ?_)
    refine G_get (o := 55) (c := 9) (k := 25) (v := M 55 25) d_Mo_add_14 fl_Mo_163 rfl (by decide) (by decide) rfl rfl (G_pc (pc' := 17) rfl ?_)
    refine G_iload (i := 1) (n := 1) (len := 1) (Or.inl ⟨1, rfl, rfl, d_Mo_add_17⟩) rfl (G_pc (pc' := 18) rfl ?_)
    refine G_iastore (o := 74) (n := 25) (i := M 55 25) (x := t) d_Mo_add_18 rfl ⟨by decide, by decide⟩ (by decide) (gt_arr rfl _) (by omega) (tokI (by omega)) (G_pc (pc' := 19) rfl ?_)
    refine G_aload (i := 0) (n := 0) (len := 1) (Or.inl ⟨0, rfl, rfl, d_Mo_add_19⟩) rfl (by decide) (G_pc (pc' := 20) rfl ?_)
    refine G_get (o := 55) (c := 9) (k := 27) (v := 75) d_Mo_add_20 fl_Mo_69 rfl (by decide) (by decide) rfl rfl (G_pc (pc' := 23) rfl ?_)
    refine G_aload (i := 0) (n := 0) (len := 1) (Or.inl ⟨0, rfl, rfl, d_Mo_add_23⟩) rfl (by decide) (G_pc (pc' := 24) rfl ?_)
    refine G_get (o := 55) (c := 9) (k := 25) (v := M 55 25) d_Mo_add_24 fl_Mo_163 rfl (by decide) (by decide) rfl rfl (G_pc (pc' := 27) rfl ?_)
    refine G_lload (i := 2) (n := 2) (len := 1) (Or.inl ⟨2, rfl, rfl, d_Mo_add_27⟩) rfl (G_pc (pc' := 28) rfl ?_)
    refine G_lastore (o := 75) (n := 25) (i := M 55 25) (x := v) d_Mo_add_28 rfl ⟨by decide, by decide⟩ (by decide) (gt_arr rfl _) (by omega) (tokJ (by omega)) (G_pc (pc' := 29) rfl ?_)
    refine G_aload (i := 0) (n := 0) (len := 1) (Or.inl ⟨0, rfl, rfl, d_Mo_add_29⟩) rfl (by decide) (G_pc (pc' := 30) rfl ?_)
    refine G_dup d_Mo_add_30 (fun _ h => by cases h) (G_pc (pc' := 31) rfl ?_)
    refine G_get (o := 55) (c := 9) (k := 25) (v := M 55 25) d_Mo_add_31 fl_Mo_163 rfl (by decide) (by decide) rfl rfl (G_pc (pc' := 34) rfl ?_)
    refine G_iconst (n := 1) d_Mo_add_34 (by decide) (G_pc (pc' := 35) rfl ?_)
    refine G_iadd d_Mo_add_35 (by omega) (G_pc (pc' := 36) rfl ?_)
    refine G_putL (o := 55) (c := 9) (k := 25) (ki := 25) (x := (M 55 25) + 1) d_Mo_add_36 fl_Mo_163 rfl rfl (by decide) (by decide) (by decide) rfl rfl (tokI (by omega)) rfl (G_pc (pc' := 39) rfl ?_)
    refine G_vret d_Mo_add_39 rfl rfl ?_
    exact ⟨rfl, by unfold addM; first | rw [if_pos (by omega)] | rw [if_neg (by omega)]⟩

def spellV (a b c d e : Int) : Int :=
  let v := o_lor (o_lor (o_lshl a 12) (o_ishl b 6)) c
  let w := if d = 0 then v else o_lor (o_lshl v 6) d
  if e = 0 then w else o_lor (o_lshl w 6) e
theorem d_Mo_spell_0 : decode b_Mo_spell 0 = .ok (.iload_n 0, 1) := by decide +kernel
theorem d_Mo_spell_1 : decode b_Mo_spell 1 = .ok (.i2l, 1) := by decide +kernel
theorem d_Mo_spell_2 : decode b_Mo_spell 2 = .ok (.bipush 12, 2) := by decide +kernel
theorem d_Mo_spell_4 : decode b_Mo_spell 4 = .ok (.lshl, 1) := by decide +kernel
theorem d_Mo_spell_5 : decode b_Mo_spell 5 = .ok (.iload_n 1, 1) := by decide +kernel
theorem d_Mo_spell_6 : decode b_Mo_spell 6 = .ok (.bipush 6, 2) := by decide +kernel
theorem d_Mo_spell_8 : decode b_Mo_spell 8 = .ok (.ishl, 1) := by decide +kernel
theorem d_Mo_spell_9 : decode b_Mo_spell 9 = .ok (.i2l, 1) := by decide +kernel
theorem d_Mo_spell_10 : decode b_Mo_spell 10 = .ok (.lor, 1) := by decide +kernel
theorem d_Mo_spell_11 : decode b_Mo_spell 11 = .ok (.iload_n 2, 1) := by decide +kernel
theorem d_Mo_spell_12 : decode b_Mo_spell 12 = .ok (.i2l, 1) := by decide +kernel
theorem d_Mo_spell_13 : decode b_Mo_spell 13 = .ok (.lor, 1) := by decide +kernel
theorem d_Mo_spell_14 : decode b_Mo_spell 14 = .ok (.lstore 5, 2) := by decide +kernel
theorem d_Mo_spell_16 : decode b_Mo_spell 16 = .ok (.iload_n 3, 1) := by decide +kernel
theorem d_Mo_spell_17 : decode b_Mo_spell 17 = .ok (.ifCond .ne 8, 3) := by decide +kernel
theorem d_Mo_spell_20 : decode b_Mo_spell 20 = .ok (.lload 5, 2) := by decide +kernel
theorem d_Mo_spell_22 : decode b_Mo_spell 22 = .ok (.goto 11, 3) := by decide +kernel
theorem d_Mo_spell_25 : decode b_Mo_spell 25 = .ok (.lload 5, 2) := by decide +kernel
theorem d_Mo_spell_27 : decode b_Mo_spell 27 = .ok (.bipush 6, 2) := by decide +kernel
theorem d_Mo_spell_29 : decode b_Mo_spell 29 = .ok (.lshl, 1) := by decide +kernel
theorem d_Mo_spell_30 : decode b_Mo_spell 30 = .ok (.iload_n 3, 1) := by decide +kernel
theorem d_Mo_spell_31 : decode b_Mo_spell 31 = .ok (.i2l, 1) := by decide +kernel
theorem d_Mo_spell_32 : decode b_Mo_spell 32 = .ok (.lor, 1) := by decide +kernel
theorem d_Mo_spell_33 : decode b_Mo_spell 33 = .ok (.lstore 5, 2) := by decide +kernel
theorem d_Mo_spell_35 : decode b_Mo_spell 35 = .ok (.iload 4, 2) := by decide +kernel
theorem d_Mo_spell_37 : decode b_Mo_spell 37 = .ok (.ifCond .ne 8, 3) := by decide +kernel
theorem d_Mo_spell_40 : decode b_Mo_spell 40 = .ok (.lload 5, 2) := by decide +kernel
theorem d_Mo_spell_42 : decode b_Mo_spell 42 = .ok (.goto 12, 3) := by decide +kernel
theorem d_Mo_spell_45 : decode b_Mo_spell 45 = .ok (.lload 5, 2) := by decide +kernel
theorem d_Mo_spell_47 : decode b_Mo_spell 47 = .ok (.bipush 6, 2) := by decide +kernel
theorem d_Mo_spell_49 : decode b_Mo_spell 49 = .ok (.lshl, 1) := by decide +kernel
theorem d_Mo_spell_50 : decode b_Mo_spell 50 = .ok (.iload 4, 2) := by decide +kernel
theorem d_Mo_spell_52 : decode b_Mo_spell 52 = .ok (.i2l, 1) := by decide +kernel
theorem d_Mo_spell_53 : decode b_Mo_spell 53 = .ok (.lor, 1) := by decide +kernel
theorem d_Mo_spell_54 : decode b_Mo_spell 54 = .ok (.lreturn, 1) := by decide +kernel
theorem g_Mo_spell {X : WX} {d : Nat} (hd : 0 ≤ d) (a b c d0 e : Int) (M : Mem)  : MG X gt d KE KE y_Mo_spell b_Mo_spell 7 (some .long) [vi a, vi b, vi c, vi d0, vi e] M (fun r M' => r = some (vl (spellV a b c d0 e)) ∧ M' = M) := by
  refine MG_of_G (by decide) (Nat.le_of_ble_eq_true rfl) (Nat.le_refl _) (by decide) ?_
  show G X gt d KE KE y_Mo_spell b_Mo_spell 7 (some .long) _ 0 [(0, vi a), (1, vi b), (2, vi c), (3, vi d0), (4, vi e)] [] KE M
  refine G_rngl (i := 0) rfl (fun hr0 => ?_)
  refine G_rngl (i := 1) rfl (fun hr1 => ?_)
  refine G_rngl (i := 2) rfl (fun hr2 => ?_)
  refine G_rngl (i := 3) rfl (fun hr3 => ?_)
  refine G_rngl (i := 4) rfl (fun hr4 => ?_)
  refine G_iload (i := 0) (n := 0) (len := 1) (Or.inl ⟨0, rfl, rfl, d_Mo_spell_0⟩) rfl (G_pc (pc' := 1) rfl ?_)
  refine G_i2l d_Mo_spell_1 (G_pc (pc' := 2) rfl ?_)
  refine G_bipush (n := 12) d_Mo_spell_2 (by decide) (G_pc (pc' := 4) rfl ?_)
  refine G_lshl d_Mo_spell_4 (G_pc (pc' := 5) rfl ?_)
  refine G_iload (i := 1) (n := 1) (len := 1) (Or.inl ⟨1, rfl, rfl, d_Mo_spell_5⟩) rfl (G_pc (pc' := 6) rfl ?_)
  refine G_bipush (n := 6) d_Mo_spell_6 (by decide) (G_pc (pc' := 8) rfl ?_)
  refine G_ishl d_Mo_spell_8 (G_pc (pc' := 9) rfl ?_)
  refine G_i2l d_Mo_spell_9 (G_pc (pc' := 10) rfl ?_)
  refine G_lor d_Mo_spell_10 (G_pc (pc' := 11) rfl ?_)
  refine G_iload (i := 2) (n := 2) (len := 1) (Or.inl ⟨2, rfl, rfl, d_Mo_spell_11⟩) rfl (G_pc (pc' := 12) rfl ?_)
  refine G_i2l d_Mo_spell_12 (G_pc (pc' := 13) rfl ?_)
  refine G_lor d_Mo_spell_13 (G_pc (pc' := 14) rfl ?_)
  refine G_lstore (i := 5) (len := 2) (ls' := [(5, vl (o_lor (o_lor (o_lshl a 12) (o_ishl b 6)) c)), (0, vi a), (1, vi b), (2, vi c), (3, vi d0), (4, vi e)]) (Or.inr ⟨rfl, d_Mo_spell_14⟩) (by decide) rfl (G_pc (pc' := 16) rfl ?_)
  refine G_iload (i := 3) (n := 4) (len := 1) (Or.inl ⟨3, rfl, rfl, d_Mo_spell_16⟩) rfl (G_pc (pc' := 17) rfl ?_)
  refine G_if_ne (tgt := 25) d_Mo_spell_17 (by decide) (fun h1 => ?_) (fun h1 => G_pc (pc' := 20) rfl ?_)
  · skip
    refine G_lload (i := 5) (n := 0) (len := 2) (Or.inr ⟨rfl, d_Mo_spell_25⟩) rfl (G_pc (pc' := 27) rfl ?_)
    refine G_bipush (n := 6) d_Mo_spell_27 (by decide) (G_pc (pc' := 29) rfl ?_)
    refine G_lshl d_Mo_spell_29 (G_pc (pc' := 30) rfl ?_)
    refine G_iload (i := 3) (n := 4) (len := 1) (Or.inl ⟨3, rfl, rfl, d_Mo_spell_30⟩) rfl (G_pc (pc' := 31) rfl ?_)
    refine G_i2l d_Mo_spell_31 (G_pc (pc' := 32) rfl ?_)
    refine G_lor d_Mo_spell_32 (G_pc (pc' := 33) rfl ?_)
    refine G_lstore (i := 5) (len := 2) (ls' := [(5, vl (o_lor (o_lshl (o_lor (o_lor (o_lshl a 12) (o_ishl b 6)) c) 6) d0)), (0, vi a), (1, vi b), (2, vi c), (3, vi d0), (4, vi e)]) (Or.inr ⟨rfl, d_Mo_spell_33⟩) (by decide) rfl (G_pc (pc' := 35) rfl ?_)
    refine G_iload (i := 4) (n := 5) (len := 2) (Or.inr ⟨rfl, d_Mo_spell_35⟩) rfl (G_pc (pc' := 37) rfl ?_)
    refine G_if_ne (tgt := 45) d_Mo_spell_37 (by decide) (fun h2 => ?_) (fun h2 => G_pc (pc' := 40) rfl ?_)
    · skip
      refine G_lload (i := 5) (n := 0) (len := 2) (Or.inr ⟨rfl, d_Mo_spell_45⟩) rfl (G_pc (pc' := 47) rfl ?_)
      refine G_bipush (n := 6) d_Mo_spell_47 (by decide) (G_pc (pc' := 49) rfl ?_)
      refine G_lshl d_Mo_spell_49 (G_pc (pc' := 50) rfl ?_)
      refine G_iload (i := 4) (n := 5) (len := 2) (Or.inr ⟨rfl, d_Mo_spell_50⟩) rfl (G_pc (pc' := 52) rfl ?_)
      refine G_i2l d_Mo_spell_52 (G_pc (pc' := 53) rfl ?_)
      refine G_lor d_Mo_spell_53 (G_pc (pc' := 54) rfl ?_)
      refine G_lret d_Mo_spell_54 rfl rfl ?_
      exact ret_l (by unfold spellV; grind) rfl
    · skip
      refine G_lload (i := 5) (n := 0) (len := 2) (Or.inr ⟨rfl, d_Mo_spell_40⟩) rfl (G_pc (pc' := 42) rfl ?_)
      refine G_goto (tgt := 54) d_Mo_spell_42 (by decide) ?_
      refine G_lret d_Mo_spell_54 rfl rfl ?_
      exact ret_l (by unfold spellV; grind) rfl
  · skip
    refine G_lload (i := 5) (n := 0) (len := 2) (Or.inr ⟨rfl, d_Mo_spell_20⟩) rfl (G_pc (pc' := 22) rfl ?_)
    refine G_goto (tgt := 33) d_Mo_spell_22 (by decide) ?_
    refine G_lstore (i := 5) (len := 2) (ls' := [(5, vl (o_lor (o_lor (o_lshl a 12) (o_ishl b 6)) c)), (0, vi a), (1, vi b), (2, vi c), (3, vi d0), (4, vi e)]) (Or.inr ⟨rfl, d_Mo_spell_33⟩) (by decide) rfl (G_pc (pc' := 35) rfl ?_)
    refine G_iload (i := 4) (n := 5) (len := 2) (Or.inr ⟨rfl, d_Mo_spell_35⟩) rfl (G_pc (pc' := 37) rfl ?_)
    refine G_if_ne (tgt := 45) d_Mo_spell_37 (by decide) (fun h3 => ?_) (fun h3 => G_pc (pc' := 40) rfl ?_)
    · skip
      refine G_lload (i := 5) (n := 0) (len := 2) (Or.inr ⟨rfl, d_Mo_spell_45⟩) rfl (G_pc (pc' := 47) rfl ?_)
      refine G_bipush (n := 6) d_Mo_spell_47 (by decide) (G_pc (pc' := 49) rfl ?_)
      refine G_lshl d_Mo_spell_49 (G_pc (pc' := 50) rfl ?_)
      refine G_iload (i := 4) (n := 5) (len := 2) (Or.inr ⟨rfl, d_Mo_spell_50⟩) rfl (G_pc (pc' := 52) rfl ?_)
      refine G_i2l d_Mo_spell_52 (G_pc (pc' := 53) rfl ?_)
      refine G_lor d_Mo_spell_53 (G_pc (pc' := 54) rfl ?_)
      refine G_lret d_Mo_spell_54 rfl rfl ?_
      exact ret_l (by unfold spellV; grind) rfl
    · skip
      refine G_lload (i := 5) (n := 0) (len := 2) (Or.inr ⟨rfl, d_Mo_spell_40⟩) rfl (G_pc (pc' := 42) rfl ?_)
      refine G_goto (tgt := 54) d_Mo_spell_42 (by decide) ?_
      refine G_lret d_Mo_spell_54 rfl rfl ?_
      exact ret_l (by unfold spellV; grind) rfl

def sgN (c d f : Int) : Int := if c = 60 ∨ c = 62 then (if c = 62 ∧ d = 62 ∧ f = 62 then 3 else if d = c ∨ d = 61 then 2 else 1)
  else if c = 61 ∨ c = 33 then (if d = 61 then 2 else 1) else if c = 38 ∨ c = 124 then (if d = c then 2 else 1) else 1
def sgT (c d f : Int) : Int := if c = 60 ∨ c = 62 then (if sgN c d f = 3 then 40 else if sgN c d f = 1 then (if c = 60 then 34 else 36) else if d = 61 then (if c = 60 then 35 else 37) else if c = 60 then 38 else 39)
  else if c = 61 ∨ c = 33 then (if d = 61 then (if c = 61 then 41 else 42) else if c = 33 then 33 else 0) else if c = 38 ∨ c = 124 then (if c = 38 then 43 else 45) + sgN c d f - 1
  else if c = 40 then 20 else if c = 41 then 21 else if c = 91 then 22 else if c = 93 then 23 else if c = 46 then 24 else if c = 63 then 25 else if c = 58 then 26 else if c = 43 then 27 else if c = 45 then 28 else if c = 42 then 29 else if c = 47 then 30 else if c = 37 then 31 else if c = 126 then 32 else if c = 94 then 47 else 0
def signM (M : Mem) (e k : Int) : Mem := addM (mset M 55 44 (if sgT (txM M e k) (txM M e (k + 1)) (txM M e (k + 2)) = 0 then 1 else 0)) (sgT (txM M e k) (txM M e (k + 1)) (txM M e (k + 2))) 0
theorem d_Mo_sign_0 : decode b_Mo_sign 0 = .ok (.aload_n 0, 1) := by decide +kernel
theorem d_Mo_sign_1 : decode b_Mo_sign 1 = .ok (.iload_n 1, 1) := by decide +kernel
theorem d_Mo_sign_2 : decode b_Mo_sign 2 = .ok (.iload_n 2, 1) := by decide +kernel
theorem d_Mo_sign_3 : decode b_Mo_sign 3 = .ok (.invokevirtual 169, 3) := by decide +kernel
theorem d_Mo_sign_6 : decode b_Mo_sign 6 = .ok (.istore_n 3, 1) := by decide +kernel
theorem d_Mo_sign_7 : decode b_Mo_sign 7 = .ok (.aload_n 0, 1) := by decide +kernel
theorem d_Mo_sign_8 : decode b_Mo_sign 8 = .ok (.iload_n 1, 1) := by decide +kernel
theorem d_Mo_sign_9 : decode b_Mo_sign 9 = .ok (.iload_n 2, 1) := by decide +kernel
theorem d_Mo_sign_10 : decode b_Mo_sign 10 = .ok (.iconst 1, 1) := by decide +kernel
theorem d_Mo_sign_11 : decode b_Mo_sign 11 = .ok (.iadd, 1) := by decide +kernel
theorem d_Mo_sign_12 : decode b_Mo_sign 12 = .ok (.invokevirtual 169, 3) := by decide +kernel
theorem d_Mo_sign_15 : decode b_Mo_sign 15 = .ok (.istore 4, 2) := by decide +kernel
theorem d_Mo_sign_17 : decode b_Mo_sign 17 = .ok (.aload_n 0, 1) := by decide +kernel
theorem d_Mo_sign_18 : decode b_Mo_sign 18 = .ok (.iload_n 1, 1) := by decide +kernel
theorem d_Mo_sign_19 : decode b_Mo_sign 19 = .ok (.iload_n 2, 1) := by decide +kernel
theorem d_Mo_sign_20 : decode b_Mo_sign 20 = .ok (.iconst 2, 1) := by decide +kernel
theorem d_Mo_sign_21 : decode b_Mo_sign 21 = .ok (.iadd, 1) := by decide +kernel
theorem d_Mo_sign_22 : decode b_Mo_sign 22 = .ok (.invokevirtual 169, 3) := by decide +kernel
theorem d_Mo_sign_25 : decode b_Mo_sign 25 = .ok (.istore 5, 2) := by decide +kernel
theorem d_Mo_sign_27 : decode b_Mo_sign 27 = .ok (.iconst 1, 1) := by decide +kernel
theorem d_Mo_sign_28 : decode b_Mo_sign 28 = .ok (.istore 6, 2) := by decide +kernel
theorem d_Mo_sign_30 : decode b_Mo_sign 30 = .ok (.iconst 0, 1) := by decide +kernel
theorem d_Mo_sign_31 : decode b_Mo_sign 31 = .ok (.istore 7, 2) := by decide +kernel
theorem d_Mo_sign_33 : decode b_Mo_sign 33 = .ok (.iload_n 3, 1) := by decide +kernel
theorem d_Mo_sign_34 : decode b_Mo_sign 34 = .ok (.bipush 60, 2) := by decide +kernel
theorem d_Mo_sign_36 : decode b_Mo_sign 36 = .ok (.if_icmp .eq 9, 3) := by decide +kernel
theorem d_Mo_sign_39 : decode b_Mo_sign 39 = .ok (.iload_n 3, 1) := by decide +kernel
theorem d_Mo_sign_40 : decode b_Mo_sign 40 = .ok (.bipush 62, 2) := by decide +kernel
theorem d_Mo_sign_42 : decode b_Mo_sign 42 = .ok (.if_icmp .ne 121, 3) := by decide +kernel
theorem d_Mo_sign_45 : decode b_Mo_sign 45 = .ok (.iload_n 3, 1) := by decide +kernel
theorem d_Mo_sign_46 : decode b_Mo_sign 46 = .ok (.bipush 62, 2) := by decide +kernel
theorem d_Mo_sign_48 : decode b_Mo_sign 48 = .ok (.if_icmp .ne 21, 3) := by decide +kernel
theorem d_Mo_sign_51 : decode b_Mo_sign 51 = .ok (.iload 4, 2) := by decide +kernel
theorem d_Mo_sign_53 : decode b_Mo_sign 53 = .ok (.bipush 62, 2) := by decide +kernel
theorem d_Mo_sign_55 : decode b_Mo_sign 55 = .ok (.if_icmp .ne 14, 3) := by decide +kernel
theorem d_Mo_sign_58 : decode b_Mo_sign 58 = .ok (.iload 5, 2) := by decide +kernel
theorem d_Mo_sign_60 : decode b_Mo_sign 60 = .ok (.bipush 62, 2) := by decide +kernel
theorem d_Mo_sign_62 : decode b_Mo_sign 62 = .ok (.if_icmp .ne 7, 3) := by decide +kernel
theorem d_Mo_sign_65 : decode b_Mo_sign 65 = .ok (.iconst 3, 1) := by decide +kernel
theorem d_Mo_sign_66 : decode b_Mo_sign 66 = .ok (.goto 21, 3) := by decide +kernel
theorem d_Mo_sign_69 : decode b_Mo_sign 69 = .ok (.iload 4, 2) := by decide +kernel
theorem d_Mo_sign_71 : decode b_Mo_sign 71 = .ok (.iload_n 3, 1) := by decide +kernel
theorem d_Mo_sign_72 : decode b_Mo_sign 72 = .ok (.if_icmp .eq 10, 3) := by decide +kernel
theorem d_Mo_sign_75 : decode b_Mo_sign 75 = .ok (.iload 4, 2) := by decide +kernel
theorem d_Mo_sign_77 : decode b_Mo_sign 77 = .ok (.bipush 61, 2) := by decide +kernel
theorem d_Mo_sign_79 : decode b_Mo_sign 79 = .ok (.if_icmp .ne 7, 3) := by decide +kernel
theorem d_Mo_sign_82 : decode b_Mo_sign 82 = .ok (.iconst 2, 1) := by decide +kernel
theorem d_Mo_sign_83 : decode b_Mo_sign 83 = .ok (.goto 4, 3) := by decide +kernel
theorem d_Mo_sign_86 : decode b_Mo_sign 86 = .ok (.iconst 1, 1) := by decide +kernel
theorem d_Mo_sign_87 : decode b_Mo_sign 87 = .ok (.istore 6, 2) := by decide +kernel
theorem d_Mo_sign_89 : decode b_Mo_sign 89 = .ok (.iload 6, 2) := by decide +kernel
theorem d_Mo_sign_91 : decode b_Mo_sign 91 = .ok (.iconst 3, 1) := by decide +kernel
theorem d_Mo_sign_92 : decode b_Mo_sign 92 = .ok (.if_icmp .ne 8, 3) := by decide +kernel
theorem d_Mo_sign_95 : decode b_Mo_sign 95 = .ok (.bipush 40, 2) := by decide +kernel
theorem d_Mo_sign_97 : decode b_Mo_sign 97 = .ok (.goto 61, 3) := by decide +kernel
theorem d_Mo_sign_100 : decode b_Mo_sign 100 = .ok (.iload 6, 2) := by decide +kernel
theorem d_Mo_sign_102 : decode b_Mo_sign 102 = .ok (.iconst 1, 1) := by decide +kernel
theorem d_Mo_sign_103 : decode b_Mo_sign 103 = .ok (.if_icmp .ne 19, 3) := by decide +kernel
theorem d_Mo_sign_106 : decode b_Mo_sign 106 = .ok (.iload_n 3, 1) := by decide +kernel
theorem d_Mo_sign_107 : decode b_Mo_sign 107 = .ok (.bipush 60, 2) := by decide +kernel
theorem d_Mo_sign_109 : decode b_Mo_sign 109 = .ok (.if_icmp .ne 8, 3) := by decide +kernel
theorem d_Mo_sign_112 : decode b_Mo_sign 112 = .ok (.bipush 34, 2) := by decide +kernel
theorem d_Mo_sign_114 : decode b_Mo_sign 114 = .ok (.goto 44, 3) := by decide +kernel
theorem d_Mo_sign_117 : decode b_Mo_sign 117 = .ok (.bipush 36, 2) := by decide +kernel
theorem d_Mo_sign_119 : decode b_Mo_sign 119 = .ok (.goto 39, 3) := by decide +kernel
theorem d_Mo_sign_122 : decode b_Mo_sign 122 = .ok (.iload 4, 2) := by decide +kernel
theorem d_Mo_sign_124 : decode b_Mo_sign 124 = .ok (.bipush 61, 2) := by decide +kernel
theorem d_Mo_sign_126 : decode b_Mo_sign 126 = .ok (.if_icmp .ne 19, 3) := by decide +kernel
theorem d_Mo_sign_129 : decode b_Mo_sign 129 = .ok (.iload_n 3, 1) := by decide +kernel
theorem d_Mo_sign_130 : decode b_Mo_sign 130 = .ok (.bipush 60, 2) := by decide +kernel
theorem d_Mo_sign_132 : decode b_Mo_sign 132 = .ok (.if_icmp .ne 8, 3) := by decide +kernel
theorem d_Mo_sign_135 : decode b_Mo_sign 135 = .ok (.bipush 35, 2) := by decide +kernel
theorem d_Mo_sign_137 : decode b_Mo_sign 137 = .ok (.goto 21, 3) := by decide +kernel
theorem d_Mo_sign_140 : decode b_Mo_sign 140 = .ok (.bipush 37, 2) := by decide +kernel
theorem d_Mo_sign_142 : decode b_Mo_sign 142 = .ok (.goto 16, 3) := by decide +kernel
theorem d_Mo_sign_145 : decode b_Mo_sign 145 = .ok (.iload_n 3, 1) := by decide +kernel
theorem d_Mo_sign_146 : decode b_Mo_sign 146 = .ok (.bipush 60, 2) := by decide +kernel
theorem d_Mo_sign_148 : decode b_Mo_sign 148 = .ok (.if_icmp .ne 8, 3) := by decide +kernel
theorem d_Mo_sign_151 : decode b_Mo_sign 151 = .ok (.bipush 38, 2) := by decide +kernel
theorem d_Mo_sign_153 : decode b_Mo_sign 153 = .ok (.goto 5, 3) := by decide +kernel
theorem d_Mo_sign_156 : decode b_Mo_sign 156 = .ok (.bipush 39, 2) := by decide +kernel
theorem d_Mo_sign_158 : decode b_Mo_sign 158 = .ok (.istore 7, 2) := by decide +kernel
theorem d_Mo_sign_160 : decode b_Mo_sign 160 = .ok (.goto 273, 3) := by decide +kernel
theorem d_Mo_sign_163 : decode b_Mo_sign 163 = .ok (.iload_n 3, 1) := by decide +kernel
theorem d_Mo_sign_164 : decode b_Mo_sign 164 = .ok (.bipush 61, 2) := by decide +kernel
theorem d_Mo_sign_166 : decode b_Mo_sign 166 = .ok (.if_icmp .eq 9, 3) := by decide +kernel
theorem d_Mo_sign_169 : decode b_Mo_sign 169 = .ok (.iload_n 3, 1) := by decide +kernel
theorem d_Mo_sign_170 : decode b_Mo_sign 170 = .ok (.bipush 33, 2) := by decide +kernel
theorem d_Mo_sign_172 : decode b_Mo_sign 172 = .ok (.if_icmp .ne 56, 3) := by decide +kernel
theorem d_Mo_sign_175 : decode b_Mo_sign 175 = .ok (.iload 4, 2) := by decide +kernel
theorem d_Mo_sign_177 : decode b_Mo_sign 177 = .ok (.bipush 61, 2) := by decide +kernel
theorem d_Mo_sign_179 : decode b_Mo_sign 179 = .ok (.if_icmp .ne 7, 3) := by decide +kernel
theorem d_Mo_sign_182 : decode b_Mo_sign 182 = .ok (.iconst 2, 1) := by decide +kernel
theorem d_Mo_sign_183 : decode b_Mo_sign 183 = .ok (.goto 4, 3) := by decide +kernel
theorem d_Mo_sign_186 : decode b_Mo_sign 186 = .ok (.iconst 1, 1) := by decide +kernel
theorem d_Mo_sign_187 : decode b_Mo_sign 187 = .ok (.istore 6, 2) := by decide +kernel
theorem d_Mo_sign_189 : decode b_Mo_sign 189 = .ok (.iload 6, 2) := by decide +kernel
theorem d_Mo_sign_191 : decode b_Mo_sign 191 = .ok (.iconst 2, 1) := by decide +kernel
theorem d_Mo_sign_192 : decode b_Mo_sign 192 = .ok (.if_icmp .ne 19, 3) := by decide +kernel
theorem d_Mo_sign_195 : decode b_Mo_sign 195 = .ok (.iload_n 3, 1) := by decide +kernel
theorem d_Mo_sign_196 : decode b_Mo_sign 196 = .ok (.bipush 61, 2) := by decide +kernel
theorem d_Mo_sign_198 : decode b_Mo_sign 198 = .ok (.if_icmp .ne 8, 3) := by decide +kernel
theorem d_Mo_sign_201 : decode b_Mo_sign 201 = .ok (.bipush 41, 2) := by decide +kernel
theorem d_Mo_sign_203 : decode b_Mo_sign 203 = .ok (.goto 20, 3) := by decide +kernel
theorem d_Mo_sign_206 : decode b_Mo_sign 206 = .ok (.bipush 42, 2) := by decide +kernel
theorem d_Mo_sign_208 : decode b_Mo_sign 208 = .ok (.goto 15, 3) := by decide +kernel
theorem d_Mo_sign_211 : decode b_Mo_sign 211 = .ok (.iload_n 3, 1) := by decide +kernel
theorem d_Mo_sign_212 : decode b_Mo_sign 212 = .ok (.bipush 33, 2) := by decide +kernel
theorem d_Mo_sign_214 : decode b_Mo_sign 214 = .ok (.if_icmp .ne 8, 3) := by decide +kernel
theorem d_Mo_sign_217 : decode b_Mo_sign 217 = .ok (.bipush 33, 2) := by decide +kernel
theorem d_Mo_sign_219 : decode b_Mo_sign 219 = .ok (.goto 4, 3) := by decide +kernel
theorem d_Mo_sign_222 : decode b_Mo_sign 222 = .ok (.iconst 0, 1) := by decide +kernel
theorem d_Mo_sign_223 : decode b_Mo_sign 223 = .ok (.istore 7, 2) := by decide +kernel
theorem d_Mo_sign_225 : decode b_Mo_sign 225 = .ok (.goto 208, 3) := by decide +kernel
theorem d_Mo_sign_228 : decode b_Mo_sign 228 = .ok (.iload_n 3, 1) := by decide +kernel
theorem d_Mo_sign_229 : decode b_Mo_sign 229 = .ok (.bipush 38, 2) := by decide +kernel
theorem d_Mo_sign_231 : decode b_Mo_sign 231 = .ok (.if_icmp .eq 9, 3) := by decide +kernel
theorem d_Mo_sign_234 : decode b_Mo_sign 234 = .ok (.iload_n 3, 1) := by decide +kernel
theorem d_Mo_sign_235 : decode b_Mo_sign 235 = .ok (.bipush 124, 2) := by decide +kernel
theorem d_Mo_sign_237 : decode b_Mo_sign 237 = .ok (.if_icmp .ne 39, 3) := by decide +kernel
theorem d_Mo_sign_240 : decode b_Mo_sign 240 = .ok (.iload 4, 2) := by decide +kernel
theorem d_Mo_sign_242 : decode b_Mo_sign 242 = .ok (.iload_n 3, 1) := by decide +kernel
theorem d_Mo_sign_243 : decode b_Mo_sign 243 = .ok (.if_icmp .ne 7, 3) := by decide +kernel
theorem d_Mo_sign_246 : decode b_Mo_sign 246 = .ok (.iconst 2, 1) := by decide +kernel
theorem d_Mo_sign_247 : decode b_Mo_sign 247 = .ok (.goto 4, 3) := by decide +kernel
theorem d_Mo_sign_250 : decode b_Mo_sign 250 = .ok (.iconst 1, 1) := by decide +kernel
theorem d_Mo_sign_251 : decode b_Mo_sign 251 = .ok (.istore 6, 2) := by decide +kernel
theorem d_Mo_sign_253 : decode b_Mo_sign 253 = .ok (.iload_n 3, 1) := by decide +kernel
theorem d_Mo_sign_254 : decode b_Mo_sign 254 = .ok (.bipush 38, 2) := by decide +kernel
theorem d_Mo_sign_256 : decode b_Mo_sign 256 = .ok (.if_icmp .ne 8, 3) := by decide +kernel
theorem d_Mo_sign_259 : decode b_Mo_sign 259 = .ok (.bipush 43, 2) := by decide +kernel
theorem d_Mo_sign_261 : decode b_Mo_sign 261 = .ok (.goto 5, 3) := by decide +kernel
theorem d_Mo_sign_264 : decode b_Mo_sign 264 = .ok (.bipush 45, 2) := by decide +kernel
theorem d_Mo_sign_266 : decode b_Mo_sign 266 = .ok (.iload 6, 2) := by decide +kernel
theorem d_Mo_sign_268 : decode b_Mo_sign 268 = .ok (.iadd, 1) := by decide +kernel
theorem d_Mo_sign_269 : decode b_Mo_sign 269 = .ok (.iconst 1, 1) := by decide +kernel
theorem d_Mo_sign_270 : decode b_Mo_sign 270 = .ok (.isub, 1) := by decide +kernel
theorem d_Mo_sign_271 : decode b_Mo_sign 271 = .ok (.istore 7, 2) := by decide +kernel
theorem d_Mo_sign_273 : decode b_Mo_sign 273 = .ok (.goto 160, 3) := by decide +kernel
theorem d_Mo_sign_276 : decode b_Mo_sign 276 = .ok (.iload_n 3, 1) := by decide +kernel
theorem d_Mo_sign_277 : decode b_Mo_sign 277 = .ok (.bipush 40, 2) := by decide +kernel
theorem d_Mo_sign_279 : decode b_Mo_sign 279 = .ok (.if_icmp .ne 8, 3) := by decide +kernel
theorem d_Mo_sign_282 : decode b_Mo_sign 282 = .ok (.bipush 20, 2) := by decide +kernel
theorem d_Mo_sign_284 : decode b_Mo_sign 284 = .ok (.goto 147, 3) := by decide +kernel
theorem d_Mo_sign_287 : decode b_Mo_sign 287 = .ok (.iload_n 3, 1) := by decide +kernel
theorem d_Mo_sign_288 : decode b_Mo_sign 288 = .ok (.bipush 41, 2) := by decide +kernel
theorem d_Mo_sign_290 : decode b_Mo_sign 290 = .ok (.if_icmp .ne 8, 3) := by decide +kernel
theorem d_Mo_sign_293 : decode b_Mo_sign 293 = .ok (.bipush 21, 2) := by decide +kernel
theorem d_Mo_sign_295 : decode b_Mo_sign 295 = .ok (.goto 136, 3) := by decide +kernel
theorem d_Mo_sign_298 : decode b_Mo_sign 298 = .ok (.iload_n 3, 1) := by decide +kernel
theorem d_Mo_sign_299 : decode b_Mo_sign 299 = .ok (.bipush 91, 2) := by decide +kernel
theorem d_Mo_sign_301 : decode b_Mo_sign 301 = .ok (.if_icmp .ne 8, 3) := by decide +kernel
theorem d_Mo_sign_304 : decode b_Mo_sign 304 = .ok (.bipush 22, 2) := by decide +kernel
theorem d_Mo_sign_306 : decode b_Mo_sign 306 = .ok (.goto 125, 3) := by decide +kernel
theorem d_Mo_sign_309 : decode b_Mo_sign 309 = .ok (.iload_n 3, 1) := by decide +kernel
theorem d_Mo_sign_310 : decode b_Mo_sign 310 = .ok (.bipush 93, 2) := by decide +kernel
theorem d_Mo_sign_312 : decode b_Mo_sign 312 = .ok (.if_icmp .ne 8, 3) := by decide +kernel
theorem d_Mo_sign_315 : decode b_Mo_sign 315 = .ok (.bipush 23, 2) := by decide +kernel
theorem d_Mo_sign_317 : decode b_Mo_sign 317 = .ok (.goto 114, 3) := by decide +kernel
theorem d_Mo_sign_320 : decode b_Mo_sign 320 = .ok (.iload_n 3, 1) := by decide +kernel
theorem d_Mo_sign_321 : decode b_Mo_sign 321 = .ok (.bipush 46, 2) := by decide +kernel
theorem d_Mo_sign_323 : decode b_Mo_sign 323 = .ok (.if_icmp .ne 8, 3) := by decide +kernel
theorem d_Mo_sign_326 : decode b_Mo_sign 326 = .ok (.bipush 24, 2) := by decide +kernel
theorem d_Mo_sign_328 : decode b_Mo_sign 328 = .ok (.goto 103, 3) := by decide +kernel
theorem d_Mo_sign_331 : decode b_Mo_sign 331 = .ok (.iload_n 3, 1) := by decide +kernel
theorem d_Mo_sign_332 : decode b_Mo_sign 332 = .ok (.bipush 63, 2) := by decide +kernel
theorem d_Mo_sign_334 : decode b_Mo_sign 334 = .ok (.if_icmp .ne 8, 3) := by decide +kernel
theorem d_Mo_sign_337 : decode b_Mo_sign 337 = .ok (.bipush 25, 2) := by decide +kernel
theorem d_Mo_sign_339 : decode b_Mo_sign 339 = .ok (.goto 92, 3) := by decide +kernel
theorem d_Mo_sign_342 : decode b_Mo_sign 342 = .ok (.iload_n 3, 1) := by decide +kernel
theorem d_Mo_sign_343 : decode b_Mo_sign 343 = .ok (.bipush 58, 2) := by decide +kernel
theorem d_Mo_sign_345 : decode b_Mo_sign 345 = .ok (.if_icmp .ne 8, 3) := by decide +kernel
theorem d_Mo_sign_348 : decode b_Mo_sign 348 = .ok (.bipush 26, 2) := by decide +kernel
theorem d_Mo_sign_350 : decode b_Mo_sign 350 = .ok (.goto 81, 3) := by decide +kernel
theorem d_Mo_sign_353 : decode b_Mo_sign 353 = .ok (.iload_n 3, 1) := by decide +kernel
theorem d_Mo_sign_354 : decode b_Mo_sign 354 = .ok (.bipush 43, 2) := by decide +kernel
theorem d_Mo_sign_356 : decode b_Mo_sign 356 = .ok (.if_icmp .ne 8, 3) := by decide +kernel
theorem d_Mo_sign_359 : decode b_Mo_sign 359 = .ok (.bipush 27, 2) := by decide +kernel
theorem d_Mo_sign_361 : decode b_Mo_sign 361 = .ok (.goto 70, 3) := by decide +kernel
theorem d_Mo_sign_364 : decode b_Mo_sign 364 = .ok (.iload_n 3, 1) := by decide +kernel
theorem d_Mo_sign_365 : decode b_Mo_sign 365 = .ok (.bipush 45, 2) := by decide +kernel
theorem d_Mo_sign_367 : decode b_Mo_sign 367 = .ok (.if_icmp .ne 8, 3) := by decide +kernel
theorem d_Mo_sign_370 : decode b_Mo_sign 370 = .ok (.bipush 28, 2) := by decide +kernel
theorem d_Mo_sign_372 : decode b_Mo_sign 372 = .ok (.goto 59, 3) := by decide +kernel
theorem d_Mo_sign_375 : decode b_Mo_sign 375 = .ok (.iload_n 3, 1) := by decide +kernel
theorem d_Mo_sign_376 : decode b_Mo_sign 376 = .ok (.bipush 42, 2) := by decide +kernel
theorem d_Mo_sign_378 : decode b_Mo_sign 378 = .ok (.if_icmp .ne 8, 3) := by decide +kernel
theorem d_Mo_sign_381 : decode b_Mo_sign 381 = .ok (.bipush 29, 2) := by decide +kernel
theorem d_Mo_sign_383 : decode b_Mo_sign 383 = .ok (.goto 48, 3) := by decide +kernel
theorem d_Mo_sign_386 : decode b_Mo_sign 386 = .ok (.iload_n 3, 1) := by decide +kernel
theorem d_Mo_sign_387 : decode b_Mo_sign 387 = .ok (.bipush 47, 2) := by decide +kernel
theorem d_Mo_sign_389 : decode b_Mo_sign 389 = .ok (.if_icmp .ne 8, 3) := by decide +kernel
theorem d_Mo_sign_392 : decode b_Mo_sign 392 = .ok (.bipush 30, 2) := by decide +kernel
theorem d_Mo_sign_394 : decode b_Mo_sign 394 = .ok (.goto 37, 3) := by decide +kernel
theorem d_Mo_sign_397 : decode b_Mo_sign 397 = .ok (.iload_n 3, 1) := by decide +kernel
theorem d_Mo_sign_398 : decode b_Mo_sign 398 = .ok (.bipush 37, 2) := by decide +kernel
theorem d_Mo_sign_400 : decode b_Mo_sign 400 = .ok (.if_icmp .ne 8, 3) := by decide +kernel
theorem d_Mo_sign_403 : decode b_Mo_sign 403 = .ok (.bipush 31, 2) := by decide +kernel
theorem d_Mo_sign_405 : decode b_Mo_sign 405 = .ok (.goto 26, 3) := by decide +kernel
theorem d_Mo_sign_408 : decode b_Mo_sign 408 = .ok (.iload_n 3, 1) := by decide +kernel
theorem d_Mo_sign_409 : decode b_Mo_sign 409 = .ok (.bipush 126, 2) := by decide +kernel
theorem d_Mo_sign_411 : decode b_Mo_sign 411 = .ok (.if_icmp .ne 8, 3) := by decide +kernel
theorem d_Mo_sign_414 : decode b_Mo_sign 414 = .ok (.bipush 32, 2) := by decide +kernel
theorem d_Mo_sign_416 : decode b_Mo_sign 416 = .ok (.goto 15, 3) := by decide +kernel
theorem d_Mo_sign_419 : decode b_Mo_sign 419 = .ok (.iload_n 3, 1) := by decide +kernel
theorem d_Mo_sign_420 : decode b_Mo_sign 420 = .ok (.bipush 94, 2) := by decide +kernel
theorem d_Mo_sign_422 : decode b_Mo_sign 422 = .ok (.if_icmp .ne 8, 3) := by decide +kernel
theorem d_Mo_sign_425 : decode b_Mo_sign 425 = .ok (.bipush 47, 2) := by decide +kernel
theorem d_Mo_sign_427 : decode b_Mo_sign 427 = .ok (.goto 4, 3) := by decide +kernel
theorem d_Mo_sign_430 : decode b_Mo_sign 430 = .ok (.iconst 0, 1) := by decide +kernel
theorem d_Mo_sign_431 : decode b_Mo_sign 431 = .ok (.istore 7, 2) := by decide +kernel
theorem d_Mo_sign_433 : decode b_Mo_sign 433 = .ok (.aload_n 0, 1) := by decide +kernel
theorem d_Mo_sign_434 : decode b_Mo_sign 434 = .ok (.iload 7, 2) := by decide +kernel
theorem d_Mo_sign_436 : decode b_Mo_sign 436 = .ok (.ifCond .ne 7, 3) := by decide +kernel
theorem d_Mo_sign_439 : decode b_Mo_sign 439 = .ok (.iconst 1, 1) := by decide +kernel
theorem d_Mo_sign_440 : decode b_Mo_sign 440 = .ok (.goto 4, 3) := by decide +kernel
theorem d_Mo_sign_443 : decode b_Mo_sign 443 = .ok (.iconst 0, 1) := by decide +kernel
theorem d_Mo_sign_444 : decode b_Mo_sign 444 = .ok (.putfield 166, 3) := by decide +kernel
theorem d_Mo_sign_447 : decode b_Mo_sign 447 = .ok (.aload_n 0, 1) := by decide +kernel
theorem d_Mo_sign_448 : decode b_Mo_sign 448 = .ok (.iload 7, 2) := by decide +kernel
theorem d_Mo_sign_450 : decode b_Mo_sign 450 = .ok (.lconst 0, 1) := by decide +kernel
theorem d_Mo_sign_451 : decode b_Mo_sign 451 = .ok (.invokevirtual 184, 3) := by decide +kernel
theorem d_Mo_sign_454 : decode b_Mo_sign 454 = .ok (.iload_n 2, 1) := by decide +kernel
theorem d_Mo_sign_455 : decode b_Mo_sign 455 = .ok (.iload 6, 2) := by decide +kernel
theorem d_Mo_sign_457 : decode b_Mo_sign 457 = .ok (.iadd, 1) := by decide +kernel
theorem d_Mo_sign_458 : decode b_Mo_sign 458 = .ok (.ireturn, 1) := by decide +kernel
set_option maxHeartbeats 1000000 in
theorem g_Mo_sign {X : WX} {d : Nat} (hd : 1 ≤ d) (e k : Int) (M : Mem) (hL : okL M) (he : 0 ≤ e ∧ e < 5) (hk : 0 ≤ k ∧ k ≤ 100) (hT : 0 ≤ M 55 25 ∧ M 55 25 ≤ 1000) : MG X gt d KE KE y_Mo_sign b_Mo_sign 8 (some .int) [vr 55, vi e, vi k] M (fun r M' => r = some (vi (k + sgN (txM M e k) (txM M e (k + 1)) (txM M e (k + 2)))) ∧ M' = signM M e k) := by
  refine MG_of_G (by decide) (Nat.le_of_ble_eq_true rfl) (Nat.le_refl _) (by decide) ?_
  show G X gt d KE KE y_Mo_sign b_Mo_sign 8 (some .int) _ 0 [(0, vr 55), (1, vi e), (2, vi k)] [] KE M
  refine G_rngl (i := 1) rfl (fun hr1 => ?_)
  refine G_rngl (i := 2) rfl (fun hr2 => ?_)
  have tail : ∀ t n : Int, t = sgT (txM M e k) (txM M e (k + 1)) (txM M e (k + 2)) → n = sgN (txM M e k) (txM M e (k + 1)) (txM M e (k + 2)) → 0 ≤ n ∧ n ≤ 3 → G X gt d KE KE y_Mo_sign b_Mo_sign 8 (some .int) (fun r M' => r = some (vi (k + sgN (txM M e k) (txM M e (k + 1)) (txM M e (k + 2)))) ∧ M' = signM M e k) 433 [(7, vi t), (6, vi n), (5, vi (txM M e (k + 2))), (4, vi (txM M e (k + 1))), (3, vi (txM M e k)), (0, vr 55), (1, vi e), (2, vi k)] [] KE M := by
    intro t n ht hn hn3
    refine G_aload (i := 0) (n := 5) (len := 1) (Or.inl ⟨0, rfl, rfl, d_Mo_sign_433⟩) rfl (by decide) (G_pc (pc' := 434) rfl ?_)
    refine G_iload (i := 7) (n := 0) (len := 2) (Or.inr ⟨rfl, d_Mo_sign_434⟩) rfl (G_pc (pc' := 436) rfl ?_)
    refine G_if_ne (tgt := 443) d_Mo_sign_436 (by decide) (fun h2701 => ?_) (fun h2701 => G_pc (pc' := 439) rfl ?_)
    · skip
      refine G_iconst (n := 0) d_Mo_sign_443 (by decide) (G_pc (pc' := 444) rfl ?_)
      refine G_putL (o := 55) (c := 9) (k := 44) (ki := 44) (x := 0) d_Mo_sign_444 fl_Mo_166 rfl rfl (by decide) (by decide) (by decide) rfl rfl (tokZ (by decide)) rfl (G_pc (pc' := 447) rfl ?_)
      refine G_aload (i := 0) (n := 5) (len := 1) (Or.inl ⟨0, rfl, rfl, d_Mo_sign_447⟩) rfl (by decide) (G_pc (pc' := 448) rfl ?_)
      refine G_iload (i := 7) (n := 0) (len := 2) (Or.inr ⟨rfl, d_Mo_sign_448⟩) rfl (G_pc (pc' := 450) rfl ?_)
      refine G_lconst0 d_Mo_sign_450 (G_pc (pc' := 451) rfl ?_)
      refine G_callV (K1 := KE) (d2 := 0) (o := 55) (cl := 9) (as := [vi t, vl 0]) (rest := []) d_Mo_sign_451 mf_Mo_add ml_Mo_184 rfl rfl (by decide) rfl rfl (by decide) (by omega) ⟨Nat.le_refl _, Nat.le_refl _⟩ (g_Mo_add (by omega) t 0 _ hT) (fun r2702 M2703 kq2704 q2704 => ?_)
      clear kq2704; obtain ⟨q2704a, q2704b⟩ := q2704; subst r2702; subst M2703
      refine G_ps (pc' := 454) (st' := []) rfl rfl ?_
      refine G_iload (i := 2) (n := 7) (len := 1) (Or.inl ⟨2, rfl, rfl, d_Mo_sign_454⟩) rfl (G_pc (pc' := 455) rfl ?_)
      refine G_iload (i := 6) (n := 1) (len := 2) (Or.inr ⟨rfl, d_Mo_sign_455⟩) rfl (G_pc (pc' := 457) rfl ?_)
      refine G_iadd d_Mo_sign_457 (by omega) (G_pc (pc' := 458) rfl ?_)
      refine G_iret d_Mo_sign_458 rfl (tokI (by omega)) rfl rfl ?_
      exact ⟨by rw [hn], by unfold signM; rw [← ht]; first | rw [if_pos (by omega)] | rw [if_neg (by omega)]⟩
    · skip
      refine G_iconst (n := 1) d_Mo_sign_439 (by decide) (G_pc (pc' := 440) rfl ?_)
      refine G_goto (tgt := 444) d_Mo_sign_440 (by decide) ?_
      refine G_putL (o := 55) (c := 9) (k := 44) (ki := 44) (x := 1) d_Mo_sign_444 fl_Mo_166 rfl rfl (by decide) (by decide) (by decide) rfl rfl (tokZ (by decide)) rfl (G_pc (pc' := 447) rfl ?_)
      refine G_aload (i := 0) (n := 5) (len := 1) (Or.inl ⟨0, rfl, rfl, d_Mo_sign_447⟩) rfl (by decide) (G_pc (pc' := 448) rfl ?_)
      refine G_iload (i := 7) (n := 0) (len := 2) (Or.inr ⟨rfl, d_Mo_sign_448⟩) rfl (G_pc (pc' := 450) rfl ?_)
      refine G_lconst0 d_Mo_sign_450 (G_pc (pc' := 451) rfl ?_)
      refine G_callV (K1 := KE) (d2 := 0) (o := 55) (cl := 9) (as := [vi t, vl 0]) (rest := []) d_Mo_sign_451 mf_Mo_add ml_Mo_184 rfl rfl (by decide) rfl rfl (by decide) (by omega) ⟨Nat.le_refl _, Nat.le_refl _⟩ (g_Mo_add (by omega) t 0 _ hT) (fun r2705 M2706 kq2707 q2707 => ?_)
      clear kq2707; obtain ⟨q2707a, q2707b⟩ := q2707; subst r2705; subst M2706
      refine G_ps (pc' := 454) (st' := []) rfl rfl ?_
      refine G_iload (i := 2) (n := 7) (len := 1) (Or.inl ⟨2, rfl, rfl, d_Mo_sign_454⟩) rfl (G_pc (pc' := 455) rfl ?_)
      refine G_iload (i := 6) (n := 1) (len := 2) (Or.inr ⟨rfl, d_Mo_sign_455⟩) rfl (G_pc (pc' := 457) rfl ?_)
      refine G_iadd d_Mo_sign_457 (by omega) (G_pc (pc' := 458) rfl ?_)
      refine G_iret d_Mo_sign_458 rfl (tokI (by omega)) rfl rfl ?_
      exact ⟨by rw [hn], by unfold signM; rw [← ht]; first | rw [if_pos (by omega)] | rw [if_neg (by omega)]⟩
  refine G_aload (i := 0) (n := 0) (len := 1) (Or.inl ⟨0, rfl, rfl, d_Mo_sign_0⟩) rfl (by decide) (G_pc (pc' := 1) rfl ?_)
  refine G_iload (i := 1) (n := 1) (len := 1) (Or.inl ⟨1, rfl, rfl, d_Mo_sign_1⟩) rfl (G_pc (pc' := 2) rfl ?_)
  refine G_iload (i := 2) (n := 2) (len := 1) (Or.inl ⟨2, rfl, rfl, d_Mo_sign_2⟩) rfl (G_pc (pc' := 3) rfl ?_)
  refine G_callV (K1 := KE) (d2 := 0) (o := 55) (cl := 9) (as := [vi e, vi k]) (rest := []) d_Mo_sign_3 mf_Mo_at ml_Mo_169 rfl rfl (by decide) rfl rfl (by decide) (by omega) ⟨Nat.le_refl _, Nat.le_refl _⟩ (g_Mo_at (by omega) e k _ hL he (by omega)) (fun r1 M2 kq3 q3 => ?_)
  clear kq3; obtain ⟨q3a, q3b⟩ := q3; subst r1; subst M2
  refine G_ps (pc' := 6) (st' := [vi (txM M e k)]) rfl rfl ?_
  refine G_istore (i := 3) (len := 1) (ls' := [(3, vi (txM M e k)), (0, vr 55), (1, vi e), (2, vi k)]) (Or.inl ⟨3, rfl, rfl, d_Mo_sign_6⟩) (by decide) rfl (G_pc (pc' := 7) rfl ?_)
  refine G_aload (i := 0) (n := 1) (len := 1) (Or.inl ⟨0, rfl, rfl, d_Mo_sign_7⟩) rfl (by decide) (G_pc (pc' := 8) rfl ?_)
  refine G_iload (i := 1) (n := 2) (len := 1) (Or.inl ⟨1, rfl, rfl, d_Mo_sign_8⟩) rfl (G_pc (pc' := 9) rfl ?_)
  refine G_iload (i := 2) (n := 3) (len := 1) (Or.inl ⟨2, rfl, rfl, d_Mo_sign_9⟩) rfl (G_pc (pc' := 10) rfl ?_)
  refine G_iconst (n := 1) d_Mo_sign_10 (by decide) (G_pc (pc' := 11) rfl ?_)
  refine G_iadd d_Mo_sign_11 (by omega) (G_pc (pc' := 12) rfl ?_)
  refine G_callV (K1 := KE) (d2 := 0) (o := 55) (cl := 9) (as := [vi e, vi (k + 1)]) (rest := []) d_Mo_sign_12 mf_Mo_at ml_Mo_169 rfl rfl (by decide) rfl rfl (by decide) (by omega) ⟨Nat.le_refl _, Nat.le_refl _⟩ (g_Mo_at (by omega) e (k + 1) _ hL he (by omega)) (fun r4 M5 kq6 q6 => ?_)
  clear kq6; obtain ⟨q6a, q6b⟩ := q6; subst r4; subst M5
  refine G_ps (pc' := 15) (st' := [vi (txM M e (k + 1))]) rfl rfl ?_
  refine G_istore (i := 4) (len := 2) (ls' := [(4, vi (txM M e (k + 1))), (3, vi (txM M e k)), (0, vr 55), (1, vi e), (2, vi k)]) (Or.inr ⟨rfl, d_Mo_sign_15⟩) (by decide) rfl (G_pc (pc' := 17) rfl ?_)
  refine G_aload (i := 0) (n := 2) (len := 1) (Or.inl ⟨0, rfl, rfl, d_Mo_sign_17⟩) rfl (by decide) (G_pc (pc' := 18) rfl ?_)
  refine G_iload (i := 1) (n := 3) (len := 1) (Or.inl ⟨1, rfl, rfl, d_Mo_sign_18⟩) rfl (G_pc (pc' := 19) rfl ?_)
  refine G_iload (i := 2) (n := 4) (len := 1) (Or.inl ⟨2, rfl, rfl, d_Mo_sign_19⟩) rfl (G_pc (pc' := 20) rfl ?_)
  refine G_iconst (n := 2) d_Mo_sign_20 (by decide) (G_pc (pc' := 21) rfl ?_)
  refine G_iadd d_Mo_sign_21 (by omega) (G_pc (pc' := 22) rfl ?_)
  refine G_callV (K1 := KE) (d2 := 0) (o := 55) (cl := 9) (as := [vi e, vi (k + 2)]) (rest := []) d_Mo_sign_22 mf_Mo_at ml_Mo_169 rfl rfl (by decide) rfl rfl (by decide) (by omega) ⟨Nat.le_refl _, Nat.le_refl _⟩ (g_Mo_at (by omega) e (k + 2) _ hL he (by omega)) (fun r7 M8 kq9 q9 => ?_)
  clear kq9; obtain ⟨q9a, q9b⟩ := q9; subst r7; subst M8
  refine G_ps (pc' := 25) (st' := [vi (txM M e (k + 2))]) rfl rfl ?_
  refine G_istore (i := 5) (len := 2) (ls' := [(5, vi (txM M e (k + 2))), (4, vi (txM M e (k + 1))), (3, vi (txM M e k)), (0, vr 55), (1, vi e), (2, vi k)]) (Or.inr ⟨rfl, d_Mo_sign_25⟩) (by decide) rfl (G_pc (pc' := 27) rfl ?_)
  refine G_iconst (n := 1) d_Mo_sign_27 (by decide) (G_pc (pc' := 28) rfl ?_)
  refine G_istore (i := 6) (len := 2) (ls' := [(6, vi 1), (5, vi (txM M e (k + 2))), (4, vi (txM M e (k + 1))), (3, vi (txM M e k)), (0, vr 55), (1, vi e), (2, vi k)]) (Or.inr ⟨rfl, d_Mo_sign_28⟩) (by decide) rfl (G_pc (pc' := 30) rfl ?_)
  refine G_iconst (n := 0) d_Mo_sign_30 (by decide) (G_pc (pc' := 31) rfl ?_)
  refine G_istore (i := 7) (len := 2) (ls' := [(7, vi 0), (6, vi 1), (5, vi (txM M e (k + 2))), (4, vi (txM M e (k + 1))), (3, vi (txM M e k)), (0, vr 55), (1, vi e), (2, vi k)]) (Or.inr ⟨rfl, d_Mo_sign_31⟩) (by decide) rfl (G_pc (pc' := 33) rfl ?_)
  refine G_iload (i := 3) (n := 4) (len := 1) (Or.inl ⟨3, rfl, rfl, d_Mo_sign_33⟩) rfl (G_pc (pc' := 34) rfl ?_)
  refine G_bipush (n := 60) d_Mo_sign_34 (by decide) (G_pc (pc' := 36) rfl ?_)
  refine G_icmp_eq (tgt := 45) d_Mo_sign_36 (by decide) (fun h10 => ?_) (fun h10 => G_pc (pc' := 39) rfl ?_)
  · skip
    refine G_iload (i := 3) (n := 4) (len := 1) (Or.inl ⟨3, rfl, rfl, d_Mo_sign_45⟩) rfl (G_pc (pc' := 46) rfl ?_)
    refine G_bipush (n := 62) d_Mo_sign_46 (by decide) (G_pc (pc' := 48) rfl ?_)
    refine G_icmp_ne (tgt := 69) d_Mo_sign_48 (by decide) (fun h11 => ?_) (fun h11 => G_pc (pc' := 51) rfl ?_)
    · skip
      refine G_iload (i := 4) (n := 3) (len := 2) (Or.inr ⟨rfl, d_Mo_sign_69⟩) rfl (G_pc (pc' := 71) rfl ?_)
      refine G_iload (i := 3) (n := 4) (len := 1) (Or.inl ⟨3, rfl, rfl, d_Mo_sign_71⟩) rfl (G_pc (pc' := 72) rfl ?_)
      refine G_icmp_eq (tgt := 82) d_Mo_sign_72 (by decide) (fun h12 => ?_) (fun h12 => G_pc (pc' := 75) rfl ?_)
      · skip
        refine G_iconst (n := 2) d_Mo_sign_82 (by decide) (G_pc (pc' := 83) rfl ?_)
        refine G_goto (tgt := 87) d_Mo_sign_83 (by decide) ?_
        refine G_istore (i := 6) (len := 2) (ls' := [(6, vi 2), (7, vi 0), (5, vi (txM M e (k + 2))), (4, vi (txM M e (k + 1))), (3, vi (txM M e k)), (0, vr 55), (1, vi e), (2, vi k)]) (Or.inr ⟨rfl, d_Mo_sign_87⟩) (by decide) rfl (G_pc (pc' := 89) rfl ?_)
        refine G_iload (i := 6) (n := 0) (len := 2) (Or.inr ⟨rfl, d_Mo_sign_89⟩) rfl (G_pc (pc' := 91) rfl ?_)
        refine G_iconst (n := 3) d_Mo_sign_91 (by decide) (G_pc (pc' := 92) rfl ?_)
        refine G_icmp_ne (tgt := 100) d_Mo_sign_92 (by decide) (fun h13 => ?_) (fun h13 => absurd h13 (by decide))
        refine G_iload (i := 6) (n := 0) (len := 2) (Or.inr ⟨rfl, d_Mo_sign_100⟩) rfl (G_pc (pc' := 102) rfl ?_)
        refine G_iconst (n := 1) d_Mo_sign_102 (by decide) (G_pc (pc' := 103) rfl ?_)
        refine G_icmp_ne (tgt := 122) d_Mo_sign_103 (by decide) (fun h14 => ?_) (fun h14 => absurd h14 (by decide))
        refine G_iload (i := 4) (n := 3) (len := 2) (Or.inr ⟨rfl, d_Mo_sign_122⟩) rfl (G_pc (pc' := 124) rfl ?_)
        refine G_bipush (n := 61) d_Mo_sign_124 (by decide) (G_pc (pc' := 126) rfl ?_)
        refine G_icmp_ne (tgt := 145) d_Mo_sign_126 (by decide) (fun h15 => ?_) (fun h15 => G_pc (pc' := 129) rfl ?_)
        · skip
          refine G_iload (i := 3) (n := 4) (len := 1) (Or.inl ⟨3, rfl, rfl, d_Mo_sign_145⟩) rfl (G_pc (pc' := 146) rfl ?_)
          refine G_bipush (n := 60) d_Mo_sign_146 (by decide) (G_pc (pc' := 148) rfl ?_)
          refine G_icmp_ne (tgt := 156) d_Mo_sign_148 (by decide) (fun h16 => ?_) (fun h16 => G_pc (pc' := 151) rfl ?_)
          · skip
            refine G_bipush (n := 39) d_Mo_sign_156 (by decide) (G_pc (pc' := 158) rfl ?_)
            refine G_istore (i := 7) (len := 2) (ls' := [(7, vi 39), (6, vi 2), (5, vi (txM M e (k + 2))), (4, vi (txM M e (k + 1))), (3, vi (txM M e k)), (0, vr 55), (1, vi e), (2, vi k)]) (Or.inr ⟨rfl, d_Mo_sign_158⟩) (by decide) rfl (G_pc (pc' := 160) rfl ?_)
            refine G_goto (tgt := 433) d_Mo_sign_160 (by decide) ?_
            refine G_ls (ls' := [(7, vi 39), (6, vi 2), (5, vi (txM M e (k + 2))), (4, vi (txM M e (k + 1))), (3, vi (txM M e k)), (0, vr 55), (1, vi e), (2, vi k)]) (by intro z hz; simp at hz ⊢; omega) ?_
            exact tail _ _ (by unfold sgT sgN; grind) (by unfold sgN; grind) (by omega)
          · skip
            refine G_bipush (n := 38) d_Mo_sign_151 (by decide) (G_pc (pc' := 153) rfl ?_)
            refine G_goto (tgt := 158) d_Mo_sign_153 (by decide) ?_
            refine G_istore (i := 7) (len := 2) (ls' := [(7, vi 38), (6, vi 2), (5, vi (txM M e (k + 2))), (4, vi (txM M e (k + 1))), (3, vi (txM M e k)), (0, vr 55), (1, vi e), (2, vi k)]) (Or.inr ⟨rfl, d_Mo_sign_158⟩) (by decide) rfl (G_pc (pc' := 160) rfl ?_)
            refine G_goto (tgt := 433) d_Mo_sign_160 (by decide) ?_
            refine G_ls (ls' := [(7, vi 38), (6, vi 2), (5, vi (txM M e (k + 2))), (4, vi (txM M e (k + 1))), (3, vi (txM M e k)), (0, vr 55), (1, vi e), (2, vi k)]) (by intro z hz; simp at hz ⊢; omega) ?_
            exact tail _ _ (by unfold sgT sgN; grind) (by unfold sgN; grind) (by omega)
        · skip
          refine G_iload (i := 3) (n := 4) (len := 1) (Or.inl ⟨3, rfl, rfl, d_Mo_sign_129⟩) rfl (G_pc (pc' := 130) rfl ?_)
          refine G_bipush (n := 60) d_Mo_sign_130 (by decide) (G_pc (pc' := 132) rfl ?_)
          refine G_icmp_ne (tgt := 140) d_Mo_sign_132 (by decide) (fun h17 => ?_) (fun h17 => G_pc (pc' := 135) rfl ?_)
          · skip
            refine G_bipush (n := 37) d_Mo_sign_140 (by decide) (G_pc (pc' := 142) rfl ?_)
            refine G_goto (tgt := 158) d_Mo_sign_142 (by decide) ?_
            refine G_istore (i := 7) (len := 2) (ls' := [(7, vi 37), (6, vi 2), (5, vi (txM M e (k + 2))), (4, vi (txM M e (k + 1))), (3, vi (txM M e k)), (0, vr 55), (1, vi e), (2, vi k)]) (Or.inr ⟨rfl, d_Mo_sign_158⟩) (by decide) rfl (G_pc (pc' := 160) rfl ?_)
            refine G_goto (tgt := 433) d_Mo_sign_160 (by decide) ?_
            refine G_ls (ls' := [(7, vi 37), (6, vi 2), (5, vi (txM M e (k + 2))), (4, vi (txM M e (k + 1))), (3, vi (txM M e k)), (0, vr 55), (1, vi e), (2, vi k)]) (by intro z hz; simp at hz ⊢; omega) ?_
            exact tail _ _ (by unfold sgT sgN; grind) (by unfold sgN; grind) (by omega)
          · skip
            refine G_bipush (n := 35) d_Mo_sign_135 (by decide) (G_pc (pc' := 137) rfl ?_)
            refine G_goto (tgt := 158) d_Mo_sign_137 (by decide) ?_
            refine G_istore (i := 7) (len := 2) (ls' := [(7, vi 35), (6, vi 2), (5, vi (txM M e (k + 2))), (4, vi (txM M e (k + 1))), (3, vi (txM M e k)), (0, vr 55), (1, vi e), (2, vi k)]) (Or.inr ⟨rfl, d_Mo_sign_158⟩) (by decide) rfl (G_pc (pc' := 160) rfl ?_)
            refine G_goto (tgt := 433) d_Mo_sign_160 (by decide) ?_
            refine G_ls (ls' := [(7, vi 35), (6, vi 2), (5, vi (txM M e (k + 2))), (4, vi (txM M e (k + 1))), (3, vi (txM M e k)), (0, vr 55), (1, vi e), (2, vi k)]) (by intro z hz; simp at hz ⊢; omega) ?_
            exact tail _ _ (by unfold sgT sgN; grind) (by unfold sgN; grind) (by omega)
      · skip
        refine G_iload (i := 4) (n := 3) (len := 2) (Or.inr ⟨rfl, d_Mo_sign_75⟩) rfl (G_pc (pc' := 77) rfl ?_)
        refine G_bipush (n := 61) d_Mo_sign_77 (by decide) (G_pc (pc' := 79) rfl ?_)
        refine G_icmp_ne (tgt := 86) d_Mo_sign_79 (by decide) (fun h18 => ?_) (fun h18 => G_pc (pc' := 82) rfl ?_)
        · skip
          refine G_iconst (n := 1) d_Mo_sign_86 (by decide) (G_pc (pc' := 87) rfl ?_)
          refine G_istore (i := 6) (len := 2) (ls' := [(6, vi 1), (7, vi 0), (5, vi (txM M e (k + 2))), (4, vi (txM M e (k + 1))), (3, vi (txM M e k)), (0, vr 55), (1, vi e), (2, vi k)]) (Or.inr ⟨rfl, d_Mo_sign_87⟩) (by decide) rfl (G_pc (pc' := 89) rfl ?_)
          refine G_iload (i := 6) (n := 0) (len := 2) (Or.inr ⟨rfl, d_Mo_sign_89⟩) rfl (G_pc (pc' := 91) rfl ?_)
          refine G_iconst (n := 3) d_Mo_sign_91 (by decide) (G_pc (pc' := 92) rfl ?_)
          refine G_icmp_ne (tgt := 100) d_Mo_sign_92 (by decide) (fun h19 => ?_) (fun h19 => absurd h19 (by decide))
          refine G_iload (i := 6) (n := 0) (len := 2) (Or.inr ⟨rfl, d_Mo_sign_100⟩) rfl (G_pc (pc' := 102) rfl ?_)
          refine G_iconst (n := 1) d_Mo_sign_102 (by decide) (G_pc (pc' := 103) rfl ?_)
          refine G_icmp_ne (tgt := 122) d_Mo_sign_103 (by decide) (fun h20 => absurd h20 (by decide)) (fun h20 => G_pc (pc' := 106) rfl ?_)
          refine G_iload (i := 3) (n := 4) (len := 1) (Or.inl ⟨3, rfl, rfl, d_Mo_sign_106⟩) rfl (G_pc (pc' := 107) rfl ?_)
          refine G_bipush (n := 60) d_Mo_sign_107 (by decide) (G_pc (pc' := 109) rfl ?_)
          refine G_icmp_ne (tgt := 117) d_Mo_sign_109 (by decide) (fun h21 => ?_) (fun h21 => G_pc (pc' := 112) rfl ?_)
          · skip
            refine G_bipush (n := 36) d_Mo_sign_117 (by decide) (G_pc (pc' := 119) rfl ?_)
            refine G_goto (tgt := 158) d_Mo_sign_119 (by decide) ?_
            refine G_istore (i := 7) (len := 2) (ls' := [(7, vi 36), (6, vi 1), (5, vi (txM M e (k + 2))), (4, vi (txM M e (k + 1))), (3, vi (txM M e k)), (0, vr 55), (1, vi e), (2, vi k)]) (Or.inr ⟨rfl, d_Mo_sign_158⟩) (by decide) rfl (G_pc (pc' := 160) rfl ?_)
            refine G_goto (tgt := 433) d_Mo_sign_160 (by decide) ?_
            refine G_ls (ls' := [(7, vi 36), (6, vi 1), (5, vi (txM M e (k + 2))), (4, vi (txM M e (k + 1))), (3, vi (txM M e k)), (0, vr 55), (1, vi e), (2, vi k)]) (by intro z hz; simp at hz ⊢; omega) ?_
            exact tail _ _ (by unfold sgT sgN; grind) (by unfold sgN; grind) (by omega)
          · skip
            refine G_bipush (n := 34) d_Mo_sign_112 (by decide) (G_pc (pc' := 114) rfl ?_)
            refine G_goto (tgt := 158) d_Mo_sign_114 (by decide) ?_
            refine G_istore (i := 7) (len := 2) (ls' := [(7, vi 34), (6, vi 1), (5, vi (txM M e (k + 2))), (4, vi (txM M e (k + 1))), (3, vi (txM M e k)), (0, vr 55), (1, vi e), (2, vi k)]) (Or.inr ⟨rfl, d_Mo_sign_158⟩) (by decide) rfl (G_pc (pc' := 160) rfl ?_)
            refine G_goto (tgt := 433) d_Mo_sign_160 (by decide) ?_
            refine G_ls (ls' := [(7, vi 34), (6, vi 1), (5, vi (txM M e (k + 2))), (4, vi (txM M e (k + 1))), (3, vi (txM M e k)), (0, vr 55), (1, vi e), (2, vi k)]) (by intro z hz; simp at hz ⊢; omega) ?_
            exact tail _ _ (by unfold sgT sgN; grind) (by unfold sgN; grind) (by omega)
        · skip
          refine G_iconst (n := 2) d_Mo_sign_82 (by decide) (G_pc (pc' := 83) rfl ?_)
          refine G_goto (tgt := 87) d_Mo_sign_83 (by decide) ?_
          refine G_istore (i := 6) (len := 2) (ls' := [(6, vi 2), (7, vi 0), (5, vi (txM M e (k + 2))), (4, vi (txM M e (k + 1))), (3, vi (txM M e k)), (0, vr 55), (1, vi e), (2, vi k)]) (Or.inr ⟨rfl, d_Mo_sign_87⟩) (by decide) rfl (G_pc (pc' := 89) rfl ?_)
          refine G_iload (i := 6) (n := 0) (len := 2) (Or.inr ⟨rfl, d_Mo_sign_89⟩) rfl (G_pc (pc' := 91) rfl ?_)
          refine G_iconst (n := 3) d_Mo_sign_91 (by decide) (G_pc (pc' := 92) rfl ?_)
          refine G_icmp_ne (tgt := 100) d_Mo_sign_92 (by decide) (fun h22 => ?_) (fun h22 => absurd h22 (by decide))
          refine G_iload (i := 6) (n := 0) (len := 2) (Or.inr ⟨rfl, d_Mo_sign_100⟩) rfl (G_pc (pc' := 102) rfl ?_)
          refine G_iconst (n := 1) d_Mo_sign_102 (by decide) (G_pc (pc' := 103) rfl ?_)
          refine G_icmp_ne (tgt := 122) d_Mo_sign_103 (by decide) (fun h23 => ?_) (fun h23 => absurd h23 (by decide))
          refine G_iload (i := 4) (n := 3) (len := 2) (Or.inr ⟨rfl, d_Mo_sign_122⟩) rfl (G_pc (pc' := 124) rfl ?_)
          refine G_bipush (n := 61) d_Mo_sign_124 (by decide) (G_pc (pc' := 126) rfl ?_)
          refine G_icmp_ne (tgt := 145) d_Mo_sign_126 (by decide) (fun h24 => ?_) (fun h24 => G_pc (pc' := 129) rfl ?_)
          · skip
            refine G_iload (i := 3) (n := 4) (len := 1) (Or.inl ⟨3, rfl, rfl, d_Mo_sign_145⟩) rfl (G_pc (pc' := 146) rfl ?_)
            refine G_bipush (n := 60) d_Mo_sign_146 (by decide) (G_pc (pc' := 148) rfl ?_)
            refine G_icmp_ne (tgt := 156) d_Mo_sign_148 (by decide) (fun h25 => ?_) (fun h25 => G_pc (pc' := 151) rfl ?_)
            · skip
              refine G_bipush (n := 39) d_Mo_sign_156 (by decide) (G_pc (pc' := 158) rfl ?_)
              refine G_istore (i := 7) (len := 2) (ls' := [(7, vi 39), (6, vi 2), (5, vi (txM M e (k + 2))), (4, vi (txM M e (k + 1))), (3, vi (txM M e k)), (0, vr 55), (1, vi e), (2, vi k)]) (Or.inr ⟨rfl, d_Mo_sign_158⟩) (by decide) rfl (G_pc (pc' := 160) rfl ?_)
              refine G_goto (tgt := 433) d_Mo_sign_160 (by decide) ?_
              refine G_ls (ls' := [(7, vi 39), (6, vi 2), (5, vi (txM M e (k + 2))), (4, vi (txM M e (k + 1))), (3, vi (txM M e k)), (0, vr 55), (1, vi e), (2, vi k)]) (by intro z hz; simp at hz ⊢; omega) ?_
              exact tail _ _ (by unfold sgT sgN; grind) (by unfold sgN; grind) (by omega)
            · skip
              refine G_bipush (n := 38) d_Mo_sign_151 (by decide) (G_pc (pc' := 153) rfl ?_)
              refine G_goto (tgt := 158) d_Mo_sign_153 (by decide) ?_
              refine G_istore (i := 7) (len := 2) (ls' := [(7, vi 38), (6, vi 2), (5, vi (txM M e (k + 2))), (4, vi (txM M e (k + 1))), (3, vi (txM M e k)), (0, vr 55), (1, vi e), (2, vi k)]) (Or.inr ⟨rfl, d_Mo_sign_158⟩) (by decide) rfl (G_pc (pc' := 160) rfl ?_)
              refine G_goto (tgt := 433) d_Mo_sign_160 (by decide) ?_
              refine G_ls (ls' := [(7, vi 38), (6, vi 2), (5, vi (txM M e (k + 2))), (4, vi (txM M e (k + 1))), (3, vi (txM M e k)), (0, vr 55), (1, vi e), (2, vi k)]) (by intro z hz; simp at hz ⊢; omega) ?_
              exact tail _ _ (by unfold sgT sgN; grind) (by unfold sgN; grind) (by omega)
          · skip
            refine G_iload (i := 3) (n := 4) (len := 1) (Or.inl ⟨3, rfl, rfl, d_Mo_sign_129⟩) rfl (G_pc (pc' := 130) rfl ?_)
            refine G_bipush (n := 60) d_Mo_sign_130 (by decide) (G_pc (pc' := 132) rfl ?_)
            refine G_icmp_ne (tgt := 140) d_Mo_sign_132 (by decide) (fun h26 => ?_) (fun h26 => G_pc (pc' := 135) rfl ?_)
            · skip
              refine G_bipush (n := 37) d_Mo_sign_140 (by decide) (G_pc (pc' := 142) rfl ?_)
              refine G_goto (tgt := 158) d_Mo_sign_142 (by decide) ?_
              refine G_istore (i := 7) (len := 2) (ls' := [(7, vi 37), (6, vi 2), (5, vi (txM M e (k + 2))), (4, vi (txM M e (k + 1))), (3, vi (txM M e k)), (0, vr 55), (1, vi e), (2, vi k)]) (Or.inr ⟨rfl, d_Mo_sign_158⟩) (by decide) rfl (G_pc (pc' := 160) rfl ?_)
              refine G_goto (tgt := 433) d_Mo_sign_160 (by decide) ?_
              refine G_ls (ls' := [(7, vi 37), (6, vi 2), (5, vi (txM M e (k + 2))), (4, vi (txM M e (k + 1))), (3, vi (txM M e k)), (0, vr 55), (1, vi e), (2, vi k)]) (by intro z hz; simp at hz ⊢; omega) ?_
              exact tail _ _ (by unfold sgT sgN; grind) (by unfold sgN; grind) (by omega)
            · skip
              refine G_bipush (n := 35) d_Mo_sign_135 (by decide) (G_pc (pc' := 137) rfl ?_)
              refine G_goto (tgt := 158) d_Mo_sign_137 (by decide) ?_
              refine G_istore (i := 7) (len := 2) (ls' := [(7, vi 35), (6, vi 2), (5, vi (txM M e (k + 2))), (4, vi (txM M e (k + 1))), (3, vi (txM M e k)), (0, vr 55), (1, vi e), (2, vi k)]) (Or.inr ⟨rfl, d_Mo_sign_158⟩) (by decide) rfl (G_pc (pc' := 160) rfl ?_)
              refine G_goto (tgt := 433) d_Mo_sign_160 (by decide) ?_
              refine G_ls (ls' := [(7, vi 35), (6, vi 2), (5, vi (txM M e (k + 2))), (4, vi (txM M e (k + 1))), (3, vi (txM M e k)), (0, vr 55), (1, vi e), (2, vi k)]) (by intro z hz; simp at hz ⊢; omega) ?_
              exact tail _ _ (by unfold sgT sgN; grind) (by unfold sgN; grind) (by omega)
    · skip
      refine G_iload (i := 4) (n := 3) (len := 2) (Or.inr ⟨rfl, d_Mo_sign_51⟩) rfl (G_pc (pc' := 53) rfl ?_)
      refine G_bipush (n := 62) d_Mo_sign_53 (by decide) (G_pc (pc' := 55) rfl ?_)
      refine G_icmp_ne (tgt := 69) d_Mo_sign_55 (by decide) (fun h27 => ?_) (fun h27 => G_pc (pc' := 58) rfl ?_)
      · skip
        refine G_iload (i := 4) (n := 3) (len := 2) (Or.inr ⟨rfl, d_Mo_sign_69⟩) rfl (G_pc (pc' := 71) rfl ?_)
        refine G_iload (i := 3) (n := 4) (len := 1) (Or.inl ⟨3, rfl, rfl, d_Mo_sign_71⟩) rfl (G_pc (pc' := 72) rfl ?_)
        refine G_icmp_eq (tgt := 82) d_Mo_sign_72 (by decide) (fun h28 => ?_) (fun h28 => G_pc (pc' := 75) rfl ?_)
        · skip
          refine G_iconst (n := 2) d_Mo_sign_82 (by decide) (G_pc (pc' := 83) rfl ?_)
          refine G_goto (tgt := 87) d_Mo_sign_83 (by decide) ?_
          refine G_istore (i := 6) (len := 2) (ls' := [(6, vi 2), (7, vi 0), (5, vi (txM M e (k + 2))), (4, vi (txM M e (k + 1))), (3, vi (txM M e k)), (0, vr 55), (1, vi e), (2, vi k)]) (Or.inr ⟨rfl, d_Mo_sign_87⟩) (by decide) rfl (G_pc (pc' := 89) rfl ?_)
          refine G_iload (i := 6) (n := 0) (len := 2) (Or.inr ⟨rfl, d_Mo_sign_89⟩) rfl (G_pc (pc' := 91) rfl ?_)
          refine G_iconst (n := 3) d_Mo_sign_91 (by decide) (G_pc (pc' := 92) rfl ?_)
          refine G_icmp_ne (tgt := 100) d_Mo_sign_92 (by decide) (fun h29 => ?_) (fun h29 => absurd h29 (by decide))
          refine G_iload (i := 6) (n := 0) (len := 2) (Or.inr ⟨rfl, d_Mo_sign_100⟩) rfl (G_pc (pc' := 102) rfl ?_)
          refine G_iconst (n := 1) d_Mo_sign_102 (by decide) (G_pc (pc' := 103) rfl ?_)
          refine G_icmp_ne (tgt := 122) d_Mo_sign_103 (by decide) (fun h30 => ?_) (fun h30 => absurd h30 (by decide))
          refine G_iload (i := 4) (n := 3) (len := 2) (Or.inr ⟨rfl, d_Mo_sign_122⟩) rfl (G_pc (pc' := 124) rfl ?_)
          refine G_bipush (n := 61) d_Mo_sign_124 (by decide) (G_pc (pc' := 126) rfl ?_)
          refine G_icmp_ne (tgt := 145) d_Mo_sign_126 (by decide) (fun h31 => ?_) (fun h31 => G_pc (pc' := 129) rfl ?_)
          · skip
            refine G_iload (i := 3) (n := 4) (len := 1) (Or.inl ⟨3, rfl, rfl, d_Mo_sign_145⟩) rfl (G_pc (pc' := 146) rfl ?_)
            refine G_bipush (n := 60) d_Mo_sign_146 (by decide) (G_pc (pc' := 148) rfl ?_)
            refine G_icmp_ne (tgt := 156) d_Mo_sign_148 (by decide) (fun h32 => ?_) (fun h32 => G_pc (pc' := 151) rfl ?_)
            · skip
              refine G_bipush (n := 39) d_Mo_sign_156 (by decide) (G_pc (pc' := 158) rfl ?_)
              refine G_istore (i := 7) (len := 2) (ls' := [(7, vi 39), (6, vi 2), (5, vi (txM M e (k + 2))), (4, vi (txM M e (k + 1))), (3, vi (txM M e k)), (0, vr 55), (1, vi e), (2, vi k)]) (Or.inr ⟨rfl, d_Mo_sign_158⟩) (by decide) rfl (G_pc (pc' := 160) rfl ?_)
              refine G_goto (tgt := 433) d_Mo_sign_160 (by decide) ?_
              refine G_ls (ls' := [(7, vi 39), (6, vi 2), (5, vi (txM M e (k + 2))), (4, vi (txM M e (k + 1))), (3, vi (txM M e k)), (0, vr 55), (1, vi e), (2, vi k)]) (by intro z hz; simp at hz ⊢; omega) ?_
              exact tail _ _ (by unfold sgT sgN; grind) (by unfold sgN; grind) (by omega)
            · skip
              refine G_bipush (n := 38) d_Mo_sign_151 (by decide) (G_pc (pc' := 153) rfl ?_)
              refine G_goto (tgt := 158) d_Mo_sign_153 (by decide) ?_
              refine G_istore (i := 7) (len := 2) (ls' := [(7, vi 38), (6, vi 2), (5, vi (txM M e (k + 2))), (4, vi (txM M e (k + 1))), (3, vi (txM M e k)), (0, vr 55), (1, vi e), (2, vi k)]) (Or.inr ⟨rfl, d_Mo_sign_158⟩) (by decide) rfl (G_pc (pc' := 160) rfl ?_)
              refine G_goto (tgt := 433) d_Mo_sign_160 (by decide) ?_
              refine G_ls (ls' := [(7, vi 38), (6, vi 2), (5, vi (txM M e (k + 2))), (4, vi (txM M e (k + 1))), (3, vi (txM M e k)), (0, vr 55), (1, vi e), (2, vi k)]) (by intro z hz; simp at hz ⊢; omega) ?_
              exact tail _ _ (by unfold sgT sgN; grind) (by unfold sgN; grind) (by omega)
          · skip
            refine G_iload (i := 3) (n := 4) (len := 1) (Or.inl ⟨3, rfl, rfl, d_Mo_sign_129⟩) rfl (G_pc (pc' := 130) rfl ?_)
            refine G_bipush (n := 60) d_Mo_sign_130 (by decide) (G_pc (pc' := 132) rfl ?_)
            refine G_icmp_ne (tgt := 140) d_Mo_sign_132 (by decide) (fun h33 => ?_) (fun h33 => G_pc (pc' := 135) rfl ?_)
            · skip
              refine G_bipush (n := 37) d_Mo_sign_140 (by decide) (G_pc (pc' := 142) rfl ?_)
              refine G_goto (tgt := 158) d_Mo_sign_142 (by decide) ?_
              refine G_istore (i := 7) (len := 2) (ls' := [(7, vi 37), (6, vi 2), (5, vi (txM M e (k + 2))), (4, vi (txM M e (k + 1))), (3, vi (txM M e k)), (0, vr 55), (1, vi e), (2, vi k)]) (Or.inr ⟨rfl, d_Mo_sign_158⟩) (by decide) rfl (G_pc (pc' := 160) rfl ?_)
              refine G_goto (tgt := 433) d_Mo_sign_160 (by decide) ?_
              refine G_ls (ls' := [(7, vi 37), (6, vi 2), (5, vi (txM M e (k + 2))), (4, vi (txM M e (k + 1))), (3, vi (txM M e k)), (0, vr 55), (1, vi e), (2, vi k)]) (by intro z hz; simp at hz ⊢; omega) ?_
              exact tail _ _ (by unfold sgT sgN; grind) (by unfold sgN; grind) (by omega)
            · skip
              refine G_bipush (n := 35) d_Mo_sign_135 (by decide) (G_pc (pc' := 137) rfl ?_)
              refine G_goto (tgt := 158) d_Mo_sign_137 (by decide) ?_
              refine G_istore (i := 7) (len := 2) (ls' := [(7, vi 35), (6, vi 2), (5, vi (txM M e (k + 2))), (4, vi (txM M e (k + 1))), (3, vi (txM M e k)), (0, vr 55), (1, vi e), (2, vi k)]) (Or.inr ⟨rfl, d_Mo_sign_158⟩) (by decide) rfl (G_pc (pc' := 160) rfl ?_)
              refine G_goto (tgt := 433) d_Mo_sign_160 (by decide) ?_
              refine G_ls (ls' := [(7, vi 35), (6, vi 2), (5, vi (txM M e (k + 2))), (4, vi (txM M e (k + 1))), (3, vi (txM M e k)), (0, vr 55), (1, vi e), (2, vi k)]) (by intro z hz; simp at hz ⊢; omega) ?_
              exact tail _ _ (by unfold sgT sgN; grind) (by unfold sgN; grind) (by omega)
        · skip
          refine G_iload (i := 4) (n := 3) (len := 2) (Or.inr ⟨rfl, d_Mo_sign_75⟩) rfl (G_pc (pc' := 77) rfl ?_)
          refine G_bipush (n := 61) d_Mo_sign_77 (by decide) (G_pc (pc' := 79) rfl ?_)
          refine G_icmp_ne (tgt := 86) d_Mo_sign_79 (by decide) (fun h34 => ?_) (fun h34 => G_pc (pc' := 82) rfl ?_)
          · skip
            refine G_iconst (n := 1) d_Mo_sign_86 (by decide) (G_pc (pc' := 87) rfl ?_)
            refine G_istore (i := 6) (len := 2) (ls' := [(6, vi 1), (7, vi 0), (5, vi (txM M e (k + 2))), (4, vi (txM M e (k + 1))), (3, vi (txM M e k)), (0, vr 55), (1, vi e), (2, vi k)]) (Or.inr ⟨rfl, d_Mo_sign_87⟩) (by decide) rfl (G_pc (pc' := 89) rfl ?_)
            refine G_iload (i := 6) (n := 0) (len := 2) (Or.inr ⟨rfl, d_Mo_sign_89⟩) rfl (G_pc (pc' := 91) rfl ?_)
            refine G_iconst (n := 3) d_Mo_sign_91 (by decide) (G_pc (pc' := 92) rfl ?_)
            refine G_icmp_ne (tgt := 100) d_Mo_sign_92 (by decide) (fun h35 => ?_) (fun h35 => absurd h35 (by decide))
            refine G_iload (i := 6) (n := 0) (len := 2) (Or.inr ⟨rfl, d_Mo_sign_100⟩) rfl (G_pc (pc' := 102) rfl ?_)
            refine G_iconst (n := 1) d_Mo_sign_102 (by decide) (G_pc (pc' := 103) rfl ?_)
            refine G_icmp_ne (tgt := 122) d_Mo_sign_103 (by decide) (fun h36 => absurd h36 (by decide)) (fun h36 => G_pc (pc' := 106) rfl ?_)
            refine G_iload (i := 3) (n := 4) (len := 1) (Or.inl ⟨3, rfl, rfl, d_Mo_sign_106⟩) rfl (G_pc (pc' := 107) rfl ?_)
            refine G_bipush (n := 60) d_Mo_sign_107 (by decide) (G_pc (pc' := 109) rfl ?_)
            refine G_icmp_ne (tgt := 117) d_Mo_sign_109 (by decide) (fun h37 => ?_) (fun h37 => G_pc (pc' := 112) rfl ?_)
            · skip
              refine G_bipush (n := 36) d_Mo_sign_117 (by decide) (G_pc (pc' := 119) rfl ?_)
              refine G_goto (tgt := 158) d_Mo_sign_119 (by decide) ?_
              refine G_istore (i := 7) (len := 2) (ls' := [(7, vi 36), (6, vi 1), (5, vi (txM M e (k + 2))), (4, vi (txM M e (k + 1))), (3, vi (txM M e k)), (0, vr 55), (1, vi e), (2, vi k)]) (Or.inr ⟨rfl, d_Mo_sign_158⟩) (by decide) rfl (G_pc (pc' := 160) rfl ?_)
              refine G_goto (tgt := 433) d_Mo_sign_160 (by decide) ?_
              refine G_ls (ls' := [(7, vi 36), (6, vi 1), (5, vi (txM M e (k + 2))), (4, vi (txM M e (k + 1))), (3, vi (txM M e k)), (0, vr 55), (1, vi e), (2, vi k)]) (by intro z hz; simp at hz ⊢; omega) ?_
              exact tail _ _ (by unfold sgT sgN; grind) (by unfold sgN; grind) (by omega)
            · skip
              refine G_bipush (n := 34) d_Mo_sign_112 (by decide) (G_pc (pc' := 114) rfl ?_)
              refine G_goto (tgt := 158) d_Mo_sign_114 (by decide) ?_
              refine G_istore (i := 7) (len := 2) (ls' := [(7, vi 34), (6, vi 1), (5, vi (txM M e (k + 2))), (4, vi (txM M e (k + 1))), (3, vi (txM M e k)), (0, vr 55), (1, vi e), (2, vi k)]) (Or.inr ⟨rfl, d_Mo_sign_158⟩) (by decide) rfl (G_pc (pc' := 160) rfl ?_)
              refine G_goto (tgt := 433) d_Mo_sign_160 (by decide) ?_
              refine G_ls (ls' := [(7, vi 34), (6, vi 1), (5, vi (txM M e (k + 2))), (4, vi (txM M e (k + 1))), (3, vi (txM M e k)), (0, vr 55), (1, vi e), (2, vi k)]) (by intro z hz; simp at hz ⊢; omega) ?_
              exact tail _ _ (by unfold sgT sgN; grind) (by unfold sgN; grind) (by omega)
          · skip
            refine G_iconst (n := 2) d_Mo_sign_82 (by decide) (G_pc (pc' := 83) rfl ?_)
            refine G_goto (tgt := 87) d_Mo_sign_83 (by decide) ?_
            refine G_istore (i := 6) (len := 2) (ls' := [(6, vi 2), (7, vi 0), (5, vi (txM M e (k + 2))), (4, vi (txM M e (k + 1))), (3, vi (txM M e k)), (0, vr 55), (1, vi e), (2, vi k)]) (Or.inr ⟨rfl, d_Mo_sign_87⟩) (by decide) rfl (G_pc (pc' := 89) rfl ?_)
            refine G_iload (i := 6) (n := 0) (len := 2) (Or.inr ⟨rfl, d_Mo_sign_89⟩) rfl (G_pc (pc' := 91) rfl ?_)
            refine G_iconst (n := 3) d_Mo_sign_91 (by decide) (G_pc (pc' := 92) rfl ?_)
            refine G_icmp_ne (tgt := 100) d_Mo_sign_92 (by decide) (fun h38 => ?_) (fun h38 => absurd h38 (by decide))
            refine G_iload (i := 6) (n := 0) (len := 2) (Or.inr ⟨rfl, d_Mo_sign_100⟩) rfl (G_pc (pc' := 102) rfl ?_)
            refine G_iconst (n := 1) d_Mo_sign_102 (by decide) (G_pc (pc' := 103) rfl ?_)
            refine G_icmp_ne (tgt := 122) d_Mo_sign_103 (by decide) (fun h39 => ?_) (fun h39 => absurd h39 (by decide))
            refine G_iload (i := 4) (n := 3) (len := 2) (Or.inr ⟨rfl, d_Mo_sign_122⟩) rfl (G_pc (pc' := 124) rfl ?_)
            refine G_bipush (n := 61) d_Mo_sign_124 (by decide) (G_pc (pc' := 126) rfl ?_)
            refine G_icmp_ne (tgt := 145) d_Mo_sign_126 (by decide) (fun h40 => ?_) (fun h40 => G_pc (pc' := 129) rfl ?_)
            · skip
              refine G_iload (i := 3) (n := 4) (len := 1) (Or.inl ⟨3, rfl, rfl, d_Mo_sign_145⟩) rfl (G_pc (pc' := 146) rfl ?_)
              refine G_bipush (n := 60) d_Mo_sign_146 (by decide) (G_pc (pc' := 148) rfl ?_)
              refine G_icmp_ne (tgt := 156) d_Mo_sign_148 (by decide) (fun h41 => ?_) (fun h41 => G_pc (pc' := 151) rfl ?_)
              · skip
                refine G_bipush (n := 39) d_Mo_sign_156 (by decide) (G_pc (pc' := 158) rfl ?_)
                refine G_istore (i := 7) (len := 2) (ls' := [(7, vi 39), (6, vi 2), (5, vi (txM M e (k + 2))), (4, vi (txM M e (k + 1))), (3, vi (txM M e k)), (0, vr 55), (1, vi e), (2, vi k)]) (Or.inr ⟨rfl, d_Mo_sign_158⟩) (by decide) rfl (G_pc (pc' := 160) rfl ?_)
                refine G_goto (tgt := 433) d_Mo_sign_160 (by decide) ?_
                refine G_ls (ls' := [(7, vi 39), (6, vi 2), (5, vi (txM M e (k + 2))), (4, vi (txM M e (k + 1))), (3, vi (txM M e k)), (0, vr 55), (1, vi e), (2, vi k)]) (by intro z hz; simp at hz ⊢; omega) ?_
                exact tail _ _ (by unfold sgT sgN; grind) (by unfold sgN; grind) (by omega)
              · skip
                refine G_bipush (n := 38) d_Mo_sign_151 (by decide) (G_pc (pc' := 153) rfl ?_)
                refine G_goto (tgt := 158) d_Mo_sign_153 (by decide) ?_
                refine G_istore (i := 7) (len := 2) (ls' := [(7, vi 38), (6, vi 2), (5, vi (txM M e (k + 2))), (4, vi (txM M e (k + 1))), (3, vi (txM M e k)), (0, vr 55), (1, vi e), (2, vi k)]) (Or.inr ⟨rfl, d_Mo_sign_158⟩) (by decide) rfl (G_pc (pc' := 160) rfl ?_)
                refine G_goto (tgt := 433) d_Mo_sign_160 (by decide) ?_
                refine G_ls (ls' := [(7, vi 38), (6, vi 2), (5, vi (txM M e (k + 2))), (4, vi (txM M e (k + 1))), (3, vi (txM M e k)), (0, vr 55), (1, vi e), (2, vi k)]) (by intro z hz; simp at hz ⊢; omega) ?_
                exact tail _ _ (by unfold sgT sgN; grind) (by unfold sgN; grind) (by omega)
            · skip
              refine G_iload (i := 3) (n := 4) (len := 1) (Or.inl ⟨3, rfl, rfl, d_Mo_sign_129⟩) rfl (G_pc (pc' := 130) rfl ?_)
              refine G_bipush (n := 60) d_Mo_sign_130 (by decide) (G_pc (pc' := 132) rfl ?_)
              refine G_icmp_ne (tgt := 140) d_Mo_sign_132 (by decide) (fun h42 => ?_) (fun h42 => G_pc (pc' := 135) rfl ?_)
              · skip
                refine G_bipush (n := 37) d_Mo_sign_140 (by decide) (G_pc (pc' := 142) rfl ?_)
                refine G_goto (tgt := 158) d_Mo_sign_142 (by decide) ?_
                refine G_istore (i := 7) (len := 2) (ls' := [(7, vi 37), (6, vi 2), (5, vi (txM M e (k + 2))), (4, vi (txM M e (k + 1))), (3, vi (txM M e k)), (0, vr 55), (1, vi e), (2, vi k)]) (Or.inr ⟨rfl, d_Mo_sign_158⟩) (by decide) rfl (G_pc (pc' := 160) rfl ?_)
                refine G_goto (tgt := 433) d_Mo_sign_160 (by decide) ?_
                refine G_ls (ls' := [(7, vi 37), (6, vi 2), (5, vi (txM M e (k + 2))), (4, vi (txM M e (k + 1))), (3, vi (txM M e k)), (0, vr 55), (1, vi e), (2, vi k)]) (by intro z hz; simp at hz ⊢; omega) ?_
                exact tail _ _ (by unfold sgT sgN; grind) (by unfold sgN; grind) (by omega)
              · skip
                refine G_bipush (n := 35) d_Mo_sign_135 (by decide) (G_pc (pc' := 137) rfl ?_)
                refine G_goto (tgt := 158) d_Mo_sign_137 (by decide) ?_
                refine G_istore (i := 7) (len := 2) (ls' := [(7, vi 35), (6, vi 2), (5, vi (txM M e (k + 2))), (4, vi (txM M e (k + 1))), (3, vi (txM M e k)), (0, vr 55), (1, vi e), (2, vi k)]) (Or.inr ⟨rfl, d_Mo_sign_158⟩) (by decide) rfl (G_pc (pc' := 160) rfl ?_)
                refine G_goto (tgt := 433) d_Mo_sign_160 (by decide) ?_
                refine G_ls (ls' := [(7, vi 35), (6, vi 2), (5, vi (txM M e (k + 2))), (4, vi (txM M e (k + 1))), (3, vi (txM M e k)), (0, vr 55), (1, vi e), (2, vi k)]) (by intro z hz; simp at hz ⊢; omega) ?_
                exact tail _ _ (by unfold sgT sgN; grind) (by unfold sgN; grind) (by omega)
      · skip
        refine G_iload (i := 5) (n := 2) (len := 2) (Or.inr ⟨rfl, d_Mo_sign_58⟩) rfl (G_pc (pc' := 60) rfl ?_)
        refine G_bipush (n := 62) d_Mo_sign_60 (by decide) (G_pc (pc' := 62) rfl ?_)
        refine G_icmp_ne (tgt := 69) d_Mo_sign_62 (by decide) (fun h43 => ?_) (fun h43 => G_pc (pc' := 65) rfl ?_)
        · skip
          refine G_iload (i := 4) (n := 3) (len := 2) (Or.inr ⟨rfl, d_Mo_sign_69⟩) rfl (G_pc (pc' := 71) rfl ?_)
          refine G_iload (i := 3) (n := 4) (len := 1) (Or.inl ⟨3, rfl, rfl, d_Mo_sign_71⟩) rfl (G_pc (pc' := 72) rfl ?_)
          refine G_icmp_eq (tgt := 82) d_Mo_sign_72 (by decide) (fun h44 => ?_) (fun h44 => G_pc (pc' := 75) rfl ?_)
          · skip
            refine G_iconst (n := 2) d_Mo_sign_82 (by decide) (G_pc (pc' := 83) rfl ?_)
            refine G_goto (tgt := 87) d_Mo_sign_83 (by decide) ?_
            refine G_istore (i := 6) (len := 2) (ls' := [(6, vi 2), (7, vi 0), (5, vi (txM M e (k + 2))), (4, vi (txM M e (k + 1))), (3, vi (txM M e k)), (0, vr 55), (1, vi e), (2, vi k)]) (Or.inr ⟨rfl, d_Mo_sign_87⟩) (by decide) rfl (G_pc (pc' := 89) rfl ?_)
            refine G_iload (i := 6) (n := 0) (len := 2) (Or.inr ⟨rfl, d_Mo_sign_89⟩) rfl (G_pc (pc' := 91) rfl ?_)
            refine G_iconst (n := 3) d_Mo_sign_91 (by decide) (G_pc (pc' := 92) rfl ?_)
            refine G_icmp_ne (tgt := 100) d_Mo_sign_92 (by decide) (fun h45 => ?_) (fun h45 => absurd h45 (by decide))
            refine G_iload (i := 6) (n := 0) (len := 2) (Or.inr ⟨rfl, d_Mo_sign_100⟩) rfl (G_pc (pc' := 102) rfl ?_)
            refine G_iconst (n := 1) d_Mo_sign_102 (by decide) (G_pc (pc' := 103) rfl ?_)
            refine G_icmp_ne (tgt := 122) d_Mo_sign_103 (by decide) (fun h46 => ?_) (fun h46 => absurd h46 (by decide))
            refine G_iload (i := 4) (n := 3) (len := 2) (Or.inr ⟨rfl, d_Mo_sign_122⟩) rfl (G_pc (pc' := 124) rfl ?_)
            refine G_bipush (n := 61) d_Mo_sign_124 (by decide) (G_pc (pc' := 126) rfl ?_)
            refine G_icmp_ne (tgt := 145) d_Mo_sign_126 (by decide) (fun h47 => ?_) (fun h47 => G_pc (pc' := 129) rfl ?_)
            · skip
              refine G_iload (i := 3) (n := 4) (len := 1) (Or.inl ⟨3, rfl, rfl, d_Mo_sign_145⟩) rfl (G_pc (pc' := 146) rfl ?_)
              refine G_bipush (n := 60) d_Mo_sign_146 (by decide) (G_pc (pc' := 148) rfl ?_)
              refine G_icmp_ne (tgt := 156) d_Mo_sign_148 (by decide) (fun h48 => ?_) (fun h48 => G_pc (pc' := 151) rfl ?_)
              · skip
                refine G_bipush (n := 39) d_Mo_sign_156 (by decide) (G_pc (pc' := 158) rfl ?_)
                refine G_istore (i := 7) (len := 2) (ls' := [(7, vi 39), (6, vi 2), (5, vi (txM M e (k + 2))), (4, vi (txM M e (k + 1))), (3, vi (txM M e k)), (0, vr 55), (1, vi e), (2, vi k)]) (Or.inr ⟨rfl, d_Mo_sign_158⟩) (by decide) rfl (G_pc (pc' := 160) rfl ?_)
                refine G_goto (tgt := 433) d_Mo_sign_160 (by decide) ?_
                refine G_ls (ls' := [(7, vi 39), (6, vi 2), (5, vi (txM M e (k + 2))), (4, vi (txM M e (k + 1))), (3, vi (txM M e k)), (0, vr 55), (1, vi e), (2, vi k)]) (by intro z hz; simp at hz ⊢; omega) ?_
                exact tail _ _ (by unfold sgT sgN; grind) (by unfold sgN; grind) (by omega)
              · skip
                refine G_bipush (n := 38) d_Mo_sign_151 (by decide) (G_pc (pc' := 153) rfl ?_)
                refine G_goto (tgt := 158) d_Mo_sign_153 (by decide) ?_
                refine G_istore (i := 7) (len := 2) (ls' := [(7, vi 38), (6, vi 2), (5, vi (txM M e (k + 2))), (4, vi (txM M e (k + 1))), (3, vi (txM M e k)), (0, vr 55), (1, vi e), (2, vi k)]) (Or.inr ⟨rfl, d_Mo_sign_158⟩) (by decide) rfl (G_pc (pc' := 160) rfl ?_)
                refine G_goto (tgt := 433) d_Mo_sign_160 (by decide) ?_
                refine G_ls (ls' := [(7, vi 38), (6, vi 2), (5, vi (txM M e (k + 2))), (4, vi (txM M e (k + 1))), (3, vi (txM M e k)), (0, vr 55), (1, vi e), (2, vi k)]) (by intro z hz; simp at hz ⊢; omega) ?_
                exact tail _ _ (by unfold sgT sgN; grind) (by unfold sgN; grind) (by omega)
            · skip
              refine G_iload (i := 3) (n := 4) (len := 1) (Or.inl ⟨3, rfl, rfl, d_Mo_sign_129⟩) rfl (G_pc (pc' := 130) rfl ?_)
              refine G_bipush (n := 60) d_Mo_sign_130 (by decide) (G_pc (pc' := 132) rfl ?_)
              refine G_icmp_ne (tgt := 140) d_Mo_sign_132 (by decide) (fun h49 => ?_) (fun h49 => G_pc (pc' := 135) rfl ?_)
              · skip
                refine G_bipush (n := 37) d_Mo_sign_140 (by decide) (G_pc (pc' := 142) rfl ?_)
                refine G_goto (tgt := 158) d_Mo_sign_142 (by decide) ?_
                refine G_istore (i := 7) (len := 2) (ls' := [(7, vi 37), (6, vi 2), (5, vi (txM M e (k + 2))), (4, vi (txM M e (k + 1))), (3, vi (txM M e k)), (0, vr 55), (1, vi e), (2, vi k)]) (Or.inr ⟨rfl, d_Mo_sign_158⟩) (by decide) rfl (G_pc (pc' := 160) rfl ?_)
                refine G_goto (tgt := 433) d_Mo_sign_160 (by decide) ?_
                refine G_ls (ls' := [(7, vi 37), (6, vi 2), (5, vi (txM M e (k + 2))), (4, vi (txM M e (k + 1))), (3, vi (txM M e k)), (0, vr 55), (1, vi e), (2, vi k)]) (by intro z hz; simp at hz ⊢; omega) ?_
                exact tail _ _ (by unfold sgT sgN; grind) (by unfold sgN; grind) (by omega)
              · skip
                refine G_bipush (n := 35) d_Mo_sign_135 (by decide) (G_pc (pc' := 137) rfl ?_)
                refine G_goto (tgt := 158) d_Mo_sign_137 (by decide) ?_
                refine G_istore (i := 7) (len := 2) (ls' := [(7, vi 35), (6, vi 2), (5, vi (txM M e (k + 2))), (4, vi (txM M e (k + 1))), (3, vi (txM M e k)), (0, vr 55), (1, vi e), (2, vi k)]) (Or.inr ⟨rfl, d_Mo_sign_158⟩) (by decide) rfl (G_pc (pc' := 160) rfl ?_)
                refine G_goto (tgt := 433) d_Mo_sign_160 (by decide) ?_
                refine G_ls (ls' := [(7, vi 35), (6, vi 2), (5, vi (txM M e (k + 2))), (4, vi (txM M e (k + 1))), (3, vi (txM M e k)), (0, vr 55), (1, vi e), (2, vi k)]) (by intro z hz; simp at hz ⊢; omega) ?_
                exact tail _ _ (by unfold sgT sgN; grind) (by unfold sgN; grind) (by omega)
          · skip
            refine G_iload (i := 4) (n := 3) (len := 2) (Or.inr ⟨rfl, d_Mo_sign_75⟩) rfl (G_pc (pc' := 77) rfl ?_)
            refine G_bipush (n := 61) d_Mo_sign_77 (by decide) (G_pc (pc' := 79) rfl ?_)
            refine G_icmp_ne (tgt := 86) d_Mo_sign_79 (by decide) (fun h50 => ?_) (fun h50 => G_pc (pc' := 82) rfl ?_)
            · skip
              refine G_iconst (n := 1) d_Mo_sign_86 (by decide) (G_pc (pc' := 87) rfl ?_)
              refine G_istore (i := 6) (len := 2) (ls' := [(6, vi 1), (7, vi 0), (5, vi (txM M e (k + 2))), (4, vi (txM M e (k + 1))), (3, vi (txM M e k)), (0, vr 55), (1, vi e), (2, vi k)]) (Or.inr ⟨rfl, d_Mo_sign_87⟩) (by decide) rfl (G_pc (pc' := 89) rfl ?_)
              refine G_iload (i := 6) (n := 0) (len := 2) (Or.inr ⟨rfl, d_Mo_sign_89⟩) rfl (G_pc (pc' := 91) rfl ?_)
              refine G_iconst (n := 3) d_Mo_sign_91 (by decide) (G_pc (pc' := 92) rfl ?_)
              refine G_icmp_ne (tgt := 100) d_Mo_sign_92 (by decide) (fun h51 => ?_) (fun h51 => absurd h51 (by decide))
              refine G_iload (i := 6) (n := 0) (len := 2) (Or.inr ⟨rfl, d_Mo_sign_100⟩) rfl (G_pc (pc' := 102) rfl ?_)
              refine G_iconst (n := 1) d_Mo_sign_102 (by decide) (G_pc (pc' := 103) rfl ?_)
              refine G_icmp_ne (tgt := 122) d_Mo_sign_103 (by decide) (fun h52 => absurd h52 (by decide)) (fun h52 => G_pc (pc' := 106) rfl ?_)
              refine G_iload (i := 3) (n := 4) (len := 1) (Or.inl ⟨3, rfl, rfl, d_Mo_sign_106⟩) rfl (G_pc (pc' := 107) rfl ?_)
              refine G_bipush (n := 60) d_Mo_sign_107 (by decide) (G_pc (pc' := 109) rfl ?_)
              refine G_icmp_ne (tgt := 117) d_Mo_sign_109 (by decide) (fun h53 => ?_) (fun h53 => G_pc (pc' := 112) rfl ?_)
              · skip
                refine G_bipush (n := 36) d_Mo_sign_117 (by decide) (G_pc (pc' := 119) rfl ?_)
                refine G_goto (tgt := 158) d_Mo_sign_119 (by decide) ?_
                refine G_istore (i := 7) (len := 2) (ls' := [(7, vi 36), (6, vi 1), (5, vi (txM M e (k + 2))), (4, vi (txM M e (k + 1))), (3, vi (txM M e k)), (0, vr 55), (1, vi e), (2, vi k)]) (Or.inr ⟨rfl, d_Mo_sign_158⟩) (by decide) rfl (G_pc (pc' := 160) rfl ?_)
                refine G_goto (tgt := 433) d_Mo_sign_160 (by decide) ?_
                refine G_ls (ls' := [(7, vi 36), (6, vi 1), (5, vi (txM M e (k + 2))), (4, vi (txM M e (k + 1))), (3, vi (txM M e k)), (0, vr 55), (1, vi e), (2, vi k)]) (by intro z hz; simp at hz ⊢; omega) ?_
                exact tail _ _ (by unfold sgT sgN; grind) (by unfold sgN; grind) (by omega)
              · skip
                refine G_bipush (n := 34) d_Mo_sign_112 (by decide) (G_pc (pc' := 114) rfl ?_)
                refine G_goto (tgt := 158) d_Mo_sign_114 (by decide) ?_
                refine G_istore (i := 7) (len := 2) (ls' := [(7, vi 34), (6, vi 1), (5, vi (txM M e (k + 2))), (4, vi (txM M e (k + 1))), (3, vi (txM M e k)), (0, vr 55), (1, vi e), (2, vi k)]) (Or.inr ⟨rfl, d_Mo_sign_158⟩) (by decide) rfl (G_pc (pc' := 160) rfl ?_)
                refine G_goto (tgt := 433) d_Mo_sign_160 (by decide) ?_
                refine G_ls (ls' := [(7, vi 34), (6, vi 1), (5, vi (txM M e (k + 2))), (4, vi (txM M e (k + 1))), (3, vi (txM M e k)), (0, vr 55), (1, vi e), (2, vi k)]) (by intro z hz; simp at hz ⊢; omega) ?_
                exact tail _ _ (by unfold sgT sgN; grind) (by unfold sgN; grind) (by omega)
            · skip
              refine G_iconst (n := 2) d_Mo_sign_82 (by decide) (G_pc (pc' := 83) rfl ?_)
              refine G_goto (tgt := 87) d_Mo_sign_83 (by decide) ?_
              refine G_istore (i := 6) (len := 2) (ls' := [(6, vi 2), (7, vi 0), (5, vi (txM M e (k + 2))), (4, vi (txM M e (k + 1))), (3, vi (txM M e k)), (0, vr 55), (1, vi e), (2, vi k)]) (Or.inr ⟨rfl, d_Mo_sign_87⟩) (by decide) rfl (G_pc (pc' := 89) rfl ?_)
              refine G_iload (i := 6) (n := 0) (len := 2) (Or.inr ⟨rfl, d_Mo_sign_89⟩) rfl (G_pc (pc' := 91) rfl ?_)
              refine G_iconst (n := 3) d_Mo_sign_91 (by decide) (G_pc (pc' := 92) rfl ?_)
              refine G_icmp_ne (tgt := 100) d_Mo_sign_92 (by decide) (fun h54 => ?_) (fun h54 => absurd h54 (by decide))
              refine G_iload (i := 6) (n := 0) (len := 2) (Or.inr ⟨rfl, d_Mo_sign_100⟩) rfl (G_pc (pc' := 102) rfl ?_)
              refine G_iconst (n := 1) d_Mo_sign_102 (by decide) (G_pc (pc' := 103) rfl ?_)
              refine G_icmp_ne (tgt := 122) d_Mo_sign_103 (by decide) (fun h55 => ?_) (fun h55 => absurd h55 (by decide))
              refine G_iload (i := 4) (n := 3) (len := 2) (Or.inr ⟨rfl, d_Mo_sign_122⟩) rfl (G_pc (pc' := 124) rfl ?_)
              refine G_bipush (n := 61) d_Mo_sign_124 (by decide) (G_pc (pc' := 126) rfl ?_)
              refine G_icmp_ne (tgt := 145) d_Mo_sign_126 (by decide) (fun h56 => ?_) (fun h56 => G_pc (pc' := 129) rfl ?_)
              · skip
                refine G_iload (i := 3) (n := 4) (len := 1) (Or.inl ⟨3, rfl, rfl, d_Mo_sign_145⟩) rfl (G_pc (pc' := 146) rfl ?_)
                refine G_bipush (n := 60) d_Mo_sign_146 (by decide) (G_pc (pc' := 148) rfl ?_)
                refine G_icmp_ne (tgt := 156) d_Mo_sign_148 (by decide) (fun h57 => ?_) (fun h57 => G_pc (pc' := 151) rfl ?_)
                · skip
                  refine G_bipush (n := 39) d_Mo_sign_156 (by decide) (G_pc (pc' := 158) rfl ?_)
                  refine G_istore (i := 7) (len := 2) (ls' := [(7, vi 39), (6, vi 2), (5, vi (txM M e (k + 2))), (4, vi (txM M e (k + 1))), (3, vi (txM M e k)), (0, vr 55), (1, vi e), (2, vi k)]) (Or.inr ⟨rfl, d_Mo_sign_158⟩) (by decide) rfl (G_pc (pc' := 160) rfl ?_)
                  refine G_goto (tgt := 433) d_Mo_sign_160 (by decide) ?_
                  refine G_ls (ls' := [(7, vi 39), (6, vi 2), (5, vi (txM M e (k + 2))), (4, vi (txM M e (k + 1))), (3, vi (txM M e k)), (0, vr 55), (1, vi e), (2, vi k)]) (by intro z hz; simp at hz ⊢; omega) ?_
                  exact tail _ _ (by unfold sgT sgN; grind) (by unfold sgN; grind) (by omega)
                · skip
                  refine G_bipush (n := 38) d_Mo_sign_151 (by decide) (G_pc (pc' := 153) rfl ?_)
                  refine G_goto (tgt := 158) d_Mo_sign_153 (by decide) ?_
                  refine G_istore (i := 7) (len := 2) (ls' := [(7, vi 38), (6, vi 2), (5, vi (txM M e (k + 2))), (4, vi (txM M e (k + 1))), (3, vi (txM M e k)), (0, vr 55), (1, vi e), (2, vi k)]) (Or.inr ⟨rfl, d_Mo_sign_158⟩) (by decide) rfl (G_pc (pc' := 160) rfl ?_)
                  refine G_goto (tgt := 433) d_Mo_sign_160 (by decide) ?_
                  refine G_ls (ls' := [(7, vi 38), (6, vi 2), (5, vi (txM M e (k + 2))), (4, vi (txM M e (k + 1))), (3, vi (txM M e k)), (0, vr 55), (1, vi e), (2, vi k)]) (by intro z hz; simp at hz ⊢; omega) ?_
                  exact tail _ _ (by unfold sgT sgN; grind) (by unfold sgN; grind) (by omega)
              · skip
                refine G_iload (i := 3) (n := 4) (len := 1) (Or.inl ⟨3, rfl, rfl, d_Mo_sign_129⟩) rfl (G_pc (pc' := 130) rfl ?_)
                refine G_bipush (n := 60) d_Mo_sign_130 (by decide) (G_pc (pc' := 132) rfl ?_)
                refine G_icmp_ne (tgt := 140) d_Mo_sign_132 (by decide) (fun h58 => ?_) (fun h58 => G_pc (pc' := 135) rfl ?_)
                · skip
                  refine G_bipush (n := 37) d_Mo_sign_140 (by decide) (G_pc (pc' := 142) rfl ?_)
                  refine G_goto (tgt := 158) d_Mo_sign_142 (by decide) ?_
                  refine G_istore (i := 7) (len := 2) (ls' := [(7, vi 37), (6, vi 2), (5, vi (txM M e (k + 2))), (4, vi (txM M e (k + 1))), (3, vi (txM M e k)), (0, vr 55), (1, vi e), (2, vi k)]) (Or.inr ⟨rfl, d_Mo_sign_158⟩) (by decide) rfl (G_pc (pc' := 160) rfl ?_)
                  refine G_goto (tgt := 433) d_Mo_sign_160 (by decide) ?_
                  refine G_ls (ls' := [(7, vi 37), (6, vi 2), (5, vi (txM M e (k + 2))), (4, vi (txM M e (k + 1))), (3, vi (txM M e k)), (0, vr 55), (1, vi e), (2, vi k)]) (by intro z hz; simp at hz ⊢; omega) ?_
                  exact tail _ _ (by unfold sgT sgN; grind) (by unfold sgN; grind) (by omega)
                · skip
                  refine G_bipush (n := 35) d_Mo_sign_135 (by decide) (G_pc (pc' := 137) rfl ?_)
                  refine G_goto (tgt := 158) d_Mo_sign_137 (by decide) ?_
                  refine G_istore (i := 7) (len := 2) (ls' := [(7, vi 35), (6, vi 2), (5, vi (txM M e (k + 2))), (4, vi (txM M e (k + 1))), (3, vi (txM M e k)), (0, vr 55), (1, vi e), (2, vi k)]) (Or.inr ⟨rfl, d_Mo_sign_158⟩) (by decide) rfl (G_pc (pc' := 160) rfl ?_)
                  refine G_goto (tgt := 433) d_Mo_sign_160 (by decide) ?_
                  refine G_ls (ls' := [(7, vi 35), (6, vi 2), (5, vi (txM M e (k + 2))), (4, vi (txM M e (k + 1))), (3, vi (txM M e k)), (0, vr 55), (1, vi e), (2, vi k)]) (by intro z hz; simp at hz ⊢; omega) ?_
                  exact tail _ _ (by unfold sgT sgN; grind) (by unfold sgN; grind) (by omega)
        · skip
          refine G_iconst (n := 3) d_Mo_sign_65 (by decide) (G_pc (pc' := 66) rfl ?_)
          refine G_goto (tgt := 87) d_Mo_sign_66 (by decide) ?_
          refine G_istore (i := 6) (len := 2) (ls' := [(6, vi 3), (7, vi 0), (5, vi (txM M e (k + 2))), (4, vi (txM M e (k + 1))), (3, vi (txM M e k)), (0, vr 55), (1, vi e), (2, vi k)]) (Or.inr ⟨rfl, d_Mo_sign_87⟩) (by decide) rfl (G_pc (pc' := 89) rfl ?_)
          refine G_iload (i := 6) (n := 0) (len := 2) (Or.inr ⟨rfl, d_Mo_sign_89⟩) rfl (G_pc (pc' := 91) rfl ?_)
          refine G_iconst (n := 3) d_Mo_sign_91 (by decide) (G_pc (pc' := 92) rfl ?_)
          refine G_icmp_ne (tgt := 100) d_Mo_sign_92 (by decide) (fun h59 => absurd h59 (by decide)) (fun h59 => G_pc (pc' := 95) rfl ?_)
          refine G_bipush (n := 40) d_Mo_sign_95 (by decide) (G_pc (pc' := 97) rfl ?_)
          refine G_goto (tgt := 158) d_Mo_sign_97 (by decide) ?_
          refine G_istore (i := 7) (len := 2) (ls' := [(7, vi 40), (6, vi 3), (5, vi (txM M e (k + 2))), (4, vi (txM M e (k + 1))), (3, vi (txM M e k)), (0, vr 55), (1, vi e), (2, vi k)]) (Or.inr ⟨rfl, d_Mo_sign_158⟩) (by decide) rfl (G_pc (pc' := 160) rfl ?_)
          refine G_goto (tgt := 433) d_Mo_sign_160 (by decide) ?_
          refine G_ls (ls' := [(7, vi 40), (6, vi 3), (5, vi (txM M e (k + 2))), (4, vi (txM M e (k + 1))), (3, vi (txM M e k)), (0, vr 55), (1, vi e), (2, vi k)]) (by intro z hz; simp at hz ⊢; omega) ?_
          exact tail _ _ (by unfold sgT sgN; grind) (by unfold sgN; grind) (by omega)
  · skip
    refine G_iload (i := 3) (n := 4) (len := 1) (Or.inl ⟨3, rfl, rfl, d_Mo_sign_39⟩) rfl (G_pc (pc' := 40) rfl ?_)
    refine G_bipush (n := 62) d_Mo_sign_40 (by decide) (G_pc (pc' := 42) rfl ?_)
    refine G_icmp_ne (tgt := 163) d_Mo_sign_42 (by decide) (fun h60 => ?_) (fun h60 => G_pc (pc' := 45) rfl ?_)
    · skip
      refine G_iload (i := 3) (n := 4) (len := 1) (Or.inl ⟨3, rfl, rfl, d_Mo_sign_163⟩) rfl (G_pc (pc' := 164) rfl ?_)
      refine G_bipush (n := 61) d_Mo_sign_164 (by decide) (G_pc (pc' := 166) rfl ?_)
      refine G_icmp_eq (tgt := 175) d_Mo_sign_166 (by decide) (fun h61 => ?_) (fun h61 => G_pc (pc' := 169) rfl ?_)
      · skip
        refine G_iload (i := 4) (n := 3) (len := 2) (Or.inr ⟨rfl, d_Mo_sign_175⟩) rfl (G_pc (pc' := 177) rfl ?_)
        refine G_bipush (n := 61) d_Mo_sign_177 (by decide) (G_pc (pc' := 179) rfl ?_)
        refine G_icmp_ne (tgt := 186) d_Mo_sign_179 (by decide) (fun h62 => ?_) (fun h62 => G_pc (pc' := 182) rfl ?_)
        · skip
          refine G_iconst (n := 1) d_Mo_sign_186 (by decide) (G_pc (pc' := 187) rfl ?_)
          refine G_istore (i := 6) (len := 2) (ls' := [(6, vi 1), (7, vi 0), (5, vi (txM M e (k + 2))), (4, vi (txM M e (k + 1))), (3, vi (txM M e k)), (0, vr 55), (1, vi e), (2, vi k)]) (Or.inr ⟨rfl, d_Mo_sign_187⟩) (by decide) rfl (G_pc (pc' := 189) rfl ?_)
          refine G_iload (i := 6) (n := 0) (len := 2) (Or.inr ⟨rfl, d_Mo_sign_189⟩) rfl (G_pc (pc' := 191) rfl ?_)
          refine G_iconst (n := 2) d_Mo_sign_191 (by decide) (G_pc (pc' := 192) rfl ?_)
          refine G_icmp_ne (tgt := 211) d_Mo_sign_192 (by decide) (fun h63 => ?_) (fun h63 => absurd h63 (by decide))
          refine G_iload (i := 3) (n := 4) (len := 1) (Or.inl ⟨3, rfl, rfl, d_Mo_sign_211⟩) rfl (G_pc (pc' := 212) rfl ?_)
          refine G_bipush (n := 33) d_Mo_sign_212 (by decide) (G_pc (pc' := 214) rfl ?_)
          refine G_icmp_ne (tgt := 222) d_Mo_sign_214 (by decide) (fun h64 => ?_) (fun h64 => G_pc (pc' := 217) rfl ?_)
          · skip
            refine G_iconst (n := 0) d_Mo_sign_222 (by decide) (G_pc (pc' := 223) rfl ?_)
            refine G_istore (i := 7) (len := 2) (ls' := [(7, vi 0), (6, vi 1), (5, vi (txM M e (k + 2))), (4, vi (txM M e (k + 1))), (3, vi (txM M e k)), (0, vr 55), (1, vi e), (2, vi k)]) (Or.inr ⟨rfl, d_Mo_sign_223⟩) (by decide) rfl (G_pc (pc' := 225) rfl ?_)
            refine G_goto (tgt := 433) d_Mo_sign_225 (by decide) ?_
            refine G_ls (ls' := [(7, vi 0), (6, vi 1), (5, vi (txM M e (k + 2))), (4, vi (txM M e (k + 1))), (3, vi (txM M e k)), (0, vr 55), (1, vi e), (2, vi k)]) (by intro z hz; simp at hz ⊢; omega) ?_
            exact tail _ _ (by unfold sgT sgN; grind) (by unfold sgN; grind) (by omega)
          · skip
            refine G_bipush (n := 33) d_Mo_sign_217 (by decide) (G_pc (pc' := 219) rfl ?_)
            refine G_goto (tgt := 223) d_Mo_sign_219 (by decide) ?_
            refine G_istore (i := 7) (len := 2) (ls' := [(7, vi 33), (6, vi 1), (5, vi (txM M e (k + 2))), (4, vi (txM M e (k + 1))), (3, vi (txM M e k)), (0, vr 55), (1, vi e), (2, vi k)]) (Or.inr ⟨rfl, d_Mo_sign_223⟩) (by decide) rfl (G_pc (pc' := 225) rfl ?_)
            refine G_goto (tgt := 433) d_Mo_sign_225 (by decide) ?_
            refine G_ls (ls' := [(7, vi 33), (6, vi 1), (5, vi (txM M e (k + 2))), (4, vi (txM M e (k + 1))), (3, vi (txM M e k)), (0, vr 55), (1, vi e), (2, vi k)]) (by intro z hz; simp at hz ⊢; omega) ?_
            exact tail _ _ (by unfold sgT sgN; grind) (by unfold sgN; grind) (by omega)
        · skip
          refine G_iconst (n := 2) d_Mo_sign_182 (by decide) (G_pc (pc' := 183) rfl ?_)
          refine G_goto (tgt := 187) d_Mo_sign_183 (by decide) ?_
          refine G_istore (i := 6) (len := 2) (ls' := [(6, vi 2), (7, vi 0), (5, vi (txM M e (k + 2))), (4, vi (txM M e (k + 1))), (3, vi (txM M e k)), (0, vr 55), (1, vi e), (2, vi k)]) (Or.inr ⟨rfl, d_Mo_sign_187⟩) (by decide) rfl (G_pc (pc' := 189) rfl ?_)
          refine G_iload (i := 6) (n := 0) (len := 2) (Or.inr ⟨rfl, d_Mo_sign_189⟩) rfl (G_pc (pc' := 191) rfl ?_)
          refine G_iconst (n := 2) d_Mo_sign_191 (by decide) (G_pc (pc' := 192) rfl ?_)
          refine G_icmp_ne (tgt := 211) d_Mo_sign_192 (by decide) (fun h65 => absurd h65 (by decide)) (fun h65 => G_pc (pc' := 195) rfl ?_)
          refine G_iload (i := 3) (n := 4) (len := 1) (Or.inl ⟨3, rfl, rfl, d_Mo_sign_195⟩) rfl (G_pc (pc' := 196) rfl ?_)
          refine G_bipush (n := 61) d_Mo_sign_196 (by decide) (G_pc (pc' := 198) rfl ?_)
          refine G_icmp_ne (tgt := 206) d_Mo_sign_198 (by decide) (fun h66 => ?_) (fun h66 => G_pc (pc' := 201) rfl ?_)
          · skip
            refine G_bipush (n := 42) d_Mo_sign_206 (by decide) (G_pc (pc' := 208) rfl ?_)
            refine G_goto (tgt := 223) d_Mo_sign_208 (by decide) ?_
            refine G_istore (i := 7) (len := 2) (ls' := [(7, vi 42), (6, vi 2), (5, vi (txM M e (k + 2))), (4, vi (txM M e (k + 1))), (3, vi (txM M e k)), (0, vr 55), (1, vi e), (2, vi k)]) (Or.inr ⟨rfl, d_Mo_sign_223⟩) (by decide) rfl (G_pc (pc' := 225) rfl ?_)
            refine G_goto (tgt := 433) d_Mo_sign_225 (by decide) ?_
            refine G_ls (ls' := [(7, vi 42), (6, vi 2), (5, vi (txM M e (k + 2))), (4, vi (txM M e (k + 1))), (3, vi (txM M e k)), (0, vr 55), (1, vi e), (2, vi k)]) (by intro z hz; simp at hz ⊢; omega) ?_
            exact tail _ _ (by unfold sgT sgN; grind) (by unfold sgN; grind) (by omega)
          · skip
            refine G_bipush (n := 41) d_Mo_sign_201 (by decide) (G_pc (pc' := 203) rfl ?_)
            refine G_goto (tgt := 223) d_Mo_sign_203 (by decide) ?_
            refine G_istore (i := 7) (len := 2) (ls' := [(7, vi 41), (6, vi 2), (5, vi (txM M e (k + 2))), (4, vi (txM M e (k + 1))), (3, vi (txM M e k)), (0, vr 55), (1, vi e), (2, vi k)]) (Or.inr ⟨rfl, d_Mo_sign_223⟩) (by decide) rfl (G_pc (pc' := 225) rfl ?_)
            refine G_goto (tgt := 433) d_Mo_sign_225 (by decide) ?_
            refine G_ls (ls' := [(7, vi 41), (6, vi 2), (5, vi (txM M e (k + 2))), (4, vi (txM M e (k + 1))), (3, vi (txM M e k)), (0, vr 55), (1, vi e), (2, vi k)]) (by intro z hz; simp at hz ⊢; omega) ?_
            exact tail _ _ (by unfold sgT sgN; grind) (by unfold sgN; grind) (by omega)
      · skip
        refine G_iload (i := 3) (n := 4) (len := 1) (Or.inl ⟨3, rfl, rfl, d_Mo_sign_169⟩) rfl (G_pc (pc' := 170) rfl ?_)
        refine G_bipush (n := 33) d_Mo_sign_170 (by decide) (G_pc (pc' := 172) rfl ?_)
        refine G_icmp_ne (tgt := 228) d_Mo_sign_172 (by decide) (fun h67 => ?_) (fun h67 => G_pc (pc' := 175) rfl ?_)
        · skip
          refine G_iload (i := 3) (n := 4) (len := 1) (Or.inl ⟨3, rfl, rfl, d_Mo_sign_228⟩) rfl (G_pc (pc' := 229) rfl ?_)
          refine G_bipush (n := 38) d_Mo_sign_229 (by decide) (G_pc (pc' := 231) rfl ?_)
          refine G_icmp_eq (tgt := 240) d_Mo_sign_231 (by decide) (fun h68 => ?_) (fun h68 => G_pc (pc' := 234) rfl ?_)
          · skip
            refine G_iload (i := 4) (n := 3) (len := 2) (Or.inr ⟨rfl, d_Mo_sign_240⟩) rfl (G_pc (pc' := 242) rfl ?_)
            refine G_iload (i := 3) (n := 4) (len := 1) (Or.inl ⟨3, rfl, rfl, d_Mo_sign_242⟩) rfl (G_pc (pc' := 243) rfl ?_)
            refine G_icmp_ne (tgt := 250) d_Mo_sign_243 (by decide) (fun h69 => ?_) (fun h69 => G_pc (pc' := 246) rfl ?_)
            · skip
              refine G_iconst (n := 1) d_Mo_sign_250 (by decide) (G_pc (pc' := 251) rfl ?_)
              refine G_istore (i := 6) (len := 2) (ls' := [(6, vi 1), (7, vi 0), (5, vi (txM M e (k + 2))), (4, vi (txM M e (k + 1))), (3, vi (txM M e k)), (0, vr 55), (1, vi e), (2, vi k)]) (Or.inr ⟨rfl, d_Mo_sign_251⟩) (by decide) rfl (G_pc (pc' := 253) rfl ?_)
              refine G_iload (i := 3) (n := 4) (len := 1) (Or.inl ⟨3, rfl, rfl, d_Mo_sign_253⟩) rfl (G_pc (pc' := 254) rfl ?_)
              refine G_bipush (n := 38) d_Mo_sign_254 (by decide) (G_pc (pc' := 256) rfl ?_)
              refine G_icmp_ne (tgt := 264) d_Mo_sign_256 (by decide) (fun h70 => ?_) (fun h70 => G_pc (pc' := 259) rfl ?_)
              · skip
                refine G_bipush (n := 45) d_Mo_sign_264 (by decide) (G_pc (pc' := 266) rfl ?_)
                refine G_iload (i := 6) (n := 0) (len := 2) (Or.inr ⟨rfl, d_Mo_sign_266⟩) rfl (G_pc (pc' := 268) rfl ?_)
                refine G_iadd d_Mo_sign_268 (by omega) (G_pc (pc' := 269) rfl ?_)
                refine G_iconst (n := 1) d_Mo_sign_269 (by decide) (G_pc (pc' := 270) rfl ?_)
                refine G_isub d_Mo_sign_270 (by omega) (G_pc (pc' := 271) rfl ?_)
                refine G_istore (i := 7) (len := 2) (ls' := [(7, vi ((45 + 1) - 1)), (6, vi 1), (5, vi (txM M e (k + 2))), (4, vi (txM M e (k + 1))), (3, vi (txM M e k)), (0, vr 55), (1, vi e), (2, vi k)]) (Or.inr ⟨rfl, d_Mo_sign_271⟩) (by decide) rfl (G_pc (pc' := 273) rfl ?_)
                refine G_goto (tgt := 433) d_Mo_sign_273 (by decide) ?_
                refine G_ls (ls' := [(7, vi ((45 + 1) - 1)), (6, vi 1), (5, vi (txM M e (k + 2))), (4, vi (txM M e (k + 1))), (3, vi (txM M e k)), (0, vr 55), (1, vi e), (2, vi k)]) (by intro z hz; simp at hz ⊢; omega) ?_
                exact tail _ _ (by unfold sgT sgN; grind) (by unfold sgN; grind) (by omega)
              · skip
                refine G_bipush (n := 43) d_Mo_sign_259 (by decide) (G_pc (pc' := 261) rfl ?_)
                refine G_goto (tgt := 266) d_Mo_sign_261 (by decide) ?_
                refine G_iload (i := 6) (n := 0) (len := 2) (Or.inr ⟨rfl, d_Mo_sign_266⟩) rfl (G_pc (pc' := 268) rfl ?_)
                refine G_iadd d_Mo_sign_268 (by omega) (G_pc (pc' := 269) rfl ?_)
                refine G_iconst (n := 1) d_Mo_sign_269 (by decide) (G_pc (pc' := 270) rfl ?_)
                refine G_isub d_Mo_sign_270 (by omega) (G_pc (pc' := 271) rfl ?_)
                refine G_istore (i := 7) (len := 2) (ls' := [(7, vi ((43 + 1) - 1)), (6, vi 1), (5, vi (txM M e (k + 2))), (4, vi (txM M e (k + 1))), (3, vi (txM M e k)), (0, vr 55), (1, vi e), (2, vi k)]) (Or.inr ⟨rfl, d_Mo_sign_271⟩) (by decide) rfl (G_pc (pc' := 273) rfl ?_)
                refine G_goto (tgt := 433) d_Mo_sign_273 (by decide) ?_
                refine G_ls (ls' := [(7, vi ((43 + 1) - 1)), (6, vi 1), (5, vi (txM M e (k + 2))), (4, vi (txM M e (k + 1))), (3, vi (txM M e k)), (0, vr 55), (1, vi e), (2, vi k)]) (by intro z hz; simp at hz ⊢; omega) ?_
                exact tail _ _ (by unfold sgT sgN; grind) (by unfold sgN; grind) (by omega)
            · skip
              refine G_iconst (n := 2) d_Mo_sign_246 (by decide) (G_pc (pc' := 247) rfl ?_)
              refine G_goto (tgt := 251) d_Mo_sign_247 (by decide) ?_
              refine G_istore (i := 6) (len := 2) (ls' := [(6, vi 2), (7, vi 0), (5, vi (txM M e (k + 2))), (4, vi (txM M e (k + 1))), (3, vi (txM M e k)), (0, vr 55), (1, vi e), (2, vi k)]) (Or.inr ⟨rfl, d_Mo_sign_251⟩) (by decide) rfl (G_pc (pc' := 253) rfl ?_)
              refine G_iload (i := 3) (n := 4) (len := 1) (Or.inl ⟨3, rfl, rfl, d_Mo_sign_253⟩) rfl (G_pc (pc' := 254) rfl ?_)
              refine G_bipush (n := 38) d_Mo_sign_254 (by decide) (G_pc (pc' := 256) rfl ?_)
              refine G_icmp_ne (tgt := 264) d_Mo_sign_256 (by decide) (fun h71 => ?_) (fun h71 => G_pc (pc' := 259) rfl ?_)
              · skip
                refine G_bipush (n := 45) d_Mo_sign_264 (by decide) (G_pc (pc' := 266) rfl ?_)
                refine G_iload (i := 6) (n := 0) (len := 2) (Or.inr ⟨rfl, d_Mo_sign_266⟩) rfl (G_pc (pc' := 268) rfl ?_)
                refine G_iadd d_Mo_sign_268 (by omega) (G_pc (pc' := 269) rfl ?_)
                refine G_iconst (n := 1) d_Mo_sign_269 (by decide) (G_pc (pc' := 270) rfl ?_)
                refine G_isub d_Mo_sign_270 (by omega) (G_pc (pc' := 271) rfl ?_)
                refine G_istore (i := 7) (len := 2) (ls' := [(7, vi ((45 + 2) - 1)), (6, vi 2), (5, vi (txM M e (k + 2))), (4, vi (txM M e (k + 1))), (3, vi (txM M e k)), (0, vr 55), (1, vi e), (2, vi k)]) (Or.inr ⟨rfl, d_Mo_sign_271⟩) (by decide) rfl (G_pc (pc' := 273) rfl ?_)
                refine G_goto (tgt := 433) d_Mo_sign_273 (by decide) ?_
                refine G_ls (ls' := [(7, vi ((45 + 2) - 1)), (6, vi 2), (5, vi (txM M e (k + 2))), (4, vi (txM M e (k + 1))), (3, vi (txM M e k)), (0, vr 55), (1, vi e), (2, vi k)]) (by intro z hz; simp at hz ⊢; omega) ?_
                exact tail _ _ (by unfold sgT sgN; grind) (by unfold sgN; grind) (by omega)
              · skip
                refine G_bipush (n := 43) d_Mo_sign_259 (by decide) (G_pc (pc' := 261) rfl ?_)
                refine G_goto (tgt := 266) d_Mo_sign_261 (by decide) ?_
                refine G_iload (i := 6) (n := 0) (len := 2) (Or.inr ⟨rfl, d_Mo_sign_266⟩) rfl (G_pc (pc' := 268) rfl ?_)
                refine G_iadd d_Mo_sign_268 (by omega) (G_pc (pc' := 269) rfl ?_)
                refine G_iconst (n := 1) d_Mo_sign_269 (by decide) (G_pc (pc' := 270) rfl ?_)
                refine G_isub d_Mo_sign_270 (by omega) (G_pc (pc' := 271) rfl ?_)
                refine G_istore (i := 7) (len := 2) (ls' := [(7, vi ((43 + 2) - 1)), (6, vi 2), (5, vi (txM M e (k + 2))), (4, vi (txM M e (k + 1))), (3, vi (txM M e k)), (0, vr 55), (1, vi e), (2, vi k)]) (Or.inr ⟨rfl, d_Mo_sign_271⟩) (by decide) rfl (G_pc (pc' := 273) rfl ?_)
                refine G_goto (tgt := 433) d_Mo_sign_273 (by decide) ?_
                refine G_ls (ls' := [(7, vi ((43 + 2) - 1)), (6, vi 2), (5, vi (txM M e (k + 2))), (4, vi (txM M e (k + 1))), (3, vi (txM M e k)), (0, vr 55), (1, vi e), (2, vi k)]) (by intro z hz; simp at hz ⊢; omega) ?_
                exact tail _ _ (by unfold sgT sgN; grind) (by unfold sgN; grind) (by omega)
          · skip
            refine G_iload (i := 3) (n := 4) (len := 1) (Or.inl ⟨3, rfl, rfl, d_Mo_sign_234⟩) rfl (G_pc (pc' := 235) rfl ?_)
            refine G_bipush (n := 124) d_Mo_sign_235 (by decide) (G_pc (pc' := 237) rfl ?_)
            refine G_icmp_ne (tgt := 276) d_Mo_sign_237 (by decide) (fun h72 => ?_) (fun h72 => G_pc (pc' := 240) rfl ?_)
            · skip
              refine G_iload (i := 3) (n := 4) (len := 1) (Or.inl ⟨3, rfl, rfl, d_Mo_sign_276⟩) rfl (G_pc (pc' := 277) rfl ?_)
              refine G_bipush (n := 40) d_Mo_sign_277 (by decide) (G_pc (pc' := 279) rfl ?_)
              refine G_icmp_ne (tgt := 287) d_Mo_sign_279 (by decide) (fun h73 => ?_) (fun h73 => G_pc (pc' := 282) rfl ?_)
              · skip
                refine G_iload (i := 3) (n := 4) (len := 1) (Or.inl ⟨3, rfl, rfl, d_Mo_sign_287⟩) rfl (G_pc (pc' := 288) rfl ?_)
                refine G_bipush (n := 41) d_Mo_sign_288 (by decide) (G_pc (pc' := 290) rfl ?_)
                refine G_icmp_ne (tgt := 298) d_Mo_sign_290 (by decide) (fun h74 => ?_) (fun h74 => G_pc (pc' := 293) rfl ?_)
                · skip
                  refine G_iload (i := 3) (n := 4) (len := 1) (Or.inl ⟨3, rfl, rfl, d_Mo_sign_298⟩) rfl (G_pc (pc' := 299) rfl ?_)
                  refine G_bipush (n := 91) d_Mo_sign_299 (by decide) (G_pc (pc' := 301) rfl ?_)
                  refine G_icmp_ne (tgt := 309) d_Mo_sign_301 (by decide) (fun h75 => ?_) (fun h75 => G_pc (pc' := 304) rfl ?_)
                  · skip
                    refine G_iload (i := 3) (n := 4) (len := 1) (Or.inl ⟨3, rfl, rfl, d_Mo_sign_309⟩) rfl (G_pc (pc' := 310) rfl ?_)
                    refine G_bipush (n := 93) d_Mo_sign_310 (by decide) (G_pc (pc' := 312) rfl ?_)
                    refine G_icmp_ne (tgt := 320) d_Mo_sign_312 (by decide) (fun h76 => ?_) (fun h76 => G_pc (pc' := 315) rfl ?_)
                    · skip
                      refine G_iload (i := 3) (n := 4) (len := 1) (Or.inl ⟨3, rfl, rfl, d_Mo_sign_320⟩) rfl (G_pc (pc' := 321) rfl ?_)
                      refine G_bipush (n := 46) d_Mo_sign_321 (by decide) (G_pc (pc' := 323) rfl ?_)
                      refine G_icmp_ne (tgt := 331) d_Mo_sign_323 (by decide) (fun h77 => ?_) (fun h77 => G_pc (pc' := 326) rfl ?_)
                      · skip
                        refine G_iload (i := 3) (n := 4) (len := 1) (Or.inl ⟨3, rfl, rfl, d_Mo_sign_331⟩) rfl (G_pc (pc' := 332) rfl ?_)
                        refine G_bipush (n := 63) d_Mo_sign_332 (by decide) (G_pc (pc' := 334) rfl ?_)
                        refine G_icmp_ne (tgt := 342) d_Mo_sign_334 (by decide) (fun h78 => ?_) (fun h78 => G_pc (pc' := 337) rfl ?_)
                        · skip
                          refine G_iload (i := 3) (n := 4) (len := 1) (Or.inl ⟨3, rfl, rfl, d_Mo_sign_342⟩) rfl (G_pc (pc' := 343) rfl ?_)
                          refine G_bipush (n := 58) d_Mo_sign_343 (by decide) (G_pc (pc' := 345) rfl ?_)
                          refine G_icmp_ne (tgt := 353) d_Mo_sign_345 (by decide) (fun h79 => ?_) (fun h79 => G_pc (pc' := 348) rfl ?_)
                          · skip
                            refine G_iload (i := 3) (n := 4) (len := 1) (Or.inl ⟨3, rfl, rfl, d_Mo_sign_353⟩) rfl (G_pc (pc' := 354) rfl ?_)
                            refine G_bipush (n := 43) d_Mo_sign_354 (by decide) (G_pc (pc' := 356) rfl ?_)
                            refine G_icmp_ne (tgt := 364) d_Mo_sign_356 (by decide) (fun h80 => ?_) (fun h80 => G_pc (pc' := 359) rfl ?_)
                            · skip
                              refine G_iload (i := 3) (n := 4) (len := 1) (Or.inl ⟨3, rfl, rfl, d_Mo_sign_364⟩) rfl (G_pc (pc' := 365) rfl ?_)
                              refine G_bipush (n := 45) d_Mo_sign_365 (by decide) (G_pc (pc' := 367) rfl ?_)
                              refine G_icmp_ne (tgt := 375) d_Mo_sign_367 (by decide) (fun h81 => ?_) (fun h81 => G_pc (pc' := 370) rfl ?_)
                              · skip
                                refine G_iload (i := 3) (n := 4) (len := 1) (Or.inl ⟨3, rfl, rfl, d_Mo_sign_375⟩) rfl (G_pc (pc' := 376) rfl ?_)
                                refine G_bipush (n := 42) d_Mo_sign_376 (by decide) (G_pc (pc' := 378) rfl ?_)
                                refine G_icmp_ne (tgt := 386) d_Mo_sign_378 (by decide) (fun h82 => ?_) (fun h82 => G_pc (pc' := 381) rfl ?_)
                                · skip
                                  refine G_iload (i := 3) (n := 4) (len := 1) (Or.inl ⟨3, rfl, rfl, d_Mo_sign_386⟩) rfl (G_pc (pc' := 387) rfl ?_)
                                  refine G_bipush (n := 47) d_Mo_sign_387 (by decide) (G_pc (pc' := 389) rfl ?_)
                                  refine G_icmp_ne (tgt := 397) d_Mo_sign_389 (by decide) (fun h83 => ?_) (fun h83 => G_pc (pc' := 392) rfl ?_)
                                  · skip
                                    refine G_iload (i := 3) (n := 4) (len := 1) (Or.inl ⟨3, rfl, rfl, d_Mo_sign_397⟩) rfl (G_pc (pc' := 398) rfl ?_)
                                    refine G_bipush (n := 37) d_Mo_sign_398 (by decide) (G_pc (pc' := 400) rfl ?_)
                                    refine G_icmp_ne (tgt := 408) d_Mo_sign_400 (by decide) (fun h84 => ?_) (fun h84 => G_pc (pc' := 403) rfl ?_)
                                    · skip
                                      refine G_iload (i := 3) (n := 4) (len := 1) (Or.inl ⟨3, rfl, rfl, d_Mo_sign_408⟩) rfl (G_pc (pc' := 409) rfl ?_)
                                      refine G_bipush (n := 126) d_Mo_sign_409 (by decide) (G_pc (pc' := 411) rfl ?_)
                                      refine G_icmp_ne (tgt := 419) d_Mo_sign_411 (by decide) (fun h85 => ?_) (fun h85 => G_pc (pc' := 414) rfl ?_)
                                      · skip
                                        refine G_iload (i := 3) (n := 4) (len := 1) (Or.inl ⟨3, rfl, rfl, d_Mo_sign_419⟩) rfl (G_pc (pc' := 420) rfl ?_)
                                        refine G_bipush (n := 94) d_Mo_sign_420 (by decide) (G_pc (pc' := 422) rfl ?_)
                                        refine G_icmp_ne (tgt := 430) d_Mo_sign_422 (by decide) (fun h86 => ?_) (fun h86 => G_pc (pc' := 425) rfl ?_)
                                        · skip
                                          refine G_iconst (n := 0) d_Mo_sign_430 (by decide) (G_pc (pc' := 431) rfl ?_)
                                          refine G_istore (i := 7) (len := 2) (ls' := [(7, vi 0), (6, vi 1), (5, vi (txM M e (k + 2))), (4, vi (txM M e (k + 1))), (3, vi (txM M e k)), (0, vr 55), (1, vi e), (2, vi k)]) (Or.inr ⟨rfl, d_Mo_sign_431⟩) (by decide) rfl (G_pc (pc' := 433) rfl ?_)
                                          refine G_ls (ls' := [(7, vi 0), (6, vi 1), (5, vi (txM M e (k + 2))), (4, vi (txM M e (k + 1))), (3, vi (txM M e k)), (0, vr 55), (1, vi e), (2, vi k)]) (by intro z hz; simp at hz ⊢; omega) ?_
                                          exact tail _ _ (by unfold sgT sgN; grind) (by unfold sgN; grind) (by omega)
                                        · skip
                                          refine G_bipush (n := 47) d_Mo_sign_425 (by decide) (G_pc (pc' := 427) rfl ?_)
                                          refine G_goto (tgt := 431) d_Mo_sign_427 (by decide) ?_
                                          refine G_istore (i := 7) (len := 2) (ls' := [(7, vi 47), (6, vi 1), (5, vi (txM M e (k + 2))), (4, vi (txM M e (k + 1))), (3, vi (txM M e k)), (0, vr 55), (1, vi e), (2, vi k)]) (Or.inr ⟨rfl, d_Mo_sign_431⟩) (by decide) rfl (G_pc (pc' := 433) rfl ?_)
                                          refine G_ls (ls' := [(7, vi 47), (6, vi 1), (5, vi (txM M e (k + 2))), (4, vi (txM M e (k + 1))), (3, vi (txM M e k)), (0, vr 55), (1, vi e), (2, vi k)]) (by intro z hz; simp at hz ⊢; omega) ?_
                                          exact tail _ _ (by unfold sgT sgN; grind) (by unfold sgN; grind) (by omega)
                                      · skip
                                        refine G_bipush (n := 32) d_Mo_sign_414 (by decide) (G_pc (pc' := 416) rfl ?_)
                                        refine G_goto (tgt := 431) d_Mo_sign_416 (by decide) ?_
                                        refine G_istore (i := 7) (len := 2) (ls' := [(7, vi 32), (6, vi 1), (5, vi (txM M e (k + 2))), (4, vi (txM M e (k + 1))), (3, vi (txM M e k)), (0, vr 55), (1, vi e), (2, vi k)]) (Or.inr ⟨rfl, d_Mo_sign_431⟩) (by decide) rfl (G_pc (pc' := 433) rfl ?_)
                                        refine G_ls (ls' := [(7, vi 32), (6, vi 1), (5, vi (txM M e (k + 2))), (4, vi (txM M e (k + 1))), (3, vi (txM M e k)), (0, vr 55), (1, vi e), (2, vi k)]) (by intro z hz; simp at hz ⊢; omega) ?_
                                        exact tail _ _ (by unfold sgT sgN; grind) (by unfold sgN; grind) (by omega)
                                    · skip
                                      refine G_bipush (n := 31) d_Mo_sign_403 (by decide) (G_pc (pc' := 405) rfl ?_)
                                      refine G_goto (tgt := 431) d_Mo_sign_405 (by decide) ?_
                                      refine G_istore (i := 7) (len := 2) (ls' := [(7, vi 31), (6, vi 1), (5, vi (txM M e (k + 2))), (4, vi (txM M e (k + 1))), (3, vi (txM M e k)), (0, vr 55), (1, vi e), (2, vi k)]) (Or.inr ⟨rfl, d_Mo_sign_431⟩) (by decide) rfl (G_pc (pc' := 433) rfl ?_)
                                      refine G_ls (ls' := [(7, vi 31), (6, vi 1), (5, vi (txM M e (k + 2))), (4, vi (txM M e (k + 1))), (3, vi (txM M e k)), (0, vr 55), (1, vi e), (2, vi k)]) (by intro z hz; simp at hz ⊢; omega) ?_
                                      exact tail _ _ (by unfold sgT sgN; grind) (by unfold sgN; grind) (by omega)
                                  · skip
                                    refine G_bipush (n := 30) d_Mo_sign_392 (by decide) (G_pc (pc' := 394) rfl ?_)
                                    refine G_goto (tgt := 431) d_Mo_sign_394 (by decide) ?_
                                    refine G_istore (i := 7) (len := 2) (ls' := [(7, vi 30), (6, vi 1), (5, vi (txM M e (k + 2))), (4, vi (txM M e (k + 1))), (3, vi (txM M e k)), (0, vr 55), (1, vi e), (2, vi k)]) (Or.inr ⟨rfl, d_Mo_sign_431⟩) (by decide) rfl (G_pc (pc' := 433) rfl ?_)
                                    refine G_ls (ls' := [(7, vi 30), (6, vi 1), (5, vi (txM M e (k + 2))), (4, vi (txM M e (k + 1))), (3, vi (txM M e k)), (0, vr 55), (1, vi e), (2, vi k)]) (by intro z hz; simp at hz ⊢; omega) ?_
                                    exact tail _ _ (by unfold sgT sgN; grind) (by unfold sgN; grind) (by omega)
                                · skip
                                  refine G_bipush (n := 29) d_Mo_sign_381 (by decide) (G_pc (pc' := 383) rfl ?_)
                                  refine G_goto (tgt := 431) d_Mo_sign_383 (by decide) ?_
                                  refine G_istore (i := 7) (len := 2) (ls' := [(7, vi 29), (6, vi 1), (5, vi (txM M e (k + 2))), (4, vi (txM M e (k + 1))), (3, vi (txM M e k)), (0, vr 55), (1, vi e), (2, vi k)]) (Or.inr ⟨rfl, d_Mo_sign_431⟩) (by decide) rfl (G_pc (pc' := 433) rfl ?_)
                                  refine G_ls (ls' := [(7, vi 29), (6, vi 1), (5, vi (txM M e (k + 2))), (4, vi (txM M e (k + 1))), (3, vi (txM M e k)), (0, vr 55), (1, vi e), (2, vi k)]) (by intro z hz; simp at hz ⊢; omega) ?_
                                  exact tail _ _ (by unfold sgT sgN; grind) (by unfold sgN; grind) (by omega)
                              · skip
                                refine G_bipush (n := 28) d_Mo_sign_370 (by decide) (G_pc (pc' := 372) rfl ?_)
                                refine G_goto (tgt := 431) d_Mo_sign_372 (by decide) ?_
                                refine G_istore (i := 7) (len := 2) (ls' := [(7, vi 28), (6, vi 1), (5, vi (txM M e (k + 2))), (4, vi (txM M e (k + 1))), (3, vi (txM M e k)), (0, vr 55), (1, vi e), (2, vi k)]) (Or.inr ⟨rfl, d_Mo_sign_431⟩) (by decide) rfl (G_pc (pc' := 433) rfl ?_)
                                refine G_ls (ls' := [(7, vi 28), (6, vi 1), (5, vi (txM M e (k + 2))), (4, vi (txM M e (k + 1))), (3, vi (txM M e k)), (0, vr 55), (1, vi e), (2, vi k)]) (by intro z hz; simp at hz ⊢; omega) ?_
                                exact tail _ _ (by unfold sgT sgN; grind) (by unfold sgN; grind) (by omega)
                            · skip
                              refine G_bipush (n := 27) d_Mo_sign_359 (by decide) (G_pc (pc' := 361) rfl ?_)
                              refine G_goto (tgt := 431) d_Mo_sign_361 (by decide) ?_
                              refine G_istore (i := 7) (len := 2) (ls' := [(7, vi 27), (6, vi 1), (5, vi (txM M e (k + 2))), (4, vi (txM M e (k + 1))), (3, vi (txM M e k)), (0, vr 55), (1, vi e), (2, vi k)]) (Or.inr ⟨rfl, d_Mo_sign_431⟩) (by decide) rfl (G_pc (pc' := 433) rfl ?_)
                              refine G_ls (ls' := [(7, vi 27), (6, vi 1), (5, vi (txM M e (k + 2))), (4, vi (txM M e (k + 1))), (3, vi (txM M e k)), (0, vr 55), (1, vi e), (2, vi k)]) (by intro z hz; simp at hz ⊢; omega) ?_
                              exact tail _ _ (by unfold sgT sgN; grind) (by unfold sgN; grind) (by omega)
                          · skip
                            refine G_bipush (n := 26) d_Mo_sign_348 (by decide) (G_pc (pc' := 350) rfl ?_)
                            refine G_goto (tgt := 431) d_Mo_sign_350 (by decide) ?_
                            refine G_istore (i := 7) (len := 2) (ls' := [(7, vi 26), (6, vi 1), (5, vi (txM M e (k + 2))), (4, vi (txM M e (k + 1))), (3, vi (txM M e k)), (0, vr 55), (1, vi e), (2, vi k)]) (Or.inr ⟨rfl, d_Mo_sign_431⟩) (by decide) rfl (G_pc (pc' := 433) rfl ?_)
                            refine G_ls (ls' := [(7, vi 26), (6, vi 1), (5, vi (txM M e (k + 2))), (4, vi (txM M e (k + 1))), (3, vi (txM M e k)), (0, vr 55), (1, vi e), (2, vi k)]) (by intro z hz; simp at hz ⊢; omega) ?_
                            exact tail _ _ (by unfold sgT sgN; grind) (by unfold sgN; grind) (by omega)
                        · skip
                          refine G_bipush (n := 25) d_Mo_sign_337 (by decide) (G_pc (pc' := 339) rfl ?_)
                          refine G_goto (tgt := 431) d_Mo_sign_339 (by decide) ?_
                          refine G_istore (i := 7) (len := 2) (ls' := [(7, vi 25), (6, vi 1), (5, vi (txM M e (k + 2))), (4, vi (txM M e (k + 1))), (3, vi (txM M e k)), (0, vr 55), (1, vi e), (2, vi k)]) (Or.inr ⟨rfl, d_Mo_sign_431⟩) (by decide) rfl (G_pc (pc' := 433) rfl ?_)
                          refine G_ls (ls' := [(7, vi 25), (6, vi 1), (5, vi (txM M e (k + 2))), (4, vi (txM M e (k + 1))), (3, vi (txM M e k)), (0, vr 55), (1, vi e), (2, vi k)]) (by intro z hz; simp at hz ⊢; omega) ?_
                          exact tail _ _ (by unfold sgT sgN; grind) (by unfold sgN; grind) (by omega)
                      · skip
                        refine G_bipush (n := 24) d_Mo_sign_326 (by decide) (G_pc (pc' := 328) rfl ?_)
                        refine G_goto (tgt := 431) d_Mo_sign_328 (by decide) ?_
                        refine G_istore (i := 7) (len := 2) (ls' := [(7, vi 24), (6, vi 1), (5, vi (txM M e (k + 2))), (4, vi (txM M e (k + 1))), (3, vi (txM M e k)), (0, vr 55), (1, vi e), (2, vi k)]) (Or.inr ⟨rfl, d_Mo_sign_431⟩) (by decide) rfl (G_pc (pc' := 433) rfl ?_)
                        refine G_ls (ls' := [(7, vi 24), (6, vi 1), (5, vi (txM M e (k + 2))), (4, vi (txM M e (k + 1))), (3, vi (txM M e k)), (0, vr 55), (1, vi e), (2, vi k)]) (by intro z hz; simp at hz ⊢; omega) ?_
                        exact tail _ _ (by unfold sgT sgN; grind) (by unfold sgN; grind) (by omega)
                    · skip
                      refine G_bipush (n := 23) d_Mo_sign_315 (by decide) (G_pc (pc' := 317) rfl ?_)
                      refine G_goto (tgt := 431) d_Mo_sign_317 (by decide) ?_
                      refine G_istore (i := 7) (len := 2) (ls' := [(7, vi 23), (6, vi 1), (5, vi (txM M e (k + 2))), (4, vi (txM M e (k + 1))), (3, vi (txM M e k)), (0, vr 55), (1, vi e), (2, vi k)]) (Or.inr ⟨rfl, d_Mo_sign_431⟩) (by decide) rfl (G_pc (pc' := 433) rfl ?_)
                      refine G_ls (ls' := [(7, vi 23), (6, vi 1), (5, vi (txM M e (k + 2))), (4, vi (txM M e (k + 1))), (3, vi (txM M e k)), (0, vr 55), (1, vi e), (2, vi k)]) (by intro z hz; simp at hz ⊢; omega) ?_
                      exact tail _ _ (by unfold sgT sgN; grind) (by unfold sgN; grind) (by omega)
                  · skip
                    refine G_bipush (n := 22) d_Mo_sign_304 (by decide) (G_pc (pc' := 306) rfl ?_)
                    refine G_goto (tgt := 431) d_Mo_sign_306 (by decide) ?_
                    refine G_istore (i := 7) (len := 2) (ls' := [(7, vi 22), (6, vi 1), (5, vi (txM M e (k + 2))), (4, vi (txM M e (k + 1))), (3, vi (txM M e k)), (0, vr 55), (1, vi e), (2, vi k)]) (Or.inr ⟨rfl, d_Mo_sign_431⟩) (by decide) rfl (G_pc (pc' := 433) rfl ?_)
                    refine G_ls (ls' := [(7, vi 22), (6, vi 1), (5, vi (txM M e (k + 2))), (4, vi (txM M e (k + 1))), (3, vi (txM M e k)), (0, vr 55), (1, vi e), (2, vi k)]) (by intro z hz; simp at hz ⊢; omega) ?_
                    exact tail _ _ (by unfold sgT sgN; grind) (by unfold sgN; grind) (by omega)
                · skip
                  refine G_bipush (n := 21) d_Mo_sign_293 (by decide) (G_pc (pc' := 295) rfl ?_)
                  refine G_goto (tgt := 431) d_Mo_sign_295 (by decide) ?_
                  refine G_istore (i := 7) (len := 2) (ls' := [(7, vi 21), (6, vi 1), (5, vi (txM M e (k + 2))), (4, vi (txM M e (k + 1))), (3, vi (txM M e k)), (0, vr 55), (1, vi e), (2, vi k)]) (Or.inr ⟨rfl, d_Mo_sign_431⟩) (by decide) rfl (G_pc (pc' := 433) rfl ?_)
                  refine G_ls (ls' := [(7, vi 21), (6, vi 1), (5, vi (txM M e (k + 2))), (4, vi (txM M e (k + 1))), (3, vi (txM M e k)), (0, vr 55), (1, vi e), (2, vi k)]) (by intro z hz; simp at hz ⊢; omega) ?_
                  exact tail _ _ (by unfold sgT sgN; grind) (by unfold sgN; grind) (by omega)
              · skip
                refine G_bipush (n := 20) d_Mo_sign_282 (by decide) (G_pc (pc' := 284) rfl ?_)
                refine G_goto (tgt := 431) d_Mo_sign_284 (by decide) ?_
                refine G_istore (i := 7) (len := 2) (ls' := [(7, vi 20), (6, vi 1), (5, vi (txM M e (k + 2))), (4, vi (txM M e (k + 1))), (3, vi (txM M e k)), (0, vr 55), (1, vi e), (2, vi k)]) (Or.inr ⟨rfl, d_Mo_sign_431⟩) (by decide) rfl (G_pc (pc' := 433) rfl ?_)
                refine G_ls (ls' := [(7, vi 20), (6, vi 1), (5, vi (txM M e (k + 2))), (4, vi (txM M e (k + 1))), (3, vi (txM M e k)), (0, vr 55), (1, vi e), (2, vi k)]) (by intro z hz; simp at hz ⊢; omega) ?_
                exact tail _ _ (by unfold sgT sgN; grind) (by unfold sgN; grind) (by omega)
            · skip
              refine G_iload (i := 4) (n := 3) (len := 2) (Or.inr ⟨rfl, d_Mo_sign_240⟩) rfl (G_pc (pc' := 242) rfl ?_)
              refine G_iload (i := 3) (n := 4) (len := 1) (Or.inl ⟨3, rfl, rfl, d_Mo_sign_242⟩) rfl (G_pc (pc' := 243) rfl ?_)
              refine G_icmp_ne (tgt := 250) d_Mo_sign_243 (by decide) (fun h87 => ?_) (fun h87 => G_pc (pc' := 246) rfl ?_)
              · skip
                refine G_iconst (n := 1) d_Mo_sign_250 (by decide) (G_pc (pc' := 251) rfl ?_)
                refine G_istore (i := 6) (len := 2) (ls' := [(6, vi 1), (7, vi 0), (5, vi (txM M e (k + 2))), (4, vi (txM M e (k + 1))), (3, vi (txM M e k)), (0, vr 55), (1, vi e), (2, vi k)]) (Or.inr ⟨rfl, d_Mo_sign_251⟩) (by decide) rfl (G_pc (pc' := 253) rfl ?_)
                refine G_iload (i := 3) (n := 4) (len := 1) (Or.inl ⟨3, rfl, rfl, d_Mo_sign_253⟩) rfl (G_pc (pc' := 254) rfl ?_)
                refine G_bipush (n := 38) d_Mo_sign_254 (by decide) (G_pc (pc' := 256) rfl ?_)
                refine G_icmp_ne (tgt := 264) d_Mo_sign_256 (by decide) (fun h88 => ?_) (fun h88 => G_pc (pc' := 259) rfl ?_)
                · skip
                  refine G_bipush (n := 45) d_Mo_sign_264 (by decide) (G_pc (pc' := 266) rfl ?_)
                  refine G_iload (i := 6) (n := 0) (len := 2) (Or.inr ⟨rfl, d_Mo_sign_266⟩) rfl (G_pc (pc' := 268) rfl ?_)
                  refine G_iadd d_Mo_sign_268 (by omega) (G_pc (pc' := 269) rfl ?_)
                  refine G_iconst (n := 1) d_Mo_sign_269 (by decide) (G_pc (pc' := 270) rfl ?_)
                  refine G_isub d_Mo_sign_270 (by omega) (G_pc (pc' := 271) rfl ?_)
                  refine G_istore (i := 7) (len := 2) (ls' := [(7, vi ((45 + 1) - 1)), (6, vi 1), (5, vi (txM M e (k + 2))), (4, vi (txM M e (k + 1))), (3, vi (txM M e k)), (0, vr 55), (1, vi e), (2, vi k)]) (Or.inr ⟨rfl, d_Mo_sign_271⟩) (by decide) rfl (G_pc (pc' := 273) rfl ?_)
                  refine G_goto (tgt := 433) d_Mo_sign_273 (by decide) ?_
                  refine G_ls (ls' := [(7, vi ((45 + 1) - 1)), (6, vi 1), (5, vi (txM M e (k + 2))), (4, vi (txM M e (k + 1))), (3, vi (txM M e k)), (0, vr 55), (1, vi e), (2, vi k)]) (by intro z hz; simp at hz ⊢; omega) ?_
                  exact tail _ _ (by unfold sgT sgN; grind) (by unfold sgN; grind) (by omega)
                · skip
                  refine G_bipush (n := 43) d_Mo_sign_259 (by decide) (G_pc (pc' := 261) rfl ?_)
                  refine G_goto (tgt := 266) d_Mo_sign_261 (by decide) ?_
                  refine G_iload (i := 6) (n := 0) (len := 2) (Or.inr ⟨rfl, d_Mo_sign_266⟩) rfl (G_pc (pc' := 268) rfl ?_)
                  refine G_iadd d_Mo_sign_268 (by omega) (G_pc (pc' := 269) rfl ?_)
                  refine G_iconst (n := 1) d_Mo_sign_269 (by decide) (G_pc (pc' := 270) rfl ?_)
                  refine G_isub d_Mo_sign_270 (by omega) (G_pc (pc' := 271) rfl ?_)
                  refine G_istore (i := 7) (len := 2) (ls' := [(7, vi ((43 + 1) - 1)), (6, vi 1), (5, vi (txM M e (k + 2))), (4, vi (txM M e (k + 1))), (3, vi (txM M e k)), (0, vr 55), (1, vi e), (2, vi k)]) (Or.inr ⟨rfl, d_Mo_sign_271⟩) (by decide) rfl (G_pc (pc' := 273) rfl ?_)
                  refine G_goto (tgt := 433) d_Mo_sign_273 (by decide) ?_
                  refine G_ls (ls' := [(7, vi ((43 + 1) - 1)), (6, vi 1), (5, vi (txM M e (k + 2))), (4, vi (txM M e (k + 1))), (3, vi (txM M e k)), (0, vr 55), (1, vi e), (2, vi k)]) (by intro z hz; simp at hz ⊢; omega) ?_
                  exact tail _ _ (by unfold sgT sgN; grind) (by unfold sgN; grind) (by omega)
              · skip
                refine G_iconst (n := 2) d_Mo_sign_246 (by decide) (G_pc (pc' := 247) rfl ?_)
                refine G_goto (tgt := 251) d_Mo_sign_247 (by decide) ?_
                refine G_istore (i := 6) (len := 2) (ls' := [(6, vi 2), (7, vi 0), (5, vi (txM M e (k + 2))), (4, vi (txM M e (k + 1))), (3, vi (txM M e k)), (0, vr 55), (1, vi e), (2, vi k)]) (Or.inr ⟨rfl, d_Mo_sign_251⟩) (by decide) rfl (G_pc (pc' := 253) rfl ?_)
                refine G_iload (i := 3) (n := 4) (len := 1) (Or.inl ⟨3, rfl, rfl, d_Mo_sign_253⟩) rfl (G_pc (pc' := 254) rfl ?_)
                refine G_bipush (n := 38) d_Mo_sign_254 (by decide) (G_pc (pc' := 256) rfl ?_)
                refine G_icmp_ne (tgt := 264) d_Mo_sign_256 (by decide) (fun h89 => ?_) (fun h89 => G_pc (pc' := 259) rfl ?_)
                · skip
                  refine G_bipush (n := 45) d_Mo_sign_264 (by decide) (G_pc (pc' := 266) rfl ?_)
                  refine G_iload (i := 6) (n := 0) (len := 2) (Or.inr ⟨rfl, d_Mo_sign_266⟩) rfl (G_pc (pc' := 268) rfl ?_)
                  refine G_iadd d_Mo_sign_268 (by omega) (G_pc (pc' := 269) rfl ?_)
                  refine G_iconst (n := 1) d_Mo_sign_269 (by decide) (G_pc (pc' := 270) rfl ?_)
                  refine G_isub d_Mo_sign_270 (by omega) (G_pc (pc' := 271) rfl ?_)
                  refine G_istore (i := 7) (len := 2) (ls' := [(7, vi ((45 + 2) - 1)), (6, vi 2), (5, vi (txM M e (k + 2))), (4, vi (txM M e (k + 1))), (3, vi (txM M e k)), (0, vr 55), (1, vi e), (2, vi k)]) (Or.inr ⟨rfl, d_Mo_sign_271⟩) (by decide) rfl (G_pc (pc' := 273) rfl ?_)
                  refine G_goto (tgt := 433) d_Mo_sign_273 (by decide) ?_
                  refine G_ls (ls' := [(7, vi ((45 + 2) - 1)), (6, vi 2), (5, vi (txM M e (k + 2))), (4, vi (txM M e (k + 1))), (3, vi (txM M e k)), (0, vr 55), (1, vi e), (2, vi k)]) (by intro z hz; simp at hz ⊢; omega) ?_
                  exact tail _ _ (by unfold sgT sgN; grind) (by unfold sgN; grind) (by omega)
                · skip
                  refine G_bipush (n := 43) d_Mo_sign_259 (by decide) (G_pc (pc' := 261) rfl ?_)
                  refine G_goto (tgt := 266) d_Mo_sign_261 (by decide) ?_
                  refine G_iload (i := 6) (n := 0) (len := 2) (Or.inr ⟨rfl, d_Mo_sign_266⟩) rfl (G_pc (pc' := 268) rfl ?_)
                  refine G_iadd d_Mo_sign_268 (by omega) (G_pc (pc' := 269) rfl ?_)
                  refine G_iconst (n := 1) d_Mo_sign_269 (by decide) (G_pc (pc' := 270) rfl ?_)
                  refine G_isub d_Mo_sign_270 (by omega) (G_pc (pc' := 271) rfl ?_)
                  refine G_istore (i := 7) (len := 2) (ls' := [(7, vi ((43 + 2) - 1)), (6, vi 2), (5, vi (txM M e (k + 2))), (4, vi (txM M e (k + 1))), (3, vi (txM M e k)), (0, vr 55), (1, vi e), (2, vi k)]) (Or.inr ⟨rfl, d_Mo_sign_271⟩) (by decide) rfl (G_pc (pc' := 273) rfl ?_)
                  refine G_goto (tgt := 433) d_Mo_sign_273 (by decide) ?_
                  refine G_ls (ls' := [(7, vi ((43 + 2) - 1)), (6, vi 2), (5, vi (txM M e (k + 2))), (4, vi (txM M e (k + 1))), (3, vi (txM M e k)), (0, vr 55), (1, vi e), (2, vi k)]) (by intro z hz; simp at hz ⊢; omega) ?_
                  exact tail _ _ (by unfold sgT sgN; grind) (by unfold sgN; grind) (by omega)
        · skip
          refine G_iload (i := 4) (n := 3) (len := 2) (Or.inr ⟨rfl, d_Mo_sign_175⟩) rfl (G_pc (pc' := 177) rfl ?_)
          refine G_bipush (n := 61) d_Mo_sign_177 (by decide) (G_pc (pc' := 179) rfl ?_)
          refine G_icmp_ne (tgt := 186) d_Mo_sign_179 (by decide) (fun h90 => ?_) (fun h90 => G_pc (pc' := 182) rfl ?_)
          · skip
            refine G_iconst (n := 1) d_Mo_sign_186 (by decide) (G_pc (pc' := 187) rfl ?_)
            refine G_istore (i := 6) (len := 2) (ls' := [(6, vi 1), (7, vi 0), (5, vi (txM M e (k + 2))), (4, vi (txM M e (k + 1))), (3, vi (txM M e k)), (0, vr 55), (1, vi e), (2, vi k)]) (Or.inr ⟨rfl, d_Mo_sign_187⟩) (by decide) rfl (G_pc (pc' := 189) rfl ?_)
            refine G_iload (i := 6) (n := 0) (len := 2) (Or.inr ⟨rfl, d_Mo_sign_189⟩) rfl (G_pc (pc' := 191) rfl ?_)
            refine G_iconst (n := 2) d_Mo_sign_191 (by decide) (G_pc (pc' := 192) rfl ?_)
            refine G_icmp_ne (tgt := 211) d_Mo_sign_192 (by decide) (fun h91 => ?_) (fun h91 => absurd h91 (by decide))
            refine G_iload (i := 3) (n := 4) (len := 1) (Or.inl ⟨3, rfl, rfl, d_Mo_sign_211⟩) rfl (G_pc (pc' := 212) rfl ?_)
            refine G_bipush (n := 33) d_Mo_sign_212 (by decide) (G_pc (pc' := 214) rfl ?_)
            refine G_icmp_ne (tgt := 222) d_Mo_sign_214 (by decide) (fun h92 => ?_) (fun h92 => G_pc (pc' := 217) rfl ?_)
            · skip
              refine G_iconst (n := 0) d_Mo_sign_222 (by decide) (G_pc (pc' := 223) rfl ?_)
              refine G_istore (i := 7) (len := 2) (ls' := [(7, vi 0), (6, vi 1), (5, vi (txM M e (k + 2))), (4, vi (txM M e (k + 1))), (3, vi (txM M e k)), (0, vr 55), (1, vi e), (2, vi k)]) (Or.inr ⟨rfl, d_Mo_sign_223⟩) (by decide) rfl (G_pc (pc' := 225) rfl ?_)
              refine G_goto (tgt := 433) d_Mo_sign_225 (by decide) ?_
              refine G_ls (ls' := [(7, vi 0), (6, vi 1), (5, vi (txM M e (k + 2))), (4, vi (txM M e (k + 1))), (3, vi (txM M e k)), (0, vr 55), (1, vi e), (2, vi k)]) (by intro z hz; simp at hz ⊢; omega) ?_
              exact tail _ _ (by unfold sgT sgN; grind) (by unfold sgN; grind) (by omega)
            · skip
              refine G_bipush (n := 33) d_Mo_sign_217 (by decide) (G_pc (pc' := 219) rfl ?_)
              refine G_goto (tgt := 223) d_Mo_sign_219 (by decide) ?_
              refine G_istore (i := 7) (len := 2) (ls' := [(7, vi 33), (6, vi 1), (5, vi (txM M e (k + 2))), (4, vi (txM M e (k + 1))), (3, vi (txM M e k)), (0, vr 55), (1, vi e), (2, vi k)]) (Or.inr ⟨rfl, d_Mo_sign_223⟩) (by decide) rfl (G_pc (pc' := 225) rfl ?_)
              refine G_goto (tgt := 433) d_Mo_sign_225 (by decide) ?_
              refine G_ls (ls' := [(7, vi 33), (6, vi 1), (5, vi (txM M e (k + 2))), (4, vi (txM M e (k + 1))), (3, vi (txM M e k)), (0, vr 55), (1, vi e), (2, vi k)]) (by intro z hz; simp at hz ⊢; omega) ?_
              exact tail _ _ (by unfold sgT sgN; grind) (by unfold sgN; grind) (by omega)
          · skip
            refine G_iconst (n := 2) d_Mo_sign_182 (by decide) (G_pc (pc' := 183) rfl ?_)
            refine G_goto (tgt := 187) d_Mo_sign_183 (by decide) ?_
            refine G_istore (i := 6) (len := 2) (ls' := [(6, vi 2), (7, vi 0), (5, vi (txM M e (k + 2))), (4, vi (txM M e (k + 1))), (3, vi (txM M e k)), (0, vr 55), (1, vi e), (2, vi k)]) (Or.inr ⟨rfl, d_Mo_sign_187⟩) (by decide) rfl (G_pc (pc' := 189) rfl ?_)
            refine G_iload (i := 6) (n := 0) (len := 2) (Or.inr ⟨rfl, d_Mo_sign_189⟩) rfl (G_pc (pc' := 191) rfl ?_)
            refine G_iconst (n := 2) d_Mo_sign_191 (by decide) (G_pc (pc' := 192) rfl ?_)
            refine G_icmp_ne (tgt := 211) d_Mo_sign_192 (by decide) (fun h93 => absurd h93 (by decide)) (fun h93 => G_pc (pc' := 195) rfl ?_)
            refine G_iload (i := 3) (n := 4) (len := 1) (Or.inl ⟨3, rfl, rfl, d_Mo_sign_195⟩) rfl (G_pc (pc' := 196) rfl ?_)
            refine G_bipush (n := 61) d_Mo_sign_196 (by decide) (G_pc (pc' := 198) rfl ?_)
            refine G_icmp_ne (tgt := 206) d_Mo_sign_198 (by decide) (fun h94 => ?_) (fun h94 => G_pc (pc' := 201) rfl ?_)
            · skip
              refine G_bipush (n := 42) d_Mo_sign_206 (by decide) (G_pc (pc' := 208) rfl ?_)
              refine G_goto (tgt := 223) d_Mo_sign_208 (by decide) ?_
              refine G_istore (i := 7) (len := 2) (ls' := [(7, vi 42), (6, vi 2), (5, vi (txM M e (k + 2))), (4, vi (txM M e (k + 1))), (3, vi (txM M e k)), (0, vr 55), (1, vi e), (2, vi k)]) (Or.inr ⟨rfl, d_Mo_sign_223⟩) (by decide) rfl (G_pc (pc' := 225) rfl ?_)
              refine G_goto (tgt := 433) d_Mo_sign_225 (by decide) ?_
              refine G_ls (ls' := [(7, vi 42), (6, vi 2), (5, vi (txM M e (k + 2))), (4, vi (txM M e (k + 1))), (3, vi (txM M e k)), (0, vr 55), (1, vi e), (2, vi k)]) (by intro z hz; simp at hz ⊢; omega) ?_
              exact tail _ _ (by unfold sgT sgN; grind) (by unfold sgN; grind) (by omega)
            · skip
              refine G_bipush (n := 41) d_Mo_sign_201 (by decide) (G_pc (pc' := 203) rfl ?_)
              refine G_goto (tgt := 223) d_Mo_sign_203 (by decide) ?_
              refine G_istore (i := 7) (len := 2) (ls' := [(7, vi 41), (6, vi 2), (5, vi (txM M e (k + 2))), (4, vi (txM M e (k + 1))), (3, vi (txM M e k)), (0, vr 55), (1, vi e), (2, vi k)]) (Or.inr ⟨rfl, d_Mo_sign_223⟩) (by decide) rfl (G_pc (pc' := 225) rfl ?_)
              refine G_goto (tgt := 433) d_Mo_sign_225 (by decide) ?_
              refine G_ls (ls' := [(7, vi 41), (6, vi 2), (5, vi (txM M e (k + 2))), (4, vi (txM M e (k + 1))), (3, vi (txM M e k)), (0, vr 55), (1, vi e), (2, vi k)]) (by intro z hz; simp at hz ⊢; omega) ?_
              exact tail _ _ (by unfold sgT sgN; grind) (by unfold sgN; grind) (by omega)
    · skip
      refine G_iload (i := 3) (n := 4) (len := 1) (Or.inl ⟨3, rfl, rfl, d_Mo_sign_45⟩) rfl (G_pc (pc' := 46) rfl ?_)
      refine G_bipush (n := 62) d_Mo_sign_46 (by decide) (G_pc (pc' := 48) rfl ?_)
      refine G_icmp_ne (tgt := 69) d_Mo_sign_48 (by decide) (fun h95 => ?_) (fun h95 => G_pc (pc' := 51) rfl ?_)
      · skip
        refine G_iload (i := 4) (n := 3) (len := 2) (Or.inr ⟨rfl, d_Mo_sign_69⟩) rfl (G_pc (pc' := 71) rfl ?_)
        refine G_iload (i := 3) (n := 4) (len := 1) (Or.inl ⟨3, rfl, rfl, d_Mo_sign_71⟩) rfl (G_pc (pc' := 72) rfl ?_)
        refine G_icmp_eq (tgt := 82) d_Mo_sign_72 (by decide) (fun h96 => ?_) (fun h96 => G_pc (pc' := 75) rfl ?_)
        · skip
          refine G_iconst (n := 2) d_Mo_sign_82 (by decide) (G_pc (pc' := 83) rfl ?_)
          refine G_goto (tgt := 87) d_Mo_sign_83 (by decide) ?_
          refine G_istore (i := 6) (len := 2) (ls' := [(6, vi 2), (7, vi 0), (5, vi (txM M e (k + 2))), (4, vi (txM M e (k + 1))), (3, vi (txM M e k)), (0, vr 55), (1, vi e), (2, vi k)]) (Or.inr ⟨rfl, d_Mo_sign_87⟩) (by decide) rfl (G_pc (pc' := 89) rfl ?_)
          refine G_iload (i := 6) (n := 0) (len := 2) (Or.inr ⟨rfl, d_Mo_sign_89⟩) rfl (G_pc (pc' := 91) rfl ?_)
          refine G_iconst (n := 3) d_Mo_sign_91 (by decide) (G_pc (pc' := 92) rfl ?_)
          refine G_icmp_ne (tgt := 100) d_Mo_sign_92 (by decide) (fun h97 => ?_) (fun h97 => absurd h97 (by decide))
          refine G_iload (i := 6) (n := 0) (len := 2) (Or.inr ⟨rfl, d_Mo_sign_100⟩) rfl (G_pc (pc' := 102) rfl ?_)
          refine G_iconst (n := 1) d_Mo_sign_102 (by decide) (G_pc (pc' := 103) rfl ?_)
          refine G_icmp_ne (tgt := 122) d_Mo_sign_103 (by decide) (fun h98 => ?_) (fun h98 => absurd h98 (by decide))
          refine G_iload (i := 4) (n := 3) (len := 2) (Or.inr ⟨rfl, d_Mo_sign_122⟩) rfl (G_pc (pc' := 124) rfl ?_)
          refine G_bipush (n := 61) d_Mo_sign_124 (by decide) (G_pc (pc' := 126) rfl ?_)
          refine G_icmp_ne (tgt := 145) d_Mo_sign_126 (by decide) (fun h99 => ?_) (fun h99 => G_pc (pc' := 129) rfl ?_)
          · skip
            refine G_iload (i := 3) (n := 4) (len := 1) (Or.inl ⟨3, rfl, rfl, d_Mo_sign_145⟩) rfl (G_pc (pc' := 146) rfl ?_)
            refine G_bipush (n := 60) d_Mo_sign_146 (by decide) (G_pc (pc' := 148) rfl ?_)
            refine G_icmp_ne (tgt := 156) d_Mo_sign_148 (by decide) (fun h100 => ?_) (fun h100 => G_pc (pc' := 151) rfl ?_)
            · skip
              refine G_bipush (n := 39) d_Mo_sign_156 (by decide) (G_pc (pc' := 158) rfl ?_)
              refine G_istore (i := 7) (len := 2) (ls' := [(7, vi 39), (6, vi 2), (5, vi (txM M e (k + 2))), (4, vi (txM M e (k + 1))), (3, vi (txM M e k)), (0, vr 55), (1, vi e), (2, vi k)]) (Or.inr ⟨rfl, d_Mo_sign_158⟩) (by decide) rfl (G_pc (pc' := 160) rfl ?_)
              refine G_goto (tgt := 433) d_Mo_sign_160 (by decide) ?_
              refine G_ls (ls' := [(7, vi 39), (6, vi 2), (5, vi (txM M e (k + 2))), (4, vi (txM M e (k + 1))), (3, vi (txM M e k)), (0, vr 55), (1, vi e), (2, vi k)]) (by intro z hz; simp at hz ⊢; omega) ?_
              exact tail _ _ (by unfold sgT sgN; grind) (by unfold sgN; grind) (by omega)
            · skip
              refine G_bipush (n := 38) d_Mo_sign_151 (by decide) (G_pc (pc' := 153) rfl ?_)
              refine G_goto (tgt := 158) d_Mo_sign_153 (by decide) ?_
              refine G_istore (i := 7) (len := 2) (ls' := [(7, vi 38), (6, vi 2), (5, vi (txM M e (k + 2))), (4, vi (txM M e (k + 1))), (3, vi (txM M e k)), (0, vr 55), (1, vi e), (2, vi k)]) (Or.inr ⟨rfl, d_Mo_sign_158⟩) (by decide) rfl (G_pc (pc' := 160) rfl ?_)
              refine G_goto (tgt := 433) d_Mo_sign_160 (by decide) ?_
              refine G_ls (ls' := [(7, vi 38), (6, vi 2), (5, vi (txM M e (k + 2))), (4, vi (txM M e (k + 1))), (3, vi (txM M e k)), (0, vr 55), (1, vi e), (2, vi k)]) (by intro z hz; simp at hz ⊢; omega) ?_
              exact tail _ _ (by unfold sgT sgN; grind) (by unfold sgN; grind) (by omega)
          · skip
            refine G_iload (i := 3) (n := 4) (len := 1) (Or.inl ⟨3, rfl, rfl, d_Mo_sign_129⟩) rfl (G_pc (pc' := 130) rfl ?_)
            refine G_bipush (n := 60) d_Mo_sign_130 (by decide) (G_pc (pc' := 132) rfl ?_)
            refine G_icmp_ne (tgt := 140) d_Mo_sign_132 (by decide) (fun h101 => ?_) (fun h101 => G_pc (pc' := 135) rfl ?_)
            · skip
              refine G_bipush (n := 37) d_Mo_sign_140 (by decide) (G_pc (pc' := 142) rfl ?_)
              refine G_goto (tgt := 158) d_Mo_sign_142 (by decide) ?_
              refine G_istore (i := 7) (len := 2) (ls' := [(7, vi 37), (6, vi 2), (5, vi (txM M e (k + 2))), (4, vi (txM M e (k + 1))), (3, vi (txM M e k)), (0, vr 55), (1, vi e), (2, vi k)]) (Or.inr ⟨rfl, d_Mo_sign_158⟩) (by decide) rfl (G_pc (pc' := 160) rfl ?_)
              refine G_goto (tgt := 433) d_Mo_sign_160 (by decide) ?_
              refine G_ls (ls' := [(7, vi 37), (6, vi 2), (5, vi (txM M e (k + 2))), (4, vi (txM M e (k + 1))), (3, vi (txM M e k)), (0, vr 55), (1, vi e), (2, vi k)]) (by intro z hz; simp at hz ⊢; omega) ?_
              exact tail _ _ (by unfold sgT sgN; grind) (by unfold sgN; grind) (by omega)
            · skip
              refine G_bipush (n := 35) d_Mo_sign_135 (by decide) (G_pc (pc' := 137) rfl ?_)
              refine G_goto (tgt := 158) d_Mo_sign_137 (by decide) ?_
              refine G_istore (i := 7) (len := 2) (ls' := [(7, vi 35), (6, vi 2), (5, vi (txM M e (k + 2))), (4, vi (txM M e (k + 1))), (3, vi (txM M e k)), (0, vr 55), (1, vi e), (2, vi k)]) (Or.inr ⟨rfl, d_Mo_sign_158⟩) (by decide) rfl (G_pc (pc' := 160) rfl ?_)
              refine G_goto (tgt := 433) d_Mo_sign_160 (by decide) ?_
              refine G_ls (ls' := [(7, vi 35), (6, vi 2), (5, vi (txM M e (k + 2))), (4, vi (txM M e (k + 1))), (3, vi (txM M e k)), (0, vr 55), (1, vi e), (2, vi k)]) (by intro z hz; simp at hz ⊢; omega) ?_
              exact tail _ _ (by unfold sgT sgN; grind) (by unfold sgN; grind) (by omega)
        · skip
          refine G_iload (i := 4) (n := 3) (len := 2) (Or.inr ⟨rfl, d_Mo_sign_75⟩) rfl (G_pc (pc' := 77) rfl ?_)
          refine G_bipush (n := 61) d_Mo_sign_77 (by decide) (G_pc (pc' := 79) rfl ?_)
          refine G_icmp_ne (tgt := 86) d_Mo_sign_79 (by decide) (fun h102 => ?_) (fun h102 => G_pc (pc' := 82) rfl ?_)
          · skip
            refine G_iconst (n := 1) d_Mo_sign_86 (by decide) (G_pc (pc' := 87) rfl ?_)
            refine G_istore (i := 6) (len := 2) (ls' := [(6, vi 1), (7, vi 0), (5, vi (txM M e (k + 2))), (4, vi (txM M e (k + 1))), (3, vi (txM M e k)), (0, vr 55), (1, vi e), (2, vi k)]) (Or.inr ⟨rfl, d_Mo_sign_87⟩) (by decide) rfl (G_pc (pc' := 89) rfl ?_)
            refine G_iload (i := 6) (n := 0) (len := 2) (Or.inr ⟨rfl, d_Mo_sign_89⟩) rfl (G_pc (pc' := 91) rfl ?_)
            refine G_iconst (n := 3) d_Mo_sign_91 (by decide) (G_pc (pc' := 92) rfl ?_)
            refine G_icmp_ne (tgt := 100) d_Mo_sign_92 (by decide) (fun h103 => ?_) (fun h103 => absurd h103 (by decide))
            refine G_iload (i := 6) (n := 0) (len := 2) (Or.inr ⟨rfl, d_Mo_sign_100⟩) rfl (G_pc (pc' := 102) rfl ?_)
            refine G_iconst (n := 1) d_Mo_sign_102 (by decide) (G_pc (pc' := 103) rfl ?_)
            refine G_icmp_ne (tgt := 122) d_Mo_sign_103 (by decide) (fun h104 => absurd h104 (by decide)) (fun h104 => G_pc (pc' := 106) rfl ?_)
            refine G_iload (i := 3) (n := 4) (len := 1) (Or.inl ⟨3, rfl, rfl, d_Mo_sign_106⟩) rfl (G_pc (pc' := 107) rfl ?_)
            refine G_bipush (n := 60) d_Mo_sign_107 (by decide) (G_pc (pc' := 109) rfl ?_)
            refine G_icmp_ne (tgt := 117) d_Mo_sign_109 (by decide) (fun h105 => ?_) (fun h105 => G_pc (pc' := 112) rfl ?_)
            · skip
              refine G_bipush (n := 36) d_Mo_sign_117 (by decide) (G_pc (pc' := 119) rfl ?_)
              refine G_goto (tgt := 158) d_Mo_sign_119 (by decide) ?_
              refine G_istore (i := 7) (len := 2) (ls' := [(7, vi 36), (6, vi 1), (5, vi (txM M e (k + 2))), (4, vi (txM M e (k + 1))), (3, vi (txM M e k)), (0, vr 55), (1, vi e), (2, vi k)]) (Or.inr ⟨rfl, d_Mo_sign_158⟩) (by decide) rfl (G_pc (pc' := 160) rfl ?_)
              refine G_goto (tgt := 433) d_Mo_sign_160 (by decide) ?_
              refine G_ls (ls' := [(7, vi 36), (6, vi 1), (5, vi (txM M e (k + 2))), (4, vi (txM M e (k + 1))), (3, vi (txM M e k)), (0, vr 55), (1, vi e), (2, vi k)]) (by intro z hz; simp at hz ⊢; omega) ?_
              exact tail _ _ (by unfold sgT sgN; grind) (by unfold sgN; grind) (by omega)
            · skip
              refine G_bipush (n := 34) d_Mo_sign_112 (by decide) (G_pc (pc' := 114) rfl ?_)
              refine G_goto (tgt := 158) d_Mo_sign_114 (by decide) ?_
              refine G_istore (i := 7) (len := 2) (ls' := [(7, vi 34), (6, vi 1), (5, vi (txM M e (k + 2))), (4, vi (txM M e (k + 1))), (3, vi (txM M e k)), (0, vr 55), (1, vi e), (2, vi k)]) (Or.inr ⟨rfl, d_Mo_sign_158⟩) (by decide) rfl (G_pc (pc' := 160) rfl ?_)
              refine G_goto (tgt := 433) d_Mo_sign_160 (by decide) ?_
              refine G_ls (ls' := [(7, vi 34), (6, vi 1), (5, vi (txM M e (k + 2))), (4, vi (txM M e (k + 1))), (3, vi (txM M e k)), (0, vr 55), (1, vi e), (2, vi k)]) (by intro z hz; simp at hz ⊢; omega) ?_
              exact tail _ _ (by unfold sgT sgN; grind) (by unfold sgN; grind) (by omega)
          · skip
            refine G_iconst (n := 2) d_Mo_sign_82 (by decide) (G_pc (pc' := 83) rfl ?_)
            refine G_goto (tgt := 87) d_Mo_sign_83 (by decide) ?_
            refine G_istore (i := 6) (len := 2) (ls' := [(6, vi 2), (7, vi 0), (5, vi (txM M e (k + 2))), (4, vi (txM M e (k + 1))), (3, vi (txM M e k)), (0, vr 55), (1, vi e), (2, vi k)]) (Or.inr ⟨rfl, d_Mo_sign_87⟩) (by decide) rfl (G_pc (pc' := 89) rfl ?_)
            refine G_iload (i := 6) (n := 0) (len := 2) (Or.inr ⟨rfl, d_Mo_sign_89⟩) rfl (G_pc (pc' := 91) rfl ?_)
            refine G_iconst (n := 3) d_Mo_sign_91 (by decide) (G_pc (pc' := 92) rfl ?_)
            refine G_icmp_ne (tgt := 100) d_Mo_sign_92 (by decide) (fun h106 => ?_) (fun h106 => absurd h106 (by decide))
            refine G_iload (i := 6) (n := 0) (len := 2) (Or.inr ⟨rfl, d_Mo_sign_100⟩) rfl (G_pc (pc' := 102) rfl ?_)
            refine G_iconst (n := 1) d_Mo_sign_102 (by decide) (G_pc (pc' := 103) rfl ?_)
            refine G_icmp_ne (tgt := 122) d_Mo_sign_103 (by decide) (fun h107 => ?_) (fun h107 => absurd h107 (by decide))
            refine G_iload (i := 4) (n := 3) (len := 2) (Or.inr ⟨rfl, d_Mo_sign_122⟩) rfl (G_pc (pc' := 124) rfl ?_)
            refine G_bipush (n := 61) d_Mo_sign_124 (by decide) (G_pc (pc' := 126) rfl ?_)
            refine G_icmp_ne (tgt := 145) d_Mo_sign_126 (by decide) (fun h108 => ?_) (fun h108 => G_pc (pc' := 129) rfl ?_)
            · skip
              refine G_iload (i := 3) (n := 4) (len := 1) (Or.inl ⟨3, rfl, rfl, d_Mo_sign_145⟩) rfl (G_pc (pc' := 146) rfl ?_)
              refine G_bipush (n := 60) d_Mo_sign_146 (by decide) (G_pc (pc' := 148) rfl ?_)
              refine G_icmp_ne (tgt := 156) d_Mo_sign_148 (by decide) (fun h109 => ?_) (fun h109 => G_pc (pc' := 151) rfl ?_)
              · skip
                refine G_bipush (n := 39) d_Mo_sign_156 (by decide) (G_pc (pc' := 158) rfl ?_)
                refine G_istore (i := 7) (len := 2) (ls' := [(7, vi 39), (6, vi 2), (5, vi (txM M e (k + 2))), (4, vi (txM M e (k + 1))), (3, vi (txM M e k)), (0, vr 55), (1, vi e), (2, vi k)]) (Or.inr ⟨rfl, d_Mo_sign_158⟩) (by decide) rfl (G_pc (pc' := 160) rfl ?_)
                refine G_goto (tgt := 433) d_Mo_sign_160 (by decide) ?_
                refine G_ls (ls' := [(7, vi 39), (6, vi 2), (5, vi (txM M e (k + 2))), (4, vi (txM M e (k + 1))), (3, vi (txM M e k)), (0, vr 55), (1, vi e), (2, vi k)]) (by intro z hz; simp at hz ⊢; omega) ?_
                exact tail _ _ (by unfold sgT sgN; grind) (by unfold sgN; grind) (by omega)
              · skip
                refine G_bipush (n := 38) d_Mo_sign_151 (by decide) (G_pc (pc' := 153) rfl ?_)
                refine G_goto (tgt := 158) d_Mo_sign_153 (by decide) ?_
                refine G_istore (i := 7) (len := 2) (ls' := [(7, vi 38), (6, vi 2), (5, vi (txM M e (k + 2))), (4, vi (txM M e (k + 1))), (3, vi (txM M e k)), (0, vr 55), (1, vi e), (2, vi k)]) (Or.inr ⟨rfl, d_Mo_sign_158⟩) (by decide) rfl (G_pc (pc' := 160) rfl ?_)
                refine G_goto (tgt := 433) d_Mo_sign_160 (by decide) ?_
                refine G_ls (ls' := [(7, vi 38), (6, vi 2), (5, vi (txM M e (k + 2))), (4, vi (txM M e (k + 1))), (3, vi (txM M e k)), (0, vr 55), (1, vi e), (2, vi k)]) (by intro z hz; simp at hz ⊢; omega) ?_
                exact tail _ _ (by unfold sgT sgN; grind) (by unfold sgN; grind) (by omega)
            · skip
              refine G_iload (i := 3) (n := 4) (len := 1) (Or.inl ⟨3, rfl, rfl, d_Mo_sign_129⟩) rfl (G_pc (pc' := 130) rfl ?_)
              refine G_bipush (n := 60) d_Mo_sign_130 (by decide) (G_pc (pc' := 132) rfl ?_)
              refine G_icmp_ne (tgt := 140) d_Mo_sign_132 (by decide) (fun h110 => ?_) (fun h110 => G_pc (pc' := 135) rfl ?_)
              · skip
                refine G_bipush (n := 37) d_Mo_sign_140 (by decide) (G_pc (pc' := 142) rfl ?_)
                refine G_goto (tgt := 158) d_Mo_sign_142 (by decide) ?_
                refine G_istore (i := 7) (len := 2) (ls' := [(7, vi 37), (6, vi 2), (5, vi (txM M e (k + 2))), (4, vi (txM M e (k + 1))), (3, vi (txM M e k)), (0, vr 55), (1, vi e), (2, vi k)]) (Or.inr ⟨rfl, d_Mo_sign_158⟩) (by decide) rfl (G_pc (pc' := 160) rfl ?_)
                refine G_goto (tgt := 433) d_Mo_sign_160 (by decide) ?_
                refine G_ls (ls' := [(7, vi 37), (6, vi 2), (5, vi (txM M e (k + 2))), (4, vi (txM M e (k + 1))), (3, vi (txM M e k)), (0, vr 55), (1, vi e), (2, vi k)]) (by intro z hz; simp at hz ⊢; omega) ?_
                exact tail _ _ (by unfold sgT sgN; grind) (by unfold sgN; grind) (by omega)
              · skip
                refine G_bipush (n := 35) d_Mo_sign_135 (by decide) (G_pc (pc' := 137) rfl ?_)
                refine G_goto (tgt := 158) d_Mo_sign_137 (by decide) ?_
                refine G_istore (i := 7) (len := 2) (ls' := [(7, vi 35), (6, vi 2), (5, vi (txM M e (k + 2))), (4, vi (txM M e (k + 1))), (3, vi (txM M e k)), (0, vr 55), (1, vi e), (2, vi k)]) (Or.inr ⟨rfl, d_Mo_sign_158⟩) (by decide) rfl (G_pc (pc' := 160) rfl ?_)
                refine G_goto (tgt := 433) d_Mo_sign_160 (by decide) ?_
                refine G_ls (ls' := [(7, vi 35), (6, vi 2), (5, vi (txM M e (k + 2))), (4, vi (txM M e (k + 1))), (3, vi (txM M e k)), (0, vr 55), (1, vi e), (2, vi k)]) (by intro z hz; simp at hz ⊢; omega) ?_
                exact tail _ _ (by unfold sgT sgN; grind) (by unfold sgN; grind) (by omega)
      · skip
        refine G_iload (i := 4) (n := 3) (len := 2) (Or.inr ⟨rfl, d_Mo_sign_51⟩) rfl (G_pc (pc' := 53) rfl ?_)
        refine G_bipush (n := 62) d_Mo_sign_53 (by decide) (G_pc (pc' := 55) rfl ?_)
        refine G_icmp_ne (tgt := 69) d_Mo_sign_55 (by decide) (fun h111 => ?_) (fun h111 => G_pc (pc' := 58) rfl ?_)
        · skip
          refine G_iload (i := 4) (n := 3) (len := 2) (Or.inr ⟨rfl, d_Mo_sign_69⟩) rfl (G_pc (pc' := 71) rfl ?_)
          refine G_iload (i := 3) (n := 4) (len := 1) (Or.inl ⟨3, rfl, rfl, d_Mo_sign_71⟩) rfl (G_pc (pc' := 72) rfl ?_)
          refine G_icmp_eq (tgt := 82) d_Mo_sign_72 (by decide) (fun h112 => ?_) (fun h112 => G_pc (pc' := 75) rfl ?_)
          · skip
            refine G_iconst (n := 2) d_Mo_sign_82 (by decide) (G_pc (pc' := 83) rfl ?_)
            refine G_goto (tgt := 87) d_Mo_sign_83 (by decide) ?_
            refine G_istore (i := 6) (len := 2) (ls' := [(6, vi 2), (7, vi 0), (5, vi (txM M e (k + 2))), (4, vi (txM M e (k + 1))), (3, vi (txM M e k)), (0, vr 55), (1, vi e), (2, vi k)]) (Or.inr ⟨rfl, d_Mo_sign_87⟩) (by decide) rfl (G_pc (pc' := 89) rfl ?_)
            refine G_iload (i := 6) (n := 0) (len := 2) (Or.inr ⟨rfl, d_Mo_sign_89⟩) rfl (G_pc (pc' := 91) rfl ?_)
            refine G_iconst (n := 3) d_Mo_sign_91 (by decide) (G_pc (pc' := 92) rfl ?_)
            refine G_icmp_ne (tgt := 100) d_Mo_sign_92 (by decide) (fun h113 => ?_) (fun h113 => absurd h113 (by decide))
            refine G_iload (i := 6) (n := 0) (len := 2) (Or.inr ⟨rfl, d_Mo_sign_100⟩) rfl (G_pc (pc' := 102) rfl ?_)
            refine G_iconst (n := 1) d_Mo_sign_102 (by decide) (G_pc (pc' := 103) rfl ?_)
            refine G_icmp_ne (tgt := 122) d_Mo_sign_103 (by decide) (fun h114 => ?_) (fun h114 => absurd h114 (by decide))
            refine G_iload (i := 4) (n := 3) (len := 2) (Or.inr ⟨rfl, d_Mo_sign_122⟩) rfl (G_pc (pc' := 124) rfl ?_)
            refine G_bipush (n := 61) d_Mo_sign_124 (by decide) (G_pc (pc' := 126) rfl ?_)
            refine G_icmp_ne (tgt := 145) d_Mo_sign_126 (by decide) (fun h115 => ?_) (fun h115 => G_pc (pc' := 129) rfl ?_)
            · skip
              refine G_iload (i := 3) (n := 4) (len := 1) (Or.inl ⟨3, rfl, rfl, d_Mo_sign_145⟩) rfl (G_pc (pc' := 146) rfl ?_)
              refine G_bipush (n := 60) d_Mo_sign_146 (by decide) (G_pc (pc' := 148) rfl ?_)
              refine G_icmp_ne (tgt := 156) d_Mo_sign_148 (by decide) (fun h116 => ?_) (fun h116 => G_pc (pc' := 151) rfl ?_)
              · skip
                refine G_bipush (n := 39) d_Mo_sign_156 (by decide) (G_pc (pc' := 158) rfl ?_)
                refine G_istore (i := 7) (len := 2) (ls' := [(7, vi 39), (6, vi 2), (5, vi (txM M e (k + 2))), (4, vi (txM M e (k + 1))), (3, vi (txM M e k)), (0, vr 55), (1, vi e), (2, vi k)]) (Or.inr ⟨rfl, d_Mo_sign_158⟩) (by decide) rfl (G_pc (pc' := 160) rfl ?_)
                refine G_goto (tgt := 433) d_Mo_sign_160 (by decide) ?_
                refine G_ls (ls' := [(7, vi 39), (6, vi 2), (5, vi (txM M e (k + 2))), (4, vi (txM M e (k + 1))), (3, vi (txM M e k)), (0, vr 55), (1, vi e), (2, vi k)]) (by intro z hz; simp at hz ⊢; omega) ?_
                exact tail _ _ (by unfold sgT sgN; grind) (by unfold sgN; grind) (by omega)
              · skip
                refine G_bipush (n := 38) d_Mo_sign_151 (by decide) (G_pc (pc' := 153) rfl ?_)
                refine G_goto (tgt := 158) d_Mo_sign_153 (by decide) ?_
                refine G_istore (i := 7) (len := 2) (ls' := [(7, vi 38), (6, vi 2), (5, vi (txM M e (k + 2))), (4, vi (txM M e (k + 1))), (3, vi (txM M e k)), (0, vr 55), (1, vi e), (2, vi k)]) (Or.inr ⟨rfl, d_Mo_sign_158⟩) (by decide) rfl (G_pc (pc' := 160) rfl ?_)
                refine G_goto (tgt := 433) d_Mo_sign_160 (by decide) ?_
                refine G_ls (ls' := [(7, vi 38), (6, vi 2), (5, vi (txM M e (k + 2))), (4, vi (txM M e (k + 1))), (3, vi (txM M e k)), (0, vr 55), (1, vi e), (2, vi k)]) (by intro z hz; simp at hz ⊢; omega) ?_
                exact tail _ _ (by unfold sgT sgN; grind) (by unfold sgN; grind) (by omega)
            · skip
              refine G_iload (i := 3) (n := 4) (len := 1) (Or.inl ⟨3, rfl, rfl, d_Mo_sign_129⟩) rfl (G_pc (pc' := 130) rfl ?_)
              refine G_bipush (n := 60) d_Mo_sign_130 (by decide) (G_pc (pc' := 132) rfl ?_)
              refine G_icmp_ne (tgt := 140) d_Mo_sign_132 (by decide) (fun h117 => ?_) (fun h117 => G_pc (pc' := 135) rfl ?_)
              · skip
                refine G_bipush (n := 37) d_Mo_sign_140 (by decide) (G_pc (pc' := 142) rfl ?_)
                refine G_goto (tgt := 158) d_Mo_sign_142 (by decide) ?_
                refine G_istore (i := 7) (len := 2) (ls' := [(7, vi 37), (6, vi 2), (5, vi (txM M e (k + 2))), (4, vi (txM M e (k + 1))), (3, vi (txM M e k)), (0, vr 55), (1, vi e), (2, vi k)]) (Or.inr ⟨rfl, d_Mo_sign_158⟩) (by decide) rfl (G_pc (pc' := 160) rfl ?_)
                refine G_goto (tgt := 433) d_Mo_sign_160 (by decide) ?_
                refine G_ls (ls' := [(7, vi 37), (6, vi 2), (5, vi (txM M e (k + 2))), (4, vi (txM M e (k + 1))), (3, vi (txM M e k)), (0, vr 55), (1, vi e), (2, vi k)]) (by intro z hz; simp at hz ⊢; omega) ?_
                exact tail _ _ (by unfold sgT sgN; grind) (by unfold sgN; grind) (by omega)
              · skip
                refine G_bipush (n := 35) d_Mo_sign_135 (by decide) (G_pc (pc' := 137) rfl ?_)
                refine G_goto (tgt := 158) d_Mo_sign_137 (by decide) ?_
                refine G_istore (i := 7) (len := 2) (ls' := [(7, vi 35), (6, vi 2), (5, vi (txM M e (k + 2))), (4, vi (txM M e (k + 1))), (3, vi (txM M e k)), (0, vr 55), (1, vi e), (2, vi k)]) (Or.inr ⟨rfl, d_Mo_sign_158⟩) (by decide) rfl (G_pc (pc' := 160) rfl ?_)
                refine G_goto (tgt := 433) d_Mo_sign_160 (by decide) ?_
                refine G_ls (ls' := [(7, vi 35), (6, vi 2), (5, vi (txM M e (k + 2))), (4, vi (txM M e (k + 1))), (3, vi (txM M e k)), (0, vr 55), (1, vi e), (2, vi k)]) (by intro z hz; simp at hz ⊢; omega) ?_
                exact tail _ _ (by unfold sgT sgN; grind) (by unfold sgN; grind) (by omega)
          · skip
            refine G_iload (i := 4) (n := 3) (len := 2) (Or.inr ⟨rfl, d_Mo_sign_75⟩) rfl (G_pc (pc' := 77) rfl ?_)
            refine G_bipush (n := 61) d_Mo_sign_77 (by decide) (G_pc (pc' := 79) rfl ?_)
            refine G_icmp_ne (tgt := 86) d_Mo_sign_79 (by decide) (fun h118 => ?_) (fun h118 => G_pc (pc' := 82) rfl ?_)
            · skip
              refine G_iconst (n := 1) d_Mo_sign_86 (by decide) (G_pc (pc' := 87) rfl ?_)
              refine G_istore (i := 6) (len := 2) (ls' := [(6, vi 1), (7, vi 0), (5, vi (txM M e (k + 2))), (4, vi (txM M e (k + 1))), (3, vi (txM M e k)), (0, vr 55), (1, vi e), (2, vi k)]) (Or.inr ⟨rfl, d_Mo_sign_87⟩) (by decide) rfl (G_pc (pc' := 89) rfl ?_)
              refine G_iload (i := 6) (n := 0) (len := 2) (Or.inr ⟨rfl, d_Mo_sign_89⟩) rfl (G_pc (pc' := 91) rfl ?_)
              refine G_iconst (n := 3) d_Mo_sign_91 (by decide) (G_pc (pc' := 92) rfl ?_)
              refine G_icmp_ne (tgt := 100) d_Mo_sign_92 (by decide) (fun h119 => ?_) (fun h119 => absurd h119 (by decide))
              refine G_iload (i := 6) (n := 0) (len := 2) (Or.inr ⟨rfl, d_Mo_sign_100⟩) rfl (G_pc (pc' := 102) rfl ?_)
              refine G_iconst (n := 1) d_Mo_sign_102 (by decide) (G_pc (pc' := 103) rfl ?_)
              refine G_icmp_ne (tgt := 122) d_Mo_sign_103 (by decide) (fun h120 => absurd h120 (by decide)) (fun h120 => G_pc (pc' := 106) rfl ?_)
              refine G_iload (i := 3) (n := 4) (len := 1) (Or.inl ⟨3, rfl, rfl, d_Mo_sign_106⟩) rfl (G_pc (pc' := 107) rfl ?_)
              refine G_bipush (n := 60) d_Mo_sign_107 (by decide) (G_pc (pc' := 109) rfl ?_)
              refine G_icmp_ne (tgt := 117) d_Mo_sign_109 (by decide) (fun h121 => ?_) (fun h121 => G_pc (pc' := 112) rfl ?_)
              · skip
                refine G_bipush (n := 36) d_Mo_sign_117 (by decide) (G_pc (pc' := 119) rfl ?_)
                refine G_goto (tgt := 158) d_Mo_sign_119 (by decide) ?_
                refine G_istore (i := 7) (len := 2) (ls' := [(7, vi 36), (6, vi 1), (5, vi (txM M e (k + 2))), (4, vi (txM M e (k + 1))), (3, vi (txM M e k)), (0, vr 55), (1, vi e), (2, vi k)]) (Or.inr ⟨rfl, d_Mo_sign_158⟩) (by decide) rfl (G_pc (pc' := 160) rfl ?_)
                refine G_goto (tgt := 433) d_Mo_sign_160 (by decide) ?_
                refine G_ls (ls' := [(7, vi 36), (6, vi 1), (5, vi (txM M e (k + 2))), (4, vi (txM M e (k + 1))), (3, vi (txM M e k)), (0, vr 55), (1, vi e), (2, vi k)]) (by intro z hz; simp at hz ⊢; omega) ?_
                exact tail _ _ (by unfold sgT sgN; grind) (by unfold sgN; grind) (by omega)
              · skip
                refine G_bipush (n := 34) d_Mo_sign_112 (by decide) (G_pc (pc' := 114) rfl ?_)
                refine G_goto (tgt := 158) d_Mo_sign_114 (by decide) ?_
                refine G_istore (i := 7) (len := 2) (ls' := [(7, vi 34), (6, vi 1), (5, vi (txM M e (k + 2))), (4, vi (txM M e (k + 1))), (3, vi (txM M e k)), (0, vr 55), (1, vi e), (2, vi k)]) (Or.inr ⟨rfl, d_Mo_sign_158⟩) (by decide) rfl (G_pc (pc' := 160) rfl ?_)
                refine G_goto (tgt := 433) d_Mo_sign_160 (by decide) ?_
                refine G_ls (ls' := [(7, vi 34), (6, vi 1), (5, vi (txM M e (k + 2))), (4, vi (txM M e (k + 1))), (3, vi (txM M e k)), (0, vr 55), (1, vi e), (2, vi k)]) (by intro z hz; simp at hz ⊢; omega) ?_
                exact tail _ _ (by unfold sgT sgN; grind) (by unfold sgN; grind) (by omega)
            · skip
              refine G_iconst (n := 2) d_Mo_sign_82 (by decide) (G_pc (pc' := 83) rfl ?_)
              refine G_goto (tgt := 87) d_Mo_sign_83 (by decide) ?_
              refine G_istore (i := 6) (len := 2) (ls' := [(6, vi 2), (7, vi 0), (5, vi (txM M e (k + 2))), (4, vi (txM M e (k + 1))), (3, vi (txM M e k)), (0, vr 55), (1, vi e), (2, vi k)]) (Or.inr ⟨rfl, d_Mo_sign_87⟩) (by decide) rfl (G_pc (pc' := 89) rfl ?_)
              refine G_iload (i := 6) (n := 0) (len := 2) (Or.inr ⟨rfl, d_Mo_sign_89⟩) rfl (G_pc (pc' := 91) rfl ?_)
              refine G_iconst (n := 3) d_Mo_sign_91 (by decide) (G_pc (pc' := 92) rfl ?_)
              refine G_icmp_ne (tgt := 100) d_Mo_sign_92 (by decide) (fun h122 => ?_) (fun h122 => absurd h122 (by decide))
              refine G_iload (i := 6) (n := 0) (len := 2) (Or.inr ⟨rfl, d_Mo_sign_100⟩) rfl (G_pc (pc' := 102) rfl ?_)
              refine G_iconst (n := 1) d_Mo_sign_102 (by decide) (G_pc (pc' := 103) rfl ?_)
              refine G_icmp_ne (tgt := 122) d_Mo_sign_103 (by decide) (fun h123 => ?_) (fun h123 => absurd h123 (by decide))
              refine G_iload (i := 4) (n := 3) (len := 2) (Or.inr ⟨rfl, d_Mo_sign_122⟩) rfl (G_pc (pc' := 124) rfl ?_)
              refine G_bipush (n := 61) d_Mo_sign_124 (by decide) (G_pc (pc' := 126) rfl ?_)
              refine G_icmp_ne (tgt := 145) d_Mo_sign_126 (by decide) (fun h124 => ?_) (fun h124 => G_pc (pc' := 129) rfl ?_)
              · skip
                refine G_iload (i := 3) (n := 4) (len := 1) (Or.inl ⟨3, rfl, rfl, d_Mo_sign_145⟩) rfl (G_pc (pc' := 146) rfl ?_)
                refine G_bipush (n := 60) d_Mo_sign_146 (by decide) (G_pc (pc' := 148) rfl ?_)
                refine G_icmp_ne (tgt := 156) d_Mo_sign_148 (by decide) (fun h125 => ?_) (fun h125 => G_pc (pc' := 151) rfl ?_)
                · skip
                  refine G_bipush (n := 39) d_Mo_sign_156 (by decide) (G_pc (pc' := 158) rfl ?_)
                  refine G_istore (i := 7) (len := 2) (ls' := [(7, vi 39), (6, vi 2), (5, vi (txM M e (k + 2))), (4, vi (txM M e (k + 1))), (3, vi (txM M e k)), (0, vr 55), (1, vi e), (2, vi k)]) (Or.inr ⟨rfl, d_Mo_sign_158⟩) (by decide) rfl (G_pc (pc' := 160) rfl ?_)
                  refine G_goto (tgt := 433) d_Mo_sign_160 (by decide) ?_
                  refine G_ls (ls' := [(7, vi 39), (6, vi 2), (5, vi (txM M e (k + 2))), (4, vi (txM M e (k + 1))), (3, vi (txM M e k)), (0, vr 55), (1, vi e), (2, vi k)]) (by intro z hz; simp at hz ⊢; omega) ?_
                  exact tail _ _ (by unfold sgT sgN; grind) (by unfold sgN; grind) (by omega)
                · skip
                  refine G_bipush (n := 38) d_Mo_sign_151 (by decide) (G_pc (pc' := 153) rfl ?_)
                  refine G_goto (tgt := 158) d_Mo_sign_153 (by decide) ?_
                  refine G_istore (i := 7) (len := 2) (ls' := [(7, vi 38), (6, vi 2), (5, vi (txM M e (k + 2))), (4, vi (txM M e (k + 1))), (3, vi (txM M e k)), (0, vr 55), (1, vi e), (2, vi k)]) (Or.inr ⟨rfl, d_Mo_sign_158⟩) (by decide) rfl (G_pc (pc' := 160) rfl ?_)
                  refine G_goto (tgt := 433) d_Mo_sign_160 (by decide) ?_
                  refine G_ls (ls' := [(7, vi 38), (6, vi 2), (5, vi (txM M e (k + 2))), (4, vi (txM M e (k + 1))), (3, vi (txM M e k)), (0, vr 55), (1, vi e), (2, vi k)]) (by intro z hz; simp at hz ⊢; omega) ?_
                  exact tail _ _ (by unfold sgT sgN; grind) (by unfold sgN; grind) (by omega)
              · skip
                refine G_iload (i := 3) (n := 4) (len := 1) (Or.inl ⟨3, rfl, rfl, d_Mo_sign_129⟩) rfl (G_pc (pc' := 130) rfl ?_)
                refine G_bipush (n := 60) d_Mo_sign_130 (by decide) (G_pc (pc' := 132) rfl ?_)
                refine G_icmp_ne (tgt := 140) d_Mo_sign_132 (by decide) (fun h126 => ?_) (fun h126 => G_pc (pc' := 135) rfl ?_)
                · skip
                  refine G_bipush (n := 37) d_Mo_sign_140 (by decide) (G_pc (pc' := 142) rfl ?_)
                  refine G_goto (tgt := 158) d_Mo_sign_142 (by decide) ?_
                  refine G_istore (i := 7) (len := 2) (ls' := [(7, vi 37), (6, vi 2), (5, vi (txM M e (k + 2))), (4, vi (txM M e (k + 1))), (3, vi (txM M e k)), (0, vr 55), (1, vi e), (2, vi k)]) (Or.inr ⟨rfl, d_Mo_sign_158⟩) (by decide) rfl (G_pc (pc' := 160) rfl ?_)
                  refine G_goto (tgt := 433) d_Mo_sign_160 (by decide) ?_
                  refine G_ls (ls' := [(7, vi 37), (6, vi 2), (5, vi (txM M e (k + 2))), (4, vi (txM M e (k + 1))), (3, vi (txM M e k)), (0, vr 55), (1, vi e), (2, vi k)]) (by intro z hz; simp at hz ⊢; omega) ?_
                  exact tail _ _ (by unfold sgT sgN; grind) (by unfold sgN; grind) (by omega)
                · skip
                  refine G_bipush (n := 35) d_Mo_sign_135 (by decide) (G_pc (pc' := 137) rfl ?_)
                  refine G_goto (tgt := 158) d_Mo_sign_137 (by decide) ?_
                  refine G_istore (i := 7) (len := 2) (ls' := [(7, vi 35), (6, vi 2), (5, vi (txM M e (k + 2))), (4, vi (txM M e (k + 1))), (3, vi (txM M e k)), (0, vr 55), (1, vi e), (2, vi k)]) (Or.inr ⟨rfl, d_Mo_sign_158⟩) (by decide) rfl (G_pc (pc' := 160) rfl ?_)
                  refine G_goto (tgt := 433) d_Mo_sign_160 (by decide) ?_
                  refine G_ls (ls' := [(7, vi 35), (6, vi 2), (5, vi (txM M e (k + 2))), (4, vi (txM M e (k + 1))), (3, vi (txM M e k)), (0, vr 55), (1, vi e), (2, vi k)]) (by intro z hz; simp at hz ⊢; omega) ?_
                  exact tail _ _ (by unfold sgT sgN; grind) (by unfold sgN; grind) (by omega)
        · skip
          refine G_iload (i := 5) (n := 2) (len := 2) (Or.inr ⟨rfl, d_Mo_sign_58⟩) rfl (G_pc (pc' := 60) rfl ?_)
          refine G_bipush (n := 62) d_Mo_sign_60 (by decide) (G_pc (pc' := 62) rfl ?_)
          refine G_icmp_ne (tgt := 69) d_Mo_sign_62 (by decide) (fun h127 => ?_) (fun h127 => G_pc (pc' := 65) rfl ?_)
          · skip
            refine G_iload (i := 4) (n := 3) (len := 2) (Or.inr ⟨rfl, d_Mo_sign_69⟩) rfl (G_pc (pc' := 71) rfl ?_)
            refine G_iload (i := 3) (n := 4) (len := 1) (Or.inl ⟨3, rfl, rfl, d_Mo_sign_71⟩) rfl (G_pc (pc' := 72) rfl ?_)
            refine G_icmp_eq (tgt := 82) d_Mo_sign_72 (by decide) (fun h128 => ?_) (fun h128 => G_pc (pc' := 75) rfl ?_)
            · skip
              refine G_iconst (n := 2) d_Mo_sign_82 (by decide) (G_pc (pc' := 83) rfl ?_)
              refine G_goto (tgt := 87) d_Mo_sign_83 (by decide) ?_
              refine G_istore (i := 6) (len := 2) (ls' := [(6, vi 2), (7, vi 0), (5, vi (txM M e (k + 2))), (4, vi (txM M e (k + 1))), (3, vi (txM M e k)), (0, vr 55), (1, vi e), (2, vi k)]) (Or.inr ⟨rfl, d_Mo_sign_87⟩) (by decide) rfl (G_pc (pc' := 89) rfl ?_)
              refine G_iload (i := 6) (n := 0) (len := 2) (Or.inr ⟨rfl, d_Mo_sign_89⟩) rfl (G_pc (pc' := 91) rfl ?_)
              refine G_iconst (n := 3) d_Mo_sign_91 (by decide) (G_pc (pc' := 92) rfl ?_)
              refine G_icmp_ne (tgt := 100) d_Mo_sign_92 (by decide) (fun h129 => ?_) (fun h129 => absurd h129 (by decide))
              refine G_iload (i := 6) (n := 0) (len := 2) (Or.inr ⟨rfl, d_Mo_sign_100⟩) rfl (G_pc (pc' := 102) rfl ?_)
              refine G_iconst (n := 1) d_Mo_sign_102 (by decide) (G_pc (pc' := 103) rfl ?_)
              refine G_icmp_ne (tgt := 122) d_Mo_sign_103 (by decide) (fun h130 => ?_) (fun h130 => absurd h130 (by decide))
              refine G_iload (i := 4) (n := 3) (len := 2) (Or.inr ⟨rfl, d_Mo_sign_122⟩) rfl (G_pc (pc' := 124) rfl ?_)
              refine G_bipush (n := 61) d_Mo_sign_124 (by decide) (G_pc (pc' := 126) rfl ?_)
              refine G_icmp_ne (tgt := 145) d_Mo_sign_126 (by decide) (fun h131 => ?_) (fun h131 => G_pc (pc' := 129) rfl ?_)
              · skip
                refine G_iload (i := 3) (n := 4) (len := 1) (Or.inl ⟨3, rfl, rfl, d_Mo_sign_145⟩) rfl (G_pc (pc' := 146) rfl ?_)
                refine G_bipush (n := 60) d_Mo_sign_146 (by decide) (G_pc (pc' := 148) rfl ?_)
                refine G_icmp_ne (tgt := 156) d_Mo_sign_148 (by decide) (fun h132 => ?_) (fun h132 => G_pc (pc' := 151) rfl ?_)
                · skip
                  refine G_bipush (n := 39) d_Mo_sign_156 (by decide) (G_pc (pc' := 158) rfl ?_)
                  refine G_istore (i := 7) (len := 2) (ls' := [(7, vi 39), (6, vi 2), (5, vi (txM M e (k + 2))), (4, vi (txM M e (k + 1))), (3, vi (txM M e k)), (0, vr 55), (1, vi e), (2, vi k)]) (Or.inr ⟨rfl, d_Mo_sign_158⟩) (by decide) rfl (G_pc (pc' := 160) rfl ?_)
                  refine G_goto (tgt := 433) d_Mo_sign_160 (by decide) ?_
                  refine G_ls (ls' := [(7, vi 39), (6, vi 2), (5, vi (txM M e (k + 2))), (4, vi (txM M e (k + 1))), (3, vi (txM M e k)), (0, vr 55), (1, vi e), (2, vi k)]) (by intro z hz; simp at hz ⊢; omega) ?_
                  exact tail _ _ (by unfold sgT sgN; grind) (by unfold sgN; grind) (by omega)
                · skip
                  refine G_bipush (n := 38) d_Mo_sign_151 (by decide) (G_pc (pc' := 153) rfl ?_)
                  refine G_goto (tgt := 158) d_Mo_sign_153 (by decide) ?_
                  refine G_istore (i := 7) (len := 2) (ls' := [(7, vi 38), (6, vi 2), (5, vi (txM M e (k + 2))), (4, vi (txM M e (k + 1))), (3, vi (txM M e k)), (0, vr 55), (1, vi e), (2, vi k)]) (Or.inr ⟨rfl, d_Mo_sign_158⟩) (by decide) rfl (G_pc (pc' := 160) rfl ?_)
                  refine G_goto (tgt := 433) d_Mo_sign_160 (by decide) ?_
                  refine G_ls (ls' := [(7, vi 38), (6, vi 2), (5, vi (txM M e (k + 2))), (4, vi (txM M e (k + 1))), (3, vi (txM M e k)), (0, vr 55), (1, vi e), (2, vi k)]) (by intro z hz; simp at hz ⊢; omega) ?_
                  exact tail _ _ (by unfold sgT sgN; grind) (by unfold sgN; grind) (by omega)
              · skip
                refine G_iload (i := 3) (n := 4) (len := 1) (Or.inl ⟨3, rfl, rfl, d_Mo_sign_129⟩) rfl (G_pc (pc' := 130) rfl ?_)
                refine G_bipush (n := 60) d_Mo_sign_130 (by decide) (G_pc (pc' := 132) rfl ?_)
                refine G_icmp_ne (tgt := 140) d_Mo_sign_132 (by decide) (fun h133 => ?_) (fun h133 => G_pc (pc' := 135) rfl ?_)
                · skip
                  refine G_bipush (n := 37) d_Mo_sign_140 (by decide) (G_pc (pc' := 142) rfl ?_)
                  refine G_goto (tgt := 158) d_Mo_sign_142 (by decide) ?_
                  refine G_istore (i := 7) (len := 2) (ls' := [(7, vi 37), (6, vi 2), (5, vi (txM M e (k + 2))), (4, vi (txM M e (k + 1))), (3, vi (txM M e k)), (0, vr 55), (1, vi e), (2, vi k)]) (Or.inr ⟨rfl, d_Mo_sign_158⟩) (by decide) rfl (G_pc (pc' := 160) rfl ?_)
                  refine G_goto (tgt := 433) d_Mo_sign_160 (by decide) ?_
                  refine G_ls (ls' := [(7, vi 37), (6, vi 2), (5, vi (txM M e (k + 2))), (4, vi (txM M e (k + 1))), (3, vi (txM M e k)), (0, vr 55), (1, vi e), (2, vi k)]) (by intro z hz; simp at hz ⊢; omega) ?_
                  exact tail _ _ (by unfold sgT sgN; grind) (by unfold sgN; grind) (by omega)
                · skip
                  refine G_bipush (n := 35) d_Mo_sign_135 (by decide) (G_pc (pc' := 137) rfl ?_)
                  refine G_goto (tgt := 158) d_Mo_sign_137 (by decide) ?_
                  refine G_istore (i := 7) (len := 2) (ls' := [(7, vi 35), (6, vi 2), (5, vi (txM M e (k + 2))), (4, vi (txM M e (k + 1))), (3, vi (txM M e k)), (0, vr 55), (1, vi e), (2, vi k)]) (Or.inr ⟨rfl, d_Mo_sign_158⟩) (by decide) rfl (G_pc (pc' := 160) rfl ?_)
                  refine G_goto (tgt := 433) d_Mo_sign_160 (by decide) ?_
                  refine G_ls (ls' := [(7, vi 35), (6, vi 2), (5, vi (txM M e (k + 2))), (4, vi (txM M e (k + 1))), (3, vi (txM M e k)), (0, vr 55), (1, vi e), (2, vi k)]) (by intro z hz; simp at hz ⊢; omega) ?_
                  exact tail _ _ (by unfold sgT sgN; grind) (by unfold sgN; grind) (by omega)
            · skip
              refine G_iload (i := 4) (n := 3) (len := 2) (Or.inr ⟨rfl, d_Mo_sign_75⟩) rfl (G_pc (pc' := 77) rfl ?_)
              refine G_bipush (n := 61) d_Mo_sign_77 (by decide) (G_pc (pc' := 79) rfl ?_)
              refine G_icmp_ne (tgt := 86) d_Mo_sign_79 (by decide) (fun h134 => ?_) (fun h134 => G_pc (pc' := 82) rfl ?_)
              · skip
                refine G_iconst (n := 1) d_Mo_sign_86 (by decide) (G_pc (pc' := 87) rfl ?_)
                refine G_istore (i := 6) (len := 2) (ls' := [(6, vi 1), (7, vi 0), (5, vi (txM M e (k + 2))), (4, vi (txM M e (k + 1))), (3, vi (txM M e k)), (0, vr 55), (1, vi e), (2, vi k)]) (Or.inr ⟨rfl, d_Mo_sign_87⟩) (by decide) rfl (G_pc (pc' := 89) rfl ?_)
                refine G_iload (i := 6) (n := 0) (len := 2) (Or.inr ⟨rfl, d_Mo_sign_89⟩) rfl (G_pc (pc' := 91) rfl ?_)
                refine G_iconst (n := 3) d_Mo_sign_91 (by decide) (G_pc (pc' := 92) rfl ?_)
                refine G_icmp_ne (tgt := 100) d_Mo_sign_92 (by decide) (fun h135 => ?_) (fun h135 => absurd h135 (by decide))
                refine G_iload (i := 6) (n := 0) (len := 2) (Or.inr ⟨rfl, d_Mo_sign_100⟩) rfl (G_pc (pc' := 102) rfl ?_)
                refine G_iconst (n := 1) d_Mo_sign_102 (by decide) (G_pc (pc' := 103) rfl ?_)
                refine G_icmp_ne (tgt := 122) d_Mo_sign_103 (by decide) (fun h136 => absurd h136 (by decide)) (fun h136 => G_pc (pc' := 106) rfl ?_)
                refine G_iload (i := 3) (n := 4) (len := 1) (Or.inl ⟨3, rfl, rfl, d_Mo_sign_106⟩) rfl (G_pc (pc' := 107) rfl ?_)
                refine G_bipush (n := 60) d_Mo_sign_107 (by decide) (G_pc (pc' := 109) rfl ?_)
                refine G_icmp_ne (tgt := 117) d_Mo_sign_109 (by decide) (fun h137 => ?_) (fun h137 => G_pc (pc' := 112) rfl ?_)
                · skip
                  refine G_bipush (n := 36) d_Mo_sign_117 (by decide) (G_pc (pc' := 119) rfl ?_)
                  refine G_goto (tgt := 158) d_Mo_sign_119 (by decide) ?_
                  refine G_istore (i := 7) (len := 2) (ls' := [(7, vi 36), (6, vi 1), (5, vi (txM M e (k + 2))), (4, vi (txM M e (k + 1))), (3, vi (txM M e k)), (0, vr 55), (1, vi e), (2, vi k)]) (Or.inr ⟨rfl, d_Mo_sign_158⟩) (by decide) rfl (G_pc (pc' := 160) rfl ?_)
                  refine G_goto (tgt := 433) d_Mo_sign_160 (by decide) ?_
                  refine G_ls (ls' := [(7, vi 36), (6, vi 1), (5, vi (txM M e (k + 2))), (4, vi (txM M e (k + 1))), (3, vi (txM M e k)), (0, vr 55), (1, vi e), (2, vi k)]) (by intro z hz; simp at hz ⊢; omega) ?_
                  exact tail _ _ (by unfold sgT sgN; grind) (by unfold sgN; grind) (by omega)
                · skip
                  refine G_bipush (n := 34) d_Mo_sign_112 (by decide) (G_pc (pc' := 114) rfl ?_)
                  refine G_goto (tgt := 158) d_Mo_sign_114 (by decide) ?_
                  refine G_istore (i := 7) (len := 2) (ls' := [(7, vi 34), (6, vi 1), (5, vi (txM M e (k + 2))), (4, vi (txM M e (k + 1))), (3, vi (txM M e k)), (0, vr 55), (1, vi e), (2, vi k)]) (Or.inr ⟨rfl, d_Mo_sign_158⟩) (by decide) rfl (G_pc (pc' := 160) rfl ?_)
                  refine G_goto (tgt := 433) d_Mo_sign_160 (by decide) ?_
                  refine G_ls (ls' := [(7, vi 34), (6, vi 1), (5, vi (txM M e (k + 2))), (4, vi (txM M e (k + 1))), (3, vi (txM M e k)), (0, vr 55), (1, vi e), (2, vi k)]) (by intro z hz; simp at hz ⊢; omega) ?_
                  exact tail _ _ (by unfold sgT sgN; grind) (by unfold sgN; grind) (by omega)
              · skip
                refine G_iconst (n := 2) d_Mo_sign_82 (by decide) (G_pc (pc' := 83) rfl ?_)
                refine G_goto (tgt := 87) d_Mo_sign_83 (by decide) ?_
                refine G_istore (i := 6) (len := 2) (ls' := [(6, vi 2), (7, vi 0), (5, vi (txM M e (k + 2))), (4, vi (txM M e (k + 1))), (3, vi (txM M e k)), (0, vr 55), (1, vi e), (2, vi k)]) (Or.inr ⟨rfl, d_Mo_sign_87⟩) (by decide) rfl (G_pc (pc' := 89) rfl ?_)
                refine G_iload (i := 6) (n := 0) (len := 2) (Or.inr ⟨rfl, d_Mo_sign_89⟩) rfl (G_pc (pc' := 91) rfl ?_)
                refine G_iconst (n := 3) d_Mo_sign_91 (by decide) (G_pc (pc' := 92) rfl ?_)
                refine G_icmp_ne (tgt := 100) d_Mo_sign_92 (by decide) (fun h138 => ?_) (fun h138 => absurd h138 (by decide))
                refine G_iload (i := 6) (n := 0) (len := 2) (Or.inr ⟨rfl, d_Mo_sign_100⟩) rfl (G_pc (pc' := 102) rfl ?_)
                refine G_iconst (n := 1) d_Mo_sign_102 (by decide) (G_pc (pc' := 103) rfl ?_)
                refine G_icmp_ne (tgt := 122) d_Mo_sign_103 (by decide) (fun h139 => ?_) (fun h139 => absurd h139 (by decide))
                refine G_iload (i := 4) (n := 3) (len := 2) (Or.inr ⟨rfl, d_Mo_sign_122⟩) rfl (G_pc (pc' := 124) rfl ?_)
                refine G_bipush (n := 61) d_Mo_sign_124 (by decide) (G_pc (pc' := 126) rfl ?_)
                refine G_icmp_ne (tgt := 145) d_Mo_sign_126 (by decide) (fun h140 => ?_) (fun h140 => G_pc (pc' := 129) rfl ?_)
                · skip
                  refine G_iload (i := 3) (n := 4) (len := 1) (Or.inl ⟨3, rfl, rfl, d_Mo_sign_145⟩) rfl (G_pc (pc' := 146) rfl ?_)
                  refine G_bipush (n := 60) d_Mo_sign_146 (by decide) (G_pc (pc' := 148) rfl ?_)
                  refine G_icmp_ne (tgt := 156) d_Mo_sign_148 (by decide) (fun h141 => ?_) (fun h141 => G_pc (pc' := 151) rfl ?_)
                  · skip
                    refine G_bipush (n := 39) d_Mo_sign_156 (by decide) (G_pc (pc' := 158) rfl ?_)
                    refine G_istore (i := 7) (len := 2) (ls' := [(7, vi 39), (6, vi 2), (5, vi (txM M e (k + 2))), (4, vi (txM M e (k + 1))), (3, vi (txM M e k)), (0, vr 55), (1, vi e), (2, vi k)]) (Or.inr ⟨rfl, d_Mo_sign_158⟩) (by decide) rfl (G_pc (pc' := 160) rfl ?_)
                    refine G_goto (tgt := 433) d_Mo_sign_160 (by decide) ?_
                    refine G_ls (ls' := [(7, vi 39), (6, vi 2), (5, vi (txM M e (k + 2))), (4, vi (txM M e (k + 1))), (3, vi (txM M e k)), (0, vr 55), (1, vi e), (2, vi k)]) (by intro z hz; simp at hz ⊢; omega) ?_
                    exact tail _ _ (by unfold sgT sgN; grind) (by unfold sgN; grind) (by omega)
                  · skip
                    refine G_bipush (n := 38) d_Mo_sign_151 (by decide) (G_pc (pc' := 153) rfl ?_)
                    refine G_goto (tgt := 158) d_Mo_sign_153 (by decide) ?_
                    refine G_istore (i := 7) (len := 2) (ls' := [(7, vi 38), (6, vi 2), (5, vi (txM M e (k + 2))), (4, vi (txM M e (k + 1))), (3, vi (txM M e k)), (0, vr 55), (1, vi e), (2, vi k)]) (Or.inr ⟨rfl, d_Mo_sign_158⟩) (by decide) rfl (G_pc (pc' := 160) rfl ?_)
                    refine G_goto (tgt := 433) d_Mo_sign_160 (by decide) ?_
                    refine G_ls (ls' := [(7, vi 38), (6, vi 2), (5, vi (txM M e (k + 2))), (4, vi (txM M e (k + 1))), (3, vi (txM M e k)), (0, vr 55), (1, vi e), (2, vi k)]) (by intro z hz; simp at hz ⊢; omega) ?_
                    exact tail _ _ (by unfold sgT sgN; grind) (by unfold sgN; grind) (by omega)
                · skip
                  refine G_iload (i := 3) (n := 4) (len := 1) (Or.inl ⟨3, rfl, rfl, d_Mo_sign_129⟩) rfl (G_pc (pc' := 130) rfl ?_)
                  refine G_bipush (n := 60) d_Mo_sign_130 (by decide) (G_pc (pc' := 132) rfl ?_)
                  refine G_icmp_ne (tgt := 140) d_Mo_sign_132 (by decide) (fun h142 => ?_) (fun h142 => G_pc (pc' := 135) rfl ?_)
                  · skip
                    refine G_bipush (n := 37) d_Mo_sign_140 (by decide) (G_pc (pc' := 142) rfl ?_)
                    refine G_goto (tgt := 158) d_Mo_sign_142 (by decide) ?_
                    refine G_istore (i := 7) (len := 2) (ls' := [(7, vi 37), (6, vi 2), (5, vi (txM M e (k + 2))), (4, vi (txM M e (k + 1))), (3, vi (txM M e k)), (0, vr 55), (1, vi e), (2, vi k)]) (Or.inr ⟨rfl, d_Mo_sign_158⟩) (by decide) rfl (G_pc (pc' := 160) rfl ?_)
                    refine G_goto (tgt := 433) d_Mo_sign_160 (by decide) ?_
                    refine G_ls (ls' := [(7, vi 37), (6, vi 2), (5, vi (txM M e (k + 2))), (4, vi (txM M e (k + 1))), (3, vi (txM M e k)), (0, vr 55), (1, vi e), (2, vi k)]) (by intro z hz; simp at hz ⊢; omega) ?_
                    exact tail _ _ (by unfold sgT sgN; grind) (by unfold sgN; grind) (by omega)
                  · skip
                    refine G_bipush (n := 35) d_Mo_sign_135 (by decide) (G_pc (pc' := 137) rfl ?_)
                    refine G_goto (tgt := 158) d_Mo_sign_137 (by decide) ?_
                    refine G_istore (i := 7) (len := 2) (ls' := [(7, vi 35), (6, vi 2), (5, vi (txM M e (k + 2))), (4, vi (txM M e (k + 1))), (3, vi (txM M e k)), (0, vr 55), (1, vi e), (2, vi k)]) (Or.inr ⟨rfl, d_Mo_sign_158⟩) (by decide) rfl (G_pc (pc' := 160) rfl ?_)
                    refine G_goto (tgt := 433) d_Mo_sign_160 (by decide) ?_
                    refine G_ls (ls' := [(7, vi 35), (6, vi 2), (5, vi (txM M e (k + 2))), (4, vi (txM M e (k + 1))), (3, vi (txM M e k)), (0, vr 55), (1, vi e), (2, vi k)]) (by intro z hz; simp at hz ⊢; omega) ?_
                    exact tail _ _ (by unfold sgT sgN; grind) (by unfold sgN; grind) (by omega)
          · skip
            refine G_iconst (n := 3) d_Mo_sign_65 (by decide) (G_pc (pc' := 66) rfl ?_)
            refine G_goto (tgt := 87) d_Mo_sign_66 (by decide) ?_
            refine G_istore (i := 6) (len := 2) (ls' := [(6, vi 3), (7, vi 0), (5, vi (txM M e (k + 2))), (4, vi (txM M e (k + 1))), (3, vi (txM M e k)), (0, vr 55), (1, vi e), (2, vi k)]) (Or.inr ⟨rfl, d_Mo_sign_87⟩) (by decide) rfl (G_pc (pc' := 89) rfl ?_)
            refine G_iload (i := 6) (n := 0) (len := 2) (Or.inr ⟨rfl, d_Mo_sign_89⟩) rfl (G_pc (pc' := 91) rfl ?_)
            refine G_iconst (n := 3) d_Mo_sign_91 (by decide) (G_pc (pc' := 92) rfl ?_)
            refine G_icmp_ne (tgt := 100) d_Mo_sign_92 (by decide) (fun h143 => absurd h143 (by decide)) (fun h143 => G_pc (pc' := 95) rfl ?_)
            refine G_bipush (n := 40) d_Mo_sign_95 (by decide) (G_pc (pc' := 97) rfl ?_)
            refine G_goto (tgt := 158) d_Mo_sign_97 (by decide) ?_
            refine G_istore (i := 7) (len := 2) (ls' := [(7, vi 40), (6, vi 3), (5, vi (txM M e (k + 2))), (4, vi (txM M e (k + 1))), (3, vi (txM M e k)), (0, vr 55), (1, vi e), (2, vi k)]) (Or.inr ⟨rfl, d_Mo_sign_158⟩) (by decide) rfl (G_pc (pc' := 160) rfl ?_)
            refine G_goto (tgt := 433) d_Mo_sign_160 (by decide) ?_
            refine G_ls (ls' := [(7, vi 40), (6, vi 3), (5, vi (txM M e (k + 2))), (4, vi (txM M e (k + 1))), (3, vi (txM M e k)), (0, vr 55), (1, vi e), (2, vi k)]) (by intro z hz; simp at hz ⊢; omega) ?_
            exact tail _ _ (by unfold sgT sgN; grind) (by unfold sgN; grind) (by omega)

