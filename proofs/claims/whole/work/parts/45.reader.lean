section EX
variable {T W : Int → Int}
/-- how operands of a level end -/
def E1 (T : Int → Int) (lev : Int) (R : DS → Option DS) : Prop := ∀ σ k N S o a c, R σ = some (k, N, S, o, a, c) → (bq (T k) < lev ∨ (c = 1 ∧ 7 < bq (T k))) ∧ (c = 1 → lev ≤ 7)
def E2 (T : Int → Int) (lev : Int) (R : DS → Option DS) : Prop := ∀ σ k N S o a c, (σ.2.2.2.2.2 = 1 → lev ≤ 7) → R σ = some (k, N, S, o, a, c) → (bq (T k) < lev ∨ (c = 1 ∧ 7 < bq (T k))) ∧ (c = 1 → lev ≤ 7)
def E3 (R : DS → Option DS) : Prop := ∀ σ k N S o a c, R σ = some (k, N, S, o, a, c) → c = 0
theorem e_bind12 {lev : Int} {F L : DS → Option DS} (hF : E3 F) (hL : E2 T lev L) : E1 T lev (fun σ => (F σ).bind L) := by
  intro σ k N S o a c h
  cases hE : F σ with
  | none => simp only [hE] at h; cases h
  | some σ1 =>
    obtain ⟨k1, N1, S1, o1, a1, c1⟩ := σ1
    simp only [hE] at h
    exact hL _ _ _ _ _ _ _ (fun e => by have := hF _ _ _ _ _ _ _ hE; have e' : c1 = 1 := e; omega) h
theorem e_loop {lev : Int} {B : Int → DS → Option DS} {L : DS → Option DS} (hl : 1 ≤ lev) (hB : ∀ l, 1 ≤ l → l ≤ 11 → E1 T l (B l)) (hL : E2 T lev L) : E2 T lev (loopD T W lev B L) := by
  intro σ k N S o a c hc h
  obtain ⟨k0, N0, S0, o0, a0, c0⟩ := σ
  simp only at hc
  simp only [loopD] at h
  split at h
  · rename_i hx; cases h; exact ⟨hx, hc⟩
  rename_i hx
  split at h
  · rename_i h13
    split at h
    · have h7 : bq (T k0) = 7 := by rw [h13]; decide
      exact hL _ _ _ _ _ _ _ (fun _ => by omega) h
    · cases h
  rename_i h13
  rw [bq_13 h13] at hx
  have hb := bd_rng (T k0)
  have hJ := hB (bdV (T k0) + 1) (by omega) (by omega)
  simp only [rightD] at h
  split at h
  · split at h
    · cases h
    · rename_i hE
      exact hL _ _ _ _ _ _ _ (fun e => by have := (hJ _ _ _ _ _ _ _ hE).2 e; omega) h
  · split at h
    · cases h
    · rename_i hE
      exact hL _ _ _ _ _ _ _ (fun e => by have := (hJ _ _ _ _ _ _ _ hE).2 e; omega) h
theorem e_parts {R L : DS → Option DS} (hL : E3 L) : E3 (partsD T W R L) := by
  intro σ k N S o a c h
  obtain ⟨k0, N0, S0, o0, a0, c0⟩ := σ
  simp only [partsD] at h
  split at h
  · cases hE : partD T W (k0, N0, S0, o0, a0, c0) with
    | none => rw [hE] at h; cases h
    | some σ1 => rw [hE] at h; exact hL _ _ _ _ _ _ _ h
  split at h
  · cases hE : enclD T R 23 (k0 + 1, N0, S0, o0, a0, 0) with
    | none => rw [hE] at h; cases h
    | some σ1 => rw [hE] at h; exact hL _ _ _ _ _ _ _ h
  · cases h; rfl
theorem e_bind {F L : DS → Option DS} (hL : E3 L) : E3 (fun σ => (F σ).bind L) := by
  intro σ k N S o a c h
  cases hE : F σ with
  | none => simp only [hE] at h; cases h
  | some σ1 => simp only [hE] at h; exact hL _ _ _ _ _ _ _ h
theorem e_end {R : DS → Option DS} {u c1 v : Int} {σ : DS} (hR : E3 R) {k : Int} {N : List ND} {S : List SD} {o a c : Int} (h : (R σ).bind (endUD u c1 v) = some (k, N, S, o, a, c)) : c = 0 := by
  cases hE : R σ with
  | none => rw [hE] at h; cases h
  | some σ1 =>
    obtain ⟨k1, N1, S1, o1, a1, c1⟩ := σ1
    rw [hE] at h
    simp only [Option.bind, endUD] at h
    cases h
    exact hR _ _ _ _ _ _ _ hE
theorem e_unary {R F : DS → Option DS} (hR : E3 R) (hF : E3 F) : E3 (unaryD T W R F) := by
  intro σ k N S o a c h
  obtain ⟨k0, N0, S0, o0, a0, c0⟩ := σ
  simp only [unaryD] at h
  split at h
  · split at h
    · cases h
    · exact e_end hR h
  split at h
  · split at h
    · simp only [endUD] at h; cases h; rfl
    · exact e_end hR h
  · exact hF _ _ _ _ _ _ _ h
theorem e_desc : ∀ f : Nat, (∀ l, 1 ≤ l → l ≤ 11 → E1 T l (desc T W f 1 l) ∧ E2 T l (desc T W f 2 l)) ∧ (∀ l, E3 (desc T W f 3 l) ∧ E3 (desc T W f 4 l) ∧ E3 (desc T W f 5 l)) := by
  intro f
  induction f with
  | zero => exact ⟨fun l _ _ => ⟨fun _ _ _ _ _ _ _ h => (by cases h), fun _ _ _ _ _ _ _ _ h => (by cases h)⟩, fun l => ⟨fun _ _ _ _ _ _ _ h => (by cases h), fun _ _ _ _ _ _ _ h => (by cases h), fun _ _ _ _ _ _ _ h => (by cases h)⟩⟩
  | succ f ih =>
    obtain ⟨i1, i3⟩ := ih
    exact ⟨fun l h1 h2 => ⟨e_bind12 (i3 0).1 (i1 l h1 h2).2, e_loop h1 (fun l2 h3 h4 => (i1 l2 h3 h4).1) (i1 l h1 h2).2⟩, fun l => ⟨e_unary (i3 0).1 (i3 0).2.1, e_bind (i3 0).2.2, e_parts (i3 0).2.2⟩⟩
end EX
/-- tokens: what stands in the desk's rows -/
def okt (t : Int) : Prop := (0 ≤ t ∧ t < 15) ∨ (20 ≤ t ∧ t < 48)
def TR (M : Mem) (T W : Int → Int) (n : Int) : Prop := M 14 3 = n ∧ (0 ≤ n ∧ n ≤ 24) ∧ (∀ k, 0 ≤ k → k < n → M 15 k = tcode (T k) ∧ M 16 k = tkind (T k) ∧ M 17 k = tnum (T k) (W k)) ∧ (∀ k, n ≤ k → T k = 0) ∧ (∀ k, 0 ≤ k → k < n → 1 ≤ T k ∧ okt (T k))
  ∧ ∀ k, 0 ≤ k → k < n → (T k = 7 → 0 ≤ W k ∧ W k < 26) ∧ (8 ≤ T k → T k ≤ 12 → 0 ≤ W k ∧ W k < 6) ∧ 0 ≤ W k ∧ W k < 1000000000000000000
theorem TR_T {M : Mem} {T W : Int → Int} {n k : Int} (h : TR M T W n) (hk : 0 ≤ k) : okt (T k) ∧ (T k = 0 ↔ n ≤ k) := by
  by_cases hn : k < n
  · have := h.2.2.2.2.1 k hk hn
    exact ⟨this.2, by omega⟩
  · rw [h.2.2.2.1 k (by omega)]
    exact ⟨by unfold okt; omega, by omega⟩
theorem TR_tkn {M : Mem} {T W : Int → Int} {n : Int} (h : TR M T W n) : tkn T n :=
  ⟨fun k h0 h1 => by have := h.2.2.2.2.1 k h0 h1; unfold okt at this; omega, h.2.2.2.1⟩
theorem TR_fr {M M' : Mem} {T W : Int → Int} {n : Int} (h : TR M T W n) (h2 : ∀ c i, 14 ≤ c → c ≤ 17 → M' c i = M c i) : TR M' T W n :=
  ⟨by rw [h2 14 3 (by decide) (by decide)]; exact h.1, h.2.1, fun k h3 h4 => by rw [h2 15 k (by decide) (by decide), h2 16 k (by decide) (by decide), h2 17 k (by decide) (by decide)]; exact h.2.2.1 k h3 h4, h.2.2.2⟩
theorem tc_lift {P : Int → Prop} (h : ∀ n : Nat, n < 48 → (n < 15 ∨ 20 ≤ n) → P n) {t : Int} (ht : okt t) : P t := by
  unfold okt at ht
  obtain ⟨n, rfl⟩ := Int.eq_ofNat_of_zero_le (show 0 ≤ t by omega)
  exact h n (by omega) (by omega)
theorem tcode_rng {t : Int} (ht : okt t) : 0 ≤ tcode t ∧ tcode t ≤ 142 := tc_lift (P := fun t => 0 ≤ tcode t ∧ tcode t ≤ 142) (by decide +kernel) ht
theorem tkind_rng (t : Int) : -1 ≤ tkind t ∧ tkind t ≤ 17 := by unfold tkind; grind
def kcode (c : Int) : Int := if c = 41 then 21 else if c = 93 then 23 else if c = 91 then 22 else if c = 46 then 24 else if c = 63 then 25 else if c = 58 then 26 else if c = 138 then 7 else if c = 142 then 14 else 0
theorem tc_40 {t : Int} (ht : okt t) : tcode t = 40 ↔ t = 20 := tc_lift (P := fun t => tcode t = 40 ↔ t = 20) (by decide +kernel) ht
theorem tc_41 {t : Int} (ht : okt t) : tcode t = 41 ↔ t = 21 := tc_lift (P := fun t => tcode t = 41 ↔ t = 21) (by decide +kernel) ht
theorem tc_91 {t : Int} (ht : okt t) : tcode t = 91 ↔ t = 22 := tc_lift (P := fun t => tcode t = 91 ↔ t = 22) (by decide +kernel) ht
theorem tc_93 {t : Int} (ht : okt t) : tcode t = 93 ↔ t = 23 := tc_lift (P := fun t => tcode t = 93 ↔ t = 23) (by decide +kernel) ht
theorem tc_46 {t : Int} (ht : okt t) : tcode t = 46 ↔ t = 24 := tc_lift (P := fun t => tcode t = 46 ↔ t = 24) (by decide +kernel) ht
theorem tc_63 {t : Int} (ht : okt t) : tcode t = 63 ↔ t = 25 := tc_lift (P := fun t => tcode t = 63 ↔ t = 25) (by decide +kernel) ht
theorem tc_58 {t : Int} (ht : okt t) : tcode t = 58 ↔ t = 26 := tc_lift (P := fun t => tcode t = 58 ↔ t = 26) (by decide +kernel) ht
theorem tc_138 {t : Int} (ht : okt t) : tcode t = 138 ↔ t = 7 := tc_lift (P := fun t => tcode t = 138 ↔ t = 7) (by decide +kernel) ht
theorem tc_142 {t : Int} (ht : okt t) : tcode t = 142 ↔ t = 14 := tc_lift (P := fun t => tcode t = 142 ↔ t = 14) (by decide +kernel) ht
theorem tc_139 {t : Int} (ht : okt t) : tcode t = 139 ↔ t = 6 := tc_lift (P := fun t => tcode t = 139 ↔ t = 6) (by decide +kernel) ht
theorem tc_141 {t : Int} (ht : okt t) : tcode t = 141 ↔ t = 13 := tc_lift (P := fun t => tcode t = 141 ↔ t = 13) (by decide +kernel) ht
theorem tc_135 {t : Int} (ht : okt t) : tcode t = 135 ↔ t = 44 := tc_lift (P := fun t => tcode t = 135 ↔ t = 44) (by decide +kernel) ht
theorem tc_136 {t : Int} (ht : okt t) : tcode t = 136 ↔ t = 46 := tc_lift (P := fun t => tcode t = 136 ↔ t = 46) (by decide +kernel) ht
theorem tc_45 {t : Int} (ht : okt t) : tcode t = 45 ↔ t = 28 := tc_lift (P := fun t => tcode t = 45 ↔ t = 28) (by decide +kernel) ht
theorem tc_0 {t : Int} (ht : okt t) : tcode t = 0 ↔ t = 0 := tc_lift (P := fun t => tcode t = 0 ↔ t = 0) (by decide +kernel) ht
theorem tc_140 {t : Int} (ht : okt t) : tcode t = 140 ↔ (8 ≤ t ∧ t ≤ 12) := tc_lift (P := fun t => tcode t = 140 ↔ (8 ≤ t ∧ t ≤ 12)) (by decide +kernel) ht
theorem tc_137 {t : Int} (ht : okt t) : tcode t = 137 ↔ (1 ≤ t ∧ t ≤ 5) := tc_lift (P := fun t => tcode t = 137 ↔ (1 ≤ t ∧ t ≤ 5)) (by decide +kernel) ht
theorem d_To_codeAt_0 : decode b_To_codeAt 0 = .ok (.iload_n 1, 1) := by decide +kernel
theorem d_To_codeAt_1 : decode b_To_codeAt 1 = .ok (.aload_n 0, 1) := by decide +kernel
theorem d_To_codeAt_2 : decode b_To_codeAt 2 = .ok (.getfield 30, 3) := by decide +kernel
theorem d_To_codeAt_5 : decode b_To_codeAt 5 = .ok (.if_icmp .ge 12, 3) := by decide +kernel
theorem d_To_codeAt_8 : decode b_To_codeAt 8 = .ok (.aload_n 0, 1) := by decide +kernel
theorem d_To_codeAt_9 : decode b_To_codeAt 9 = .ok (.getfield 9, 3) := by decide +kernel
theorem d_To_codeAt_12 : decode b_To_codeAt 12 = .ok (.iload_n 1, 1) := by decide +kernel
theorem d_To_codeAt_13 : decode b_To_codeAt 13 = .ok (.iaload, 1) := by decide +kernel
theorem d_To_codeAt_14 : decode b_To_codeAt 14 = .ok (.goto 4, 3) := by decide +kernel
theorem d_To_codeAt_17 : decode b_To_codeAt 17 = .ok (.iconst 0, 1) := by decide +kernel
theorem d_To_codeAt_18 : decode b_To_codeAt 18 = .ok (.ireturn, 1) := by decide +kernel
theorem g_To_codeAt {X : WX} {d : Nat} (hd : 0 ≤ d) (T W : Int → Int) (n k : Int) (M : Mem) (hTR : TR M T W n) (hk : 0 ≤ k ∧ k < 100) : MG X gt d KE KE y_To_codeAt b_To_codeAt 2 (some .int) [vr 14, vi k] M (fun r M' => r = some (vi (tcode (T k))) ∧ M' = M) := by
  refine MG_of_G (by decide) (Nat.le_of_ble_eq_true rfl) (Nat.le_refl _) (by decide) ?_
  show G X gt d KE KE y_To_codeAt b_To_codeAt 2 (some .int) _ 0 [(0, vr 14), (1, vi k)] [] KE M
  have hT0 := TR_T hTR hk.1
  have hT1 := hTR.1
  have hT2 := hTR.2.1
  refine G_rngl (i := 1) rfl (fun hr1 => ?_)
  refine G_iload (i := 1) (n := 1) (len := 1) (Or.inl ⟨1, rfl, rfl, d_To_codeAt_0⟩) rfl (G_pc (pc' := 1) rfl ?_)
  refine G_aload (i := 0) (n := 0) (len := 1) (Or.inl ⟨0, rfl, rfl, d_To_codeAt_1⟩) rfl (by decide) (G_pc (pc' := 2) rfl ?_)
  refine G_get (o := 14) (c := 7) (k := 3) (v := M 14 3) d_To_codeAt_2 fl_To_30 rfl (by decide) (by decide) rfl rfl (G_pc (pc' := 5) rfl ?_)
  refine G_mem (fun hmo _ => ?_)
  have t1 := tok_i (Eq.mp (congrArg (tok .int) (show rd gt M 14 ((3 : Nat) : Int) = M 14 3 from rfl)) (hmo 14 (by decide) (by decide) 7 rfl 3 (by decide)))
  clear hmo
  refine G_icmp_ge (tgt := 17) d_To_codeAt_5 (by decide) (fun h2 => ?_) (fun h2 => G_pc (pc' := 8) rfl ?_)
  · skip
    refine G_iconst (n := 0) d_To_codeAt_17 (by decide) (G_pc (pc' := 18) rfl ?_)
    refine G_iret d_To_codeAt_18 rfl (tokI (by decide)) rfl rfl ?_
    exact ret_e (by rw [hT0.2.mpr (by omega)]; rfl) rfl
  · skip
    refine G_aload (i := 0) (n := 0) (len := 1) (Or.inl ⟨0, rfl, rfl, d_To_codeAt_8⟩) rfl (by decide) (G_pc (pc' := 9) rfl ?_)
    refine G_get (o := 14) (c := 7) (k := 0) (v := 15) d_To_codeAt_9 fl_To_9 rfl (by decide) (by decide) rfl rfl (G_pc (pc' := 12) rfl ?_)
    refine G_iload (i := 1) (n := 1) (len := 1) (Or.inl ⟨1, rfl, rfl, d_To_codeAt_12⟩) rfl (G_pc (pc' := 13) rfl ?_)
    refine G_iaload (o := 15) (n := 24) (i := k) (v := M 15 k) d_To_codeAt_13 rfl ⟨by decide, by decide⟩ (by omega) (rd_arr rfl) (fun t3 => G_pc (pc' := 14) rfl ?_)
    have t3 := tok_i t3
    refine G_goto (tgt := 18) d_To_codeAt_14 (by decide) ?_
    refine G_iret d_To_codeAt_18 rfl (tokI (by omega)) rfl rfl ?_
    exact ret_e (hTR.2.2.1 k (by omega) (by omega)).1 rfl

theorem d_To_kindAt_0 : decode b_To_kindAt 0 = .ok (.iload_n 1, 1) := by decide +kernel
theorem d_To_kindAt_1 : decode b_To_kindAt 1 = .ok (.aload_n 0, 1) := by decide +kernel
theorem d_To_kindAt_2 : decode b_To_kindAt 2 = .ok (.getfield 30, 3) := by decide +kernel
theorem d_To_kindAt_5 : decode b_To_kindAt 5 = .ok (.if_icmp .ge 12, 3) := by decide +kernel
theorem d_To_kindAt_8 : decode b_To_kindAt 8 = .ok (.aload_n 0, 1) := by decide +kernel
theorem d_To_kindAt_9 : decode b_To_kindAt 9 = .ok (.getfield 15, 3) := by decide +kernel
theorem d_To_kindAt_12 : decode b_To_kindAt 12 = .ok (.iload_n 1, 1) := by decide +kernel
theorem d_To_kindAt_13 : decode b_To_kindAt 13 = .ok (.iaload, 1) := by decide +kernel
theorem d_To_kindAt_14 : decode b_To_kindAt 14 = .ok (.goto 4, 3) := by decide +kernel
theorem d_To_kindAt_17 : decode b_To_kindAt 17 = .ok (.iconst (-1), 1) := by decide +kernel
theorem d_To_kindAt_18 : decode b_To_kindAt 18 = .ok (.ireturn, 1) := by decide +kernel
theorem g_To_kindAt {X : WX} {d : Nat} (hd : 0 ≤ d) (T W : Int → Int) (n k : Int) (M : Mem) (hTR : TR M T W n) (hk : 0 ≤ k ∧ k < 100) : MG X gt d KE KE y_To_kindAt b_To_kindAt 2 (some .int) [vr 14, vi k] M (fun r M' => r = some (vi (tkind (T k))) ∧ M' = M) := by
  refine MG_of_G (by decide) (Nat.le_of_ble_eq_true rfl) (Nat.le_refl _) (by decide) ?_
  show G X gt d KE KE y_To_kindAt b_To_kindAt 2 (some .int) _ 0 [(0, vr 14), (1, vi k)] [] KE M
  have hT0 := TR_T hTR hk.1
  have hT1 := hTR.1
  have hT2 := hTR.2.1
  refine G_rngl (i := 1) rfl (fun hr1 => ?_)
  refine G_iload (i := 1) (n := 1) (len := 1) (Or.inl ⟨1, rfl, rfl, d_To_kindAt_0⟩) rfl (G_pc (pc' := 1) rfl ?_)
  refine G_aload (i := 0) (n := 0) (len := 1) (Or.inl ⟨0, rfl, rfl, d_To_kindAt_1⟩) rfl (by decide) (G_pc (pc' := 2) rfl ?_)
  refine G_get (o := 14) (c := 7) (k := 3) (v := M 14 3) d_To_kindAt_2 fl_To_30 rfl (by decide) (by decide) rfl rfl (G_pc (pc' := 5) rfl ?_)
  refine G_mem (fun hmo _ => ?_)
  have t1 := tok_i (Eq.mp (congrArg (tok .int) (show rd gt M 14 ((3 : Nat) : Int) = M 14 3 from rfl)) (hmo 14 (by decide) (by decide) 7 rfl 3 (by decide)))
  clear hmo
  refine G_icmp_ge (tgt := 17) d_To_kindAt_5 (by decide) (fun h2 => ?_) (fun h2 => G_pc (pc' := 8) rfl ?_)
  · skip
    refine G_iconst (n := (-1)) d_To_kindAt_17 (by decide) (G_pc (pc' := 18) rfl ?_)
    refine G_iret d_To_kindAt_18 rfl (tokI (by decide)) rfl rfl ?_
    exact ret_e (by rw [hT0.2.mpr (by omega)]; rfl) rfl
  · skip
    refine G_aload (i := 0) (n := 0) (len := 1) (Or.inl ⟨0, rfl, rfl, d_To_kindAt_8⟩) rfl (by decide) (G_pc (pc' := 9) rfl ?_)
    refine G_get (o := 14) (c := 7) (k := 1) (v := 16) d_To_kindAt_9 fl_To_15 rfl (by decide) (by decide) rfl rfl (G_pc (pc' := 12) rfl ?_)
    refine G_iload (i := 1) (n := 1) (len := 1) (Or.inl ⟨1, rfl, rfl, d_To_kindAt_12⟩) rfl (G_pc (pc' := 13) rfl ?_)
    refine G_iaload (o := 16) (n := 24) (i := k) (v := M 16 k) d_To_kindAt_13 rfl ⟨by decide, by decide⟩ (by omega) (rd_arr rfl) (fun t3 => G_pc (pc' := 14) rfl ?_)
    have t3 := tok_i t3
    refine G_goto (tgt := 18) d_To_kindAt_14 (by decide) ?_
    refine G_iret d_To_kindAt_18 rfl (tokI (by omega)) rfl rfl ?_
    exact ret_e (hTR.2.2.1 k (by omega) (by omega)).2.1 rfl

theorem d_To_numberAt_0 : decode b_To_numberAt 0 = .ok (.iload_n 1, 1) := by decide +kernel
theorem d_To_numberAt_1 : decode b_To_numberAt 1 = .ok (.aload_n 0, 1) := by decide +kernel
theorem d_To_numberAt_2 : decode b_To_numberAt 2 = .ok (.getfield 30, 3) := by decide +kernel
theorem d_To_numberAt_5 : decode b_To_numberAt 5 = .ok (.if_icmp .ge 12, 3) := by decide +kernel
theorem d_To_numberAt_8 : decode b_To_numberAt 8 = .ok (.aload_n 0, 1) := by decide +kernel
theorem d_To_numberAt_9 : decode b_To_numberAt 9 = .ok (.getfield 18, 3) := by decide +kernel
theorem d_To_numberAt_12 : decode b_To_numberAt 12 = .ok (.iload_n 1, 1) := by decide +kernel
theorem d_To_numberAt_13 : decode b_To_numberAt 13 = .ok (.laload, 1) := by decide +kernel
theorem d_To_numberAt_14 : decode b_To_numberAt 14 = .ok (.goto 4, 3) := by decide +kernel
theorem d_To_numberAt_17 : decode b_To_numberAt 17 = .ok (.lconst 0, 1) := by decide +kernel
theorem d_To_numberAt_18 : decode b_To_numberAt 18 = .ok (.lreturn, 1) := by decide +kernel
theorem g_To_numberAt {X : WX} {d : Nat} (hd : 0 ≤ d) (T W : Int → Int) (n k : Int) (M : Mem) (hTR : TR M T W n) (hk : 0 ≤ k ∧ k < 100) : MG X gt d KE KE y_To_numberAt b_To_numberAt 2 (some .long) [vr 14, vi k] M (fun r M' => r = some (vl (tnum (T k) (W k))) ∧ M' = M) := by
  refine MG_of_G (by decide) (Nat.le_of_ble_eq_true rfl) (Nat.le_refl _) (by decide) ?_
  show G X gt d KE KE y_To_numberAt b_To_numberAt 2 (some .long) _ 0 [(0, vr 14), (1, vi k)] [] KE M
  have hT0 := TR_T hTR hk.1
  have hT1 := hTR.1
  have hT2 := hTR.2.1
  refine G_rngl (i := 1) rfl (fun hr1 => ?_)
  refine G_iload (i := 1) (n := 1) (len := 1) (Or.inl ⟨1, rfl, rfl, d_To_numberAt_0⟩) rfl (G_pc (pc' := 1) rfl ?_)
  refine G_aload (i := 0) (n := 0) (len := 1) (Or.inl ⟨0, rfl, rfl, d_To_numberAt_1⟩) rfl (by decide) (G_pc (pc' := 2) rfl ?_)
  refine G_get (o := 14) (c := 7) (k := 3) (v := M 14 3) d_To_numberAt_2 fl_To_30 rfl (by decide) (by decide) rfl rfl (G_pc (pc' := 5) rfl ?_)
  refine G_mem (fun hmo _ => ?_)
  have t1 := tok_i (Eq.mp (congrArg (tok .int) (show rd gt M 14 ((3 : Nat) : Int) = M 14 3 from rfl)) (hmo 14 (by decide) (by decide) 7 rfl 3 (by decide)))
  clear hmo
  refine G_icmp_ge (tgt := 17) d_To_numberAt_5 (by decide) (fun h2 => ?_) (fun h2 => G_pc (pc' := 8) rfl ?_)
  · skip
    refine G_lconst0 d_To_numberAt_17 (G_pc (pc' := 18) rfl ?_)
    refine G_lret d_To_numberAt_18 rfl rfl ?_
    exact ret_l (by rw [hT0.2.mpr (by omega)]; rfl) rfl
  · skip
    refine G_aload (i := 0) (n := 0) (len := 1) (Or.inl ⟨0, rfl, rfl, d_To_numberAt_8⟩) rfl (by decide) (G_pc (pc' := 9) rfl ?_)
    refine G_get (o := 14) (c := 7) (k := 2) (v := 17) d_To_numberAt_9 fl_To_18 rfl (by decide) (by decide) rfl rfl (G_pc (pc' := 12) rfl ?_)
    refine G_iload (i := 1) (n := 1) (len := 1) (Or.inl ⟨1, rfl, rfl, d_To_numberAt_12⟩) rfl (G_pc (pc' := 13) rfl ?_)
    refine G_laload (o := 17) (n := 24) (i := k) (v := M 17 k) d_To_numberAt_13 rfl ⟨by decide, by decide⟩ (by omega) (rd_arr rfl) (fun t3 => G_pc (pc' := 14) rfl ?_)
    have t3 := tok_l t3
    refine G_goto (tgt := 18) d_To_numberAt_14 (by decide) ?_
    refine G_lret d_To_numberAt_18 rfl rfl ?_
    exact ret_l (hTR.2.2.1 k (by omega) (by omega)).2.2 rfl

/-- what the reader writes, for evaluation e -/
def rcell (e c : Nat) (i : Int) : Prop := (c = 13 ∧ (i = 2 ∨ i = 3 ∨ i = 4)) ∨ (c = 20 + 9 * e ∧ i = 6) ∨ (21 + 9 * e ≤ c ∧ c ≤ 26 + 9 * e)
def frR (e : Nat) (M0 M : Mem) : Prop := ∀ c i, ¬ rcell e c i → M c i = M0 c i
def stp (e : Nat) (M : Mem) (S : List SD) : Prop := M (20 + 9 * e) 6 = S.length ∧ ∀ (i : Nat) (x : SD), S[i]? = some x → M (21 + 9 * e) i = x.1 ∧ M (22 + 9 * e) i = x.2.1 ∧ M (23 + 9 * e) i = x.2.2.1 ∧ M (24 + 9 * e) i = x.2.2.2.1 ∧ (x.1 = 137 → M (25 + 9 * e) i = x.2.2.2.2.1 ∧ M (26 + 9 * e) i = x.2.2.2.2.2)
def RD (e : Nat) (M0 M : Mem) (S : List SD) (k o a : Int) : Prop := frR e M0 M ∧ stp e M S ∧ M 13 2 = k ∧ M 13 3 = o ∧ M 13 4 = a
theorem frR_set {e c : Nat} {M0 M : Mem} {i v : Int} (h : frR e M0 M) (hc : rcell e c i) : frR e M0 (mset M c i v) := by
  intro c' i' h'
  unfold mset
  rw [if_neg (by rintro ⟨rfl, rfl⟩; exact h' hc)]
  exact h c' i' h'
section RDs
variable {e : Nat} {M0 M : Mem} {S : List SD} {k o a : Int}
theorem stp_fr {M' : Mem} (h : stp e M S) (h2 : ∀ c i, 20 + 9 * e ≤ c → c ≤ 26 + 9 * e → M' c i = M c i) : stp e M' S := by
  refine ⟨by rw [h2 _ _ (by omega) (by omega)]; exact h.1, fun i x hx => ?_⟩
  rw [h2 _ _ (by omega) (by omega), h2 _ _ (by omega) (by omega), h2 _ _ (by omega) (by omega), h2 _ _ (by omega) (by omega), h2 _ _ (by omega) (by omega), h2 _ _ (by omega) (by omega)]
  exact h.2 i x hx
theorem RD_sk {x : Int} (h : RD e M0 M S k o a) : RD e M0 (mset M 13 2 x) S x o a :=
  ⟨frR_set h.1 (Or.inl ⟨rfl, by omega⟩), stp_fr h.2.1 (fun c i h1 h2 => mset_ne (by omega)), rfl, h.2.2.2.1, h.2.2.2.2⟩
theorem RD_so {x : Int} (h : RD e M0 M S k o a) : RD e M0 (mset M 13 3 x) S k x a :=
  ⟨frR_set h.1 (Or.inl ⟨rfl, by omega⟩), stp_fr h.2.1 (fun c i h1 h2 => mset_ne (by omega)), h.2.2.1, rfl, h.2.2.2.2⟩
theorem RD_sa {x : Int} (h : RD e M0 M S k o a) : RD e M0 (mset M 13 4 x) S k o x :=
  ⟨frR_set h.1 (Or.inl ⟨rfl, by omega⟩), stp_fr h.2.1 (fun c i h1 h2 => mset_ne (by omega)), h.2.2.1, h.2.2.2.1, rfl⟩
theorem addT_fr {c f s t : Int} {c' : Nat} {i : Int} (h : ¬ (20 + 9 * e ≤ c' ∧ c' ≤ 24 + 9 * e)) : addT e M c f s t c' i = M c' i := by
  unfold addT
  rw [mset_ne (by omega), mset_ne (by omega), mset_ne (by omega), mset_ne (by omega), mset_ne (by omega)]
theorem addT_6 {c f s t : Int} : addT e M c f s t (20 + 9 * e) 6 = M (20 + 9 * e) 6 + 1 := by
  unfold addT; exact mset_eq rfl
theorem addT_1 {c f s t i : Int} : addT e M c f s t (21 + 9 * e) i = if i = M (20 + 9 * e) 6 then c else M (21 + 9 * e) i := by
  unfold addT
  rw [mset_ne (by omega), mset_ne (by omega), mset_ne (by omega), mset_ne (by omega)]; unfold mset; simp
theorem addT_2 {c f s t i : Int} : addT e M c f s t (22 + 9 * e) i = if i = M (20 + 9 * e) 6 then f else M (22 + 9 * e) i := by
  unfold addT
  rw [mset_ne (by omega), mset_ne (by omega), mset_ne (by omega)]; unfold mset; simp
theorem addT_3 {c f s t i : Int} : addT e M c f s t (23 + 9 * e) i = if i = M (20 + 9 * e) 6 then s else M (23 + 9 * e) i := by
  unfold addT
  rw [mset_ne (by omega), mset_ne (by omega)]; unfold mset; simp
theorem addT_4 {c f s t i : Int} : addT e M c f s t (24 + 9 * e) i = if i = M (20 + 9 * e) 6 then t else M (24 + 9 * e) i := by
  unfold addT
  rw [mset_ne (by omega)]; unfold mset; simp
theorem stp_add {c f s t x y : Int} (h : stp e M S) (hc : ¬ c = 137) : stp e (addT e M c f s t) (S ++ [(c, f, s, t, x, y)]) := by
  refine ⟨by rw [addT_6, h.1]; simp, fun i z hz => ?_⟩
  rw [addT_1, addT_2, addT_3, addT_4, addT_fr (by omega), addT_fr (by omega), h.1]
  by_cases hi : i = S.length
  · subst hi
    rw [List.getElem?_append_right (Nat.le_refl _)] at hz
    simp at hz
    subst hz
    rw [if_pos rfl, if_pos rfl, if_pos rfl, if_pos rfl]
    exact ⟨rfl, rfl, rfl, rfl, fun e => absurd e hc⟩
  · have hl : i < S.length := by
      by_cases hl : i < S.length
      · exact hl
      · rw [List.getElem?_eq_none (by simp; omega)] at hz; cases hz
    rw [List.getElem?_append_left hl] at hz
    rw [if_neg (by omega), if_neg (by omega), if_neg (by omega), if_neg (by omega)]
    exact h.2 i z hz
theorem frR_add {c f s t : Int} (h : frR e M0 M) : frR e M0 (addT e M c f s t) := by
  unfold addT
  exact frR_set (frR_set (frR_set (frR_set (frR_set h (by unfold rcell; omega)) (by unfold rcell; omega)) (by unfold rcell; omega)) (by unfold rcell; omega)) (by unfold rcell; omega)
theorem RD_add {c f s t : Int} (h : RD e M0 M S k o a) (hc : ¬ c = 137) (he : e < 4) : RD e M0 (addT e M c f s t) (S ++ [(c, f, s, t, 0, 0)]) k o a :=
  ⟨frR_add h.1, stp_add h.2.1 hc, by rw [addT_fr (by omega)]; exact h.2.2.1, by rw [addT_fr (by omega)]; exact h.2.2.2.1, by rw [addT_fr (by omega)]; exact h.2.2.2.2⟩
theorem RD_con {x y : Int} (h : RD e M0 M S k o a) (he : e < 4) : RD e M0 (mset (mset (addT e M 137 0 0 0) (25 + 9 * e) (M (20 + 9 * e) 6) x) (26 + 9 * e) (M (20 + 9 * e) 6) y) (S ++ [(137, 0, 0, 0, x, y)]) k o a := by
  refine ⟨frR_set (frR_set (frR_add h.1) (by unfold rcell; omega)) (by unfold rcell; omega), ⟨?_, fun i z hz => ?_⟩, ?_, ?_, ?_⟩
  · rw [mset_ne (by omega), mset_ne (by omega), addT_6, h.2.1.1]; simp
  · rw [mset_ne (by omega), mset_ne (by omega), mset_ne (by omega), mset_ne (by omega), mset_ne (by omega), mset_ne (by omega), mset_ne (by omega), mset_ne (by omega), addT_1, addT_2, addT_3, addT_4, h.2.1.1]
    rw [mset_ne (k := 26 + 9 * e) (k' := 25 + 9 * e) (by omega)]
    by_cases hi : i = S.length
    · subst hi
      rw [List.getElem?_append_right (Nat.le_refl _)] at hz
      simp at hz
      subst hz
      rw [if_pos rfl, if_pos rfl, if_pos rfl, if_pos rfl, mset_eq rfl, mset_eq rfl]
      exact ⟨rfl, rfl, rfl, rfl, fun _ => ⟨rfl, rfl⟩⟩
    · have hl : i < S.length := by
        by_cases hl : i < S.length
        · exact hl
        · rw [List.getElem?_eq_none (by simp; omega)] at hz; cases hz
      rw [List.getElem?_append_left hl] at hz
      rw [if_neg (by omega), if_neg (by omega), if_neg (by omega), if_neg (by omega), mset_ni (by omega), mset_ni (by omega), mset_ne (by omega), addT_fr (by omega), addT_fr (by omega)]
      exact h.2.1.2 i z hz
  · rw [mset_ne (by omega), mset_ne (by omega), addT_fr (by omega)]; exact h.2.2.1
  · rw [mset_ne (by omega), mset_ne (by omega), addT_fr (by omega)]; exact h.2.2.2.1
  · rw [mset_ne (by omega), mset_ne (by omega), addT_fr (by omega)]; exact h.2.2.2.2
theorem RD_lead {i : Nat} {v : Int} (h : RD e M0 M S k o a) (he : e < 4) (hi : i < S.length) : RD e M0 (mset M (23 + 9 * e) i v) (patchS S i v) k o a := by
  refine ⟨frR_set h.1 (by unfold rcell; omega), ⟨?_, fun j z hz => ?_⟩, ?_, ?_, ?_⟩
  · rw [mset_ne (by omega), patch_len]; exact h.2.1.1
  · have hc : ∀ c : Nat, ¬ c = 23 + 9 * e → mset M (23 + 9 * e) i v c j = M c j := fun c hc => mset_ne hc
    rw [hc (21 + 9 * e) (by omega), hc (22 + 9 * e) (by omega), hc (24 + 9 * e) (by omega), hc (25 + 9 * e) (by omega), hc (26 + 9 * e) (by omega)]
    by_cases hj : j = i
    · subst hj
      cases hS : S[j]? with
      | none => rw [List.getElem?_eq_none_iff] at hS; omega
      | some q =>
        obtain ⟨y1, y2, y3, y4, y5, y6⟩ := q
        rw [patch_at hS] at hz
        cases hz
        have := h.2.1.2 j _ hS
        rw [mset_eq rfl]
        exact ⟨this.1, this.2.1, rfl, this.2.2.2⟩
    · rw [patch_ne hj] at hz
      rw [mset_ni (by omega)]
      exact h.2.1.2 j z hz
  · rw [mset_ne (by omega)]; exact h.2.2.1
  · rw [mset_ne (by omega)]; exact h.2.2.2.1
  · rw [mset_ne (by omega)]; exact h.2.2.2.2
theorem RD_nk {k' : Int} (h : RD e M0 M S k o a) (hk : k = k') : RD e M0 M S k' o a := hk ▸ h
theorem RD_k (h : RD e M0 M S k o a) : M 13 2 = k := h.2.2.1
theorem RD_o (h : RD e M0 M S k o a) : M 13 3 = o := h.2.2.2.1
theorem RD_a (h : RD e M0 M S k o a) : M 13 4 = a := h.2.2.2.2
theorem RD_n (h : RD e M0 M S k o a) : M (20 + 9 * e) 6 = S.length := h.2.1.1
theorem RD_st (h : RD e M0 M S k o a) (he : e < 4) (hst : M0 13 1 = ((20 + 9 * e : Nat) : Int)) : M 13 1 = ((20 + 9 * e : Nat) : Int) := by
  rw [h.1 13 1 (by unfold rcell; omega)]; exact hst
theorem RD_TR {T W : Int → Int} {n : Int} (h : RD e M0 M S k o a) (he : e < 4) (hTR : TR M0 T W n) : TR M T W n := TR_fr hTR (fun c i h1 h2 => h.1 c i (by unfold rcell; omega))
/-- what a reading method leaves -/
def RQ (e : Nat) (M0 : Mem) (o0 : Int) (R : Option DS) (r : Option PV) (M' : Mem) : Prop := (R = none ∧ r = some (vi (-1)) ∧ frR e M0 M' ∧ M' 13 3 = o0) ∨ ∃ k N S o a c, R = some (k, N, S, o, a, c) ∧ r = some (vi (ts S)) ∧ RD e M0 M' S k o a
end RDs
section GP
variable {X : WX} {g : SG} {d k0 kE : Nat} {y : MethodName} {cc : ByteArray} {nL : Nat} {ret : Option FieldType} {Q : Option PV → Mem → Prop} {pc : Nat} {ls : List (Nat × PV)} {st : List PV} {K : Nat} {M : Mem}
theorem G_abs {R : Mem → Prop} (h : R M) (k : ∀ M', R M' → G X g d k0 kE y cc nL ret Q pc ls st K M') : G X g d k0 kE y cc nL ret Q pc ls st K M := k M h
end GP
