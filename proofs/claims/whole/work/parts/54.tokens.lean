/-- the text that is split: characters f, of evaluation e -/
def LT (e : Nat) (f : Int → Int) (len : Int) (M : Mem) : Prop := M 14 4 = ((27 + 9 * e : Nat) : Int) ∧ M 14 5 = len ∧ (0 ≤ len ∧ len ≤ 40) ∧ (∀ k, 0 ≤ k → k < len → M (27 + 9 * e) k = f k ∧ 32 ≤ f k ∧ f k ≤ 126) ∧ ∀ k, len ≤ k → f k = 0
def addK (M : Mem) (c k n : Int) : Mem := mset (mset (mset (mset M 15 (M 14 3) c) 16 (M 14 3) k) 17 (M 14 3) n) 14 3 (M 14 3 + 1)
theorem LT_f {e : Nat} {f : Int → Int} {len : Int} {M : Mem} (h : LT e f len M) {k : Int} (hk : 0 ≤ k) : (k < len → 32 ≤ f k) ∧ 0 ≤ f k ∧ f k ≤ 126 ∧ (len ≤ k → f k = 0) := by
  refine ⟨fun h1 => (h.2.2.2.1 k hk h1).2.1, ?_⟩
  by_cases h1 : k < len
  · have := h.2.2.2.1 k hk h1; omega
  · have := h.2.2.2.2 k (by omega); omega
def sigD (c d f : Int) : Int := if c = 60 then (if d = 60 then 130 else if d = 61 then 128 else c) else if c = 62 then (if d = 62 then (if f = 62 then 132 else 131) else if d = 61 then 129 else c)
  else if c = 61 then (if d = 61 then 133 else 0) else if c = 33 then (if d = 61 then 134 else c) else if c = 38 then (if d = 38 then 135 else c) else if c = 124 then (if d = 124 then 136 else c) else tcode (sgT c 0 0)
def bmB (c : Int) : Bool := (List.range 14).any (fun j => decide (bysD 10 j = c))
theorem bmB_e {c : Int} : bymem 10 c ↔ bmB c = true := by
  unfold bmB bymem
  rw [List.any_eq_true]
  exact ⟨fun ⟨j, h1, h2⟩ => ⟨j, List.mem_range.mpr h1, decide_eq_true h2⟩, fun ⟨j, h1, h2⟩ => ⟨j, List.mem_range.mp h1, of_decide_eq_true h2⟩⟩
theorem bm_dec {c : Int} (hc : 32 ≤ c ∧ c ≤ 126) (h1 : ¬ c = 33) (h2 : ¬ c = 38) (h3 : ¬ c = 60) (h4 : ¬ c = 61) (h5 : ¬ c = 62) (h6 : ¬ c = 124) : (bymem 10 c → tcode (sgT c 0 0) = c ∧ ¬ sgT c 0 0 = 0) ∧ (¬ bymem 10 c → sgT c 0 0 = 0) := by
  obtain ⟨n, rfl⟩ := Int.eq_ofNat_of_zero_le (show 0 ≤ c by omega)
  have key : ∀ n : Nat, n < 127 → (32 ≤ n ∧ ¬ (n = 33 ∨ n = 38 ∨ n = 60 ∨ n = 61 ∨ n = 62 ∨ n = 124)) → (bmB n = true → tcode (sgT n 0 0) = n ∧ ¬ sgT n 0 0 = 0) ∧ (¬ bmB n = true → sgT n 0 0 = 0) := by decide +kernel
  have hk := key n (by omega) (by omega)
  exact ⟨fun h => hk.1 (bmB_e.mp h), fun h => hk.2 (fun h2 => h (bmB_e.mpr h2))⟩
theorem sgT_else {c d f : Int} (h1 : ¬ c = 33) (h2 : ¬ c = 38) (h3 : ¬ c = 60) (h4 : ¬ c = 61) (h5 : ¬ c = 62) (h6 : ¬ c = 124) : sgT c d f = sgT c 0 0 ∧ sgN c d f = 1 := by
  unfold sgT sgN; simp [h1, h2, h3, h4, h5, h6]
theorem sgT_rng (c d f : Int) : sgT c d f = 0 ∨ (20 ≤ sgT c d f ∧ sgT c d f < 48) := by unfold sgT sgN; grind (splits := 60)
theorem tcl_33 : tcode 33 = 33 := by decide
theorem tcl_34 : tcode 34 = 60 := by decide
theorem tcl_35 : tcode 35 = 128 := by decide
theorem tcl_36 : tcode 36 = 62 := by decide
theorem tcl_37 : tcode 37 = 129 := by decide
theorem tcl_38 : tcode 38 = 130 := by decide
theorem tcl_39 : tcode 39 = 131 := by decide
theorem tcl_40 : tcode 40 = 132 := by decide
theorem tcl_41 : tcode 41 = 133 := by decide
theorem tcl_42 : tcode 42 = 134 := by decide
theorem tcl_43 : tcode 43 = 38 := by decide
theorem tcl_44 : tcode 44 = 135 := by decide
theorem tcl_45 : tcode 45 = 124 := by decide
theorem tcl_46 : tcode 46 = 136 := by decide
theorem tcl_0 : tcode 0 = 0 := by decide
theorem sig_t {c d f : Int} (hd : 0 ≤ d) (hf : 0 ≤ f) : sigD c d f = tcode (sgT c d f) ∧ (¬ sgT c d f = 0 → sgN c d f = if sigD c d f = 132 then 3 else if sigD c d f < 128 then 1 else 2) := by
  by_cases h3 : c = 60
  · subst h3
    by_cases q0 : d = 60
    · skip
      refine ⟨?_, fun _ => ?_⟩ <;> simp [sigD, sgT, sgN, tcl_33, tcl_34, tcl_35, tcl_36, tcl_37, tcl_38, tcl_39, tcl_40, tcl_41, tcl_42, tcl_43, tcl_44, tcl_45, tcl_46, tcl_0, q0]
    · skip
      by_cases q1 : d = 61
      · skip
        refine ⟨?_, fun _ => ?_⟩ <;> simp [sigD, sgT, sgN, tcl_33, tcl_34, tcl_35, tcl_36, tcl_37, tcl_38, tcl_39, tcl_40, tcl_41, tcl_42, tcl_43, tcl_44, tcl_45, tcl_46, tcl_0, q0, q1]
      · skip
        refine ⟨?_, fun _ => ?_⟩ <;> simp [sigD, sgT, sgN, tcl_33, tcl_34, tcl_35, tcl_36, tcl_37, tcl_38, tcl_39, tcl_40, tcl_41, tcl_42, tcl_43, tcl_44, tcl_45, tcl_46, tcl_0, q0, q1]
  by_cases h5 : c = 62
  · subst h5
    by_cases q0 : d = 62
    · skip
      by_cases q1 : f = 62
      · skip
        refine ⟨?_, fun _ => ?_⟩ <;> simp [sigD, sgT, sgN, tcl_33, tcl_34, tcl_35, tcl_36, tcl_37, tcl_38, tcl_39, tcl_40, tcl_41, tcl_42, tcl_43, tcl_44, tcl_45, tcl_46, tcl_0, q0, q1]
      · skip
        refine ⟨?_, fun _ => ?_⟩ <;> simp [sigD, sgT, sgN, tcl_33, tcl_34, tcl_35, tcl_36, tcl_37, tcl_38, tcl_39, tcl_40, tcl_41, tcl_42, tcl_43, tcl_44, tcl_45, tcl_46, tcl_0, q0, q1]
    · skip
      by_cases q1 : d = 61
      · skip
        refine ⟨?_, fun _ => ?_⟩ <;> simp [sigD, sgT, sgN, tcl_33, tcl_34, tcl_35, tcl_36, tcl_37, tcl_38, tcl_39, tcl_40, tcl_41, tcl_42, tcl_43, tcl_44, tcl_45, tcl_46, tcl_0, q0, q1]
      · skip
        refine ⟨?_, fun _ => ?_⟩ <;> simp [sigD, sgT, sgN, tcl_33, tcl_34, tcl_35, tcl_36, tcl_37, tcl_38, tcl_39, tcl_40, tcl_41, tcl_42, tcl_43, tcl_44, tcl_45, tcl_46, tcl_0, q0, q1]
  by_cases h4 : c = 61
  · subst h4
    by_cases q0 : d = 61
    · skip
      refine ⟨?_, fun _ => ?_⟩ <;> simp [sigD, sgT, sgN, tcl_33, tcl_34, tcl_35, tcl_36, tcl_37, tcl_38, tcl_39, tcl_40, tcl_41, tcl_42, tcl_43, tcl_44, tcl_45, tcl_46, tcl_0, q0]
    · skip
      refine ⟨?_, fun _ => ?_⟩ <;> simp [sigD, sgT, sgN, tcl_33, tcl_34, tcl_35, tcl_36, tcl_37, tcl_38, tcl_39, tcl_40, tcl_41, tcl_42, tcl_43, tcl_44, tcl_45, tcl_46, tcl_0, q0]
  by_cases h1 : c = 33
  · subst h1
    by_cases q0 : d = 61
    · skip
      refine ⟨?_, fun _ => ?_⟩ <;> simp [sigD, sgT, sgN, tcl_33, tcl_34, tcl_35, tcl_36, tcl_37, tcl_38, tcl_39, tcl_40, tcl_41, tcl_42, tcl_43, tcl_44, tcl_45, tcl_46, tcl_0, q0]
    · skip
      refine ⟨?_, fun _ => ?_⟩ <;> simp [sigD, sgT, sgN, tcl_33, tcl_34, tcl_35, tcl_36, tcl_37, tcl_38, tcl_39, tcl_40, tcl_41, tcl_42, tcl_43, tcl_44, tcl_45, tcl_46, tcl_0, q0]
  by_cases h2 : c = 38
  · subst h2
    by_cases q0 : d = 38
    · skip
      refine ⟨?_, fun _ => ?_⟩ <;> simp [sigD, sgT, sgN, tcl_33, tcl_34, tcl_35, tcl_36, tcl_37, tcl_38, tcl_39, tcl_40, tcl_41, tcl_42, tcl_43, tcl_44, tcl_45, tcl_46, tcl_0, q0]
    · skip
      refine ⟨?_, fun _ => ?_⟩ <;> simp [sigD, sgT, sgN, tcl_33, tcl_34, tcl_35, tcl_36, tcl_37, tcl_38, tcl_39, tcl_40, tcl_41, tcl_42, tcl_43, tcl_44, tcl_45, tcl_46, tcl_0, q0]
  by_cases h6 : c = 124
  · subst h6
    by_cases q0 : d = 124
    · skip
      refine ⟨?_, fun _ => ?_⟩ <;> simp [sigD, sgT, sgN, tcl_33, tcl_34, tcl_35, tcl_36, tcl_37, tcl_38, tcl_39, tcl_40, tcl_41, tcl_42, tcl_43, tcl_44, tcl_45, tcl_46, tcl_0, q0]
    · skip
      refine ⟨?_, fun _ => ?_⟩ <;> simp [sigD, sgT, sgN, tcl_33, tcl_34, tcl_35, tcl_36, tcl_37, tcl_38, tcl_39, tcl_40, tcl_41, tcl_42, tcl_43, tcl_44, tcl_45, tcl_46, tcl_0, q0]
  · have e := @sgT_else c d f h1 h2 h3 h4 h5 h6
    have e2 : sigD c d f = tcode (sgT c 0 0) := by unfold sigD; rw [if_neg h3, if_neg h5, if_neg h4, if_neg h1, if_neg h2, if_neg h6]
    rw [e2, e.1, e.2]
    refine ⟨rfl, fun hz => ?_⟩
    have hr := sgT_rng c 0 0
    have h9 : ∀ n : Nat, n < 48 → (20 ≤ n ∧ ¬ (n = 35 ∨ n = 37 ∨ n = 38 ∨ n = 39 ∨ n = 40 ∨ n = 41 ∨ n = 42 ∨ n = 44 ∨ n = 46)) → tcode n < 128 := by decide +kernel
    have h10 : ¬ sgT c 0 0 = 35 ∧ ¬ sgT c 0 0 = 37 ∧ ¬ sgT c 0 0 = 38 ∧ ¬ sgT c 0 0 = 39 ∧ ¬ sgT c 0 0 = 40 ∧ ¬ sgT c 0 0 = 41 ∧ ¬ sgT c 0 0 = 42 ∧ ¬ sgT c 0 0 = 44 ∧ ¬ sgT c 0 0 = 46 := by
      unfold sgT; simp [h1, h2, h3, h4, h5, h6]; grind (splits := 60)
    obtain ⟨q, hq⟩ := Int.eq_ofNat_of_zero_le (show 0 ≤ sgT c 0 0 by omega)
    rw [hq] at hr hz h10 ⊢
    have h11 := h9 q (by omega) (by omega)
    rw [if_neg (by omega), if_pos h11]
theorem d_To_isLetter_0 : decode b_To_isLetter 0 = .ok (.iload_n 0, 1) := by decide +kernel
theorem d_To_isLetter_1 : decode b_To_isLetter 1 = .ok (.bipush 97, 2) := by decide +kernel
theorem d_To_isLetter_3 : decode b_To_isLetter 3 = .ok (.if_icmp .lt 9, 3) := by decide +kernel
theorem d_To_isLetter_6 : decode b_To_isLetter 6 = .ok (.iload_n 0, 1) := by decide +kernel
theorem d_To_isLetter_7 : decode b_To_isLetter 7 = .ok (.bipush 122, 2) := by decide +kernel
theorem d_To_isLetter_9 : decode b_To_isLetter 9 = .ok (.if_icmp .le 15, 3) := by decide +kernel
theorem d_To_isLetter_12 : decode b_To_isLetter 12 = .ok (.iload_n 0, 1) := by decide +kernel
theorem d_To_isLetter_13 : decode b_To_isLetter 13 = .ok (.bipush 65, 2) := by decide +kernel
theorem d_To_isLetter_15 : decode b_To_isLetter 15 = .ok (.if_icmp .lt 13, 3) := by decide +kernel
theorem d_To_isLetter_18 : decode b_To_isLetter 18 = .ok (.iload_n 0, 1) := by decide +kernel
theorem d_To_isLetter_19 : decode b_To_isLetter 19 = .ok (.bipush 90, 2) := by decide +kernel
theorem d_To_isLetter_21 : decode b_To_isLetter 21 = .ok (.if_icmp .gt 7, 3) := by decide +kernel
theorem d_To_isLetter_24 : decode b_To_isLetter 24 = .ok (.iconst 1, 1) := by decide +kernel
theorem d_To_isLetter_25 : decode b_To_isLetter 25 = .ok (.goto 4, 3) := by decide +kernel
theorem d_To_isLetter_28 : decode b_To_isLetter 28 = .ok (.iconst 0, 1) := by decide +kernel
theorem d_To_isLetter_29 : decode b_To_isLetter 29 = .ok (.ireturn, 1) := by decide +kernel
theorem g_To_isLetter {X : WX} {d : Nat} (hd : 0 ≤ d) (c : Int) (M : Mem)  : MG X gt d KE KE y_To_isLetter b_To_isLetter 1 (some .boolean) [vi c] M (fun r M' => r = some (vi (b2i (letB c))) ∧ M' = M) := by
  refine MG_of_G (by decide) (Nat.le_of_ble_eq_true rfl) (Nat.le_refl _) (by decide) ?_
  show G X gt d KE KE y_To_isLetter b_To_isLetter 1 (some .boolean) _ 0 [(0, vi c)] [] KE M
  refine G_rngl (i := 0) rfl (fun hr0 => ?_)
  refine G_iload (i := 0) (n := 0) (len := 1) (Or.inl ⟨0, rfl, rfl, d_To_isLetter_0⟩) rfl (G_pc (pc' := 1) rfl ?_)
  refine G_bipush (n := 97) d_To_isLetter_1 (by decide) (G_pc (pc' := 3) rfl ?_)
  refine G_icmp_lt (tgt := 12) d_To_isLetter_3 (by decide) (fun h1 => ?_) (fun h1 => G_pc (pc' := 6) rfl ?_)
  · skip
    refine G_iload (i := 0) (n := 0) (len := 1) (Or.inl ⟨0, rfl, rfl, d_To_isLetter_12⟩) rfl (G_pc (pc' := 13) rfl ?_)
    refine G_bipush (n := 65) d_To_isLetter_13 (by decide) (G_pc (pc' := 15) rfl ?_)
    refine G_icmp_lt (tgt := 28) d_To_isLetter_15 (by decide) (fun h2 => ?_) (fun h2 => G_pc (pc' := 18) rfl ?_)
    · skip
      refine G_iconst (n := 0) d_To_isLetter_28 (by decide) (G_pc (pc' := 29) rfl ?_)
      refine G_iret d_To_isLetter_29 rfl (tokZ (by decide)) rfl rfl ?_
      exact ret_f (letB_f.mpr (by omega)) rfl
    · skip
      refine G_iload (i := 0) (n := 0) (len := 1) (Or.inl ⟨0, rfl, rfl, d_To_isLetter_18⟩) rfl (G_pc (pc' := 19) rfl ?_)
      refine G_bipush (n := 90) d_To_isLetter_19 (by decide) (G_pc (pc' := 21) rfl ?_)
      refine G_icmp_gt (tgt := 28) d_To_isLetter_21 (by decide) (fun h3 => ?_) (fun h3 => G_pc (pc' := 24) rfl ?_)
      · skip
        refine G_iconst (n := 0) d_To_isLetter_28 (by decide) (G_pc (pc' := 29) rfl ?_)
        refine G_iret d_To_isLetter_29 rfl (tokZ (by decide)) rfl rfl ?_
        exact ret_f (letB_f.mpr (by omega)) rfl
      · skip
        refine G_iconst (n := 1) d_To_isLetter_24 (by decide) (G_pc (pc' := 25) rfl ?_)
        refine G_goto (tgt := 29) d_To_isLetter_25 (by decide) ?_
        refine G_iret d_To_isLetter_29 rfl (tokZ (by decide)) rfl rfl ?_
        exact ret_t (letB_t.mpr (by omega)) rfl
  · skip
    refine G_iload (i := 0) (n := 0) (len := 1) (Or.inl ⟨0, rfl, rfl, d_To_isLetter_6⟩) rfl (G_pc (pc' := 7) rfl ?_)
    refine G_bipush (n := 122) d_To_isLetter_7 (by decide) (G_pc (pc' := 9) rfl ?_)
    refine G_icmp_le (tgt := 24) d_To_isLetter_9 (by decide) (fun h4 => ?_) (fun h4 => G_pc (pc' := 12) rfl ?_)
    · skip
      refine G_iconst (n := 1) d_To_isLetter_24 (by decide) (G_pc (pc' := 25) rfl ?_)
      refine G_goto (tgt := 29) d_To_isLetter_25 (by decide) ?_
      refine G_iret d_To_isLetter_29 rfl (tokZ (by decide)) rfl rfl ?_
      exact ret_t (letB_t.mpr (by omega)) rfl
    · skip
      refine G_iload (i := 0) (n := 0) (len := 1) (Or.inl ⟨0, rfl, rfl, d_To_isLetter_12⟩) rfl (G_pc (pc' := 13) rfl ?_)
      refine G_bipush (n := 65) d_To_isLetter_13 (by decide) (G_pc (pc' := 15) rfl ?_)
      refine G_icmp_lt (tgt := 28) d_To_isLetter_15 (by decide) (fun h5 => ?_) (fun h5 => G_pc (pc' := 18) rfl ?_)
      · skip
        refine G_iconst (n := 0) d_To_isLetter_28 (by decide) (G_pc (pc' := 29) rfl ?_)
        refine G_iret d_To_isLetter_29 rfl (tokZ (by decide)) rfl rfl ?_
        exact ret_f (letB_f.mpr (by omega)) rfl
      · skip
        refine G_iload (i := 0) (n := 0) (len := 1) (Or.inl ⟨0, rfl, rfl, d_To_isLetter_18⟩) rfl (G_pc (pc' := 19) rfl ?_)
        refine G_bipush (n := 90) d_To_isLetter_19 (by decide) (G_pc (pc' := 21) rfl ?_)
        refine G_icmp_gt (tgt := 28) d_To_isLetter_21 (by decide) (fun h6 => ?_) (fun h6 => G_pc (pc' := 24) rfl ?_)
        · skip
          refine G_iconst (n := 0) d_To_isLetter_28 (by decide) (G_pc (pc' := 29) rfl ?_)
          refine G_iret d_To_isLetter_29 rfl (tokZ (by decide)) rfl rfl ?_
          exact ret_f (letB_f.mpr (by omega)) rfl
        · skip
          refine G_iconst (n := 1) d_To_isLetter_24 (by decide) (G_pc (pc' := 25) rfl ?_)
          refine G_goto (tgt := 29) d_To_isLetter_25 (by decide) ?_
          refine G_iret d_To_isLetter_29 rfl (tokZ (by decide)) rfl rfl ?_
          exact ret_t (letB_t.mpr (by omega)) rfl

theorem d_To_isDigit_0 : decode b_To_isDigit 0 = .ok (.iload_n 0, 1) := by decide +kernel
theorem d_To_isDigit_1 : decode b_To_isDigit 1 = .ok (.bipush 48, 2) := by decide +kernel
theorem d_To_isDigit_3 : decode b_To_isDigit 3 = .ok (.if_icmp .lt 13, 3) := by decide +kernel
theorem d_To_isDigit_6 : decode b_To_isDigit 6 = .ok (.iload_n 0, 1) := by decide +kernel
theorem d_To_isDigit_7 : decode b_To_isDigit 7 = .ok (.bipush 57, 2) := by decide +kernel
theorem d_To_isDigit_9 : decode b_To_isDigit 9 = .ok (.if_icmp .gt 7, 3) := by decide +kernel
theorem d_To_isDigit_12 : decode b_To_isDigit 12 = .ok (.iconst 1, 1) := by decide +kernel
theorem d_To_isDigit_13 : decode b_To_isDigit 13 = .ok (.goto 4, 3) := by decide +kernel
theorem d_To_isDigit_16 : decode b_To_isDigit 16 = .ok (.iconst 0, 1) := by decide +kernel
theorem d_To_isDigit_17 : decode b_To_isDigit 17 = .ok (.ireturn, 1) := by decide +kernel
theorem g_To_isDigit {X : WX} {d : Nat} (hd : 0 ≤ d) (c : Int) (M : Mem)  : MG X gt d KE KE y_To_isDigit b_To_isDigit 1 (some .boolean) [vi c] M (fun r M' => r = some (vi (b2i (digB c))) ∧ M' = M) := by
  refine MG_of_G (by decide) (Nat.le_of_ble_eq_true rfl) (Nat.le_refl _) (by decide) ?_
  show G X gt d KE KE y_To_isDigit b_To_isDigit 1 (some .boolean) _ 0 [(0, vi c)] [] KE M
  refine G_rngl (i := 0) rfl (fun hr0 => ?_)
  refine G_iload (i := 0) (n := 0) (len := 1) (Or.inl ⟨0, rfl, rfl, d_To_isDigit_0⟩) rfl (G_pc (pc' := 1) rfl ?_)
  refine G_bipush (n := 48) d_To_isDigit_1 (by decide) (G_pc (pc' := 3) rfl ?_)
  refine G_icmp_lt (tgt := 16) d_To_isDigit_3 (by decide) (fun h1 => ?_) (fun h1 => G_pc (pc' := 6) rfl ?_)
  · skip
    refine G_iconst (n := 0) d_To_isDigit_16 (by decide) (G_pc (pc' := 17) rfl ?_)
    refine G_iret d_To_isDigit_17 rfl (tokZ (by decide)) rfl rfl ?_
    exact ret_f (digB_f.mpr (by omega)) rfl
  · skip
    refine G_iload (i := 0) (n := 0) (len := 1) (Or.inl ⟨0, rfl, rfl, d_To_isDigit_6⟩) rfl (G_pc (pc' := 7) rfl ?_)
    refine G_bipush (n := 57) d_To_isDigit_7 (by decide) (G_pc (pc' := 9) rfl ?_)
    refine G_icmp_gt (tgt := 16) d_To_isDigit_9 (by decide) (fun h2 => ?_) (fun h2 => G_pc (pc' := 12) rfl ?_)
    · skip
      refine G_iconst (n := 0) d_To_isDigit_16 (by decide) (G_pc (pc' := 17) rfl ?_)
      refine G_iret d_To_isDigit_17 rfl (tokZ (by decide)) rfl rfl ?_
      exact ret_f (digB_f.mpr (by omega)) rfl
    · skip
      refine G_iconst (n := 1) d_To_isDigit_12 (by decide) (G_pc (pc' := 13) rfl ?_)
      refine G_goto (tgt := 17) d_To_isDigit_13 (by decide) ?_
      refine G_iret d_To_isDigit_17 rfl (tokZ (by decide)) rfl rfl ?_
      exact ret_t (digB_t.mpr (by omega)) rfl

theorem d_To_charAt_0 : decode b_To_charAt 0 = .ok (.iload_n 1, 1) := by decide +kernel
theorem d_To_charAt_1 : decode b_To_charAt 1 = .ok (.aload_n 0, 1) := by decide +kernel
theorem d_To_charAt_2 : decode b_To_charAt 2 = .ok (.getfield 26, 3) := by decide +kernel
theorem d_To_charAt_5 : decode b_To_charAt 5 = .ok (.if_icmp .ge 12, 3) := by decide +kernel
theorem d_To_charAt_8 : decode b_To_charAt 8 = .ok (.aload_n 0, 1) := by decide +kernel
theorem d_To_charAt_9 : decode b_To_charAt 9 = .ok (.getfield 22, 3) := by decide +kernel
theorem d_To_charAt_12 : decode b_To_charAt 12 = .ok (.iload_n 1, 1) := by decide +kernel
theorem d_To_charAt_13 : decode b_To_charAt 13 = .ok (.caload, 1) := by decide +kernel
theorem d_To_charAt_14 : decode b_To_charAt 14 = .ok (.goto 4, 3) := by decide +kernel
theorem d_To_charAt_17 : decode b_To_charAt 17 = .ok (.iconst 0, 1) := by decide +kernel
theorem d_To_charAt_18 : decode b_To_charAt 18 = .ok (.ireturn, 1) := by decide +kernel
theorem g_To_charAt {X : WX} {d : Nat} (hd : 0 ≤ d) (e : Nat) (f : Int → Int) (len : Int) (k : Int) (M : Mem) (he : e < 4) (hL : LT e f len M) (hk : 0 ≤ k) : MG X gt d KE KE y_To_charAt b_To_charAt 2 (some .char) [vr 14, vi k] M (fun r M' => r = some (vi (f k)) ∧ M' = M) := by
  refine MG_of_G (by decide) (Nat.le_of_ble_eq_true rfl) (Nat.le_refl _) (by decide) ?_
  show G X gt d KE KE y_To_charAt b_To_charAt 2 (some .char) _ 0 [(0, vr 14), (1, vi k)] [] KE M
  have hlen := hL.2.2.1
  refine G_rngl (i := 1) rfl (fun hr1 => ?_)
  refine G_iload (i := 1) (n := 1) (len := 1) (Or.inl ⟨1, rfl, rfl, d_To_charAt_0⟩) rfl (G_pc (pc' := 1) rfl ?_)
  refine G_aload (i := 0) (n := 0) (len := 1) (Or.inl ⟨0, rfl, rfl, d_To_charAt_1⟩) rfl (by decide) (G_pc (pc' := 2) rfl ?_)
  refine G_get (o := 14) (c := 7) (k := 5) (v := M 14 5) d_To_charAt_2 fl_To_26 rfl (by decide) (by decide) rfl rfl (G_pc (pc' := 5) rfl ?_)
  rw [show M 14 5 = len from hL.2.1]
  refine G_icmp_ge (tgt := 17) d_To_charAt_5 (by decide) (fun h1 => ?_) (fun h1 => G_pc (pc' := 8) rfl ?_)
  · skip
    refine G_iconst (n := 0) d_To_charAt_17 (by decide) (G_pc (pc' := 18) rfl ?_)
    refine G_iret d_To_charAt_18 rfl (tokC (by decide)) rfl rfl ?_
    exact ret_e (hL.2.2.2.2 k (by omega)).symm rfl
  · skip
    refine G_aload (i := 0) (n := 0) (len := 1) (Or.inl ⟨0, rfl, rfl, d_To_charAt_8⟩) rfl (by decide) (G_pc (pc' := 9) rfl ?_)
    refine G_get (o := 14) (c := 7) (k := 4) (v := M 14 4) d_To_charAt_9 fl_To_22 rfl (by decide) (by decide) rfl rfl (G_pc (pc' := 12) rfl ?_)
    rw [show M 14 4 = ((27 + 9 * e : Nat) : Int) from hL.1]
    refine G_iload (i := 1) (n := 1) (len := 1) (Or.inl ⟨1, rfl, rfl, d_To_charAt_12⟩) rfl (G_pc (pc' := 13) rfl ?_)
    refine G_caload (o := (27 + 9 * e)) (n := 40) (i := k) (v := M (27 + 9 * e) k) d_To_charAt_13 (kd_S6 he) ⟨by omega, (by show 27 + 9 * e < 87; omega)⟩ (by omega) (rdw (gn_S6 he _) (by first | rfl | (repeat (first | rfl | exact mset_eq (by omega) | refine (mset_ne (by omega)).trans ?_ | refine (mset_ni (by omega)).trans ?_)))) (fun t2 => G_pc (pc' := 14) rfl ?_)
    have t2 := tok_c t2
    have cx3 := hL.2.2.2.1 k (by omega) (by omega)
    rw [show M (27 + 9 * e) k = f k from cx3.1]
    refine G_goto (tgt := 18) d_To_charAt_14 (by decide) ?_
    refine G_iret d_To_charAt_18 rfl (tokC (by omega)) rfl rfl ?_
    exact ret_e rfl rfl

theorem d_To_add_0 : decode b_To_add 0 = .ok (.aload_n 0, 1) := by decide +kernel
theorem d_To_add_1 : decode b_To_add 1 = .ok (.getfield 9, 3) := by decide +kernel
theorem d_To_add_4 : decode b_To_add 4 = .ok (.aload_n 0, 1) := by decide +kernel
theorem d_To_add_5 : decode b_To_add 5 = .ok (.getfield 30, 3) := by decide +kernel
theorem d_To_add_8 : decode b_To_add 8 = .ok (.iload_n 1, 1) := by decide +kernel
theorem d_To_add_9 : decode b_To_add 9 = .ok (.iastore, 1) := by decide +kernel
theorem d_To_add_10 : decode b_To_add 10 = .ok (.aload_n 0, 1) := by decide +kernel
theorem d_To_add_11 : decode b_To_add 11 = .ok (.getfield 15, 3) := by decide +kernel
theorem d_To_add_14 : decode b_To_add 14 = .ok (.aload_n 0, 1) := by decide +kernel
theorem d_To_add_15 : decode b_To_add 15 = .ok (.getfield 30, 3) := by decide +kernel
theorem d_To_add_18 : decode b_To_add 18 = .ok (.iload_n 2, 1) := by decide +kernel
theorem d_To_add_19 : decode b_To_add 19 = .ok (.iastore, 1) := by decide +kernel
theorem d_To_add_20 : decode b_To_add 20 = .ok (.aload_n 0, 1) := by decide +kernel
theorem d_To_add_21 : decode b_To_add 21 = .ok (.getfield 18, 3) := by decide +kernel
theorem d_To_add_24 : decode b_To_add 24 = .ok (.aload_n 0, 1) := by decide +kernel
theorem d_To_add_25 : decode b_To_add 25 = .ok (.getfield 30, 3) := by decide +kernel
theorem d_To_add_28 : decode b_To_add 28 = .ok (.lload_n 3, 1) := by decide +kernel
theorem d_To_add_29 : decode b_To_add 29 = .ok (.lastore, 1) := by decide +kernel
theorem d_To_add_30 : decode b_To_add 30 = .ok (.aload_n 0, 1) := by decide +kernel
theorem d_To_add_31 : decode b_To_add 31 = .ok (.dup, 1) := by decide +kernel
theorem d_To_add_32 : decode b_To_add 32 = .ok (.getfield 30, 3) := by decide +kernel
theorem d_To_add_35 : decode b_To_add 35 = .ok (.iconst 1, 1) := by decide +kernel
theorem d_To_add_36 : decode b_To_add 36 = .ok (.iadd, 1) := by decide +kernel
theorem d_To_add_37 : decode b_To_add 37 = .ok (.putfield 30, 3) := by decide +kernel
theorem d_To_add_40 : decode b_To_add 40 = .ok (.iload 5, 2) := by decide +kernel
theorem d_To_add_42 : decode b_To_add 42 = .ok (.ireturn, 1) := by decide +kernel
theorem g_To_add {X : WX} {d : Nat} (hd : 0 ≤ d) (c k n b : Int) (M : Mem) (hs : 0 ≤ M 14 3 ∧ M 14 3 < 24) : MG X gt d KE KE y_To_add b_To_add 6 (some .int) [vr 14, vi c, vi k, vl n, vi b] M (fun r M' => r = some (vi b) ∧ M' = addK M c k n) := by
  refine MG_of_G (by decide) (Nat.le_of_ble_eq_true rfl) (Nat.le_refl _) (by decide) ?_
  show G X gt d KE KE y_To_add b_To_add 6 (some .int) _ 0 [(0, vr 14), (1, vi c), (2, vi k), (3, vl n), (5, vi b)] [] KE M
  refine G_rngl (i := 1) rfl (fun hr1 => ?_)
  refine G_rngl (i := 2) rfl (fun hr2 => ?_)
  refine G_rngL (i := 3) rfl (fun hr3 => ?_)
  refine G_rngl (i := 4) rfl (fun hr5 => ?_)
  refine G_aload (i := 0) (n := 0) (len := 1) (Or.inl ⟨0, rfl, rfl, d_To_add_0⟩) rfl (by decide) (G_pc (pc' := 1) rfl ?_)
  refine G_get (o := 14) (c := 7) (k := 0) (v := 15) d_To_add_1 fl_To_9 rfl (by decide) (by decide) rfl rfl (G_pc (pc' := 4) rfl ?_)
  refine G_aload (i := 0) (n := 0) (len := 1) (Or.inl ⟨0, rfl, rfl, d_To_add_4⟩) rfl (by decide) (G_pc (pc' := 5) rfl ?_)
  refine G_get (o := 14) (c := 7) (k := 3) (v := M 14 3) d_To_add_5 fl_To_30 rfl (by decide) (by decide) rfl rfl (G_pc (pc' := 8) rfl ?_)
  refine G_iload (i := 1) (n := 1) (len := 1) (Or.inl ⟨1, rfl, rfl, d_To_add_8⟩) rfl (G_pc (pc' := 9) rfl ?_)
  refine G_iastore (o := 15) (n := 24) (i := M 14 3) (x := c) d_To_add_9 rfl ⟨by decide, by decide⟩ (by decide) (gt_arr rfl _) (by omega) (tokI (by omega)) (G_pc (pc' := 10) rfl ?_)
  refine G_aload (i := 0) (n := 0) (len := 1) (Or.inl ⟨0, rfl, rfl, d_To_add_10⟩) rfl (by decide) (G_pc (pc' := 11) rfl ?_)
  refine G_get (o := 14) (c := 7) (k := 1) (v := 16) d_To_add_11 fl_To_15 rfl (by decide) (by decide) rfl rfl (G_pc (pc' := 14) rfl ?_)
  refine G_aload (i := 0) (n := 0) (len := 1) (Or.inl ⟨0, rfl, rfl, d_To_add_14⟩) rfl (by decide) (G_pc (pc' := 15) rfl ?_)
  refine G_get (o := 14) (c := 7) (k := 3) (v := M 14 3) d_To_add_15 fl_To_30 rfl (by decide) (by decide) rfl rfl (G_pc (pc' := 18) rfl ?_)
  refine G_iload (i := 2) (n := 2) (len := 1) (Or.inl ⟨2, rfl, rfl, d_To_add_18⟩) rfl (G_pc (pc' := 19) rfl ?_)
  refine G_iastore (o := 16) (n := 24) (i := M 14 3) (x := k) d_To_add_19 rfl ⟨by decide, by decide⟩ (by decide) (gt_arr rfl _) (by omega) (tokI (by omega)) (G_pc (pc' := 20) rfl ?_)
  refine G_aload (i := 0) (n := 0) (len := 1) (Or.inl ⟨0, rfl, rfl, d_To_add_20⟩) rfl (by decide) (G_pc (pc' := 21) rfl ?_)
  refine G_get (o := 14) (c := 7) (k := 2) (v := 17) d_To_add_21 fl_To_18 rfl (by decide) (by decide) rfl rfl (G_pc (pc' := 24) rfl ?_)
  refine G_aload (i := 0) (n := 0) (len := 1) (Or.inl ⟨0, rfl, rfl, d_To_add_24⟩) rfl (by decide) (G_pc (pc' := 25) rfl ?_)
  refine G_get (o := 14) (c := 7) (k := 3) (v := M 14 3) d_To_add_25 fl_To_30 rfl (by decide) (by decide) rfl rfl (G_pc (pc' := 28) rfl ?_)
  refine G_lload (i := 3) (n := 3) (len := 1) (Or.inl ⟨3, rfl, rfl, d_To_add_28⟩) rfl (G_pc (pc' := 29) rfl ?_)
  refine G_lastore (o := 17) (n := 24) (i := M 14 3) (x := n) d_To_add_29 rfl ⟨by decide, by decide⟩ (by decide) (gt_arr rfl _) (by omega) (tokJ (by omega)) (G_pc (pc' := 30) rfl ?_)
  refine G_aload (i := 0) (n := 0) (len := 1) (Or.inl ⟨0, rfl, rfl, d_To_add_30⟩) rfl (by decide) (G_pc (pc' := 31) rfl ?_)
  refine G_dup d_To_add_31 (fun _ h => by cases h) (G_pc (pc' := 32) rfl ?_)
  refine G_get (o := 14) (c := 7) (k := 3) (v := M 14 3) d_To_add_32 fl_To_30 rfl (by decide) (by decide) rfl rfl (G_pc (pc' := 35) rfl ?_)
  refine G_iconst (n := 1) d_To_add_35 (by decide) (G_pc (pc' := 36) rfl ?_)
  refine G_iadd d_To_add_36 (by omega) (G_pc (pc' := 37) rfl ?_)
  refine G_putL (o := 14) (c := 7) (k := 3) (ki := 3) (x := (M 14 3) + 1) d_To_add_37 fl_To_30 rfl rfl (by decide) (by decide) (by decide) rfl rfl (tokI (by omega)) rfl (G_pc (pc' := 40) rfl ?_)
  refine G_iload (i := 5) (n := 4) (len := 2) (Or.inr ⟨rfl, d_To_add_40⟩) rfl (G_pc (pc' := 42) rfl ?_)
  refine G_iret d_To_add_42 rfl (tokI (by omega)) rfl rfl ?_
  exact ⟨rfl, rfl⟩

theorem d_To_behindLetters_0 : decode b_To_behindLetters 0 = .ok (.iload_n 1, 1) := by decide +kernel
theorem d_To_behindLetters_1 : decode b_To_behindLetters 1 = .ok (.istore_n 2, 1) := by decide +kernel
theorem d_To_behindLetters_2 : decode b_To_behindLetters 2 = .ok (.iload_n 2, 1) := by decide +kernel
theorem d_To_behindLetters_3 : decode b_To_behindLetters 3 = .ok (.aload_n 0, 1) := by decide +kernel
theorem d_To_behindLetters_4 : decode b_To_behindLetters 4 = .ok (.getfield 26, 3) := by decide +kernel
theorem d_To_behindLetters_7 : decode b_To_behindLetters 7 = .ok (.if_icmp .ge 21, 3) := by decide +kernel
theorem d_To_behindLetters_10 : decode b_To_behindLetters 10 = .ok (.aload_n 0, 1) := by decide +kernel
theorem d_To_behindLetters_11 : decode b_To_behindLetters 11 = .ok (.getfield 22, 3) := by decide +kernel
theorem d_To_behindLetters_14 : decode b_To_behindLetters 14 = .ok (.iload_n 2, 1) := by decide +kernel
theorem d_To_behindLetters_15 : decode b_To_behindLetters 15 = .ok (.caload, 1) := by decide +kernel
theorem d_To_behindLetters_16 : decode b_To_behindLetters 16 = .ok (.invokestatic 37, 3) := by decide +kernel
theorem d_To_behindLetters_19 : decode b_To_behindLetters 19 = .ok (.ifCond .eq 9, 3) := by decide +kernel
theorem d_To_behindLetters_22 : decode b_To_behindLetters 22 = .ok (.iinc 2 1, 3) := by decide +kernel
theorem d_To_behindLetters_25 : decode b_To_behindLetters 25 = .ok (.goto (-23), 3) := by decide +kernel
theorem d_To_behindLetters_28 : decode b_To_behindLetters 28 = .ok (.iload_n 2, 1) := by decide +kernel
theorem d_To_behindLetters_29 : decode b_To_behindLetters 29 = .ok (.ireturn, 1) := by decide +kernel
theorem g_To_behindLetters {X : WX} {d : Nat} (hd : 1 ≤ d) (e : Nat) (f : Int → Int) (len : Int) (k : Int) (M : Mem) (he : e < 4) (hL : LT e f len M) (hk : 0 ≤ k ∧ k ≤ 40) : MG X gt d KE KE y_To_behindLetters b_To_behindLetters 3 (some .int) [vr 14, vi k] M (fun r M' => r = some (vi (runE letB f (40 - k).toNat k)) ∧ M' = M) := by
  refine MG_of_G (by decide) (Nat.le_of_ble_eq_true rfl) (Nat.le_refl _) (by decide) ?_
  show G X gt d KE KE y_To_behindLetters b_To_behindLetters 3 (some .int) _ 0 [(0, vr 14), (1, vi k)] [] KE M
  have hlen := hL.2.2.1
  refine G_rngl (i := 1) rfl (fun hr1 => ?_)
  have loop : ∀ (n : Nat) (j : Int), j + n = 40 → 0 ≤ j → runE letB f n j = runE letB f (40 - k).toNat k → G X gt d KE KE y_To_behindLetters b_To_behindLetters 3 (some .int) (fun r M' => r = some (vi (runE letB f (40 - k).toNat k)) ∧ M' = M) 2 [(2, vi j), (0, vr 14), (1, vi k)] [] KE M := by
    intro n
    induction n with
    | zero =>
      intro j h1 h2 h4
      refine G_iload (i := 2) (n := 0) (len := 1) (Or.inl ⟨2, rfl, rfl, d_To_behindLetters_2⟩) rfl (G_pc (pc' := 3) rfl ?_)
      refine G_aload (i := 0) (n := 1) (len := 1) (Or.inl ⟨0, rfl, rfl, d_To_behindLetters_3⟩) rfl (by decide) (G_pc (pc' := 4) rfl ?_)
      refine G_get (o := 14) (c := 7) (k := 5) (v := M 14 5) d_To_behindLetters_4 fl_To_26 rfl (by decide) (by decide) rfl rfl (G_pc (pc' := 7) rfl ?_)
      rw [show M 14 5 = len from hL.2.1]
      refine G_icmp_ge (tgt := 28) d_To_behindLetters_7 (by decide) (fun h901 => ?_) (fun h901 => absurd h901 (by omega))
      refine G_iload (i := 2) (n := 0) (len := 1) (Or.inl ⟨2, rfl, rfl, d_To_behindLetters_28⟩) rfl (G_pc (pc' := 29) rfl ?_)
      refine G_iret d_To_behindLetters_29 rfl (tokI (by omega)) rfl rfl ?_
      exact ret_e (h4.symm.trans (runE_f (by rw [hL.2.2.2.2 j (by omega)]; decide))).symm rfl
    | succ n ih =>
      intro j h1 h2 h4
      refine G_iload (i := 2) (n := 0) (len := 1) (Or.inl ⟨2, rfl, rfl, d_To_behindLetters_2⟩) rfl (G_pc (pc' := 3) rfl ?_)
      refine G_aload (i := 0) (n := 1) (len := 1) (Or.inl ⟨0, rfl, rfl, d_To_behindLetters_3⟩) rfl (by decide) (G_pc (pc' := 4) rfl ?_)
      refine G_get (o := 14) (c := 7) (k := 5) (v := M 14 5) d_To_behindLetters_4 fl_To_26 rfl (by decide) (by decide) rfl rfl (G_pc (pc' := 7) rfl ?_)
      rw [show M 14 5 = len from hL.2.1]
      refine G_icmp_ge (tgt := 28) d_To_behindLetters_7 (by decide) (fun h1001 => ?_) (fun h1001 => G_pc (pc' := 10) rfl ?_)
      · skip
        refine G_iload (i := 2) (n := 0) (len := 1) (Or.inl ⟨2, rfl, rfl, d_To_behindLetters_28⟩) rfl (G_pc (pc' := 29) rfl ?_)
        refine G_iret d_To_behindLetters_29 rfl (tokI (by omega)) rfl rfl ?_
        first | exact ret_e (h4.symm.trans (runE_f (by rw [hL.2.2.2.2 j (by omega)]; decide))).symm rfl | exact ret_e (h4.symm.trans (runE_f (by unfold letB; simp only [decide_eq_true_eq]; assumption))).symm rfl
      · skip
        refine G_aload (i := 0) (n := 1) (len := 1) (Or.inl ⟨0, rfl, rfl, d_To_behindLetters_10⟩) rfl (by decide) (G_pc (pc' := 11) rfl ?_)
        refine G_get (o := 14) (c := 7) (k := 4) (v := M 14 4) d_To_behindLetters_11 fl_To_22 rfl (by decide) (by decide) rfl rfl (G_pc (pc' := 14) rfl ?_)
        rw [show M 14 4 = ((27 + 9 * e : Nat) : Int) from hL.1]
        refine G_iload (i := 2) (n := 0) (len := 1) (Or.inl ⟨2, rfl, rfl, d_To_behindLetters_14⟩) rfl (G_pc (pc' := 15) rfl ?_)
        refine G_caload (o := (27 + 9 * e)) (n := 40) (i := j) (v := M (27 + 9 * e) j) d_To_behindLetters_15 (kd_S6 he) ⟨by omega, (by show 27 + 9 * e < 87; omega)⟩ (by omega) (rdw (gn_S6 he _) (by first | rfl | (repeat (first | rfl | exact mset_eq (by omega) | refine (mset_ne (by omega)).trans ?_ | refine (mset_ni (by omega)).trans ?_)))) (fun t1002 => G_pc (pc' := 16) rfl ?_)
        have t1002 := tok_c t1002
        have cx1003 := hL.2.2.2.1 j (by omega) (by omega)
        rw [show M (27 + 9 * e) j = f j from cx1003.1]
        refine G_callS (K1 := KE) (d2 := 0) (as := [vi (f j)]) (rest := []) d_To_behindLetters_16 mf_To_isLetter ml_To_37 rfl rfl (Nat.le_of_ble_eq_true rfl) (by omega) ⟨Nat.le_refl _, Nat.le_refl _⟩ (g_To_isLetter (by omega) (f j) _) (fun r1004 M1005 kq1006 q1006 => ?_)
        clear kq1006; obtain ⟨q1006a, q1006b⟩ := q1006; subst r1004; subst M1005
        refine G_ps (pc' := 19) (st' := [vi (b2i (letB (f j)))]) rfl rfl ?_
        refine G_if_eq (tgt := 28) d_To_behindLetters_19 (by decide) (fun h1007 => ?_) (fun h1007 => G_pc (pc' := 22) rfl ?_)
        · skip
          replace h1007 := b2i_0.mp h1007
          replace h1007 := letB_f.mp h1007
          refine G_iload (i := 2) (n := 0) (len := 1) (Or.inl ⟨2, rfl, rfl, d_To_behindLetters_28⟩) rfl (G_pc (pc' := 29) rfl ?_)
          refine G_iret d_To_behindLetters_29 rfl (tokI (by omega)) rfl rfl ?_
          first | exact ret_e (h4.symm.trans (runE_f (by rw [hL.2.2.2.2 j (by omega)]; decide))).symm rfl | exact ret_e (h4.symm.trans (runE_f (by unfold letB; simp only [decide_eq_true_eq]; assumption))).symm rfl
        · skip
          replace h1007 := b2i_nz.mp h1007
          replace h1007 := letB_t.mp h1007
          refine G_iinc (i := 2) (n := 0) (z := 1) (ls' := [(2, vi (j + 1)), (0, vr 14), (1, vi k)]) d_To_behindLetters_22 rfl (by decide) (by omega) rfl (G_pc (pc' := 25) rfl ?_)
          refine G_goto (tgt := 2) d_To_behindLetters_25 (by decide) ?_
          exact ih (j + 1) (by omega) (by omega) ((runE_t (by unfold letB; simp only [decide_eq_true_eq]; assumption)).symm.trans h4)
  refine G_iload (i := 1) (n := 1) (len := 1) (Or.inl ⟨1, rfl, rfl, d_To_behindLetters_0⟩) rfl (G_pc (pc' := 1) rfl ?_)
  refine G_istore (i := 2) (len := 1) (ls' := [(2, vi k), (0, vr 14), (1, vi k)]) (Or.inl ⟨2, rfl, rfl, d_To_behindLetters_1⟩) (by decide) rfl (G_pc (pc' := 2) rfl ?_)
  exact loop (40 - k).toNat k (by omega) (by omega) rfl

theorem d_To_behindDigits_0 : decode b_To_behindDigits 0 = .ok (.iload_n 1, 1) := by decide +kernel
theorem d_To_behindDigits_1 : decode b_To_behindDigits 1 = .ok (.istore_n 2, 1) := by decide +kernel
theorem d_To_behindDigits_2 : decode b_To_behindDigits 2 = .ok (.iload_n 2, 1) := by decide +kernel
theorem d_To_behindDigits_3 : decode b_To_behindDigits 3 = .ok (.aload_n 0, 1) := by decide +kernel
theorem d_To_behindDigits_4 : decode b_To_behindDigits 4 = .ok (.getfield 26, 3) := by decide +kernel
theorem d_To_behindDigits_7 : decode b_To_behindDigits 7 = .ok (.if_icmp .ge 21, 3) := by decide +kernel
theorem d_To_behindDigits_10 : decode b_To_behindDigits 10 = .ok (.aload_n 0, 1) := by decide +kernel
theorem d_To_behindDigits_11 : decode b_To_behindDigits 11 = .ok (.getfield 22, 3) := by decide +kernel
theorem d_To_behindDigits_14 : decode b_To_behindDigits 14 = .ok (.iload_n 2, 1) := by decide +kernel
theorem d_To_behindDigits_15 : decode b_To_behindDigits 15 = .ok (.caload, 1) := by decide +kernel
theorem d_To_behindDigits_16 : decode b_To_behindDigits 16 = .ok (.invokestatic 52, 3) := by decide +kernel
theorem d_To_behindDigits_19 : decode b_To_behindDigits 19 = .ok (.ifCond .eq 9, 3) := by decide +kernel
theorem d_To_behindDigits_22 : decode b_To_behindDigits 22 = .ok (.iinc 2 1, 3) := by decide +kernel
theorem d_To_behindDigits_25 : decode b_To_behindDigits 25 = .ok (.goto (-23), 3) := by decide +kernel
theorem d_To_behindDigits_28 : decode b_To_behindDigits 28 = .ok (.iload_n 2, 1) := by decide +kernel
theorem d_To_behindDigits_29 : decode b_To_behindDigits 29 = .ok (.ireturn, 1) := by decide +kernel
theorem g_To_behindDigits {X : WX} {d : Nat} (hd : 1 ≤ d) (e : Nat) (f : Int → Int) (len : Int) (k : Int) (M : Mem) (he : e < 4) (hL : LT e f len M) (hk : 0 ≤ k ∧ k ≤ 40) : MG X gt d KE KE y_To_behindDigits b_To_behindDigits 3 (some .int) [vr 14, vi k] M (fun r M' => r = some (vi (runE digB f (40 - k).toNat k)) ∧ M' = M) := by
  refine MG_of_G (by decide) (Nat.le_of_ble_eq_true rfl) (Nat.le_refl _) (by decide) ?_
  show G X gt d KE KE y_To_behindDigits b_To_behindDigits 3 (some .int) _ 0 [(0, vr 14), (1, vi k)] [] KE M
  have hlen := hL.2.2.1
  refine G_rngl (i := 1) rfl (fun hr1 => ?_)
  have loop : ∀ (n : Nat) (j : Int), j + n = 40 → 0 ≤ j → runE digB f n j = runE digB f (40 - k).toNat k → G X gt d KE KE y_To_behindDigits b_To_behindDigits 3 (some .int) (fun r M' => r = some (vi (runE digB f (40 - k).toNat k)) ∧ M' = M) 2 [(2, vi j), (0, vr 14), (1, vi k)] [] KE M := by
    intro n
    induction n with
    | zero =>
      intro j h1 h2 h4
      refine G_iload (i := 2) (n := 0) (len := 1) (Or.inl ⟨2, rfl, rfl, d_To_behindDigits_2⟩) rfl (G_pc (pc' := 3) rfl ?_)
      refine G_aload (i := 0) (n := 1) (len := 1) (Or.inl ⟨0, rfl, rfl, d_To_behindDigits_3⟩) rfl (by decide) (G_pc (pc' := 4) rfl ?_)
      refine G_get (o := 14) (c := 7) (k := 5) (v := M 14 5) d_To_behindDigits_4 fl_To_26 rfl (by decide) (by decide) rfl rfl (G_pc (pc' := 7) rfl ?_)
      rw [show M 14 5 = len from hL.2.1]
      refine G_icmp_ge (tgt := 28) d_To_behindDigits_7 (by decide) (fun h1101 => ?_) (fun h1101 => absurd h1101 (by omega))
      refine G_iload (i := 2) (n := 0) (len := 1) (Or.inl ⟨2, rfl, rfl, d_To_behindDigits_28⟩) rfl (G_pc (pc' := 29) rfl ?_)
      refine G_iret d_To_behindDigits_29 rfl (tokI (by omega)) rfl rfl ?_
      exact ret_e (h4.symm.trans (runE_f (by rw [hL.2.2.2.2 j (by omega)]; decide))).symm rfl
    | succ n ih =>
      intro j h1 h2 h4
      refine G_iload (i := 2) (n := 0) (len := 1) (Or.inl ⟨2, rfl, rfl, d_To_behindDigits_2⟩) rfl (G_pc (pc' := 3) rfl ?_)
      refine G_aload (i := 0) (n := 1) (len := 1) (Or.inl ⟨0, rfl, rfl, d_To_behindDigits_3⟩) rfl (by decide) (G_pc (pc' := 4) rfl ?_)
      refine G_get (o := 14) (c := 7) (k := 5) (v := M 14 5) d_To_behindDigits_4 fl_To_26 rfl (by decide) (by decide) rfl rfl (G_pc (pc' := 7) rfl ?_)
      rw [show M 14 5 = len from hL.2.1]
      refine G_icmp_ge (tgt := 28) d_To_behindDigits_7 (by decide) (fun h1201 => ?_) (fun h1201 => G_pc (pc' := 10) rfl ?_)
      · skip
        refine G_iload (i := 2) (n := 0) (len := 1) (Or.inl ⟨2, rfl, rfl, d_To_behindDigits_28⟩) rfl (G_pc (pc' := 29) rfl ?_)
        refine G_iret d_To_behindDigits_29 rfl (tokI (by omega)) rfl rfl ?_
        first | exact ret_e (h4.symm.trans (runE_f (by rw [hL.2.2.2.2 j (by omega)]; decide))).symm rfl | exact ret_e (h4.symm.trans (runE_f (by unfold digB; simp only [decide_eq_true_eq]; assumption))).symm rfl
      · skip
        refine G_aload (i := 0) (n := 1) (len := 1) (Or.inl ⟨0, rfl, rfl, d_To_behindDigits_10⟩) rfl (by decide) (G_pc (pc' := 11) rfl ?_)
        refine G_get (o := 14) (c := 7) (k := 4) (v := M 14 4) d_To_behindDigits_11 fl_To_22 rfl (by decide) (by decide) rfl rfl (G_pc (pc' := 14) rfl ?_)
        rw [show M 14 4 = ((27 + 9 * e : Nat) : Int) from hL.1]
        refine G_iload (i := 2) (n := 0) (len := 1) (Or.inl ⟨2, rfl, rfl, d_To_behindDigits_14⟩) rfl (G_pc (pc' := 15) rfl ?_)
        refine G_caload (o := (27 + 9 * e)) (n := 40) (i := j) (v := M (27 + 9 * e) j) d_To_behindDigits_15 (kd_S6 he) ⟨by omega, (by show 27 + 9 * e < 87; omega)⟩ (by omega) (rdw (gn_S6 he _) (by first | rfl | (repeat (first | rfl | exact mset_eq (by omega) | refine (mset_ne (by omega)).trans ?_ | refine (mset_ni (by omega)).trans ?_)))) (fun t1202 => G_pc (pc' := 16) rfl ?_)
        have t1202 := tok_c t1202
        have cx1203 := hL.2.2.2.1 j (by omega) (by omega)
        rw [show M (27 + 9 * e) j = f j from cx1203.1]
        refine G_callS (K1 := KE) (d2 := 0) (as := [vi (f j)]) (rest := []) d_To_behindDigits_16 mf_To_isDigit ml_To_52 rfl rfl (Nat.le_of_ble_eq_true rfl) (by omega) ⟨Nat.le_refl _, Nat.le_refl _⟩ (g_To_isDigit (by omega) (f j) _) (fun r1204 M1205 kq1206 q1206 => ?_)
        clear kq1206; obtain ⟨q1206a, q1206b⟩ := q1206; subst r1204; subst M1205
        refine G_ps (pc' := 19) (st' := [vi (b2i (digB (f j)))]) rfl rfl ?_
        refine G_if_eq (tgt := 28) d_To_behindDigits_19 (by decide) (fun h1207 => ?_) (fun h1207 => G_pc (pc' := 22) rfl ?_)
        · skip
          replace h1207 := b2i_0.mp h1207
          replace h1207 := digB_f.mp h1207
          refine G_iload (i := 2) (n := 0) (len := 1) (Or.inl ⟨2, rfl, rfl, d_To_behindDigits_28⟩) rfl (G_pc (pc' := 29) rfl ?_)
          refine G_iret d_To_behindDigits_29 rfl (tokI (by omega)) rfl rfl ?_
          first | exact ret_e (h4.symm.trans (runE_f (by rw [hL.2.2.2.2 j (by omega)]; decide))).symm rfl | exact ret_e (h4.symm.trans (runE_f (by unfold digB; simp only [decide_eq_true_eq]; assumption))).symm rfl
        · skip
          replace h1207 := b2i_nz.mp h1207
          replace h1207 := digB_t.mp h1207
          refine G_iinc (i := 2) (n := 0) (z := 1) (ls' := [(2, vi (j + 1)), (0, vr 14), (1, vi k)]) d_To_behindDigits_22 rfl (by decide) (by omega) rfl (G_pc (pc' := 25) rfl ?_)
          refine G_goto (tgt := 2) d_To_behindDigits_25 (by decide) ?_
          exact ih (j + 1) (by omega) (by omega) ((runE_t (by unfold digB; simp only [decide_eq_true_eq]; assumption)).symm.trans h4)
  refine G_iload (i := 1) (n := 1) (len := 1) (Or.inl ⟨1, rfl, rfl, d_To_behindDigits_0⟩) rfl (G_pc (pc' := 1) rfl ?_)
  refine G_istore (i := 2) (len := 1) (ls' := [(2, vi k), (0, vr 14), (1, vi k)]) (Or.inl ⟨2, rfl, rfl, d_To_behindDigits_1⟩) (by decide) rfl (G_pc (pc' := 2) rfl ?_)
  exact loop (40 - k).toNat k (by omega) (by omega) rfl

theorem d_To_signAt_0 : decode b_To_signAt 0 = .ok (.aload_n 0, 1) := by decide +kernel
theorem d_To_signAt_1 : decode b_To_signAt 1 = .ok (.getfield 22, 3) := by decide +kernel
theorem d_To_signAt_4 : decode b_To_signAt 4 = .ok (.iload_n 1, 1) := by decide +kernel
theorem d_To_signAt_5 : decode b_To_signAt 5 = .ok (.caload, 1) := by decide +kernel
theorem d_To_signAt_6 : decode b_To_signAt 6 = .ok (.istore_n 2, 1) := by decide +kernel
theorem d_To_signAt_7 : decode b_To_signAt 7 = .ok (.aload_n 0, 1) := by decide +kernel
theorem d_To_signAt_8 : decode b_To_signAt 8 = .ok (.iload_n 1, 1) := by decide +kernel
theorem d_To_signAt_9 : decode b_To_signAt 9 = .ok (.iconst 1, 1) := by decide +kernel
theorem d_To_signAt_10 : decode b_To_signAt 10 = .ok (.iadd, 1) := by decide +kernel
theorem d_To_signAt_11 : decode b_To_signAt 11 = .ok (.invokevirtual 107, 3) := by decide +kernel
theorem d_To_signAt_14 : decode b_To_signAt 14 = .ok (.istore_n 3, 1) := by decide +kernel
theorem d_To_signAt_15 : decode b_To_signAt 15 = .ok (.iload_n 2, 1) := by decide +kernel
theorem d_To_signAt_16 : decode b_To_signAt 16 = .ok (.lookupswitch 182 #[(33, 140), (38, 154), (60, 60), (61, 126), (62, 84), (124, 168)], 60) := by decide +kernel
theorem d_To_signAt_76 : decode b_To_signAt 76 = .ok (.iload_n 3, 1) := by decide +kernel
theorem d_To_signAt_77 : decode b_To_signAt 77 = .ok (.bipush 60, 2) := by decide +kernel
theorem d_To_signAt_79 : decode b_To_signAt 79 = .ok (.if_icmp .ne 7, 3) := by decide +kernel
theorem d_To_signAt_82 : decode b_To_signAt 82 = .ok (.sipush 130, 3) := by decide +kernel
theorem d_To_signAt_85 : decode b_To_signAt 85 = .ok (.ireturn, 1) := by decide +kernel
theorem d_To_signAt_86 : decode b_To_signAt 86 = .ok (.iload_n 3, 1) := by decide +kernel
theorem d_To_signAt_87 : decode b_To_signAt 87 = .ok (.bipush 61, 2) := by decide +kernel
theorem d_To_signAt_89 : decode b_To_signAt 89 = .ok (.if_icmp .ne 9, 3) := by decide +kernel
theorem d_To_signAt_92 : decode b_To_signAt 92 = .ok (.sipush 128, 3) := by decide +kernel
theorem d_To_signAt_95 : decode b_To_signAt 95 = .ok (.goto 4, 3) := by decide +kernel
theorem d_To_signAt_98 : decode b_To_signAt 98 = .ok (.iload_n 2, 1) := by decide +kernel
theorem d_To_signAt_99 : decode b_To_signAt 99 = .ok (.ireturn, 1) := by decide +kernel
theorem d_To_signAt_100 : decode b_To_signAt 100 = .ok (.iload_n 3, 1) := by decide +kernel
theorem d_To_signAt_101 : decode b_To_signAt 101 = .ok (.bipush 62, 2) := by decide +kernel
theorem d_To_signAt_103 : decode b_To_signAt 103 = .ok (.if_icmp .ne 25, 3) := by decide +kernel
theorem d_To_signAt_106 : decode b_To_signAt 106 = .ok (.aload_n 0, 1) := by decide +kernel
theorem d_To_signAt_107 : decode b_To_signAt 107 = .ok (.iload_n 1, 1) := by decide +kernel
theorem d_To_signAt_108 : decode b_To_signAt 108 = .ok (.iconst 2, 1) := by decide +kernel
theorem d_To_signAt_109 : decode b_To_signAt 109 = .ok (.iadd, 1) := by decide +kernel
theorem d_To_signAt_110 : decode b_To_signAt 110 = .ok (.invokevirtual 107, 3) := by decide +kernel
theorem d_To_signAt_113 : decode b_To_signAt 113 = .ok (.bipush 62, 2) := by decide +kernel
theorem d_To_signAt_115 : decode b_To_signAt 115 = .ok (.if_icmp .ne 9, 3) := by decide +kernel
theorem d_To_signAt_118 : decode b_To_signAt 118 = .ok (.sipush 132, 3) := by decide +kernel
theorem d_To_signAt_121 : decode b_To_signAt 121 = .ok (.goto 6, 3) := by decide +kernel
theorem d_To_signAt_124 : decode b_To_signAt 124 = .ok (.sipush 131, 3) := by decide +kernel
theorem d_To_signAt_127 : decode b_To_signAt 127 = .ok (.ireturn, 1) := by decide +kernel
theorem d_To_signAt_128 : decode b_To_signAt 128 = .ok (.iload_n 3, 1) := by decide +kernel
theorem d_To_signAt_129 : decode b_To_signAt 129 = .ok (.bipush 61, 2) := by decide +kernel
theorem d_To_signAt_131 : decode b_To_signAt 131 = .ok (.if_icmp .ne 9, 3) := by decide +kernel
theorem d_To_signAt_134 : decode b_To_signAt 134 = .ok (.sipush 129, 3) := by decide +kernel
theorem d_To_signAt_137 : decode b_To_signAt 137 = .ok (.goto 4, 3) := by decide +kernel
theorem d_To_signAt_140 : decode b_To_signAt 140 = .ok (.iload_n 2, 1) := by decide +kernel
theorem d_To_signAt_141 : decode b_To_signAt 141 = .ok (.ireturn, 1) := by decide +kernel
theorem d_To_signAt_142 : decode b_To_signAt 142 = .ok (.iload_n 3, 1) := by decide +kernel
theorem d_To_signAt_143 : decode b_To_signAt 143 = .ok (.bipush 61, 2) := by decide +kernel
theorem d_To_signAt_145 : decode b_To_signAt 145 = .ok (.if_icmp .ne 9, 3) := by decide +kernel
theorem d_To_signAt_148 : decode b_To_signAt 148 = .ok (.sipush 133, 3) := by decide +kernel
theorem d_To_signAt_151 : decode b_To_signAt 151 = .ok (.goto 4, 3) := by decide +kernel
theorem d_To_signAt_154 : decode b_To_signAt 154 = .ok (.iconst 0, 1) := by decide +kernel
theorem d_To_signAt_155 : decode b_To_signAt 155 = .ok (.ireturn, 1) := by decide +kernel
theorem d_To_signAt_156 : decode b_To_signAt 156 = .ok (.iload_n 3, 1) := by decide +kernel
theorem d_To_signAt_157 : decode b_To_signAt 157 = .ok (.bipush 61, 2) := by decide +kernel
theorem d_To_signAt_159 : decode b_To_signAt 159 = .ok (.if_icmp .ne 9, 3) := by decide +kernel
theorem d_To_signAt_162 : decode b_To_signAt 162 = .ok (.sipush 134, 3) := by decide +kernel
theorem d_To_signAt_165 : decode b_To_signAt 165 = .ok (.goto 4, 3) := by decide +kernel
theorem d_To_signAt_168 : decode b_To_signAt 168 = .ok (.iload_n 2, 1) := by decide +kernel
theorem d_To_signAt_169 : decode b_To_signAt 169 = .ok (.ireturn, 1) := by decide +kernel
theorem d_To_signAt_170 : decode b_To_signAt 170 = .ok (.iload_n 3, 1) := by decide +kernel
theorem d_To_signAt_171 : decode b_To_signAt 171 = .ok (.bipush 38, 2) := by decide +kernel
theorem d_To_signAt_173 : decode b_To_signAt 173 = .ok (.if_icmp .ne 9, 3) := by decide +kernel
theorem d_To_signAt_176 : decode b_To_signAt 176 = .ok (.sipush 135, 3) := by decide +kernel
theorem d_To_signAt_179 : decode b_To_signAt 179 = .ok (.goto 4, 3) := by decide +kernel
theorem d_To_signAt_182 : decode b_To_signAt 182 = .ok (.iload_n 2, 1) := by decide +kernel
theorem d_To_signAt_183 : decode b_To_signAt 183 = .ok (.ireturn, 1) := by decide +kernel
theorem d_To_signAt_184 : decode b_To_signAt 184 = .ok (.iload_n 3, 1) := by decide +kernel
theorem d_To_signAt_185 : decode b_To_signAt 185 = .ok (.bipush 124, 2) := by decide +kernel
theorem d_To_signAt_187 : decode b_To_signAt 187 = .ok (.if_icmp .ne 9, 3) := by decide +kernel
theorem d_To_signAt_190 : decode b_To_signAt 190 = .ok (.sipush 136, 3) := by decide +kernel
theorem d_To_signAt_193 : decode b_To_signAt 193 = .ok (.goto 4, 3) := by decide +kernel
theorem d_To_signAt_196 : decode b_To_signAt 196 = .ok (.iload_n 2, 1) := by decide +kernel
theorem d_To_signAt_197 : decode b_To_signAt 197 = .ok (.ireturn, 1) := by decide +kernel
theorem d_To_signAt_198 : decode b_To_signAt 198 = .ok (.ldc 115, 2) := by decide +kernel
theorem d_To_signAt_200 : decode b_To_signAt 200 = .ok (.iload_n 2, 1) := by decide +kernel
theorem d_To_signAt_201 : decode b_To_signAt 201 = .ok (.invokevirtual 117, 3) := by decide +kernel
theorem d_To_signAt_204 : decode b_To_signAt 204 = .ok (.ifCond .lt 7, 3) := by decide +kernel
theorem d_To_signAt_207 : decode b_To_signAt 207 = .ok (.iload_n 2, 1) := by decide +kernel
theorem d_To_signAt_208 : decode b_To_signAt 208 = .ok (.goto 4, 3) := by decide +kernel
theorem d_To_signAt_211 : decode b_To_signAt 211 = .ok (.iconst 0, 1) := by decide +kernel
theorem d_To_signAt_212 : decode b_To_signAt 212 = .ok (.ireturn, 1) := by decide +kernel
theorem g_To_signAt {X : WX} {d : Nat} (hd : 4 ≤ d) (e : Nat) (f : Int → Int) (len : Int) (k : Int) (M : Mem) (he : e < 4) (hL : LT e f len M) (hk : 0 ≤ k ∧ k < len) : MG X gt d KE KE y_To_signAt b_To_signAt 4 (some .int) [vr 14, vi k] M (fun r M' => r = some (vi (sigD (f k) (f (k + 1)) (f (k + 2)))) ∧ M' = M) := by
  refine MG_of_G (by decide) (Nat.le_of_ble_eq_true rfl) (Nat.le_refl _) (by decide) ?_
  show G X gt d KE KE y_To_signAt b_To_signAt 4 (some .int) _ 0 [(0, vr 14), (1, vi k)] [] KE M
  have hlen := hL.2.2.1
  have cf0 := LT_f hL (k := k) (by omega)
  refine G_rngl (i := 1) rfl (fun hr1 => ?_)
  refine G_aload (i := 0) (n := 0) (len := 1) (Or.inl ⟨0, rfl, rfl, d_To_signAt_0⟩) rfl (by decide) (G_pc (pc' := 1) rfl ?_)
  refine G_get (o := 14) (c := 7) (k := 4) (v := M 14 4) d_To_signAt_1 fl_To_22 rfl (by decide) (by decide) rfl rfl (G_pc (pc' := 4) rfl ?_)
  rw [show M 14 4 = ((27 + 9 * e : Nat) : Int) from hL.1]
  refine G_iload (i := 1) (n := 1) (len := 1) (Or.inl ⟨1, rfl, rfl, d_To_signAt_4⟩) rfl (G_pc (pc' := 5) rfl ?_)
  refine G_caload (o := (27 + 9 * e)) (n := 40) (i := k) (v := M (27 + 9 * e) k) d_To_signAt_5 (kd_S6 he) ⟨by omega, (by show 27 + 9 * e < 87; omega)⟩ (by omega) (rdw (gn_S6 he _) (by first | rfl | (repeat (first | rfl | exact mset_eq (by omega) | refine (mset_ne (by omega)).trans ?_ | refine (mset_ni (by omega)).trans ?_)))) (fun t1 => G_pc (pc' := 6) rfl ?_)
  have t1 := tok_c t1
  have cx2 := hL.2.2.2.1 k (by omega) (by omega)
  rw [show M (27 + 9 * e) k = f k from cx2.1]
  refine G_istore (i := 2) (len := 1) (ls' := [(2, vi (f k)), (0, vr 14), (1, vi k)]) (Or.inl ⟨2, rfl, rfl, d_To_signAt_6⟩) (by decide) rfl (G_pc (pc' := 7) rfl ?_)
  refine G_aload (i := 0) (n := 1) (len := 1) (Or.inl ⟨0, rfl, rfl, d_To_signAt_7⟩) rfl (by decide) (G_pc (pc' := 8) rfl ?_)
  refine G_iload (i := 1) (n := 2) (len := 1) (Or.inl ⟨1, rfl, rfl, d_To_signAt_8⟩) rfl (G_pc (pc' := 9) rfl ?_)
  refine G_iconst (n := 1) d_To_signAt_9 (by decide) (G_pc (pc' := 10) rfl ?_)
  refine G_iadd d_To_signAt_10 (by omega) (G_pc (pc' := 11) rfl ?_)
  refine G_callV (K1 := KE) (d2 := 0) (o := 14) (cl := 7) (as := [vi (k + 1)]) (rest := []) d_To_signAt_11 mf_To_charAt ml_To_107 rfl rfl (by decide) rfl rfl (Nat.le_of_ble_eq_true rfl) (by omega) ⟨Nat.le_refl _, Nat.le_refl _⟩ (g_To_charAt (by omega) e f len (k + 1) M he hL (by omega)) (fun r3 M4 kq5 q5 => ?_)
  clear kq5; obtain ⟨q5a, q5b⟩ := q5; subst r3; subst M4
  refine G_ps (pc' := 14) (st' := [vi (f (k + 1))]) rfl rfl ?_
  have cf6 := LT_f hL (k := (k + 1)) (by omega)
  refine G_istore (i := 3) (len := 1) (ls' := [(3, vi (f (k + 1))), (2, vi (f k)), (0, vr 14), (1, vi k)]) (Or.inl ⟨3, rfl, rfl, d_To_signAt_14⟩) (by decide) rfl (G_pc (pc' := 15) rfl ?_)
  refine G_iload (i := 2) (n := 1) (len := 1) (Or.inl ⟨2, rfl, rfl, d_To_signAt_15⟩) rfl (G_pc (pc' := 16) rfl ?_)
  by_cases h7 : f k = 33
  · skip
    have e8o : Op.lookupswitch.offset [(33, 140), (38, 154), (60, 60), (61, 126), (62, 84), (124, 168)] 182 (f k) = 140 := by rw [h7]; rfl
    refine G_lookup (off := 140) (tgt := 156) d_To_signAt_16 (by decide) e8o (by decide) ?_
    refine G_iload (i := 3) (n := 0) (len := 1) (Or.inl ⟨3, rfl, rfl, d_To_signAt_156⟩) rfl (G_pc (pc' := 157) rfl ?_)
    refine G_bipush (n := 61) d_To_signAt_157 (by decide) (G_pc (pc' := 159) rfl ?_)
    refine G_icmp_ne (tgt := 168) d_To_signAt_159 (by decide) (fun h9 => ?_) (fun h9 => G_pc (pc' := 162) rfl ?_)
    · skip
      refine G_iload (i := 2) (n := 1) (len := 1) (Or.inl ⟨2, rfl, rfl, d_To_signAt_168⟩) rfl (G_pc (pc' := 169) rfl ?_)
      refine G_iret d_To_signAt_169 rfl (tokI (by omega)) rfl rfl ?_
      exact ret_e (by unfold sigD; (repeat (first | rfl | omega | (rw [if_pos (by omega)]) | (rw [if_neg (by omega)])))) rfl
    · skip
      refine G_sipush (n := 134) d_To_signAt_162 (by decide) (G_pc (pc' := 165) rfl ?_)
      refine G_goto (tgt := 169) d_To_signAt_165 (by decide) ?_
      refine G_iret d_To_signAt_169 rfl (tokI (by decide)) rfl rfl ?_
      exact ret_e (by unfold sigD; (repeat (first | rfl | omega | (rw [if_pos (by omega)]) | (rw [if_neg (by omega)])))) rfl
  by_cases h7 : f k = 38
  · skip
    have e10o : Op.lookupswitch.offset [(33, 140), (38, 154), (60, 60), (61, 126), (62, 84), (124, 168)] 182 (f k) = 154 := by rw [h7]; rfl
    refine G_lookup (off := 154) (tgt := 170) d_To_signAt_16 (by decide) e10o (by decide) ?_
    refine G_iload (i := 3) (n := 0) (len := 1) (Or.inl ⟨3, rfl, rfl, d_To_signAt_170⟩) rfl (G_pc (pc' := 171) rfl ?_)
    refine G_bipush (n := 38) d_To_signAt_171 (by decide) (G_pc (pc' := 173) rfl ?_)
    refine G_icmp_ne (tgt := 182) d_To_signAt_173 (by decide) (fun h11 => ?_) (fun h11 => G_pc (pc' := 176) rfl ?_)
    · skip
      refine G_iload (i := 2) (n := 1) (len := 1) (Or.inl ⟨2, rfl, rfl, d_To_signAt_182⟩) rfl (G_pc (pc' := 183) rfl ?_)
      refine G_iret d_To_signAt_183 rfl (tokI (by omega)) rfl rfl ?_
      exact ret_e (by unfold sigD; (repeat (first | rfl | omega | (rw [if_pos (by omega)]) | (rw [if_neg (by omega)])))) rfl
    · skip
      refine G_sipush (n := 135) d_To_signAt_176 (by decide) (G_pc (pc' := 179) rfl ?_)
      refine G_goto (tgt := 183) d_To_signAt_179 (by decide) ?_
      refine G_iret d_To_signAt_183 rfl (tokI (by decide)) rfl rfl ?_
      exact ret_e (by unfold sigD; (repeat (first | rfl | omega | (rw [if_pos (by omega)]) | (rw [if_neg (by omega)])))) rfl
  by_cases h7 : f k = 60
  · skip
    have e12o : Op.lookupswitch.offset [(33, 140), (38, 154), (60, 60), (61, 126), (62, 84), (124, 168)] 182 (f k) = 60 := by rw [h7]; rfl
    refine G_lookup (off := 60) (tgt := 76) d_To_signAt_16 (by decide) e12o (by decide) ?_
    refine G_iload (i := 3) (n := 0) (len := 1) (Or.inl ⟨3, rfl, rfl, d_To_signAt_76⟩) rfl (G_pc (pc' := 77) rfl ?_)
    refine G_bipush (n := 60) d_To_signAt_77 (by decide) (G_pc (pc' := 79) rfl ?_)
    refine G_icmp_ne (tgt := 86) d_To_signAt_79 (by decide) (fun h13 => ?_) (fun h13 => G_pc (pc' := 82) rfl ?_)
    · skip
      refine G_iload (i := 3) (n := 0) (len := 1) (Or.inl ⟨3, rfl, rfl, d_To_signAt_86⟩) rfl (G_pc (pc' := 87) rfl ?_)
      refine G_bipush (n := 61) d_To_signAt_87 (by decide) (G_pc (pc' := 89) rfl ?_)
      refine G_icmp_ne (tgt := 98) d_To_signAt_89 (by decide) (fun h14 => ?_) (fun h14 => G_pc (pc' := 92) rfl ?_)
      · skip
        refine G_iload (i := 2) (n := 1) (len := 1) (Or.inl ⟨2, rfl, rfl, d_To_signAt_98⟩) rfl (G_pc (pc' := 99) rfl ?_)
        refine G_iret d_To_signAt_99 rfl (tokI (by omega)) rfl rfl ?_
        exact ret_e (by unfold sigD; (repeat (first | rfl | omega | (rw [if_pos (by omega)]) | (rw [if_neg (by omega)])))) rfl
      · skip
        refine G_sipush (n := 128) d_To_signAt_92 (by decide) (G_pc (pc' := 95) rfl ?_)
        refine G_goto (tgt := 99) d_To_signAt_95 (by decide) ?_
        refine G_iret d_To_signAt_99 rfl (tokI (by decide)) rfl rfl ?_
        exact ret_e (by unfold sigD; (repeat (first | rfl | omega | (rw [if_pos (by omega)]) | (rw [if_neg (by omega)])))) rfl
    · skip
      refine G_sipush (n := 130) d_To_signAt_82 (by decide) (G_pc (pc' := 85) rfl ?_)
      refine G_iret d_To_signAt_85 rfl (tokI (by decide)) rfl rfl ?_
      exact ret_e (by unfold sigD; (repeat (first | rfl | omega | (rw [if_pos (by omega)]) | (rw [if_neg (by omega)])))) rfl
  by_cases h7 : f k = 61
  · skip
    have e15o : Op.lookupswitch.offset [(33, 140), (38, 154), (60, 60), (61, 126), (62, 84), (124, 168)] 182 (f k) = 126 := by rw [h7]; rfl
    refine G_lookup (off := 126) (tgt := 142) d_To_signAt_16 (by decide) e15o (by decide) ?_
    refine G_iload (i := 3) (n := 0) (len := 1) (Or.inl ⟨3, rfl, rfl, d_To_signAt_142⟩) rfl (G_pc (pc' := 143) rfl ?_)
    refine G_bipush (n := 61) d_To_signAt_143 (by decide) (G_pc (pc' := 145) rfl ?_)
    refine G_icmp_ne (tgt := 154) d_To_signAt_145 (by decide) (fun h16 => ?_) (fun h16 => G_pc (pc' := 148) rfl ?_)
    · skip
      refine G_iconst (n := 0) d_To_signAt_154 (by decide) (G_pc (pc' := 155) rfl ?_)
      refine G_iret d_To_signAt_155 rfl (tokI (by decide)) rfl rfl ?_
      exact ret_e (by unfold sigD; (repeat (first | rfl | omega | (rw [if_pos (by omega)]) | (rw [if_neg (by omega)])))) rfl
    · skip
      refine G_sipush (n := 133) d_To_signAt_148 (by decide) (G_pc (pc' := 151) rfl ?_)
      refine G_goto (tgt := 155) d_To_signAt_151 (by decide) ?_
      refine G_iret d_To_signAt_155 rfl (tokI (by decide)) rfl rfl ?_
      exact ret_e (by unfold sigD; (repeat (first | rfl | omega | (rw [if_pos (by omega)]) | (rw [if_neg (by omega)])))) rfl
  by_cases h7 : f k = 62
  · skip
    have e17o : Op.lookupswitch.offset [(33, 140), (38, 154), (60, 60), (61, 126), (62, 84), (124, 168)] 182 (f k) = 84 := by rw [h7]; rfl
    refine G_lookup (off := 84) (tgt := 100) d_To_signAt_16 (by decide) e17o (by decide) ?_
    refine G_iload (i := 3) (n := 0) (len := 1) (Or.inl ⟨3, rfl, rfl, d_To_signAt_100⟩) rfl (G_pc (pc' := 101) rfl ?_)
    refine G_bipush (n := 62) d_To_signAt_101 (by decide) (G_pc (pc' := 103) rfl ?_)
    refine G_icmp_ne (tgt := 128) d_To_signAt_103 (by decide) (fun h18 => ?_) (fun h18 => G_pc (pc' := 106) rfl ?_)
    · skip
      refine G_iload (i := 3) (n := 0) (len := 1) (Or.inl ⟨3, rfl, rfl, d_To_signAt_128⟩) rfl (G_pc (pc' := 129) rfl ?_)
      refine G_bipush (n := 61) d_To_signAt_129 (by decide) (G_pc (pc' := 131) rfl ?_)
      refine G_icmp_ne (tgt := 140) d_To_signAt_131 (by decide) (fun h19 => ?_) (fun h19 => G_pc (pc' := 134) rfl ?_)
      · skip
        refine G_iload (i := 2) (n := 1) (len := 1) (Or.inl ⟨2, rfl, rfl, d_To_signAt_140⟩) rfl (G_pc (pc' := 141) rfl ?_)
        refine G_iret d_To_signAt_141 rfl (tokI (by omega)) rfl rfl ?_
        exact ret_e (by unfold sigD; (repeat (first | rfl | omega | (rw [if_pos (by omega)]) | (rw [if_neg (by omega)])))) rfl
      · skip
        refine G_sipush (n := 129) d_To_signAt_134 (by decide) (G_pc (pc' := 137) rfl ?_)
        refine G_goto (tgt := 141) d_To_signAt_137 (by decide) ?_
        refine G_iret d_To_signAt_141 rfl (tokI (by decide)) rfl rfl ?_
        exact ret_e (by unfold sigD; (repeat (first | rfl | omega | (rw [if_pos (by omega)]) | (rw [if_neg (by omega)])))) rfl
    · skip
      refine G_aload (i := 0) (n := 2) (len := 1) (Or.inl ⟨0, rfl, rfl, d_To_signAt_106⟩) rfl (by decide) (G_pc (pc' := 107) rfl ?_)
      refine G_iload (i := 1) (n := 3) (len := 1) (Or.inl ⟨1, rfl, rfl, d_To_signAt_107⟩) rfl (G_pc (pc' := 108) rfl ?_)
      refine G_iconst (n := 2) d_To_signAt_108 (by decide) (G_pc (pc' := 109) rfl ?_)
      refine G_iadd d_To_signAt_109 (by omega) (G_pc (pc' := 110) rfl ?_)
      refine G_callV (K1 := KE) (d2 := 0) (o := 14) (cl := 7) (as := [vi (k + 2)]) (rest := []) d_To_signAt_110 mf_To_charAt ml_To_107 rfl rfl (by decide) rfl rfl (Nat.le_of_ble_eq_true rfl) (by omega) ⟨Nat.le_refl _, Nat.le_refl _⟩ (g_To_charAt (by omega) e f len (k + 2) M he hL (by omega)) (fun r20 M21 kq22 q22 => ?_)
      clear kq22; obtain ⟨q22a, q22b⟩ := q22; subst r20; subst M21
      refine G_ps (pc' := 113) (st' := [vi (f (k + 2))]) rfl rfl ?_
      have cf23 := LT_f hL (k := (k + 2)) (by omega)
      refine G_bipush (n := 62) d_To_signAt_113 (by decide) (G_pc (pc' := 115) rfl ?_)
      refine G_icmp_ne (tgt := 124) d_To_signAt_115 (by decide) (fun h24 => ?_) (fun h24 => G_pc (pc' := 118) rfl ?_)
      · skip
        refine G_sipush (n := 131) d_To_signAt_124 (by decide) (G_pc (pc' := 127) rfl ?_)
        refine G_iret d_To_signAt_127 rfl (tokI (by decide)) rfl rfl ?_
        exact ret_e (by unfold sigD; (repeat (first | rfl | omega | (rw [if_pos (by omega)]) | (rw [if_neg (by omega)])))) rfl
      · skip
        refine G_sipush (n := 132) d_To_signAt_118 (by decide) (G_pc (pc' := 121) rfl ?_)
        refine G_goto (tgt := 127) d_To_signAt_121 (by decide) ?_
        refine G_iret d_To_signAt_127 rfl (tokI (by decide)) rfl rfl ?_
        exact ret_e (by unfold sigD; (repeat (first | rfl | omega | (rw [if_pos (by omega)]) | (rw [if_neg (by omega)])))) rfl
  by_cases h7 : f k = 124
  · skip
    have e25o : Op.lookupswitch.offset [(33, 140), (38, 154), (60, 60), (61, 126), (62, 84), (124, 168)] 182 (f k) = 168 := by rw [h7]; rfl
    refine G_lookup (off := 168) (tgt := 184) d_To_signAt_16 (by decide) e25o (by decide) ?_
    refine G_iload (i := 3) (n := 0) (len := 1) (Or.inl ⟨3, rfl, rfl, d_To_signAt_184⟩) rfl (G_pc (pc' := 185) rfl ?_)
    refine G_bipush (n := 124) d_To_signAt_185 (by decide) (G_pc (pc' := 187) rfl ?_)
    refine G_icmp_ne (tgt := 196) d_To_signAt_187 (by decide) (fun h26 => ?_) (fun h26 => G_pc (pc' := 190) rfl ?_)
    · skip
      refine G_iload (i := 2) (n := 1) (len := 1) (Or.inl ⟨2, rfl, rfl, d_To_signAt_196⟩) rfl (G_pc (pc' := 197) rfl ?_)
      refine G_iret d_To_signAt_197 rfl (tokI (by omega)) rfl rfl ?_
      exact ret_e (by unfold sigD; (repeat (first | rfl | omega | (rw [if_pos (by omega)]) | (rw [if_neg (by omega)])))) rfl
    · skip
      refine G_sipush (n := 136) d_To_signAt_190 (by decide) (G_pc (pc' := 193) rfl ?_)
      refine G_goto (tgt := 197) d_To_signAt_193 (by decide) ?_
      refine G_iret d_To_signAt_197 rfl (tokI (by decide)) rfl rfl ?_
      exact ret_e (by unfold sigD; (repeat (first | rfl | omega | (rw [if_pos (by omega)]) | (rw [if_neg (by omega)])))) rfl
  have e27o : Op.lookupswitch.offset [(33, 140), (38, 154), (60, 60), (61, 126), (62, 84), (124, 168)] 182 (f k) = 182 := by rw [lk_ne (by omega), lk_ne (by omega), lk_ne (by omega), lk_ne (by omega), lk_ne (by omega), lk_ne (by omega)]; rfl
  refine G_lookup (off := 182) (tgt := 198) d_To_signAt_16 (by decide) e27o (by decide) ?_
  refine G_ldcS (i := 10) (by decide) d_To_signAt_198 rfl rfl (G_pc (pc' := 200) rfl ?_)
  refine G_iload (i := 2) (n := 1) (len := 1) (Or.inl ⟨2, rfl, rfl, d_To_signAt_200⟩) rfl (G_pc (pc' := 201) rfl ?_)
  refine G_callSt (K1 := KE) (d2 := 3) (i := 10) (as := [vi (f k)]) (rest := []) (by decide) d_To_signAt_201 mf_Js_indexOf1 ml_To_117 rfl rfl rfl (Nat.le_of_ble_eq_true rfl) (by omega) ⟨Nat.le_refl _, Nat.le_refl _⟩ (g_Js_indexOf1 (by omega) 10 (f k) _ (by decide) (by omega)) (fun r28 M29 kq30 q30 => ?_)
  clear kq30; obtain ⟨z31, q30a, q30r, q30m, q30b⟩ := q30; subst r28; subst M29
  refine G_ps (pc' := 204) (st' := [vi z31]) rfl rfl ?_
  have hbd := bm_dec (c := f k) (by omega) (by omega) (by omega) (by omega) (by omega) (by omega) (by omega)
  by_cases hbm : bymem 10 (f k)
  · skip
    have hz9 := q30m.mpr hbm
    have hb9 := hbd.1 hbm
    refine G_if_lt (tgt := 211) d_To_signAt_204 (by decide) (fun h32 => ?_) (fun h32 => G_pc (pc' := 207) rfl ?_)
    · skip
      refine G_iconst (n := 0) d_To_signAt_211 (by decide) (G_pc (pc' := 212) rfl ?_)
      refine G_iret d_To_signAt_212 rfl (tokI (by decide)) rfl rfl ?_
      exact ret_e (by unfold sigD; rw [if_neg (by omega), if_neg (by omega), if_neg (by omega), if_neg (by omega), if_neg (by omega), if_neg (by omega)]; first | omega | (rw [hb9]; rfl)) rfl
    · skip
      refine G_iload (i := 2) (n := 1) (len := 1) (Or.inl ⟨2, rfl, rfl, d_To_signAt_207⟩) rfl (G_pc (pc' := 208) rfl ?_)
      refine G_goto (tgt := 212) d_To_signAt_208 (by decide) ?_
      refine G_iret d_To_signAt_212 rfl (tokI (by omega)) rfl rfl ?_
      exact ret_e (by unfold sigD; rw [if_neg (by omega), if_neg (by omega), if_neg (by omega), if_neg (by omega), if_neg (by omega), if_neg (by omega)]; first | omega | (rw [hb9]; rfl)) rfl
  · skip
    have hz9 := (show ¬ 0 ≤ z31 from fun h9 => hbm (q30m.mp h9))
    have hb9 := hbd.2 hbm
    refine G_if_lt (tgt := 211) d_To_signAt_204 (by decide) (fun h33 => ?_) (fun h33 => G_pc (pc' := 207) rfl ?_)
    · skip
      refine G_iconst (n := 0) d_To_signAt_211 (by decide) (G_pc (pc' := 212) rfl ?_)
      refine G_iret d_To_signAt_212 rfl (tokI (by decide)) rfl rfl ?_
      exact ret_e (by unfold sigD; rw [if_neg (by omega), if_neg (by omega), if_neg (by omega), if_neg (by omega), if_neg (by omega), if_neg (by omega)]; first | omega | (rw [hb9]; rfl)) rfl
    · skip
      refine G_iload (i := 2) (n := 1) (len := 1) (Or.inl ⟨2, rfl, rfl, d_To_signAt_207⟩) rfl (G_pc (pc' := 208) rfl ?_)
      refine G_goto (tgt := 212) d_To_signAt_208 (by decide) ?_
      refine G_iret d_To_signAt_212 rfl (tokI (by omega)) rfl rfl ?_
      exact ret_e (by unfold sigD; rw [if_neg (by omega), if_neg (by omega), if_neg (by omega), if_neg (by omega), if_neg (by omega), if_neg (by omega)]; first | omega | (rw [hb9]; rfl)) rfl

