def tokQ (M : Mem) (T : TK) (r : Option PV) (M' : Mem) : Prop := (¬ T.2.2.2 = 0 ∧ r = some (vi (-1)) ∧ M' = M) ∨ (T.2.2.2 = 0 ∧ r = some (vi T.1) ∧ M' = addK M (tcode T.2.1) (tkind T.2.1) (tnum T.2.1 T.2.2.1))
theorem tokQ_n {M M' : Mem} {T T' : TK} {r : Option PV} (h : T = T') (h2 : ¬ T'.2.2.2 = 0) (hr : r = some (vi (-1))) (hM : M' = M) : tokQ M T r M' := Or.inl ⟨by rw [h]; exact h2, hr, hM⟩
theorem tokQ_s {M M' : Mem} {T T' : TK} {r : Option PV} (h : T = T') (h2 : T'.2.2.2 = 0) (hr : r = some (vi T'.1)) (hM : M' = addK M (tcode T'.2.1) (tkind T'.2.1) (tnum T'.2.1 T'.2.2.1)) : tokQ M T r M' := Or.inr ⟨by rw [h]; exact h2, by rw [h]; exact hr, by rw [h]; exact hM⟩
theorem d_To_stands_0 : decode b_To_stands 0 = .ok (.aload_n 1, 1) := by decide +kernel
theorem d_To_stands_1 : decode b_To_stands 1 = .ok (.invokevirtual 95, 3) := by decide +kernel
theorem d_To_stands_4 : decode b_To_stands 4 = .ok (.iload_n 3, 1) := by decide +kernel
theorem d_To_stands_5 : decode b_To_stands 5 = .ok (.iload_n 2, 1) := by decide +kernel
theorem d_To_stands_6 : decode b_To_stands 6 = .ok (.isub, 1) := by decide +kernel
theorem d_To_stands_7 : decode b_To_stands 7 = .ok (.if_icmp .eq 5, 3) := by decide +kernel
theorem d_To_stands_10 : decode b_To_stands 10 = .ok (.iconst 0, 1) := by decide +kernel
theorem d_To_stands_11 : decode b_To_stands 11 = .ok (.ireturn, 1) := by decide +kernel
theorem d_To_stands_12 : decode b_To_stands 12 = .ok (.iconst 0, 1) := by decide +kernel
theorem d_To_stands_13 : decode b_To_stands 13 = .ok (.istore 4, 2) := by decide +kernel
theorem d_To_stands_15 : decode b_To_stands 15 = .ok (.iload 4, 2) := by decide +kernel
theorem d_To_stands_17 : decode b_To_stands 17 = .ok (.aload_n 1, 1) := by decide +kernel
theorem d_To_stands_18 : decode b_To_stands 18 = .ok (.invokevirtual 95, 3) := by decide +kernel
theorem d_To_stands_21 : decode b_To_stands 21 = .ok (.if_icmp .ge 29, 3) := by decide +kernel
theorem d_To_stands_24 : decode b_To_stands 24 = .ok (.aload_n 1, 1) := by decide +kernel
theorem d_To_stands_25 : decode b_To_stands 25 = .ok (.iload 4, 2) := by decide +kernel
theorem d_To_stands_27 : decode b_To_stands 27 = .ok (.invokevirtual 100, 3) := by decide +kernel
theorem d_To_stands_30 : decode b_To_stands 30 = .ok (.aload_n 0, 1) := by decide +kernel
theorem d_To_stands_31 : decode b_To_stands 31 = .ok (.getfield 22, 3) := by decide +kernel
theorem d_To_stands_34 : decode b_To_stands 34 = .ok (.iload_n 2, 1) := by decide +kernel
theorem d_To_stands_35 : decode b_To_stands 35 = .ok (.iload 4, 2) := by decide +kernel
theorem d_To_stands_37 : decode b_To_stands 37 = .ok (.iadd, 1) := by decide +kernel
theorem d_To_stands_38 : decode b_To_stands 38 = .ok (.caload, 1) := by decide +kernel
theorem d_To_stands_39 : decode b_To_stands 39 = .ok (.if_icmp .eq 5, 3) := by decide +kernel
theorem d_To_stands_42 : decode b_To_stands 42 = .ok (.iconst 0, 1) := by decide +kernel
theorem d_To_stands_43 : decode b_To_stands 43 = .ok (.ireturn, 1) := by decide +kernel
theorem d_To_stands_44 : decode b_To_stands 44 = .ok (.iinc 4 1, 3) := by decide +kernel
theorem d_To_stands_47 : decode b_To_stands 47 = .ok (.goto (-32), 3) := by decide +kernel
theorem d_To_stands_50 : decode b_To_stands 50 = .ok (.iconst 1, 1) := by decide +kernel
theorem d_To_stands_51 : decode b_To_stands 51 = .ok (.ireturn, 1) := by decide +kernel
theorem g_To_stands {X : WX} {d : Nat} (hd : 4 ≤ d) (i : Nat) (e : Nat) (f : Int → Int) (len : Int) (a b : Int) (M : Mem) (hi : i < 11) (he : e < 4) (hL : LT e f len M) (hab : 0 ≤ a ∧ a ≤ b ∧ b ≤ len) : MG X gt d KE KE y_To_stands b_To_stands 5 (some .boolean) [vr 14, vr ((1000 + i : Nat) : Int), vi a, vi b] M (fun r M' => (sdP i f a b → r = some (vi 1) ∧ M' = M) ∧ (¬ sdP i f a b → r = some (vi 0) ∧ M' = M)) := by
  refine MG_of_G (by decide) (Nat.le_of_ble_eq_true rfl) (Nat.le_refl _) (by decide) ?_
  show G X gt d KE KE y_To_stands b_To_stands 5 (some .boolean) _ 0 [(0, vr 14), (1, vr ((1000 + i : Nat) : Int)), (2, vi a), (3, vi b)] [] KE M
  have hlen := hL.2.2.1
  refine G_rngl (i := 2) rfl (fun hr2 => ?_)
  refine G_rngl (i := 3) rfl (fun hr3 => ?_)
  have loop : ∀ (n : Nat) (j : Int), j + n = (lnsD i : Int) → 0 ≤ j → (∀ q : Nat, (q : Int) < j → bysD i q = f (a + q)) → (lnsD i : Int) = b - a → G X gt d KE KE y_To_stands b_To_stands 5 (some .boolean) (fun r M' => (sdP i f a b → r = some (vi 1) ∧ M' = M) ∧ (¬ sdP i f a b → r = some (vi 0) ∧ M' = M)) 15 [(4, vi j), (0, vr 14), (1, vr ((1000 + i : Nat) : Int)), (2, vi a), (3, vi b)] [] KE M := by
    intro n
    induction n with
    | zero =>
      intro j h1 h2 hno hlb
      refine G_iload (i := 4) (n := 0) (len := 2) (Or.inr ⟨rfl, d_To_stands_15⟩) rfl (G_pc (pc' := 17) rfl ?_)
      refine G_aload (i := 1) (n := 2) (len := 1) (Or.inl ⟨1, rfl, rfl, d_To_stands_17⟩) rfl (by omega) (G_pc (pc' := 18) rfl ?_)
      refine G_callSt (K1 := KE) (d2 := 1) (i := i) (as := []) (rest := [vi j]) hi d_To_stands_18 mf_Js_length ml_To_95 rfl rfl rfl (Nat.le_of_ble_eq_true rfl) (by omega) ⟨Nat.le_refl _, Nat.le_refl _⟩ (g_Js_length (by omega) i  _ hi ) (fun r1301 M1302 kq1303 q1303 => ?_)
      clear kq1303; obtain ⟨q1303a, q1303b⟩ := q1303; subst r1301; subst M1302
      refine G_ps (pc' := 21) (st' := [vi (lnsD i : Int), vi j]) rfl rfl ?_
      refine G_icmp_ge (tgt := 50) d_To_stands_21 (by decide) (fun h1304 => ?_) (fun h1304 => absurd h1304 (by omega))
      refine G_iconst (n := 1) d_To_stands_50 (by decide) (G_pc (pc' := 51) rfl ?_)
      refine G_iret d_To_stands_51 rfl (tokZ (by decide)) rfl rfl ?_
      exact ⟨fun _ => ⟨rfl, rfl⟩, fun h => absurd ⟨by omega, fun q q1 => hno q (by omega)⟩ h⟩
    | succ n ih =>
      intro j h1 h2 hno hlb
      refine G_iload (i := 4) (n := 0) (len := 2) (Or.inr ⟨rfl, d_To_stands_15⟩) rfl (G_pc (pc' := 17) rfl ?_)
      refine G_aload (i := 1) (n := 2) (len := 1) (Or.inl ⟨1, rfl, rfl, d_To_stands_17⟩) rfl (by omega) (G_pc (pc' := 18) rfl ?_)
      refine G_callSt (K1 := KE) (d2 := 1) (i := i) (as := []) (rest := [vi j]) hi d_To_stands_18 mf_Js_length ml_To_95 rfl rfl rfl (Nat.le_of_ble_eq_true rfl) (by omega) ⟨Nat.le_refl _, Nat.le_refl _⟩ (g_Js_length (by omega) i  _ hi ) (fun r1401 M1402 kq1403 q1403 => ?_)
      clear kq1403; obtain ⟨q1403a, q1403b⟩ := q1403; subst r1401; subst M1402
      refine G_ps (pc' := 21) (st' := [vi (lnsD i : Int), vi j]) rfl rfl ?_
      refine G_icmp_ge (tgt := 50) d_To_stands_21 (by decide) (fun h1404 => absurd h1404 (by omega)) (fun h1404 => G_pc (pc' := 24) rfl ?_)
      refine G_aload (i := 1) (n := 2) (len := 1) (Or.inl ⟨1, rfl, rfl, d_To_stands_24⟩) rfl (by omega) (G_pc (pc' := 25) rfl ?_)
      refine G_iload (i := 4) (n := 0) (len := 2) (Or.inr ⟨rfl, d_To_stands_25⟩) rfl (G_pc (pc' := 27) rfl ?_)
      refine G_callSt (K1 := KE) (d2 := 3) (i := i) (as := [vi j]) (rest := []) hi d_To_stands_27 mf_Js_charAt ml_To_100 rfl rfl rfl (Nat.le_of_ble_eq_true rfl) (by omega) ⟨Nat.le_refl _, Nat.le_refl _⟩ (g_Js_charAt (by omega) i j _ hi (by omega)) (fun r1405 M1406 kq1407 q1407 => ?_)
      clear kq1407; obtain ⟨q1407a, q1407b⟩ := q1407; subst r1405; subst M1406
      refine G_ps (pc' := 30) (st' := [vi (bysD i j.toNat)]) rfl rfl ?_
      refine G_aload (i := 0) (n := 1) (len := 1) (Or.inl ⟨0, rfl, rfl, d_To_stands_30⟩) rfl (by decide) (G_pc (pc' := 31) rfl ?_)
      refine G_get (o := 14) (c := 7) (k := 4) (v := M 14 4) d_To_stands_31 fl_To_22 rfl (by decide) (by decide) rfl rfl (G_pc (pc' := 34) rfl ?_)
      rw [show M 14 4 = ((27 + 9 * e : Nat) : Int) from hL.1]
      refine G_iload (i := 2) (n := 3) (len := 1) (Or.inl ⟨2, rfl, rfl, d_To_stands_34⟩) rfl (G_pc (pc' := 35) rfl ?_)
      refine G_iload (i := 4) (n := 0) (len := 2) (Or.inr ⟨rfl, d_To_stands_35⟩) rfl (G_pc (pc' := 37) rfl ?_)
      refine G_iadd d_To_stands_37 (by have := ln_rng hi; omega) (G_pc (pc' := 38) rfl ?_)
      refine G_caload (o := (27 + 9 * e)) (n := 40) (i := a + j) (v := M (27 + 9 * e) (a + j)) d_To_stands_38 (kd_S6 he) ⟨by omega, (by show 27 + 9 * e < 87; omega)⟩ (by have := ln_rng hi; omega) (rdw (gn_S6 he _) (by first | rfl | (repeat (first | rfl | exact mset_eq (by omega) | refine (mset_ne (by omega)).trans ?_ | refine (mset_ni (by omega)).trans ?_)))) (fun t1408 => G_pc (pc' := 39) rfl ?_)
      have t1408 := tok_c t1408
      have cx1409 := hL.2.2.2.1 (a + j) (by omega) (by omega)
      rw [show M (27 + 9 * e) (a + j) = f (a + j) from cx1409.1]
      refine G_icmp_eq (tgt := 44) d_To_stands_39 (by decide) (fun h1410 => ?_) (fun h1410 => G_pc (pc' := 42) rfl ?_)
      · skip
        refine G_iinc (i := 4) (n := 0) (z := 1) (ls' := [(4, vi (j + 1)), (0, vr 14), (1, vr ((1000 + i : Nat) : Int)), (2, vi a), (3, vi b)]) d_To_stands_44 rfl (by decide) (by have := ln_rng hi; omega) rfl (G_pc (pc' := 47) rfl ?_)
        refine G_goto (tgt := 15) d_To_stands_47 (by decide) ?_
        exact ih (j + 1) (by omega) (by omega) (fun q q1 => by by_cases hq : (q : Int) < j; exact hno q hq; rw [show (q : Int) = j by omega, show q = j.toNat by omega]; assumption) hlb
      · skip
        refine G_iconst (n := 0) d_To_stands_42 (by decide) (G_pc (pc' := 43) rfl ?_)
        refine G_iret d_To_stands_43 rfl (tokZ (by decide)) rfl rfl ?_
        exact ⟨fun h => by have h9 := h.2 j.toNat (by omega); rw [show a + ((j.toNat : Nat) : Int) = a + j by omega] at h9; exfalso; omega, fun _ => ⟨rfl, rfl⟩⟩
  refine G_aload (i := 1) (n := 1) (len := 1) (Or.inl ⟨1, rfl, rfl, d_To_stands_0⟩) rfl (by omega) (G_pc (pc' := 1) rfl ?_)
  refine G_callSt (K1 := KE) (d2 := 1) (i := i) (as := []) (rest := []) hi d_To_stands_1 mf_Js_length ml_To_95 rfl rfl rfl (Nat.le_of_ble_eq_true rfl) (by omega) ⟨Nat.le_refl _, Nat.le_refl _⟩ (g_Js_length (by omega) i  _ hi ) (fun r1 M2 kq3 q3 => ?_)
  clear kq3; obtain ⟨q3a, q3b⟩ := q3; subst r1; subst M2
  refine G_ps (pc' := 4) (st' := [vi (lnsD i : Int)]) rfl rfl ?_
  refine G_iload (i := 3) (n := 3) (len := 1) (Or.inl ⟨3, rfl, rfl, d_To_stands_4⟩) rfl (G_pc (pc' := 5) rfl ?_)
  refine G_iload (i := 2) (n := 2) (len := 1) (Or.inl ⟨2, rfl, rfl, d_To_stands_5⟩) rfl (G_pc (pc' := 6) rfl ?_)
  refine G_isub d_To_stands_6 (by omega) (G_pc (pc' := 7) rfl ?_)
  refine G_icmp_eq (tgt := 12) d_To_stands_7 (by decide) (fun h4 => ?_) (fun h4 => G_pc (pc' := 10) rfl ?_)
  · skip
    refine G_iconst (n := 0) d_To_stands_12 (by decide) (G_pc (pc' := 13) rfl ?_)
    refine G_istore (i := 4) (len := 2) (ls' := [(4, vi 0), (0, vr 14), (1, vr ((1000 + i : Nat) : Int)), (2, vi a), (3, vi b)]) (Or.inr ⟨rfl, d_To_stands_13⟩) (by decide) rfl (G_pc (pc' := 15) rfl ?_)
    exact loop (lnsD i) 0 (by omega) (by omega) (fun q q1 => absurd q1 (by omega)) (by omega)
  · skip
    refine G_iconst (n := 0) d_To_stands_10 (by decide) (G_pc (pc' := 11) rfl ?_)
    refine G_iret d_To_stands_11 rfl (tokZ (by decide)) rfl rfl ?_
    exact ⟨fun h => absurd h.1 (by omega), fun _ => ⟨rfl, rfl⟩⟩

theorem w1_s {b c : Int} (h : 97 ≤ c ∧ c ≤ 122) : wordT1 b c = (b, 7, c - 97, 0) := by
  have e : smaB c = true := smaB_t.mpr h
  unfold wordT1; simp only [e, if_pos]
theorem w1_b {b c : Int} (h : ¬ (97 ≤ c ∧ c ≤ 122)) (h2 : ¬ 70 < c) : wordT1 b c = (b, 8, c - 65, 0) := by
  have e : ¬ smaB c = true := fun e => h (smaB_t.mp e)
  unfold wordT1; simp only [if_neg e, if_neg h2]
theorem w1_n {b c : Int} (h : ¬ (97 ≤ c ∧ c ≤ 122)) (h2 : 70 < c) : wordT1 b c = (b, 8, c - 65, 1) := by
  have e : ¬ smaB c = true := fun e => h (smaB_t.mp e)
  unfold wordT1; simp only [if_neg e, if_pos h2]
theorem d_To_addLetter_0 : decode b_To_addLetter 0 = .ok (.iload_n 1, 1) := by decide +kernel
theorem d_To_addLetter_1 : decode b_To_addLetter 1 = .ok (.bipush 97, 2) := by decide +kernel
theorem d_To_addLetter_3 : decode b_To_addLetter 3 = .ok (.if_icmp .lt 24, 3) := by decide +kernel
theorem d_To_addLetter_6 : decode b_To_addLetter 6 = .ok (.iload_n 1, 1) := by decide +kernel
theorem d_To_addLetter_7 : decode b_To_addLetter 7 = .ok (.bipush 122, 2) := by decide +kernel
theorem d_To_addLetter_9 : decode b_To_addLetter 9 = .ok (.if_icmp .gt 18, 3) := by decide +kernel
theorem d_To_addLetter_12 : decode b_To_addLetter 12 = .ok (.aload_n 0, 1) := by decide +kernel
theorem d_To_addLetter_13 : decode b_To_addLetter 13 = .ok (.sipush 138, 3) := by decide +kernel
theorem d_To_addLetter_16 : decode b_To_addLetter 16 = .ok (.iconst (-1), 1) := by decide +kernel
theorem d_To_addLetter_17 : decode b_To_addLetter 17 = .ok (.iload_n 1, 1) := by decide +kernel
theorem d_To_addLetter_18 : decode b_To_addLetter 18 = .ok (.bipush 97, 2) := by decide +kernel
theorem d_To_addLetter_20 : decode b_To_addLetter 20 = .ok (.isub, 1) := by decide +kernel
theorem d_To_addLetter_21 : decode b_To_addLetter 21 = .ok (.i2l, 1) := by decide +kernel
theorem d_To_addLetter_22 : decode b_To_addLetter 22 = .ok (.iload_n 2, 1) := by decide +kernel
theorem d_To_addLetter_23 : decode b_To_addLetter 23 = .ok (.invokevirtual 64, 3) := by decide +kernel
theorem d_To_addLetter_26 : decode b_To_addLetter 26 = .ok (.ireturn, 1) := by decide +kernel
theorem d_To_addLetter_27 : decode b_To_addLetter 27 = .ok (.iload_n 1, 1) := by decide +kernel
theorem d_To_addLetter_28 : decode b_To_addLetter 28 = .ok (.bipush 65, 2) := by decide +kernel
theorem d_To_addLetter_30 : decode b_To_addLetter 30 = .ok (.if_icmp .lt 28, 3) := by decide +kernel
theorem d_To_addLetter_33 : decode b_To_addLetter 33 = .ok (.iload_n 1, 1) := by decide +kernel
theorem d_To_addLetter_34 : decode b_To_addLetter 34 = .ok (.bipush 70, 2) := by decide +kernel
theorem d_To_addLetter_36 : decode b_To_addLetter 36 = .ok (.if_icmp .gt 22, 3) := by decide +kernel
theorem d_To_addLetter_39 : decode b_To_addLetter 39 = .ok (.aload_n 0, 1) := by decide +kernel
theorem d_To_addLetter_40 : decode b_To_addLetter 40 = .ok (.sipush 140, 3) := by decide +kernel
theorem d_To_addLetter_43 : decode b_To_addLetter 43 = .ok (.iconst (-1), 1) := by decide +kernel
theorem d_To_addLetter_44 : decode b_To_addLetter 44 = .ok (.iconst 4, 1) := by decide +kernel
theorem d_To_addLetter_45 : decode b_To_addLetter 45 = .ok (.iload_n 1, 1) := by decide +kernel
theorem d_To_addLetter_46 : decode b_To_addLetter 46 = .ok (.iadd, 1) := by decide +kernel
theorem d_To_addLetter_47 : decode b_To_addLetter 47 = .ok (.bipush 65, 2) := by decide +kernel
theorem d_To_addLetter_49 : decode b_To_addLetter 49 = .ok (.isub, 1) := by decide +kernel
theorem d_To_addLetter_50 : decode b_To_addLetter 50 = .ok (.i2l, 1) := by decide +kernel
theorem d_To_addLetter_51 : decode b_To_addLetter 51 = .ok (.iload_n 2, 1) := by decide +kernel
theorem d_To_addLetter_52 : decode b_To_addLetter 52 = .ok (.invokevirtual 64, 3) := by decide +kernel
theorem d_To_addLetter_55 : decode b_To_addLetter 55 = .ok (.goto 4, 3) := by decide +kernel
theorem d_To_addLetter_58 : decode b_To_addLetter 58 = .ok (.iconst (-1), 1) := by decide +kernel
theorem d_To_addLetter_59 : decode b_To_addLetter 59 = .ok (.ireturn, 1) := by decide +kernel
theorem g_To_addLetter {X : WX} {d : Nat} (hd : 1 ≤ d) (c b : Int) (M : Mem) (hs : 0 ≤ M 14 3 ∧ M 14 3 < 24) (hc : (97 ≤ c ∧ c ≤ 122) ∨ (65 ≤ c ∧ c ≤ 90)) : MG X gt d KE KE y_To_addLetter b_To_addLetter 3 (some .int) [vr 14, vi c, vi b] M (tokQ M (wordT1 b c)) := by
  refine MG_of_G (by decide) (Nat.le_of_ble_eq_true rfl) (Nat.le_refl _) (by decide) ?_
  show G X gt d KE KE y_To_addLetter b_To_addLetter 3 (some .int) _ 0 [(0, vr 14), (1, vi c), (2, vi b)] [] KE M
  refine G_rngl (i := 1) rfl (fun hr1 => ?_)
  refine G_rngl (i := 2) rfl (fun hr2 => ?_)
  refine G_iload (i := 1) (n := 1) (len := 1) (Or.inl ⟨1, rfl, rfl, d_To_addLetter_0⟩) rfl (G_pc (pc' := 1) rfl ?_)
  refine G_bipush (n := 97) d_To_addLetter_1 (by decide) (G_pc (pc' := 3) rfl ?_)
  refine G_icmp_lt (tgt := 27) d_To_addLetter_3 (by decide) (fun h1 => ?_) (fun h1 => G_pc (pc' := 6) rfl ?_)
  · skip
    refine G_iload (i := 1) (n := 1) (len := 1) (Or.inl ⟨1, rfl, rfl, d_To_addLetter_27⟩) rfl (G_pc (pc' := 28) rfl ?_)
    refine G_bipush (n := 65) d_To_addLetter_28 (by decide) (G_pc (pc' := 30) rfl ?_)
    refine G_icmp_lt (tgt := 58) d_To_addLetter_30 (by decide) (fun h2 => ?_) (fun h2 => G_pc (pc' := 33) rfl ?_)
    · skip
      refine G_iconst (n := (-1)) d_To_addLetter_58 (by decide) (G_pc (pc' := 59) rfl ?_)
      refine G_iret d_To_addLetter_59 rfl (tokI (by decide)) rfl rfl ?_
      exact tokQ_n (w1_n (by omega) (by omega)) (by show ¬ (1 : Int) = 0; decide) rfl rfl
    · skip
      refine G_iload (i := 1) (n := 1) (len := 1) (Or.inl ⟨1, rfl, rfl, d_To_addLetter_33⟩) rfl (G_pc (pc' := 34) rfl ?_)
      refine G_bipush (n := 70) d_To_addLetter_34 (by decide) (G_pc (pc' := 36) rfl ?_)
      refine G_icmp_gt (tgt := 58) d_To_addLetter_36 (by decide) (fun h3 => ?_) (fun h3 => G_pc (pc' := 39) rfl ?_)
      · skip
        refine G_iconst (n := (-1)) d_To_addLetter_58 (by decide) (G_pc (pc' := 59) rfl ?_)
        refine G_iret d_To_addLetter_59 rfl (tokI (by decide)) rfl rfl ?_
        exact tokQ_n (w1_n (by omega) (by omega)) (by show ¬ (1 : Int) = 0; decide) rfl rfl
      · skip
        refine G_aload (i := 0) (n := 0) (len := 1) (Or.inl ⟨0, rfl, rfl, d_To_addLetter_39⟩) rfl (by decide) (G_pc (pc' := 40) rfl ?_)
        refine G_sipush (n := 140) d_To_addLetter_40 (by decide) (G_pc (pc' := 43) rfl ?_)
        refine G_iconst (n := (-1)) d_To_addLetter_43 (by decide) (G_pc (pc' := 44) rfl ?_)
        refine G_iconst (n := 4) d_To_addLetter_44 (by decide) (G_pc (pc' := 45) rfl ?_)
        refine G_iload (i := 1) (n := 1) (len := 1) (Or.inl ⟨1, rfl, rfl, d_To_addLetter_45⟩) rfl (G_pc (pc' := 46) rfl ?_)
        refine G_iadd d_To_addLetter_46 (by omega) (G_pc (pc' := 47) rfl ?_)
        refine G_bipush (n := 65) d_To_addLetter_47 (by decide) (G_pc (pc' := 49) rfl ?_)
        refine G_isub d_To_addLetter_49 (by omega) (G_pc (pc' := 50) rfl ?_)
        refine G_i2l d_To_addLetter_50 (G_pc (pc' := 51) rfl ?_)
        refine G_iload (i := 2) (n := 2) (len := 1) (Or.inl ⟨2, rfl, rfl, d_To_addLetter_51⟩) rfl (G_pc (pc' := 52) rfl ?_)
        refine G_callV (K1 := KE) (d2 := 0) (o := 14) (cl := 7) (as := [vi 140, vi (-1), vl ((4 + c) - 65), vi b]) (rest := []) d_To_addLetter_52 mf_To_add ml_To_64 rfl rfl (by decide) rfl rfl (Nat.le_of_ble_eq_true rfl) (by omega) ⟨Nat.le_refl _, Nat.le_refl _⟩ (g_To_add (by omega) 140 (-1) ((4 + c) - 65) b M hs) (fun r4 M5 kq6 q6 => ?_)
        clear kq6; obtain ⟨q6a, q6b⟩ := q6; subst r4; subst M5
        refine G_ps (pc' := 55) (st' := [vi b]) rfl rfl ?_
        refine G_goto (tgt := 59) d_To_addLetter_55 (by decide) ?_
        refine G_iret d_To_addLetter_59 rfl (tokI (by omega)) rfl rfl ?_
        exact tokQ_s (w1_b (by omega) (by omega)) rfl rfl (by rw [show 4 + c - 65 = 4 + (c - 65) by omega]; rfl)
  · skip
    refine G_iload (i := 1) (n := 1) (len := 1) (Or.inl ⟨1, rfl, rfl, d_To_addLetter_6⟩) rfl (G_pc (pc' := 7) rfl ?_)
    refine G_bipush (n := 122) d_To_addLetter_7 (by decide) (G_pc (pc' := 9) rfl ?_)
    refine G_icmp_gt (tgt := 27) d_To_addLetter_9 (by decide) (fun h7 => ?_) (fun h7 => G_pc (pc' := 12) rfl ?_)
    · skip
      refine G_iload (i := 1) (n := 1) (len := 1) (Or.inl ⟨1, rfl, rfl, d_To_addLetter_27⟩) rfl (G_pc (pc' := 28) rfl ?_)
      refine G_bipush (n := 65) d_To_addLetter_28 (by decide) (G_pc (pc' := 30) rfl ?_)
      refine G_icmp_lt (tgt := 58) d_To_addLetter_30 (by decide) (fun h8 => ?_) (fun h8 => G_pc (pc' := 33) rfl ?_)
      · skip
        refine G_iconst (n := (-1)) d_To_addLetter_58 (by decide) (G_pc (pc' := 59) rfl ?_)
        refine G_iret d_To_addLetter_59 rfl (tokI (by decide)) rfl rfl ?_
        exact tokQ_n (w1_n (by omega) (by omega)) (by show ¬ (1 : Int) = 0; decide) rfl rfl
      · skip
        refine G_iload (i := 1) (n := 1) (len := 1) (Or.inl ⟨1, rfl, rfl, d_To_addLetter_33⟩) rfl (G_pc (pc' := 34) rfl ?_)
        refine G_bipush (n := 70) d_To_addLetter_34 (by decide) (G_pc (pc' := 36) rfl ?_)
        refine G_icmp_gt (tgt := 58) d_To_addLetter_36 (by decide) (fun h9 => ?_) (fun h9 => G_pc (pc' := 39) rfl ?_)
        · skip
          refine G_iconst (n := (-1)) d_To_addLetter_58 (by decide) (G_pc (pc' := 59) rfl ?_)
          refine G_iret d_To_addLetter_59 rfl (tokI (by decide)) rfl rfl ?_
          exact tokQ_n (w1_n (by omega) (by omega)) (by show ¬ (1 : Int) = 0; decide) rfl rfl
        · skip
          refine G_aload (i := 0) (n := 0) (len := 1) (Or.inl ⟨0, rfl, rfl, d_To_addLetter_39⟩) rfl (by decide) (G_pc (pc' := 40) rfl ?_)
          refine G_sipush (n := 140) d_To_addLetter_40 (by decide) (G_pc (pc' := 43) rfl ?_)
          refine G_iconst (n := (-1)) d_To_addLetter_43 (by decide) (G_pc (pc' := 44) rfl ?_)
          refine G_iconst (n := 4) d_To_addLetter_44 (by decide) (G_pc (pc' := 45) rfl ?_)
          refine G_iload (i := 1) (n := 1) (len := 1) (Or.inl ⟨1, rfl, rfl, d_To_addLetter_45⟩) rfl (G_pc (pc' := 46) rfl ?_)
          refine G_iadd d_To_addLetter_46 (by omega) (G_pc (pc' := 47) rfl ?_)
          refine G_bipush (n := 65) d_To_addLetter_47 (by decide) (G_pc (pc' := 49) rfl ?_)
          refine G_isub d_To_addLetter_49 (by omega) (G_pc (pc' := 50) rfl ?_)
          refine G_i2l d_To_addLetter_50 (G_pc (pc' := 51) rfl ?_)
          refine G_iload (i := 2) (n := 2) (len := 1) (Or.inl ⟨2, rfl, rfl, d_To_addLetter_51⟩) rfl (G_pc (pc' := 52) rfl ?_)
          refine G_callV (K1 := KE) (d2 := 0) (o := 14) (cl := 7) (as := [vi 140, vi (-1), vl ((4 + c) - 65), vi b]) (rest := []) d_To_addLetter_52 mf_To_add ml_To_64 rfl rfl (by decide) rfl rfl (Nat.le_of_ble_eq_true rfl) (by omega) ⟨Nat.le_refl _, Nat.le_refl _⟩ (g_To_add (by omega) 140 (-1) ((4 + c) - 65) b M hs) (fun r10 M11 kq12 q12 => ?_)
          clear kq12; obtain ⟨q12a, q12b⟩ := q12; subst r10; subst M11
          refine G_ps (pc' := 55) (st' := [vi b]) rfl rfl ?_
          refine G_goto (tgt := 59) d_To_addLetter_55 (by decide) ?_
          refine G_iret d_To_addLetter_59 rfl (tokI (by omega)) rfl rfl ?_
          exact tokQ_s (w1_b (by omega) (by omega)) rfl rfl (by rw [show 4 + c - 65 = 4 + (c - 65) by omega]; rfl)
    · skip
      refine G_aload (i := 0) (n := 0) (len := 1) (Or.inl ⟨0, rfl, rfl, d_To_addLetter_12⟩) rfl (by decide) (G_pc (pc' := 13) rfl ?_)
      refine G_sipush (n := 138) d_To_addLetter_13 (by decide) (G_pc (pc' := 16) rfl ?_)
      refine G_iconst (n := (-1)) d_To_addLetter_16 (by decide) (G_pc (pc' := 17) rfl ?_)
      refine G_iload (i := 1) (n := 1) (len := 1) (Or.inl ⟨1, rfl, rfl, d_To_addLetter_17⟩) rfl (G_pc (pc' := 18) rfl ?_)
      refine G_bipush (n := 97) d_To_addLetter_18 (by decide) (G_pc (pc' := 20) rfl ?_)
      refine G_isub d_To_addLetter_20 (by omega) (G_pc (pc' := 21) rfl ?_)
      refine G_i2l d_To_addLetter_21 (G_pc (pc' := 22) rfl ?_)
      refine G_iload (i := 2) (n := 2) (len := 1) (Or.inl ⟨2, rfl, rfl, d_To_addLetter_22⟩) rfl (G_pc (pc' := 23) rfl ?_)
      refine G_callV (K1 := KE) (d2 := 0) (o := 14) (cl := 7) (as := [vi 138, vi (-1), vl (c - 97), vi b]) (rest := []) d_To_addLetter_23 mf_To_add ml_To_64 rfl rfl (by decide) rfl rfl (Nat.le_of_ble_eq_true rfl) (by omega) ⟨Nat.le_refl _, Nat.le_refl _⟩ (g_To_add (by omega) 138 (-1) (c - 97) b M hs) (fun r13 M14 kq15 q15 => ?_)
      clear kq15; obtain ⟨q15a, q15b⟩ := q15; subst r13; subst M14
      refine G_ps (pc' := 26) (st' := [vi b]) rfl rfl ?_
      refine G_iret d_To_addLetter_26 rfl (tokI (by omega)) rfl rfl ?_
      exact tokQ_s (w1_s (by omega)) rfl rfl rfl

theorem d_To_addWord_0 : decode b_To_addWord 0 = .ok (.aload_n 0, 1) := by decide +kernel
theorem d_To_addWord_1 : decode b_To_addWord 1 = .ok (.ldc 68, 2) := by decide +kernel
theorem d_To_addWord_3 : decode b_To_addWord 3 = .ok (.iload_n 1, 1) := by decide +kernel
theorem d_To_addWord_4 : decode b_To_addWord 4 = .ok (.iload_n 2, 1) := by decide +kernel
theorem d_To_addWord_5 : decode b_To_addWord 5 = .ok (.invokevirtual 70, 3) := by decide +kernel
theorem d_To_addWord_8 : decode b_To_addWord 8 = .ok (.ifCond .eq 14, 3) := by decide +kernel
theorem d_To_addWord_11 : decode b_To_addWord 11 = .ok (.aload_n 0, 1) := by decide +kernel
theorem d_To_addWord_12 : decode b_To_addWord 12 = .ok (.sipush 137, 3) := by decide +kernel
theorem d_To_addWord_15 : decode b_To_addWord 15 = .ok (.iconst 3, 1) := by decide +kernel
theorem d_To_addWord_16 : decode b_To_addWord 16 = .ok (.lconst 1, 1) := by decide +kernel
theorem d_To_addWord_17 : decode b_To_addWord 17 = .ok (.iload_n 2, 1) := by decide +kernel
theorem d_To_addWord_18 : decode b_To_addWord 18 = .ok (.invokevirtual 64, 3) := by decide +kernel
theorem d_To_addWord_21 : decode b_To_addWord 21 = .ok (.ireturn, 1) := by decide +kernel
theorem d_To_addWord_22 : decode b_To_addWord 22 = .ok (.aload_n 0, 1) := by decide +kernel
theorem d_To_addWord_23 : decode b_To_addWord 23 = .ok (.ldc 74, 2) := by decide +kernel
theorem d_To_addWord_25 : decode b_To_addWord 25 = .ok (.iload_n 1, 1) := by decide +kernel
theorem d_To_addWord_26 : decode b_To_addWord 26 = .ok (.iload_n 2, 1) := by decide +kernel
theorem d_To_addWord_27 : decode b_To_addWord 27 = .ok (.invokevirtual 70, 3) := by decide +kernel
theorem d_To_addWord_30 : decode b_To_addWord 30 = .ok (.ifCond .eq 14, 3) := by decide +kernel
theorem d_To_addWord_33 : decode b_To_addWord 33 = .ok (.aload_n 0, 1) := by decide +kernel
theorem d_To_addWord_34 : decode b_To_addWord 34 = .ok (.sipush 137, 3) := by decide +kernel
theorem d_To_addWord_37 : decode b_To_addWord 37 = .ok (.iconst 3, 1) := by decide +kernel
theorem d_To_addWord_38 : decode b_To_addWord 38 = .ok (.lconst 0, 1) := by decide +kernel
theorem d_To_addWord_39 : decode b_To_addWord 39 = .ok (.iload_n 2, 1) := by decide +kernel
theorem d_To_addWord_40 : decode b_To_addWord 40 = .ok (.invokevirtual 64, 3) := by decide +kernel
theorem d_To_addWord_43 : decode b_To_addWord 43 = .ok (.ireturn, 1) := by decide +kernel
theorem d_To_addWord_44 : decode b_To_addWord 44 = .ok (.aload_n 0, 1) := by decide +kernel
theorem d_To_addWord_45 : decode b_To_addWord 45 = .ok (.ldc 76, 2) := by decide +kernel
theorem d_To_addWord_47 : decode b_To_addWord 47 = .ok (.iload_n 1, 1) := by decide +kernel
theorem d_To_addWord_48 : decode b_To_addWord 48 = .ok (.iload_n 2, 1) := by decide +kernel
theorem d_To_addWord_49 : decode b_To_addWord 49 = .ok (.invokevirtual 70, 3) := by decide +kernel
theorem d_To_addWord_52 : decode b_To_addWord 52 = .ok (.ifCond .eq 15, 3) := by decide +kernel
theorem d_To_addWord_55 : decode b_To_addWord 55 = .ok (.aload_n 0, 1) := by decide +kernel
theorem d_To_addWord_56 : decode b_To_addWord 56 = .ok (.sipush 137, 3) := by decide +kernel
theorem d_To_addWord_59 : decode b_To_addWord 59 = .ok (.bipush 17, 2) := by decide +kernel
theorem d_To_addWord_61 : decode b_To_addWord 61 = .ok (.lconst 0, 1) := by decide +kernel
theorem d_To_addWord_62 : decode b_To_addWord 62 = .ok (.iload_n 2, 1) := by decide +kernel
theorem d_To_addWord_63 : decode b_To_addWord 63 = .ok (.invokevirtual 64, 3) := by decide +kernel
theorem d_To_addWord_66 : decode b_To_addWord 66 = .ok (.ireturn, 1) := by decide +kernel
theorem d_To_addWord_67 : decode b_To_addWord 67 = .ok (.aload_n 0, 1) := by decide +kernel
theorem d_To_addWord_68 : decode b_To_addWord 68 = .ok (.ldc 78, 2) := by decide +kernel
theorem d_To_addWord_70 : decode b_To_addWord 70 = .ok (.iload_n 1, 1) := by decide +kernel
theorem d_To_addWord_71 : decode b_To_addWord 71 = .ok (.iload_n 2, 1) := by decide +kernel
theorem d_To_addWord_72 : decode b_To_addWord 72 = .ok (.invokevirtual 70, 3) := by decide +kernel
theorem d_To_addWord_75 : decode b_To_addWord 75 = .ok (.ifCond .eq 14, 3) := by decide +kernel
theorem d_To_addWord_78 : decode b_To_addWord 78 = .ok (.aload_n 0, 1) := by decide +kernel
theorem d_To_addWord_79 : decode b_To_addWord 79 = .ok (.sipush 139, 3) := by decide +kernel
theorem d_To_addWord_82 : decode b_To_addWord 82 = .ok (.iconst (-1), 1) := by decide +kernel
theorem d_To_addWord_83 : decode b_To_addWord 83 = .ok (.lconst 0, 1) := by decide +kernel
theorem d_To_addWord_84 : decode b_To_addWord 84 = .ok (.iload_n 2, 1) := by decide +kernel
theorem d_To_addWord_85 : decode b_To_addWord 85 = .ok (.invokevirtual 64, 3) := by decide +kernel
theorem d_To_addWord_88 : decode b_To_addWord 88 = .ok (.ireturn, 1) := by decide +kernel
theorem d_To_addWord_89 : decode b_To_addWord 89 = .ok (.aload_n 0, 1) := by decide +kernel
theorem d_To_addWord_90 : decode b_To_addWord 90 = .ok (.ldc 80, 2) := by decide +kernel
theorem d_To_addWord_92 : decode b_To_addWord 92 = .ok (.iload_n 1, 1) := by decide +kernel
theorem d_To_addWord_93 : decode b_To_addWord 93 = .ok (.iload_n 2, 1) := by decide +kernel
theorem d_To_addWord_94 : decode b_To_addWord 94 = .ok (.invokevirtual 70, 3) := by decide +kernel
theorem d_To_addWord_97 : decode b_To_addWord 97 = .ok (.ifCond .eq 14, 3) := by decide +kernel
theorem d_To_addWord_100 : decode b_To_addWord 100 = .ok (.aload_n 0, 1) := by decide +kernel
theorem d_To_addWord_101 : decode b_To_addWord 101 = .ok (.sipush 140, 3) := by decide +kernel
theorem d_To_addWord_104 : decode b_To_addWord 104 = .ok (.iconst (-1), 1) := by decide +kernel
theorem d_To_addWord_105 : decode b_To_addWord 105 = .ok (.lconst 0, 1) := by decide +kernel
theorem d_To_addWord_106 : decode b_To_addWord 106 = .ok (.iload_n 2, 1) := by decide +kernel
theorem d_To_addWord_107 : decode b_To_addWord 107 = .ok (.invokevirtual 64, 3) := by decide +kernel
theorem d_To_addWord_110 : decode b_To_addWord 110 = .ok (.ireturn, 1) := by decide +kernel
theorem d_To_addWord_111 : decode b_To_addWord 111 = .ok (.aload_n 0, 1) := by decide +kernel
theorem d_To_addWord_112 : decode b_To_addWord 112 = .ok (.ldc 82, 2) := by decide +kernel
theorem d_To_addWord_114 : decode b_To_addWord 114 = .ok (.iload_n 1, 1) := by decide +kernel
theorem d_To_addWord_115 : decode b_To_addWord 115 = .ok (.iload_n 2, 1) := by decide +kernel
theorem d_To_addWord_116 : decode b_To_addWord 116 = .ok (.invokevirtual 70, 3) := by decide +kernel
theorem d_To_addWord_119 : decode b_To_addWord 119 = .ok (.ifCond .eq 14, 3) := by decide +kernel
theorem d_To_addWord_122 : decode b_To_addWord 122 = .ok (.aload_n 0, 1) := by decide +kernel
theorem d_To_addWord_123 : decode b_To_addWord 123 = .ok (.sipush 140, 3) := by decide +kernel
theorem d_To_addWord_126 : decode b_To_addWord 126 = .ok (.iconst (-1), 1) := by decide +kernel
theorem d_To_addWord_127 : decode b_To_addWord 127 = .ok (.lconst 1, 1) := by decide +kernel
theorem d_To_addWord_128 : decode b_To_addWord 128 = .ok (.iload_n 2, 1) := by decide +kernel
theorem d_To_addWord_129 : decode b_To_addWord 129 = .ok (.invokevirtual 64, 3) := by decide +kernel
theorem d_To_addWord_132 : decode b_To_addWord 132 = .ok (.ireturn, 1) := by decide +kernel
theorem d_To_addWord_133 : decode b_To_addWord 133 = .ok (.aload_n 0, 1) := by decide +kernel
theorem d_To_addWord_134 : decode b_To_addWord 134 = .ok (.ldc 84, 2) := by decide +kernel
theorem d_To_addWord_136 : decode b_To_addWord 136 = .ok (.iload_n 1, 1) := by decide +kernel
theorem d_To_addWord_137 : decode b_To_addWord 137 = .ok (.iload_n 2, 1) := by decide +kernel
theorem d_To_addWord_138 : decode b_To_addWord 138 = .ok (.invokevirtual 70, 3) := by decide +kernel
theorem d_To_addWord_141 : decode b_To_addWord 141 = .ok (.ifCond .eq 16, 3) := by decide +kernel
theorem d_To_addWord_144 : decode b_To_addWord 144 = .ok (.aload_n 0, 1) := by decide +kernel
theorem d_To_addWord_145 : decode b_To_addWord 145 = .ok (.sipush 140, 3) := by decide +kernel
theorem d_To_addWord_148 : decode b_To_addWord 148 = .ok (.iconst (-1), 1) := by decide +kernel
theorem d_To_addWord_149 : decode b_To_addWord 149 = .ok (.ldc2_w 86, 3) := by decide +kernel
theorem d_To_addWord_152 : decode b_To_addWord 152 = .ok (.iload_n 2, 1) := by decide +kernel
theorem d_To_addWord_153 : decode b_To_addWord 153 = .ok (.invokevirtual 64, 3) := by decide +kernel
theorem d_To_addWord_156 : decode b_To_addWord 156 = .ok (.ireturn, 1) := by decide +kernel
theorem d_To_addWord_157 : decode b_To_addWord 157 = .ok (.aload_n 0, 1) := by decide +kernel
theorem d_To_addWord_158 : decode b_To_addWord 158 = .ok (.ldc 88, 2) := by decide +kernel
theorem d_To_addWord_160 : decode b_To_addWord 160 = .ok (.iload_n 1, 1) := by decide +kernel
theorem d_To_addWord_161 : decode b_To_addWord 161 = .ok (.iload_n 2, 1) := by decide +kernel
theorem d_To_addWord_162 : decode b_To_addWord 162 = .ok (.invokevirtual 70, 3) := by decide +kernel
theorem d_To_addWord_165 : decode b_To_addWord 165 = .ok (.ifCond .eq 16, 3) := by decide +kernel
theorem d_To_addWord_168 : decode b_To_addWord 168 = .ok (.aload_n 0, 1) := by decide +kernel
theorem d_To_addWord_169 : decode b_To_addWord 169 = .ok (.sipush 140, 3) := by decide +kernel
theorem d_To_addWord_172 : decode b_To_addWord 172 = .ok (.iconst (-1), 1) := by decide +kernel
theorem d_To_addWord_173 : decode b_To_addWord 173 = .ok (.ldc2_w 90, 3) := by decide +kernel
theorem d_To_addWord_176 : decode b_To_addWord 176 = .ok (.iload_n 2, 1) := by decide +kernel
theorem d_To_addWord_177 : decode b_To_addWord 177 = .ok (.invokevirtual 64, 3) := by decide +kernel
theorem d_To_addWord_180 : decode b_To_addWord 180 = .ok (.ireturn, 1) := by decide +kernel
theorem d_To_addWord_181 : decode b_To_addWord 181 = .ok (.aload_n 0, 1) := by decide +kernel
theorem d_To_addWord_182 : decode b_To_addWord 182 = .ok (.ldc 92, 2) := by decide +kernel
theorem d_To_addWord_184 : decode b_To_addWord 184 = .ok (.iload_n 1, 1) := by decide +kernel
theorem d_To_addWord_185 : decode b_To_addWord 185 = .ok (.iload_n 2, 1) := by decide +kernel
theorem d_To_addWord_186 : decode b_To_addWord 186 = .ok (.invokevirtual 70, 3) := by decide +kernel
theorem d_To_addWord_189 : decode b_To_addWord 189 = .ok (.ifCond .eq 14, 3) := by decide +kernel
theorem d_To_addWord_192 : decode b_To_addWord 192 = .ok (.aload_n 0, 1) := by decide +kernel
theorem d_To_addWord_193 : decode b_To_addWord 193 = .ok (.sipush 141, 3) := by decide +kernel
theorem d_To_addWord_196 : decode b_To_addWord 196 = .ok (.iconst (-1), 1) := by decide +kernel
theorem d_To_addWord_197 : decode b_To_addWord 197 = .ok (.lconst 0, 1) := by decide +kernel
theorem d_To_addWord_198 : decode b_To_addWord 198 = .ok (.iload_n 2, 1) := by decide +kernel
theorem d_To_addWord_199 : decode b_To_addWord 199 = .ok (.invokevirtual 64, 3) := by decide +kernel
theorem d_To_addWord_202 : decode b_To_addWord 202 = .ok (.ireturn, 1) := by decide +kernel
theorem d_To_addWord_203 : decode b_To_addWord 203 = .ok (.aload_n 0, 1) := by decide +kernel
theorem d_To_addWord_204 : decode b_To_addWord 204 = .ok (.ldc 94, 2) := by decide +kernel
theorem d_To_addWord_206 : decode b_To_addWord 206 = .ok (.iload_n 1, 1) := by decide +kernel
theorem d_To_addWord_207 : decode b_To_addWord 207 = .ok (.iload_n 2, 1) := by decide +kernel
theorem d_To_addWord_208 : decode b_To_addWord 208 = .ok (.invokevirtual 70, 3) := by decide +kernel
theorem d_To_addWord_211 : decode b_To_addWord 211 = .ok (.ifCond .eq 16, 3) := by decide +kernel
theorem d_To_addWord_214 : decode b_To_addWord 214 = .ok (.aload_n 0, 1) := by decide +kernel
theorem d_To_addWord_215 : decode b_To_addWord 215 = .ok (.sipush 142, 3) := by decide +kernel
theorem d_To_addWord_218 : decode b_To_addWord 218 = .ok (.iconst (-1), 1) := by decide +kernel
theorem d_To_addWord_219 : decode b_To_addWord 219 = .ok (.lconst 0, 1) := by decide +kernel
theorem d_To_addWord_220 : decode b_To_addWord 220 = .ok (.iload_n 2, 1) := by decide +kernel
theorem d_To_addWord_221 : decode b_To_addWord 221 = .ok (.invokevirtual 64, 3) := by decide +kernel
theorem d_To_addWord_224 : decode b_To_addWord 224 = .ok (.goto 4, 3) := by decide +kernel
theorem d_To_addWord_227 : decode b_To_addWord 227 = .ok (.iconst (-1), 1) := by decide +kernel
theorem d_To_addWord_228 : decode b_To_addWord 228 = .ok (.ireturn, 1) := by decide +kernel
set_option maxHeartbeats 1000000 in
theorem g_To_addWord {X : WX} {d : Nat} (hd : 5 ≤ d) (e : Nat) (f : Int → Int) (len : Int) (a b : Int) (M : Mem) (he : e < 4) (hL : LT e f len M) (hs : 0 ≤ M 14 3 ∧ M 14 3 < 24) (hab : 0 ≤ a ∧ a ≤ b ∧ b ≤ len) (hb : runE letB f (40 - a).toNat a = b) (h1 : ¬ b - a = 1) : MG X gt d KE KE y_To_addWord b_To_addWord 3 (some .int) [vr 14, vi a, vi b] M (tokQ M (wordT f a)) := by
  refine MG_of_G (by decide) (Nat.le_of_ble_eq_true rfl) (Nat.le_refl _) (by decide) ?_
  show G X gt d KE KE y_To_addWord b_To_addWord 3 (some .int) _ 0 [(0, vr 14), (1, vi a), (2, vi b)] [] KE M
  have hlen := hL.2.2.1
  refine G_rngl (i := 1) rfl (fun hr1 => ?_)
  refine G_rngl (i := 2) rfl (fun hr2 => ?_)
  refine G_aload (i := 0) (n := 0) (len := 1) (Or.inl ⟨0, rfl, rfl, d_To_addWord_0⟩) rfl (by decide) (G_pc (pc' := 1) rfl ?_)
  refine G_ldcS (i := 0) (by decide) d_To_addWord_1 rfl rfl (G_pc (pc' := 3) rfl ?_)
  refine G_iload (i := 1) (n := 1) (len := 1) (Or.inl ⟨1, rfl, rfl, d_To_addWord_3⟩) rfl (G_pc (pc' := 4) rfl ?_)
  refine G_iload (i := 2) (n := 2) (len := 1) (Or.inl ⟨2, rfl, rfl, d_To_addWord_4⟩) rfl (G_pc (pc' := 5) rfl ?_)
  refine G_callV (K1 := KE) (d2 := 4) (o := 14) (cl := 7) (as := [vr ((1000 + 0 : Nat) : Int), vi a, vi b]) (rest := []) d_To_addWord_5 mf_To_stands ml_To_70 rfl rfl (by decide) rfl rfl (Nat.le_of_ble_eq_true rfl) (by omega) ⟨Nat.le_refl _, Nat.le_refl _⟩ (g_To_stands (by omega) 0 e f len a b M (by decide) he hL (by omega)) (fun r1 M2 kq3 q3 => ?_)
  clear kq3
  by_cases hs4 : sdP 0 f a b
  · skip
    obtain ⟨q3a, q3b⟩ := q3.1 hs4; subst r1; subst M2
    refine G_ps (pc' := 8) (st' := [vi 1]) rfl rfl ?_
    refine G_if_eq (tgt := 22) d_To_addWord_8 (by decide) (fun h5 => absurd h5 (by decide)) (fun h5 => G_pc (pc' := 11) rfl ?_)
    refine G_aload (i := 0) (n := 0) (len := 1) (Or.inl ⟨0, rfl, rfl, d_To_addWord_11⟩) rfl (by decide) (G_pc (pc' := 12) rfl ?_)
    refine G_sipush (n := 137) d_To_addWord_12 (by decide) (G_pc (pc' := 15) rfl ?_)
    refine G_iconst (n := 3) d_To_addWord_15 (by decide) (G_pc (pc' := 16) rfl ?_)
    refine G_lconst1 d_To_addWord_16 (G_pc (pc' := 17) rfl ?_)
    refine G_iload (i := 2) (n := 2) (len := 1) (Or.inl ⟨2, rfl, rfl, d_To_addWord_17⟩) rfl (G_pc (pc' := 18) rfl ?_)
    refine G_callV (K1 := KE) (d2 := 0) (o := 14) (cl := 7) (as := [vi 137, vi 3, vl 1, vi b]) (rest := []) d_To_addWord_18 mf_To_add ml_To_64 rfl rfl (by decide) rfl rfl (Nat.le_of_ble_eq_true rfl) (by omega) ⟨Nat.le_refl _, Nat.le_refl _⟩ (g_To_add (by omega) 137 3 1 b M hs) (fun r6 M7 kq8 q8 => ?_)
    clear kq8; obtain ⟨q8a, q8b⟩ := q8; subst r6; subst M7
    refine G_ps (pc' := 21) (st' := [vi b]) rfl rfl ?_
    refine G_iret d_To_addWord_21 rfl (tokI (by omega)) rfl rfl ?_
    exact tokQ_s ((word_sd hb h1).1 0 (by decide) hs4) rfl rfl rfl
  · skip
    obtain ⟨q3a, q3b⟩ := q3.2 hs4; subst r1; subst M2
    refine G_ps (pc' := 8) (st' := [vi 0]) rfl rfl ?_
    refine G_if_eq (tgt := 22) d_To_addWord_8 (by decide) (fun h9 => ?_) (fun h9 => absurd h9 (by decide))
    refine G_aload (i := 0) (n := 0) (len := 1) (Or.inl ⟨0, rfl, rfl, d_To_addWord_22⟩) rfl (by decide) (G_pc (pc' := 23) rfl ?_)
    refine G_ldcS (i := 1) (by decide) d_To_addWord_23 rfl rfl (G_pc (pc' := 25) rfl ?_)
    refine G_iload (i := 1) (n := 1) (len := 1) (Or.inl ⟨1, rfl, rfl, d_To_addWord_25⟩) rfl (G_pc (pc' := 26) rfl ?_)
    refine G_iload (i := 2) (n := 2) (len := 1) (Or.inl ⟨2, rfl, rfl, d_To_addWord_26⟩) rfl (G_pc (pc' := 27) rfl ?_)
    refine G_callV (K1 := KE) (d2 := 4) (o := 14) (cl := 7) (as := [vr ((1000 + 1 : Nat) : Int), vi a, vi b]) (rest := []) d_To_addWord_27 mf_To_stands ml_To_70 rfl rfl (by decide) rfl rfl (Nat.le_of_ble_eq_true rfl) (by omega) ⟨Nat.le_refl _, Nat.le_refl _⟩ (g_To_stands (by omega) 1 e f len a b M (by decide) he hL (by omega)) (fun r10 M11 kq12 q12 => ?_)
    clear kq12
    by_cases hs13 : sdP 1 f a b
    · skip
      obtain ⟨q12a, q12b⟩ := q12.1 hs13; subst r10; subst M11
      refine G_ps (pc' := 30) (st' := [vi 1]) rfl rfl ?_
      refine G_if_eq (tgt := 44) d_To_addWord_30 (by decide) (fun h14 => absurd h14 (by decide)) (fun h14 => G_pc (pc' := 33) rfl ?_)
      refine G_aload (i := 0) (n := 0) (len := 1) (Or.inl ⟨0, rfl, rfl, d_To_addWord_33⟩) rfl (by decide) (G_pc (pc' := 34) rfl ?_)
      refine G_sipush (n := 137) d_To_addWord_34 (by decide) (G_pc (pc' := 37) rfl ?_)
      refine G_iconst (n := 3) d_To_addWord_37 (by decide) (G_pc (pc' := 38) rfl ?_)
      refine G_lconst0 d_To_addWord_38 (G_pc (pc' := 39) rfl ?_)
      refine G_iload (i := 2) (n := 2) (len := 1) (Or.inl ⟨2, rfl, rfl, d_To_addWord_39⟩) rfl (G_pc (pc' := 40) rfl ?_)
      refine G_callV (K1 := KE) (d2 := 0) (o := 14) (cl := 7) (as := [vi 137, vi 3, vl 0, vi b]) (rest := []) d_To_addWord_40 mf_To_add ml_To_64 rfl rfl (by decide) rfl rfl (Nat.le_of_ble_eq_true rfl) (by omega) ⟨Nat.le_refl _, Nat.le_refl _⟩ (g_To_add (by omega) 137 3 0 b M hs) (fun r15 M16 kq17 q17 => ?_)
      clear kq17; obtain ⟨q17a, q17b⟩ := q17; subst r15; subst M16
      refine G_ps (pc' := 43) (st' := [vi b]) rfl rfl ?_
      refine G_iret d_To_addWord_43 rfl (tokI (by omega)) rfl rfl ?_
      exact tokQ_s ((word_sd hb h1).1 1 (by decide) hs13) rfl rfl rfl
    · skip
      obtain ⟨q12a, q12b⟩ := q12.2 hs13; subst r10; subst M11
      refine G_ps (pc' := 30) (st' := [vi 0]) rfl rfl ?_
      refine G_if_eq (tgt := 44) d_To_addWord_30 (by decide) (fun h18 => ?_) (fun h18 => absurd h18 (by decide))
      refine G_aload (i := 0) (n := 0) (len := 1) (Or.inl ⟨0, rfl, rfl, d_To_addWord_44⟩) rfl (by decide) (G_pc (pc' := 45) rfl ?_)
      refine G_ldcS (i := 2) (by decide) d_To_addWord_45 rfl rfl (G_pc (pc' := 47) rfl ?_)
      refine G_iload (i := 1) (n := 1) (len := 1) (Or.inl ⟨1, rfl, rfl, d_To_addWord_47⟩) rfl (G_pc (pc' := 48) rfl ?_)
      refine G_iload (i := 2) (n := 2) (len := 1) (Or.inl ⟨2, rfl, rfl, d_To_addWord_48⟩) rfl (G_pc (pc' := 49) rfl ?_)
      refine G_callV (K1 := KE) (d2 := 4) (o := 14) (cl := 7) (as := [vr ((1000 + 2 : Nat) : Int), vi a, vi b]) (rest := []) d_To_addWord_49 mf_To_stands ml_To_70 rfl rfl (by decide) rfl rfl (Nat.le_of_ble_eq_true rfl) (by omega) ⟨Nat.le_refl _, Nat.le_refl _⟩ (g_To_stands (by omega) 2 e f len a b M (by decide) he hL (by omega)) (fun r19 M20 kq21 q21 => ?_)
      clear kq21
      by_cases hs22 : sdP 2 f a b
      · skip
        obtain ⟨q21a, q21b⟩ := q21.1 hs22; subst r19; subst M20
        refine G_ps (pc' := 52) (st' := [vi 1]) rfl rfl ?_
        refine G_if_eq (tgt := 67) d_To_addWord_52 (by decide) (fun h23 => absurd h23 (by decide)) (fun h23 => G_pc (pc' := 55) rfl ?_)
        refine G_aload (i := 0) (n := 0) (len := 1) (Or.inl ⟨0, rfl, rfl, d_To_addWord_55⟩) rfl (by decide) (G_pc (pc' := 56) rfl ?_)
        refine G_sipush (n := 137) d_To_addWord_56 (by decide) (G_pc (pc' := 59) rfl ?_)
        refine G_bipush (n := 17) d_To_addWord_59 (by decide) (G_pc (pc' := 61) rfl ?_)
        refine G_lconst0 d_To_addWord_61 (G_pc (pc' := 62) rfl ?_)
        refine G_iload (i := 2) (n := 2) (len := 1) (Or.inl ⟨2, rfl, rfl, d_To_addWord_62⟩) rfl (G_pc (pc' := 63) rfl ?_)
        refine G_callV (K1 := KE) (d2 := 0) (o := 14) (cl := 7) (as := [vi 137, vi 17, vl 0, vi b]) (rest := []) d_To_addWord_63 mf_To_add ml_To_64 rfl rfl (by decide) rfl rfl (Nat.le_of_ble_eq_true rfl) (by omega) ⟨Nat.le_refl _, Nat.le_refl _⟩ (g_To_add (by omega) 137 17 0 b M hs) (fun r24 M25 kq26 q26 => ?_)
        clear kq26; obtain ⟨q26a, q26b⟩ := q26; subst r24; subst M25
        refine G_ps (pc' := 66) (st' := [vi b]) rfl rfl ?_
        refine G_iret d_To_addWord_66 rfl (tokI (by omega)) rfl rfl ?_
        exact tokQ_s ((word_sd hb h1).1 2 (by decide) hs22) rfl rfl rfl
      · skip
        obtain ⟨q21a, q21b⟩ := q21.2 hs22; subst r19; subst M20
        refine G_ps (pc' := 52) (st' := [vi 0]) rfl rfl ?_
        refine G_if_eq (tgt := 67) d_To_addWord_52 (by decide) (fun h27 => ?_) (fun h27 => absurd h27 (by decide))
        refine G_aload (i := 0) (n := 0) (len := 1) (Or.inl ⟨0, rfl, rfl, d_To_addWord_67⟩) rfl (by decide) (G_pc (pc' := 68) rfl ?_)
        refine G_ldcS (i := 3) (by decide) d_To_addWord_68 rfl rfl (G_pc (pc' := 70) rfl ?_)
        refine G_iload (i := 1) (n := 1) (len := 1) (Or.inl ⟨1, rfl, rfl, d_To_addWord_70⟩) rfl (G_pc (pc' := 71) rfl ?_)
        refine G_iload (i := 2) (n := 2) (len := 1) (Or.inl ⟨2, rfl, rfl, d_To_addWord_71⟩) rfl (G_pc (pc' := 72) rfl ?_)
        refine G_callV (K1 := KE) (d2 := 4) (o := 14) (cl := 7) (as := [vr ((1000 + 3 : Nat) : Int), vi a, vi b]) (rest := []) d_To_addWord_72 mf_To_stands ml_To_70 rfl rfl (by decide) rfl rfl (Nat.le_of_ble_eq_true rfl) (by omega) ⟨Nat.le_refl _, Nat.le_refl _⟩ (g_To_stands (by omega) 3 e f len a b M (by decide) he hL (by omega)) (fun r28 M29 kq30 q30 => ?_)
        clear kq30
        by_cases hs31 : sdP 3 f a b
        · skip
          obtain ⟨q30a, q30b⟩ := q30.1 hs31; subst r28; subst M29
          refine G_ps (pc' := 75) (st' := [vi 1]) rfl rfl ?_
          refine G_if_eq (tgt := 89) d_To_addWord_75 (by decide) (fun h32 => absurd h32 (by decide)) (fun h32 => G_pc (pc' := 78) rfl ?_)
          refine G_aload (i := 0) (n := 0) (len := 1) (Or.inl ⟨0, rfl, rfl, d_To_addWord_78⟩) rfl (by decide) (G_pc (pc' := 79) rfl ?_)
          refine G_sipush (n := 139) d_To_addWord_79 (by decide) (G_pc (pc' := 82) rfl ?_)
          refine G_iconst (n := (-1)) d_To_addWord_82 (by decide) (G_pc (pc' := 83) rfl ?_)
          refine G_lconst0 d_To_addWord_83 (G_pc (pc' := 84) rfl ?_)
          refine G_iload (i := 2) (n := 2) (len := 1) (Or.inl ⟨2, rfl, rfl, d_To_addWord_84⟩) rfl (G_pc (pc' := 85) rfl ?_)
          refine G_callV (K1 := KE) (d2 := 0) (o := 14) (cl := 7) (as := [vi 139, vi (-1), vl 0, vi b]) (rest := []) d_To_addWord_85 mf_To_add ml_To_64 rfl rfl (by decide) rfl rfl (Nat.le_of_ble_eq_true rfl) (by omega) ⟨Nat.le_refl _, Nat.le_refl _⟩ (g_To_add (by omega) 139 (-1) 0 b M hs) (fun r33 M34 kq35 q35 => ?_)
          clear kq35; obtain ⟨q35a, q35b⟩ := q35; subst r33; subst M34
          refine G_ps (pc' := 88) (st' := [vi b]) rfl rfl ?_
          refine G_iret d_To_addWord_88 rfl (tokI (by omega)) rfl rfl ?_
          exact tokQ_s ((word_sd hb h1).1 3 (by decide) hs31) rfl rfl rfl
        · skip
          obtain ⟨q30a, q30b⟩ := q30.2 hs31; subst r28; subst M29
          refine G_ps (pc' := 75) (st' := [vi 0]) rfl rfl ?_
          refine G_if_eq (tgt := 89) d_To_addWord_75 (by decide) (fun h36 => ?_) (fun h36 => absurd h36 (by decide))
          refine G_aload (i := 0) (n := 0) (len := 1) (Or.inl ⟨0, rfl, rfl, d_To_addWord_89⟩) rfl (by decide) (G_pc (pc' := 90) rfl ?_)
          refine G_ldcS (i := 4) (by decide) d_To_addWord_90 rfl rfl (G_pc (pc' := 92) rfl ?_)
          refine G_iload (i := 1) (n := 1) (len := 1) (Or.inl ⟨1, rfl, rfl, d_To_addWord_92⟩) rfl (G_pc (pc' := 93) rfl ?_)
          refine G_iload (i := 2) (n := 2) (len := 1) (Or.inl ⟨2, rfl, rfl, d_To_addWord_93⟩) rfl (G_pc (pc' := 94) rfl ?_)
          refine G_callV (K1 := KE) (d2 := 4) (o := 14) (cl := 7) (as := [vr ((1000 + 4 : Nat) : Int), vi a, vi b]) (rest := []) d_To_addWord_94 mf_To_stands ml_To_70 rfl rfl (by decide) rfl rfl (Nat.le_of_ble_eq_true rfl) (by omega) ⟨Nat.le_refl _, Nat.le_refl _⟩ (g_To_stands (by omega) 4 e f len a b M (by decide) he hL (by omega)) (fun r37 M38 kq39 q39 => ?_)
          clear kq39
          by_cases hs40 : sdP 4 f a b
          · skip
            obtain ⟨q39a, q39b⟩ := q39.1 hs40; subst r37; subst M38
            refine G_ps (pc' := 97) (st' := [vi 1]) rfl rfl ?_
            refine G_if_eq (tgt := 111) d_To_addWord_97 (by decide) (fun h41 => absurd h41 (by decide)) (fun h41 => G_pc (pc' := 100) rfl ?_)
            refine G_aload (i := 0) (n := 0) (len := 1) (Or.inl ⟨0, rfl, rfl, d_To_addWord_100⟩) rfl (by decide) (G_pc (pc' := 101) rfl ?_)
            refine G_sipush (n := 140) d_To_addWord_101 (by decide) (G_pc (pc' := 104) rfl ?_)
            refine G_iconst (n := (-1)) d_To_addWord_104 (by decide) (G_pc (pc' := 105) rfl ?_)
            refine G_lconst0 d_To_addWord_105 (G_pc (pc' := 106) rfl ?_)
            refine G_iload (i := 2) (n := 2) (len := 1) (Or.inl ⟨2, rfl, rfl, d_To_addWord_106⟩) rfl (G_pc (pc' := 107) rfl ?_)
            refine G_callV (K1 := KE) (d2 := 0) (o := 14) (cl := 7) (as := [vi 140, vi (-1), vl 0, vi b]) (rest := []) d_To_addWord_107 mf_To_add ml_To_64 rfl rfl (by decide) rfl rfl (Nat.le_of_ble_eq_true rfl) (by omega) ⟨Nat.le_refl _, Nat.le_refl _⟩ (g_To_add (by omega) 140 (-1) 0 b M hs) (fun r42 M43 kq44 q44 => ?_)
            clear kq44; obtain ⟨q44a, q44b⟩ := q44; subst r42; subst M43
            refine G_ps (pc' := 110) (st' := [vi b]) rfl rfl ?_
            refine G_iret d_To_addWord_110 rfl (tokI (by omega)) rfl rfl ?_
            exact tokQ_s ((word_sd hb h1).1 4 (by decide) hs40) rfl rfl rfl
          · skip
            obtain ⟨q39a, q39b⟩ := q39.2 hs40; subst r37; subst M38
            refine G_ps (pc' := 97) (st' := [vi 0]) rfl rfl ?_
            refine G_if_eq (tgt := 111) d_To_addWord_97 (by decide) (fun h45 => ?_) (fun h45 => absurd h45 (by decide))
            refine G_aload (i := 0) (n := 0) (len := 1) (Or.inl ⟨0, rfl, rfl, d_To_addWord_111⟩) rfl (by decide) (G_pc (pc' := 112) rfl ?_)
            refine G_ldcS (i := 5) (by decide) d_To_addWord_112 rfl rfl (G_pc (pc' := 114) rfl ?_)
            refine G_iload (i := 1) (n := 1) (len := 1) (Or.inl ⟨1, rfl, rfl, d_To_addWord_114⟩) rfl (G_pc (pc' := 115) rfl ?_)
            refine G_iload (i := 2) (n := 2) (len := 1) (Or.inl ⟨2, rfl, rfl, d_To_addWord_115⟩) rfl (G_pc (pc' := 116) rfl ?_)
            refine G_callV (K1 := KE) (d2 := 4) (o := 14) (cl := 7) (as := [vr ((1000 + 5 : Nat) : Int), vi a, vi b]) (rest := []) d_To_addWord_116 mf_To_stands ml_To_70 rfl rfl (by decide) rfl rfl (Nat.le_of_ble_eq_true rfl) (by omega) ⟨Nat.le_refl _, Nat.le_refl _⟩ (g_To_stands (by omega) 5 e f len a b M (by decide) he hL (by omega)) (fun r46 M47 kq48 q48 => ?_)
            clear kq48
            by_cases hs49 : sdP 5 f a b
            · skip
              obtain ⟨q48a, q48b⟩ := q48.1 hs49; subst r46; subst M47
              refine G_ps (pc' := 119) (st' := [vi 1]) rfl rfl ?_
              refine G_if_eq (tgt := 133) d_To_addWord_119 (by decide) (fun h50 => absurd h50 (by decide)) (fun h50 => G_pc (pc' := 122) rfl ?_)
              refine G_aload (i := 0) (n := 0) (len := 1) (Or.inl ⟨0, rfl, rfl, d_To_addWord_122⟩) rfl (by decide) (G_pc (pc' := 123) rfl ?_)
              refine G_sipush (n := 140) d_To_addWord_123 (by decide) (G_pc (pc' := 126) rfl ?_)
              refine G_iconst (n := (-1)) d_To_addWord_126 (by decide) (G_pc (pc' := 127) rfl ?_)
              refine G_lconst1 d_To_addWord_127 (G_pc (pc' := 128) rfl ?_)
              refine G_iload (i := 2) (n := 2) (len := 1) (Or.inl ⟨2, rfl, rfl, d_To_addWord_128⟩) rfl (G_pc (pc' := 129) rfl ?_)
              refine G_callV (K1 := KE) (d2 := 0) (o := 14) (cl := 7) (as := [vi 140, vi (-1), vl 1, vi b]) (rest := []) d_To_addWord_129 mf_To_add ml_To_64 rfl rfl (by decide) rfl rfl (Nat.le_of_ble_eq_true rfl) (by omega) ⟨Nat.le_refl _, Nat.le_refl _⟩ (g_To_add (by omega) 140 (-1) 1 b M hs) (fun r51 M52 kq53 q53 => ?_)
              clear kq53; obtain ⟨q53a, q53b⟩ := q53; subst r51; subst M52
              refine G_ps (pc' := 132) (st' := [vi b]) rfl rfl ?_
              refine G_iret d_To_addWord_132 rfl (tokI (by omega)) rfl rfl ?_
              exact tokQ_s ((word_sd hb h1).1 5 (by decide) hs49) rfl rfl rfl
            · skip
              obtain ⟨q48a, q48b⟩ := q48.2 hs49; subst r46; subst M47
              refine G_ps (pc' := 119) (st' := [vi 0]) rfl rfl ?_
              refine G_if_eq (tgt := 133) d_To_addWord_119 (by decide) (fun h54 => ?_) (fun h54 => absurd h54 (by decide))
              refine G_aload (i := 0) (n := 0) (len := 1) (Or.inl ⟨0, rfl, rfl, d_To_addWord_133⟩) rfl (by decide) (G_pc (pc' := 134) rfl ?_)
              refine G_ldcS (i := 6) (by decide) d_To_addWord_134 rfl rfl (G_pc (pc' := 136) rfl ?_)
              refine G_iload (i := 1) (n := 1) (len := 1) (Or.inl ⟨1, rfl, rfl, d_To_addWord_136⟩) rfl (G_pc (pc' := 137) rfl ?_)
              refine G_iload (i := 2) (n := 2) (len := 1) (Or.inl ⟨2, rfl, rfl, d_To_addWord_137⟩) rfl (G_pc (pc' := 138) rfl ?_)
              refine G_callV (K1 := KE) (d2 := 4) (o := 14) (cl := 7) (as := [vr ((1000 + 6 : Nat) : Int), vi a, vi b]) (rest := []) d_To_addWord_138 mf_To_stands ml_To_70 rfl rfl (by decide) rfl rfl (Nat.le_of_ble_eq_true rfl) (by omega) ⟨Nat.le_refl _, Nat.le_refl _⟩ (g_To_stands (by omega) 6 e f len a b M (by decide) he hL (by omega)) (fun r55 M56 kq57 q57 => ?_)
              clear kq57
              by_cases hs58 : sdP 6 f a b
              · skip
                obtain ⟨q57a, q57b⟩ := q57.1 hs58; subst r55; subst M56
                refine G_ps (pc' := 141) (st' := [vi 1]) rfl rfl ?_
                refine G_if_eq (tgt := 157) d_To_addWord_141 (by decide) (fun h59 => absurd h59 (by decide)) (fun h59 => G_pc (pc' := 144) rfl ?_)
                refine G_aload (i := 0) (n := 0) (len := 1) (Or.inl ⟨0, rfl, rfl, d_To_addWord_144⟩) rfl (by decide) (G_pc (pc' := 145) rfl ?_)
                refine G_sipush (n := 140) d_To_addWord_145 (by decide) (G_pc (pc' := 148) rfl ?_)
                refine G_iconst (n := (-1)) d_To_addWord_148 (by decide) (G_pc (pc' := 149) rfl ?_)
                refine G_ldc2 (x := 2) d_To_addWord_149 k2_To_86 (by decide) (G_pc (pc' := 152) rfl ?_)
                refine G_iload (i := 2) (n := 2) (len := 1) (Or.inl ⟨2, rfl, rfl, d_To_addWord_152⟩) rfl (G_pc (pc' := 153) rfl ?_)
                refine G_callV (K1 := KE) (d2 := 0) (o := 14) (cl := 7) (as := [vi 140, vi (-1), vl 2, vi b]) (rest := []) d_To_addWord_153 mf_To_add ml_To_64 rfl rfl (by decide) rfl rfl (Nat.le_of_ble_eq_true rfl) (by omega) ⟨Nat.le_refl _, Nat.le_refl _⟩ (g_To_add (by omega) 140 (-1) 2 b M hs) (fun r60 M61 kq62 q62 => ?_)
                clear kq62; obtain ⟨q62a, q62b⟩ := q62; subst r60; subst M61
                refine G_ps (pc' := 156) (st' := [vi b]) rfl rfl ?_
                refine G_iret d_To_addWord_156 rfl (tokI (by omega)) rfl rfl ?_
                exact tokQ_s ((word_sd hb h1).1 6 (by decide) hs58) rfl rfl rfl
              · skip
                obtain ⟨q57a, q57b⟩ := q57.2 hs58; subst r55; subst M56
                refine G_ps (pc' := 141) (st' := [vi 0]) rfl rfl ?_
                refine G_if_eq (tgt := 157) d_To_addWord_141 (by decide) (fun h63 => ?_) (fun h63 => absurd h63 (by decide))
                refine G_aload (i := 0) (n := 0) (len := 1) (Or.inl ⟨0, rfl, rfl, d_To_addWord_157⟩) rfl (by decide) (G_pc (pc' := 158) rfl ?_)
                refine G_ldcS (i := 7) (by decide) d_To_addWord_158 rfl rfl (G_pc (pc' := 160) rfl ?_)
                refine G_iload (i := 1) (n := 1) (len := 1) (Or.inl ⟨1, rfl, rfl, d_To_addWord_160⟩) rfl (G_pc (pc' := 161) rfl ?_)
                refine G_iload (i := 2) (n := 2) (len := 1) (Or.inl ⟨2, rfl, rfl, d_To_addWord_161⟩) rfl (G_pc (pc' := 162) rfl ?_)
                refine G_callV (K1 := KE) (d2 := 4) (o := 14) (cl := 7) (as := [vr ((1000 + 7 : Nat) : Int), vi a, vi b]) (rest := []) d_To_addWord_162 mf_To_stands ml_To_70 rfl rfl (by decide) rfl rfl (Nat.le_of_ble_eq_true rfl) (by omega) ⟨Nat.le_refl _, Nat.le_refl _⟩ (g_To_stands (by omega) 7 e f len a b M (by decide) he hL (by omega)) (fun r64 M65 kq66 q66 => ?_)
                clear kq66
                by_cases hs67 : sdP 7 f a b
                · skip
                  obtain ⟨q66a, q66b⟩ := q66.1 hs67; subst r64; subst M65
                  refine G_ps (pc' := 165) (st' := [vi 1]) rfl rfl ?_
                  refine G_if_eq (tgt := 181) d_To_addWord_165 (by decide) (fun h68 => absurd h68 (by decide)) (fun h68 => G_pc (pc' := 168) rfl ?_)
                  refine G_aload (i := 0) (n := 0) (len := 1) (Or.inl ⟨0, rfl, rfl, d_To_addWord_168⟩) rfl (by decide) (G_pc (pc' := 169) rfl ?_)
                  refine G_sipush (n := 140) d_To_addWord_169 (by decide) (G_pc (pc' := 172) rfl ?_)
                  refine G_iconst (n := (-1)) d_To_addWord_172 (by decide) (G_pc (pc' := 173) rfl ?_)
                  refine G_ldc2 (x := 3) d_To_addWord_173 k2_To_90 (by decide) (G_pc (pc' := 176) rfl ?_)
                  refine G_iload (i := 2) (n := 2) (len := 1) (Or.inl ⟨2, rfl, rfl, d_To_addWord_176⟩) rfl (G_pc (pc' := 177) rfl ?_)
                  refine G_callV (K1 := KE) (d2 := 0) (o := 14) (cl := 7) (as := [vi 140, vi (-1), vl 3, vi b]) (rest := []) d_To_addWord_177 mf_To_add ml_To_64 rfl rfl (by decide) rfl rfl (Nat.le_of_ble_eq_true rfl) (by omega) ⟨Nat.le_refl _, Nat.le_refl _⟩ (g_To_add (by omega) 140 (-1) 3 b M hs) (fun r69 M70 kq71 q71 => ?_)
                  clear kq71; obtain ⟨q71a, q71b⟩ := q71; subst r69; subst M70
                  refine G_ps (pc' := 180) (st' := [vi b]) rfl rfl ?_
                  refine G_iret d_To_addWord_180 rfl (tokI (by omega)) rfl rfl ?_
                  exact tokQ_s ((word_sd hb h1).1 7 (by decide) hs67) rfl rfl rfl
                · skip
                  obtain ⟨q66a, q66b⟩ := q66.2 hs67; subst r64; subst M65
                  refine G_ps (pc' := 165) (st' := [vi 0]) rfl rfl ?_
                  refine G_if_eq (tgt := 181) d_To_addWord_165 (by decide) (fun h72 => ?_) (fun h72 => absurd h72 (by decide))
                  refine G_aload (i := 0) (n := 0) (len := 1) (Or.inl ⟨0, rfl, rfl, d_To_addWord_181⟩) rfl (by decide) (G_pc (pc' := 182) rfl ?_)
                  refine G_ldcS (i := 8) (by decide) d_To_addWord_182 rfl rfl (G_pc (pc' := 184) rfl ?_)
                  refine G_iload (i := 1) (n := 1) (len := 1) (Or.inl ⟨1, rfl, rfl, d_To_addWord_184⟩) rfl (G_pc (pc' := 185) rfl ?_)
                  refine G_iload (i := 2) (n := 2) (len := 1) (Or.inl ⟨2, rfl, rfl, d_To_addWord_185⟩) rfl (G_pc (pc' := 186) rfl ?_)
                  refine G_callV (K1 := KE) (d2 := 4) (o := 14) (cl := 7) (as := [vr ((1000 + 8 : Nat) : Int), vi a, vi b]) (rest := []) d_To_addWord_186 mf_To_stands ml_To_70 rfl rfl (by decide) rfl rfl (Nat.le_of_ble_eq_true rfl) (by omega) ⟨Nat.le_refl _, Nat.le_refl _⟩ (g_To_stands (by omega) 8 e f len a b M (by decide) he hL (by omega)) (fun r73 M74 kq75 q75 => ?_)
                  clear kq75
                  by_cases hs76 : sdP 8 f a b
                  · skip
                    obtain ⟨q75a, q75b⟩ := q75.1 hs76; subst r73; subst M74
                    refine G_ps (pc' := 189) (st' := [vi 1]) rfl rfl ?_
                    refine G_if_eq (tgt := 203) d_To_addWord_189 (by decide) (fun h77 => absurd h77 (by decide)) (fun h77 => G_pc (pc' := 192) rfl ?_)
                    refine G_aload (i := 0) (n := 0) (len := 1) (Or.inl ⟨0, rfl, rfl, d_To_addWord_192⟩) rfl (by decide) (G_pc (pc' := 193) rfl ?_)
                    refine G_sipush (n := 141) d_To_addWord_193 (by decide) (G_pc (pc' := 196) rfl ?_)
                    refine G_iconst (n := (-1)) d_To_addWord_196 (by decide) (G_pc (pc' := 197) rfl ?_)
                    refine G_lconst0 d_To_addWord_197 (G_pc (pc' := 198) rfl ?_)
                    refine G_iload (i := 2) (n := 2) (len := 1) (Or.inl ⟨2, rfl, rfl, d_To_addWord_198⟩) rfl (G_pc (pc' := 199) rfl ?_)
                    refine G_callV (K1 := KE) (d2 := 0) (o := 14) (cl := 7) (as := [vi 141, vi (-1), vl 0, vi b]) (rest := []) d_To_addWord_199 mf_To_add ml_To_64 rfl rfl (by decide) rfl rfl (Nat.le_of_ble_eq_true rfl) (by omega) ⟨Nat.le_refl _, Nat.le_refl _⟩ (g_To_add (by omega) 141 (-1) 0 b M hs) (fun r78 M79 kq80 q80 => ?_)
                    clear kq80; obtain ⟨q80a, q80b⟩ := q80; subst r78; subst M79
                    refine G_ps (pc' := 202) (st' := [vi b]) rfl rfl ?_
                    refine G_iret d_To_addWord_202 rfl (tokI (by omega)) rfl rfl ?_
                    exact tokQ_s ((word_sd hb h1).1 8 (by decide) hs76) rfl rfl rfl
                  · skip
                    obtain ⟨q75a, q75b⟩ := q75.2 hs76; subst r73; subst M74
                    refine G_ps (pc' := 189) (st' := [vi 0]) rfl rfl ?_
                    refine G_if_eq (tgt := 203) d_To_addWord_189 (by decide) (fun h81 => ?_) (fun h81 => absurd h81 (by decide))
                    refine G_aload (i := 0) (n := 0) (len := 1) (Or.inl ⟨0, rfl, rfl, d_To_addWord_203⟩) rfl (by decide) (G_pc (pc' := 204) rfl ?_)
                    refine G_ldcS (i := 9) (by decide) d_To_addWord_204 rfl rfl (G_pc (pc' := 206) rfl ?_)
                    refine G_iload (i := 1) (n := 1) (len := 1) (Or.inl ⟨1, rfl, rfl, d_To_addWord_206⟩) rfl (G_pc (pc' := 207) rfl ?_)
                    refine G_iload (i := 2) (n := 2) (len := 1) (Or.inl ⟨2, rfl, rfl, d_To_addWord_207⟩) rfl (G_pc (pc' := 208) rfl ?_)
                    refine G_callV (K1 := KE) (d2 := 4) (o := 14) (cl := 7) (as := [vr ((1000 + 9 : Nat) : Int), vi a, vi b]) (rest := []) d_To_addWord_208 mf_To_stands ml_To_70 rfl rfl (by decide) rfl rfl (Nat.le_of_ble_eq_true rfl) (by omega) ⟨Nat.le_refl _, Nat.le_refl _⟩ (g_To_stands (by omega) 9 e f len a b M (by decide) he hL (by omega)) (fun r82 M83 kq84 q84 => ?_)
                    clear kq84
                    by_cases hs85 : sdP 9 f a b
                    · skip
                      obtain ⟨q84a, q84b⟩ := q84.1 hs85; subst r82; subst M83
                      refine G_ps (pc' := 211) (st' := [vi 1]) rfl rfl ?_
                      refine G_if_eq (tgt := 227) d_To_addWord_211 (by decide) (fun h86 => absurd h86 (by decide)) (fun h86 => G_pc (pc' := 214) rfl ?_)
                      refine G_aload (i := 0) (n := 0) (len := 1) (Or.inl ⟨0, rfl, rfl, d_To_addWord_214⟩) rfl (by decide) (G_pc (pc' := 215) rfl ?_)
                      refine G_sipush (n := 142) d_To_addWord_215 (by decide) (G_pc (pc' := 218) rfl ?_)
                      refine G_iconst (n := (-1)) d_To_addWord_218 (by decide) (G_pc (pc' := 219) rfl ?_)
                      refine G_lconst0 d_To_addWord_219 (G_pc (pc' := 220) rfl ?_)
                      refine G_iload (i := 2) (n := 2) (len := 1) (Or.inl ⟨2, rfl, rfl, d_To_addWord_220⟩) rfl (G_pc (pc' := 221) rfl ?_)
                      refine G_callV (K1 := KE) (d2 := 0) (o := 14) (cl := 7) (as := [vi 142, vi (-1), vl 0, vi b]) (rest := []) d_To_addWord_221 mf_To_add ml_To_64 rfl rfl (by decide) rfl rfl (Nat.le_of_ble_eq_true rfl) (by omega) ⟨Nat.le_refl _, Nat.le_refl _⟩ (g_To_add (by omega) 142 (-1) 0 b M hs) (fun r87 M88 kq89 q89 => ?_)
                      clear kq89; obtain ⟨q89a, q89b⟩ := q89; subst r87; subst M88
                      refine G_ps (pc' := 224) (st' := [vi b]) rfl rfl ?_
                      refine G_goto (tgt := 228) d_To_addWord_224 (by decide) ?_
                      refine G_iret d_To_addWord_228 rfl (tokI (by omega)) rfl rfl ?_
                      exact tokQ_s ((word_sd hb h1).1 9 (by decide) hs85) rfl rfl rfl
                    · skip
                      obtain ⟨q84a, q84b⟩ := q84.2 hs85; subst r82; subst M83
                      refine G_ps (pc' := 211) (st' := [vi 0]) rfl rfl ?_
                      refine G_if_eq (tgt := 227) d_To_addWord_211 (by decide) (fun h90 => ?_) (fun h90 => absurd h90 (by decide))
                      refine G_iconst (n := (-1)) d_To_addWord_227 (by decide) (G_pc (pc' := 228) rfl ?_)
                      refine G_iret d_To_addWord_228 rfl (tokI (by decide)) rfl rfl ?_
                      have hn : ∀ i : Nat, i < 10 → ¬ sdP i f a b := by
                        intro i hi
                        rcases (show i = 0 ∨ i = 1 ∨ i = 2 ∨ i = 3 ∨ i = 4 ∨ i = 5 ∨ i = 6 ∨ i = 7 ∨ i = 8 ∨ i = 9 by omega) with rfl | rfl | rfl | rfl | rfl | rfl | rfl | rfl | rfl | rfl <;> assumption
                      exact tokQ_n ((word_sd hb h1).2 hn) (by show ¬ (1 : Int) = 0; decide) rfl rfl

theorem d_To_readCharacter_0 : decode b_To_readCharacter 0 = .ok (.aload_n 0, 1) := by decide +kernel
theorem d_To_readCharacter_1 : decode b_To_readCharacter 1 = .ok (.iload_n 1, 1) := by decide +kernel
theorem d_To_readCharacter_2 : decode b_To_readCharacter 2 = .ok (.iconst 1, 1) := by decide +kernel
theorem d_To_readCharacter_3 : decode b_To_readCharacter 3 = .ok (.iadd, 1) := by decide +kernel
theorem d_To_readCharacter_4 : decode b_To_readCharacter 4 = .ok (.invokevirtual 107, 3) := by decide +kernel
theorem d_To_readCharacter_7 : decode b_To_readCharacter 7 = .ok (.istore_n 2, 1) := by decide +kernel
theorem d_To_readCharacter_8 : decode b_To_readCharacter 8 = .ok (.iload_n 2, 1) := by decide +kernel
theorem d_To_readCharacter_9 : decode b_To_readCharacter 9 = .ok (.bipush 39, 2) := by decide +kernel
theorem d_To_readCharacter_11 : decode b_To_readCharacter 11 = .ok (.if_icmp .eq 21, 3) := by decide +kernel
theorem d_To_readCharacter_14 : decode b_To_readCharacter 14 = .ok (.iload_n 2, 1) := by decide +kernel
theorem d_To_readCharacter_15 : decode b_To_readCharacter 15 = .ok (.bipush 92, 2) := by decide +kernel
theorem d_To_readCharacter_17 : decode b_To_readCharacter 17 = .ok (.if_icmp .eq 15, 3) := by decide +kernel
theorem d_To_readCharacter_20 : decode b_To_readCharacter 20 = .ok (.aload_n 0, 1) := by decide +kernel
theorem d_To_readCharacter_21 : decode b_To_readCharacter 21 = .ok (.iload_n 1, 1) := by decide +kernel
theorem d_To_readCharacter_22 : decode b_To_readCharacter 22 = .ok (.iconst 2, 1) := by decide +kernel
theorem d_To_readCharacter_23 : decode b_To_readCharacter 23 = .ok (.iadd, 1) := by decide +kernel
theorem d_To_readCharacter_24 : decode b_To_readCharacter 24 = .ok (.invokevirtual 107, 3) := by decide +kernel
theorem d_To_readCharacter_27 : decode b_To_readCharacter 27 = .ok (.bipush 39, 2) := by decide +kernel
theorem d_To_readCharacter_29 : decode b_To_readCharacter 29 = .ok (.if_icmp .eq 5, 3) := by decide +kernel
theorem d_To_readCharacter_32 : decode b_To_readCharacter 32 = .ok (.iconst (-1), 1) := by decide +kernel
theorem d_To_readCharacter_33 : decode b_To_readCharacter 33 = .ok (.ireturn, 1) := by decide +kernel
theorem d_To_readCharacter_34 : decode b_To_readCharacter 34 = .ok (.aload_n 0, 1) := by decide +kernel
theorem d_To_readCharacter_35 : decode b_To_readCharacter 35 = .ok (.sipush 137, 3) := by decide +kernel
theorem d_To_readCharacter_38 : decode b_To_readCharacter 38 = .ok (.iconst 2, 1) := by decide +kernel
theorem d_To_readCharacter_39 : decode b_To_readCharacter 39 = .ok (.iload_n 2, 1) := by decide +kernel
theorem d_To_readCharacter_40 : decode b_To_readCharacter 40 = .ok (.i2l, 1) := by decide +kernel
theorem d_To_readCharacter_41 : decode b_To_readCharacter 41 = .ok (.iload_n 1, 1) := by decide +kernel
theorem d_To_readCharacter_42 : decode b_To_readCharacter 42 = .ok (.iconst 3, 1) := by decide +kernel
theorem d_To_readCharacter_43 : decode b_To_readCharacter 43 = .ok (.iadd, 1) := by decide +kernel
theorem d_To_readCharacter_44 : decode b_To_readCharacter 44 = .ok (.invokevirtual 64, 3) := by decide +kernel
theorem d_To_readCharacter_47 : decode b_To_readCharacter 47 = .ok (.ireturn, 1) := by decide +kernel
theorem g_To_readCharacter {X : WX} {d : Nat} (hd : 1 ≤ d) (e : Nat) (f : Int → Int) (len : Int) (k : Int) (M : Mem) (he : e < 4) (hL : LT e f len M) (hs : 0 ≤ M 14 3 ∧ M 14 3 < 24) (hk : 0 ≤ k ∧ k < len) : MG X gt d KE KE y_To_readCharacter b_To_readCharacter 3 (some .int) [vr 14, vi k] M (tokQ M (chrT f k)) := by
  refine MG_of_G (by decide) (Nat.le_of_ble_eq_true rfl) (Nat.le_refl _) (by decide) ?_
  show G X gt d KE KE y_To_readCharacter b_To_readCharacter 3 (some .int) _ 0 [(0, vr 14), (1, vi k)] [] KE M
  have hlen := hL.2.2.1
  refine G_rngl (i := 1) rfl (fun hr1 => ?_)
  refine G_aload (i := 0) (n := 0) (len := 1) (Or.inl ⟨0, rfl, rfl, d_To_readCharacter_0⟩) rfl (by decide) (G_pc (pc' := 1) rfl ?_)
  refine G_iload (i := 1) (n := 1) (len := 1) (Or.inl ⟨1, rfl, rfl, d_To_readCharacter_1⟩) rfl (G_pc (pc' := 2) rfl ?_)
  refine G_iconst (n := 1) d_To_readCharacter_2 (by decide) (G_pc (pc' := 3) rfl ?_)
  refine G_iadd d_To_readCharacter_3 (by omega) (G_pc (pc' := 4) rfl ?_)
  refine G_callV (K1 := KE) (d2 := 0) (o := 14) (cl := 7) (as := [vi (k + 1)]) (rest := []) d_To_readCharacter_4 mf_To_charAt ml_To_107 rfl rfl (by decide) rfl rfl (Nat.le_of_ble_eq_true rfl) (by omega) ⟨Nat.le_refl _, Nat.le_refl _⟩ (g_To_charAt (by omega) e f len (k + 1) M he hL (by omega)) (fun r1 M2 kq3 q3 => ?_)
  clear kq3; obtain ⟨q3a, q3b⟩ := q3; subst r1; subst M2
  refine G_ps (pc' := 7) (st' := [vi (f (k + 1))]) rfl rfl ?_
  have cf4 := LT_f hL (k := (k + 1)) (by omega)
  refine G_istore (i := 2) (len := 1) (ls' := [(2, vi (f (k + 1))), (0, vr 14), (1, vi k)]) (Or.inl ⟨2, rfl, rfl, d_To_readCharacter_7⟩) (by decide) rfl (G_pc (pc' := 8) rfl ?_)
  refine G_iload (i := 2) (n := 0) (len := 1) (Or.inl ⟨2, rfl, rfl, d_To_readCharacter_8⟩) rfl (G_pc (pc' := 9) rfl ?_)
  refine G_bipush (n := 39) d_To_readCharacter_9 (by decide) (G_pc (pc' := 11) rfl ?_)
  refine G_icmp_eq (tgt := 32) d_To_readCharacter_11 (by decide) (fun h5 => ?_) (fun h5 => G_pc (pc' := 14) rfl ?_)
  · skip
    refine G_iconst (n := (-1)) d_To_readCharacter_32 (by decide) (G_pc (pc' := 33) rfl ?_)
    refine G_iret d_To_readCharacter_33 rfl (tokI (by decide)) rfl rfl ?_
    exact tokQ_n (T' := (k + 3, 3, f (k + 1), 1)) (by unfold chrT; rw [if_pos (by omega)]) (by show ¬ (1 : Int) = 0; decide) rfl rfl
  · skip
    refine G_iload (i := 2) (n := 0) (len := 1) (Or.inl ⟨2, rfl, rfl, d_To_readCharacter_14⟩) rfl (G_pc (pc' := 15) rfl ?_)
    refine G_bipush (n := 92) d_To_readCharacter_15 (by decide) (G_pc (pc' := 17) rfl ?_)
    refine G_icmp_eq (tgt := 32) d_To_readCharacter_17 (by decide) (fun h6 => ?_) (fun h6 => G_pc (pc' := 20) rfl ?_)
    · skip
      refine G_iconst (n := (-1)) d_To_readCharacter_32 (by decide) (G_pc (pc' := 33) rfl ?_)
      refine G_iret d_To_readCharacter_33 rfl (tokI (by decide)) rfl rfl ?_
      exact tokQ_n (T' := (k + 3, 3, f (k + 1), 1)) (by unfold chrT; rw [if_pos (by omega)]) (by show ¬ (1 : Int) = 0; decide) rfl rfl
    · skip
      refine G_aload (i := 0) (n := 1) (len := 1) (Or.inl ⟨0, rfl, rfl, d_To_readCharacter_20⟩) rfl (by decide) (G_pc (pc' := 21) rfl ?_)
      refine G_iload (i := 1) (n := 2) (len := 1) (Or.inl ⟨1, rfl, rfl, d_To_readCharacter_21⟩) rfl (G_pc (pc' := 22) rfl ?_)
      refine G_iconst (n := 2) d_To_readCharacter_22 (by decide) (G_pc (pc' := 23) rfl ?_)
      refine G_iadd d_To_readCharacter_23 (by omega) (G_pc (pc' := 24) rfl ?_)
      refine G_callV (K1 := KE) (d2 := 0) (o := 14) (cl := 7) (as := [vi (k + 2)]) (rest := []) d_To_readCharacter_24 mf_To_charAt ml_To_107 rfl rfl (by decide) rfl rfl (Nat.le_of_ble_eq_true rfl) (by omega) ⟨Nat.le_refl _, Nat.le_refl _⟩ (g_To_charAt (by omega) e f len (k + 2) M he hL (by omega)) (fun r7 M8 kq9 q9 => ?_)
      clear kq9; obtain ⟨q9a, q9b⟩ := q9; subst r7; subst M8
      refine G_ps (pc' := 27) (st' := [vi (f (k + 2))]) rfl rfl ?_
      have cf10 := LT_f hL (k := (k + 2)) (by omega)
      refine G_bipush (n := 39) d_To_readCharacter_27 (by decide) (G_pc (pc' := 29) rfl ?_)
      refine G_icmp_eq (tgt := 34) d_To_readCharacter_29 (by decide) (fun h11 => ?_) (fun h11 => G_pc (pc' := 32) rfl ?_)
      · skip
        refine G_aload (i := 0) (n := 1) (len := 1) (Or.inl ⟨0, rfl, rfl, d_To_readCharacter_34⟩) rfl (by decide) (G_pc (pc' := 35) rfl ?_)
        refine G_sipush (n := 137) d_To_readCharacter_35 (by decide) (G_pc (pc' := 38) rfl ?_)
        refine G_iconst (n := 2) d_To_readCharacter_38 (by decide) (G_pc (pc' := 39) rfl ?_)
        refine G_iload (i := 2) (n := 0) (len := 1) (Or.inl ⟨2, rfl, rfl, d_To_readCharacter_39⟩) rfl (G_pc (pc' := 40) rfl ?_)
        refine G_i2l d_To_readCharacter_40 (G_pc (pc' := 41) rfl ?_)
        refine G_iload (i := 1) (n := 2) (len := 1) (Or.inl ⟨1, rfl, rfl, d_To_readCharacter_41⟩) rfl (G_pc (pc' := 42) rfl ?_)
        refine G_iconst (n := 3) d_To_readCharacter_42 (by decide) (G_pc (pc' := 43) rfl ?_)
        refine G_iadd d_To_readCharacter_43 (by omega) (G_pc (pc' := 44) rfl ?_)
        refine G_callV (K1 := KE) (d2 := 0) (o := 14) (cl := 7) (as := [vi 137, vi 2, vl (f (k + 1)), vi (k + 3)]) (rest := []) d_To_readCharacter_44 mf_To_add ml_To_64 rfl rfl (by decide) rfl rfl (Nat.le_of_ble_eq_true rfl) (by omega) ⟨Nat.le_refl _, Nat.le_refl _⟩ (g_To_add (by omega) 137 2 (f (k + 1)) (k + 3) M hs) (fun r12 M13 kq14 q14 => ?_)
        clear kq14; obtain ⟨q14a, q14b⟩ := q14; subst r12; subst M13
        refine G_ps (pc' := 47) (st' := [vi (k + 3)]) rfl rfl ?_
        refine G_iret d_To_readCharacter_47 rfl (tokI (by omega)) rfl rfl ?_
        exact tokQ_s (T' := (k + 3, 3, f (k + 1), 0)) (by unfold chrT; rw [if_neg (by omega)]) rfl rfl rfl
      · skip
        refine G_iconst (n := (-1)) d_To_readCharacter_32 (by decide) (G_pc (pc' := 33) rfl ?_)
        refine G_iret d_To_readCharacter_33 rfl (tokI (by decide)) rfl rfl ?_
        exact tokQ_n (T' := (k + 3, 3, f (k + 1), 1)) (by unfold chrT; rw [if_pos (by omega)]) (by show ¬ (1 : Int) = 0; decide) rfl rfl

theorem tk_sg {t : Int} (h : ¬ t = 0) (hr : t = 0 ∨ (20 ≤ t ∧ t < 48)) : tkind t = -1 ∧ tnum t 0 = 0 := by
  unfold tkind tnum; grind
theorem d_To_readSign_0 : decode b_To_readSign 0 = .ok (.aload_n 0, 1) := by decide +kernel
theorem d_To_readSign_1 : decode b_To_readSign 1 = .ok (.iload_n 1, 1) := by decide +kernel
theorem d_To_readSign_2 : decode b_To_readSign 2 = .ok (.invokevirtual 112, 3) := by decide +kernel
theorem d_To_readSign_5 : decode b_To_readSign 5 = .ok (.istore_n 2, 1) := by decide +kernel
theorem d_To_readSign_6 : decode b_To_readSign 6 = .ok (.iload_n 2, 1) := by decide +kernel
theorem d_To_readSign_7 : decode b_To_readSign 7 = .ok (.ifCond .ne 5, 3) := by decide +kernel
theorem d_To_readSign_10 : decode b_To_readSign 10 = .ok (.iconst (-1), 1) := by decide +kernel
theorem d_To_readSign_11 : decode b_To_readSign 11 = .ok (.ireturn, 1) := by decide +kernel
theorem d_To_readSign_12 : decode b_To_readSign 12 = .ok (.iload_n 2, 1) := by decide +kernel
theorem d_To_readSign_13 : decode b_To_readSign 13 = .ok (.sipush 128, 3) := by decide +kernel
theorem d_To_readSign_16 : decode b_To_readSign 16 = .ok (.if_icmp .ge 7, 3) := by decide +kernel
theorem d_To_readSign_19 : decode b_To_readSign 19 = .ok (.iconst 1, 1) := by decide +kernel
theorem d_To_readSign_20 : decode b_To_readSign 20 = .ok (.goto 4, 3) := by decide +kernel
theorem d_To_readSign_23 : decode b_To_readSign 23 = .ok (.iconst 2, 1) := by decide +kernel
theorem d_To_readSign_24 : decode b_To_readSign 24 = .ok (.istore_n 3, 1) := by decide +kernel
theorem d_To_readSign_25 : decode b_To_readSign 25 = .ok (.aload_n 0, 1) := by decide +kernel
theorem d_To_readSign_26 : decode b_To_readSign 26 = .ok (.iload_n 2, 1) := by decide +kernel
theorem d_To_readSign_27 : decode b_To_readSign 27 = .ok (.iconst (-1), 1) := by decide +kernel
theorem d_To_readSign_28 : decode b_To_readSign 28 = .ok (.lconst 0, 1) := by decide +kernel
theorem d_To_readSign_29 : decode b_To_readSign 29 = .ok (.iload_n 1, 1) := by decide +kernel
theorem d_To_readSign_30 : decode b_To_readSign 30 = .ok (.iload_n 2, 1) := by decide +kernel
theorem d_To_readSign_31 : decode b_To_readSign 31 = .ok (.sipush 132, 3) := by decide +kernel
theorem d_To_readSign_34 : decode b_To_readSign 34 = .ok (.if_icmp .ne 7, 3) := by decide +kernel
theorem d_To_readSign_37 : decode b_To_readSign 37 = .ok (.iconst 3, 1) := by decide +kernel
theorem d_To_readSign_38 : decode b_To_readSign 38 = .ok (.goto 4, 3) := by decide +kernel
theorem d_To_readSign_41 : decode b_To_readSign 41 = .ok (.iload_n 3, 1) := by decide +kernel
theorem d_To_readSign_42 : decode b_To_readSign 42 = .ok (.iadd, 1) := by decide +kernel
theorem d_To_readSign_43 : decode b_To_readSign 43 = .ok (.invokevirtual 64, 3) := by decide +kernel
theorem d_To_readSign_46 : decode b_To_readSign 46 = .ok (.ireturn, 1) := by decide +kernel
theorem g_To_readSign {X : WX} {d : Nat} (hd : 5 ≤ d) (e : Nat) (f : Int → Int) (len : Int) (k : Int) (M : Mem) (he : e < 4) (hL : LT e f len M) (hs : 0 ≤ M 14 3 ∧ M 14 3 < 24) (hk : 0 ≤ k ∧ k < len) : MG X gt d KE KE y_To_readSign b_To_readSign 4 (some .int) [vr 14, vi k] M (tokQ M (signT f k)) := by
  refine MG_of_G (by decide) (Nat.le_of_ble_eq_true rfl) (Nat.le_refl _) (by decide) ?_
  show G X gt d KE KE y_To_readSign b_To_readSign 4 (some .int) _ 0 [(0, vr 14), (1, vi k)] [] KE M
  have hlen := hL.2.2.1
  have cf1 := LT_f hL (k := k + 1) (by omega)
  have cf2 := LT_f hL (k := k + 2) (by omega)
  have hsg := sig_t (c := f k) (d := f (k + 1)) (f := f (k + 2)) cf1.2.1 cf2.2.1
  have hsr := sgT_rng (f k) (f (k + 1)) (f (k + 2))
  have hz0 := tc_0 (t := sgT (f k) (f (k + 1)) (f (k + 2))) (by unfold okt; omega)
  have hz1 := tcode_rng (t := sgT (f k) (f (k + 1)) (f (k + 2))) (by unfold okt; omega)
  refine G_rngl (i := 1) rfl (fun hr1 => ?_)
  refine G_aload (i := 0) (n := 0) (len := 1) (Or.inl ⟨0, rfl, rfl, d_To_readSign_0⟩) rfl (by decide) (G_pc (pc' := 1) rfl ?_)
  refine G_iload (i := 1) (n := 1) (len := 1) (Or.inl ⟨1, rfl, rfl, d_To_readSign_1⟩) rfl (G_pc (pc' := 2) rfl ?_)
  refine G_callV (K1 := KE) (d2 := 4) (o := 14) (cl := 7) (as := [vi k]) (rest := []) d_To_readSign_2 mf_To_signAt ml_To_112 rfl rfl (by decide) rfl rfl (Nat.le_of_ble_eq_true rfl) (by omega) ⟨Nat.le_refl _, Nat.le_refl _⟩ (g_To_signAt (by omega) e f len k M he hL (by omega)) (fun r1 M2 kq3 q3 => ?_)
  clear kq3; obtain ⟨q3a, q3b⟩ := q3; subst r1; subst M2
  refine G_ps (pc' := 5) (st' := [vi (sigD (f k) (f (k + 1)) (f (k + 2)))]) rfl rfl ?_
  refine G_istore (i := 2) (len := 1) (ls' := [(2, vi (sigD (f k) (f (k + 1)) (f (k + 2)))), (0, vr 14), (1, vi k)]) (Or.inl ⟨2, rfl, rfl, d_To_readSign_5⟩) (by decide) rfl (G_pc (pc' := 6) rfl ?_)
  refine G_iload (i := 2) (n := 0) (len := 1) (Or.inl ⟨2, rfl, rfl, d_To_readSign_6⟩) rfl (G_pc (pc' := 7) rfl ?_)
  refine G_if_ne (tgt := 12) d_To_readSign_7 (by decide) (fun h4 => ?_) (fun h4 => G_pc (pc' := 10) rfl ?_)
  · skip
    refine G_iload (i := 2) (n := 0) (len := 1) (Or.inl ⟨2, rfl, rfl, d_To_readSign_12⟩) rfl (G_pc (pc' := 13) rfl ?_)
    refine G_sipush (n := 128) d_To_readSign_13 (by decide) (G_pc (pc' := 16) rfl ?_)
    refine G_icmp_ge (tgt := 23) d_To_readSign_16 (by decide) (fun h5 => ?_) (fun h5 => G_pc (pc' := 19) rfl ?_)
    · skip
      refine G_iconst (n := 2) d_To_readSign_23 (by decide) (G_pc (pc' := 24) rfl ?_)
      refine G_istore (i := 3) (len := 1) (ls' := [(3, vi 2), (2, vi (sigD (f k) (f (k + 1)) (f (k + 2)))), (0, vr 14), (1, vi k)]) (Or.inl ⟨3, rfl, rfl, d_To_readSign_24⟩) (by decide) rfl (G_pc (pc' := 25) rfl ?_)
      refine G_aload (i := 0) (n := 2) (len := 1) (Or.inl ⟨0, rfl, rfl, d_To_readSign_25⟩) rfl (by decide) (G_pc (pc' := 26) rfl ?_)
      refine G_iload (i := 2) (n := 1) (len := 1) (Or.inl ⟨2, rfl, rfl, d_To_readSign_26⟩) rfl (G_pc (pc' := 27) rfl ?_)
      refine G_iconst (n := (-1)) d_To_readSign_27 (by decide) (G_pc (pc' := 28) rfl ?_)
      refine G_lconst0 d_To_readSign_28 (G_pc (pc' := 29) rfl ?_)
      refine G_iload (i := 1) (n := 3) (len := 1) (Or.inl ⟨1, rfl, rfl, d_To_readSign_29⟩) rfl (G_pc (pc' := 30) rfl ?_)
      refine G_iload (i := 2) (n := 1) (len := 1) (Or.inl ⟨2, rfl, rfl, d_To_readSign_30⟩) rfl (G_pc (pc' := 31) rfl ?_)
      refine G_sipush (n := 132) d_To_readSign_31 (by decide) (G_pc (pc' := 34) rfl ?_)
      refine G_icmp_ne (tgt := 41) d_To_readSign_34 (by decide) (fun h6 => ?_) (fun h6 => G_pc (pc' := 37) rfl ?_)
      · skip
        refine G_iload (i := 3) (n := 0) (len := 1) (Or.inl ⟨3, rfl, rfl, d_To_readSign_41⟩) rfl (G_pc (pc' := 42) rfl ?_)
        refine G_iadd d_To_readSign_42 (by omega) (G_pc (pc' := 43) rfl ?_)
        refine G_callV (K1 := KE) (d2 := 0) (o := 14) (cl := 7) (as := [vi (sigD (f k) (f (k + 1)) (f (k + 2))), vi (-1), vl 0, vi (k + 2)]) (rest := []) d_To_readSign_43 mf_To_add ml_To_64 rfl rfl (by decide) rfl rfl (Nat.le_of_ble_eq_true rfl) (by omega) ⟨Nat.le_refl _, Nat.le_refl _⟩ (g_To_add (by omega) (sigD (f k) (f (k + 1)) (f (k + 2))) (-1) 0 (k + 2) M hs) (fun r7 M8 kq9 q9 => ?_)
        clear kq9; obtain ⟨q9a, q9b⟩ := q9; subst r7; subst M8
        refine G_ps (pc' := 46) (st' := [vi (k + 2)]) rfl rfl ?_
        refine G_iret d_To_readSign_46 rfl (tokI (by have := sgN_rng (f k) (f (k + 1)) (f (k + 2)); omega)) rfl rfl ?_
        have z1 : ¬ sgT (f k) (f (k + 1)) (f (k + 2)) = 0 := by omega
        have z2 := hsg.2 z1
        have z3 := tk_sg (z1) hsr
        refine tokQ_s (T' := (k + sgN (f k) (f (k + 1)) (f (k + 2)), sgT (f k) (f (k + 1)) (f (k + 2)), 0, 0)) (by unfold signT; rw [if_neg z1]) rfl ?_ ?_
        · show some (vi _) = some (vi _)
          rw [z2]
          first | rw [if_pos (by omega)] | (rw [if_neg (by omega), if_pos (by omega)]) | (rw [if_neg (by omega), if_neg (by omega)])
        · show addK M _ (-1) 0 = addK M (tcode (sgT (f k) (f (k + 1)) (f (k + 2)))) (tkind (sgT (f k) (f (k + 1)) (f (k + 2)))) (tnum (sgT (f k) (f (k + 1)) (f (k + 2))) 0)
          rw [z3.1, z3.2, hsg.1]
      · skip
        refine G_iconst (n := 3) d_To_readSign_37 (by decide) (G_pc (pc' := 38) rfl ?_)
        refine G_goto (tgt := 42) d_To_readSign_38 (by decide) ?_
        refine G_iadd d_To_readSign_42 (by omega) (G_pc (pc' := 43) rfl ?_)
        refine G_callV (K1 := KE) (d2 := 0) (o := 14) (cl := 7) (as := [vi (sigD (f k) (f (k + 1)) (f (k + 2))), vi (-1), vl 0, vi (k + 3)]) (rest := []) d_To_readSign_43 mf_To_add ml_To_64 rfl rfl (by decide) rfl rfl (Nat.le_of_ble_eq_true rfl) (by omega) ⟨Nat.le_refl _, Nat.le_refl _⟩ (g_To_add (by omega) (sigD (f k) (f (k + 1)) (f (k + 2))) (-1) 0 (k + 3) M hs) (fun r10 M11 kq12 q12 => ?_)
        clear kq12; obtain ⟨q12a, q12b⟩ := q12; subst r10; subst M11
        refine G_ps (pc' := 46) (st' := [vi (k + 3)]) rfl rfl ?_
        refine G_iret d_To_readSign_46 rfl (tokI (by have := sgN_rng (f k) (f (k + 1)) (f (k + 2)); omega)) rfl rfl ?_
        have z1 : ¬ sgT (f k) (f (k + 1)) (f (k + 2)) = 0 := by omega
        have z2 := hsg.2 z1
        have z3 := tk_sg (z1) hsr
        refine tokQ_s (T' := (k + sgN (f k) (f (k + 1)) (f (k + 2)), sgT (f k) (f (k + 1)) (f (k + 2)), 0, 0)) (by unfold signT; rw [if_neg z1]) rfl ?_ ?_
        · show some (vi _) = some (vi _)
          rw [z2]
          first | rw [if_pos (by omega)] | (rw [if_neg (by omega), if_pos (by omega)]) | (rw [if_neg (by omega), if_neg (by omega)])
        · show addK M _ (-1) 0 = addK M (tcode (sgT (f k) (f (k + 1)) (f (k + 2)))) (tkind (sgT (f k) (f (k + 1)) (f (k + 2)))) (tnum (sgT (f k) (f (k + 1)) (f (k + 2))) 0)
          rw [z3.1, z3.2, hsg.1]
    · skip
      refine G_iconst (n := 1) d_To_readSign_19 (by decide) (G_pc (pc' := 20) rfl ?_)
      refine G_goto (tgt := 24) d_To_readSign_20 (by decide) ?_
      refine G_istore (i := 3) (len := 1) (ls' := [(3, vi 1), (2, vi (sigD (f k) (f (k + 1)) (f (k + 2)))), (0, vr 14), (1, vi k)]) (Or.inl ⟨3, rfl, rfl, d_To_readSign_24⟩) (by decide) rfl (G_pc (pc' := 25) rfl ?_)
      refine G_aload (i := 0) (n := 2) (len := 1) (Or.inl ⟨0, rfl, rfl, d_To_readSign_25⟩) rfl (by decide) (G_pc (pc' := 26) rfl ?_)
      refine G_iload (i := 2) (n := 1) (len := 1) (Or.inl ⟨2, rfl, rfl, d_To_readSign_26⟩) rfl (G_pc (pc' := 27) rfl ?_)
      refine G_iconst (n := (-1)) d_To_readSign_27 (by decide) (G_pc (pc' := 28) rfl ?_)
      refine G_lconst0 d_To_readSign_28 (G_pc (pc' := 29) rfl ?_)
      refine G_iload (i := 1) (n := 3) (len := 1) (Or.inl ⟨1, rfl, rfl, d_To_readSign_29⟩) rfl (G_pc (pc' := 30) rfl ?_)
      refine G_iload (i := 2) (n := 1) (len := 1) (Or.inl ⟨2, rfl, rfl, d_To_readSign_30⟩) rfl (G_pc (pc' := 31) rfl ?_)
      refine G_sipush (n := 132) d_To_readSign_31 (by decide) (G_pc (pc' := 34) rfl ?_)
      refine G_icmp_ne (tgt := 41) d_To_readSign_34 (by decide) (fun h13 => ?_) (fun h13 => G_pc (pc' := 37) rfl ?_)
      · skip
        refine G_iload (i := 3) (n := 0) (len := 1) (Or.inl ⟨3, rfl, rfl, d_To_readSign_41⟩) rfl (G_pc (pc' := 42) rfl ?_)
        refine G_iadd d_To_readSign_42 (by omega) (G_pc (pc' := 43) rfl ?_)
        refine G_callV (K1 := KE) (d2 := 0) (o := 14) (cl := 7) (as := [vi (sigD (f k) (f (k + 1)) (f (k + 2))), vi (-1), vl 0, vi (k + 1)]) (rest := []) d_To_readSign_43 mf_To_add ml_To_64 rfl rfl (by decide) rfl rfl (Nat.le_of_ble_eq_true rfl) (by omega) ⟨Nat.le_refl _, Nat.le_refl _⟩ (g_To_add (by omega) (sigD (f k) (f (k + 1)) (f (k + 2))) (-1) 0 (k + 1) M hs) (fun r14 M15 kq16 q16 => ?_)
        clear kq16; obtain ⟨q16a, q16b⟩ := q16; subst r14; subst M15
        refine G_ps (pc' := 46) (st' := [vi (k + 1)]) rfl rfl ?_
        refine G_iret d_To_readSign_46 rfl (tokI (by have := sgN_rng (f k) (f (k + 1)) (f (k + 2)); omega)) rfl rfl ?_
        have z1 : ¬ sgT (f k) (f (k + 1)) (f (k + 2)) = 0 := by omega
        have z2 := hsg.2 z1
        have z3 := tk_sg (z1) hsr
        refine tokQ_s (T' := (k + sgN (f k) (f (k + 1)) (f (k + 2)), sgT (f k) (f (k + 1)) (f (k + 2)), 0, 0)) (by unfold signT; rw [if_neg z1]) rfl ?_ ?_
        · show some (vi _) = some (vi _)
          rw [z2]
          first | rw [if_pos (by omega)] | (rw [if_neg (by omega), if_pos (by omega)]) | (rw [if_neg (by omega), if_neg (by omega)])
        · show addK M _ (-1) 0 = addK M (tcode (sgT (f k) (f (k + 1)) (f (k + 2)))) (tkind (sgT (f k) (f (k + 1)) (f (k + 2)))) (tnum (sgT (f k) (f (k + 1)) (f (k + 2))) 0)
          rw [z3.1, z3.2, hsg.1]
      · skip
        refine G_iconst (n := 3) d_To_readSign_37 (by decide) (G_pc (pc' := 38) rfl ?_)
        refine G_goto (tgt := 42) d_To_readSign_38 (by decide) ?_
        refine G_iadd d_To_readSign_42 (by omega) (G_pc (pc' := 43) rfl ?_)
        refine G_callV (K1 := KE) (d2 := 0) (o := 14) (cl := 7) (as := [vi (sigD (f k) (f (k + 1)) (f (k + 2))), vi (-1), vl 0, vi (k + 3)]) (rest := []) d_To_readSign_43 mf_To_add ml_To_64 rfl rfl (by decide) rfl rfl (Nat.le_of_ble_eq_true rfl) (by omega) ⟨Nat.le_refl _, Nat.le_refl _⟩ (g_To_add (by omega) (sigD (f k) (f (k + 1)) (f (k + 2))) (-1) 0 (k + 3) M hs) (fun r17 M18 kq19 q19 => ?_)
        clear kq19; obtain ⟨q19a, q19b⟩ := q19; subst r17; subst M18
        refine G_ps (pc' := 46) (st' := [vi (k + 3)]) rfl rfl ?_
        refine G_iret d_To_readSign_46 rfl (tokI (by have := sgN_rng (f k) (f (k + 1)) (f (k + 2)); omega)) rfl rfl ?_
        have z1 : ¬ sgT (f k) (f (k + 1)) (f (k + 2)) = 0 := by omega
        have z2 := hsg.2 z1
        have z3 := tk_sg (z1) hsr
        refine tokQ_s (T' := (k + sgN (f k) (f (k + 1)) (f (k + 2)), sgT (f k) (f (k + 1)) (f (k + 2)), 0, 0)) (by unfold signT; rw [if_neg z1]) rfl ?_ ?_
        · show some (vi _) = some (vi _)
          rw [z2]
          first | rw [if_pos (by omega)] | (rw [if_neg (by omega), if_pos (by omega)]) | (rw [if_neg (by omega), if_neg (by omega)])
        · show addK M _ (-1) 0 = addK M (tcode (sgT (f k) (f (k + 1)) (f (k + 2)))) (tkind (sgT (f k) (f (k + 1)) (f (k + 2)))) (tnum (sgT (f k) (f (k + 1)) (f (k + 2))) 0)
          rw [z3.1, z3.2, hsg.1]
  · skip
    refine G_iconst (n := (-1)) d_To_readSign_10 (by decide) (G_pc (pc' := 11) rfl ?_)
    refine G_iret d_To_readSign_11 rfl (tokI (by decide)) rfl rfl ?_
    exact tokQ_n (T' := (k + sgN (f k) (f (k + 1)) (f (k + 2)), sgT (f k) (f (k + 1)) (f (k + 2)), 0, 1)) (by unfold signT; rw [if_pos (by omega)]) (by show ¬ (1 : Int) = 0; decide) rfl rfl

