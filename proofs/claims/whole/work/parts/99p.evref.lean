section EB
variable {M M1 M2 W X W' X' : Mem} {n : Int} {e : Nat} {r r' : Option PV}
theorem evM_o {c : Nat} {i : Int} (h1 : ¬ (c = 1 ∧ i = 4)) (h2 : ¬ (c = 19 + 9 * e ∧ i = 6)) (h3 : ¬ c = 27 + 9 * e) : evM M e c i = M c i := by
  unfold evM mset cpD
  rw [if_neg h1, if_neg h2, if_neg (fun h => h3 h.1)]
theorem evT_o {c : Nat} {i : Int} (h1 : ¬ c = 63) (h2 : ¬ (c = 64 ∧ (i = e ∨ i = 4))) (h3 : ¬ (c = 65 ∧ i = e)) : evT M e c i = M c i := by
  unfold evT mset cpT
  rw [if_neg h3, if_neg (by omega), if_neg (by omega), if_neg (fun h => h1 h.1)]
theorem evT_63 {i : Int} : evT M e 63 i = if 40 * (e : Int) ≤ i ∧ i < 40 * e + M 64 4 then M 63 (160 + (i - 40 * e)) else M 63 i := by
  unfold evT
  rw [mset_ne (by decide), mset_ne (by decide), mset_ne (by decide)]
  unfold cpT
  by_cases h : 40 * (e : Int) ≤ i ∧ i < 40 * e + M 64 4
  · rw [if_pos ⟨rfl, h.1, h.2⟩, if_pos h]
  · rw [if_neg (fun h9 => h h9.2), if_neg h]
theorem kcS_cg {M M2 : Mem} (h : M2 10 = M 10) : ∀ j, kcS M2 j = kcS M j := by
  intro j
  induction j with
  | zero => rfl
  | succ j ih => unfold kcS; rw [ih, h]
theorem cntM_cg {M M2 : Mem} (h : M2 71 = M 71) : ∀ j, cntM M2 j = cntM M j := by
  intro j
  induction j with
  | zero => rfl
  | succ j ih => unfold cntM; rw [ih, h]
/-- the text that was written is the evaluation's, on both sides -/
theorem eval_Z (hB : BI n M) (hn : n ≤ 300) (he : e < 4) (h91 : M 55 9 = 1) : BIx n e (hyb (evM M e) (evT M e)) := by
  have hRC := fun (e : Nat) (he : e < 4) => BI_RC hB hn he
  obtain ⟨⟨b1, b2, b3, b4⟩, ⟨c1, c2, c3, c4, c5, c6⟩, ⟨k1, k2, k3⟩, r1, ⟨x1, x2, x3⟩, v1, g1⟩ := hB
  have hd : ∀ (c : Nat) (i : Int), c ≤ 54 → ¬ (c = 1 ∧ i = 4) → ¬ (c = 19 + 9 * e ∧ i = 6) → ¬ c = 27 + 9 * e → hyb (evM M e) (evT M e) c i = M c i := fun c i h h1 h2 h3 => by
    rw [hyb_d h]; exact evM_o h1 h2 h3
  have hm : ∀ (c : Nat) (i : Int), 55 ≤ c → ¬ c = 63 → ¬ (c = 64 ∧ (i = e ∨ i = 4)) → ¬ (c = 65 ∧ i = e) → hyb (evM M e) (evT M e) c i = M c i := fun c i h h1 h2 h3 => by
    rw [hyb_m h]; exact evT_o h1 h2 h3
  have z63 : ∀ i, hyb (evM M e) (evT M e) 63 i = if 40 * (e : Int) ≤ i ∧ i < 40 * e + M 64 4 then M 63 (160 + (i - 40 * e)) else M 63 i := fun i => by
    rw [hyb_m (by decide)]; exact evT_63
  have z64 : hyb (evM M e) (evT M e) 64 e = M 64 4 := by
    rw [hyb_m (by decide)]; unfold evT; rw [mset_ne (by decide), mset_ni (by omega), mset_eq rfl]
  have z644 : hyb (evM M e) (evT M e) 64 4 = 0 := by
    rw [hyb_m (by decide)]; unfold evT; rw [mset_ne (by decide), mset_eq rfl]
  have z65 : hyb (evM M e) (evT M e) 65 e = 1 := by
    rw [hyb_m (by decide)]; unfold evT; rw [mset_eq rfl]
  have z14 : hyb (evM M e) (evT M e) 1 4 = 0 := by
    rw [hyb_d (by decide)]; unfold evM; rw [mset_eq rfl]
  have z6 : hyb (evM M e) (evT M e) (19 + 9 * e) 6 = M 1 4 := by
    rw [hyb_d (by omega)]; exact evM_6
  have z27 : ∀ k, 0 ≤ k → k < M 1 4 → hyb (evM M e) (evT M e) (27 + 9 * e) k = M 3 k := fun k h0 h1 => by
    rw [hyb_d (by omega)]; exact evM_c h0 h1
  generalize hyb (evM M e) (evT M e) = Z at hd hm z63 z64 z644 z65 z14 z6 z27
  have hdc : ∀ c : Nat, c ≤ 54 → ¬ c = 1 → ¬ c = 19 + 9 * e → ¬ c = 27 + 9 * e → Z c = M c := fun c h h1 h2 h3 => funext fun i => hd c i h (by omega) (by omega) h3
  have hmc : ∀ c : Nat, 55 ≤ c → ¬ (c = 63 ∨ c = 64 ∨ c = 65) → Z c = M c := fun c h h1 => funext fun i => hm c i h (by omega) (by omega) (by omega)
  have z9 := hdc 9 (by decide) (by decide) (by omega) (by omega)
  have z10 := hdc 10 (by decide) (by decide) (by omega) (by omega)
  have z55 := hmc 55 (by decide) (by decide)
  have z71 := hmc 71 (by decide) (by decide)
  have hv := vpD_eq (M := M) (W := Z) (hmc 60 (by decide) (by decide))
  have hmo := fun (e' : Nat) (he' : e' < 4) => moD_g (M2 := Z) (hRC e' he') (by rw [z9]; exact (hRC e' he').2.2.2.1.1) (by rw [z9]; exact (hRC e' he').2.2.2.1.2.1) (by rw [z9]; exact c2) (fun c hc => by
    by_cases h : c ≤ 54
    · exact hdc c h (by omega) (by omega) (by omega)
    · exact hmc c (by omega) (by omega)) (fun i _ => by rw [z55]) (fun p _ _ hk => by rw [kbD_eq z10]; exact hk)
  have hm0 := hmo 0 (by decide)
  refine ⟨⟨hm0.2.2.2.1.1, hm0.2.2.2.1.2.1, hm0.2.2.2.1.2.2.1, by rw [z55]; exact b4⟩, ⟨by rw [z9, z55]; exact c1, by rw [z9]; exact c2, RQL_cg (M := M) ⟨by rw [z9], by rw [z9]⟩ (hdc 11 (by decide) (by decide) (by omega) (by omega)) (hdc 12 (by decide) (by decide) (by omega) (by omega)) (hmc 60 (by decide) (by decide)) ⟨by rw [z55], by rw [z55]⟩ (hmc 72 (by decide) (by decide)) (hmc 73 (by decide) (by decide)) c3, fun k h0 h1 => by rw [z9] at h1; rw [hdc 12 (by decide) (by decide) (by omega) (by omega)]; exact c4 k h0 h1, by rw [z9]; exact c5, by rw [z9]; exact c6⟩, ⟨⟨fun j h0 h1 => by rw [z10]; exact k1.1 j h0 h1, fun k h0 h1 => by rw [z71]; exact k1.2 k h0 h1⟩, by unfold KR; rw [hv.1, hv.2, kbD_eq z10, z71]; exact k2, by unfold KC; rw [kcS_cg z10, cntM_cg z71]; exact k3⟩, by rw [z55]; exact h91, ⟨by rw [z14, z644], by rw [z644]; decide, fun k h0 h1 => by rw [z644] at h1; omega⟩, fun e' he' hne => ?_, fun j hj => by rw [hmc 74 (by decide) (by decide)]; exact g1 j hj, by rw [z64]; exact x2, by rw [z6, z64, x1], fun k h0 h1 => ?_, by rw [z65]; decide⟩
  · have hv1 := v1 e' he'
    refine EV_mv (fun _ => ⟨hRC e' he', hmo e' he'⟩) (hdc _ (by omega) (by omega) (by omega) (by omega)) (hdc _ (by omega) (by omega) (by omega) (by omega)) (hdc _ (by omega) (by omega) (by omega) (by omega)) (hdc _ (by omega) (by omega) (by omega) (by omega)) (fun k k0 k9 => ?_) (fun c q1 q2 => ?_) hv1
    · have := hv1.1
      rw [z63, if_neg (by omega)]
    · exact hm c _ (by omega) (by omega) (by omega) (by omega)
  · rw [z64] at h1
    rw [z27 k h0 (by omega), z63, if_pos (by omega), show 160 + (40 * (e : Int) + k - 40 * e) = 160 + k by omega]
    exact x3 k h0 h1
theorem c_eval (hB : BI n M) (hn : n ≤ 298) (he : e < 4) (hd : (M 55 9 = 0 → r = some (vi (-1)) ∧ M1 = M) ∧ (M 55 9 = 1 → beQ e (evM M e) (dfF (lexL (fun k => if k < M 1 4 then M 3 k else 0) (M 1 4) 41 0 [])) r M1)) (hm : ((0 ≤ (e : Int) ∧ (e : Int) < 4) ∧ M1 55 9 = 1 → r' = some (vi (M2 66 e)) ∧ goQ e (evT M1 e) M2) ∧ (¬ ((0 ≤ (e : Int) ∧ (e : Int) < 4) ∧ M1 55 9 = 1) → r' = some (vi (-1)) ∧ M2 = M1)) : r = r' ∧ BI (n + 1) M2 := by
  have h9 := hB.1.2.1.2.2.1
  by_cases hok : M 55 9 = 0
  · obtain ⟨p1, p2⟩ := hd.1 hok
    subst p2
    obtain ⟨q1, q2⟩ := hm.2 (fun h => by have := h.2; omega)
    subst q2
    exact ⟨by rw [p1, q1], BI_up hB (by omega)⟩
  · have h91 : M 55 9 = 1 := by omega
    have hq := hd.2 h91
    have hZ := eval_Z hB (by omega) he h91
    obtain ⟨x1, x2, x3⟩ := hB.2.2.2.2.1
    have hag : agM (evM M e) (evT M e) := by
      have hh : ∀ (c : Nat) (i : Int), 55 ≤ c → c ≤ 62 → evT M e c i = evM M e c i := fun c i h1 h2 => by
        rw [evT_o (by omega) (by omega) (by omega), evM_o (by omega) (by omega) (by omega)]
      exact ⟨⟨hh 55 0 (by decide) (by decide), hh 55 5 (by decide) (by decide), hh 55 9 (by decide) (by decide), hh 55 10 (by decide) (by decide)⟩, funext fun i => hh 56 i (by decide) (by decide), funext fun i => hh 57 i (by decide) (by decide), funext fun i => hh 58 i (by decide) (by decide), funext fun i => hh 59 i (by decide) (by decide), funext fun i => hh 60 i (by decide) (by decide), funext fun i => hh 61 i (by decide) (by decide), funext fun i => hh 62 i (by decide) (by decide)⟩
    have hlex : lexF (evT M e) e = lexL (fun k => if k < M 1 4 then M 3 k else 0) (M 1 4) 41 0 [] := by
      have e64 : evT M e 64 e = M 1 4 := by unfold evT; rw [mset_ne (by decide), mset_ni (by omega), mset_eq rfl, x1]
      unfold lexF
      rw [e64]
      refine lexL_cg (fun j hj => ?_) (by omega) 41 0 [] (Int.le_refl _)
      unfold txM
      rw [e64]
      by_cases h : j < M 1 4
      · rw [if_pos h, if_pos h, evT_63, if_pos (by omega), show 160 + (40 * (e : Int) + j - 40 * e) = 160 + j by omega]
        exact ((x3 j hj (by omega)).1).symm
      · rw [if_neg h, if_neg h]
    rw [← hlex] at hq
    obtain ⟨p1, p2, p3, p4⟩ := both_pre ⟨hZ.1.1, hZ.1.2.1, hZ.1.2.2.1⟩ hZ.2.1 hZ.2.2.1.2.1 hag (by omega) he
    have hMH := BIx_MH hZ hag (by omega) he
    have hl : evM M e 9 3 < 300 ∧ evM M e 9 4 < 300 := by
      have u1 : evM M e 9 3 = M 9 3 := evM_o (by omega) (by omega) (by omega)
      have u2 : evM M e 9 4 = M 9 4 := evM_o (by omega) (by omega) (by omega)
      obtain ⟨-, ⟨c1, c2, ⟨d1, d2, d3, d4⟩, c4, c5, c6⟩, -⟩ := hB
      omega
    have hfr := (beg_sum p1 p2 (TX_of hMH.1 hMH.2.1 he) hl hq).2.1
    have hmm : ∀ c : Nat, 55 ≤ c → M1 c = M c := fun c hc => funext fun i => by
      rw [hfr c i (by unfold dcell; omega)]; exact evM_o (by omega) (by omega) (by omega)
    have hTT : ∀ c : Nat, 55 ≤ c → evT M1 e c = evT M e c := fun c hc => by
      funext i
      unfold evT mset cpT
      rw [hmm 64 (by decide), hmm 63 (by decide), hmm c hc]
    obtain ⟨q1, q2⟩ := hm.1 ⟨by omega, by rw [hmm 55 (by decide)]; exact h91⟩
    have hy : hyb (evM M e) (evT M1 e) = hyb (evM M e) (evT M e) := by
      funext c; unfold hyb; split
      · rfl
      · exact hTT c (by omega)
    have hag1 : agM (evM M e) (evT M1 e) := agM_tr hag ⟨⟨by rw [hTT 55 (by decide)], by rw [hTT 55 (by decide)], by rw [hTT 55 (by decide)], by rw [hTT 55 (by decide)]⟩, hTT 56 (by decide), hTT 57 (by decide), hTT 58 (by decide), hTT 59 (by decide), hTT 60 (by decide), hTT 61 (by decide), hTT 62 (by decide)⟩
    have hx1 : BIx n e (hyb (evM M e) (evT M1 e)) := by rw [hy]; exact hZ
    have hlex1 : lexF (evT M1 e) e = lexF (evT M e) e := by
      unfold lexF txM
      rw [hTT 64 (by decide), hTT 63 (by decide)]
    obtain ⟨o1, o2⟩ := be_go hx1 hag1 hn he (by rw [hlex1]; exact hq) q2
    have hgs := go_sum (BIx_MH hx1 hag1 (by omega) he) q2
    have h2 : hyb M1 M2 = M2 := by
      funext c; unfold hyb; split
      · rename_i hc
        rw [goS_d hgs c hc]
        funext i
        exact (evT_o (by omega) (by omega) (by omega)).symm
      · rfl
    rw [h2] at o2
    exact ⟨by rw [o1, q1], o2⟩
theorem tk_o {k : Int} {c : Nat} {i : Int} (h1 : ¬ (c = 55 ∧ i = 21)) (h2 : ¬ (c = 72 ∨ c = 73)) : takeOutM M k c i = M c i := by
  have e1 : takeOutM M k c i = shM M k (M 55 21 - 1) c i := if_neg h1
  rw [e1]; exact if_neg (fun h9 => h2 h9.1)
/-- a request is taken out, on both sides -/
theorem drop_Z {k : Int} (hB : BI n M) (hn : n ≤ 300) (hk : 0 ≤ k ∧ k < M 9 3) : BI n (hyb (dropD M k) (takeOutM M k)) := by
  have hRC := fun (e : Nat) (he : e < 4) => BI_RC hB hn he
  have hB0 := hB
  obtain ⟨⟨b1, b2, b3, b4⟩, ⟨c1, c2, ⟨d1, d2, d3, d4⟩, c4, c5, c6⟩, ⟨k1, k2, k3⟩, r1, x1, v1, g1⟩ := hB
  have q1 : ∀ (c : Nat) (i : Int), c ≤ 54 → ¬ (c = 9 ∧ i = 3) → ¬ (c = 11 ∨ c = 12) → hyb (dropD M k) (takeOutM M k) c i = M c i := fun c i h h1 h2 => by
    rw [hyb_d h]; unfold dropD shD mset; rw [if_neg (fun h9 => h2 h9.1), if_neg h1]
  have q2 : ∀ (c : Nat) (i : Int), 55 ≤ c → ¬ (c = 55 ∧ i = 21) → ¬ (c = 72 ∨ c = 73) → hyb (dropD M k) (takeOutM M k) c i = M c i := fun c i h h1 h2 => by
    rw [hyb_m h]; exact tk_o h1 h2
  have q93 : hyb (dropD M k) (takeOutM M k) 9 3 = M 9 3 - 1 := by
    rw [hyb_d (by decide)]; unfold dropD shD; rw [if_neg (by omega)]; exact mset_eq rfl
  have q21 : hyb (dropD M k) (takeOutM M k) 55 21 = M 55 21 - 1 := by
    rw [hyb_m (by decide)]; unfold takeOutM; exact mset_eq rfl
  have qd : ∀ (c : Nat) (i : Int), (c = 11 ∨ c = 12) → hyb (dropD M k) (takeOutM M k) c i = if k ≤ i ∧ i < M 9 3 - 1 then M c (i + 1) else M c i := fun c i hc => by
    rw [hyb_d (by omega)]; unfold dropD shD
    by_cases h : k ≤ i ∧ i < M 9 3 - 1
    · rw [if_pos ⟨hc, h⟩, if_pos h, mset_ne (by omega)]
    · rw [if_neg (fun h9 => h h9.2), if_neg h, mset_ne (by omega)]
  have qm : ∀ (c : Nat) (i : Int), (c = 72 ∨ c = 73) → hyb (dropD M k) (takeOutM M k) c i = if k ≤ i ∧ i < M 9 3 - 1 then M c (i + 1) else M c i := fun c i hc => by
    rw [hyb_m (by omega)]; unfold takeOutM; rw [mset_ne (by omega)]; unfold shM
    by_cases h : k ≤ i ∧ i < M 9 3 - 1
    · rw [if_pos ⟨hc, by rw [d1]; exact h⟩, if_pos h]
    · rw [if_neg (fun h9 => h (by rw [← d1]; exact h9.2)), if_neg h]
  generalize hyb (dropD M k) (takeOutM M k) = Z at q1 q2 q93 q21 qd qm
  have hdc : ∀ c : Nat, c ≤ 54 → ¬ c = 9 → ¬ (c = 11 ∨ c = 12) → Z c = M c := fun c h h1 h2 => funext fun i => q1 c i h (by omega) h2
  have hmc : ∀ c : Nat, 56 ≤ c → ¬ (c = 72 ∨ c = 73) → Z c = M c := fun c h h1 => funext fun i => q2 c i (by omega) (by omega) h1
  have z10 := hdc 10 (by decide) (by decide) (by decide)
  have z71 := hmc 71 (by decide) (by decide)
  have z94 : Z 9 4 = M 9 4 := q1 9 4 (by decide) (by decide) (by decide)
  have z95 : Z 9 5 = M 9 5 := q1 9 5 (by decide) (by decide) (by decide)
  have z55 : ∀ i, ¬ i = 21 → Z 55 i = M 55 i := fun i hi => q2 55 i (by decide) (by omega) (by decide)
  have hv := vpD_eq (M := M) (W := Z) (hmc 60 (by decide) (by decide))
  have hmo := fun (e' : Nat) (he' : e' < 4) => moD_g (M2 := Z) (hRC e' he') (by rw [q93]; omega) (by rw [z94]; exact (hRC e' he').2.2.2.1.2.1) (by rw [z95]; exact c2) (fun c hc => by
    by_cases h : c ≤ 54
    · exact hdc c h (by omega) (by omega)
    · exact hmc c (by omega) (by omega)) (fun i hi => z55 i (by omega)) (fun p _ _ hk => by rw [kbD_eq z10]; exact hk)
  have hm0 := hmo 0 (by decide)
  refine ⟨⟨hm0.2.2.2.1.1, hm0.2.2.2.1.2.1, hm0.2.2.2.1.2.2.1, by rw [z55 9 (by decide), z55 10 (by decide)]; exact b4⟩, ⟨by rw [z95, z55 11 (by decide)]; exact c1, by rw [z95]; exact c2, ⟨by rw [q21, q93, d1], by rw [z55 24 (by decide), z94, d2], by rw [q93]; omega, fun j h0 h1 => ?_⟩, fun j h0 h1 => ?_, by rw [q93, z94]; omega, by rw [z94]; exact c6⟩, ⟨⟨fun j h0 h1 => by rw [z10]; exact k1.1 j h0 h1, fun k h0 h1 => by rw [z71]; exact k1.2 k h0 h1⟩, by unfold KR; rw [hv.1, hv.2, kbD_eq z10, z71]; exact k2, by unfold KC; rw [kcS_cg z10, cntM_cg z71]; exact k3⟩, fun h => ?_, ?_, fun e' he' => ?_, fun j hj => by rw [hmc 74 (by decide) (by decide)]; exact g1 j hj⟩
  · rw [q93] at h1
    rw [hv.1, hv.2, qd 11 j (Or.inl rfl), qd 12 j (Or.inr rfl), qm 72 j (Or.inl rfl), qm 73 j (Or.inr rfl)]
    by_cases h : k ≤ j ∧ j < M 9 3 - 1
    · rw [if_pos h, if_pos h, if_pos h, if_pos h]; exact d4 (j + 1) (by omega) (by omega)
    · rw [if_neg h, if_neg h, if_neg h, if_neg h]; exact d4 j h0 (by omega)
  · rw [q93] at h1
    rw [qd 12 j (Or.inr rfl)]
    by_cases h : k ≤ j ∧ j < M 9 3 - 1
    · rw [if_pos h]; exact c4 (j + 1) (by omega) (by omega)
    · rw [if_neg h]; exact c4 j h0 (by omega)
  · rw [z55 9 (by decide)] at h
    obtain ⟨u1, -⟩ := r1 h
    omega
  · unfold BX
    rw [hdc 1 (by decide) (by decide) (by decide), hdc 3 (by decide) (by decide) (by decide), hmc 63 (by decide) (by decide), hmc 64 (by decide) (by decide)]
    exact x1
  · exact EV_mv (fun _ => ⟨hRC e' he', hmo e' he'⟩) (hdc _ (by omega) (by omega) (by omega)) (hdc _ (by omega) (by omega) (by omega)) (hdc _ (by omega) (by omega) (by omega)) (hdc _ (by omega) (by omega) (by omega)) (fun k _ _ => by rw [hmc 63 (by decide) (by decide)]) (fun c u1 u2 => by rw [hmc c (by omega) (by omega)]) (v1 e' he')
/-- who waits for a request, on both sides -/
theorem who_eq {k : Int} (hB : BI n M) (hk : 0 ≤ k ∧ k < M 9 3) (he : e < 4) : (M (19 + 9 * e) 7 = 1 ∧ M (19 + 9 * e) 11 = M 11 k) ↔ (M 66 e = 1 ∧ M 70 e = M 72 k) := by
  obtain ⟨-, ⟨c1, c2, ⟨d1, d2, d3, d4⟩, c4, c5, c6⟩, -, -, -, v1, -⟩ := hB
  obtain ⟨a1, a2, a3, a4, a5, a6, a7, a8, a9⟩ := v1 e he
  obtain ⟨e1, e2, -⟩ := d4 k hk.1 hk.2
  constructor
  · rintro ⟨h1, h2⟩
    have h3 := a4.symm.trans h1
    obtain ⟨w1, w2, -⟩ := a9 h3
    exact ⟨h3, by rw [w2, h2, e2]⟩
  · rintro ⟨h1, h2⟩
    obtain ⟨w1, w2, -⟩ := a9 h1
    exact ⟨a4.trans h1, pcD_inj w1 e1 (by rw [← w2, h2, e2])⟩
theorem refN_o {p : Int} : ∀ (n i : Nat) (W : Mem) (c0 : Int) (c : Nat) (j : Int), (∀ m : Nat, i ≤ m → m < i + n → ¬ (c = 19 + 9 * m ∧ j = 7)) → (refN p n i W c0).2 c j = W c j := by
  intro n
  induction n with
  | zero => intro i W c0 c j _; rfl
  | succ n ih =>
    intro i W c0 c j h
    by_cases h1 : W (19 + 9 * i) 7 = 1 ∧ W (19 + 9 * i) 11 = p
    · rw [refN_y h1, ih (i + 1) _ _ c j (fun m h2 h3 => h m (by omega) (by omega))]
      unfold mset; rw [if_neg (h i (by omega) (by omega))]
    · rw [refN_n h1, ih (i + 1) _ _ c j (fun m h2 h3 => h m (by omega) (by omega))]
theorem refN_s {p : Int} : ∀ (n i : Nat) (W : Mem) (c0 : Int) (m : Nat), i ≤ m → m < i + n → ((W (19 + 9 * m) 7 = 1 ∧ W (19 + 9 * m) 11 = p) → (refN p n i W c0).2 (19 + 9 * m) 7 = 6) ∧ (¬ (W (19 + 9 * m) 7 = 1 ∧ W (19 + 9 * m) 11 = p) → (refN p n i W c0).2 (19 + 9 * m) 7 = W (19 + 9 * m) 7) := by
  intro n
  induction n with
  | zero => intro i W c0 m h1 h2; omega
  | succ n ih =>
    intro i W c0 m h1 h2
    by_cases hi : W (19 + 9 * i) 7 = 1 ∧ W (19 + 9 * i) 11 = p
    · rw [refN_y hi]
      by_cases hm : m = i
      · subst hm
        rw [refN_o n (m + 1) _ _ (19 + 9 * m) 7 (fun m' k1 k2 => by omega)]
        exact ⟨fun _ => mset_eq rfl, fun h => absurd hi h⟩
      · have := ih (i + 1) (mset W (19 + 9 * i) 7 6) (c0 + 1) m (by omega) (by omega)
        rw [mset_ne (by omega), mset_ne (by omega)] at this
        exact this
    · rw [refN_n hi]
      by_cases hm : m = i
      · subst hm
        rw [refN_o n (m + 1) _ _ (19 + 9 * m) 7 (fun m' k1 k2 => by omega)]
        exact ⟨fun h => absurd h hi, fun _ => rfl⟩
      · exact ih (i + 1) W c0 m (by omega) (by omega)
def indD (W : Mem) (p : Int) (m : Nat) : Int := if W (19 + 9 * m) 7 = 1 ∧ W (19 + 9 * m) 11 = p then 1 else 0
theorem refN_c {p : Int} : ∀ (n i : Nat) (W W0 : Mem) (c0 : Int), (∀ m, i ≤ m → W (19 + 9 * m) 7 = W0 (19 + 9 * m) 7 ∧ W (19 + 9 * m) 11 = W0 (19 + 9 * m) 11) → (refN p n i W c0).1 = c0 + (List.range n).foldr (fun t s => indD W0 p (i + t) + s) 0 := by
  intro n
  induction n with
  | zero => intro i W W0 c0 _; show c0 = c0 + 0; omega
  | succ n ih =>
    intro i W W0 c0 h
    have h0 := h i (Nat.le_refl _)
    have hfold : (List.range (n + 1)).foldr (fun t s => indD W0 p (i + t) + s) 0 = indD W0 p i + (List.range n).foldr (fun t s => indD W0 p (i + 1 + t) + s) 0 := by
      rw [List.range_succ_eq_map, List.foldr_cons, List.foldr_map]
      simp only [Nat.add_zero, Nat.add_succ, Nat.succ_add]
    rw [hfold]
    by_cases hi : W (19 + 9 * i) 7 = 1 ∧ W (19 + 9 * i) 11 = p
    · rw [refN_y hi, ih (i + 1) _ W0 _ (fun m hm => by rw [mset_ne (by omega), mset_ne (by omega)]; exact h m (by omega))]
      have : indD W0 p i = 1 := if_pos (by rw [← h0.1, ← h0.2]; exact hi)
      omega
    · rw [refN_n hi, ih (i + 1) W W0 _ (fun m hm => h m (by omega))]
      have : indD W0 p i = 0 := if_neg (by rw [← h0.1, ← h0.2]; exact hi)
      omega
theorem wb_ind {k : Int} (hB : BI n M) (hk : 0 ≤ k ∧ k < M 9 3) {m : Nat} (hm : m < 4) : wb M (M 72 k) m = indD M (M 11 k) m := by
  unfold wb indD
  by_cases h : M (19 + 9 * m) 7 = 1 ∧ M (19 + 9 * m) 11 = M 11 k
  · rw [if_pos h, if_pos ((who_eq hB hk hm).mp h)]
  · rw [if_neg h, if_neg (fun h9 => h ((who_eq hB hk hm).mpr h9))]
theorem ones_ind {k : Int} (hB : BI n M) (hk : 0 ≤ k ∧ k < M 9 3) {T : Mem} (h66 : T 66 = M 66) (h70 : T 70 = M 70) : onesM (waitM T (M 72 k)) = indD M (M 11 k) 0 + (indD M (M 11 k) 1 + (indD M (M 11 k) 2 + (indD M (M 11 k) 3 + 0))) := by
  have e : ∀ m : Nat, m < 4 → wb T (M 72 k) m = indD M (M 11 k) m := fun m hm => by
    rw [← wb_ind hB hk hm]; unfold wb; rw [h66, h70]
  have e0 := e 0 (by decide)
  have e1 := e 1 (by decide)
  have e2 := e 2 (by decide)
  have e3 := e 3 (by decide)
  have r : ∀ m, 0 ≤ indD M (M 11 k) m ∧ indD M (M 11 k) m ≤ 1 := fun m => by unfold indD; split <;> omega
  have r0 := r 0
  have r1 := r 1
  have r2 := r 2
  have r3 := r 3
  unfold waitM onesM
  rw [show wb T (M 72 k) 0 = _ from e0, show wb T (M 72 k) 1 = _ from e1, show wb T (M 72 k) 2 = _ from e2, show wb T (M 72 k) 3 = _ from e3]
  omega
theorem c_refuse {k : Int} (hB : BI n M) (hn : n ≤ 300) (hd : ((0 ≤ k ∧ k < M 9 3) → r = some (vi (refD M k).1) ∧ M1 = (refD M k).2) ∧ (¬ (0 ≤ k ∧ k < M 9 3) → r = some (vi (-1)) ∧ M1 = M)) (hm : ((0 ≤ k ∧ k < M1 55 21) → r' = some (vi (onesM (waitM (takeOutM M1 k) (M1 72 k)))) ∧ M2 = refuseM M1 k) ∧ (¬ (0 ≤ k ∧ k < M1 55 21) → r' = some (vi (-1)) ∧ M2 = M1)) : r = r' ∧ BI n M2 := by
  have d1 := hB.2.1.2.2.1.1
  by_cases hk : 0 ≤ k ∧ k < M 9 3
  · obtain ⟨p1, p2⟩ := hd.1 hk
    have hZ := drop_Z hB hn hk
    have hRC := fun (e : Nat) (he : e < 4) => BI_RC hZ hn he
    -- the desk's memory behind
    have m1o : ∀ (c : Nat) (j : Int), (∀ m : Nat, m < 4 → ¬ (c = 19 + 9 * m ∧ j = 7)) → M1 c j = dropD M k c j := fun c j h => by
      rw [p2]; exact refN_o 4 0 _ _ c j (fun m _ h2 => h m (by omega))
    have dro : ∀ (c : Nat) (i : Int), ¬ (c = 9 ∧ i = 3) → ¬ (c = 11 ∨ c = 12) → dropD M k c i = M c i := fun c i h1 h2 => by
      unfold dropD shD mset; rw [if_neg (fun h9 => h2 h9.1), if_neg h1]
    have mm : ∀ c : Nat, 55 ≤ c → M1 c = M c := fun c hc => funext fun i => (m1o c i (fun m hm => by omega)).trans (dro c i (by omega) (by omega))
    obtain ⟨q1, q2⟩ := hm.1 (by rw [mm 55 (by decide), d1]; exact hk)
    have hT : ∀ c : Nat, 55 ≤ c → takeOutM M1 k c = takeOutM M k c := fun c hc => by
      funext i; unfold takeOutM shM mset; simp only [mm 55 (by decide), mm c hc]
    have t66 : takeOutM M k 66 = M 66 := by funext i; unfold takeOutM shM; rw [mset_ne (by decide), if_neg (by omega)]
    have t70 : takeOutM M k 70 = M 70 := by funext i; unfold takeOutM shM; rw [mset_ne (by decide), if_neg (by omega)]
    rw [mm 72 (by decide)] at q1
    refine ⟨?_, ?_⟩
    · rw [p1, q1, ones_ind hB hk ((hT 66 (by decide)).trans t66) ((hT 70 (by decide)).trans t70)]
      have := refN_c (p := M 11 k) 4 0 (dropD M k) M 0 (fun m _ => ⟨dro _ _ (by omega) (by omega), dro _ _ (by omega) (by omega)⟩)
      have e9 : (refD M k).1 = indD M (M 11 k) 0 + (indD M (M 11 k) 1 + (indD M (M 11 k) 2 + (indD M (M 11 k) 3 + 0))) := by
        show (refN (M 11 k) 4 0 (dropD M k) 0).1 = _
        rw [this]
        exact Int.zero_add _
      rw [e9]
    · -- cells of the new memory
      have n66 : ∀ e : Nat, e < 4 → M2 66 e = if M 66 e = 1 ∧ M 70 e = M 72 k then 6 else M 66 e := fun e he => by
        rw [q2]; unfold refuseM markM
        rw [mm 72 (by decide)]
        have ewb : wb (takeOutM M1 k) (M 72 k) e = if M 66 e = 1 ∧ M 70 e = M 72 k then 1 else 0 := by
          unfold wb; rw [hT 66 (by decide), hT 70 (by decide), t66, t70]
        rw [ewb]
        by_cases h : M 66 e = 1 ∧ M 70 e = M 72 k
        · rw [if_pos h, if_pos ⟨rfl, by omega, by omega, rfl⟩, if_pos h]
        · rw [if_neg h, if_neg (fun h9 => by have := h9.2.2.2; omega), if_neg h, hT 66 (by decide), t66]
      have n7 : ∀ e : Nat, e < 4 → M2 (19 + 9 * e) 7 = if M 66 e = 1 ∧ M 70 e = M 72 k then 6 else M (19 + 9 * e) 7 := fun e he => by
        have e1 : M2 (19 + 9 * e) 7 = M1 (19 + 9 * e) 7 := by
          rw [q2]; unfold refuseM markM
          rw [if_neg (by omega)]
          exact tk_o (by omega) (by omega)
        rw [e1, p2]
        have hs := refN_s (p := M 11 k) 4 0 (dropD M k) 0 e (by omega) (by omega)
        rw [dro _ 7 (by omega) (by omega), dro _ 11 (by omega) (by omega)] at hs
        by_cases h : M 66 e = 1 ∧ M 70 e = M 72 k
        · rw [if_pos h]; exact hs.1 ((who_eq hB hk he).mpr h)
        · rw [if_neg h]; exact hs.2 (fun h9 => h ((who_eq hB hk he).mp h9))
      have zo : ∀ (c : Nat) (i : Int), ¬ c = 66 → (∀ m : Nat, m < 4 → ¬ (c = 19 + 9 * m ∧ i = 7)) → M2 c i = hyb (dropD M k) (takeOutM M k) c i := fun c i h1 h2 => by
        have e1 : M2 c i = takeOutM M1 k c i := by
          rw [q2]; unfold refuseM markM; rw [if_neg (fun h9 => h1 h9.1)]
        by_cases hc : c ≤ 54
        · rw [hyb_d hc, e1]
          have : takeOutM M1 k c i = M1 c i := tk_o (by omega) (by omega)
          rw [this]; exact m1o c i h2
        · rw [hyb_m (by omega), e1, hT c (by omega)]
      have zE : ∀ e : Nat, e < 4 → hyb (dropD M k) (takeOutM M k) 66 e = M 66 e ∧ hyb (dropD M k) (takeOutM M k) (19 + 9 * e) 7 = M (19 + 9 * e) 7 := fun e he => ⟨by rw [hyb_m (by decide), t66], by rw [hyb_d (by omega)]; exact dro _ _ (by omega) (by omega)⟩
      generalize hyb (dropD M k) (takeOutM M k) = Z at hZ hRC zo zE
      obtain ⟨⟨b1, b2, b3, b4⟩, ⟨c1, c2, c3, c4, c5, c6⟩, ⟨k1, k2, k3⟩, r1, x1, v1, g1⟩ := hZ
      have zc : ∀ c : Nat, ¬ c = 66 → (∀ m : Nat, m < 4 → ¬ c = 19 + 9 * m) → M2 c = Z c := fun c h1 h2 => funext fun i => zo c i h1 (fun m hm h9 => h2 m hm h9.1)
      have hno : ∀ c : Nat, (c ≤ 18 ∨ 55 ≤ c) → ∀ m : Nat, m < 4 → ¬ c = 19 + 9 * m := fun c hc m hm => by omega
      have z9 := zc 9 (by decide) (hno 9 (by decide))
      have z10 := zc 10 (by decide) (hno 10 (by decide))
      have z55 := zc 55 (by decide) (hno 55 (by decide))
      have z71 := zc 71 (by decide) (hno 71 (by decide))
      have hv := vpD_eq (M := Z) (W := M2) (zc 60 (by decide) (hno 60 (by decide)))
      have hmo := fun (e' : Nat) (he' : e' < 4) => moD_g (M2 := M2) (hRC e' he') (by rw [z9]; exact (hRC e' he').2.2.2.1.1) (by rw [z9]; exact (hRC e' he').2.2.2.1.2.1) (by rw [z9]; exact c2) (fun c hc => zc c (by omega) (fun m hm => by omega)) (fun i _ => by rw [z55]) (fun p _ _ hk => by rw [kbD_eq z10]; exact hk)
      have hm0 := hmo 0 (by decide)
      refine ⟨⟨hm0.2.2.2.1.1, hm0.2.2.2.1.2.1, hm0.2.2.2.1.2.2.1, by rw [z55]; exact b4⟩, ⟨by rw [z9, z55]; exact c1, by rw [z9]; exact c2, RQL_cg (M := Z) ⟨by rw [z9], by rw [z9]⟩ (zc 11 (by decide) (hno 11 (by decide))) (zc 12 (by decide) (hno 12 (by decide))) (zc 60 (by decide) (hno 60 (by decide))) ⟨by rw [z55], by rw [z55]⟩ (zc 72 (by decide) (hno 72 (by decide))) (zc 73 (by decide) (hno 73 (by decide))) c3, fun j h0 h1 => by rw [z9] at h1; rw [zc 12 (by decide) (hno 12 (by decide))]; exact c4 j h0 h1, by rw [z9]; exact c5, by rw [z9]; exact c6⟩, ⟨⟨fun j h0 h1 => by rw [z10]; exact k1.1 j h0 h1, fun k h0 h1 => by rw [z71]; exact k1.2 k h0 h1⟩, by unfold KR; rw [hv.1, hv.2, kbD_eq z10, z71]; exact k2, by unfold KC; rw [kcS_cg z10, cntM_cg z71]; exact k3⟩, fun h => ?_, ?_, fun e' he' => ?_, fun j hj => by rw [zc 74 (by decide) (hno 74 (by decide))]; exact g1 j hj⟩
      · rw [z55] at h
        obtain ⟨u1, u2, u3⟩ := r1 h
        refine ⟨by rw [z9]; exact u1, ⟨fun j h0 h1 => by rw [z10]; exact u2.1 j h0 h1, fun k h0 h1 => by rw [z71]; exact u2.2 k h0 h1⟩, fun e he h9 => ?_⟩
        rw [n66 e he] at h9
        split at h9
        · omega
        · exact u3 e he ((zE e he).1.trans h9)
      · unfold BX
        rw [zc 1 (by decide) (hno 1 (by decide)), zc 3 (by decide) (hno 3 (by decide)), zc 63 (by decide) (hno 63 (by decide)), zc 64 (by decide) (hno 64 (by decide))]
        exact x1
      · have hv1 := v1 e' he'
        by_cases h : M 66 e' = 1 ∧ M 70 e' = M 72 k
        · obtain ⟨a1, a2, a3, a4, a5, a6, a7, a8, a9⟩ := hv1
          have s66 : M2 66 e' = 6 := by rw [n66 e' he', if_pos h]
          have s7 : M2 (19 + 9 * e') 7 = 6 := by rw [n7 e' he', if_pos h]
          have o19 : ∀ i, ¬ i = 7 → M2 (19 + 9 * e') i = Z (19 + 9 * e') i := fun i hi => zo _ i (by omega) (fun m hm => by omega)
          have z1 : Z 66 e' = 1 := (zE e' he').1.trans h.1
          unfold EV
          rw [zc 64 (by decide) (hno 64 (by decide)), zc 63 (by decide) (hno 63 (by decide)), zc 65 (by decide) (hno 65 (by decide)), zc 67 (by decide) (hno 67 (by decide)), s66, s7, o19 6 (by decide), o19 8 (by decide), o19 9 (by decide), zc (27 + 9 * e') (by omega) (fun m hm => by omega)]
          refine ⟨a1, a2, a3, rfl, a5, ?_, fun h9 => absurd h9 (by decide), ?_, fun h9 => absurd h9 (by decide)⟩
          · rw [a6, if_neg (by omega), if_neg (by decide)]
          · exact ⟨fun h9 => by have := a8.mp h9; omega, fun h9 => absurd h9 (by decide)⟩
        · have s66 : ∀ i : Nat, i = e' → M2 66 i = Z 66 i := fun i hi => by rw [hi, n66 e' he', if_neg h, (zE e' he').1]
          have s19 : M2 (19 + 9 * e') = Z (19 + 9 * e') := funext fun i => by
            by_cases hi : i = 7
            · rw [hi, n7 e' he', if_neg h, (zE e' he').2]
            · exact zo _ i (by omega) (fun m hm => by omega)
          refine EV_mv (fun _ => ⟨hRC e' he', hmo e' he'⟩) (zc _ (by omega) (fun m hm => by omega)) (zc _ (by omega) (fun m hm => by omega)) s19 (zc _ (by omega) (fun m hm => by omega)) (fun k _ _ => by rw [zc 63 (by decide) (hno 63 (by decide))]) (fun c u1 u2 => ?_) hv1
          by_cases hc : c = 66
          · rw [hc]; exact s66 e' rfl
          · rw [zc c hc (hno c (by omega))]
  · obtain ⟨p1, p2⟩ := hd.2 hk
    subst p2
    obtain ⟨q1, q2⟩ := hm.2 (by rw [d1]; exact hk)
    subst q2
    exact ⟨by rw [p1, q1], hB⟩
end EB
