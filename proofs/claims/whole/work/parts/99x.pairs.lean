section PX
variable {M M1 : Mem} {n : Int} {e : Nat} {r : Option PV}
theorem pre_eval (hB : BI n M) (hn : n ≤ 290) (he : e < 4) (hd : (M 55 9 = 0 → r = some (vi (-1)) ∧ M1 = M) ∧ (M 55 9 = 1 → beQ e (evM M e) (dfF (lexL (fun k => if k < M 1 4 then M 3 k else 0) (M 1 4) 41 0 [])) r M1)) : hiM M M1 ∧ (M1 55 9 = 1 → goM e (evT M1 e)) := by
  have h9 := hB.1.2.1.2.2.1
  by_cases hok : M 55 9 = 0
  · have p2 := (hd.1 hok).2
    subst p2
    exact ⟨hi_rf, fun h => by omega⟩
  · have h91 : M 55 9 = 1 := by omega
    have hq := hd.2 h91
    have hZ := eval_Z hB (by omega) he h91
    obtain ⟨x1, x2, x3⟩ := hB.2.2.2.2.1
    have hag : agM (evM M e) (evT M e) := by
      have hh : ∀ (c : Nat) (i : Int), 55 ≤ c → c ≤ 62 → evT M e c i = evM M e c i := fun c i h1 h2 => by
        rw [evT_o (by omega) (by omega) (by omega), evM_o (by omega) (by omega) (by omega)]
      exact ⟨⟨hh 55 0 (by decide) (by decide), hh 55 5 (by decide) (by decide), hh 55 9 (by decide) (by decide), hh 55 10 (by decide) (by decide)⟩, funext fun i => hh 56 i (by decide) (by decide), funext fun i => hh 57 i (by decide) (by decide), funext fun i => hh 58 i (by decide) (by decide), funext fun i => hh 59 i (by decide) (by decide), funext fun i => hh 60 i (by decide) (by decide), funext fun i => hh 61 i (by decide) (by decide), funext fun i => hh 62 i (by decide) (by decide)⟩
    have hlex : lexF (evT M e) e = lexL (fun k => if k < M 1 4 then M 3 k else 0) (M 1 4) 41 0 [] := by
      have e64 : evT M e 64 e = M 1 4 := by unfold evT; rw [mset_ne (by decide), mset_ni (by omega), mset_eq rfl, x1]
      unfold lexF
      rw [e64]
      refine lexL_cg (fun j hj => ?_) (by omega) 41 0 [] (Int.le_refl _)
      unfold txM
      rw [e64]
      by_cases h : j < M 1 4
      · rw [if_pos h, if_pos h, evT_63, if_pos (by omega), show 160 + (40 * (e : Int) + j - 40 * e) = 160 + j by omega]
        exact ((x3 j hj (by omega)).1).symm
      · rw [if_neg h, if_neg h]
    rw [← hlex] at hq
    obtain ⟨p1, p2, p3, p4⟩ := both_pre ⟨hZ.1.1, hZ.1.2.1, hZ.1.2.2.1⟩ hZ.2.1 hZ.2.2.1.2.1 hag (by omega) he
    have hMH := BIx_MH hZ hag (by omega) he
    have hl : evM M e 9 3 < 300 ∧ evM M e 9 4 < 300 := by
      have u1 : evM M e 9 3 = M 9 3 := evM_o (by omega) (by omega) (by omega)
      have u2 : evM M e 9 4 = M 9 4 := evM_o (by omega) (by omega) (by omega)
      obtain ⟨-, ⟨c1, c2, ⟨d1, d2, d3, d4⟩, c4, c5, c6⟩, -⟩ := hB
      omega
    have hfr := (beg_sum p1 p2 (TX_of hMH.1 hMH.2.1 he) hl hq).2.1
    have hmm : ∀ c : Nat, 55 ≤ c → M1 c = M c := fun c hc => funext fun i => by
      rw [hfr c i (by unfold dcell; omega)]; exact evM_o (by omega) (by omega) (by omega)
    have hTT : ∀ c : Nat, 55 ≤ c → evT M1 e c = evT M e c := fun c hc => by
      funext i
      unfold evT mset cpT
      rw [hmm 64 (by decide), hmm 63 (by decide), hmm c hc]
    have hy : hyb (evM M e) (evT M1 e) = hyb (evM M e) (evT M e) := by
      funext c; unfold hyb; split
      · rfl
      · exact hTT c (by omega)
    have hag1 : agM (evM M e) (evT M1 e) := agM_tr hag ⟨⟨by rw [hTT 55 (by decide)], by rw [hTT 55 (by decide)], by rw [hTT 55 (by decide)], by rw [hTT 55 (by decide)]⟩, hTT 56 (by decide), hTT 57 (by decide), hTT 58 (by decide), hTT 59 (by decide), hTT 60 (by decide), hTT 61 (by decide), hTT 62 (by decide)⟩
    have hx1 : BIx n e (hyb (evM M e) (evT M1 e)) := by rw [hy]; exact hZ
    exact ⟨hmm, fun _ => go_ok (BIx_MH hx1 hag1 (by omega) he)⟩
theorem pre_again (hB : BI n M) (hn : n ≤ 290) (he : e < 4) (hd : (M 55 9 = 0 ∨ M (19 + 9 * e) 7 = 0 → r = some (vi (-1)) ∧ M1 = M) ∧ (¬ (M 55 9 = 0 ∨ M (19 + 9 * e) 7 = 0) → beQ e M (dfF (lexL (txM M e) (M 64 e) 41 0 [])) r M1)) : hiM M M1 ∧ (¬ M1 65 e = 0 → M1 55 9 = 1 → goM e M1) := by
  have h9 := hB.1.2.1.2.2.1
  obtain ⟨a1, a2, a3, a4, a5, a6, a7, a8, a9⟩ := hB.2.2.2.2.2.1 e he
  by_cases hok : M 55 9 = 0 ∨ M (19 + 9 * e) 7 = 0
  · have p2 := (hd.1 hok).2
    subst p2
    refine ⟨hi_rf, fun h1 h2 => ?_⟩
    rcases hok with hok | hok
    · omega
    · exact absurd (a8.mpr (a4.symm.trans hok)) h1
  · have hq : beQ e M (dfF (lexF M e)) r M1 := hd.2 hok
    have h91 : M 55 9 = 1 := by omega
    have hx := BI_x hB h91 he (by rw [← a4]; exact fun h => hok (Or.inr h))
    have hxx : BIx n e (hyb M M) := by rw [hyb_self]; exact hx
    have hid : agM M M := ⟨⟨rfl, rfl, rfl, rfl⟩, rfl, rfl, rfl, rfl, rfl, rfl, rfl⟩
    obtain ⟨p1, p2, p3, p4⟩ := both_pre ⟨hxx.1.1, hxx.1.2.1, hxx.1.2.2.1⟩ hxx.2.1 hxx.2.2.1.2.1 hid (by omega) he
    have hMH := BIx_MH hxx hid (by omega) he
    have hl : M 9 3 < 300 ∧ M 9 4 < 300 := by
      obtain ⟨-, ⟨c1, c2, ⟨d1, d2, d3, d4⟩, c4, c5, c6⟩, -⟩ := hB
      omega
    have hfr := (beg_sum p1 p2 (TX_of hMH.1 hMH.2.1 he) hl hq).2.1
    have hmm : ∀ c : Nat, 55 ≤ c → M1 c = M c := fun c hc => funext fun i => hfr c i (by unfold dcell; omega)
    have hy : hyb M M1 = M := hyb_of hmm
    have hlex : lexF M1 e = lexF M e := lexF_cg a1.2 (by rw [hmm 64 (by decide)]) (fun k _ _ => by rw [hmm 63 (by decide)])
    have hag1 : agM M M1 := ⟨⟨by rw [hmm 55 (by decide)], by rw [hmm 55 (by decide)], by rw [hmm 55 (by decide)], by rw [hmm 55 (by decide)]⟩, hmm 56 (by decide), hmm 57 (by decide), hmm 58 (by decide), hmm 59 (by decide), hmm 60 (by decide), hmm 61 (by decide), hmm 62 (by decide)⟩
    have hx1 : BIx n e (hyb M M1) := by rw [hy]; exact hx
    exact ⟨hmm, fun _ _ => go_ok (BIx_MH hx1 hag1 (by omega) he)⟩
theorem pre_answer {k : Int} (hB : BI n M) (hn : n ≤ 290) (hd : ((0 ≤ k ∧ k < M 9 3) → r = some (vi (ansD M k).1) ∧ M1 = (ansD M k).2) ∧ (¬ (0 ≤ k ∧ k < M 9 3) → r = some (vi (-1)) ∧ M1 = M)) : hiM M M1 ∧ ((0 ≤ k ∧ k < M1 55 21) → amH (amS M1 k) (MI n (am0 M1 k)) ∧ MI n (am0 M1 k) 0 (am0 M1 k)) := by
  have d1 := hB.2.1.2.2.1.1
  by_cases hk : 0 ≤ k ∧ k < M 9 3
  · obtain ⟨p1, p2⟩ := hd.1 hk
    obtain ⟨a1, a2, a3⟩ := ans_preD hB hn hk
    have hL := learn_Z hB (by omega) hk
    have hD4 := ansN_V a1 4 0 (learnD (dropD M k) (M 11 k)) 0 rfl a2
    have w0 : ∀ c : Nat, 55 ≤ c → learnD (dropD M k) (M 11 k) c = M c := fun c hc => by
      rw [learn_fr (by omega)]
      funext i; unfold dropD shD mset; rw [if_neg (by omega), if_neg (by omega)]
    have mm : ∀ c : Nat, 55 ≤ c → M1 c = M c := fun c hc => by
      rw [p2]; exact (hD4.1 c (by omega)).trans (w0 c hc)
    have hX := am0_cg (k := k) mm
    have hy : hyb (learnD (dropD M k) (M 11 k)) (am0 M1 k) = hyb (learnD (dropD M k) (M 11 k)) (am0 M k) := by
      funext c; unfold hyb; split
      · rfl
      · exact hX c (by omega)
    have hB0 : BI n (hyb (learnD (dropD M k) (M 11 k)) (am0 M1 k)) := by rw [hy]; exact hL
    have hag : agM (learnD (dropD M k) (M 11 k)) (am0 M1 k) := agM_tr a3 ⟨⟨by rw [hX 55 (by decide)], by rw [hX 55 (by decide)], by rw [hX 55 (by decide)], by rw [hX 55 (by decide)]⟩, hX 56 (by decide), hX 57 (by decide), hX 58 (by decide), hX 59 (by decide), hX 60 (by decide), hX 61 (by decide), hX 62 (by decide)⟩
    obtain ⟨-, -, hI, hC⟩ := both_pre (e := 0) ⟨hB0.1.1, hB0.1.2.1, hB0.1.2.2.1⟩ hB0.2.1 hB0.2.2.1.2.1 hag (by omega) (by decide)
    have h64 : ∀ e : Nat, e < 4 → 0 ≤ am0 M1 k 64 e ∧ am0 M1 k 64 e ≤ 40 := fun e he => (hB0.2.2.2.2.2.1 e he).1
    have h644 : 0 ≤ am0 M1 k 64 4 ∧ am0 M1 k 64 4 ≤ 40 := hB0.2.2.2.2.1.2.1
    have hL0 : okL (am0 M1 k) := fun e h0 h5 => by
      obtain ⟨j, rfl⟩ := Int.eq_ofNat_of_zero_le h0
      by_cases hj : j < 4
      · exact h64 j hj
      · have : j = 4 := by omega
        subst this
        exact h644
    have hT0 : ∀ e : Int, 0 ≤ e → e < 4 → okT (am0 M1 k) e := fun e h0 h4 => by
      obtain ⟨j, rfl⟩ := Int.eq_ofNat_of_zero_le h0
      exact fun i h1 h2 => ((hB0.2.2.2.2.2.1 j (by omega)).2.2.1 i h1 h2).2
    have hw := BI_w hB0 hn
    have g21 : 0 ≤ am0 M1 k 55 21 ∧ am0 M1 k 55 21 ≤ n := by
      have e1 : am0 M1 k 55 21 = hyb (learnD (dropD M k) (M 11 k)) (am0 M1 k) 9 3 := hB0.2.1.2.2.1.1
      have e2 := hB0.2.1.2.2.2.2.1
      have e3 := hB0.2.1.2.2.2.2.2
      have e4 := hw.1.1
      omega
    have g24 : 0 ≤ am0 M1 k 55 24 ∧ am0 M1 k 55 24 ≤ n := by
      have e1 : am0 M1 k 55 24 = hyb (learnD (dropD M k) (M 11 k)) (am0 M1 k) 9 4 := hB0.2.1.2.2.1.2.1
      have e3 := hB0.2.1.2.2.2.2.2
      have e4 := hw.2.1.1
      omega
    exact ⟨mm, fun _ => ⟨MI_go hL0 hT0 hI hC hn, fun _ _ => rfl, fun _ _ => rfl, hB0.2.2.2.2.2.2, by omega, by omega⟩⟩
  · have p2 := (hd.2 hk).2
    subst p2
    exact ⟨hi_rf, fun h => absurd (by rw [← d1]; exact h) hk⟩
end PX
theorem TX_f {f : Int → Int} {len : Int} (hf : ∀ j, 0 ≤ j → 0 ≤ f j ∧ f j ≤ 126) (hlen : len ≤ 40) : ∀ x, dfF (lexL f len 41 0 []) = some x → TXo (lexL f len 41 0 []) := fun x h =>
  ⟨lexL_ok hf hlen (Int.le_refl _) (fun x hx => absurd hx (by simp)) (dfF_gd h).1, lexL_W hf hlen (Int.le_refl _) (fun x hx => absurd hx (by simp)) (dfF_gd h).1⟩
section PY
variable {X : WX} {M : Mem} {n : Int}
theorem KRA_0 (hB : BI n M) : KRA M M := ⟨⟨⟨rfl, rfl, rfl, rfl⟩, rfl, rfl, rfl, rfl, rfl, rfl, rfl⟩, hB.2.2.1.2.1⟩
theorem pr_answer (hB : BI n M) (hn : n ≤ 290) (k : Int) : Pr X n y_De_answer b_De_answer 5 y_Mo_answer b_Mo_answer 5 (some .int) [vi k] vi M :=
  have hw := BI_w hB hn
  ⟨_, g_De_answer (by decide) k (DI n (learnD (dropD M k) (M 11 k))) M hw.1 hw.2.2.1 (fun hk => (ans_preD hB hn hk).1) (fun hk => (ans_preD hB hn hk).2.1), fun _ M1 hd =>
    have hp := pre_answer hB hn hd
    have hi := hp.1
    ⟨_, g_Mo_answer (by decide) k (MI n (am0 M1 k)) M1 (by rw [congrFun (hi 55 (by decide)) 21]; exact hw.2.2.2.1) (fun j h0 h1 => by rw [congrFun (hi 72 (by decide)) j]; rw [congrFun (hi 55 (by decide)) 21] at h1; exact hw.2.2.2.2.2 j h0 h1) (fun hk => (hp.2 hk).1) (fun hk => (hp.2 hk).2), fun _ _ hm => ⟨(c_answer hB hn hd hm).1, (c_answer hB hn hd hm).2, sh_of hm⟩⟩⟩
theorem pr_again (hB : BI n M) (hn : n ≤ 290) (z : Int) : Pr X n y_De_again b_De_again 2 y_Mo_again b_Mo_again 2 (some .int) [vi z] vi M := by
  have h9 := hB.1.2.1.2.2.1
  by_cases hz : 0 ≤ z ∧ z < 4
  · obtain ⟨e, rfl⟩ := Int.eq_ofNat_of_zero_le hz.1
    have he : e < 4 := by omega
    obtain ⟨a1, a2, a3, a4, a5, a6, a7, a8, a9⟩ := hB.2.2.2.2.2.1 e he
    have hf : ∀ k, 0 ≤ k → k < M 64 e → txM M e k = M 63 (40 * e + k) := fun k _ h => if_pos h
    have hz0 : ∀ k, M 64 e ≤ k → txM M e k = 0 := fun k h => if_neg (by omega)
    have hch : ∀ k, 0 ≤ k → k < M 64 e → M (27 + 9 * e) k = txM M e k ∧ 32 ≤ txM M e k ∧ txM M e k ≤ 126 := fun k h0 h1 => by rw [hf k h0 h1]; exact a3 k h0 h1
    have hff : ∀ j, 0 ≤ j → 0 ≤ txM M e j ∧ txM M e j ≤ 126 := fun j h0 => by
      by_cases h : j < M 64 e
      · have := hch j h0 h; omega
      · rw [hz0 j (by omega)]; decide
    have hl : M 9 3 < 300 ∧ M 9 4 < 300 := by
      obtain ⟨-, ⟨c1, c2, ⟨d1, d2, d3, d4⟩, c4, c5, c6⟩, -⟩ := hB
      omega
    have hbe := beg_H (BI_RC hB (by omega) he) (KRA_0 hB) (TX_f hff a1.2) hl
    refine ⟨_, g_De_again (by decide) e (JA e) (txM M e) (M 64 e) M hB.1.1 hB.1.2.1 he a2 a1 hch hz0 hbe, fun r M1 hd => ?_⟩
    obtain ⟨hi, hg⟩ := pre_again hB hn he hd
    refine ⟨_, g_Mo_again (by decide) e M1 (by rw [congrFun (hi 55 (by decide)) 9]; exact h9) (fun h => hg h.2.1 h.2.2), fun r' M2 hm => ?_⟩
    have h := c_again hB (by omega) he hd hm
    exact ⟨h.1, BI_up h.2 (by omega), sh_of hm⟩
  · refine ⟨_, gx_De_again (by decide) z M hz, fun r M1 hd => ?_⟩
    obtain ⟨p1, p2⟩ := hd
    subst p2
    refine ⟨_, g_Mo_again (by decide) z M1 h9 (fun h => absurd h.1 hz), fun r' M2 hm => ?_⟩
    obtain ⟨q1, q2⟩ := hm.2 (fun h => hz h.1)
    subst q2
    exact ⟨p1.trans q1.symm, BI_up hB (by omega), _, q1⟩
theorem pr_eval (hB : BI n M) (hn : n ≤ 290) (z : Int) : Pr X n y_De_eval b_De_eval 2 y_Mo_eval b_Mo_eval 3 (some .int) [vi z] vi M := by
  have h9 := hB.1.2.1.2.2.1
  obtain ⟨x1, x2, x3⟩ := hB.2.2.2.2.1
  by_cases hz : 0 ≤ z ∧ z < 4
  · obtain ⟨e, rfl⟩ := Int.eq_ofNat_of_zero_le hz.1
    have he : e < 4 := by omega
    have hch : ∀ k, 0 ≤ k → k < M 1 4 → M 3 k = (if k < M 1 4 then M 3 k else 0) ∧ 32 ≤ (if k < M 1 4 then M 3 k else 0) ∧ (if k < M 1 4 then M 3 k else 0) ≤ 126 := fun k h0 h1 => by
      have := x3 k h0 (by omega)
      rw [if_pos h1]; omega
    have hff : ∀ j, 0 ≤ j → 0 ≤ (if j < M 1 4 then M 3 j else 0) ∧ (if j < M 1 4 then M 3 j else 0) ≤ 126 := fun j h0 => by
      by_cases h : j < M 1 4
      · have := hch j h0 h; omega
      · rw [if_neg h]; decide
    have u : ∀ (c : Nat) (i : Int), c = 9 ∨ c = 10 → evM M e c i = M c i := fun c i hc => evM_o (by omega) (by omega) (by omega)
    have hl : evM M e 9 3 < 300 ∧ evM M e 9 4 < 300 := by
      have u1 := u 9 3 (Or.inl rfl)
      have u2 := u 9 4 (Or.inl rfl)
      obtain ⟨-, ⟨c1, c2, ⟨d1, d2, d3, d4⟩, c4, c5, c6⟩, -⟩ := hB
      omega
    have hw := BI_w hB hn
    have hRC : RCx (evM M e) e := RCx_mv (evM_T he) (by rw [u 9 3 (Or.inl rfl)]; exact hw.1) (by rw [u 9 4 (Or.inl rfl)]; exact hw.2.1) (u 9 5 (Or.inl rfl)) (BI_RC hB (by omega) he)
    have hKR : KRA (evM M e) M := KRA_mv (funext fun i => u 10 i (Or.inr rfl)) (evM_T he) (KRA_0 hB)
    have hbe := beg_H hRC hKR (TX_f (f := fun k => if k < M 1 4 then M 3 k else 0) (len := M 1 4) hff (by omega)) hl
    refine ⟨_, g_De_eval (by decide) e (JA e) (fun k => if k < M 1 4 then M 3 k else 0) (M 1 4) M hB.1.1 hB.1.2.1 he rfl (by omega) hch (fun k h => if_neg (by omega)) hbe, fun r M1 hd => ?_⟩
    obtain ⟨hi, hg⟩ := pre_eval hB hn he hd
    refine ⟨_, g_Mo_eval (by decide) e M1 (by rw [congrFun (hi 64 (by decide)) 4]; exact x2) (by rw [congrFun (hi 55 (by decide)) 9]; exact h9) (fun h => hg h.2), fun r' M2 hm => ?_⟩
    have h := c_eval hB (by omega) he hd hm
    exact ⟨h.1, BI_up h.2 (by omega), sh_of hm⟩
  · refine ⟨_, gx_De_eval (by decide) z M hz, fun r M1 hd => ?_⟩
    obtain ⟨p1, p2⟩ := hd
    subst p2
    refine ⟨_, g_Mo_eval (by decide) z M1 x2 h9 (fun h => absurd h.1 hz), fun r' M2 hm => ?_⟩
    obtain ⟨q1, q2⟩ := hm.2 (fun h => hz h.1)
    subst q2
    exact ⟨p1.trans q1.symm, BI_up hB (by omega), _, q1⟩
end PY
