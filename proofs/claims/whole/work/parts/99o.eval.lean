theorem RT_cells {M W : Mem} (hc : ∀ c : Nat, (4 ≤ c ∧ c ≤ 8) ∨ (56 ≤ c ∧ c ≤ 62) → W c = M c) (h55 : ∀ i, i = 0 ∨ i = 5 ∨ i = 9 ∨ i = 10 → W 55 i = M 55 i) (h : RT M) : RT W := by
  unfold RT at h ⊢
  rw [hc 4 (by omega), hc 5 (by omega), hc 6 (by omega), hc 7 (by omega), hc 8 (by omega), hc 56 (by omega), hc 57 (by omega), hc 58 (by omega), hc 59 (by omega), hc 60 (by omega), hc 61 (by omega), hc 62 (by omega), h55 0 (by omega), h55 5 (by omega), h55 9 (by omega), h55 10 (by omega)]
  exact h
theorem agM_hyb {W X : Mem} (h : agM W X) : (∀ c : Nat, 56 ≤ c → c ≤ 62 → W c = hyb W X c) ∧ ∀ i, i = 0 ∨ i = 5 ∨ i = 9 ∨ i = 10 → W 55 i = hyb W X 55 i := by
  refine ⟨fun c c1 c2 => ?_, fun i hi => ?_⟩
  · rw [hyb_m (by omega)]
    rcases (show c = 56 ∨ c = 57 ∨ c = 58 ∨ c = 59 ∨ c = 60 ∨ c = 61 ∨ c = 62 by omega) with rfl | rfl | rfl | rfl | rfl | rfl | rfl
    · exact h.2.1.symm
    · exact h.2.2.1.symm
    · exact h.2.2.2.1.symm
    · exact h.2.2.2.2.1.symm
    · exact h.2.2.2.2.2.1.symm
    · exact h.2.2.2.2.2.2.1.symm
    · exact h.2.2.2.2.2.2.2.symm
  · rw [hyb_m (by decide)]
    rcases hi with rfl | rfl | rfl | rfl
    · exact h.1.1.symm
    · exact h.1.2.1.symm
    · exact h.1.2.2.1.symm
    · exact h.1.2.2.2.symm
section EA
variable {M M1 M2 W X W' X' : Mem} {n : Int} {e : Nat} {r r' : Option PV}
/-- what both need, out of the common invariant -/
theorem both_pre (hT : RT (hyb W X) ∧ TI (hyb W X) ∧ CI (hyb W X)) (hL : BL n (hyb W X)) (hK : KR (hyb W X)) (hag : agM W X) (hn : n ≤ 300) (he : e < 4) : RCx W e ∧ KRA W X ∧ TI X ∧ CI X := by
  obtain ⟨a1, a2⟩ := agM_hyb hag
  obtain ⟨b1, b2, b3⟩ := hT
  obtain ⟨c1, c2, ⟨d1, d2, d3, d4⟩, c4, c5, c6⟩ := hL
  have agZ : agM (hyb W X) W := ⟨⟨a2 0 (by omega), a2 5 (by omega), a2 9 (by omega), a2 10 (by omega)⟩, a1 56 (by decide) (by decide), a1 57 (by decide) (by decide), a1 58 (by decide) (by decide), a1 59 (by decide) (by decide), a1 60 (by decide) (by decide), a1 61 (by decide) (by decide), a1 62 (by decide) (by decide)⟩
  have hI := agM_TI agZ b2
  have hC := agM_CI agZ b3
  have c5' : W 9 3 ≤ W 9 4 := c5
  have c6' : W 9 4 ≤ n := c6
  have d3' : W 9 3 ≤ 300 ∧ 0 ≤ W 9 3 := d3
  refine ⟨⟨RT_cells (fun c hc => ?_) a2 b1, hI, hC, ⟨⟨d3'.2, d3'.1⟩, ⟨by omega, by omega⟩, c2⟩, he⟩, ⟨hag, ?_⟩, agM_TI hag hI, agM_CI hag hC⟩
  · rcases hc with hc | hc
    · exact (hyb_d (by omega)).symm
    · exact a1 c hc.1 hc.2
  · have hv := vpD_eq (M := hyb W X) (W := W) (a1 60 (by decide) (by decide))
    rw [hv.1, hv.2]
    exact hK
theorem BIx_L (hB : BIx n e (hyb W X)) (he : e < 4) : okL X ∧ okT X e := by
  obtain ⟨-, -, -, -, x1, v1, -, t1, t2, t3, -⟩ := hB
  refine ⟨fun e' h0 h5 => ?_, fun k h0 h1 => (t3 k h0 h1).2⟩
  by_cases h4 : e' = 4
  · rw [h4]; exact x1.2.1
  · obtain ⟨m, rfl⟩ := Int.eq_ofNat_of_zero_le h0
    by_cases hm : m = e
    · rw [hm]; exact t1
    · exact (v1 m (by omega) hm).1
theorem BIx_MH (hB : BIx n e (hyb W X)) (hag : agM W X) (hn : n ≤ 300) (he : e < 4) : MH e X := by
  obtain ⟨l1, l2⟩ := BIx_L hB he
  obtain ⟨p1, p2, p3, p4⟩ := both_pre ⟨hB.1.1, hB.1.2.1, hB.1.2.2.1⟩ hB.2.1 hB.2.2.1.2.1 hag hn he
  obtain ⟨-, ⟨c1, c2, ⟨d1, d2, d3, d4⟩, c4, c5, c6⟩, -, -, -, -, g1, -⟩ := hB
  have d1' : X 55 21 = W 9 3 := d1
  have d2' : X 55 24 = W 9 4 := d2
  have c5' : W 9 3 ≤ W 9 4 := c5
  have c6' : W 9 4 ≤ n := c6
  have d3' : W 9 3 ≤ 300 ∧ 0 ≤ W 9 3 := d3
  exact ⟨l1, l2, p3, p4, g1, by omega, by omega, by omega, by omega⟩
theorem TX_of (hL : okL X) (hX : okT X e) (he : e < 4) : ∀ x, dfF (lexF X e) = some x → TXo (lexF X e) := fun x h => text_V hL hX (by omega) (dfF_gd h).1
/-- the desk begins an evaluation, then the model -/
theorem be_go (hB : BIx n e (hyb W X)) (hag : agM W X) (hn : n ≤ 298) (he : e < 4) (hq : beQ e W (dfF (lexF X e)) r W') (hg : goQ e X X') : r = some (vi (X' 66 e)) ∧ BI (n + 1) (hyb W' X') := by
  obtain ⟨p1, p2, p3, p4⟩ := both_pre ⟨hB.1.1, hB.1.2.1, hB.1.2.2.1⟩ hB.2.1 hB.2.2.1.2.1 hag (by omega) he
  have hMH := BIx_MH hB hag (by omega) he
  have hF := TX_of hMH.1 hMH.2.1 he
  have hl : W 9 3 < 300 ∧ W 9 4 < 300 := by
    obtain ⟨-, ⟨c1, c2, ⟨d1, d2, d3, d4⟩, c4, c5, c6⟩, -⟩ := hB
    have c5' : W 9 3 ≤ W 9 4 := c5
    have c6' : W 9 4 ≤ n := c6
    omega
  obtain ⟨s1, s2, s3, s4⟩ := beg_sum p1 p2 hF hl hq
  have hgs := go_sum hMH hg
  obtain ⟨o1, o2, o3⟩ := go_both hB hag hn he s2 s3 s4 hF hgs
  exact ⟨by rw [s1, o3], o1⟩
theorem hyb_self : hyb M M = M := by
  funext c; unfold hyb; split <;> rfl
theorem hyb_of (h : ∀ c : Nat, 55 ≤ c → W c = X c) : hyb X W = X := by
  funext c; unfold hyb; split
  · rfl
  · exact h c (by omega)
theorem BI_x (hB : BI n M) (h9 : M 55 9 = 1) (he : e < 4) (h0 : ¬ M 66 e = 0) : BIx n e M := by
  obtain ⟨b1, b2, b3, b4, b5, b6, b7⟩ := hB
  obtain ⟨a1, a2, a3, a4, a5, a6, a7, a8, a9⟩ := b6 e he
  exact ⟨b1, b2, b3, h9, b5, fun e' he' _ => b6 e' he', b7, a1, a2, a3, fun h => h0 (a8.mp h)⟩
theorem goS_d (h : goS e X X') : ∀ c : Nat, c ≤ 54 → X' c = X c := fun c hc => funext fun i => h.1 c i (by unfold gcell; omega)
theorem beQ_m (hq : beQ e W (dfF (lexF X e)) r W') (hfr : frD e W W') : ∀ c : Nat, 55 ≤ c → e < 4 → W' c = W c := fun c hc he => funext fun i => hfr c i (by unfold dcell; omega)
theorem c_again (hB : BI n M) (hn : n ≤ 298) (he : e < 4) (hd : (M 55 9 = 0 ∨ M (19 + 9 * e) 7 = 0 → r = some (vi (-1)) ∧ M1 = M) ∧ (¬ (M 55 9 = 0 ∨ M (19 + 9 * e) 7 = 0) → beQ e M (dfF (lexL (txM M e) (M 64 e) 41 0 [])) r M1)) (hm : ((0 ≤ (e : Int) ∧ (e : Int) < 4) ∧ ¬ M1 65 e = 0 ∧ M1 55 9 = 1 → r' = some (vi (M2 66 e)) ∧ goQ e M1 M2) ∧ (¬ ((0 ≤ (e : Int) ∧ (e : Int) < 4) ∧ ¬ M1 65 e = 0 ∧ M1 55 9 = 1) → r' = some (vi (-1)) ∧ M2 = M1)) : r = r' ∧ BI (n + 1) M2 := by
  have h9 := hB.1.2.1.2.2.1
  obtain ⟨a1, a2, a3, a4, a5, a6, a7, a8, a9⟩ := hB.2.2.2.2.2.1 e he
  by_cases hok : M 55 9 = 0 ∨ M (19 + 9 * e) 7 = 0
  · obtain ⟨p1, p2⟩ := hd.1 hok
    subst p2
    obtain ⟨q1, q2⟩ := hm.2 (fun h => by
      rcases hok with hok | hok
      · have := h.2.2; omega
      · exact h.2.1 (a8.mpr (a4.symm.trans hok)))
    subst q2
    exact ⟨by rw [p1, q1], BI_up hB (by omega)⟩
  · have hq : beQ e M (dfF (lexF M e)) r M1 := hd.2 hok
    have h91 : M 55 9 = 1 := by omega
    have hx := BI_x hB h91 he (by rw [← a4]; exact fun h => hok (Or.inr h))
    have hxx : BIx n e (hyb M M) := by rw [hyb_self]; exact hx
    have hid : agM M M := ⟨⟨rfl, rfl, rfl, rfl⟩, rfl, rfl, rfl, rfl, rfl, rfl, rfl⟩
    obtain ⟨p1, p2, p3, p4⟩ := both_pre ⟨hxx.1.1, hxx.1.2.1, hxx.1.2.2.1⟩ hxx.2.1 hxx.2.2.1.2.1 hid (by omega) he
    have hMH := BIx_MH hxx hid (by omega) he
    have hl : M 9 3 < 300 ∧ M 9 4 < 300 := by
      obtain ⟨-, ⟨c1, c2, ⟨d1, d2, d3, d4⟩, c4, c5, c6⟩, -⟩ := hB
      omega
    have hfr := (beg_sum p1 p2 (TX_of hMH.1 hMH.2.1 he) hl hq).2.1
    have hmm : ∀ c : Nat, 55 ≤ c → M1 c = M c := fun c hc => funext fun i => hfr c i (by unfold dcell; omega)
    obtain ⟨q1, q2⟩ := hm.1 ⟨by omega, by rw [hmm 65 (by decide)]; exact hx.2.2.2.2.2.2.2.2.2.2, by rw [hmm 55 (by decide)]; exact h91⟩
    have hy : hyb M M1 = M := hyb_of hmm
    have hlex : lexF M1 e = lexF M e := lexF_cg a1.2 (by rw [hmm 64 (by decide)]) (fun k _ _ => by rw [hmm 63 (by decide)])
    have hag1 : agM M M1 := ⟨⟨by rw [hmm 55 (by decide)], by rw [hmm 55 (by decide)], by rw [hmm 55 (by decide)], by rw [hmm 55 (by decide)]⟩, hmm 56 (by decide), hmm 57 (by decide), hmm 58 (by decide), hmm 59 (by decide), hmm 60 (by decide), hmm 61 (by decide), hmm 62 (by decide)⟩
    have hx1 : BIx n e (hyb M M1) := by rw [hy]; exact hx
    obtain ⟨o1, o2⟩ := be_go hx1 hag1 hn he (by rw [hlex]; exact hq) q2
    have hgs := go_sum (BIx_MH hx1 hag1 (by omega) he) q2
    have h2 : hyb M1 M2 = M2 := by
      funext c; unfold hyb; split
      · rename_i hc; exact (goS_d hgs c hc).symm
      · rfl
    rw [h2] at o2
    exact ⟨by rw [o1, q1], o2⟩
end EA
