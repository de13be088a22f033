section CA
variable {M M1 M2 : Mem} {n : Int} {r r' : Option PV}
theorem moD_id {e : Nat} (hR : RCx M e) (hR2 : 0 ≤ M2 9 5 ∧ M2 9 5 ≤ 1) (h3 : M2 9 3 = M 9 3) (h4 : M2 9 4 = M 9 4) (hc : ∀ c : Nat, ((4 ≤ c ∧ c ≤ 8) ∨ c = 10 ∨ (20 + 9 * e ≤ c ∧ c ≤ 25 + 9 * e) ∨ (56 ≤ c ∧ c ≤ 62)) → M2 c = M c) (h55 : ∀ i, i = 0 ∨ i = 5 ∨ i = 9 ∨ i = 10 → M2 55 i = M 55 i) : moD e M M2 := by
  obtain ⟨r1, r2, r3, ⟨r4, r5, r6⟩, r7⟩ := hR
  have ag : agM M M2 := ⟨⟨h55 0 (by omega), h55 5 (by omega), h55 9 (by omega), h55 10 (by omega)⟩, hc 56 (by omega), hc 57 (by omega), hc 58 (by omega), hc 59 (by omega), hc 60 (by omega), hc 61 (by omega), hc 62 (by omega)⟩
  have hT : RT M2 := by
    unfold RT at r1 ⊢
    rw [hc 4 (by omega), hc 5 (by omega), hc 6 (by omega), hc 7 (by omega), hc 8 (by omega), hc 56 (by omega), hc 57 (by omega), hc 58 (by omega), hc 59 (by omega), hc 60 (by omega), hc 61 (by omega), hc 62 (by omega), h55 0 (by omega), h55 5 (by omega), h55 9 (by omega), h55 10 (by omega)]
    exact r1
  refine ⟨fun c c1 c2 => hc c (by omega), hc 8 (by omega), ag, ⟨hT, agM_TI ag r2, agM_CI ag r3, ⟨by rw [h3]; exact r4, by rw [h4]; exact r5, hR2⟩, r7⟩, fun p _ _ hk => by rw [kbD_eq (hc 10 (by omega))]; exact hk⟩
theorem c_request {k w : Int} (hB : BI n M) (hd : ((0 ≤ k ∧ k < M 9 3) → r = some (vi (reqD M k w)) ∧ M1 = M) ∧ (¬ (0 ≤ k ∧ k < M 9 3) → r = some (vi (-1)) ∧ M1 = M)) (hm : r' = some (vi (reqM M1 k w)) ∧ M2 = M1) : r = r' ∧ BI n M2 := by
  obtain ⟨q1, rfl⟩ := hm
  have he := req_eq (k := k) (w := w) hB.2.1.2.2.1
  by_cases hk : 0 ≤ k ∧ k < M 9 3
  · obtain ⟨p1, p2⟩ := hd.1 hk
    subst p2
    rw [if_pos hk] at he
    exact ⟨by rw [p1, q1, he], hB⟩
  · obtain ⟨p1, p2⟩ := hd.2 hk
    subst p2
    rw [if_neg hk] at he
    exact ⟨by rw [p1, q1, ← he], hB⟩
theorem c_look {z w : Int} (hB : BI n M) (hd : (∀ e : Nat, e < 4 → z = e → r = some (vi (if w = 0 then M (19 + 9 * e) 7 else if w = 1 then M (19 + 9 * e) 8 else if w = 2 then M (19 + 9 * e) 9 else -1)) ∧ M1 = M) ∧ (¬ (0 ≤ z ∧ z < 4) → r = some (vi (-1)) ∧ M1 = M)) (hm : r' = some (vi (lookM M1 z w)) ∧ M2 = M1) : r = r' ∧ BI n M2 := by
  obtain ⟨q1, rfl⟩ := hm
  by_cases hz : 0 ≤ z ∧ z < 4
  · obtain ⟨e, rfl⟩ := Int.eq_ofNat_of_zero_le hz.1
    obtain ⟨p1, p2⟩ := hd.1 e (by omega) rfl
    subst p2
    obtain ⟨v1, v2, v3, v4, v5, v6, v7, v8, v9⟩ := hB.2.2.2.2.2.1 e (by omega)
    refine ⟨?_, hB⟩
    rw [p1, q1]
    unfold lookM
    rw [v4, v5, v6]
    by_cases w0 : w = 0
    · rw [if_pos w0, if_pos (show (0 ≤ (e : Int) ∧ (e : Int) < 4) ∧ 0 ≤ w ∧ w < 3 from ⟨hz, by omega⟩), if_pos w0]
    by_cases w1 : w = 1
    · rw [if_neg w0, if_pos w1, if_pos (show (0 ≤ (e : Int) ∧ (e : Int) < 4) ∧ 0 ≤ w ∧ w < 3 from ⟨hz, by omega⟩), if_neg w0, if_pos w1]
    by_cases w2 : w = 2
    · rw [if_neg w0, if_neg w1, if_pos w2, if_pos (show (0 ≤ (e : Int) ∧ (e : Int) < 4) ∧ 0 ≤ w ∧ w < 3 from ⟨hz, by omega⟩), if_neg w0, if_neg w1]
    · rw [if_neg w0, if_neg w1, if_neg w2, if_neg (fun h => by omega)]
  · obtain ⟨p1, p2⟩ := hd.2 hz
    subst p2
    refine ⟨?_, hB⟩
    rw [p1, q1]
    unfold lookM
    rw [if_neg (fun h => hz h.1)]
theorem c_value {z : Int} (hB : BI n M) (hd : (∀ e : Nat, e < 4 → z = e → r = some (vl (if M (19 + 9 * e) 7 = 2 then M (26 + 9 * e) (M (20 + 9 * e) 6 - 1) else 0)) ∧ M1 = M) ∧ (¬ (0 ≤ z ∧ z < 4) → r = some (vl 0) ∧ M1 = M)) (hm : r' = some (vl (valueM M1 z)) ∧ M2 = M1) : r = r' ∧ BI n M2 := by
  obtain ⟨q1, rfl⟩ := hm
  by_cases hz : 0 ≤ z ∧ z < 4
  · obtain ⟨e, rfl⟩ := Int.eq_ofNat_of_zero_le hz.1
    obtain ⟨p1, p2⟩ := hd.1 e (by omega) rfl
    subst p2
    obtain ⟨v1, v2, v3, v4, v5, v6, v7, v8, v9⟩ := hB.2.2.2.2.2.1 e (by omega)
    refine ⟨?_, hB⟩
    rw [p1, q1]
    unfold valueM
    rw [v4]
    by_cases h2 : M2 66 e = 2
    · rw [if_pos h2, if_pos ⟨hz, h2⟩, (v7 h2).2]
    · rw [if_neg h2, if_neg (fun h => h2 h.2)]
  · obtain ⟨p1, p2⟩ := hd.2 hz
    subst p2
    refine ⟨?_, hB⟩
    rw [p1, q1]
    unfold valueM
    rw [if_neg (fun h => hz h.1)]
theorem c_count {w : Int} (hB : BI n M) (hd : r = some (vi (cntD M w)) ∧ M1 = M) (hm : r' = some (vi (countM M1 w)) ∧ M2 = M1) : r = r' ∧ BI n M2 := by
  obtain ⟨q1, rfl⟩ := hm
  obtain ⟨p1, p2⟩ := hd
  subst p2
  refine ⟨?_, hB⟩
  rw [p1, q1]
  obtain ⟨-, ⟨c1, c2, ⟨d1, d2, d3, d4⟩, c4, c5, c6⟩, ⟨k1, k2, k3⟩, -, ⟨x1, -⟩, -⟩ := hB
  unfold cntD countM
  rw [d1, d2, x1, k3]
  by_cases w0 : w = 0
  · rw [if_pos w0, if_neg (show ¬ w = 3 by omega), if_pos w0]
  by_cases w1 : w = 1
  · rw [if_neg w0, if_pos w1, if_neg (show ¬ w = 3 by omega), if_neg w0, if_pos w1]
  by_cases w2 : w = 2
  · rw [if_neg w0, if_neg w1, if_pos w2, if_neg (show ¬ w = 3 by omega), if_neg w0, if_neg w1, if_pos w2]
  by_cases w3 : w = 3
  · rw [if_neg w0, if_neg w1, if_neg w2, if_pos w3, if_pos w3]
  · rw [if_neg w0, if_neg w1, if_neg w2, if_neg w3, if_neg w3, if_neg w0, if_neg w1, if_neg w2]
theorem c_put {c : Int} (hB : BI n M) (hn : n ≤ 300) (hd : (putDOK M c → r = some (vi 1) ∧ M1 = mset (mset M 3 (M 1 4) c) 1 4 (M 1 4 + 1)) ∧ (¬ putDOK M c → r = some (vi 0) ∧ M1 = M)) (hm : (putOK M1 c → r' = some (vi 1) ∧ M2 = mset (mset M1 63 (160 + M1 64 4) c) 64 4 (M1 64 4 + 1)) ∧ (¬ putOK M1 c → r' = some (vi 0) ∧ M2 = M1)) : r = r' ∧ BI n M2 := by
  obtain ⟨x1, x2, x3⟩ := hB.2.2.2.2.1
  by_cases hok : putDOK M c
  · obtain ⟨p1, p2⟩ := hd.1 hok
    have hok9 := hok
    unfold putDOK at hok9
    have e64 : M1 64 = M 64 := by rw [p2]; funext i; rw [mset_ne (by decide), mset_ne (by decide)]
    obtain ⟨q1, q2⟩ := hm.1 (by unfold putOK; rw [e64]; omega)
    rw [e64] at q2
    refine ⟨by rw [p1, q1], ?_⟩
    subst p2
    have eo : ∀ c, ¬ (c = 1 ∨ c = 3 ∨ c = 63 ∨ c = 64) → M2 c = M c := fun c hc => by
      rw [q2]; funext i; rw [mset_ne (by omega), mset_ne (by omega), mset_ne (by omega), mset_ne (by omega)]
    have e1 : M2 1 4 = M 1 4 + 1 := by rw [q2, mset_ne (by decide), mset_ne (by decide)]; exact mset_eq rfl
    have e3 : ∀ i, M2 3 i = if i = M 1 4 then c else M 3 i := fun i => by
      rw [q2, mset_ne (by decide), mset_ne (by decide), mset_ne (by decide)]; unfold mset; simp
    have e63 : ∀ i, M2 63 i = if i = 160 + M 64 4 then c else M 63 i := fun i => by
      rw [q2, mset_ne (by decide)]
      unfold mset; simp
    have e64' : ∀ i, M2 64 i = if i = 4 then M 64 4 + 1 else M 64 i := fun i => by
      rw [q2]; unfold mset; simp
    clear q2
    have m9 := eo 9 (by decide)
    have m55 := eo 55 (by decide)
    have hRC := fun (e : Nat) (he : e < 4) => BI_RC hB hn he
    obtain ⟨⟨b1, b2, b3, b4⟩, ⟨c1, c2, ⟨d1, d2, d3, d4⟩, c4, c5, c6⟩, ⟨k1, k2, k3⟩, r1, -, v1, g1⟩ := hB
    have hmo := fun (e : Nat) (he : e < 4) => moD_id (M2 := M2) (hRC e he) (by rw [m9]; exact c2) (by rw [m9]) (by rw [m9]) (fun c hc => eo c (by omega)) (fun i _ => by rw [m55])
    have hm0 := hmo 0 (by decide)
    have hv := vpD_eq (M := M) (W := M2) (eo 60 (by decide))
    have hk10 := kbD_eq (M := M) (W := M2) (eo 10 (by decide))
    refine ⟨⟨hm0.2.2.2.1.1, hm0.2.2.2.1.2.1, hm0.2.2.2.1.2.2.1, by rw [m55]; exact b4⟩, ⟨by rw [m9, m55]; exact c1, by rw [m9]; exact c2, ⟨by rw [m9, m55]; exact d1, by rw [m9, m55]; exact d2, by rw [m9]; exact d3, fun k h0 h1 => ?_⟩, fun k h0 h1 => ?_, by rw [m9]; exact c5, by rw [m9]; exact c6⟩, ⟨⟨fun j h0 h1 => by rw [eo 10 (by decide)]; exact k1.1 j h0 h1, fun k h0 h1 => by rw [eo 71 (by decide)]; exact k1.2 k h0 h1⟩, ?_, ?_⟩, fun h9 => ?_, ⟨by rw [e1, e64', if_pos rfl, x1], by rw [e64', if_pos rfl]; omega, fun k h0 h1 => ?_⟩, fun e he => ?_, fun j hj => by rw [eo 74 (by decide)]; exact g1 j hj⟩
    · rw [m9] at h1; rw [eo 11 (by decide), eo 12 (by decide), eo 72 (by decide), eo 73 (by decide), hv.1, hv.2]; exact d4 k h0 h1
    · rw [m9] at h1; rw [eo 12 (by decide)]; exact c4 k h0 h1
    · unfold KR; rw [hv.1, hv.2, hk10, eo 71 (by decide)]; exact k2
    · unfold KC at k3 ⊢
      have f1 : ∀ j, kcS M2 j = kcS M j := fun j => by
        induction j with
        | zero => rfl
        | succ j ih => unfold kcS; rw [ih, eo 10 (by decide)]
      have f2 : ∀ j, cntM M2 j = cntM M j := fun j => by
        induction j with
        | zero => rfl
        | succ j ih => unfold cntM; rw [ih, eo 71 (by decide)]
      rw [f1, f2]; exact k3
    · rw [m55] at h9
      obtain ⟨r2, r3, r4⟩ := r1 h9
      exact ⟨by rw [m9]; exact r2, ⟨fun j h0 h1 => by rw [eo 10 (by decide)]; exact r3.1 j h0 h1, fun k h0 h1 => by rw [eo 71 (by decide)]; exact r3.2 k h0 h1⟩, fun e he => by rw [eo 66 (by decide)]; exact r4 e he⟩
    · rw [e64', if_pos rfl] at h1
      rw [e3, e63, x1]
      by_cases hk : k = M 64 4
      · rw [if_pos hk, if_pos (by omega)]; omega
      · rw [if_neg hk, if_neg (by omega)]; exact x3 k h0 (by omega)
    · have hv1 := v1 e he
      refine EV_mv (fun _ => ⟨hRC e he, hmo e he⟩) (eo _ (by omega)) (eo _ (by omega)) (eo _ (by omega)) (eo _ (by omega)) (fun k k0 k9 => ?_) (fun c c1 c2 => ?_) hv1
      · have := hv1.1
        rw [e63, if_neg (by omega)]
      · by_cases h : c = 64
        · rw [h, e64', if_neg (by omega)]
        · rw [eo c (by omega)]
  · obtain ⟨p1, p2⟩ := hd.2 hok
    subst p2
    obtain ⟨q1, q2⟩ := hm.2 (by unfold putDOK at hok; unfold putOK; rw [x1] at hok; exact hok)
    subst q2
    exact ⟨by rw [p1, q1], hB⟩
end CA
