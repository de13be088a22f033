/-- an evaluation that waits, on both sides -/
def EW (e : Nat) (M : Mem) : Prop := vpD M (M (19 + 9 * e) 11) ∧ M 70 e = pcD M (M (19 + 9 * e) 11) ∧ ∃ N S TN, dfF (lexF M e) = some (N, S) ∧ fxN M N TN ∧ gdN TN 0 N.length ∧ M 67 e = TN (tp N) ∧ WTd e M S
/-- an evaluation on both sides -/
def EV (e : Nat) (M : Mem) : Prop := (0 ≤ M 64 e ∧ M 64 e ≤ 40) ∧ M (19 + 9 * e) 6 = M 64 e ∧ (∀ k, 0 ≤ k → k < M 64 e → M (27 + 9 * e) k = M 63 (40 * e + k) ∧ 32 ≤ M 63 (40 * e + k) ∧ M 63 (40 * e + k) ≤ 126) ∧ M (19 + 9 * e) 7 = M 66 e ∧ M (19 + 9 * e) 8 = M 67 e ∧ (M (19 + 9 * e) 9 = if M 66 e = 3 then M 68 e else 0) ∧ (M 66 e = 2 → (1 ≤ M (20 + 9 * e) 6 ∧ M (20 + 9 * e) 6 ≤ 48) ∧ M (26 + 9 * e) (M (20 + 9 * e) 6 - 1) = M 69 e) ∧ (M 65 e = 0 ↔ M 66 e = 0) ∧ (M 66 e = 1 → EW e M)
/-- the text that is written, on both sides -/
def BX (M : Mem) : Prop := M 1 4 = M 64 4 ∧ (0 ≤ M 64 4 ∧ M 64 4 ≤ 40) ∧ ∀ k, 0 ≤ k → k < M 64 4 → M 3 k = M 63 (160 + k) ∧ 32 ≤ M 63 (160 + k) ∧ M 63 (160 + k) ≤ 126
/-- the line, on both sides -/
def BL (n : Int) (M : Mem) : Prop := M 9 5 = M 55 11 ∧ (0 ≤ M 9 5 ∧ M 9 5 ≤ 1) ∧ RQL M ∧ (∀ k, 0 ≤ k → k < M 9 3 → 0 ≤ M 12 k ∧ M 12 k < 100000) ∧ M 9 3 ≤ M 9 4 ∧ M 9 4 ≤ n
/-- what holds of both between two calls; at most n requests were sent -/
def BI (n : Int) (M : Mem) : Prop := (RT M ∧ TI M ∧ CI M ∧ (M 55 10 = 0 → M 55 9 = 0)) ∧ BL n M ∧ (KB M ∧ KR M ∧ KC M) ∧ (M 55 9 = 0 → M 9 3 = 0 ∧ noK M ∧ ∀ e : Nat, e < 4 → ¬ M 66 e = 1) ∧ BX M ∧ (∀ e : Nat, e < 4 → EV e M) ∧ ∀ j, j < 0 → M 74 j = 0
section IV
variable {M M1 M2 : Mem} {e : Nat} {n : Int}
theorem BL_up {n' : Int} (h : BL n M) (hn : n ≤ n') : BL n' M := ⟨h.1, h.2.1, h.2.2.1, h.2.2.2.1, h.2.2.2.2.1, by have := h.2.2.2.2.2; omega⟩
theorem BI_up {n' : Int} (h : BI n M) (hn : n ≤ n') : BI n' M := ⟨h.1, BL_up h.2.1 hn, h.2.2⟩
theorem BI_RC (hB : BI n M) (hn : n ≤ 300) (he : e < 4) : RCx M e := by
  obtain ⟨⟨b1, b2, b3, -⟩, ⟨c1, c2, ⟨d1, d2, d3, d4⟩, c4, c5, c6⟩, -⟩ := hB
  exact ⟨b1, b2, b3, ⟨⟨d3.2, d3.1⟩, ⟨by omega, by omega⟩, c2⟩, he⟩
theorem kdS_agM (hg : agM M M2) (c a s b t own : Int) : kdS M2 c a s b t own = kdS M c a s b t own := by
  have q1 : ∀ n, vkD M2 n = vkD M n := fun n => by unfold vkD; rw [hg.2.2.2.1]
  have q2 : ∀ k n, fkD M2 k n = fkD M k n := fun k n => by unfold fkD; rw [agM_field hg]
  have q3 : ∀ a k, canC M2 a k = canC M a k := fun a k => by unfold canC; rw [agM_rel hg, hg.1.1]
  have q4 : ∀ a b, choD M2 a b = choD M a b := fun a b => by unfold choD; rw [agM_rel hg, agM_suits hg]
  have q5 : ∀ c a b, twoD M2 c a b = twoD M c a b := fun c a b => by unfold twoD; rw [agM_rel hg]
  unfold kdS
  rw [q1, q2, q3, q4, q5, agM_rel hg, hg.1.1]
theorem WTd_mv {S : List SD} (hR : RCx M e) (hm : moD e M M2) (h26 : M2 (26 + 9 * e) = M (26 + 9 * e)) (h10 : M2 (19 + 9 * e) 10 = M (19 + 9 * e) 10) (h : WTd e M S) : WTd e M2 S := by
  obtain ⟨hs, TS, Vb, k, w1, w2, w3, w4⟩ := h
  have hc : ∀ c, 20 + 9 * e ≤ c → c ≤ 26 + 9 * e → M2 c = M c := fun c c1 c2 => by
    by_cases h : c = 26 + 9 * e
    · rw [h]; exact h26
    · exact hm.1 c c1 (by omega)
  refine ⟨stp_fr hs (fun c i c1 c2 => by rw [hc c c1 c2]), TS, Vb, k, fun i x hx => (w1 i x hx).trans (kdS_agM hm.2.2.1 _ _ _ _ _ _).symm, fun p hp => ?_, w3, ?_⟩
  · rw [hc (25 + 9 * e) (by omega) (by omega)]
    refine ⟨(w2 p hp).1, ?_⟩
    unfold vK
    rw [hm.2.2.1.1.1]
    exact (w2 p hp).2
  · rw [h26, h10]; exact pS_mono hm hR w4
/-- an evaluation that nobody touches stays what it is -/
theorem EV_mv (hw : M 66 e = 1 → RCx M e ∧ moD e M M2) (h20 : M2 (20 + 9 * e) = M (20 + 9 * e)) (h26 : M2 (26 + 9 * e) = M (26 + 9 * e)) (h19 : M2 (19 + 9 * e) = M (19 + 9 * e)) (h27 : M2 (27 + 9 * e) = M (27 + 9 * e)) (h63 : ∀ k, 0 ≤ k → k < M 64 e → M2 63 (40 * e + k) = M 63 (40 * e + k)) (h64 : ∀ c : Nat, 64 ≤ c → c ≤ 70 → M2 c e = M c e) (hE : EV e M) : EV e M2 := by
  obtain ⟨a1, a2, a3, a4, a5, a6, a7, a8, a9⟩ := hE
  unfold EV
  rw [h64 64 (by decide) (by decide), h64 65 (by decide) (by decide), h64 66 (by decide) (by decide), h64 67 (by decide) (by decide), h64 68 (by decide) (by decide), h64 69 (by decide) (by decide), h19, h20, h26, h27]
  refine ⟨a1, a2, fun k h0 h1 => by rw [h63 k h0 h1]; exact a3 k h0 h1, a4, a5, a6, a7, a8, fun h1 => ?_⟩
  obtain ⟨hR, hm⟩ := hw h1
  obtain ⟨w1, w2, N, S, TN, w3, w4, w5, w6, w7⟩ := a9 h1
  have hv := vpD_eq (M := M) (W := M2) hm.2.2.1.2.2.2.2.2.1
  unfold EW
  rw [h64 70 (by decide) (by decide), h64 67 (by decide) (by decide), h19, hv.1, hv.2, lexF_cg a1.2 (h64 64 (by decide) (by decide)) h63]
  exact ⟨w1, w2, N, S, TN, w3, fxN_ag hm.2.2.1 w4, w5, w6, WTd_mv hR hm h26 (by rw [h19]) w7⟩
/-- the target changed, while it runs -/
theorem BI_tg (hB : BI n M) (h9 : M 55 9 = 0) (hT : RT M2 ∧ TI M2 ∧ CI M2) (e55 : ∀ i, ¬ (i = 0 ∨ i = 5) → M2 55 i = M 55 i) (eo : ∀ c, ¬ ((4 ≤ c ∧ c ≤ 8) ∨ (55 ≤ c ∧ c ≤ 62)) → M2 c = M c) : BI n M2 := by
  obtain ⟨⟨b1, b2, b3, b4⟩, ⟨c1, c2, ⟨d1, d2, d3, d4⟩, c4, c5, c6⟩, ⟨k1, k2, k3⟩, r1, x1, v1, g1⟩ := hB
  obtain ⟨r2, r3, r4⟩ := r1 h9
  have hn : noK M2 := ⟨fun j h0 h1 => by rw [eo 10 (by decide)]; exact r3.1 j h0 h1, fun k h0 h1 => by rw [eo 71 (by decide)]; exact r3.2 k h0 h1⟩
  have m9 := eo 9 (by decide)
  refine ⟨⟨hT.1, hT.2.1, hT.2.2, fun _ => by rw [e55 9 (by decide)]; exact h9⟩, ⟨by rw [m9, e55 11 (by decide)]; exact c1, by rw [m9]; exact c2, ⟨by rw [m9, e55 21 (by decide)]; exact d1, by rw [m9, e55 24 (by decide)]; exact d2, by rw [m9]; exact d3, fun k h0 h1 => by rw [m9] at h1; omega⟩, fun k h0 h1 => by rw [m9] at h1; omega, by rw [m9]; exact c5, by rw [m9]; exact c6⟩, noK_all hn, fun _ => ⟨by rw [m9]; exact r2, hn, fun e he => by rw [eo 66 (by decide)]; exact r4 e he⟩, ?_, fun e he => ?_, fun j hj => by rw [eo 74 (by decide)]; exact g1 j hj⟩
  · unfold BX
    rw [eo 1 (by decide), eo 3 (by decide), eo 63 (by decide), eo 64 (by decide)]; exact x1
  · exact EV_mv (fun h => absurd h (r4 e he)) (eo _ (by omega)) (eo _ (by omega)) (eo _ (by omega)) (eo _ (by omega)) (fun k _ _ => by rw [eo 63 (by decide)]) (fun c c1 c2 => by rw [eo c (by omega)]) (v1 e he)
theorem BI_bound (hB : BI n M) : 0 ≤ M 9 3 ∧ 0 ≤ M 9 4 := by
  obtain ⟨-, ⟨c1, c2, ⟨d1, d2, d3, d4⟩, c4, c5, c6⟩, -⟩ := hB
  omega
theorem c_addClass {a : Int} {r r' : Option PV} (hB : BI n M) (hd : (addClassOK M a → r = some (vi (M 55 0)) ∧ M1 = mset (mset M 5 (M 55 0) a) 4 4 (M 55 0 + 1)) ∧ (¬ addClassOK M a → r = some (vi (-1)) ∧ M1 = M)) (hm : (addClassOK M1 a → r' = some (vi (M1 55 0)) ∧ M2 = mset (mset M1 56 (M1 55 0) a) 55 0 (M1 55 0 + 1)) ∧ (¬ addClassOK M1 a → r' = some (vi (-1)) ∧ M2 = M1)) : r = r' ∧ BI n M2 := by
  by_cases hok : addClassOK M a
  · obtain ⟨p1, p2⟩ := hd.1 hok
    have e55 : M1 55 = M 55 := by rw [p2]; funext i; rw [mset_ne (by decide), mset_ne (by decide)]
    obtain ⟨q1, q2⟩ := hm.1 (by unfold addClassOK at hok ⊢; rw [e55]; exact hok)
    rw [e55] at q1 q2
    refine ⟨by rw [p1, q1], ?_⟩
    have h9 := hB.1.2.2.2 hok.2.2.2
    subst p2
    subst q2
    refine BI_tg hB h9 (tg_class hB.1.1 hB.1.2.1 hB.1.2.2.1 hok (fun i => ?_) (fun i => ?_) (fun i => ?_) (fun i => ?_) (fun c hc => ?_)) (fun i hi => ?_) (fun c hc => ?_)
    · rw [mset_ne (by decide), mset_ne (by decide)]; unfold mset; simp
    · rw [mset_ne (by decide), mset_ne (by decide), mset_ne (by decide)]; unfold mset; simp
    · rw [mset_ne (by decide)]; unfold mset; simp
    · unfold mset; simp
    · funext i; rw [mset_ne (by omega), mset_ne (by omega), mset_ne (by omega), mset_ne (by omega)]
    · rw [mset_ni (by omega), mset_ne (by decide), mset_ne (by decide), mset_ne (by decide)]
    · funext i; rw [mset_ne (by omega), mset_ne (by omega), mset_ne (by omega), mset_ne (by omega)]
  · obtain ⟨p1, p2⟩ := hd.2 hok
    subst p2
    obtain ⟨q1, q2⟩ := hm.2 hok
    subst q2
    exact ⟨by rw [p1, q1], hB⟩
theorem c_addField {t m k : Int} {r r' : Option PV} (hB : BI n M) (hd : (addFieldOK M t m k → r = some (vi 1) ∧ M1 = mset M 6 (26 * t + m) k) ∧ (¬ addFieldOK M t m k → r = some (vi 0) ∧ M1 = M)) (hm : (addFieldOK M1 t m k → r' = some (vi 1) ∧ M2 = mset M1 57 (26 * t + m) k) ∧ (¬ addFieldOK M1 t m k → r' = some (vi 0) ∧ M2 = M1)) : r = r' ∧ BI n M2 := by
  by_cases hok : addFieldOK M t m k
  · obtain ⟨p1, p2⟩ := hd.1 hok
    have e55 : M1 55 = M 55 := by rw [p2]; funext i; rw [mset_ne (by decide)]
    have e56 : M1 56 = M 56 := by rw [p2]; funext i; rw [mset_ne (by decide)]
    have e57 : M1 57 = M 57 := by rw [p2]; funext i; rw [mset_ne (by decide)]
    obtain ⟨q1, q2⟩ := hm.1 (by unfold addFieldOK nearM isAm at hok ⊢; rw [e55, e56, e57]; exact hok)
    refine ⟨by rw [p1, q1], ?_⟩
    have h9 := hB.1.2.2.2 hok.2.2.2.1
    subst p2
    subst q2
    refine BI_tg hB h9 (tg_field hB.1.1 hB.1.2.1 hB.1.2.2.1 hok (fun i => ?_) (fun i => ?_) (fun c hc => ?_)) (fun i hi => ?_) (fun c hc => ?_)
    · rw [mset_ne (by decide)]; unfold mset; simp
    · unfold mset; simp
    · funext i; rw [mset_ne (by omega), mset_ne (by omega)]
    · rw [mset_ne (by decide), mset_ne (by decide)]
    · funext i; rw [mset_ne (by omega), mset_ne (by omega)]
  · obtain ⟨p1, p2⟩ := hd.2 hok
    subst p2
    obtain ⟨q1, q2⟩ := hm.2 hok
    subst q2
    exact ⟨by rw [p1, q1], hB⟩
theorem c_addVar {m k : Int} {r r' : Option PV} (hB : BI n M) (hd : (addVarOK M m k → r = some (vi 1) ∧ M1 = mset M 7 m k) ∧ (¬ addVarOK M m k → r = some (vi 0) ∧ M1 = M)) (hm : (addVarOK M1 m k → r' = some (vi 1) ∧ M2 = mset M1 58 m k) ∧ (¬ addVarOK M1 m k → r' = some (vi 0) ∧ M2 = M1)) : r = r' ∧ BI n M2 := by
  by_cases hok : addVarOK M m k
  · obtain ⟨p1, p2⟩ := hd.1 hok
    have e55 : M1 55 = M 55 := by rw [p2]; funext i; rw [mset_ne (by decide)]
    have e58 : M1 58 = M 58 := by rw [p2]; funext i; rw [mset_ne (by decide)]
    obtain ⟨q1, q2⟩ := hm.1 (by unfold addVarOK at hok ⊢; rw [e55, e58]; exact hok)
    refine ⟨by rw [p1, q1], ?_⟩
    have h9 := hB.1.2.2.2 hok.2.2.1
    subst p2
    subst q2
    refine BI_tg hB h9 (tg_var hB.1.1 hB.1.2.1 hB.1.2.2.1 hok (fun i => ?_) (fun i => ?_) (fun c hc => ?_)) (fun i hi => ?_) (fun c hc => ?_)
    · rw [mset_ne (by decide)]; unfold mset; simp
    · unfold mset; simp
    · funext i; rw [mset_ne (by omega), mset_ne (by omega)]
    · rw [mset_ne (by decide), mset_ne (by decide)]
    · funext i; rw [mset_ne (by omega), mset_ne (by omega)]
  · obtain ⟨p1, p2⟩ := hd.2 hok
    subst p2
    obtain ⟨q1, q2⟩ := hm.2 hok
    subst q2
    exact ⟨by rw [p1, q1], hB⟩
theorem c_make {k l : Int} {r r' : Option PV} (hB : BI n M) (hd : (makeOK M k l → r = some (vi (M 55 5 + 1)) ∧ M1 = makeD M k l) ∧ (¬ makeOK M k l → r = some (vi (-1)) ∧ M1 = M)) (hm : (makeOK M1 k l → r' = some (vi (M1 55 5 + 1)) ∧ M2 = makeM M1 k l) ∧ (¬ makeOK M1 k l → r' = some (vi (-1)) ∧ M2 = M1)) : r = r' ∧ BI n M2 := by
  by_cases hok : makeOK M k l
  · obtain ⟨p1, p2⟩ := hd.1 hok
    have e55 : M1 55 = M 55 := by rw [p2]; funext i; unfold makeD; rw [mset_ne (by decide), mset_ne (by decide), mset_ne (by decide)]
    obtain ⟨q1, q2⟩ := hm.1 (by unfold makeOK at hok ⊢; rw [e55]; exact hok)
    unfold makeM at q2
    rw [e55] at q1 q2
    refine ⟨by rw [p1, q1], ?_⟩
    have h9 := hok.2.2.2.2
    subst p2
    subst q2
    unfold makeD
    refine BI_tg hB h9 (tg_make hB.1.1 hB.1.2.1 hB.1.2.2.1 hok (fun i => ?_) (fun i => ?_) (fun i => ?_) (fun i => ?_) (fun i => ?_) (fun c hc => ?_)) (fun i hi => ?_) (fun c hc => ?_)
    · rw [mset_ne (by decide), mset_ne (by decide), mset_ne (by decide), mset_ne (by decide), mset_ne (by decide)]; unfold mset; simp
    · rw [mset_ne (by decide), mset_ne (by decide), mset_ne (by decide)]; unfold mset; simp
    · rw [mset_ne (by decide), mset_ne (by decide)]; unfold mset; simp
    · rw [mset_ne (by decide)]; unfold mset; simp
    · unfold mset; simp
    · funext i; rw [mset_ne (by omega), mset_ne (by omega), mset_ne (by omega), mset_ne (by omega), mset_ne (by omega), mset_ne (by omega)]
    · rw [mset_ne (by decide), mset_ne (by decide), mset_ni (by omega), mset_ne (by decide), mset_ne (by decide), mset_ne (by decide)]
    · funext i; rw [mset_ne (by omega), mset_ne (by omega), mset_ne (by omega), mset_ne (by omega), mset_ne (by omega), mset_ne (by omega)]
  · obtain ⟨p1, p2⟩ := hd.2 hok
    subst p2
    obtain ⟨q1, q2⟩ := hm.2 hok
    subst q2
    exact ⟨by rw [p1, q1], hB⟩
theorem c_setVar {m v : Int} {r r' : Option PV} (hB : BI n M) (hd : (setVarOK M m v → r = some (vi 1) ∧ M1 = mset M 8 m v) ∧ (¬ setVarOK M m v → r = some (vi 0) ∧ M1 = M)) (hm : (setVarOK M1 m v → r' = some (vi 1) ∧ M2 = mset M1 59 m v) ∧ (¬ setVarOK M1 m v → r' = some (vi 0) ∧ M2 = M1)) : r = r' ∧ BI n M2 := by
  by_cases hok : setVarOK M m v
  · obtain ⟨p1, p2⟩ := hd.1 hok
    have eo : ∀ c, ¬ c = 8 → M1 c = M c := fun c hc => by rw [p2]; funext i; rw [mset_ne hc]
    obtain ⟨q1, q2⟩ := hm.1 (by unfold setVarOK validB suitsB isAm at hok ⊢; rw [eo 55 (by decide), eo 58 (by decide), eo 60 (by decide), eo 56 (by decide)]; exact hok)
    refine ⟨by rw [p1, q1], ?_⟩
    have h9 := hok.2.2.1
    subst p2
    subst q2
    refine BI_tg hB h9 (tg_setv hB.1.1 hB.1.2.1 hB.1.2.2.1 hok (fun i => ?_) (fun i => ?_) (fun c hc => ?_)) (fun i hi => ?_) (fun c hc => ?_)
    · rw [mset_ne (by decide)]; unfold mset; simp
    · unfold mset; simp
    · funext i; rw [mset_ne (by omega), mset_ne (by omega)]
    · rw [mset_ne (by decide), mset_ne (by decide)]
    · funext i; rw [mset_ne (by omega), mset_ne (by omega)]
  · obtain ⟨p1, p2⟩ := hd.2 hok
    subst p2
    obtain ⟨q1, q2⟩ := hm.2 hok
    subst q2
    exact ⟨by rw [p1, q1], hB⟩
theorem c_setPart {o p v : Int} {r r' : Option PV} (hB : BI n M) (hd : (setPartOK M o p v → r = some (vi 1) ∧ M1 = mset M 8 (28 * o + p) v) ∧ (¬ setPartOK M o p v → r = some (vi 0) ∧ M1 = M)) (hm : (setPartOK M1 o p v → r' = some (vi 1) ∧ M2 = mset M1 62 (26 * o + p) v) ∧ (¬ setPartOK M1 o p v → r' = some (vi 0) ∧ M2 = M1)) : r = r' ∧ BI n M2 := by
  by_cases hok : setPartOK M o p v
  · obtain ⟨p1, p2⟩ := hd.1 hok
    have eo : ∀ c, ¬ c = 8 → M1 c = M c := fun c hc => by rw [p2]; funext i; rw [mset_ne hc]
    obtain ⟨q1, q2⟩ := hm.1 (by unfold setPartOK dueM fieldM validB suitsB isAm at hok ⊢; rw [eo 55 (by decide), eo 57 (by decide), eo 60 (by decide), eo 61 (by decide), eo 56 (by decide)]; exact hok)
    refine ⟨by rw [p1, q1], ?_⟩
    have h9 := hok.2.2.1
    subst p2
    subst q2
    refine BI_tg hB h9 (tg_setp hB.1.1 hB.1.2.1 hB.1.2.2.1 hok (fun i => ?_) (fun i => ?_) (fun c hc => ?_)) (fun i hi => ?_) (fun c hc => ?_)
    · rw [mset_ne (by decide)]; unfold mset; simp
    · unfold mset; simp
    · funext i; rw [mset_ne (by omega), mset_ne (by omega)]
    · rw [mset_ne (by decide), mset_ne (by decide)]
    · funext i; rw [mset_ne (by omega), mset_ne (by omega)]
  · obtain ⟨p1, p2⟩ := hd.2 hok
    subst p2
    obtain ⟨q1, q2⟩ := hm.2 hok
    subst q2
    exact ⟨by rw [p1, q1], hB⟩
end IV
