theorem endN_o {v : Int} : ∀ (n i : Nat) (W : Mem) (c : Nat) (j : Int), (∀ m : Nat, i ≤ m → m < i + n → ¬ (c = 19 + 9 * m ∧ j = 7)) → endN v n i W c j = W c j := by
  intro n
  induction n with
  | zero => intro i W c j _; rfl
  | succ n ih =>
    intro i W c j h
    show endN v n (i + 1) (if W (19 + 9 * i) 7 = 1 then mset W (19 + 9 * i) 7 v else W) c j = W c j
    rw [ih (i + 1) _ c j (fun m h1 h2 => h m (by omega) (by omega))]
    by_cases h1 : W (19 + 9 * i) 7 = 1
    · rw [if_pos h1]; unfold mset; rw [if_neg (h i (by omega) (by omega))]
    · rw [if_neg h1]
theorem endN_s {v : Int} : ∀ (n i : Nat) (W : Mem) (m : Nat), i ≤ m → m < i + n → endN v n i W (19 + 9 * m) 7 = if W (19 + 9 * m) 7 = 1 then v else W (19 + 9 * m) 7 := by
  intro n
  induction n with
  | zero => intro i W m h1 h2; omega
  | succ n ih =>
    intro i W m h1 h2
    show endN v n (i + 1) (if W (19 + 9 * i) 7 = 1 then mset W (19 + 9 * i) 7 v else W) (19 + 9 * m) 7 = _
    by_cases hm : m = i
    · subst hm
      rw [endN_o n (m + 1) _ (19 + 9 * m) 7 (fun m' k1 k2 => by omega)]
      by_cases h : W (19 + 9 * m) 7 = 1
      · rw [if_pos h, if_pos h]; exact mset_eq rfl
      · rw [if_neg h, if_neg h]
    · rw [ih (i + 1) _ m (by omega) (by omega)]
      have e : (if W (19 + 9 * i) 7 = 1 then mset W (19 + 9 * i) 7 v else W) (19 + 9 * m) 7 = W (19 + 9 * m) 7 := by
        by_cases h : W (19 + 9 * i) 7 = 1
        · rw [if_pos h, mset_ne (by omega)]
        · rw [if_neg h]
      rw [e]
theorem endD_o {M : Mem} {v : Int} {c : Nat} {j : Int} (h1 : ¬ (c = 9 ∧ j = 3)) (h2 : ¬ (c = 10 ∧ 0 ≤ j ∧ j < 13)) (h3 : ∀ m : Nat, m < 4 → ¬ (c = 19 + 9 * m ∧ j = 7)) : endD M v c j = M c j := by
  unfold endD
  rw [endN_o 4 0 _ c j (fun m _ k2 => h3 m (by omega))]
  unfold fillM mset
  rw [if_neg h2, if_neg h1]
theorem endD_s {M : Mem} {v : Int} {m : Nat} (h : m < 4) : endD M v (19 + 9 * m) 7 = if M (19 + 9 * m) 7 = 1 then v else M (19 + 9 * m) 7 := by
  unfold endD
  rw [endN_s 4 0 _ m (by omega) (by omega)]
  have e : fillM (mset M 9 3 0) 10 13 0 (19 + 9 * m) 7 = M (19 + 9 * m) 7 := by
    unfold fillM mset; rw [if_neg (by omega), if_neg (by omega)]
  rw [e]
theorem endD_9 {M : Mem} {v : Int} : endD M v 9 3 = 0 := by
  unfold endD
  rw [endN_o 4 0 _ 9 3 (fun m _ k2 => by omega)]
  unfold fillM
  rw [if_neg (by omega)]
  exact mset_eq rfl
theorem endD_10 {M : Mem} {v j : Int} (h : 0 ≤ j ∧ j < 13) : endD M v 10 j = 0 := by
  unfold endD
  rw [endN_o 4 0 _ 10 j (fun m _ k2 => by omega)]
  exact if_pos ⟨rfl, h.1, h.2⟩
theorem fgt_o {M : Mem} {v : Int} {c : Nat} {j : Int} (h1 : ¬ (c = 55 ∧ j = 21)) (h2 : ¬ (c = 71 ∧ 0 ≤ j ∧ j < 423)) (h3 : ¬ (c = 66 ∧ 0 ≤ j ∧ j < 4)) : forgetM M v c j = M c j := by
  unfold forgetM swapM fillM mset
  rw [if_neg (fun h => h3 ⟨h.1, h.2.1, h.2.2.1⟩), if_neg h2, if_neg h1]
theorem fgt_66 {M : Mem} {v : Int} {j : Int} (h : 0 ≤ j ∧ j < 4) : forgetM M v 66 j = if M 66 j = 1 then v else M 66 j := by
  have e : fillM (mset M 55 21 0) 71 423 0 66 j = M 66 j := by
    unfold fillM mset; rw [if_neg (by omega), if_neg (by omega)]
  unfold forgetM swapM
  rw [e]
  by_cases h1 : M 66 j = 1
  · rw [if_pos ⟨rfl, h.1, h.2, h1⟩, if_pos h1]
  · rw [if_neg (fun h9 => h1 h9.2.2.2), if_neg h1]
theorem fgt_21 {M : Mem} {v : Int} : forgetM M v 55 21 = 0 := by
  unfold forgetM swapM
  rw [if_neg (by omega)]
  unfold fillM
  rw [if_neg (by omega)]
  exact mset_eq rfl
theorem fgt_71 {M : Mem} {v j : Int} (h : 0 ≤ j ∧ j < 423) : forgetM M v 71 j = 0 := by
  unfold forgetM swapM
  rw [if_neg (by omega)]
  exact if_pos ⟨rfl, h.1, h.2⟩
section FL
variable {M M1 M2 : Mem} {n : Int} {r r' : Option PV}
/-- nobody waits any more, nothing is asked for or known -/
theorem BI_end {v : Int} (hv : v = 7 ∨ v = 8) (hB : BI n M) (hT : RT M2 ∧ TI M2 ∧ CI M2 ∧ (M2 55 10 = 0 → M2 55 9 = 0)) (h95 : M2 9 5 = M2 55 11 ∧ 0 ≤ M2 9 5 ∧ M2 9 5 ≤ 1) (h93 : M2 9 3 = 0) (h94 : M2 9 4 = M 9 4) (h21 : M2 55 21 = 0) (h24 : M2 55 24 = M 55 24) (hk : noK M2) (hst : ∀ e : Nat, e < 4 → M2 (19 + 9 * e) 7 = (if M (19 + 9 * e) 7 = 1 then v else M (19 + 9 * e) 7) ∧ M2 66 e = (if M 66 e = 1 then v else M 66 e)) (h19 : ∀ e : Nat, e < 4 → ∀ i, ¬ i = 7 → M2 (19 + 9 * e) i = M (19 + 9 * e) i) (eo : ∀ c : Nat, (∀ e : Nat, e < 4 → ¬ c = 19 + 9 * e) → ¬ ((4 ≤ c ∧ c ≤ 10) ∨ (55 ≤ c ∧ c ≤ 62) ∨ c = 66 ∨ c = 71) → M2 c = M c) : BI n M2 := by
  obtain ⟨⟨b1, b2, b3, b4⟩, ⟨c1, c2, ⟨d1, d2, d3, d4⟩, c4, c5, c6⟩, ⟨k1, k2, k3⟩, r1, x1, v1, g1⟩ := hB
  have hno : ∀ e : Nat, e < 4 → ¬ M2 66 e = 1 := fun e he => by
    rw [(hst e he).2]; split
    · omega
    · assumption
  refine ⟨hT, ⟨h95.1, h95.2, ⟨by rw [h21, h93], by rw [h24, h94]; exact d2, by omega, fun k h0 h1 => by omega⟩, fun k h0 h1 => by omega, by omega, by omega⟩, noK_all hk, fun _ => ⟨h93, hk, hno⟩, ?_, fun e he => ?_, fun j hj => by rw [eo 74 (fun e he => by omega) (by omega)]; exact g1 j hj⟩
  · unfold BX
    rw [eo 1 (fun e he => by omega) (by omega), eo 3 (fun e he => by omega) (by omega), eo 63 (fun e he => by omega) (by omega), eo 64 (fun e he => by omega) (by omega)]; exact x1
  · obtain ⟨a1, a2, a3, a4, a5, a6, a7, a8, a9⟩ := v1 e he
    have s2 := (hst e he).2
    have s1 := (hst e he).1
    rw [a4] at s1
    unfold EV
    rw [eo 64 (fun e he => by omega) (by omega), eo 63 (fun e he => by omega) (by omega), eo 65 (fun e he => by omega) (by omega), eo 67 (fun e he => by omega) (by omega), eo 68 (fun e he => by omega) (by omega), eo 69 (fun e he => by omega) (by omega), eo (20 + 9 * e) (fun e' he => by omega) (by omega), eo (26 + 9 * e) (fun e' he => by omega) (by omega), eo (27 + 9 * e) (fun e' he => by omega) (by omega), h19 e he 6 (by decide), h19 e he 8 (by decide), h19 e he 9 (by decide)]
    refine ⟨a1, a2, a3, by rw [s1, s2], a5, ?_, fun h => ?_, ?_, fun h => absurd h (hno e he)⟩
    · rw [a6, s2]
      by_cases h : M 66 e = 1
      · rw [if_pos h, if_neg (by omega), if_neg (by omega)]
      · rw [if_neg h]
    · refine a7 ?_
      rw [s2] at h
      by_cases h9 : M 66 e = 1
      · rw [if_pos h9] at h; omega
      · rw [if_neg h9] at h; exact h
    · rw [a8, s2]
      by_cases h9 : M 66 e = 1
      · rw [if_pos h9]; omega
      · rw [if_neg h9]
/-- flags alone changed -/
theorem BI_flag (hB : BI n M) (hn : n ≤ 300) (hT : RT M2 ∧ TI M2 ∧ CI M2 ∧ (M2 55 10 = 0 → M2 55 9 = 0)) (h95 : M2 9 5 = M2 55 11 ∧ 0 ≤ M2 9 5 ∧ M2 9 5 ≤ 1) (h9 : ∀ i, ¬ i = 5 → M2 9 i = M 9 i) (h55 : ∀ i, ¬ (i = 9 ∨ i = 10 ∨ i = 11) → M2 55 i = M 55 i) (hr : M2 55 9 = 0 → M 55 9 = 0) (hw : ∀ e : Nat, e < 4 → M 66 e = 1 → moD e M M2) (eo : ∀ c : Nat, ¬ (c = 4 ∨ c = 9 ∨ c = 55) → M2 c = M c) : BI n M2 := by
  have hRC := fun (e : Nat) (he : e < 4) => BI_RC hB hn he
  obtain ⟨⟨b1, b2, b3, b4⟩, ⟨c1, c2, ⟨d1, d2, d3, d4⟩, c4, c5, c6⟩, ⟨k1, k2, k3⟩, r1, x1, v1, g1⟩ := hB
  have m3 := h9 3 (by decide)
  have m4 := h9 4 (by decide)
  have hv := vpD_eq (M := M) (W := M2) (eo 60 (by decide))
  have hk10 := kbD_eq (M := M) (W := M2) (eo 10 (by decide))
  refine ⟨hT, ⟨h95.1, h95.2, ⟨by rw [m3, h55 21 (by decide)]; exact d1, by rw [m4, h55 24 (by decide)]; exact d2, by rw [m3]; exact d3, fun k h0 h1 => ?_⟩, fun k h0 h1 => ?_, by rw [m3, m4]; exact c5, by rw [m4]; exact c6⟩, ⟨⟨fun j h0 h1 => by rw [eo 10 (by decide)]; exact k1.1 j h0 h1, fun k h0 h1 => by rw [eo 71 (by decide)]; exact k1.2 k h0 h1⟩, ?_, ?_⟩, fun h => ?_, ?_, fun e he => ?_, fun j hj => by rw [eo 74 (by decide)]; exact g1 j hj⟩
  · rw [m3] at h1; rw [eo 11 (by decide), eo 12 (by decide), eo 72 (by decide), eo 73 (by decide), hv.1, hv.2]; exact d4 k h0 h1
  · rw [m3] at h1; rw [eo 12 (by decide)]; exact c4 k h0 h1
  · unfold KR; rw [hv.1, hv.2, hk10, eo 71 (by decide)]; exact k2
  · unfold KC at k3 ⊢
    have f1 : ∀ j, kcS M2 j = kcS M j := fun j => by
      induction j with
      | zero => rfl
      | succ j ih => unfold kcS; rw [ih, eo 10 (by decide)]
    have f2 : ∀ j, cntM M2 j = cntM M j := fun j => by
      induction j with
      | zero => rfl
      | succ j ih => unfold cntM; rw [ih, eo 71 (by decide)]
    rw [f1, f2]; exact k3
  · obtain ⟨r2, r3, r4⟩ := r1 (hr h)
    exact ⟨by rw [m3]; exact r2, ⟨fun j h0 h1 => by rw [eo 10 (by decide)]; exact r3.1 j h0 h1, fun k h0 h1 => by rw [eo 71 (by decide)]; exact r3.2 k h0 h1⟩, fun e he => by rw [eo 66 (by decide)]; exact r4 e he⟩
  · unfold BX
    rw [eo 1 (by decide), eo 3 (by decide), eo 63 (by decide), eo 64 (by decide)]; exact x1
  · exact EV_mv (fun h => ⟨hRC e he, hw e he h⟩) (eo _ (by omega)) (eo _ (by omega)) (eo _ (by omega)) (eo _ (by omega)) (fun k _ _ => by rw [eo 63 (by decide)]) (fun c c1 c2 => by rw [eo c (by omega)]) (v1 e he)
theorem RT_run {on : Int} (h : RT M) (h46 : M2 4 6 = 1 - M2 55 9) (h47 : M2 4 7 = M2 55 10) (h4 : M2 4 4 = M 4 4 ∧ M2 4 5 = M 4 5) (h55 : M2 55 0 = M 55 0 ∧ M2 55 5 = M 55 5) (eo : ∀ c : Nat, (5 ≤ c ∧ c ≤ 8) ∨ (56 ≤ c ∧ c ≤ 62) → M2 c = M c) : RT M2 := by
  obtain ⟨t1, t2, t3, ⟨t4, t5, t6, t7⟩, t8, t9, t10⟩ := h
  unfold RT
  rw [eo 5 (by omega), eo 6 (by omega), eo 7 (by omega), eo 8 (by omega), eo 56 (by omega), eo 57 (by omega), eo 58 (by omega), eo 59 (by omega), eo 60 (by omega), eo 61 (by omega), eo 62 (by omega)]
  exact ⟨t1, t2, t3, ⟨by rw [h4.1, h55.1]; exact t4, by rw [h4.2, h55.2]; exact t5, h46, h47⟩, t8, t9, t10⟩
theorem TI_run (h : TI M) (h55 : M2 55 0 = M 55 0 ∧ M2 55 5 = M 55 5) (h9 : 0 ≤ M2 55 9 ∧ M2 55 9 ≤ 1) (h10 : 0 ≤ M2 55 10 ∧ M2 55 10 ≤ 1) (eo : ∀ c : Nat, (56 ≤ c ∧ c ≤ 62) → M2 c = M c) : TI M2 := by
  obtain ⟨t1, t2, t3, t4, t5⟩ := h
  unfold TI okP okF okK
  rw [eo 56 (by omega), eo 57 (by omega), eo 58 (by omega), eo 60 (by omega), eo 61 (by omega), h55.1, h55.2]
  exact ⟨t1, t2, h9, h10, t5⟩
theorem CI_run (h : CI M) (h55 : M2 55 0 = M 55 0 ∧ M2 55 5 = M 55 5) (eo : ∀ c : Nat, (56 ≤ c ∧ c ≤ 62) → M2 c = M c) : CI M2 := by
  have hv : validB M2 = validB M := by
    funext x y; unfold validB suitsB isAm; rw [h55.2, eo 56 (by omega), eo 60 (by omega)]
  have hd : dueM M2 = dueM M := by
    funext x y; unfold dueM fieldM; rw [eo 56 (by omega), eo 57 (by omega), eo 60 (by omega), eo 61 (by omega)]
  have hi : isAm M2 = isAm M := by funext x y; unfold isAm; rw [eo 56 (by omega)]
  unfold CI
  rw [hv, hd, hi, h55.1, h55.2, eo 57 (by omega), eo 58 (by omega), eo 59 (by omega), eo 60 (by omega), eo 61 (by omega), eo 62 (by omega)]
  exact h
theorem c_run {on : Int} (hB : BI n M) (hn : n ≤ 300) (hon : 0 ≤ on ∧ on ≤ 1) (hd : (on = M 55 9 → r = some (vi 1) ∧ M1 = runD M on) ∧ (¬ on = M 55 9 → r = some (vi 0) ∧ M1 = M)) (hm : (on = M1 55 9 → r' = some (vi 1) ∧ M2 = runM M1 on) ∧ (¬ on = M1 55 9 → r' = some (vi 0) ∧ M2 = M1)) : r = r' ∧ BI n M2 := by
  have hb := hB.1
  obtain ⟨t1, t2, t3, t4⟩ := hb
  by_cases hok : on = M 55 9
  · obtain ⟨p1, p2⟩ := hd.1 hok
    by_cases h0 : on = 0
    · have p3 : M1 = mset (mset M 4 6 on) 4 7 1 := p2.trans (if_pos h0)
      have e55 : M1 55 = M 55 := by rw [p3]; funext i; rw [mset_ne (by decide), mset_ne (by decide)]
      obtain ⟨q1, q2⟩ := hm.1 (by rw [e55]; exact hok)
      have q3 : M2 = mset (mset M1 55 9 1) 55 10 1 := q2.trans (if_neg (by omega))
      refine ⟨by rw [p1, q1], ?_⟩
      have eo : ∀ c, ¬ (c = 4 ∨ c = 9 ∨ c = 55) → M2 c = M c := fun c hc => by
        rw [q3, p3]; funext i; rw [mset_ne (by omega), mset_ne (by omega), mset_ne (by omega), mset_ne (by omega)]
      have f4 : ∀ i, M2 4 i = if i = 7 then 1 else if i = 6 then on else M 4 i := fun i => by
        rw [q3, p3, mset_ne (by decide), mset_ne (by decide)]; unfold mset; simp
      have f55 : ∀ i, M2 55 i = if i = 10 then 1 else if i = 9 then 1 else M 55 i := fun i => by
        rw [q3]; unfold mset; simp; rw [e55]
      have f9 : M2 9 = M 9 := by rw [q3, p3]; funext i; rw [mset_ne (by omega), mset_ne (by omega), mset_ne (by omega), mset_ne (by omega)]
      have hr1 := hB.2.2.2.1 (by omega)
      have x0 : M2 55 0 = M 55 0 ∧ M2 55 5 = M 55 5 := ⟨by rw [f55, if_neg (by decide), if_neg (by decide)], by rw [f55, if_neg (by decide), if_neg (by decide)]⟩
      have x9 : M2 55 9 = 1 := by rw [f55, if_neg (by decide), if_pos rfl]
      have x10 : M2 55 10 = 1 := by rw [f55, if_pos rfl]
      have x11 : M2 55 11 = M 55 11 := by rw [f55, if_neg (by decide), if_neg (by decide)]
      have eo2 : ∀ c : Nat, (5 ≤ c ∧ c ≤ 8) ∨ (56 ≤ c ∧ c ≤ 62) → M2 c = M c := fun c hc => eo c (by omega)
      refine BI_flag hB hn ⟨RT_run (on := on) t1 (by rw [f4, if_neg (by decide), if_pos rfl, x9]; omega) (by rw [f4, if_pos rfl, x10]) ⟨by rw [f4, if_neg (by decide), if_neg (by decide)], by rw [f4, if_neg (by decide), if_neg (by decide)]⟩ x0 eo2, TI_run t2 x0 (by omega) (by omega) (fun c hc => eo2 c (Or.inr hc)), CI_run t3 x0 (fun c hc => eo2 c (Or.inr hc)), fun h => by omega⟩ (by rw [f9, x11]; exact ⟨hB.2.1.1, hB.2.1.2.1⟩) (fun i _ => by rw [f9]) (fun i hi => by rw [f55, if_neg (by omega), if_neg (by omega)]) (fun h => by omega) (fun e he h => absurd h (hr1.2.2 e he)) eo
    · have p3 : M1 = endD (mset (mset M 4 6 on) 4 7 1) 8 := p2.trans (if_neg h0)
      have e55 : ∀ i, M1 55 i = M 55 i := fun i => by rw [p3, endD_o (by omega) (by omega) (fun m hm => by omega), mset_ne (by decide), mset_ne (by decide)]
      obtain ⟨q1, q2⟩ := hm.1 (by rw [e55]; exact hok)
      have q3 : M2 = forgetM (mset (mset M1 55 9 0) 55 10 (M1 55 10)) 8 := q2.trans (if_pos (by omega))
      refine ⟨by rw [p1, q1], ?_⟩
      have f55 : ∀ i, ¬ i = 21 → M2 55 i = if i = 9 then 0 else M 55 i := fun i hi => by
        rw [q3, fgt_o (by omega) (by omega) (by omega)]
        by_cases h10 : i = 10
        · rw [mset_eq h10, e55, if_neg (by omega), h10]
        · rw [mset_ni h10]
          by_cases h9 : i = 9
          · rw [mset_eq h9, if_pos h9]
          · rw [mset_ni h9, e55, if_neg h9]
      have f4 : ∀ i, M2 4 i = if i = 7 then 1 else if i = 6 then on else M 4 i := fun i => by
        rw [q3, fgt_o (by omega) (by omega) (by omega), mset_ne (by decide), mset_ne (by decide), p3, endD_o (by omega) (by omega) (fun m hm => by omega)]
        unfold mset; simp
      have fo : ∀ (c : Nat) (i : Int), ¬ (c = 4 ∨ c = 9 ∨ c = 10 ∨ c = 55 ∨ c = 66 ∨ c = 71) → (∀ m : Nat, m < 4 → ¬ (c = 19 + 9 * m ∧ i = 7)) → M2 c i = M c i := fun c i hc h => by
        rw [q3, fgt_o (by omega) (by omega) (by omega), mset_ne (by omega), mset_ne (by omega), p3, endD_o (by omega) (by omega) h, mset_ne (by omega), mset_ne (by omega)]
      have f9 : ∀ i, ¬ i = 3 → M2 9 i = M 9 i := fun i hi => by
        rw [q3, fgt_o (by omega) (by omega) (by omega), mset_ne (by omega), mset_ne (by omega), p3, endD_o (by omega) (by omega) (fun m hm => by omega), mset_ne (by omega), mset_ne (by omega)]
      have f93 : M2 9 3 = 0 := by
        rw [q3, fgt_o (by omega) (by omega) (by omega), mset_ne (by omega), mset_ne (by omega), p3]; exact endD_9
      have hon1 : M 55 10 = 1 := by
        have h4 := t2.2.2.2.1
        by_cases h : M 55 10 = 0
        · have := t4 h; omega
        · omega
      have x9 : M2 55 9 = 0 := by rw [f55 9 (by decide), if_pos rfl]
      have x10 : M2 55 10 = 1 := by rw [f55 10 (by decide), if_neg (by decide)]; exact hon1
      have x0 : M2 55 0 = M 55 0 ∧ M2 55 5 = M 55 5 := ⟨by rw [f55 0 (by decide), if_neg (by decide)], by rw [f55 5 (by decide), if_neg (by decide)]⟩
      have eo2 : ∀ c : Nat, (5 ≤ c ∧ c ≤ 8) ∨ (56 ≤ c ∧ c ≤ 62) → M2 c = M c := fun c hc => funext fun i => fo c i (by omega) (fun m hm => by omega)
      refine BI_end (v := 8) (Or.inr rfl) hB ⟨RT_run (on := on) t1 (by rw [f4, if_neg (by decide), if_pos rfl, x9]; omega) (by rw [f4, if_pos rfl, x10]) ⟨by rw [f4, if_neg (by decide), if_neg (by decide)], by rw [f4, if_neg (by decide), if_neg (by decide)]⟩ x0 eo2, TI_run t2 x0 (by omega) (by omega) (fun c hc => eo2 c (Or.inr hc)), CI_run t3 x0 (fun c hc => eo2 c (Or.inr hc)), fun _ => x9⟩ ⟨by rw [f9 5 (by decide), f55 11 (by decide), if_neg (by decide)]; exact hB.2.1.1, by rw [f9 5 (by decide)]; exact hB.2.1.2.1⟩ f93 (f9 4 (by decide)) (by rw [q3]; exact fgt_21) (by rw [f55 24 (by decide), if_neg (by decide)]) ⟨fun j h0 h1 => ?_, fun k h0 h1 => by rw [q3]; exact fgt_71 ⟨h0, h1⟩⟩ (fun e he => ⟨?_, ?_⟩) (fun e he i hi => fo _ i (by omega) (fun m hm => by omega)) (fun c h1 h2 => funext fun i => fo c i (by omega) (fun m hm => by have := h1 m hm; omega))
      · rw [q3, fgt_o (by omega) (by omega) (by omega), mset_ne (by omega), mset_ne (by omega), p3]; exact endD_10 ⟨h0, h1⟩
      · rw [q3, fgt_o (by omega) (by omega) (by omega), mset_ne (by omega), mset_ne (by omega), p3, endD_s he, mset_ne (by omega), mset_ne (by omega)]
      · rw [q3, fgt_66 (by omega), mset_ne (by omega), mset_ne (by omega), p3, endD_o (by omega) (by omega) (fun m hm => by omega), mset_ne (by omega), mset_ne (by omega)]
  · obtain ⟨p1, p2⟩ := hd.2 hok
    subst p2
    obtain ⟨q1, q2⟩ := hm.2 hok
    subst q2
    exact ⟨by rw [p1, q1], hB⟩
theorem c_line {on : Int} (hB : BI n M) (hn : n ≤ 300) (hon : 0 ≤ on ∧ on ≤ 1) (hd : (M 9 5 = on → r = some (vi 1) ∧ M1 = lineD M on) ∧ (¬ M 9 5 = on → r = some (vi 0) ∧ M1 = M)) (hm : (on = M1 55 11 → r' = some (vi 1) ∧ M2 = lineM M1 on) ∧ (¬ on = M1 55 11 → r' = some (vi 0) ∧ M2 = M1)) : r = r' ∧ BI n M2 := by
  have hb := hB.1
  obtain ⟨t1, t2, t3, t4⟩ := hb
  have hl := hB.2.1.1
  by_cases hok : M 9 5 = on
  · obtain ⟨p1, p2⟩ := hd.1 hok
    by_cases h0 : on = 0
    · have p3 : M1 = endD (mset M 9 5 (1 - on)) 7 := p2.trans (if_pos h0)
      have e55 : ∀ i, M1 55 i = M 55 i := fun i => by rw [p3, endD_o (by omega) (by omega) (fun m hm => by omega), mset_ne (by decide)]
      obtain ⟨q1, q2⟩ := hm.1 (by rw [e55]; omega)
      have q3 : M2 = forgetM (mset M1 55 11 1) 7 := q2.trans (if_neg (by omega))
      refine ⟨by rw [p1, q1], ?_⟩
      have f55 : ∀ i, ¬ i = 21 → M2 55 i = if i = 11 then 1 else M 55 i := fun i hi => by
        rw [q3, fgt_o (by omega) (by omega) (by omega)]
        by_cases h9 : i = 11
        · rw [mset_eq h9, if_pos h9]
        · rw [mset_ni h9, e55, if_neg h9]
      have fo : ∀ (c : Nat) (i : Int), ¬ (c = 9 ∨ c = 10 ∨ c = 55 ∨ c = 66 ∨ c = 71) → (∀ m : Nat, m < 4 → ¬ (c = 19 + 9 * m ∧ i = 7)) → M2 c i = M c i := fun c i hc h => by
        rw [q3, fgt_o (by omega) (by omega) (by omega), mset_ne (by omega), p3, endD_o (by omega) (by omega) h, mset_ne (by omega)]
      have f9 : ∀ i, ¬ i = 3 → M2 9 i = if i = 5 then 1 - on else M 9 i := fun i hi => by
        rw [q3, fgt_o (by omega) (by omega) (by omega), mset_ne (by omega), p3, endD_o (by omega) (by omega) (fun m hm => by omega)]
        unfold mset; simp
      have f93 : M2 9 3 = 0 := by
        rw [q3, fgt_o (by omega) (by omega) (by omega), mset_ne (by omega), p3]; exact endD_9
      have hx : ∀ i, ¬ (i = 11 ∨ i = 21) → M2 55 i = M 55 i := fun i hi => by rw [f55 i (by omega), if_neg (by omega)]
      have eo2 : ∀ c : Nat, (4 ≤ c ∧ c ≤ 8) ∨ (56 ≤ c ∧ c ≤ 62) → M2 c = M c := fun c hc => funext fun i => fo c i (by omega) (fun m hm => by omega)
      have x0 : M2 55 0 = M 55 0 ∧ M2 55 5 = M 55 5 := ⟨hx 0 (by decide), hx 5 (by decide)⟩
      refine BI_end (v := 7) (Or.inl rfl) hB ⟨RT_run (on := on) t1 (by rw [eo2 4 (by omega), hx 9 (by decide)]; exact t1.2.2.2.1.2.2.1) (by rw [eo2 4 (by omega), hx 10 (by decide)]; exact t1.2.2.2.1.2.2.2) ⟨by rw [eo2 4 (by omega)], by rw [eo2 4 (by omega)]⟩ x0 (fun c hc => eo2 c (by omega)), TI_run t2 x0 (by rw [hx 9 (by decide)]; exact t2.2.2.1) (by rw [hx 10 (by decide)]; exact t2.2.2.2.1) (fun c hc => eo2 c (Or.inr hc)), CI_run t3 x0 (fun c hc => eo2 c (Or.inr hc)), by rw [hx 9 (by decide), hx 10 (by decide)]; exact t4⟩ ⟨by rw [f9 5 (by decide), if_pos rfl, f55 11 (by decide), if_pos rfl]; omega, by rw [f9 5 (by decide), if_pos rfl]; omega⟩ f93 (by rw [f9 4 (by decide), if_neg (by decide)]) (by rw [q3]; exact fgt_21) (hx 24 (by decide)) ⟨fun j h0 h1 => ?_, fun k h0 h1 => by rw [q3]; exact fgt_71 ⟨h0, h1⟩⟩ (fun e he => ⟨?_, ?_⟩) (fun e he i hi => fo _ i (by omega) (fun m hm => by omega)) (fun c h1 h2 => funext fun i => fo c i (by omega) (fun m hm => by have := h1 m hm; omega))
      · rw [q3, fgt_o (by omega) (by omega) (by omega), mset_ne (by omega), p3]; exact endD_10 ⟨h0, h1⟩
      · rw [q3, fgt_o (by omega) (by omega) (by omega), mset_ne (by omega), p3, endD_s he, mset_ne (by omega)]
      · rw [q3, fgt_66 (by omega), mset_ne (by omega), p3, endD_o (by omega) (by omega) (fun m hm => by omega), mset_ne (by omega)]
    · have p3 : M1 = mset M 9 5 (1 - on) := p2.trans (if_neg h0)
      have e55 : M1 55 = M 55 := by rw [p3]; funext i; rw [mset_ne (by decide)]
      obtain ⟨q1, q2⟩ := hm.1 (by rw [e55]; omega)
      have q3 : M2 = mset M1 55 11 0 := q2.trans (if_pos (by omega))
      refine ⟨by rw [p1, q1], ?_⟩
      have eo : ∀ c, ¬ (c = 9 ∨ c = 55) → M2 c = M c := fun c hc => by
        rw [q3, p3]; funext i; rw [mset_ne (by omega), mset_ne (by omega)]
      have f55 : ∀ i, M2 55 i = if i = 11 then 0 else M 55 i := fun i => by
        rw [q3]; unfold mset; simp; rw [e55]
      have f9 : ∀ i, M2 9 i = if i = 5 then 1 - on else M 9 i := fun i => by
        rw [q3, mset_ne (by decide), p3]; unfold mset; simp
      have x0 : M2 55 0 = M 55 0 ∧ M2 55 5 = M 55 5 := ⟨by rw [f55, if_neg (by decide)], by rw [f55, if_neg (by decide)]⟩
      have hmo := fun (e : Nat) (he : e < 4) => moD_id (M2 := M2) (BI_RC hB hn he) (by rw [f9, if_pos rfl]; omega) (by rw [f9, if_neg (by decide)]) (by rw [f9, if_neg (by decide)]) (fun c hc => eo c (by omega)) (fun i hi => by rw [f55, if_neg (by omega)])
      have hm0 := hmo 0 (by decide)
      refine BI_flag hB hn ⟨hm0.2.2.2.1.1, hm0.2.2.2.1.2.1, hm0.2.2.2.1.2.2.1, by rw [f55, f55, if_neg (by decide), if_neg (by decide)]; exact t4⟩ ⟨by rw [f9, if_pos rfl, f55, if_pos rfl]; omega, by rw [f9, if_pos rfl]; omega⟩ (fun i hi => by rw [f9, if_neg hi]) (fun i hi => by rw [f55, if_neg (by omega)]) (fun h => by rw [f55, if_neg (by decide)] at h; exact h) (fun e he _ => hmo e he) (fun c hc => eo c (by omega))
  · obtain ⟨p1, p2⟩ := hd.2 hok
    subst p2
    obtain ⟨q1, q2⟩ := hm.2 (fun h => hok (by omega))
    subst q2
    exact ⟨by rw [p1, q1], hB⟩
end FL
