/-- the desk's half of one memory, the model's of another -/
def hyb (W X : Mem) : Mem := fun c => if c ≤ 54 then W c else X c
theorem hyb_d {W X : Mem} {c : Nat} (h : c ≤ 54) : hyb W X c = W c := if_pos h
theorem hyb_m {W X : Mem} {c : Nat} (h : 55 ≤ c) : hyb W X c = X c := if_neg (by omega)
/-- the invariant, but for the state of one evaluation -/
def BIx (n : Int) (e : Nat) (M : Mem) : Prop := (RT M ∧ TI M ∧ CI M ∧ (M 55 10 = 0 → M 55 9 = 0)) ∧ BL n M ∧ (KB M ∧ KR M ∧ KC M) ∧ M 55 9 = 1 ∧ BX M ∧ (∀ e' : Nat, e' < 4 → ¬ e' = e → EV e' M) ∧ (∀ j, j < 0 → M 74 j = 0) ∧ ((0 ≤ M 64 e ∧ M 64 e ≤ 40) ∧ M (19 + 9 * e) 6 = M 64 e ∧ (∀ k, 0 ≤ k → k < M 64 e → M (27 + 9 * e) k = M 63 (40 * e + k) ∧ 32 ≤ M 63 (40 * e + k) ∧ M 63 (40 * e + k) ≤ 126) ∧ ¬ M 65 e = 0)
theorem moD_g {M M2 : Mem} {e : Nat} (hR : RCx M e) (h3 : 0 ≤ M2 9 3 ∧ M2 9 3 ≤ 300) (h4 : 0 ≤ M2 9 4 ∧ M2 9 4 ≤ 300) (h5 : 0 ≤ M2 9 5 ∧ M2 9 5 ≤ 1) (hc : ∀ c : Nat, ((4 ≤ c ∧ c ≤ 8) ∨ (20 + 9 * e ≤ c ∧ c ≤ 25 + 9 * e) ∨ (56 ≤ c ∧ c ≤ 62)) → M2 c = M c) (h55 : ∀ i, i = 0 ∨ i = 5 ∨ i = 9 ∨ i = 10 → M2 55 i = M 55 i) (hk : ∀ p, 0 ≤ p → p < 364 → kbD M p = 1 → kbD M2 p = 1) : moD e M M2 := by
  obtain ⟨r1, r2, r3, ⟨r4, r5, r6⟩, r7⟩ := hR
  have ag : agM M M2 := ⟨⟨h55 0 (by omega), h55 5 (by omega), h55 9 (by omega), h55 10 (by omega)⟩, hc 56 (by omega), hc 57 (by omega), hc 58 (by omega), hc 59 (by omega), hc 60 (by omega), hc 61 (by omega), hc 62 (by omega)⟩
  have hT : RT M2 := by
    unfold RT at r1 ⊢
    rw [hc 4 (by omega), hc 5 (by omega), hc 6 (by omega), hc 7 (by omega), hc 8 (by omega), hc 56 (by omega), hc 57 (by omega), hc 58 (by omega), hc 59 (by omega), hc 60 (by omega), hc 61 (by omega), hc 62 (by omega), h55 0 (by omega), h55 5 (by omega), h55 9 (by omega), h55 10 (by omega)]
    exact r1
  exact ⟨fun c c1 c2 => hc c (by omega), hc 8 (by omega), ag, ⟨hT, agM_TI ag r2, agM_CI ag r3, ⟨h3, h4, h5⟩, r7⟩, hk⟩
/-- a request waits on one side if it does on the other -/
theorem has_eq {M : Mem} {p : Int} (h : RQL M) (hp : vpD M p) : hasReq M (pcD M p) ↔ hasA M p := by
  obtain ⟨d1, d2, d3, d4⟩ := h
  unfold hasReq hasA
  rw [d1]
  constructor
  · rintro ⟨k, h0, h1, h2⟩
    obtain ⟨e1, e2, -⟩ := d4 k h0 h1
    rw [e2] at h2
    exact ⟨k, h0, h1, pcD_inj e1 hp h2⟩
  · rintro ⟨k, h0, h1, h2⟩
    obtain ⟨e1, e2, -⟩ := d4 k h0 h1
    exact ⟨k, h0, h1, by rw [e2, h2]⟩
theorem RQL_cg {M M2 : Mem} (h9 : M2 9 3 = M 9 3 ∧ M2 9 4 = M 9 4) (h11 : M2 11 = M 11) (h12 : M2 12 = M 12) (h60 : M2 60 = M 60) (h55 : M2 55 21 = M 55 21 ∧ M2 55 24 = M 55 24) (h72 : M2 72 = M 72) (h73 : M2 73 = M 73) (h : RQL M) : RQL M2 := by
  have hv := vpD_eq h60
  unfold RQL at h ⊢
  rw [h9.1, h9.2, h11, h12, h55.1, h55.2, h72, h73, hv.1, hv.2]
  exact h
section BO
variable {W X W' X' : Mem} {n : Int} {e : Nat}
theorem go_both (hB : BIx n e (hyb W X)) (hag : agM W X) (hn : n ≤ 298) (he : e < 4) (hfr : frD e W W') (hnone : dfF (lexF X e) = none → W' (19 + 9 * e) 7 = 4 ∧ W' (19 + 9 * e) 8 = -1 ∧ W' (19 + 9 * e) 9 = 0 ∧ smL W W')
    (hsome : ∀ N S, dfF (lexF X e) = some (N, S) → ∀ TN, fxN X N TN → (¬ gdN TN 0 N.length → W' (19 + 9 * e) 7 = 5 ∧ W' (19 + 9 * e) 8 = -1 ∧ W' (19 + 9 * e) 9 = 0 ∧ smL W W') ∧ (gdN TN 0 N.length → W' (19 + 9 * e) 8 = TN (tp N) ∧ deR e W W' S (eV X N TN (tp N)))) (hF : ∀ x, dfF (lexF X e) = some x → TXo (lexF X e)) (hg : goS e X X') : BI (n + 1) (hyb W' X') ∧ agM W' X' ∧ W' (19 + 9 * e) 7 = X' 66 e := by
  obtain ⟨⟨b1, b2, b3, b4⟩, ⟨c1, c2, c3, c4, c5, c6⟩, ⟨k1, k2, k3⟩, r1, x1, v1, g1, t1, t2, t3, t4⟩ := hB
  have hB0 : RQL (hyb W X) := c3
  obtain ⟨d1, d2, d3, d4⟩ := c3
  obtain ⟨f1, f2, f3⟩ := hg
  have hd : ∀ c i, c ≤ 54 → ¬ dcell e c i → hyb W' X' c i = hyb W X c i := fun c i h1 h2 => by
    rw [hyb_d h1, hyb_d h1]; exact hfr c i h2
  have hm : ∀ c i, 55 ≤ c → ¬ gcell e c i → hyb W' X' c i = hyb W X c i := fun c i h1 h2 => by
    rw [hyb_m h1, hyb_m h1]; exact f1 c i h2
  have hdc : ∀ c, c ≤ 54 → (∀ i, ¬ dcell e c i) → hyb W' X' c = hyb W X c := fun c h1 h2 => funext fun i => hd c i h1 (h2 i)
  have hmc : ∀ c, 55 ≤ c → (∀ i, ¬ gcell e c i) → hyb W' X' c = hyb W X c := fun c h1 h2 => funext fun i => hm c i h1 (h2 i)
  have c10 : hyb W' X' 10 = hyb W X 10 := hdc 10 (by decide) (fun i => by unfold dcell; omega)
  have c71 : hyb W' X' 71 = hyb W X 71 := hmc 71 (by decide) (fun i => by unfold gcell; omega)
  have c60 : hyb W' X' 60 = hyb W X 60 := hmc 60 (by decide) (fun i => by unfold gcell; omega)
  have c55 : ∀ i, ¬ (i = 21 ∨ i = 24 ∨ i = 25 ∨ i = 28 ∨ i = 37 ∨ i = 39 ∨ (42 ≤ i ∧ i ≤ 47)) → hyb W' X' 55 i = hyb W X 55 i := fun i hi => hm 55 i (by decide) (by unfold gcell; omega)
  have c95 : hyb W' X' 9 5 = hyb W X 9 5 := hd 9 5 (by decide) (by unfold dcell; omega)
  have hv := vpD_eq (M := hyb W X) (W := hyb W' X') c60
  have hv2 := vpD_eq (M := hyb W X) (W := W) (by rw [hyb_m (by decide)]; exact hag.2.2.2.2.2.1.symm)
  have hk10 := kbD_eq (M := hyb W X) (W := hyb W' X') c10
  have hagV : agM W' X' := by
    have hh : ∀ (c : Nat) (i : Int), ((56 ≤ c ∧ c ≤ 62) ∨ (c = 55 ∧ (i = 0 ∨ i = 5 ∨ i = 9 ∨ i = 10))) → W' c i = W c i ∧ X' c i = X c i := fun c i hc => ⟨hfr c i (by unfold dcell; omega), f1 c i (by unfold gcell; omega)⟩
    obtain ⟨⟨u0, u5, u9, u10⟩, u6, u7, u8, u99, u60, u61, u62⟩ := hag
    exact ⟨⟨by rw [(hh 55 0 (by omega)).1, (hh 55 0 (by omega)).2]; exact u0, by rw [(hh 55 5 (by omega)).1, (hh 55 5 (by omega)).2]; exact u5, by rw [(hh 55 9 (by omega)).1, (hh 55 9 (by omega)).2]; exact u9, by rw [(hh 55 10 (by omega)).1, (hh 55 10 (by omega)).2]; exact u10⟩,
      funext fun i => by rw [(hh 56 i (by omega)).1, (hh 56 i (by omega)).2, u6], funext fun i => by rw [(hh 57 i (by omega)).1, (hh 57 i (by omega)).2, u7], funext fun i => by rw [(hh 58 i (by omega)).1, (hh 58 i (by omega)).2, u8], funext fun i => by rw [(hh 59 i (by omega)).1, (hh 59 i (by omega)).2, u99], funext fun i => by rw [(hh 60 i (by omega)).1, (hh 60 i (by omega)).2, u60], funext fun i => by rw [(hh 61 i (by omega)).1, (hh 61 i (by omega)).2, u61], funext fun i => by rw [(hh 62 i (by omega)).1, (hh 62 i (by omega)).2, u62]⟩
  -- what the two sides agree on gives the invariant
  have main : ∀ (hQ : RQL (hyb W' X')) (h12 : ∀ k, 0 ≤ k → k < W' 9 3 → 0 ≤ W' 12 k ∧ W' 12 k < 100000) (h34 : W' 9 3 ≤ W' 9 4 ∧ W' 9 4 ≤ n + 1) (h7 : W' (19 + 9 * e) 7 = X' 66 e) (h8 : W' (19 + 9 * e) 8 = X' 67 e) (h9 : W' (19 + 9 * e) 9 = if X' 66 e = 3 then X' 68 e else 0) (hv2 : X' 66 e = 2 → (1 ≤ W' (20 + 9 * e) 6 ∧ W' (20 + 9 * e) 6 ≤ 48) ∧ W' (26 + 9 * e) (W' (20 + 9 * e) 6 - 1) = X' 69 e) (hz : ¬ X' 66 e = 0) (hE : X' 66 e = 1 → EW e (hyb W' X')), BI (n + 1) (hyb W' X') ∧ agM W' X' ∧ W' (19 + 9 * e) 7 = X' 66 e := by
    intro hQ h12 h34 h7 h8 h9 hv2 hz hE
    have hl3 : 0 ≤ W' 9 3 ∧ W' 9 3 ≤ 300 := ⟨hQ.2.2.1.2, hQ.2.2.1.1⟩
    have hRC : ∀ e' : Nat, e' < 4 → RCx (hyb W X) e' := fun e' he' => ⟨b1, b2, b3, ⟨⟨d3.2, d3.1⟩, ⟨by omega, by omega⟩, c2⟩, he'⟩
    have hmo : ∀ e' : Nat, e' < 4 → ¬ e' = e → moD e' (hyb W X) (hyb W' X') := fun e' he' hne => moD_g (hRC e' he') hl3 (by show 0 ≤ W' 9 4 ∧ W' 9 4 ≤ 300; omega) (by rw [c95]; exact c2) (fun c hc => by
      by_cases h : c ≤ 54
      · exact hdc c h (fun i => by unfold dcell; omega)
      · exact hmc c (by omega) (fun i => by unfold gcell; omega)) (fun i hi => c55 i (by omega)) (fun p _ _ hk => by rw [hk10]; exact hk)
    obtain ⟨e0, he0, hne0⟩ : ∃ e0 : Nat, e0 < 4 ∧ ¬ e0 = e := by
      by_cases h : e = 0
      · exact ⟨1, by decide, by omega⟩
      · exact ⟨0, by decide, by omega⟩
    have hm0 := (hmo e0 he0 hne0).2.2.2.1
    refine ⟨⟨⟨hm0.1, hm0.2.1, hm0.2.2.1, by rw [c55 10 (by decide), c55 9 (by decide)]; exact b4⟩, ⟨by rw [c95, c55 11 (by decide)]; exact c1, by rw [c95]; exact c2, hQ, h12, h34.1, h34.2⟩, ⟨⟨fun j h0 h1 => by rw [c10]; exact k1.1 j h0 h1, fun k h0 h1 => by rw [c71]; exact k1.2 k h0 h1⟩, ?_, ?_⟩, fun h => ?_, ?_, fun e' he' => ?_, fun j hj => ?_⟩, hagV, h7⟩
    · unfold KR; rw [hv.1, hv.2, hk10, c71]; exact k2
    · unfold KC at k3 ⊢
      have q1 : ∀ j, kcS (hyb W' X') j = kcS (hyb W X) j := fun j => by
        induction j with
        | zero => rfl
        | succ j ih => unfold kcS; rw [ih, c10]
      have q2 : ∀ j, cntM (hyb W' X') j = cntM (hyb W X) j := fun j => by
        induction j with
        | zero => rfl
        | succ j ih => unfold cntM; rw [ih, c71]
      rw [q1, q2]; exact k3
    · rw [c55 9 (by decide), r1] at h; exact absurd h (by decide)
    · unfold BX
      rw [hdc 1 (by decide) (fun i => by unfold dcell; omega), hdc 3 (by decide) (fun i => by unfold dcell; omega), hmc 63 (by decide) (fun i => by unfold gcell; omega), hmc 64 (by decide) (fun i => by unfold gcell; omega)]
      exact x1
    · by_cases hee : e' = e
      · subst hee
        have m64 : hyb W' X' 64 = hyb W X 64 := hmc 64 (by decide) (fun i => by unfold gcell; omega)
        have m63 : hyb W' X' 63 = hyb W X 63 := hmc 63 (by decide) (fun i => by unfold gcell; omega)
        have m65 : hyb W' X' 65 = hyb W X 65 := hmc 65 (by decide) (fun i => by unfold gcell; omega)
        have m27 : hyb W' X' (27 + 9 * e') = hyb W X (27 + 9 * e') := hdc _ (by omega) (fun i => by unfold dcell; omega)
        have m6 : hyb W' X' (19 + 9 * e') 6 = hyb W X (19 + 9 * e') 6 := hd _ 6 (by omega) (by unfold dcell; omega)
        unfold EV
        rw [m64, m63, m65, m27, m6, hyb_d (W := W') (X := X') (c := 19 + 9 * e') (by omega), hyb_d (c := 20 + 9 * e') (by omega), hyb_d (c := 26 + 9 * e') (by omega), hyb_m (c := 66) (by decide), hyb_m (c := 67) (by decide), hyb_m (c := 68) (by decide), hyb_m (c := 69) (by decide)]
        exact ⟨t1, t2, t3, h7, h8, h9, hv2, ⟨fun h => absurd h t4, fun h => absurd h hz⟩, hE⟩
      · exact EV_mv (fun _ => ⟨hRC e' he', hmo e' he' hee⟩) (hdc _ (by omega) (fun i => by unfold dcell; omega)) (hdc _ (by omega) (fun i => by unfold dcell; omega)) (hdc _ (by omega) (fun i => by unfold dcell; omega)) (hdc _ (by omega) (fun i => by unfold dcell; omega)) (fun k _ _ => hm 63 _ (by decide) (by unfold gcell; omega)) (fun c k1 k2 => hm c _ (by omega) (by unfold gcell; omega)) (v1 e' he' hee)
    · rw [hm 74 j (by decide) (by unfold gcell; omega)]; exact g1 j hj
  have w93 : hyb W X 9 3 = W 9 3 := rfl
  have w94 : hyb W X 9 4 = W 9 4 := rfl
  have x21 : hyb W X 55 21 = X 55 21 := rfl
  have x24 : hyb W X 55 24 = X 55 24 := rfl
  have same : smL W W' → smR X X' → RQL (hyb W' X') ∧ (∀ k, 0 ≤ k → k < W' 9 3 → 0 ≤ W' 12 k ∧ W' 12 k < 100000) ∧ W' 9 3 ≤ W' 9 4 ∧ W' 9 4 ≤ n + 1 := by
    rintro ⟨s1, s2, s3, s4⟩ ⟨u1, u2, u3, u4⟩
    refine ⟨RQL_cg (M := hyb W X) (M2 := hyb W' X') ⟨s1, s2⟩ s3 s4 c60 ⟨u1, u2⟩ u3 u4 hB0, fun k h0 h1 => ?_, by rw [s1, s2]; exact c5, by rw [s2]; rw [w94] at c6; omega⟩
    rw [s1] at h1; rw [s4]; exact c4 k h0 h1
  have c5' : W 9 3 ≤ W 9 4 := c5
  have c6' : W 9 4 ≤ n := c6
  have d3' : W 9 3 ≤ 300 ∧ 0 ≤ W 9 3 := d3
  cases hD : dfF (lexF X e) with
  | none =>
    obtain ⟨a1, a2, a3, a4⟩ := hnone hD
    obtain ⟨m1, m2, m3, m4⟩ := f2 hD
    obtain ⟨s1, s2, s3⟩ := same a4 m4
    exact main s1 s2 s3 (by rw [a1, m1]) (by rw [a2, m2]) (by rw [a3, if_neg (by omega)]) (fun h => by omega) (by omega) (fun h => by omega)
  | some x =>
    obtain ⟨N, S⟩ := x
    have hF := hF _ hD
    obtain ⟨T, q1, q2⟩ := f3 N S hD
    obtain ⟨p1, p2⟩ := hsome N S hD T q1
    obtain ⟨-, hS1, hS48⟩ := desc_cmp hF.1 hD
    rcases q2 with ⟨q2, m1, m2, m3, m4⟩ | ⟨q2, m2, m3⟩
    · obtain ⟨a1, a2, a3, a4⟩ := p1 q2
      obtain ⟨s1, s2, s3⟩ := same a4 m4
      exact main s1 s2 s3 (by rw [a1, m1]) (by rw [a2, m2]) (by rw [a3, if_neg (by omega)]) (fun h => by omega) (by omega) (fun h => by omega)
    · obtain ⟨a2, o1, o2, o3⟩ := p2 q2
      obtain ⟨u1, u2, u3, u4⟩ := m3
      generalize eV X N T (tp N) = R at o1 o2 o3 u1 u2 u3 u4
      rcases u4 with h | h | h
      · obtain ⟨i1, i2, i3, i4, i5⟩ := o1 h
        obtain ⟨j1, j2, j3, j4⟩ := u1 h
        obtain ⟨s1, s2, s3⟩ := same i5 j4
        exact main s1 s2 s3 (by rw [i1, j1]) (by rw [a2, m2]) (by rw [i2, if_neg (by omega)]) (fun _ => ⟨by rw [i3]; omega, by rw [i3, i4, j2]⟩) (by omega) (fun h => by omega)
      · obtain ⟨i1, i2, i3⟩ := o2 h
        obtain ⟨j1, j2, j3⟩ := u2 h
        have hbr : W 9 5 = X 55 11 := c1
        have hb01 : 0 ≤ W 9 5 ∧ W 9 5 ≤ 1 := c2
        by_cases h5 : W 9 5 = 1
        · obtain ⟨i4, i5⟩ := i2 h5
          obtain ⟨j4, j5⟩ := j2 (by omega)
          obtain ⟨s1, s2, s3⟩ := same i5 j5
          exact main s1 s2 s3 (by rw [i4, j4]) (by rw [a2, m2]) (by rw [i1, if_neg (by omega)]) (fun h => by omega) (by omega) (fun h => by omega)
        · obtain ⟨i4, i5, i6, i7, i8⟩ := i3 h5
          obtain ⟨j4, j5, j6⟩ := j3 (by omega)
          rw [hv2.1] at i5
          rw [hv2.2] at i6
          rw [i6] at j5 j6
          have hreq : hasReq X (pcD (hyb W X) (W' (19 + 9 * e) 11)) ↔ hasA W (W' (19 + 9 * e) 11) := has_eq hB0 i5
          have hl : RQL (hyb W' X') ∧ (∀ k, 0 ≤ k → k < W' 9 3 → 0 ≤ W' 12 k ∧ W' 12 k < 100000) ∧ W' 9 3 ≤ W' 9 4 ∧ W' 9 4 ≤ n + 1 := by
            by_cases hh : hasA W (W' (19 + 9 * e) 11)
            · exact same (i7.1 hh) (j6.1 (hreq.mpr hh))
            · obtain ⟨s1, s2, s3, s4⟩ := i7.2 hh
              obtain ⟨z1, z2, z3, z4⟩ := j6.2 (fun h9 => hh (hreq.mp h9))
              have d1' : X 55 21 = W 9 3 := d1
              have d2' : X 55 24 = W 9 4 := d2
              refine ⟨⟨by show X' 55 21 = W' 9 3; rw [z1, s1, d1'], by show X' 55 24 = W' 9 4; rw [z2, s2, d2'], by show W' 9 3 ≤ 300 ∧ 0 ≤ W' 9 3; omega, fun k h0 h1 => ?_⟩, fun k h0 h1 => ?_, by omega, by omega⟩
              · have h1' : k < W' 9 3 := h1
                show vpD (hyb W' X') (W' 11 k) ∧ X' 72 k = pcD (hyb W' X') (W' 11 k) ∧ X' 73 k = W' 12 k
                rw [hv.1, hv.2, s3, s4, z3, z4, d1', d2']
                by_cases hk : k = W 9 3
                · simp only [if_pos hk]
                  exact ⟨i5, trivial, trivial⟩
                · simp only [if_neg hk]
                  exact d4 k h0 (by show k < W 9 3; omega)
              · rw [s4]
                by_cases hk : k = W 9 3
                · simp only [if_pos hk]; omega
                · simp only [if_neg hk]; exact c4 k h0 (by show k < W 9 3; omega)
          refine main hl.1 hl.2.1 hl.2.2 (by rw [i4, j4]) (by rw [a2, m2]) (by rw [i1, if_neg (by omega)]) (fun h => by omega) (by omega) (fun _ => ?_)
          have hlex : lexF (hyb W' X') e = lexF X e := lexF_cg (M := X) (M2 := hyb W' X') t1.2 (hm 64 _ (by decide) (by unfold gcell; omega)) (fun k _ _ => hm 63 _ (by decide) (by unfold gcell; omega))
          have hT2 : agM X (hyb W' X') := agM_tr (agM_sy hag) (agM_tr (by
            have hh : ∀ (c : Nat) (i : Int), ((56 ≤ c ∧ c ≤ 62) ∨ (c = 55 ∧ (i = 0 ∨ i = 5 ∨ i = 9 ∨ i = 10))) → W' c i = W c i := fun c i hc => hfr c i (by unfold dcell; omega)
            exact ⟨⟨hh 55 0 (by omega), hh 55 5 (by omega), hh 55 9 (by omega), hh 55 10 (by omega)⟩, funext fun i => hh 56 i (by omega), funext fun i => hh 57 i (by omega), funext fun i => hh 58 i (by omega), funext fun i => hh 59 i (by omega), funext fun i => hh 60 i (by omega), funext fun i => hh 61 i (by omega), funext fun i => hh 62 i (by omega)⟩ : agM W W') hagV)
          refine ⟨?_, ?_, N, S, T, by rw [hlex]; exact hD, fxN_ag hT2 q1, q2, m2, ?_⟩
          · rw [hv.1, hyb_d (c := 19 + 9 * e) (by omega)]; exact i5
          · rw [hv.2, hyb_d (c := 19 + 9 * e) (by omega), hyb_m (c := 70) (by decide)]; exact j5
          · have hagW : agM W' (hyb W' X') := hagV
            have hRW' : RCx W' e := by
              have hz : ∀ (c : Nat) (i : Int), ((4 ≤ c ∧ c ≤ 8) ∨ (56 ≤ c ∧ c ≤ 62) ∨ (c = 55 ∧ (i = 0 ∨ i = 5 ∨ i = 9 ∨ i = 10))) → W' c i = hyb W X c i := fun c i hc => by
                rw [hfr c i (by unfold dcell; omega)]
                by_cases h : c ≤ 54
                · rw [hyb_d h]
                · rw [hyb_m (by omega)]
                  rcases hc with hc | hc | hc
                  · omega
                  · rcases (show c = 56 ∨ c = 57 ∨ c = 58 ∨ c = 59 ∨ c = 60 ∨ c = 61 ∨ c = 62 by omega) with rfl | rfl | rfl | rfl | rfl | rfl | rfl
                    · rw [hag.2.1]
                    · rw [hag.2.2.1]
                    · rw [hag.2.2.2.1]
                    · rw [hag.2.2.2.2.1]
                    · rw [hag.2.2.2.2.2.1]
                    · rw [hag.2.2.2.2.2.2.1]
                    · rw [hag.2.2.2.2.2.2.2]
                  · obtain ⟨rfl, hi⟩ := hc
                    rcases hi with rfl | rfl | rfl | rfl
                    · exact hag.1.1.symm
                    · exact hag.1.2.1.symm
                    · exact hag.1.2.2.1.symm
                    · exact hag.1.2.2.2.symm
              have agZ : agM (hyb W X) W' := ⟨⟨hz 55 0 (by omega), hz 55 5 (by omega), hz 55 9 (by omega), hz 55 10 (by omega)⟩, funext fun i => hz 56 i (by omega), funext fun i => hz 57 i (by omega), funext fun i => hz 58 i (by omega), funext fun i => hz 59 i (by omega), funext fun i => hz 60 i (by omega), funext fun i => hz 61 i (by omega), funext fun i => hz 62 i (by omega)⟩
              refine ⟨?_, agM_TI agZ b2, agM_CI agZ b3, ⟨⟨hl.1.2.2.1.2, hl.1.2.2.1.1⟩, ⟨by have := hl.1.2.2.1.2; have h9 : 0 ≤ W' 9 3 := this; omega, by omega⟩, by show 0 ≤ W' 9 5 ∧ W' 9 5 ≤ 1; rw [hfr 9 5 (by unfold dcell; omega)]; exact c2⟩, he⟩
              unfold RT at b1 ⊢
              rw [show W' 4 = hyb W X 4 from funext fun i => hz 4 i (by omega), show W' 5 = hyb W X 5 from funext fun i => hz 5 i (by omega), show W' 6 = hyb W X 6 from funext fun i => hz 6 i (by omega), show W' 7 = hyb W X 7 from funext fun i => hz 7 i (by omega), show W' 8 = hyb W X 8 from funext fun i => hz 8 i (by omega), agZ.2.1, agZ.2.2.1, agZ.2.2.2.1, agZ.2.2.2.2.1, agZ.2.2.2.2.2.1, agZ.2.2.2.2.2.2.1, agZ.2.2.2.2.2.2.2, agZ.1.1, agZ.1.2.1, agZ.1.2.2.1, agZ.1.2.2.2]
              exact b1
            have hmo : moD e W' (hyb W' X') := moD_g hRW' hRW'.2.2.2.1.1 hRW'.2.2.2.1.2.1 hRW'.2.2.2.1.2.2 (fun c hc => by
              by_cases h : c ≤ 54
              · exact hyb_d h
              · rw [hyb_m (by omega)]
                rcases (show c = 56 ∨ c = 57 ∨ c = 58 ∨ c = 59 ∨ c = 60 ∨ c = 61 ∨ c = 62 by omega) with rfl | rfl | rfl | rfl | rfl | rfl | rfl
                · exact hagV.2.1
                · exact hagV.2.2.1
                · exact hagV.2.2.2.1
                · exact hagV.2.2.2.2.1
                · exact hagV.2.2.2.2.2.1
                · exact hagV.2.2.2.2.2.2.1
                · exact hagV.2.2.2.2.2.2.2) (fun i hi => by
                rw [hyb_m (by decide)]
                rcases hi with rfl | rfl | rfl | rfl
                · exact hagV.1.1
                · exact hagV.1.2.1
                · exact hagV.1.2.2.1
                · exact hagV.1.2.2.2) (fun p _ _ hk => hk)
            exact WTd_mv hRW' hmo (hyb_d (by omega)) (by rw [hyb_d (by omega)]) i8
      · obtain ⟨i1, i2, i3⟩ := o3 h
        obtain ⟨j1, j2, j3⟩ := u3 h
        obtain ⟨s1, s2, s3⟩ := same i3 j3
        exact main s1 s2 s3 (by rw [i1, j1]) (by rw [a2, m2]) (by rw [i2, if_pos j1, j2]) (fun h => by omega) (by omega) (fun h => by omega)
end BO
