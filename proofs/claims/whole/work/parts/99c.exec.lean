section EXC
variable {W A : Mem} {e : Nat} {N : List ND} {S : List SD} {TN TS : Int → Int}
theorem pS_0 {L q : Int} {V : Int → Int} : pS W e L 0 V q V q := ⟨rfl, rfl⟩
theorem valid_w {ka y : Int} (hI : TI W) (h4 : 4 ≤ ka) (h : validB W ka y = true) : 0 ≤ w32 y ∧ w32 y ≤ W 55 5 := by
  have := valid_in hI h4 h
  have h12 := hI.2.1
  rw [w32_id (by omega)]
  exact this
theorem ev_con {i : Nat} {t v : Int} (ha : allN N) (h32 : N.length ≤ 32) (hN : fxN A N TN) (h1 : N[i]? = some (t, -1, -1, -1, v)) (ht : 1 ≤ t ∧ t ≤ 5) (hv : t = 1 → w32 v = v) : eV A N TN (i : Int) = (0, tnum t v) := by
  have hk : TN (i : Int) = kchk A t (w32 v) (TN (-1)) (TN (-1)) (TN (-1)) := hN i _ h1
  rw [eV_at ha h32 h1, evX_lo (show t < 8 by omega)]
  show nrK (TN (i : Int)) (cF A t v (TN (i : Int)) 0 0 0) = (0, tnum t v)
  rcases (show t = 1 ∨ t = 2 ∨ t = 3 ∨ t = 4 ∨ t = 5 by omega) with rfl | rfl | rfl | rfl | rfl
  · rw [show TN (i : Int) = 0 from hk]
    show ((0 : Int), w32 v) = (0, v)
    rw [hv rfl]
  · rw [show TN (i : Int) = 1 from hk]; rfl
  · rw [show TN (i : Int) = 2 from hk]; rfl
  · rw [show TN (i : Int) = 3 from hk]; rfl
  · rw [show TN (i : Int) = 17 from hk]; rfl
theorem cho_ok {k v ka kb kc y : Int} (hk : k = kchk W 65 v ka kb kc) (h3 : ka = 3) (h0 : 0 ≤ k) (hb : 0 ≤ kb) (hc : 0 ≤ kc) (hv : validB W kb y = true ∨ validB W kc y = true) : (if k = 0 then w32 y else y) = y := by
  by_cases e0 : k = 0
  · rw [if_pos e0]
    rw [kc_65, if_pos h3, e0] at hk
    have h9 : (kb = 0 ∨ kb = 2) ∧ (kc = 0 ∨ kc = 2) := by
      unfold eithV at hk
      by_cases e : kb = kc
      · rw [if_pos e] at hk; omega
      rw [if_neg e] at hk
      by_cases e2 : kb < 3 ∧ kc < 3
      · rw [if_pos e2] at hk
        unfold comV at hk
        split at hk <;> omega
      rw [if_neg e2] at hk
      by_cases e3 : relB W kb kc = true
      · have := (rel_e.mp e3).1
        rw [if_pos e3] at hk
        split at hk <;> omega
      · rw [if_neg e3] at hk; omega
    rcases hv with hv | hv
    · exact int_rng h9.1 hv
    · exact int_rng h9.2 hv
  · rw [if_neg e0]
/-- the steps of an expression work out the value of its node -/
theorem exec (h : RS W A e N S TN TS) : ∀ {f i j a b : Nat}, Comp N S f i j a b → ∀ V, cnV S V → exQ W A e N S TN j a b V := by
  have hRS := h
  obtain ⟨hR, hK, hs, h48, hTS, hty, hS⟩ := h
  have hty0 := hty
  obtain ⟨ha, h32, hIA, hCA, hN, hT, hw⟩ := hty0
  obtain ⟨hRT, hI, hC, hline, he⟩ := hR
  have hR : RCx W e := ⟨hRT, hI, hC, hline, he⟩
  have h12 := hI.2.1
  have val : ∀ {n y : Int}, 0 ≤ n → n < N.length → eV A N TN n = (0, y) → validB W (TN n) y = true := fun h0 h1 hy => by
    rw [← agM_valid hK.1]; exact ev_valid0 hty h0 h1 hy
  have rg : ∀ {p : Nat} {s : SD}, S[p]? = some s → 0 ≤ (p : Int) ∧ (p : Int) < 48 ∧ (p : Int) < S.length := fun hp => by
    have := (List.getElem?_eq_some_iff.mp hp).1; omega
  have kN : ∀ {n : Nat} {x : ND}, N[n]? = some x → TN (n : Int) = kchk W x.1 (w32 x.2.2.2.2) (TN x.2.1) (TN x.2.2.1) (TN x.2.2.2.1) := fun hx => (hN _ _ hx).trans (agM_kchk hK.1 _ _ _ _ _)
  have k0 : ∀ {n : Nat} {x : ND}, N[n]? = some x → 0 ≤ TN (n : Int) := fun {n x} hx => by
    have := (List.getElem?_eq_some_iff.mp hx).1
    exact (hT n (by omega) (by omega)).1
  have k25 : ∀ {p : Nat} {s : SD}, S[p]? = some s → W (25 + 9 * e) p = TS p ∧ vK W (TS p) := fun hp => hTS _ (List.getElem?_eq_some_iff.mp hp).1
  have k25' : ∀ {p : Nat}, p ≤ S.length → 0 < p → W (25 + 9 * e) ((p : Int) - 1) = TS ((p : Int) - 1) ∧ vK W (TS ((p : Int) - 1)) := fun {p} h1 h2 => by
    have := hTS (p - 1) (by omega)
    rw [show ((p - 1 : Nat) : Int) = (p : Int) - 1 by omega] at this
    exact this
  intro f
  induction f with
  | zero => intro i j a b h; exact h.elim
  | succ f ih =>
    intro i j a b hc V hcn
    have hself := RS_kd hRS hc
    rcases hc with ⟨x, s, rfl, rfl, h1, h2, h3⟩ | ⟨rfl, rfl, h1, h2, h3, h4⟩ | ⟨j1, b1, x, s, rfl, rfl, h1, h2, h3, h4⟩ | ⟨m, q, j1, b1, x, s, rfl, rfl, h1, h2, h3, h4, h5⟩ | ⟨m, q, j1, b1, t, rfl, rfl, h0, h1, h2, h3, h4, h5⟩ | ⟨m1, m2, q1, q2, j1, b1, rfl, rfl, h1, h2, h3, h4, h5, h6, h7⟩
    · -- a constant or a variable
      obtain ⟨g1, -, -, -, g5, -, -⟩ := ha i x h1
      have hwx := hw x (List.mem_of_getElem? h1)
      obtain ⟨t, v, rfl, h9⟩ := h3
      obtain ⟨r1, r2, r3⟩ := rg h2
      obtain ⟨w1, w2, w3, w4, -⟩ := hs.2 a s h2
      have g5' : t = 7 ∨ t = 60 → 0 ≤ v ∧ v < 26 := g5
      rcases h9 with ⟨c1, c2, hne, rfl⟩ | ⟨rfl, rfl⟩ | ⟨rfl, rfl⟩
      · have hev := ev_con (A := A) ha h32 hN h1 ⟨c1, c2⟩ (fun e1 => by have := hwx.2.2 e1; have h5 : 0 ≤ v ∧ v ≤ 2147483648 := this; exact w32_id (by omega))
        have d1 : ((i + 1 : Nat) : Int) - 1 = (i : Int) := by omega
        have d2 : ((a + 1 : Nat) : Int) - 1 = (a : Int) := by omega
        unfold exQ
        rw [d1, d2, hev]
        refine ⟨fun y hy => ?_, fun hn => absurd rfl hn⟩
        cases hy
        refine ⟨1, V, ?_, hcn a _ h2 rfl, fun x _ => rfl, hcn⟩
        rw [show ((a + 1 : Nat) : Int) = (a : Int) + 1 by omega]
        exact pS_jmp r3 (stH_137 hR ⟨r1, r2⟩ w1 w2 w3 w4 ⟨by show (0 : Int) ≤ 0; decide, by show (0 : Int) < 48; decide⟩) (stY_137 w1)
      · have hv := g5' (Or.inl rfl)
        refine ex_end (Nat.le_refl _) h2 (by show ¬ (143 : Int) = 137; decide) pS_0 (stH_143 hR ⟨r1, r2⟩ w1 w2 w3 w4 ⟨by show (0 : Int) ≤ 0; decide, by show (0 : Int) < 48; decide⟩ (by show 0 ≤ v ∧ v ≤ 26; omega)) (fun x _ => rfl) hcn ((eV_at ha h32 h1).trans (evX_lo (show (7 : Int) < 8 by decide))) ?_
        rw [stY_143 w1, w3]
        have hk := kN h1
        have hk2 : TN (i : Int) = W 58 (w32 v) := hk
        show rlR W (ndR W (28 * 0 + v)) (nrK (TN (i : Int)) (needF A (w32 v) (A 59 (w32 v))))
        rw [w32_id (by omega)] at hk2 ⊢
        exact op_var hRT hC hK (by omega) hk2 (k0 h1)
      · refine ex_end (Nat.le_refl _) h2 (by show ¬ (143 : Int) = 137; decide) pS_0 (stH_143 hR ⟨r1, r2⟩ w1 w2 w3 w4 ⟨by show (0 : Int) ≤ 0; decide, by show (0 : Int) < 48; decide⟩ ⟨by show (0 : Int) ≤ 26; decide, by show (26 : Int) ≤ 26; decide⟩) (fun x _ => rfl) hcn ((eV_at ha h32 h1).trans (evX_lo (show (6 : Int) < 8 by decide))) ?_
        rw [stY_143 w1, w3]
        have hk2 : TN (i : Int) = W 58 26 := kN h1
        show rlR W (ndR W (28 * 0 + 26)) (nrK (TN (i : Int)) (needF A 26 (A 59 26)))
        exact op_var hRT hC hK (by decide) hk2 (k0 h1)
    · -- the least int
      obtain ⟨r1, r2, r3⟩ := rg h2
      obtain ⟨w1, w2, w3, w4, -⟩ := hs.2 a _ h2
      obtain ⟨q1, q2, q3⟩ := rg h4
      obtain ⟨z1, z2, z3, z4, -⟩ := hs.2 (a + 1) _ h4
      have hk1 : TN (i : Int) = 0 := kN h1
      have hk3 : TN ((i + 1 : Nat) : Int) = kchk W 128 (w32 0) (TN i) (TN (-1)) (TN (-1)) := kN h3
      have hk4 : TN ((i + 1 : Nat) : Int) = 0 := by rw [hk3, hk1]; simp [kchk, comV]
      have ev1 : eV A N TN (i : Int) = (0, -2147483648) := by
        rw [eV_at ha h32 h1, evX_lo (show (1 : Int) < 8 by decide), hk1]; rfl
      have ev2 : eV A N TN ((i + 1 : Nat) : Int) = (0, -2147483648) := by
        rw [eV_at ha h32 h3, evX_one (a := -2147483648) (by show ¬ (128 : Int) < 8; decide) (by show ¬ (128 : Int) = 65; decide) ev1 (Or.inl (by show (-1 : Int) < 0; decide)), hk4]
        show nrK 0 (cF A (100 + 28) 0 0 (TN (i : Int)) (-2147483648) 0) = (0, -2147483648)
        rw [cF_una (Or.inr (Or.inl rfl))]
        decide +kernel
      have hk5 : TS ((a + 1 : Nat) : Int) = 0 := by
        have := hself.1
        rw [show ((i + 2 : Nat) : Int) - 1 = ((i + 1 : Nat) : Int) by omega, show ((a + 2 : Nat) : Int) - 1 = ((a + 1 : Nat) : Int) by omega, hk4] at this
        exact this.symm
      have hp1 : pS W e S.length 1 V a V ((a + 1 : Nat) : Int) := by
        rw [show ((a + 1 : Nat) : Int) = (a : Int) + 1 by omega]
        exact pS_jmp r3 (stH_137 hR ⟨r1, r2⟩ w1 w2 w3 w4 ⟨by show (0 : Int) ≤ 0; decide, by show (0 : Int) < 48; decide⟩) (stY_137 w1)
      refine ex_end (j := i + 1) (b1 := a + 1) (by omega) h4 (by show ¬ (148 : Int) = 137; decide) hp1 (stH_two hR ⟨q1, q2⟩ z1 z2 z3 z4 ⟨r1, r2⟩ ⟨by show (0 : Int) ≤ 0; decide, by show (0 : Int) < 48; decide⟩ (by show ¬ ((148 : Int) = 137 ∨ (148 : Int) = 143 ∨ (148 : Int) = 144 ∨ (148 : Int) = 142 ∨ (148 : Int) = 145 ∨ (148 : Int) = 141 ∨ (148 : Int) = 146 ∨ (148 : Int) = 149 ∨ (148 : Int) = 150 ∨ (148 : Int) = 151 ∨ (148 : Int) = 152); decide)) (fun x _ => rfl) hcn ev2 ?_
      rw [stY_two z1 (by show ¬ ((148 : Int) = 137 ∨ (148 : Int) = 143 ∨ (148 : Int) = 144 ∨ (148 : Int) = 142 ∨ (148 : Int) = 145 ∨ (148 : Int) = 141 ∨ (148 : Int) = 146 ∨ (148 : Int) = 149 ∨ (148 : Int) = 150 ∨ (148 : Int) = 151 ∨ (148 : Int) = 152); decide), z2, (k25 h4).1, hk5]
      have hva : V (a : Int) = 2147483648 := hcn a _ h2 rfl
      show rlR W (sgnR 148 0 (V (a : Int)) _) _
      rw [hva]
      have e1 : ∀ y, sgnR 148 0 2147483648 y = (0, -2147483648) := fun y => by
        have : sgnR 148 0 2147483648 y = (0, naD 0 (o_lneg 2147483648)) := by simp [sgnR, chgD]
        rw [this]
        decide +kernel
      rw [e1]
      exact rl_0
    · -- one operand
      have l1 := Comp_lt h1
      have hin := Comp_in h1
      have hkd := RS_kd hRS h1
      have IH := ih h1 V hcn
      obtain ⟨r1, r2, r3⟩ := rg h3
      obtain ⟨w1, w2, w3, w4, -⟩ := hs.2 b1 s h3
      have hk := kN h2
      have hkp := k0 h2
      have hsf : TN (j1 : Int) = TS (b1 : Int) := by
        have := hself.1
        rw [show ((j1 + 1 : Nat) : Int) - 1 = (j1 : Int) by omega, show ((b1 + 1 : Nat) : Int) - 1 = (b1 : Int) by omega] at this
        exact this
      have hs1 : 0 ≤ (b1 : Int) - 1 ∧ (b1 : Int) - 1 < 48 := by omega
      have h25 := k25' hin.2 (by omega)
      rw [← hkd.1] at h25
      have hj0 : 0 ≤ (j1 : Int) - 1 := by omega
      have hj1 : (j1 : Int) - 1 < N.length := by omega
      have hab : a ≤ b1 := by omega
      have c1 : ((j1 + 1 : Nat) : Int) - 1 = (j1 : Int) := by omega
      have hu : ¬ x.1 = 65 ∧ ¬ x.1 < 8 ∧ x.2.2.1 = -1 ∧ x.2.1 = (j1 : Int) - 1 := by
        obtain ⟨u, v, rfl, h9⟩ := h4
        refine ⟨?_, ?_, rfl, rfl⟩
        · show ¬ u = 65
          rcases h9 with h9 | h9 | h9 | h9 | ⟨t, ht, h9, -⟩ <;> omega
        · show ¬ u < 8
          rcases h9 with h9 | h9 | h9 | h9 | ⟨t, ht, h9, -⟩ <;> omega
      obtain ⟨hu65, hu8, hub, hua⟩ := hu
      by_cases hf : (eV A N TN ((j1 : Int) - 1)).1 = 0
      · have e1 : eV A N TN ((j1 : Int) - 1) = (0, (eV A N TN ((j1 : Int) - 1)).2) := Prod.ext hf rfl
        generalize (eV A N TN ((j1 : Int) - 1)).2 = y at e1
        obtain ⟨n, V1, p1, p2, p3, p4⟩ := IH.1 y e1
        have hval := val hj0 hj1 e1
        have hev := (eV_at (A := A) ha h32 h2).trans (evX_one hu8 hu65 (by rw [hua]; exact e1) (Or.inl (by rw [hub]; decide)))
        have fr : ∀ x : Int, x < a ∨ (b1 : Int) ≤ x → V1 x = V x := p3
        have hsmall : 4 ≤ TN ((j1 : Int) - 1) → 0 ≤ w32 (V1 ((b1 : Int) - 1)) ∧ w32 (V1 ((b1 : Int) - 1)) ≤ W 55 5 := fun h4 => by
          rw [p2]; exact valid_w hI h4 hval
        obtain ⟨-, -, -, -, g5, g6, g7⟩ := ha j1 x h2
        obtain ⟨u, v, rfl, h9⟩ := h4
        have g5' : u = 7 ∨ u = 60 → 0 ≤ v ∧ v < 26 := g5
        have g6' : u = 63 → 0 ≤ v ∧ v < 6 := g6
        have g7' : u = 64 → 0 ≤ v ∧ v < 17 := g7
        have hk9 : TN (j1 : Int) = kchk W u (w32 v) (TN ((j1 : Int) - 1)) (TN (-1)) (TN (-1)) := hk
        have hev : eV A N TN (j1 : Int) = nrK (TN (j1 : Int)) (cF A u v (TN (j1 : Int)) (TN ((j1 : Int) - 1)) y 0) := hev
        rcases h9 with ⟨rfl, rfl⟩ | ⟨rfl, rfl⟩ | ⟨rfl, rfl⟩ | ⟨rfl, rfl⟩ | ⟨t, ht, rfl, rfl, rfl⟩
        · have hv := g5' (Or.inr rfl)
          rw [w32_id (show -2147483648 ≤ v ∧ v < 2147483648 by omega), kc_60] at hk9
          have hka : 4 ≤ TN ((j1 : Int) - 1) ∧ TN ((j1 : Int) - 1) < 10 := by
            by_cases hc : 4 ≤ TN ((j1 : Int) - 1) ∧ TN ((j1 : Int) - 1) < 10
            · exact hc
            · rw [if_neg hc] at hk9; omega
          rw [if_pos hka] at hk9
          have hsm := hsmall hka.1
          refine ex_end hab h3 (by show ¬ (144 : Int) = 137; decide) p1 (stH_144 hR ⟨r1, r2⟩ w1 w2 w3 w4 hs1 hv (by show 0 ≤ w32 (V1 ((b1 : Int) - 1)) ∧ w32 (V1 ((b1 : Int) - 1)) ≤ 12; omega)) fr p4 hev ?_
          rw [stY_144 w1, w2, w3]
          show rlR W (partR W (w32 (V1 ((b1 : Int) - 1))) v) (nrK (TN (j1 : Int)) (intoF A 60 (w32 v) (w32 y) 0))
          rw [p2, w32_id (show -2147483648 ≤ v ∧ v < 2147483648 by omega)]
          exact op_field hRT hI hC hK hka hv hk9 hkp hval
        · rw [kc_61] at hk9
          have hka : 10 ≤ TN ((j1 : Int) - 1) ∧ TN ((j1 : Int) - 1) < 17 := by
            by_cases hc : 10 ≤ TN ((j1 : Int) - 1) ∧ TN ((j1 : Int) - 1) < 17
            · exact hc
            · rw [if_neg hc] at hk9; omega
          rw [if_pos hka] at hk9
          have hsm := hsmall (by omega)
          refine ex_end hab h3 (by show ¬ (142 : Int) = 137; decide) p1 (stH_142 hR ⟨r1, r2⟩ w1 w2 w3 w4 hs1 (by show 0 ≤ w32 (V1 ((b1 : Int) - 1)) ∧ w32 (V1 ((b1 : Int) - 1)) ≤ 12; omega)) fr p4 hev ?_
          rw [stY_142 w1, w2, hk9]
          show rlR W (partR W (w32 (V1 ((b1 : Int) - 1))) 26) (nrK 0 (intoF A 61 (w32 v) (w32 y) 0))
          rw [p2]
          exact op_len hRT hI hK hka hval
        · have hv := g6' rfl
          rw [w32_id (show -2147483648 ≤ v ∧ v < 2147483648 by omega), kc_63] at hk9
          have hcc : (0 ≤ v ∧ v < W 55 0) ∧ relB W (TN ((j1 : Int) - 1)) (4 + v) = true := by
            by_cases hc : (0 ≤ v ∧ v < W 55 0) ∧ relB W (TN ((j1 : Int) - 1)) (4 + v) = true
            · exact hc
            · rw [if_neg hc] at hk9; omega
          rw [if_pos hcc] at hk9
          have hka := (rel_e.mp hcc.2).1.1
          have hsm := hsmall hka
          refine ex_end hab h3 (by show ¬ (141 : Int) = 137; decide) p1 (stH_141 hR ⟨r1, r2⟩ w1 w2 w3 w4 hs1 ⟨hsm, by show vK W (W (25 + 9 * e) ((b1 : Int) - 1)); rw [h25.1]; exact h25.2, Or.inl (isKindB_t.mpr (by show (0 ≤ 4 + v ∧ 4 + v < 4) ∨ (4 ≤ 4 + v ∧ 4 + v < 4 + W 55 0) ∨ 4 + v = 10 ∨ (11 ≤ 4 + v ∧ 4 + v < 11 + W 55 0); omega))⟩) fr p4 hev ?_
          rw [stY_141 w1, w2, w3, hk9]
          show rlR W (insR W e (b1 : Int) (w32 (V1 ((b1 : Int) - 1))) (4 + v)) (nrK 3 (fitF A 63 (w32 v) y (TN ((j1 : Int) - 1))))
          rw [p2, w32_id (show -2147483648 ≤ v ∧ v < 2147483648 by omega)]
          exact op_ins hI hK hka (by rw [w2]; exact h25.1) hv hval
        · have hv := g7' rfl
          rw [w32_id (show -2147483648 ≤ v ∧ v < 2147483648 by omega), kc_64] at hk9
          have hcc : isKindB (W 55 0) v = true ∧ ((TN ((j1 : Int) - 1) < 3 ∧ v < 3) ∨ (TN ((j1 : Int) - 1) = 3 ∧ v = 3) ∨ relB W (TN ((j1 : Int) - 1)) v = true) := by
            by_cases hc : isKindB (W 55 0) v = true ∧ ((TN ((j1 : Int) - 1) < 3 ∧ v < 3) ∨ (TN ((j1 : Int) - 1) = 3 ∧ v = 3) ∨ relB W (TN ((j1 : Int) - 1)) v = true)
            · exact hc
            · rw [if_neg hc] at hk9; omega
          rw [if_pos hcc] at hk9
          have hka : 4 ≤ v → 4 ≤ TN ((j1 : Int) - 1) := fun h4 => by
            rcases hcc.2 with h | h | h
            · omega
            · omega
            · exact (rel_e.mp h).1.1
          refine ex_end hab h3 (by show ¬ (146 : Int) = 137; decide) p1 (stH_146 hR ⟨r1, r2⟩ w1 w2 w3 w4 hs1 ⟨fun hre => ?_, by show vK W (W (25 + 9 * e) ((b1 : Int) - 1)); rw [h25.1]; exact h25.2, Or.inl hcc.1⟩) fr p4 hev ?_
          · have hre2 : 4 ≤ v ∧ v ≤ 17 := by
              have : reB v = true := hre
              unfold reB at this
              exact of_decide_eq_true this
            show 0 ≤ V1 ((b1 : Int) - 1) ∧ V1 ((b1 : Int) - 1) ≤ W 55 5
            rw [p2]
            exact valid_in hI (hka hre2.1) hval
          rw [stY_146 w1, w2, w3, hk9]
          show rlR W (cstR W e (b1 : Int) (V1 ((b1 : Int) - 1)) v) (nrK v (fitF A 64 (w32 v) y (TN ((j1 : Int) - 1))))
          rw [p2, w32_id (show -2147483648 ≤ v ∧ v < 2147483648 by omega)]
          exact op_cast hI hK (by rw [w2]; exact h25.1) hv hka hval
        · refine ex_end hab h3 (show ¬ ucode t = 137 from (uc_one ht).2.2.1) p1 (stH_two hR ⟨r1, r2⟩ w1 w2 w3 w4 hs1 ⟨by show (0 : Int) ≤ 0; decide, by show (0 : Int) < 48; decide⟩ (uc_two ht)) fr p4 hev ?_
          rw [stY_two w1 (uc_two ht), w2, (k25 h3).1, ← hsf]
          show rlR W (sgnR (ucode t) (TN (j1 : Int)) (V1 ((b1 : Int) - 1)) _) (nrK (TN (j1 : Int)) (cF A (100 + t) 0 (TN (j1 : Int)) (TN ((j1 : Int) - 1)) y 0))
          rw [p2, cF_una ht]
          exact op_una ht hk9 hkp
      · refine ex_fail (j1 := j1) pS_0 IH (Nat.le_refl _) (Nat.le_succ _) hf ?_
        rw [c1]
        have := (eV_at (A := A) ha h32 h2).trans (evX_f1 hu8 (by rw [hua]; exact hf))
        rw [hua] at this
        exact this
    · -- two operands
      have l1 := Comp_lt h1
      have l2 := Comp_lt h2
      have hin := Comp_in h1
      have hin2 := Comp_in h2
      have hkd := RS_kd hRS h1
      have hkd2 := RS_kd hRS h2
      have IH1 := ih h1 V hcn
      obtain ⟨r1, r2, r3⟩ := rg h4
      obtain ⟨w1, w2, w3, w4, -⟩ := hs.2 b1 s h4
      have hk := kN h3
      have hkp := k0 h3
      have c1 : ((j1 + 1 : Nat) : Int) - 1 = (j1 : Int) := by omega
      have hsf : TN (j1 : Int) = TS (b1 : Int) := by
        have := hself.1
        rw [c1, show ((b1 + 1 : Nat) : Int) - 1 = (b1 : Int) by omega] at this
        exact this
      have hsq : 0 ≤ (q : Int) - 1 ∧ (q : Int) - 1 < 48 := by omega
      have hsb : 0 ≤ (b1 : Int) - 1 ∧ (b1 : Int) - 1 < 48 := by omega
      have hm0 : 0 ≤ (m : Int) - 1 := by omega
      have hm1 : (m : Int) - 1 < N.length := by omega
      have hj0 : 0 ≤ (j1 : Int) - 1 := by omega
      have hj1 : (j1 : Int) - 1 < N.length := by omega
      obtain ⟨t, rfl, h9⟩ := h5
      have ht : ¬ t < 8 ∧ ¬ t = 65 ∧ ¬ t = 44 ∧ ¬ t = 46 := by
        rcases h9 with h9 | h9
        · omega
        · have := bdV_cs h9.1; omega
      obtain ⟨ht8, ht65, ht44, ht46⟩ := ht
      by_cases hf : (eV A N TN ((m : Int) - 1)).1 = 0
      · have e1 : eV A N TN ((m : Int) - 1) = (0, (eV A N TN ((m : Int) - 1)).2) := Prod.ext hf rfl
        generalize (eV A N TN ((m : Int) - 1)).2 = y at e1
        obtain ⟨n, V1, p1, p2, p3, p4⟩ := IH1.1 y e1
        have hval := val hm0 hm1 e1
        have IH2 := ih h2 V1 p4
        have hnn : ¬ ((j1 : Int) - 1 < 0 ∨ (t = 44 ∧ y = 0) ∨ (t = 46 ∧ ¬ y = 0)) := by omega
        by_cases hf2 : (eV A N TN ((j1 : Int) - 1)).1 = 0
        · have e2 : eV A N TN ((j1 : Int) - 1) = (0, (eV A N TN ((j1 : Int) - 1)).2) := Prod.ext hf2 rfl
          generalize (eV A N TN ((j1 : Int) - 1)).2 = y2 at e2
          obtain ⟨n2, V2, u1, u2, u3, u4⟩ := IH2.1 y2 e2
          have hq2 : V2 ((q : Int) - 1) = y := (u3 _ (by omega)).trans p2
          have hev := (eV_at (A := A) ha h32 h3).trans (evX_two (a := y) (b := y2) (show ¬ t < 8 from ht8) (show ¬ t = 65 from ht65) e1 hnn e2)
          have hk9 : TN (j1 : Int) = kchk W t (w32 0) (TN ((m : Int) - 1)) (TN ((j1 : Int) - 1)) (TN (-1)) := hk
          have fr : ∀ x : Int, x < a ∨ (b1 : Int) ≤ x → V2 x = V x := fun x hx => (u3 x (by omega)).trans (p3 x (by omega))
          have hab : a ≤ b1 := by omega
          rcases h9 with ⟨rfl, rfl⟩ | ⟨hb, -, -, rfl⟩
          · rw [kc_62] at hk9
            have hka : (10 ≤ TN ((m : Int) - 1) ∧ TN ((m : Int) - 1) < 17) ∧ (TN ((j1 : Int) - 1) = 0 ∨ TN ((j1 : Int) - 1) = 2) := by
              by_cases hc : (10 ≤ TN ((m : Int) - 1) ∧ TN ((m : Int) - 1) < 17) ∧ (TN ((j1 : Int) - 1) = 0 ∨ TN ((j1 : Int) - 1) = 2)
              · exact hc
              · rw [if_neg hc] at hk9; omega
            rw [if_pos hka] at hk9
            have hsm := valid_w hI (by omega) hval
            refine ex_end hab h4 (by show ¬ (145 : Int) = 137; decide) (pS_tr p1 u1) (stH_145 hR ⟨r1, r2⟩ w1 w2 w3 w4 hsq (by show 0 ≤ w32 (V2 ((q : Int) - 1)) ∧ w32 (V2 ((q : Int) - 1)) ≤ 12; rw [hq2]; omega) hsb) fr u4 hev ?_
            rw [stY_145 w1, w2, w3]
            show rlR W (elmR W (w32 (V2 ((q : Int) - 1))) (V2 ((b1 : Int) - 1))) (nrK (TN (j1 : Int)) (intoF A 62 (w32 0) (w32 y) y2))
            rw [hq2, u2]
            exact op_idx hRT hI hC hK hka.1 hk9 hval
          · refine ex_end hab h4 (show ¬ tcode t = 137 from (tc_149 hb).2) (pS_tr p1 u1) (stH_two hR ⟨r1, r2⟩ w1 w2 w3 w4 hsq hsb (tc_two hb)) fr u4 hev ?_
            rw [stY_two w1 (tc_two hb), w2, w3, (k25 h4).1, ← hsf]
            show rlR W (sgnR (tcode t) (TN (j1 : Int)) (V2 ((q : Int) - 1)) (V2 ((b1 : Int) - 1))) (nrK (TN (j1 : Int)) (cF A t 0 (TN (j1 : Int)) (TN ((m : Int) - 1)) y y2))
            rw [hq2, u2, cF_bin (by have := bdV_in9 hb; omega) ht44 ht46]
            exact op_bin hb ht44 ht46 hk9 hkp hkd.2 hval
        · refine ex_fail p1 IH2 (by omega) (Nat.le_succ _) hf2 ?_
          rw [c1]
          exact (eV_at (A := A) ha h32 h3).trans (evX_f2 (show ¬ t < 8 from ht8) (show ¬ t = 65 from ht65) e1 hnn hf2)
      · refine ex_fail (b1 := q) pS_0 IH1 (Nat.le_refl _) (by omega) hf ?_
        rw [c1]
        exact (eV_at (A := A) ha h32 h3).trans (evX_f1 (show ¬ t < 8 from ht8) hf)
    · -- && and ||
      have l1 := Comp_lt h1
      have l2 := Comp_lt h3
      have hin := Comp_in h1
      have hin2 := Comp_in h3
      have IH1 := ih h1 V hcn
      obtain ⟨r1, r2, r3⟩ := rg h5
      obtain ⟨w1, w2, w3, w4, -⟩ := hs.2 b1 _ h5
      have hk := kN h4
      have hkp := k0 h4
      have c1 : ((j1 + 1 : Nat) : Int) - 1 = (j1 : Int) := by omega
      have hsf : TN (j1 : Int) = TS (b1 : Int) := by
        have := hself.1
        rw [c1, show ((b1 + 1 : Nat) : Int) - 1 = (b1 : Int) by omega] at this
        exact this
      have hsq : 0 ≤ (q : Int) - 1 ∧ (q : Int) - 1 < 48 := by omega
      have hsb : 0 ≤ (b1 : Int) - 1 ∧ (b1 : Int) - 1 < 48 := by omega
      have hb148 : 0 ≤ (b1 : Int) ∧ (b1 : Int) ≤ 48 := by omega
      have hm0 : 0 ≤ (m : Int) - 1 := by omega
      have hm1 : (m : Int) - 1 < N.length := by omega
      have hj0 : 0 ≤ (j1 : Int) - 1 := by omega
      have hj1 : (j1 : Int) - 1 < N.length := by omega
      rcases h0 with rfl | rfl
      · have h2 : S[q]? = some (151, (q : Int) - 1, (b1 : Int), 0, 0, 0) := h2
        obtain ⟨q1, q2, q3⟩ := rg h2
        obtain ⟨z1, z2, z3, z4, -⟩ := hs.2 q _ h2
        have hk9 : TN (j1 : Int) = kchk W 44 (w32 0) (TN ((m : Int) - 1)) (TN ((j1 : Int) - 1)) (TN (-1)) := hk
        obtain ⟨k3, k4, k5⟩ : TN (j1 : Int) = 3 ∧ TN ((m : Int) - 1) = 3 ∧ TN ((j1 : Int) - 1) = 3 := by
          rcases kc_and (M := W) (o := 44) (v := w32 0) (a := TN ((m : Int) - 1)) (b := TN ((j1 : Int) - 1)) (c := TN (-1)) (by decide) with h9 | ⟨h9, h8, h7⟩
          · omega
          · exact ⟨hk9.trans h9, h8, h7⟩
        have hcod : W (21 + 9 * e) b1 = 135 := w1
        have hnot : ¬ ((135 : Int) = 137 ∨ (135 : Int) = 143 ∨ (135 : Int) = 144 ∨ (135 : Int) = 142 ∨ (135 : Int) = 145 ∨ (135 : Int) = 141 ∨ (135 : Int) = 146 ∨ (135 : Int) = 149 ∨ (135 : Int) = 150 ∨ (135 : Int) = 151 ∨ (135 : Int) = 152) := by decide
        by_cases hf : (eV A N TN ((m : Int) - 1)).1 = 0
        · have e1 : eV A N TN ((m : Int) - 1) = (0, (eV A N TN ((m : Int) - 1)).2) := Prod.ext hf rfl
          generalize (eV A N TN ((m : Int) - 1)).2 = y at e1
          obtain ⟨n, V1, p1, p2, p3, p4⟩ := IH1.1 y e1
          have hy := val hm0 hm1 e1
          rw [k4] at hy
          have hy := ty3_i hy
          have hH := stH_151 (V := V1) (q := (q : Int)) hR ⟨q1, q2⟩ z1 z2 z3 z4 hsq hb148
          have hY := stY_151 (W := W) (e := e) (V := V1) (p := (q : Int)) z1
          rw [z2, z3] at hY
          have hY : stpY W e V1 q = (3, if V1 ((q : Int) - 1) = 0 then (b1 : Int) else (q : Int) + 1) := hY
          rw [p2] at hY
          by_cases hs0 : y = 0
          · rw [if_pos hs0] at hY
            have hp := pS_tr p1 (pS_jmp q3 hH hY)
            have hev := (eV_at (A := A) ha h32 h4).trans (evX_one (a := y) (by show ¬ (44 : Int) < 8; decide) (by show ¬ (44 : Int) = 65; decide) e1 (Or.inr (Or.inl ⟨rfl, hs0⟩)))
            refine ex_end (by omega) h5 (by show ¬ (135 : Int) = 137; decide) hp (stH_two hR ⟨r1, r2⟩ hcod w2 w3 w4 hsq hsb hnot) (fun x hx => p3 x (by omega)) p4 hev ?_
            rw [stY_two hcod hnot, w2, w3, (k25 h5).1, ← hsf, k3]
            show rlR W (sgnR 135 3 (V1 ((q : Int) - 1)) (V1 ((b1 : Int) - 1))) (nrK 3 (0, if y = 0 then y else 0))
            rw [p2, op_44 hy (fun h9 => absurd hs0 h9), nr_v, if_neg (show ¬ (3 : Int) = 0 by decide)]
            refine rl_0' ?_
            rw [if_pos hs0, if_pos hs0]
          · rw [if_neg hs0] at hY
            have hp := pS_tr p1 (pS_jmp q3 hH hY)
            have IH2 := ih h3 V1 p4
            have hnn : ¬ ((j1 : Int) - 1 < 0 ∨ ((44 : Int) = 44 ∧ y = 0) ∨ ((44 : Int) = 46 ∧ ¬ y = 0)) := by omega
            by_cases hf2 : (eV A N TN ((j1 : Int) - 1)).1 = 0
            · have e2 : eV A N TN ((j1 : Int) - 1) = (0, (eV A N TN ((j1 : Int) - 1)).2) := Prod.ext hf2 rfl
              generalize (eV A N TN ((j1 : Int) - 1)).2 = y2 at e2
              obtain ⟨n2, V2, u1, u2, u3, u4⟩ := IH2.1 y2 e2
              have hy2 := val hj0 hj1 e2
              rw [k5] at hy2
              have hy2 := ty3_i hy2
              have hq2 : V2 ((q : Int) - 1) = y := (u3 _ (by omega)).trans p2
              rw [show ((q + 1 : Nat) : Int) = (q : Int) + 1 by omega] at u1
              have hev := (eV_at (A := A) ha h32 h4).trans (evX_two (a := y) (b := y2) (by show ¬ (44 : Int) < 8; decide) (by show ¬ (44 : Int) = 65; decide) e1 hnn e2)
              refine ex_end (by omega) h5 (by show ¬ (135 : Int) = 137; decide) (pS_tr hp u1) (stH_two hR ⟨r1, r2⟩ hcod w2 w3 w4 hsq hsb hnot) (fun x hx => (u3 x (by omega)).trans (p3 x (by omega))) u4 hev ?_
              rw [stY_two hcod hnot, w2, w3, (k25 h5).1, ← hsf, k3]
              show rlR W (sgnR 135 3 (V2 ((q : Int) - 1)) (V2 ((b1 : Int) - 1))) (nrK 3 (0, if y = 0 then y else y2))
              rw [hq2, u2, op_44 hy (fun _ => hy2), nr_v, if_neg (show ¬ (3 : Int) = 0 by decide)]
              exact rl_0
            · rw [show (q : Int) + 1 = ((q + 1 : Nat) : Int) by omega] at hp
              refine ex_fail hp IH2 (by omega) (Nat.le_succ _) hf2 ?_
              rw [c1]
              exact (eV_at (A := A) ha h32 h4).trans (evX_f2 (by show ¬ (44 : Int) < 8; decide) (by show ¬ (44 : Int) = 65; decide) e1 hnn hf2)
        · refine ex_fail (b1 := q) pS_0 IH1 (Nat.le_refl _) (by omega) hf ?_
          rw [c1]
          exact (eV_at (A := A) ha h32 h4).trans (evX_f1 (by show ¬ (44 : Int) < 8; decide) hf)
      · have h2 : S[q]? = some (152, (q : Int) - 1, (b1 : Int), 0, 0, 0) := h2
        obtain ⟨q1, q2, q3⟩ := rg h2
        obtain ⟨z1, z2, z3, z4, -⟩ := hs.2 q _ h2
        have hk9 : TN (j1 : Int) = kchk W 46 (w32 0) (TN ((m : Int) - 1)) (TN ((j1 : Int) - 1)) (TN (-1)) := hk
        obtain ⟨k3, k4, k5⟩ : TN (j1 : Int) = 3 ∧ TN ((m : Int) - 1) = 3 ∧ TN ((j1 : Int) - 1) = 3 := by
          rcases kc_and (M := W) (o := 46) (v := w32 0) (a := TN ((m : Int) - 1)) (b := TN ((j1 : Int) - 1)) (c := TN (-1)) (by decide) with h9 | ⟨h9, h8, h7⟩
          · omega
          · exact ⟨hk9.trans h9, h8, h7⟩
        have hcod : W (21 + 9 * e) b1 = 136 := w1
        have hnot : ¬ ((136 : Int) = 137 ∨ (136 : Int) = 143 ∨ (136 : Int) = 144 ∨ (136 : Int) = 142 ∨ (136 : Int) = 145 ∨ (136 : Int) = 141 ∨ (136 : Int) = 146 ∨ (136 : Int) = 149 ∨ (136 : Int) = 150 ∨ (136 : Int) = 151 ∨ (136 : Int) = 152) := by decide
        by_cases hf : (eV A N TN ((m : Int) - 1)).1 = 0
        · have e1 : eV A N TN ((m : Int) - 1) = (0, (eV A N TN ((m : Int) - 1)).2) := Prod.ext hf rfl
          generalize (eV A N TN ((m : Int) - 1)).2 = y at e1
          obtain ⟨n, V1, p1, p2, p3, p4⟩ := IH1.1 y e1
          have hy := val hm0 hm1 e1
          rw [k4] at hy
          have hy := ty3_i hy
          have hH := stH_152 (V := V1) (q := (q : Int)) hR ⟨q1, q2⟩ z1 z2 z3 z4 hsq hb148
          have hY := stY_152 (W := W) (e := e) (V := V1) (p := (q : Int)) z1
          rw [z2, z3] at hY
          have hY : stpY W e V1 q = (3, if V1 ((q : Int) - 1) = 1 then (b1 : Int) else (q : Int) + 1) := hY
          rw [p2] at hY
          by_cases hs0 : y = 1
          · rw [if_pos hs0] at hY
            have hp := pS_tr p1 (pS_jmp q3 hH hY)
            have hev := (eV_at (A := A) ha h32 h4).trans (evX_one (a := y) (by show ¬ (46 : Int) < 8; decide) (by show ¬ (46 : Int) = 65; decide) e1 (Or.inr (Or.inr ⟨rfl, by omega⟩)))
            refine ex_end (by omega) h5 (by show ¬ (136 : Int) = 137; decide) hp (stH_two hR ⟨r1, r2⟩ hcod w2 w3 w4 hsq hsb hnot) (fun x hx => p3 x (by omega)) p4 hev ?_
            rw [stY_two hcod hnot, w2, w3, (k25 h5).1, ← hsf, k3]
            show rlR W (sgnR 136 3 (V1 ((q : Int) - 1)) (V1 ((b1 : Int) - 1))) (nrK 3 (0, if y = 0 then 0 else y))
            rw [p2, op_46 hy (fun h9 => by omega), nr_v, if_neg (show ¬ (3 : Int) = 0 by decide)]
            refine rl_0' ?_
            rw [if_neg (by omega), if_neg (by omega)]
          · rw [if_neg hs0] at hY
            have hp := pS_tr p1 (pS_jmp q3 hH hY)
            have IH2 := ih h3 V1 p4
            have hnn : ¬ ((j1 : Int) - 1 < 0 ∨ ((46 : Int) = 44 ∧ y = 0) ∨ ((46 : Int) = 46 ∧ ¬ y = 0)) := by omega
            by_cases hf2 : (eV A N TN ((j1 : Int) - 1)).1 = 0
            · have e2 : eV A N TN ((j1 : Int) - 1) = (0, (eV A N TN ((j1 : Int) - 1)).2) := Prod.ext hf2 rfl
              generalize (eV A N TN ((j1 : Int) - 1)).2 = y2 at e2
              obtain ⟨n2, V2, u1, u2, u3, u4⟩ := IH2.1 y2 e2
              have hy2 := val hj0 hj1 e2
              rw [k5] at hy2
              have hy2 := ty3_i hy2
              have hq2 : V2 ((q : Int) - 1) = y := (u3 _ (by omega)).trans p2
              rw [show ((q + 1 : Nat) : Int) = (q : Int) + 1 by omega] at u1
              have hev := (eV_at (A := A) ha h32 h4).trans (evX_two (a := y) (b := y2) (by show ¬ (46 : Int) < 8; decide) (by show ¬ (46 : Int) = 65; decide) e1 hnn e2)
              refine ex_end (by omega) h5 (by show ¬ (136 : Int) = 137; decide) (pS_tr hp u1) (stH_two hR ⟨r1, r2⟩ hcod w2 w3 w4 hsq hsb hnot) (fun x hx => (u3 x (by omega)).trans (p3 x (by omega))) u4 hev ?_
              rw [stY_two hcod hnot, w2, w3, (k25 h5).1, ← hsf, k3]
              show rlR W (sgnR 136 3 (V2 ((q : Int) - 1)) (V2 ((b1 : Int) - 1))) (nrK 3 (0, if y = 0 then y2 else y))
              rw [hq2, u2, op_46 hy (fun _ => hy2), nr_v, if_neg (show ¬ (3 : Int) = 0 by decide)]
              exact rl_0
            · rw [show (q : Int) + 1 = ((q + 1 : Nat) : Int) by omega] at hp
              refine ex_fail hp IH2 (by omega) (Nat.le_succ _) hf2 ?_
              rw [c1]
              exact (eV_at (A := A) ha h32 h4).trans (evX_f2 (by show ¬ (46 : Int) < 8; decide) (by show ¬ (46 : Int) = 65; decide) e1 hnn hf2)
        · refine ex_fail (b1 := q) pS_0 IH1 (Nat.le_refl _) (by omega) hf ?_
          rw [c1]
          exact (eV_at (A := A) ha h32 h4).trans (evX_f1 (by show ¬ (46 : Int) < 8; decide) hf)
    · -- a choice
      have l1 := Comp_lt h1
      have l2 := Comp_lt h3
      have l3 := Comp_lt h5
      have hin := Comp_in h1
      have hin2 := Comp_in h3
      have hin3 := Comp_in h5
      have hkd2 := RS_kd hRS h3
      have hkd3 := RS_kd hRS h5
      have IH1 := ih h1 V hcn
      obtain ⟨r1, r2, r3⟩ := rg h7
      obtain ⟨w1, w2, w3, w4, -⟩ := hs.2 b1 _ h7
      obtain ⟨x1, x2, x3⟩ := rg h2
      obtain ⟨z1, z2, z3, z4, -⟩ := hs.2 q1 _ h2
      obtain ⟨o1, o2, o3⟩ := rg h4
      obtain ⟨t1, t2, t3, t4, -⟩ := hs.2 q2 _ h4
      have hk : TN (j1 : Int) = kchk W 65 (w32 0) (TN ((m1 : Int) - 1)) (TN ((m2 : Int) - 1)) (TN ((j1 : Int) - 1)) := kN h6
      have hkp := k0 h6
      have c1 : ((j1 + 1 : Nat) : Int) - 1 = (j1 : Int) := by omega
      have hs1 : 0 ≤ (q1 : Int) - 1 ∧ (q1 : Int) - 1 < 48 := by omega
      have hs2 : 0 ≤ (q2 : Int) - 1 ∧ (q2 : Int) - 1 < 48 := by omega
      have hs3 : 0 ≤ (b1 : Int) - 1 ∧ (b1 : Int) - 1 < 48 := by omega
      have hb148 : 0 ≤ (b1 : Int) ∧ (b1 : Int) ≤ 48 := by omega
      have hq248 : 0 ≤ (q2 : Int) + 1 ∧ (q2 : Int) + 1 ≤ 48 := by omega
      have hm0 : 0 ≤ (m1 : Int) - 1 := by omega
      have hm1 : (m1 : Int) - 1 < N.length := by omega
      have hn0 : 0 ≤ (m2 : Int) - 1 := by omega
      have hn1 : (m2 : Int) - 1 < N.length := by omega
      have hj0 : 0 ≤ (j1 : Int) - 1 := by omega
      have hj1 : (j1 : Int) - 1 < N.length := by omega
      have hk3 : TN ((m1 : Int) - 1) = 3 := by
        by_cases h9 : TN ((m1 : Int) - 1) = 3
        · exact h9
        · rw [kc_65, if_neg h9] at hk; omega
      have hab : a ≤ b1 := by omega
      by_cases hf : (eV A N TN ((m1 : Int) - 1)).1 = 0
      · have e1 : eV A N TN ((m1 : Int) - 1) = (0, (eV A N TN ((m1 : Int) - 1)).2) := Prod.ext hf rfl
        generalize (eV A N TN ((m1 : Int) - 1)).2 = y at e1
        obtain ⟨n, V1, p1, p2, p3, p4⟩ := IH1.1 y e1
        have hy := val hm0 hm1 e1
        rw [hk3] at hy
        have hy := ty3_i hy
        have hH := stH_151 (V := V1) (q := (q1 : Int)) hR ⟨x1, x2⟩ z1 z2 z3 z4 hs1 hq248
        have hY := stY_151 (W := W) (e := e) (V := V1) (p := (q1 : Int)) z1
        rw [z2, z3] at hY
        have hY : stpY W e V1 q1 = (3, if V1 ((q1 : Int) - 1) = 0 then (q2 : Int) + 1 else (q1 : Int) + 1) := hY
        rw [p2] at hY
        by_cases hs0 : y = 0
        · rw [if_pos hs0] at hY
          have hp := pS_tr p1 (pS_jmp x3 hH hY)
          have IH3 := ih h5 V1 p4
          have hch : eV A N TN (if y = 0 then (j1 : Int) - 1 else (m2 : Int) - 1) = eV A N TN ((j1 : Int) - 1) := by rw [if_pos hs0]
          by_cases hf3 : (eV A N TN ((j1 : Int) - 1)).1 = 0
          · have e3 : eV A N TN ((j1 : Int) - 1) = (0, (eV A N TN ((j1 : Int) - 1)).2) := Prod.ext hf3 rfl
            generalize (eV A N TN ((j1 : Int) - 1)).2 = y3 at e3
            obtain ⟨n3, V3, u1, u2, u3, u4⟩ := IH3.1 y3 e3
            rw [show ((q2 + 1 : Nat) : Int) = (q2 : Int) + 1 by omega] at u1
            have hq : V3 ((q1 : Int) - 1) = y := (u3 _ (by omega)).trans p2
            have hev := (eV_at (A := A) ha h32 h6).trans (evX_65v (a := y) (b := y3) rfl e1 (hch.trans e3))
            refine ex_end hab h7 (by show ¬ (149 : Int) = 137; decide) (pS_tr hp u1) (stH_149 hR ⟨r1, r2⟩ w1 w2 w3 w4 hs1 hs2 hs3) (fun x hx => (u3 x (by omega)).trans (p3 x (by omega))) u4 hev ?_
            rw [stY_149 w1, w2, w3, w4]
            show rlR W (0, V3 (if V3 ((q1 : Int) - 1) = 1 then (q2 : Int) - 1 else (b1 : Int) - 1)) (nrK (TN (j1 : Int)) (0, y3))
            rw [hq, if_neg (by omega), u2, nr_v, cho_ok hk hk3 hkp hkd2.2 hkd3.2 (Or.inr (val hj0 hj1 e3))]
            exact rl_0
          · rw [show (q2 : Int) + 1 = ((q2 + 1 : Nat) : Int) by omega] at hp
            refine ex_fail hp IH3 (by omega) (Nat.le_succ _) hf3 ?_
            rw [c1]
            exact (eV_at (A := A) ha h32 h6).trans ((evX_65f (a := y) rfl e1 (by show ¬ (eV A N TN (if y = 0 then (j1 : Int) - 1 else (m2 : Int) - 1)).1 = 0; rw [hch]; exact hf3)).trans hch)
        · rw [if_neg hs0] at hY
          have hp := pS_tr p1 (pS_jmp x3 hH hY)
          have IH2 := ih h3 V1 p4
          have hch : eV A N TN (if y = 0 then (j1 : Int) - 1 else (m2 : Int) - 1) = eV A N TN ((m2 : Int) - 1) := by rw [if_neg hs0]
          by_cases hf2 : (eV A N TN ((m2 : Int) - 1)).1 = 0
          · have e2 : eV A N TN ((m2 : Int) - 1) = (0, (eV A N TN ((m2 : Int) - 1)).2) := Prod.ext hf2 rfl
            generalize (eV A N TN ((m2 : Int) - 1)).2 = y2 at e2
            obtain ⟨n2, V2, u1, u2, u3, u4⟩ := IH2.1 y2 e2
            rw [show ((q1 + 1 : Nat) : Int) = (q1 : Int) + 1 by omega] at u1
            have hq : V2 ((q1 : Int) - 1) = y := (u3 _ (by omega)).trans p2
            have hH2 := stH_150 (V := V2) (q := (q2 : Int)) hR ⟨o1, o2⟩ t1 t2 t3 t4 hs1 hb148
            have hY2 := stY_150 (W := W) (e := e) (V := V2) (p := (q2 : Int)) t1
            rw [t3] at hY2
            have hp2 := pS_tr (pS_tr hp u1) (pS_jmp o3 hH2 hY2)
            have hev := (eV_at (A := A) ha h32 h6).trans (evX_65v (a := y) (b := y2) rfl e1 (hch.trans e2))
            refine ex_end hab h7 (by show ¬ (149 : Int) = 137; decide) hp2 (stH_149 hR ⟨r1, r2⟩ w1 w2 w3 w4 hs1 hs2 hs3) (fun x hx => (u3 x (by omega)).trans (p3 x (by omega))) u4 hev ?_
            rw [stY_149 w1, w2, w3, w4]
            show rlR W (0, V2 (if V2 ((q1 : Int) - 1) = 1 then (q2 : Int) - 1 else (b1 : Int) - 1)) (nrK (TN (j1 : Int)) (0, y2))
            rw [hq, if_pos (by omega), u2, nr_v, cho_ok hk hk3 hkp hkd2.2 hkd3.2 (Or.inl (val hn0 hn1 e2))]
            exact rl_0
          · rw [show (q1 : Int) + 1 = ((q1 + 1 : Nat) : Int) by omega] at hp
            refine ex_fail (b1 := q2) hp IH2 (by omega) (by omega) hf2 ?_
            rw [c1]
            exact (eV_at (A := A) ha h32 h6).trans ((evX_65f (a := y) rfl e1 (by show ¬ (eV A N TN (if y = 0 then (j1 : Int) - 1 else (m2 : Int) - 1)).1 = 0; rw [hch]; exact hf2)).trans hch)
      · refine ex_fail (b1 := q1) pS_0 IH1 (Nat.le_refl _) (by omega) hf ?_
        rw [c1]
        exact (eV_at (A := A) ha h32 h6).trans (evX_f1 (by show ¬ (65 : Int) < 8; decide) hf)
end EXC
