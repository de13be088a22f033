theorem cF_3 {M : Mem} {o v kn ka a b : Int} : (cF M o v kn ka a b).1 = 0 ∨ (cF M o v kn ka a b).1 = 1 ∨ (cF M o v kn ka a b).1 = 2 := by
  unfold cF
  split
  · exact Or.inl rfl
  split
  · exact (needF_3 (M := M)).elim Or.inl (fun h => Or.inr (Or.inl h))
  split
  · exact (needF_3 (M := M)).elim Or.inl (fun h => Or.inr (Or.inl h))
  split
  · exact Or.inl rfl
  split
  · unfold intoF
    split
    · exact Or.inr (Or.inr rfl)
    split
    · exact (needF_3 (M := M)).elim Or.inl (fun h => Or.inr (Or.inl h))
    split
    · exact Or.inr (Or.inl rfl)
    split
    · exact Or.inl rfl
    split
    · exact Or.inr (Or.inr rfl)
    · exact (needF_3 (M := M)).elim Or.inl (fun h => Or.inr (Or.inl h))
  split
  · unfold fitF
    split
    · exact Or.inl rfl
    split
    · split
      · exact Or.inl rfl
      · exact Or.inl rfl
    split
    · exact Or.inr (Or.inl rfl)
    split
    · exact Or.inl rfl
    split
    · exact Or.inl rfl
    · exact Or.inr (Or.inr rfl)
  split
  · exact Or.inl rfl
  split
  · exact Or.inl rfl
  split
  · exact Or.inl rfl
  unfold reckF
  repeat' split
  all_goals first | exact Or.inl rfl | exact Or.inr (Or.inr rfl)
theorem nrK_3 {k : Int} {R : Int × Int} (h : R.1 = 0 ∨ R.1 = 1 ∨ R.1 = 2) : (nrK k R).1 = 0 ∨ (nrK k R).1 = 1 ∨ (nrK k R).1 = 2 := by
  unfold nrK
  split
  · exact Or.inl rfl
  · exact h
theorem eV_3 {A : Mem} {N : List ND} {T : Int → Int} (n : Int) : (eV A N T n).1 = 0 ∨ (eV A N T n).1 = 1 ∨ (eV A N T n).1 = 2 := by
  have : ∀ (f : Nat) (n : Int), (evF A N T f n).1 = 0 ∨ (evF A N T f n).1 = 1 ∨ (evF A N T f n).1 = 2 := by
    intro f
    induction f with
    | zero => intro n; exact Or.inl rfl
    | succ f ih =>
      intro n
      show (evX A T (evF A N T f) n (N.getD n.toNat nd0)).1 = 0 ∨ (evX A T (evF A N T f) n (N.getD n.toNat nd0)).1 = 1 ∨ (evX A T (evF A N T f) n (N.getD n.toNat nd0)).1 = 2
      generalize N.getD n.toNat nd0 = x
      unfold evX
      repeat' split
      all_goals first | exact ih _ | exact nrK_3 cF_3
  exact this 40 n
/-- kinds of nodes are told by the nodes -/
theorem fxN_uq {A : Mem} {N : List ND} {T T' : Int → Int} (ha : allN N) (h : fxN A N T) (h' : fxN A N T') : ∀ (f : Nat) (n : Int), 0 ≤ n → n < N.length → n < f → T n = T' n := by
  intro f
  induction f with
  | zero => intro n h0 _ h2; omega
  | succ f ih =>
    intro n h0 h1 hf
    have hx := ndGet h0 h1
    have hg := ndAll ha h0 h1
    have e1 := h n.toNat _ hx
    have e2 := h' n.toNat _ hx
    rw [Int.toNat_of_nonneg h0] at e1 e2
    rw [e1, e2]
    generalize N.getD n.toNat nd0 = x at hg
    obtain ⟨g1, g2, g3, g4, -⟩ := hg
    by_cases h8 : x.1 < 8
    · exact kchk_lo h8
    have q2 := g2 (by omega)
    rw [ih x.2.1 q2.1.1 (by omega) (by omega)]
    by_cases hb : 0 ≤ x.2.2.1
    · rw [ih x.2.2.1 hb (by omega) (by omega)]
      by_cases h65 : x.1 = 65
      · have q4 := g4 h65
        rw [ih x.2.2.2.1 q4.1 (by omega) (by omega)]
      · exact kchk_n65 h65
    · have ho : 60 ≤ x.1 ∧ ¬ x.1 = 62 ∧ ¬ x.1 = 65 := by
        refine ⟨?_, fun h => hb (g3 (Or.inr (Or.inl h))), fun h => hb (g3 (Or.inr (Or.inr h)))⟩
        by_cases h60 : x.1 < 60
        · exact absurd (g3 (Or.inl ⟨by omega, h60⟩)) hb
        · omega
      obtain ⟨o1, o2, o3⟩ := ho
      unfold kchk
      by_cases c3 : 100 < x.1
      · rw [if_neg (c := x.1 = 1 ∨ x.1 = 2 ∨ x.1 = 3) (by omega), if_neg h8, if_pos c3, if_neg (c := x.1 = 1 ∨ x.1 = 2 ∨ x.1 = 3) (by omega), if_neg h8, if_pos c3]
      unfold nodeO at g1
      rcases (show x.1 = 60 ∨ x.1 = 61 ∨ x.1 = 63 ∨ x.1 = 64 by omega) with e | e | e | e <;> rw [e] <;> simp
section AN
variable {M M1 M2 W X W' X' : Mem} {n : Int} {e : Nat} {r r' : Option PV}
/-- the memories where the answer is known, on both sides -/
theorem learn_Z {k : Int} (hB : BI n M) (hn : n ≤ 300) (hk : 0 ≤ k ∧ k < M 9 3) : BI n (hyb (learnD (dropD M k) (M 11 k)) (am0 M k)) := by
  have hZ := drop_Z hB hn hk
  have hRC := fun (e : Nat) (he : e < 4) => BI_RC hZ hn he
  obtain ⟨hp, hq, -⟩ := hB.2.1.2.2.1.2.2.2 k hk.1 hk.2
  have hpr := hp.1
  have z10 : hyb (learnD (dropD M k) (M 11 k)) (am0 M k) 10 = learnD (hyb (dropD M k) (takeOutM M k)) (M 11 k) 10 := by
    funext i
    rw [hyb_d (by decide)]
    unfold learnD
    rw [hyb_d (by decide)]
    unfold mset
    rw [hyb_d (by decide)]
  have z71 : hyb (learnD (dropD M k) (M 11 k)) (am0 M k) 71 = fun i => if i = pcD M (M 11 k) then 1 else hyb (dropD M k) (takeOutM M k) 71 i := by
    funext i
    rw [hyb_m (by decide), hyb_m (by decide)]
    unfold am0 mset
    rw [hq]
    by_cases h : i = pcD M (M 11 k)
    · rw [if_pos ⟨rfl, h⟩, if_pos h]
    · rw [if_neg (fun h9 => h h9.2), if_neg h]
  have zo : ∀ c : Nat, ¬ c = 10 → ¬ c = 71 → hyb (learnD (dropD M k) (M 11 k)) (am0 M k) c = hyb (dropD M k) (takeOutM M k) c := fun c h1 h2 => by
    by_cases hc : c ≤ 54
    · rw [hyb_d hc, hyb_d hc]; exact learn_fr h1
    · rw [hyb_m (by omega), hyb_m (by omega)]
      funext i; unfold am0; rw [mset_ne h2]
  have z60 : hyb (dropD M k) (takeOutM M k) 60 = M 60 := by
    rw [hyb_m (by decide)]; funext i; exact tk_o (by omega) (by omega)
  have k93 : hyb (dropD M k) (takeOutM M k) 9 3 = M 9 3 - 1 := by
    rw [hyb_d (by decide)]; unfold dropD shD; rw [if_neg (by omega)]; exact mset_eq rfl
  have d55 : hyb (dropD M k) (takeOutM M k) 55 9 = M 55 9 := by rw [hyb_m (by decide)]; exact tk_o (by decide) (by decide)
  generalize hyb (learnD (dropD M k) (M 11 k)) (am0 M k) = Z at z10 z71 zo
  generalize hyb (dropD M k) (takeOutM M k) = D at hZ hRC z10 z71 zo z60 k93 d55
  generalize M 11 k = p at hp hq hpr z10 z71
  obtain ⟨⟨b1, b2, b3, b4⟩, ⟨c1, c2, c3, c4, c5, c6⟩, ⟨k1, k2, k3⟩, r1, x1, v1, g1⟩ := hZ
  have z9 := zo 9 (by decide) (by decide)
  have z55 := zo 55 (by decide) (by decide)
  have hv := vpD_eq (M := D) (W := Z) (zo 60 (by decide) (by decide))
  have hvM := vpD_eq (M := M) (W := D) z60
  have hkb : ∀ p', 0 ≤ p' → p' < 364 → (kbD Z p' = 1 ↔ p' = p ∨ kbD D p' = 1) := fun p' h0 h1 => by
    rw [kbD_eq z10]; exact learn_kb k1 hpr ⟨h0, h1⟩
  have hpD : vpD D p := by rw [hvM.1]; exact hp
  have hpr2 := pcD_rng hpD
  rw [hvM.2] at hpr2
  have hmo := fun (e' : Nat) (he' : e' < 4) => moD_g (M2 := Z) (hRC e' he') (by rw [z9]; exact (hRC e' he').2.2.2.1.1) (by rw [z9]; exact (hRC e' he').2.2.2.1.2.1) (by rw [z9]; exact c2) (fun c hc => zo c (by omega) (by omega)) (fun i _ => by rw [z55]) (fun p' h0 h1 hk => (hkb p' h0 h1).mpr (Or.inr hk))
  have hm0 := hmo 0 (by decide)
  refine ⟨⟨hm0.2.2.2.1.1, hm0.2.2.2.1.2.1, hm0.2.2.2.1.2.2.1, by rw [z55]; exact b4⟩, ⟨by rw [z9, z55]; exact c1, by rw [z9]; exact c2, RQL_cg (M := D) ⟨by rw [z9], by rw [z9]⟩ (zo 11 (by decide) (by decide)) (zo 12 (by decide) (by decide)) (zo 60 (by decide) (by decide)) ⟨by rw [z55], by rw [z55]⟩ (zo 72 (by decide) (by decide)) (zo 73 (by decide) (by decide)) c3, fun j h0 h1 => by rw [z9] at h1; rw [zo 12 (by decide) (by decide)]; exact c4 j h0 h1, by rw [z9]; exact c5, by rw [z9]; exact c6⟩, ⟨⟨fun j h0 h1 => ?_, fun j h0 h1 => ?_⟩, fun p' hp' => ?_, ?_⟩, fun h => ?_, ?_, fun e' he' => ?_, fun j hj => by rw [zo 74 (by decide) (by decide)]; exact g1 j hj⟩
  · have := (learn_KB k1 hpr).1 j h0 h1
    rw [z10]; exact this
  · rw [z71]
    by_cases h : j = pcD M p
    · simp only [if_pos h]; exact Or.inr trivial
    · simp only [if_neg h]; exact k1.2 j h0 h1
  · rw [hv.1] at hp'
    rw [hv.2, hkb p' hp'.1.1 hp'.1.2, z71]
    by_cases h : pcD D p' = pcD M p
    · simp only [if_pos h]
      have : p' = p := pcD_inj hp' hpD (by rw [h, hvM.2])
      exact ⟨fun _ => by decide, fun _ => Or.inl this⟩
    · simp only [if_neg h]
      rw [← k2 p' hp']
      exact ⟨fun h9 => h9.elim (fun h8 => absurd (by rw [h8, hvM.2]) h) id, Or.inr⟩
  · unfold KC at k3 ⊢
    have f1 : kcS Z 13 = if kbD D p = 1 then kcS D 13 else kcS D 13 + 1 := by
      rw [kcS_cg (M := learnD D p) z10]; exact learn_kcS k1 hpr
    have f2 := (cnt_set (M := D) (M' := Z) hpr2.1 (fun i hi => by rw [z71]; simp only [if_neg hi]) (by rw [z71]; show ¬ (if pcD M p = pcD M p then (1 : Int) else D 71 (pcD M p)) = 0; rw [if_pos rfl]; decide) 423).2 (by omega)
    have hk := k2 p hpD
    rw [hvM.2] at hk
    rw [f1, f2]
    by_cases h : kbD D p = 1
    · rw [if_pos h, if_neg (hk.mp h), k3]; omega
    · have h0 : D 71 (pcD M p) = 0 := Classical.byContradiction fun h9 => h (hk.mpr h9)
      rw [if_neg h, if_pos h0, ← k3]; omega
  · rw [z55] at h
    have hM : M 55 9 = 0 := d55.symm.trans h
    have := (hB.2.2.2.1 hM).1
    omega
  · unfold BX
    rw [zo 1 (by decide) (by decide), zo 3 (by decide) (by decide), zo 63 (by decide) (by decide), zo 64 (by decide) (by decide)]
    exact x1
  · exact EV_mv (fun _ => ⟨hRC e' he', hmo e' he'⟩) (zo _ (by omega) (by omega)) (zo _ (by omega) (by omega)) (zo _ (by omega) (by omega)) (zo _ (by omega) (by omega)) (fun k _ _ => by rw [zo 63 (by decide) (by decide)]) (fun c u1 u2 => by rw [zo c (by omega) (by omega)]) (v1 e' he')
/-- while an answer is handed on, on the desk's side -/
def DI (n : Int) (W0 : Mem) (i : Nat) (W : Mem) : Prop := (∀ c : Nat, (4 ≤ c ∧ c ≤ 8) ∨ c = 10 ∨ 55 ≤ c → W c = W0 c) ∧ W 9 5 = W0 9 5 ∧ (0 ≤ W 9 3 ∧ W 9 3 ≤ n + i) ∧ (0 ≤ W 9 4 ∧ W 9 4 ≤ n + i) ∧ ∀ e : Nat, i ≤ e → e < 4 → ∀ c : Nat, 19 + 9 * e ≤ c → c ≤ 27 + 9 * e → W c = W0 c
theorem moD_T {W0 W : Mem} (hT : agT W0 W) (hR : RCx W e) (hc : ∀ c : Nat, 20 + 9 * e ≤ c → c ≤ 25 + 9 * e → W c = W0 c) (h10 : W 10 = W0 10) : moD e W0 W := ⟨hc, hT 8 (by omega), agM_T hT, hR, fun p _ _ hk => by rw [kbD_eq h10]; exact hk⟩
/-- one evaluation goes on, on the desk's side -/
theorem ans_step {W0 X0 : Mem} {i : Nat} (hB : BI n (hyb W0 X0)) (hag : agM W0 X0) (hn : n ≤ 290) (hi : i < 4) (hD : DI n W0 i W) (h7 : W (19 + 9 * i) 7 = 1) (hX : ∀ c : Nat, (56 ≤ c ∧ c ≤ 62) ∨ c = 71 → X c = X0 c) (hX5 : ∀ j, j = 0 ∨ j = 5 ∨ j = 9 ∨ j = 10 → X 55 j = X0 55 j) :
    (∃ J, goH i J ∧ J (mset W (19 + 9 * i) 7 2)) ∧ frD i W (goD i 48 (mset W (19 + 9 * i) 7 2)) ∧ DI n W0 (i + 1) (goD i 48 (mset W (19 + 9 * i) 7 2))
    ∧ TXo (lexF X0 i) ∧ ∃ N S, dfF (lexF X0 i) = some (N, S) ∧ ∀ TN, fxN X0 N TN → gdN TN 0 N.length ∧ deR i W (goD i 48 (mset W (19 + 9 * i) 7 2)) S (eV X N TN (tp N)) ∧ (goD i 48 (mset W (19 + 9 * i) 7 2)) (19 + 9 * i) 8 = TN (tp N) := by
  obtain ⟨d1, d2, d3, d4, d5⟩ := hD
  obtain ⟨p1, p2, p3, p4⟩ := both_pre ⟨hB.1.1, hB.1.2.1, hB.1.2.2.1⟩ hB.2.1 hB.2.2.1.2.1 hag (by omega) hi
  have hBB := hB
  obtain ⟨-, -, -, -, x1, v1, -⟩ := hBB
  obtain ⟨a1, a2, a3, a4, a5, a6, a7, a8, a9⟩ := v1 i hi
  have d5i := d5 i (Nat.le_refl _) hi
  have w19 : W (19 + 9 * i) = W0 (19 + 9 * i) := d5i _ (by omega) (by omega)
  have hy19 : hyb W0 X0 (19 + 9 * i) = W0 (19 + 9 * i) := hyb_d (by omega)
  have h66 : hyb W0 X0 66 i = 1 := by rw [← a4, hy19, ← w19]; exact h7
  obtain ⟨w1, w2, N, S, TN, w3, w4, w5, w6, w7⟩ := a9 h66
  have hT : agT W0 W := fun c hc => d1 c (by omega)
  have hRW : RCx W i := RCx_mv hT (by omega) (by omega) d2 p1
  have hK0 : KRA W X0 := KRA_mv (d1 10 (by omega)) hT p2
  have hag2 : agM X0 X := ⟨⟨hX5 0 (by omega), hX5 5 (by omega), hX5 9 (by omega), hX5 10 (by omega)⟩, hX 56 (by omega), hX 57 (by omega), hX 58 (by omega), hX 59 (by omega), hX 60 (by omega), hX 61 (by omega), hX 62 (by omega)⟩
  have hKX : KRA W X := ⟨agM_tr hK0.1 hag2, by rw [hX 71 (by omega)]; exact hK0.2⟩
  have hZR : RCx (hyb W0 X0) i := BI_RC hB (by omega) hi
  obtain ⟨y1, y2⟩ := agM_hyb hag
  have agZW : agM (hyb W0 X0) W := agM_tr ⟨⟨y2 0 (by omega), y2 5 (by omega), y2 9 (by omega), y2 10 (by omega)⟩, y1 56 (by decide) (by decide), y1 57 (by decide) (by decide), y1 58 (by decide) (by decide), y1 59 (by decide) (by decide), y1 60 (by decide) (by decide), y1 61 (by decide) (by decide), y1 62 (by decide) (by decide)⟩ (agM_T hT)
  have hcZ : ∀ c : Nat, 19 + 9 * i ≤ c → c ≤ 27 + 9 * i → W c = hyb W0 X0 c := fun c c1 c2 => by rw [hyb_d (by omega)]; exact d5i c c1 c2
  have hmoZ : moD i (hyb W0 X0) W := ⟨fun c c1 c2 => hcZ c (by omega) (by omega), by rw [hyb_d (by decide)]; exact d1 8 (by omega), agZW, hRW, fun p _ _ hk => by rw [kbD_eq (M := hyb W0 X0) (W := W) (by rw [hyb_d (by decide)]; exact d1 10 (by omega))]; exact hk⟩
  have hWT : WTd i W S := WTd_mv hZR hmoZ (hcZ _ (by omega) (by omega)) (by rw [hcZ _ (by omega) (by omega)]) w7
  have hmW : moD i W W := ⟨fun _ _ _ => rfl, rfl, ⟨⟨rfl, rfl, rfl, rfl⟩, rfl, rfl, rfl, rfl, rfl, rfl, rfl⟩, hRW, fun _ _ _ h => h⟩
  have hlex : lexF (hyb W0 X0) i = lexF X0 i := by
    unfold lexF txM
    rw [hyb_m (by decide), hyb_m (by decide)]
  rw [hlex] at w3
  have hF : TXo (lexF X0 i) := by
    have hL : okL X0 := fun e' h0 h5 => by
      by_cases h4 : e' = 4
      · rw [h4]; exact x1.2.1
      · obtain ⟨m, rfl⟩ := Int.eq_ofNat_of_zero_le h0
        exact (v1 m (by omega)).1
    exact text_V hL (fun k h0 h1 => (a3 k h0 h1).2) (by omega) (dfF_gd w3).1
  have h9 : W (19 + 9 * i) 9 = 0 := by rw [w19, ← hy19, a6, if_neg (by omega)]
  have hN0 : fxN X0 N TN := fxN_ag (agM_tr agZW hK0.1) w4
  obtain ⟨o1, o2, o3, o4⟩ := res_sum hF w3 hRW hWT hmW rfl rfl h9 hKX (fxN_ag hag2 hN0) w5 (by omega)
  refine ⟨o1, o3, ⟨fun c hc => funext fun j => ?_, ?_, ?_⟩, hF, N, S, w3, fun TN' hN' => ?_⟩
  · rw [o3 c j (by unfold dcell; omega), d1 c hc]
  · rw [o3 9 5 (by unfold dcell; omega)]; exact d2
  · have hl : ∀ Y : Mem, deR i W Y S (eV X N TN (tp N)) → (0 ≤ Y 9 3 ∧ Y 9 3 ≤ n + (i + 1 : Nat)) ∧ (0 ≤ Y 9 4 ∧ Y 9 4 ≤ n + (i + 1 : Nat)) := by
      rintro Y ⟨q1, q2, q3⟩
      have sm : smL W Y → (0 ≤ Y 9 3 ∧ Y 9 3 ≤ n + (i + 1 : Nat)) ∧ (0 ≤ Y 9 4 ∧ Y 9 4 ≤ n + (i + 1 : Nat)) := fun h => by rw [h.1, h.2.1]; omega
      rcases eV_3 (A := X) (N := N) (T := TN) (tp N) with h | h | h
      · exact sm (q1 h).2.2.2.2
      · obtain ⟨-, u2, u3⟩ := q2 h
        by_cases h5 : W 9 5 = 1
        · exact sm (u2 h5).2
        · obtain ⟨-, -, -, u4, -⟩ := u3 h5
          by_cases hh : hasA W (Y (19 + 9 * i) 11)
          · exact sm (u4.1 hh)
          · have := u4.2 hh
            rw [this.1, this.2.1]; omega
      · exact sm (q3 h).2.2
    have := hl _ o2
    refine ⟨this.1, this.2, fun e' h1 h2 c c1 c2 => ?_⟩
    rw [← d5 e' (by omega) h2 c c1 c2]
    funext j
    exact o3 c j (by unfold dcell; omega)
  · obtain ⟨e1, e2, e3, e4, e5⟩ := desc_all (dfF_gd w3) hF.1 w3
    have huq := fun n h0 h1 => fxN_uq e1 hN0 hN' (n.toNat + 1) n h0 h1 (by omega)
    have hg' : gdN TN' 0 N.length := fun n h0 h1 => by rw [← huq n (by omega) (by omega)]; exact w5 n h0 h1
    obtain ⟨-, u2, -, -⟩ := res_sum hF w3 hRW hWT hmW rfl rfl h9 hKX (fxN_ag hag2 hN') hg' (by omega)
    refine ⟨hg', u2, ?_⟩
    rw [o4, w19, ← hy19, a5, ← huq _ e4 e5]; exact w6
def bitI (s : Int) (e : Nat) : Int := if o_iand (o_ishr s e) 1 = 1 then 1 else 0
/-- the desk's round over the evaluations, and the model's -/
theorem ans_joint {W0 X0 : Mem} {p s : Int} (hB0 : BI n (hyb W0 X0)) (hag0 : agM W0 X0) (hn : n ≤ 290) (h91 : X0 55 9 = 1) : ∀ (m i : Nat) (W X : Mem) (c0 : Int), m + i = 4 → BI (n + i) (hyb W X) → agM W X → DI n W0 i W → (∀ c : Nat, (56 ≤ c ∧ c ≤ 65) ∨ c = 71 → X c = X0 c) → (∀ j, j = 0 ∨ j = 5 ∨ j = 9 ∨ j = 10 → X 55 j = X0 55 j) → (∀ e : Nat, i ≤ e → e < 4 → ((W (19 + 9 * e) 7 = 1 ∧ W (19 + 9 * e) 11 = p) ↔ o_iand (o_ishr s e) 1 = 1)) → amQ s m i X M2 → BI (n + 4) (hyb (ansN p m i W c0).2 M2) ∧ (∀ c : Nat, c ≤ 54 → M2 c = X c) ∧ (ansN p m i W c0).1 = c0 + (List.range m).foldr (fun t z => bitI s (i + t) + z) 0 := by
  intro m
  induction m with
  | zero =>
    intro i W X c0 hm hB hag hD hX hX5 hb hq
    have hq' : M2 = X := hq
    subst hq'
    exact ⟨BI_up hB (by omega), fun _ _ => rfl, (Int.add_zero c0).symm⟩
  | succ m ih =>
    intro i W X c0 hm hB hag hD hX hX5 hb hq
    have hi : i < 4 := by omega
    have hbi := hb i (Nat.le_refl _) hi
    have hfold : (List.range (m + 1)).foldr (fun t z => bitI s (i + t) + z) 0 = bitI s i + (List.range m).foldr (fun t z => bitI s (i + 1 + t) + z) 0 := by
      rw [List.range_succ_eq_map, List.foldr_cons, List.foldr_map]
      simp only [Nat.add_zero, Nat.add_succ, Nat.succ_add]
    rw [hfold]
    by_cases hc : W (19 + 9 * i) 7 = 1 ∧ W (19 + 9 * i) 11 = p
    · obtain ⟨X', q1, q2⟩ := hq.1 (hbi.mp hc)
      rw [ansN_y hc]
      obtain ⟨s1, s2, s3, s4, N, S, s5, s6⟩ := ans_step hB0 hag0 hn hi hD hc.1 (fun c h => hX c (by omega)) hX5
      have h66 : hyb W X 66 i = 1 := by
        have a4 := (hB.2.2.2.2.2.1 i hi).2.2.2.1
        rw [← a4, hyb_d (by omega)]; exact hc.1
      have hx : BIx (n + i) i (hyb W X) := BI_x hB (by rw [hyb_m (by decide), hX5 9 (by omega)]; exact h91) hi (by rw [h66]; decide)
      have hMH := BIx_MH hx hag (by omega) hi
      have hgs := go_sum hMH q1
      have hlex : lexF X i = lexF X0 i := by unfold lexF txM; rw [hX 63 (by omega), hX 64 (by omega)]
      have ag0 : agM X0 X := ⟨⟨hX5 0 (by omega), hX5 5 (by omega), hX5 9 (by omega), hX5 10 (by omega)⟩, hX 56 (by omega), hX 57 (by omega), hX 58 (by omega), hX 59 (by omega), hX 60 (by omega), hX 61 (by omega), hX 62 (by omega)⟩
      obtain ⟨o1, o2, o3⟩ := go_both hx hag (by omega) hi s2 (fun h => by rw [hlex, s5] at h; cases h) (fun N' S' h TN hN => by
        rw [hlex, s5] at h
        cases h
        obtain ⟨g1, g2, g3⟩ := s6 TN (fxN_ag (agM_sy ag0) hN)
        exact ⟨fun h => absurd g1 h, fun _ => ⟨g3, g2⟩⟩) (fun _ _ => by rw [hlex]; exact s4) hgs
      have hfrx : ∀ (c : Nat) (j : Int), ¬ gcell i c j → X' c j = X c j := hgs.1
      obtain ⟨r1, r2, r3⟩ := ih (i + 1) _ X' (c0 + 1) (by omega) (by rw [show n + ((i + 1 : Nat) : Int) = n + i + 1 by omega]; exact o1) o2 s3 (fun c h => by rw [← hX c h]; funext j; exact hfrx c j (by unfold gcell; omega)) (fun j h => by rw [← hX5 j h]; exact hfrx 55 j (by unfold gcell; omega)) (fun e' h1 h2 => by
        have u := s3.2.2.2.2 e' h1 h2 (19 + 9 * e') (Nat.le_refl _) (by omega)
        have u2 := hD.2.2.2.2 e' (by omega) h2 (19 + 9 * e') (Nat.le_refl _) (by omega)
        rw [u, ← u2]
        exact hb e' (by omega) h2) q2
      refine ⟨r1, fun c h => (r2 c h).trans (goS_d hgs c h), ?_⟩
      rw [r3]
      have : bitI s i = 1 := if_pos (hbi.mp hc)
      omega
    · rw [ansN_n hc]
      obtain ⟨r1, r2, r3⟩ := ih (i + 1) W X c0 (by omega) (BI_up hB (by omega)) hag ⟨hD.1, hD.2.1, ⟨hD.2.2.1.1, by have := hD.2.2.1.2; omega⟩, ⟨hD.2.2.2.1.1, by have := hD.2.2.2.1.2; omega⟩, fun e' h1 h2 => hD.2.2.2.2 e' (by omega) h2⟩ hX hX5 (fun e' h1 h2 => hb e' (by omega) h2) (hq.2 (fun h => hc (hbi.mpr h)))
      refine ⟨r1, r2, ?_⟩
      rw [r3]
      have : bitI s i = 0 := if_neg (fun h => hc (hbi.mpr h))
      omega
/-- what the desk's answer needs -/
theorem ans_preD {k : Int} (hB : BI n M) (hn : n ≤ 290) (hk : 0 ≤ k ∧ k < M 9 3) : ansH (M 11 k) (DI n (learnD (dropD M k) (M 11 k))) ∧ DI n (learnD (dropD M k) (M 11 k)) 0 (learnD (dropD M k) (M 11 k)) ∧ agM (learnD (dropD M k) (M 11 k)) (am0 M k) := by
  have hL := learn_Z hB (by omega) hk
  have hm : ∀ (c : Nat) (i : Int), 55 ≤ c → c ≤ 62 → ¬ (c = 55 ∧ i = 21) → am0 M k c i = learnD (dropD M k) (M 11 k) c i := fun c i h1 h2 h3 => by
    rw [learn_fr (by omega)]
    unfold am0
    rw [mset_ne (by omega), tk_o h3 (by omega)]
    unfold dropD shD mset
    rw [if_neg (by omega), if_neg (by omega)]
  have hag : agM (learnD (dropD M k) (M 11 k)) (am0 M k) := ⟨⟨hm 55 0 (by decide) (by decide) (by decide), hm 55 5 (by decide) (by decide) (by decide), hm 55 9 (by decide) (by decide) (by decide), hm 55 10 (by decide) (by decide) (by decide)⟩, funext fun i => hm 56 i (by decide) (by decide) (by omega), funext fun i => hm 57 i (by decide) (by decide) (by omega), funext fun i => hm 58 i (by decide) (by decide) (by omega), funext fun i => hm 59 i (by decide) (by decide) (by omega), funext fun i => hm 60 i (by decide) (by decide) (by omega), funext fun i => hm 61 i (by decide) (by decide) (by omega), funext fun i => hm 62 i (by decide) (by decide) (by omega)⟩
  refine ⟨fun i W hi hV => ⟨fun hc => ?_, fun hc => ?_⟩, ?_, hag⟩
  · obtain ⟨s1, s2, s3, -⟩ := ans_step (X := am0 M k) hL hag hn hi hV hc.1 (fun _ _ => rfl) (fun _ _ => rfl)
    exact ⟨s1, s3⟩
  · exact ⟨hV.1, hV.2.1, ⟨hV.2.2.1.1, by have := hV.2.2.1.2; omega⟩, ⟨hV.2.2.2.1.1, by have := hV.2.2.2.1.2; omega⟩, fun e' h1 h2 => hV.2.2.2.2 e' (by omega) h2⟩
  · obtain ⟨-, ⟨c1, c2, ⟨d1, d2, d3, d4⟩, c4, c5, c6⟩, -⟩ := hL
    rw [hyb_d (c := 9) (by decide)] at c5 c6 d3
    exact ⟨fun _ _ => rfl, rfl, by omega, by omega, fun _ _ _ _ _ _ => rfl⟩
/-- while an answer is handed on, on the model's side -/
def MI (n : Int) (X0 : Mem) (i : Int) (X : Mem) : Prop := (∀ c : Nat, (56 ≤ c ∧ c ≤ 65) ∨ c = 71 → X c = X0 c) ∧ (∀ j, j = 0 ∨ j = 5 ∨ j = 9 ∨ j = 10 → X 55 j = X0 55 j) ∧ (∀ j, j < 0 → X 74 j = 0) ∧ (0 ≤ X 55 21 ∧ X 55 21 ≤ n + i) ∧ (0 ≤ X 55 24 ∧ X 55 24 ≤ n + i)
theorem MI_go {X0 : Mem} {s : Int} (hL : okL X0) (hT : ∀ e : Int, 0 ≤ e → e < 4 → okT X0 e) (hI : TI X0) (hC : CI X0) (hn : n ≤ 290) : amH s (MI n X0) := by
  intro i X h0 h4 hV
  obtain ⟨m1, m2, m3, m4, m5⟩ := hV
  have ag0 : agM X0 X := ⟨⟨m2 0 (by omega), m2 5 (by omega), m2 9 (by omega), m2 10 (by omega)⟩, m1 56 (by omega), m1 57 (by omega), m1 58 (by omega), m1 59 (by omega), m1 60 (by omega), m1 61 (by omega), m1 62 (by omega)⟩
  have hMH : MH i X := by
    refine ⟨?_, ?_, agM_TI ag0 hI, agM_CI ag0 hC, m3, by omega, by omega, h0, h4⟩
    · unfold okL at hL ⊢; rw [m1 64 (by omega)]; exact hL
    · have := hT i h0 h4
      unfold okT at this ⊢; rw [m1 63 (by omega), m1 64 (by omega)]; exact this
  refine ⟨fun _ => ⟨go_ok hMH, fun X' hq => ?_⟩, fun _ => ⟨m1, m2, m3, ⟨m4.1, by omega⟩, ⟨m5.1, by omega⟩⟩⟩
  have hgs := go_sum hMH hq
  obtain ⟨f1, f2, f3⟩ := hgs
  have hgr : (X' 55 21 = X 55 21 ∧ X' 55 24 = X 55 24) ∨ (X' 55 21 = X 55 21 + 1 ∧ X' 55 24 = X 55 24 + 1) := by
    cases hD : dfF (lexF X i) with
    | none => have := (f2 hD).2.2.2; exact Or.inl ⟨this.1, this.2.1⟩
    | some x =>
      obtain ⟨N, S⟩ := x
      obtain ⟨T, -, q2⟩ := f3 N S hD
      rcases q2 with ⟨-, -, -, -, q⟩ | ⟨-, -, u1, u2, u3, u4⟩
      · exact Or.inl ⟨q.1, q.2.1⟩
      · rcases u4 with h | h | h
        · have := (u1 h).2.2.2; exact Or.inl ⟨this.1, this.2.1⟩
        · obtain ⟨-, v1, v2⟩ := u2 h
          by_cases h11 : X 55 11 = 0
          · obtain ⟨-, -, v3⟩ := v2 h11
            by_cases hh : hasReq X (eV X N T (tp N)).2
            · have := v3.1 hh; exact Or.inl ⟨this.1, this.2.1⟩
            · have := v3.2 hh; exact Or.inr ⟨this.1, this.2.1⟩
          · have := (v1 h11).2; exact Or.inl ⟨this.1, this.2.1⟩
        · have := (u3 h).2.2; exact Or.inl ⟨this.1, this.2.1⟩
  refine ⟨fun c h => by rw [← m1 c h]; funext j; exact f1 c j (by unfold gcell; omega), fun j h => by rw [← m2 j h]; exact f1 55 j (by unfold gcell; omega), fun j h => by rw [f1 74 j (by unfold gcell; omega)]; exact m3 j h, by omega, by omega⟩
end AN
