theorem ansN_V {p : Int} {V : Nat → Mem → Prop} (h : ansH p V) : ∀ (m i : Nat) (W : Mem) (c : Int), m + i = 4 → V i W → V 4 (ansN p m i W c).2 := by
  intro m
  induction m with
  | zero => intro i W c hm hV; rw [show i = 4 by omega] at hV; exact hV
  | succ m ih =>
    intro i W c hm hV
    obtain ⟨h1, h2⟩ := h i W (by omega) hV
    by_cases hc : W (19 + 9 * i) 7 = 1 ∧ W (19 + 9 * i) 11 = p
    · rw [ansN_y hc]; exact ih (i + 1) _ _ (by omega) (h1 hc).2
    · rw [ansN_n hc]; exact ih (i + 1) _ _ (by omega) (h2 hc)
theorem bitI_e {s : Int} (hs : 0 ≤ s ∧ s < 16) : bitI s 0 = s % 2 ∧ bitI s 1 = s / 2 % 2 ∧ bitI s 2 = s / 4 % 2 ∧ bitI s 3 = s / 8 % 2 := by
  have b0 : o_iand (o_ishr s ((0 : Nat) : Int)) 1 = s / 2 ^ 0 % 2 := bit_e hs (by decide)
  have b1 : o_iand (o_ishr s ((1 : Nat) : Int)) 1 = s / 2 ^ 1 % 2 := bit_e hs (by decide)
  have b2 : o_iand (o_ishr s ((2 : Nat) : Int)) 1 = s / 2 ^ 2 % 2 := bit_e hs (by decide)
  have b3 : o_iand (o_ishr s ((3 : Nat) : Int)) 1 = s / 2 ^ 3 % 2 := bit_e hs (by decide)
  unfold bitI
  rw [b0, b1, b2, b3]
  refine ⟨?_, ?_, ?_, ?_⟩
  · split <;> omega
  · split <;> omega
  · split <;> omega
  · split <;> omega
section AR
variable {M M1 M2 : Mem} {n : Int} {r r' : Option PV}
theorem am0_cg {k : Int} (h : ∀ c : Nat, 55 ≤ c → M1 c = M c) : ∀ c : Nat, 55 ≤ c → am0 M1 k c = am0 M k c := fun c hc => by
  funext i
  unfold am0 mset takeOutM shM mset
  simp only [h 55 (by decide), h 72 (by decide), h c hc]
theorem c_answer {k : Int} (hB : BI n M) (hn : n ≤ 290) (hd : ((0 ≤ k ∧ k < M 9 3) → r = some (vi (ansD M k).1) ∧ M1 = (ansD M k).2) ∧ (¬ (0 ≤ k ∧ k < M 9 3) → r = some (vi (-1)) ∧ M1 = M)) (hm : ((0 ≤ k ∧ k < M1 55 21) → r' = some (vi (onesM (amS M1 k))) ∧ amQ (amS M1 k) 4 0 (am0 M1 k) M2) ∧ (¬ (0 ≤ k ∧ k < M1 55 21) → r' = some (vi (-1)) ∧ M2 = M1)) : r = r' ∧ BI (n + 4) M2 := by
  have d1 := hB.2.1.2.2.1.1
  by_cases hk : 0 ≤ k ∧ k < M 9 3
  · obtain ⟨p1, p2⟩ := hd.1 hk
    obtain ⟨a1, a2, a3⟩ := ans_preD hB hn hk
    have hL := learn_Z hB (by omega) hk
    have hD4 := ansN_V a1 4 0 (learnD (dropD M k) (M 11 k)) 0 rfl a2
    have w0 : ∀ c : Nat, 55 ≤ c → learnD (dropD M k) (M 11 k) c = M c := fun c hc => by
      rw [learn_fr (by omega)]
      funext i; unfold dropD shD mset; rw [if_neg (by omega), if_neg (by omega)]
    have mm : ∀ c : Nat, 55 ≤ c → M1 c = M c := fun c hc => by
      rw [p2]; exact (hD4.1 c (by omega)).trans (w0 c hc)
    obtain ⟨q1, q2⟩ := hm.1 (by rw [mm 55 (by decide), d1]; exact hk)
    have hX := am0_cg (k := k) mm
    have hy : hyb (learnD (dropD M k) (M 11 k)) (am0 M1 k) = hyb (learnD (dropD M k) (M 11 k)) (am0 M k) := by
      funext c; unfold hyb; split
      · rfl
      · exact hX c (by omega)
    have hB0 : BI n (hyb (learnD (dropD M k) (M 11 k)) (am0 M1 k)) := by rw [hy]; exact hL
    have hag : agM (learnD (dropD M k) (M 11 k)) (am0 M1 k) := agM_tr a3 ⟨⟨by rw [hX 55 (by decide)], by rw [hX 55 (by decide)], by rw [hX 55 (by decide)], by rw [hX 55 (by decide)]⟩, hX 56 (by decide), hX 57 (by decide), hX 58 (by decide), hX 59 (by decide), hX 60 (by decide), hX 61 (by decide), hX 62 (by decide)⟩
    have h91 : am0 M1 k 55 9 = 1 := by
      have e1 : am0 M1 k 55 9 = M 55 9 := by
        rw [hX 55 (by decide)]; unfold am0; rw [mset_ne (by decide)]; exact tk_o (by decide) (by decide)
      have hr := hB.1.2.1.2.2.1
      have h3 := hB.2.2.2.1
      by_cases h9 : M 55 9 = 0
      · have := (h3 h9).1; omega
      · omega
    -- who goes on
    have hs := waitM_rng (takeOutM M1 k) (M1 72 k)
    have t66 : takeOutM M1 k 66 = M 66 := by rw [← mm 66 (by decide)]; funext i; exact tk_o (by omega) (by omega)
    have t70 : takeOutM M1 k 70 = M 70 := by rw [← mm 70 (by decide)]; funext i; exact tk_o (by omega) (by omega)
    have hwb : ∀ e : Nat, e < 4 → wb (takeOutM M1 k) (M1 72 k) e = indD M (M 11 k) e := fun e he => by
      rw [mm 72 (by decide), ← wb_ind hB hk he]; unfold wb; rw [t66, t70]
    have hbI := bitI_e hs
    have hbw : ∀ e : Nat, e < 4 → bitI (amS M1 k) e = wb (takeOutM M1 k) (M1 72 k) e := fun e he => by
      have g0 := wb_rng (takeOutM M1 k) (M1 72 k) 0
      have g1 := wb_rng (takeOutM M1 k) (M1 72 k) 1
      have g2 := wb_rng (takeOutM M1 k) (M1 72 k) 2
      have g3 := wb_rng (takeOutM M1 k) (M1 72 k) 3
      have hw : amS M1 k = wb (takeOutM M1 k) (M1 72 k) 0 + 2 * wb (takeOutM M1 k) (M1 72 k) 1 + 4 * wb (takeOutM M1 k) (M1 72 k) 2 + 8 * wb (takeOutM M1 k) (M1 72 k) 3 := rfl
      obtain ⟨u0, u1, u2, u3⟩ : bitI (amS M1 k) 0 = amS M1 k % 2 ∧ bitI (amS M1 k) 1 = amS M1 k / 2 % 2 ∧ bitI (amS M1 k) 2 = amS M1 k / 4 % 2 ∧ bitI (amS M1 k) 3 = amS M1 k / 8 % 2 := hbI
      rcases (show e = 0 ∨ e = 1 ∨ e = 2 ∨ e = 3 by omega) with rfl | rfl | rfl | rfl
      · rw [u0]; show amS M1 k % 2 = wb (takeOutM M1 k) (M1 72 k) 0; omega
      · rw [u1]; show amS M1 k / 2 % 2 = wb (takeOutM M1 k) (M1 72 k) 1; omega
      · rw [u2]; show amS M1 k / 4 % 2 = wb (takeOutM M1 k) (M1 72 k) 2; omega
      · rw [u3]; show amS M1 k / 8 % 2 = wb (takeOutM M1 k) (M1 72 k) 3; omega
    have hw19 : ∀ e : Nat, e < 4 → learnD (dropD M k) (M 11 k) (19 + 9 * e) = M (19 + 9 * e) := fun e he => by
      rw [learn_fr (by omega)]
      funext i; unfold dropD shD mset; rw [if_neg (by omega), if_neg (by omega)]
    obtain ⟨j1, j2, j3⟩ := ans_joint (p := M 11 k) (s := amS M1 k) (M2 := M2) hB0 hag hn h91 4 0 (learnD (dropD M k) (M 11 k)) (am0 M1 k) 0 rfl (BI_up hB0 (by omega)) hag a2 (fun _ _ => rfl) (fun _ _ => rfl) (fun e _ he => by
      rw [hw19 e he]
      have h1 := hbw e he
      rw [hwb e he] at h1
      unfold bitI indD at h1
      constructor
      · intro h
        rw [if_pos h] at h1
        by_cases hb : o_iand (o_ishr (amS M1 k) e) 1 = 1
        · exact hb
        · rw [if_neg hb] at h1; omega
      · intro h
        rw [if_pos h] at h1
        by_cases hb : M (19 + 9 * e) 7 = 1 ∧ M (19 + 9 * e) 11 = M 11 k
        · exact hb
        · rw [if_neg hb] at h1; omega) q2
    have hM1 : (ansN (M 11 k) 4 0 (learnD (dropD M k) (M 11 k)) 0).2 = M1 := p2.symm
    rw [hM1] at j1
    have h2 : hyb M1 M2 = M2 := by
      funext c; unfold hyb; split
      · rename_i hc
        rw [j2 c hc]
        funext i
        unfold am0; rw [mset_ne (by omega)]
        exact (tk_o (by omega) (by omega)).symm
      · rfl
    rw [h2] at j1
    refine ⟨?_, j1⟩
    rw [p1, q1]
    have e9 : (ansD M k).1 = 0 + (bitI (amS M1 k) (0 + 0) + (bitI (amS M1 k) (0 + 1) + (bitI (amS M1 k) (0 + 2) + (bitI (amS M1 k) (0 + 3) + 0)))) := j3
    obtain ⟨u0, u1, u2, u3⟩ : bitI (amS M1 k) 0 = amS M1 k % 2 ∧ bitI (amS M1 k) 1 = amS M1 k / 2 % 2 ∧ bitI (amS M1 k) 2 = amS M1 k / 4 % 2 ∧ bitI (amS M1 k) 3 = amS M1 k / 8 % 2 := hbI
    rw [e9]
    simp only [Nat.zero_add]
    rw [u0, u1, u2, u3]
    have e10 : onesM (amS M1 k) = amS M1 k % 2 + amS M1 k / 2 % 2 + amS M1 k / 4 % 2 + amS M1 k / 8 % 2 := rfl
    rw [e10]
    refine congrArg (fun z => some (vi z)) ?_
    omega
  · obtain ⟨p1, p2⟩ := hd.2 hk
    subst p2
    obtain ⟨q1, q2⟩ := hm.2 (by rw [d1]; exact hk)
    subst q2
    exact ⟨by rw [p1, q1], BI_up hB (by omega)⟩
end AR
