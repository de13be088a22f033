/-- a memory into which nodes were put -/
def ldM (A : Mem) (N : List ND) : Mem := fun c i => if c = 76 then (N.getD i.toNat nd0).1 else if c = 77 then (N.getD i.toNat nd0).2.1 else if c = 78 then (N.getD i.toNat nd0).2.2.1 else if c = 79 then (N.getD i.toNat nd0).2.2.2.1 else if c = 80 then (N.getD i.toNat nd0).2.2.2.2 else A c i
theorem ldM_o {A : Mem} {N : List ND} {c : Nat} (h : ¬ (76 ≤ c ∧ c ≤ 80)) : ldM A N c = A c := by
  funext i; unfold ldM
  rw [if_neg (by omega), if_neg (by omega), if_neg (by omega), if_neg (by omega), if_neg (by omega)]
theorem ldM_ndk {A : Mem} {N : List ND} : ndk (ldM A N) N := by
  intro i _
  have e : ((i : Nat) : Int).toNat = i := Int.toNat_natCast i
  have e76 : ldM A N 76 i = (N.getD i nd0).1 := by rw [← e]; rfl
  have e77 : ldM A N 77 i = (N.getD i nd0).2.1 := by rw [← e]; rfl
  have e78 : ldM A N 78 i = (N.getD i nd0).2.2.1 := by rw [← e]; rfl
  have e79 : ldM A N 79 i = (N.getD i nd0).2.2.2.1 := by rw [← e]; rfl
  have e80 : ldM A N 80 i = (N.getD i nd0).2.2.2.2 := by rw [← e]; rfl
  exact ⟨e76, e77, e78, e79, e80⟩
theorem ldM_agM {A : Mem} {N : List ND} : agM A (ldM A N) := by
  have h := fun (c : Nat) (hc : ¬ (76 ≤ c ∧ c ≤ 80)) => ldM_o (A := A) (N := N) hc
  exact ⟨⟨by rw [h 55 (by omega)], by rw [h 55 (by omega)], by rw [h 55 (by omega)], by rw [h 55 (by omega)]⟩, h 56 (by omega), h 57 (by omega), h 58 (by omega), h 59 (by omega), h 60 (by omega), h 61 (by omega), h 62 (by omega)⟩
theorem fxN_ex {A : Mem} {N : List ND} (ha : allN N) : ∃ T, fxN A N T := ⟨_, fxN_ag (agM_sy ldM_agM) (fxN_of (ldM_ndk (A := A) (N := N)) ha)⟩
/-- what is known of a text and of the memories for it -/
def TXo (F : List (Int × Int) × Int) : Prop := (∀ x ∈ F.1, tokV x.1 x.2) ∧ ∀ x ∈ F.1, tokW x.1 x.2
section BG
variable {e : Nat} {M M2 M' A : Mem} {N : List ND} {S : List SD} {TN : Int → Int} {F : List (Int × Int) × Int}
theorem kdS_agT {W Z : Mem} (hT : agT W Z) (c a s b t own : Int) : kdS Z c a s b t own = kdS W c a s b t own := by
  have hq : ∀ n, vkD Z n = vkD W n := fun n => by unfold vkD; rw [hT 58 (by omega)]
  have hq2 : ∀ k n, fkD Z k n = fkD W k n := fun k n => by unfold fkD; rw [agM_field (agM_T hT)]
  have hq3 : ∀ a k, canC Z a k = canC W a k := fun a k => by unfold canC; rw [agM_rel (agM_T hT), hT 55 (by omega)]
  have hq4 : ∀ a b, choD Z a b = choD W a b := fun a b => by unfold choD; rw [agM_rel (agM_T hT), agM_suits (agM_T hT)]
  have hq5 : ∀ c a b, twoD Z c a b = twoD W c a b := fun c a b => by unfold twoD; rw [agM_rel (agM_T hT)]
  unfold kdS
  rw [hq, hq2, hq3, hq4, hq5, agM_rel (agM_T hT), hT 55 (by omega)]
theorem vK_agT {W Z : Mem} (hT : agT W Z) (k : Int) : vK Z k = vK W k := by unfold vK; rw [hT 55 (by omega)]
/-- nodes and steps of a text, with kinds and values that are known to fit -/
theorem TY_of (hF : TXo F) (hD : dfF F = some (N, S)) (hI : TI A) (hC : CI A) (hN : fxN A N TN) (hg : gdN TN 0 N.length) : TY0 A N TN := by
  obtain ⟨d1, d2, d3, d4, d5⟩ := desc_all (dfF_gd hD) hF.1 hD
  exact ⟨d1, by omega, hI, hC, hN, fun n h0 h1 => kind_lt hI hN d1 hg (n.toNat + 1) n h0 h1 (by omega), desc_con (dfF_gd hD) hF.1 hF.2 hD⟩
theorem sOK_all {f : Nat} (hc : Comp N S f 0 N.length 0 S.length) : ∀ p : Nat, p < S.length → ∃ s, S[p]? = some s ∧ sOK p S.length s := fun p hp => Comp_sOK hc (Int.le_refl _) p (Nat.zero_le _) hp
theorem con_vK {f : Nat} (hc : Comp N S f 0 N.length 0 S.length) : ∀ (p : Nat) (s : SD), S[p]? = some s → s.1 = 137 → vK M s.2.2.2.2.1 := fun p s hp h1 => by
  have := Comp_con hc p s (Nat.zero_le _) (List.getElem?_eq_some_iff.mp hp).1 hp h1
  rcases this with h | h
  · exact vK_c h
  · exact Or.inr h
/-- an evaluation that was read, just before it goes on -/
theorem beg_W (hR : RCx M e) (hK : KRA M A) (hF : TXo F) (hD : dfF F = some (N, S)) (hs : stp e M2 S) (hx : frX e (be1 M e) M2) :
    wtH M2 e ∧ 1 ≤ M2 (20 + 9 * e) 6 ∧ ∀ TN, fxN A N TN → ((wtD M2 e).2 = true ↔ gdN TN 0 N.length) ∧ ((wtD M2 e).2 = true → ∃ TS f, RS (mset (be2 M2 e) (19 + 9 * e) 7 2) A e N S TN TS ∧ fwD (mset (be2 M2 e) (19 + 9 * e) 7 2) e S.length ∧ Comp N S f 0 N.length 0 S.length ∧ (mset (be2 M2 e) (19 + 9 * e) 7 2) (19 + 9 * e) 8 = TN (tp N) ∧ cnV S (M2 (26 + 9 * e))) := by
  have hRR := hR
  obtain ⟨hT, hI, hC, hl, he⟩ := hR
  obtain ⟨⟨f, hc⟩, h1, h48⟩ := desc_cmp hF.1 hD
  have hok := sOK_all hc
  have hwt := wtH_of hs h48 hok (con_vK hc)
  refine ⟨hwt, by rw [hs.1]; omega, fun TN hN => ?_⟩
  obtain ⟨d1, d2, d3, d4, d5⟩ := desc_all (dfF_gd hD) hF.1 hD
  -- the memory behind the reader
  have r2 : ∀ c i, ¬ (rcell e c i ∨ (14 ≤ c ∧ c ≤ 17) ∨ (c = 13 ∧ i = 1)) → ¬ (c = 19 + 9 * e ∧ (i = 8 ∨ i = 9 ∨ i = 10)) → M2 c i = M c i := fun c i k1 k2 => by
    rw [hx c i k1]; unfold be1 mset; rw [if_neg (by omega), if_neg (by omega), if_neg (by omega)]
  have hT2 : agT M M2 := fun c hc => funext fun i => r2 c i (by unfold rcell; omega) (by omega)
  have hI2 : TI M2 := TI_t hT2 hI
  have hS := fxS_of hs hok
  have htot := chkK_tot (f := kstK M2 e) S.length 0 (fun j => M2 (25 + 9 * e) j)
  have e1 : wtD M2 e = chkK (kstK M2 e) S.length 0 (fun j => M2 (25 + 9 * e) j) := by
    unfold wtD; rw [hs.1, Int.toNat_natCast]
  have hN2 : fxN M2 N TN := fxN_ag (agM_tr (agM_sy hK.1) (agM_T hT2)) hN
  have hkd := Comp_kd hI2 hN2 hS d1 hc
  have e2 : (wtD M2 e).2 = true ↔ gdS (totK (kstK M2 e) S.length 0 (fun j => M2 (25 + 9 * e) j)) 0 S.length := by
    rw [e1, htot.1]
    refine ⟨fun h9 n _ h8 => ?_, fun h9 m h8 => ?_⟩
    · have := h9 n h8
      rw [show (0 : Int) + (n : Int) = n by omega] at this
      exact this
    · rw [show (0 : Int) + (m : Int) = m by omega]
      exact h9 m (by omega) h8
  refine ⟨e2.trans hkd.1.symm, fun hf => ?_⟩
  have hgN := hkd.1.mpr (e2.mp hf)
  have hroot := hkd.2 hgN
  have e3 : (wtD M2 e).1 = totK (kstK M2 e) S.length 0 (fun j => M2 (25 + 9 * e) j) := by
    rw [e1]; rw [e1] at hf; exact htot.2 hf
  have hvk := wt_vK hI2 hwt hf
  rw [hs.1] at hvk
  generalize hTS : totK (kstK M2 e) S.length 0 (fun j => M2 (25 + 9 * e) j) = TS at hS hkd hroot e3
  rw [e3] at hvk
  -- the memory that goes on
  have w7 : (mset (be2 M2 e) (19 + 9 * e) 7 2) (19 + 9 * e) 7 = 2 := mset_eq rfl
  have w25 : (mset (be2 M2 e) (19 + 9 * e) 7 2) (25 + 9 * e) = TS := by
    funext i
    unfold be2
    rw [mset_ne (by omega), mset_ne (by omega), setK_k, e3]
  have w8 : (mset (be2 M2 e) (19 + 9 * e) 7 2) (19 + 9 * e) 8 = TN (tp N) := by
    unfold be2
    rw [mset_ni (by decide), mset_eq rfl, setK_k, e3, hs.1, ← hroot.1]
    rfl
  have wq : ∀ c i, ¬ (c = 19 + 9 * e ∧ (i = 7 ∨ i = 8)) → ¬ c = 25 + 9 * e → ¬ c = 18 → (mset (be2 M2 e) (19 + 9 * e) 7 2) c i = M2 c i := fun c i k1 k2 k3 => by
    unfold be2 mset
    rw [if_neg (by omega), if_neg (by omega), setK_o k2 k3]
  generalize mset (be2 M2 e) (19 + 9 * e) 7 2 = W at w7 w25 w8 wq
  have hTW : agT M2 W := fun c hc => funext fun i => wq c i (by omega) (by omega) (by omega)
  have wm : ∀ c i, ¬ (rcell e c i ∨ (13 ≤ c ∧ c ≤ 18)) → ¬ c = 19 + 9 * e → W c i = M c i := fun c i k1 k2 => by
    rw [wq c i (by omega) (by unfold rcell at k1; omega) (by omega)]; exact r2 c i (by unfold rcell at k1 ⊢; omega) (by omega)
  have hRW : RCx W e := RCx_mv (agT_tr hT2 hTW) (by rw [wm 9 3 (by unfold rcell; omega) (by omega)]; exact hl.1) (by rw [wm 9 4 (by unfold rcell; omega) (by omega)]; exact hl.2.1) (wm 9 5 (by unfold rcell; omega) (by omega)) hRR
  have hKW : KRA W A := KRA_mv (funext fun i => wm 10 i (by unfold rcell; omega) (by omega)) (agT_tr hT2 hTW) hK
  have hIA : TI A := agM_TI hK.1 hI
  have hCA : CI A := agM_CI hK.1 hC
  have hsW : stp e W S := by
    refine ⟨by rw [wq _ _ (by omega) (by omega) (by omega)]; exact hs.1, fun i x hx => ?_⟩
    obtain ⟨w1, w2, w3, w4, w5⟩ := hs.2 i x hx
    rw [wq _ _ (by omega) (by omega) (by omega), wq _ _ (by omega) (by omega) (by omega), wq _ _ (by omega) (by omega) (by omega), wq _ _ (by omega) (by omega) (by omega), wq (26 + 9 * e) _ (by omega) (by omega) (by omega), w25]
    refine ⟨w1, w2, w3, w4, fun h => ⟨?_, (w5 h).2⟩⟩
    rw [hS i x hx, kdS_con h]
  refine ⟨TS, f, ⟨hRW, hKW, hsW, h48, fun p hp => ?_, TY_of hF hD hIA hCA hN hgN, fun i x hx => (hS i x hx).trans (kdS_agT hTW _ _ _ _ _ _).symm⟩, fwD_of hsW hok, hc, w8, fun p s hp h1 => ((hs.2 p s hp).2.2.2.2 h1).2⟩
  rw [w25, vK_agT hTW]
  exact ⟨rfl, hvk p (by omega) (by omega)⟩
/-- an invariant for all evaluations of a text -/
def JA (e : Nat) (X : Mem) : Prop := ∃ J, goH e J ∧ J X
theorem JA_goH : goH e (JA e) := by
  rintro X ⟨J, h1, h2⟩ h7 hlt
  obtain ⟨a, b⟩ := h1 X h2 h7 hlt
  exact ⟨a, J, h1, b⟩
/-- what the desk's begin needs -/
theorem beg_H (hR : RCx M e) (hK : KRA M A) (hF : ∀ x, dfF F = some x → TXo F) (hl : M 9 3 < 300 ∧ M 9 4 < 300) : beH e M (dfF F) (JA e) := by
  intro N S M2 hD hs hx
  have hF := hF _ hD
  obtain ⟨b1, b2, b3⟩ := beg_W hR hK hF hD hs hx
  refine ⟨b1, b2, fun hf => ⟨JA_goH, ?_⟩⟩
  obtain ⟨d1, d2, d3, d4, d5⟩ := desc_all (dfF_gd hD) hF.1 hD
  obtain ⟨TN, hN⟩ := fxN_ex (A := A) d1
  obtain ⟨TS, f, c1, c2, c3, c4, c5⟩ := (b3 TN hN).2 hf
  have he := hR.2.2.2.2
  have r9 : ∀ i, (mset (be2 M2 e) (19 + 9 * e) 7 2) 9 i = M 9 i := fun i => by
    unfold be2
    rw [mset_ne (by omega), mset_ne (by omega), setK_o (by omega) (by omega), hx 9 i (by unfold rcell; omega)]
    unfold be1
    rw [mset_ne (by omega), mset_ne (by omega), mset_ne (by omega)]
  have x9 : (mset (be2 M2 e) (19 + 9 * e) 7 2) (19 + 9 * e) 9 = 0 := by
    unfold be2
    rw [mset_ni (by decide), mset_ni (by decide), setK_o (by omega) (by omega), hx _ 9 (by unfold rcell; omega)]
    unfold be1
    rw [mset_ni (by decide), mset_eq rfl]
  have x10 : (mset (be2 M2 e) (19 + 9 * e) 7 2) (19 + 9 * e) 10 = 0 := by
    unfold be2
    rw [mset_ni (by decide), mset_ni (by decide), setK_o (by omega) (by omega), hx _ 10 (by unfold rcell; omega)]
    exact mset_eq rfl
  have x26 : (mset (be2 M2 e) (19 + 9 * e) 7 2) (26 + 9 * e) = M2 (26 + 9 * e) := by
    funext i
    unfold be2
    rw [mset_ne (by omega), mset_ne (by omega), setK_o (by omega) (by omega)]
  exact (out_de c1 c2 c3 (mset_eq rfl) x9 c5 (n0 := 0) (by rw [x10, x26]; exact ⟨rfl, rfl⟩) (by rw [r9, r9]; exact hl)).1
/-- what the desk's begin does, by the text alone -/
theorem beg_sum {r : Option PV} (hR : RCx M e) (hK : KRA M A) (hF : ∀ x, dfF F = some x → TXo F) (hl : M 9 3 < 300 ∧ M 9 4 < 300) (hq : beQ e M (dfF F) r M') :
    r = some (vi (M' (19 + 9 * e) 7)) ∧ frD e M M' ∧ (dfF F = none → M' (19 + 9 * e) 7 = 4 ∧ M' (19 + 9 * e) 8 = -1 ∧ M' (19 + 9 * e) 9 = 0 ∧ smL M M')
    ∧ ∀ N S, dfF F = some (N, S) → ∀ TN, fxN A N TN → (¬ gdN TN 0 N.length → M' (19 + 9 * e) 7 = 5 ∧ M' (19 + 9 * e) 8 = -1 ∧ M' (19 + 9 * e) 9 = 0 ∧ smL M M') ∧ (gdN TN 0 N.length → M' (19 + 9 * e) 8 = TN (tp N) ∧ deR e M M' S (eV A N TN (tp N))) := by
  obtain ⟨q1, q2⟩ := hq
  have he := hR.2.2.2.2
  have r1 : ∀ {M2 : Mem}, frX e (be1 M e) M2 → ∀ c i, ¬ (rcell e c i ∨ (14 ≤ c ∧ c ≤ 17) ∨ (c = 13 ∧ i = 1)) → ¬ (c = 19 + 9 * e ∧ (i = 8 ∨ i = 9 ∨ i = 10)) → M2 c i = M c i := fun hx c i k1 k2 => by
    rw [hx c i k1]; unfold be1 mset; rw [if_neg (by omega), if_neg (by omega), if_neg (by omega)]
  have r8 : ∀ {M2 : Mem}, frX e (be1 M e) M2 → M2 (19 + 9 * e) 8 = -1 ∧ M2 (19 + 9 * e) 9 = 0 ∧ M2 (19 + 9 * e) 10 = 0 := fun hx => by
    refine ⟨?_, ?_, ?_⟩
    · rw [hx _ 8 (by unfold rcell; omega)]; unfold be1; rw [mset_ni (by decide), mset_ni (by decide), mset_eq rfl]
    · rw [hx _ 9 (by unfold rcell; omega)]; unfold be1; rw [mset_ni (by decide), mset_eq rfl]
    · rw [hx _ 10 (by unfold rcell; omega)]; exact mset_eq rfl
  cases hD : dfF F with
  | none =>
    obtain ⟨p1, M2, p2, p3⟩ := q1 hD
    obtain ⟨s8, s9, -⟩ := r8 p2
    have hq : ∀ c i, ¬ (c = 19 + 9 * e ∧ i = 7) → M' c i = M2 c i := fun c i hc => by rw [p3]; unfold mset; rw [if_neg hc]
    refine ⟨by rw [p1, p3, mset_eq rfl], fun c i hc => ?_, fun _ => ⟨by rw [p3]; exact mset_eq rfl, (hq _ _ (by omega)).trans s8, (hq _ _ (by omega)).trans s9, ?_, ?_, ?_, ?_⟩, fun N S h => by cases h⟩
    · rw [hq c i (by unfold dcell at hc; omega)]; exact r1 p2 c i (by unfold rcell; unfold dcell at hc; omega) (by unfold dcell at hc; omega)
    · rw [hq _ _ (by omega)]; exact r1 p2 9 3 (by unfold rcell; omega) (by omega)
    · rw [hq _ _ (by omega)]; exact r1 p2 9 4 (by unfold rcell; omega) (by omega)
    · funext i; rw [hq _ _ (by omega)]; exact r1 p2 11 i (by unfold rcell; omega) (by omega)
    · funext i; rw [hq _ _ (by omega)]; exact r1 p2 12 i (by unfold rcell; omega) (by omega)
  | some x =>
    obtain ⟨N, S⟩ := x
    have hF := hF _ hD
    obtain ⟨M2, p1, p2, p3, p4⟩ := q2 N S hD
    obtain ⟨s8, s9, s10⟩ := r8 p2
    obtain ⟨b1, b2, b3⟩ := beg_W hR hK hF hD p1 p2
    cases hf : (wtD M2 e).2 with
    | false =>
      obtain ⟨t1, t2⟩ := p3 hf
      have hq : ∀ c i, ¬ (c = 19 + 9 * e ∧ i = 7) → ¬ c = 25 + 9 * e → ¬ c = 18 → M' c i = M2 c i := fun c i hc k2 k3 => by
        rw [t2]; unfold mset; rw [if_neg hc, setK_o k2 k3]
      have m7 : M' (19 + 9 * e) 7 = 5 := by rw [t2]; exact mset_eq rfl
      refine ⟨by rw [t1, m7], fun c i hc => ?_, fun h => (by cases h), fun N9 S9 h9 TN hN => ?_⟩
      · rw [hq c i (by unfold dcell at hc; omega) (by unfold dcell at hc; omega) (by unfold dcell at hc; omega)]; exact r1 p2 c i (by unfold rcell; unfold dcell at hc; omega) (by unfold dcell at hc; omega)
      · cases h9
        obtain ⟨c1, c2⟩ := b3 TN hN
        refine ⟨fun _ => ⟨m7, (hq _ _ (by omega) (by omega) (by omega)).trans s8, (hq _ _ (by omega) (by omega) (by omega)).trans s9, ?_, ?_, ?_, ?_⟩, fun h => by rw [c1.mpr h] at hf; cases hf⟩
        · rw [hq _ _ (by omega) (by omega) (by omega)]; exact r1 p2 9 3 (by unfold rcell; omega) (by omega)
        · rw [hq _ _ (by omega) (by omega) (by omega)]; exact r1 p2 9 4 (by unfold rcell; omega) (by omega)
        · funext i; rw [hq _ _ (by omega) (by omega) (by omega)]; exact r1 p2 11 i (by unfold rcell; omega) (by omega)
        · funext i; rw [hq _ _ (by omega) (by omega) (by omega)]; exact r1 p2 12 i (by unfold rcell; omega) (by omega)
    | true =>
      obtain ⟨t1, t2⟩ := p4 hf
      have hW : ∀ c i, ¬ (c = 19 + 9 * e ∧ (i = 7 ∨ i = 8)) → ¬ c = 25 + 9 * e → ¬ c = 18 → (mset (be2 M2 e) (19 + 9 * e) 7 2) c i = M2 c i := fun c i k1 k2 k3 => by
        unfold be2 mset
        rw [if_neg (by omega), if_neg (by omega), setK_o k2 k3]
      have x9 := (hW (19 + 9 * e) 9 (by omega) (by omega) (by omega)).trans s9
      have x10 := (hW (19 + 9 * e) 10 (by omega) (by omega) (by omega)).trans s10
      have x26 : (mset (be2 M2 e) (19 + 9 * e) 7 2) (26 + 9 * e) = M2 (26 + 9 * e) := funext fun i => hW _ i (by omega) (by omega) (by omega)
      have hWM : ∀ c i, ¬ (rcell e c i ∨ (13 ≤ c ∧ c ≤ 18)) → ¬ c = 19 + 9 * e → (mset (be2 M2 e) (19 + 9 * e) 7 2) c i = M c i := fun c i k1 k2 => by
        rw [hW c i (by omega) (by unfold rcell at k1; omega) (by omega)]; exact r1 p2 c i (by unfold rcell at k1 ⊢; omega) (by omega)
      have w9 : (mset (be2 M2 e) (19 + 9 * e) 7 2) 9 = M 9 := funext fun i => hWM 9 i (by unfold rcell; omega) (by omega)
      have w11 : (mset (be2 M2 e) (19 + 9 * e) 7 2) 11 = M 11 := funext fun i => hWM 11 i (by unfold rcell; omega) (by omega)
      have w12 : (mset (be2 M2 e) (19 + 9 * e) 7 2) 12 = M 12 := funext fun i => hWM 12 i (by unfold rcell; omega) (by omega)
      have w60 : (mset (be2 M2 e) (19 + 9 * e) 7 2) 60 = M 60 := funext fun i => hWM 60 i (by unfold rcell; omega) (by omega)
      have fin : ∀ TN, fxN A N TN → M' (19 + 9 * e) 8 = TN (tp N) ∧ deR e M M' S (eV A N TN (tp N)) ∧ frD e (mset (be2 M2 e) (19 + 9 * e) 7 2) M' := fun TN hN => by
        obtain ⟨TS, f, c1, c2, c3, c4, c5⟩ := (b3 TN hN).2 hf
        obtain ⟨-, o2, o3, o4⟩ := out_de c1 c2 c3 (mset_eq rfl) x9 c5 (n0 := 0) (by rw [x10, x26]; exact ⟨rfl, rfl⟩) (by rw [w9]; exact hl)
        have hM : M' = goD e 48 (mset (be2 M2 e) (19 + 9 * e) 7 2) := t2
        rw [← hM] at o2 o3 o4
        exact ⟨o4.trans c4, deR_mv w9 w11 w12 w60 o2, o3⟩
      refine ⟨t1, fun c i hc => ?_, fun h => (by cases h), fun N9 S9 h9 TN hN => ?_⟩
      · obtain ⟨d1, d2, d3, d4, d5⟩ := desc_all (dfF_gd hD) hF.1 hD
        obtain ⟨TN, hN⟩ := fxN_ex (A := A) d1
        rw [(fin TN hN).2.2 c i hc, hW c i (by unfold dcell at hc; omega) (by unfold dcell at hc; omega) (by unfold dcell at hc; omega)]
        exact r1 p2 c i (by unfold rcell; unfold dcell at hc; omega) (by unfold dcell at hc; omega)
      · cases h9
        exact ⟨fun h => absurd ((b3 TN hN).1.mp hf) h, fun _ => ⟨(fin TN hN).1, (fin TN hN).2.1⟩⟩
/-- an evaluation that waited and goes on, when more is known -/
theorem res_sum {M1 : Mem} (hF : TXo F) (hD : dfF F = some (N, S)) (hR : RCx M e) (hW : WTd e M S) (hm : moD e M M1) (h26 : M1 (26 + 9 * e) = M (26 + 9 * e)) (h19 : M1 (19 + 9 * e) = M (19 + 9 * e)) (h9 : M (19 + 9 * e) 9 = 0) (hK : KRA M1 A) (hN : fxN A N TN) (hg : gdN TN 0 N.length) (hl : M1 9 3 < 300 ∧ M1 9 4 < 300) :
    (∃ J, goH e J ∧ J (mset M1 (19 + 9 * e) 7 2)) ∧ deR e M1 (goD e 48 (mset M1 (19 + 9 * e) 7 2)) S (eV A N TN (tp N)) ∧ frD e M1 (goD e 48 (mset M1 (19 + 9 * e) 7 2)) ∧ (goD e 48 (mset M1 (19 + 9 * e) 7 2)) (19 + 9 * e) 8 = M (19 + 9 * e) 8 := by
  obtain ⟨hs, TS, Vb, n, w1, w2, w3, w4⟩ := hW
  obtain ⟨⟨f, hc⟩, h1, h48⟩ := desc_cmp hF.1 hD
  have he := hR.2.2.2.2
  have hq : ∀ c i, ¬ (c = 19 + 9 * e ∧ i = 7) → (mset M1 (19 + 9 * e) 7 2) c i = M1 c i := fun c i hc => by unfold mset; rw [if_neg hc]
  have hqc : ∀ c, ¬ c = 19 + 9 * e → (mset M1 (19 + 9 * e) 7 2) c = M1 c := fun c hc => funext fun i => hq c i (by omega)
  have hmR := hm.2.2.2.1
  have hT1 : agT M1 (mset M1 (19 + 9 * e) 7 2) := fun c hc => hqc c (by omega)
  have hRW : RCx (mset M1 (19 + 9 * e) 7 2) e := RCx_mv hT1 (by rw [hqc 9 (by omega)]; exact hmR.2.2.2.1.1) (by rw [hqc 9 (by omega)]; exact hmR.2.2.2.1.2.1) (by rw [hqc 9 (by omega)]) hmR
  have hKW : KRA (mset M1 (19 + 9 * e) 7 2) A := KRA_mv (hqc 10 (by omega)) hT1 hK
  have hc2 : ∀ c, 20 + 9 * e ≤ c → c ≤ 26 + 9 * e → (mset M1 (19 + 9 * e) 7 2) c = M c := fun c c1 c2 => by
    rw [hqc c (by omega)]
    by_cases h : c = 26 + 9 * e
    · rw [h]; exact h26
    · exact hm.1 c c1 (by omega)
  have hsW : stp e (mset M1 (19 + 9 * e) 7 2) S := stp_fr hs (fun c i c1 c2 => by rw [hc2 c c1 c2])
  have hm2 : moD e M (mset M1 (19 + 9 * e) 7 2) := ⟨fun c c1 c2 => hc2 c c1 (by omega), by rw [hqc 8 (by omega)]; exact hm.2.1, agM_tr hm.2.2.1 (agM_T hT1), hRW, fun p p0 p1 hk => by rw [kbD_eq (hqc 10 (by omega))]; exact hm.2.2.2.2 p p0 p1 hk⟩
  have hI1 := hRW.2.1
  have hIA := agM_TI hKW.1 hI1
  have hCA := agM_CI hKW.1 hRW.2.2.1
  have hgm := hm2.2.2.1
  have kd : ∀ c a s b t own, kdS (mset M1 (19 + 9 * e) 7 2) c a s b t own = kdS M c a s b t own := fun c a s b t own => by
    have q1 : ∀ n, vkD (mset M1 (19 + 9 * e) 7 2) n = vkD M n := fun n => by unfold vkD; rw [hgm.2.2.2.1]
    have q2 : ∀ k n, fkD (mset M1 (19 + 9 * e) 7 2) k n = fkD M k n := fun k n => by unfold fkD; rw [agM_field hgm]
    have q3 : ∀ a k, canC (mset M1 (19 + 9 * e) 7 2) a k = canC M a k := fun a k => by unfold canC; rw [agM_rel hgm, hgm.1.1]
    have q4 : ∀ a b, choD (mset M1 (19 + 9 * e) 7 2) a b = choD M a b := fun a b => by unfold choD; rw [agM_rel hgm, agM_suits hgm]
    have q5 : ∀ c a b, twoD (mset M1 (19 + 9 * e) 7 2) c a b = twoD M c a b := fun c a b => by unfold twoD; rw [agM_rel hgm]
    unfold kdS
    rw [q1, q2, q3, q4, q5, agM_rel hgm, hgm.1.1]
  have hRS : RS (mset M1 (19 + 9 * e) 7 2) A e N S TN TS := ⟨hRW, hKW, hsW, h48, fun p hp => by
    rw [hc2 (25 + 9 * e) (by omega) (by omega)]
    have := w2 p hp
    refine ⟨this.1, ?_⟩
    unfold vK
    rw [hgm.1.1]
    exact this.2, TY_of hF hD hIA hCA hN hg, fun i x hx => (w1 i x hx).trans (kd _ _ _ _ _ _).symm⟩
  have e19 : ∀ i, ¬ i = 7 → (mset M1 (19 + 9 * e) 7 2) (19 + 9 * e) i = M (19 + 9 * e) i := fun i hi => by
    rw [hq _ _ (by omega), h19]
  obtain ⟨o1, o2, o3, o4⟩ := out_de hRS (fwD_of hsW (sOK_all hc)) hc (mset_eq rfl) ((e19 9 (by decide)).trans h9) w3 (n0 := n) (by rw [hc2 (26 + 9 * e) (by omega) (by omega), e19 10 (by decide)]; exact pS_mono hm2 hR w4) (by rw [hqc 9 (by omega)]; exact hl)
  refine ⟨o1, deR_mv (hqc 9 (by omega)) (hqc 11 (by omega)) (hqc 12 (by omega)) (hqc 60 (by omega)) o2, fun c i hc => ?_, o4.trans (e19 8 (by decide))⟩
  rw [o3 c i hc, hq c i (by unfold dcell at hc; omega)]
end BG
