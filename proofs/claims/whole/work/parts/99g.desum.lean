/-- what the desk's evaluation may write -/
def dcell (e : Nat) (c : Nat) (i : Int) : Prop := (13 ≤ c ∧ c ≤ 18) ∨ (20 + 9 * e ≤ c ∧ c ≤ 26 + 9 * e) ∨ (c = 19 + 9 * e ∧ 7 ≤ i ∧ i ≤ 11) ∨ (c = 9 ∧ (i = 3 ∨ i = 4)) ∨ c = 11 ∨ c = 12
def frD (e : Nat) (M M' : Mem) : Prop := ∀ c i, ¬ dcell e c i → M' c i = M c i
def smL (M M' : Mem) : Prop := M' 9 3 = M 9 3 ∧ M' 9 4 = M 9 4 ∧ M' 11 = M 11 ∧ M' 12 = M 12
def asL (M M' : Mem) (p : Int) : Prop := (hasA M p → smL M M') ∧ (¬ hasA M p → M' 9 3 = M 9 3 + 1 ∧ M' 9 4 = M 9 4 + 1 ∧ (M' 11 = fun i => if i = M 9 3 then p else M 11 i) ∧ M' 12 = fun i => if i = M 9 3 then M 9 4 else M 12 i)
/-- an evaluation that can go on where it stands -/
def WTd (e : Nat) (M : Mem) (S : List SD) : Prop := stp e M S ∧ ∃ TS Vb n, fxS M S TS ∧ (∀ p : Nat, p < S.length → M (25 + 9 * e) p = TS p ∧ vK M (TS p)) ∧ cnV S Vb ∧ pS M e S.length n Vb 0 (M (26 + 9 * e)) (M (19 + 9 * e) 10)
def deR (e : Nat) (M M' : Mem) (S : List SD) (R : Int × Int) : Prop :=
  (R.1 = 0 → M' (19 + 9 * e) 7 = 2 ∧ M' (19 + 9 * e) 9 = 0 ∧ M' (20 + 9 * e) 6 = S.length ∧ M' (26 + 9 * e) ((S.length : Int) - 1) = R.2 ∧ smL M M')
  ∧ (R.1 = 1 → M' (19 + 9 * e) 9 = 0 ∧ (M 9 5 = 1 → M' (19 + 9 * e) 7 = 7 ∧ smL M M') ∧ (¬ M 9 5 = 1 → M' (19 + 9 * e) 7 = 1 ∧ vpD M (M' (19 + 9 * e) 11) ∧ R.2 = pcD M (M' (19 + 9 * e) 11) ∧ asL M M' (M' (19 + 9 * e) 11) ∧ WTd e M' S))
  ∧ (R.1 = 2 → M' (19 + 9 * e) 7 = 3 ∧ M' (19 + 9 * e) 9 = R.2 ∧ smL M M')
section DS
variable {e : Nat} {M W M' A : Mem} {N : List ND} {S : List SD} {TN TS : Int → Int} {L : Int}
theorem agM_T (h : agT M W) : agM M W := by
  have e55 := h 55 (by omega)
  exact ⟨⟨by rw [e55], by rw [e55], by rw [e55], by rw [e55]⟩, h 56 (by omega), h 57 (by omega), h 58 (by omega), h 59 (by omega), h 60 (by omega), h 61 (by omega), h 62 (by omega)⟩
theorem vpD_eq (h : W 60 = M 60) : vpD W = vpD M ∧ pcD W = pcD M := by
  constructor
  · funext p; unfold vpD; rw [h]
  · funext p; unfold pcD; rw [h]
theorem kbD_eq (h : W 10 = M 10) : kbD W = kbD M := by
  funext p; unfold kbD; rw [h]
theorem KRA_mv (h10 : W 10 = M 10) (hT : agT M W) (hK : KRA M A) : KRA W A := by
  have ag := agM_T hT
  have hv := vpD_eq (hT 60 (by omega))
  refine ⟨agM_tr (agM_sy ag) hK.1, ?_⟩
  rw [hv.1, hv.2, kbD_eq h10]
  exact hK.2
theorem RCx_mv (hT : agT M W) (h3 : 0 ≤ W 9 3 ∧ W 9 3 ≤ 300) (h4 : 0 ≤ W 9 4 ∧ W 9 4 ≤ 300) (h5 : W 9 5 = M 9 5) (hR : RCx M e) : RCx W e := by
  obtain ⟨r1, r2, r3, ⟨-, -, r6⟩, r7⟩ := hR
  exact ⟨RT_t hT r1, TI_t hT r2, agM_CI (agM_T hT) r3, ⟨h3, h4, by rw [h5]; exact r6⟩, r7⟩
theorem pS_cn (hs : stp e W S) : ∀ {n : Nat} {V V' : Int → Int} {q q' : Int}, cnV S V → pS W e L n V q V' q' → cnV S V' := by
  intro n
  induction n with
  | zero => intro V V' q q' h h2; obtain ⟨rfl, -⟩ := h2; exact h
  | succ n ih =>
    intro V V' q q' h h2
    obtain ⟨h3, h4, h5⟩ := h2
    rcases h5 with ⟨h5, h6⟩ | ⟨h5, h6⟩
    · refine ih (fun p s hp hc => ?_) h6
      unfold ups
      by_cases hq : (p : Int) = q
      · exfalso
        have w1 := (hs.2 p s hp).1
        rw [hc, hq] at w1
        rw [stY_137 w1] at h5
        exact absurd h5 (by show ¬ (3 : Int) = 0; decide)
      · rw [if_neg hq]; exact h p s hp hc
    · exact ih h h6
/-- the line, when an evaluation waits -/
theorem ask_r {X : Mem} {p : Int} : asL X (askW X p) p ∧ ∀ c i, ¬ ((c = 9 ∧ (i = 3 ∨ i = 4)) ∨ c = 11 ∨ c = 12) → askW X p c i = X c i := by
  unfold askW
  by_cases h : hasA X p
  · rw [if_pos h]
    exact ⟨⟨fun _ => ⟨rfl, rfl, rfl, rfl⟩, fun h9 => absurd h h9⟩, fun _ _ _ => rfl⟩
  · rw [if_neg h]
    refine ⟨⟨fun h9 => absurd h9 h, fun _ => ⟨?_, ?_, ?_, ?_⟩⟩, fun c i hc => ?_⟩
    · unfold askD; rw [mset_ni (by decide), mset_eq rfl]
    · unfold askD; rw [mset_eq rfl]
    · funext i; unfold askD
      rw [mset_ne (by decide), mset_ne (by decide), mset_ne (by decide)]
      unfold mset
      simp
    · funext i; unfold askD
      rw [mset_ne (by decide), mset_ne (by decide)]
      unfold mset
      simp
    · unfold askD mset
      rw [if_neg (by omega), if_neg (by omega), if_neg (by omega), if_neg (by omega)]
theorem deR_mv (h9 : W 9 = M 9) (h11 : W 11 = M 11) (h12 : W 12 = M 12) (h60 : W 60 = M 60) {R : Int × Int} (h : deR e W M' S R) : deR e M M' S R := by
  have hv := vpD_eq h60
  unfold deR smL asL hasA smL at h ⊢
  rw [h9, h11, h12, hv.1, hv.2] at h
  exact h
/-- what an evaluation comes to -/
theorem out_de {f : Nat} (h : RS W A e N S TN TS) (hf : fwD W e S.length) (hc : Comp N S f 0 N.length 0 S.length) (h7 : W (19 + 9 * e) 7 = 2) (h9 : W (19 + 9 * e) 9 = 0) {Vb : Int → Int} {n0 : Nat} (hb : cnV S Vb) (hp : pS W e S.length n0 Vb 0 (W (26 + 9 * e)) (W (19 + 9 * e) 10)) (hl : W 9 3 < 300 ∧ W 9 4 < 300) :
    (∃ J, goH e J ∧ J W) ∧ deR e W (goD e 48 W) S (eV A N TN (tp N)) ∧ frD e W (goD e 48 W) ∧ (goD e 48 W) (19 + 9 * e) 8 = W (19 + 9 * e) 8 := by
  have hRS := h
  obtain ⟨hR, hK, hs, h48, hTS, hty, hS⟩ := h
  have he : e < 4 := hR.2.2.2.2
  have hline := hR.2.2.2.1
  obtain ⟨o1, o2, o3, o4⟩ := run_out hRS hf hc h7 hb hp
  rw [wv_self] at o1 o2 o3 o4
  have hsz := hs.1
  refine ⟨o1, ?_⟩
  have wvc : ∀ {V : Int → Int} {q : Int} (c : Nat) (i : Int), ¬ c = 26 + 9 * e → ¬ (c = 19 + 9 * e ∧ i = 10) → wv e W V q c i = W c i := fun c i h1 h2 => by
    unfold wv; rw [if_neg h1, if_neg h2]
  have h3 : (eV A N TN (tp N)).1 = 0 ∨ (eV A N TN (tp N)).1 = 1 ∨ (eV A N TN (tp N)).1 = 2 := by
    have hl2 := Comp_lt hc
    obtain ⟨x1, x2⟩ := exec hRS hc Vb hb
    have c1 : ((N.length : Nat) : Int) - 1 = tp N := rfl
    rw [c1] at x1 x2
    by_cases h0 : (eV A N TN (tp N)).1 = 0
    · exact Or.inl h0
    · obtain ⟨_, _, _, _, _, _, r⟩ := x2 h0
      rcases r with ⟨r1, r2⟩ | ⟨r1, r2, r3⟩ | ⟨r1, r2⟩
      · rw [r2] at h0; exact absurd r1 h0
      · rw [r3]; exact Or.inr (Or.inl rfl)
      · rw [r2]; exact Or.inr (Or.inr r1)
  generalize eV A N TN (tp N) = R at o2 o3 o4 h3
  rcases h3 with h3 | h3 | h3
  · obtain ⟨V', g1, g2⟩ := o2 h3
    rw [g1]
    refine ⟨⟨fun _ => ⟨by rw [wvc _ _ (by omega) (by omega)]; exact h7, by rw [wvc _ _ (by omega) (by omega)]; exact h9, by rw [wvc _ _ (by omega) (by omega)]; exact hsz, by rw [wv_26]; exact g2, wvc 9 3 (by omega) (by omega), wvc 9 4 (by omega) (by omega), funext fun i => wvc 11 i (by omega) (by omega), funext fun i => wvc 12 i (by omega) (by omega)⟩, fun h => by omega, fun h => by omega⟩, fun c i hc => wvc c i (by unfold dcell at hc; omega) (by unfold dcell at hc; omega), wvc _ _ (by omega) (by omega)⟩
  · obtain ⟨V', q', p, n, g1, g2, g3, g4⟩ := o3 h3
    rw [g1]
    have hcn := pS_cn hs hb g2
    by_cases h5 : W 9 5 = 1
    · have hw : waitD (wv e W V' q') e p = mset (wv e W V' q') (19 + 9 * e) 7 7 := if_pos (by rw [wvc 9 5 (by omega) (by omega)]; exact h5)
      rw [hw]
      have hq : ∀ (c : Nat) (i : Int), ¬ c = 26 + 9 * e → ¬ (c = 19 + 9 * e ∧ (i = 10 ∨ i = 7)) → mset (wv e W V' q') (19 + 9 * e) 7 7 c i = W c i := fun c i k1 k2 => by
        unfold mset; rw [if_neg (by omega)]; exact wvc c i k1 (by omega)
      refine ⟨⟨fun h => by omega, fun _ => ⟨by rw [hq _ _ (by omega) (by omega)]; exact h9, fun _ => ⟨mset_eq rfl, hq 9 3 (by omega) (by omega), hq 9 4 (by omega) (by omega), funext fun i => hq 11 i (by omega) (by omega), funext fun i => hq 12 i (by omega) (by omega)⟩, fun h => absurd h5 h⟩, fun h => by omega⟩, fun c i hc => hq c i (by unfold dcell at hc; omega) (by unfold dcell at hc; omega), hq _ _ (by omega) (by omega)⟩
    · have hw : waitD (wv e W V' q') e p = mset (mset (askW (wv e W V' q') p) (19 + 9 * e) 7 1) (19 + 9 * e) 11 p := if_neg (by rw [wvc 9 5 (by omega) (by omega)]; exact h5)
      rw [hw]
      obtain ⟨a1, a2⟩ := ask_r (X := wv e W V' q') (p := p)
      generalize askW (wv e W V' q') p = Y at a1 a2
      have b9 : wv e W V' q' 9 = W 9 := wv_c (by omega) (by omega)
      have b11 : wv e W V' q' 11 = W 11 := wv_c (by omega) (by omega)
      have b12 : wv e W V' q' 12 = W 12 := wv_c (by omega) (by omega)
      have a3 : asL W Y p := by
        unfold asL smL hasA at a1 ⊢
        rw [b9, b11, b12] at a1
        exact a1
      -- reads of the memory behind
      have r7 : mset (mset Y (19 + 9 * e) 7 1) (19 + 9 * e) 11 p (19 + 9 * e) 7 = 1 := by rw [mset_ni (by decide), mset_eq rfl]
      have r11 : mset (mset Y (19 + 9 * e) 7 1) (19 + 9 * e) 11 p (19 + 9 * e) 11 = p := mset_eq rfl
      have rq : ∀ (c : Nat) (i : Int), ¬ (c = 19 + 9 * e ∧ (i = 7 ∨ i = 11)) → mset (mset Y (19 + 9 * e) 7 1) (19 + 9 * e) 11 p c i = Y c i := fun c i k1 => by
        unfold mset; rw [if_neg (by omega), if_neg (by omega)]
      generalize mset (mset Y (19 + 9 * e) 7 1) (19 + 9 * e) 11 p = Z at r7 r11 rq
      have rz : ∀ (c : Nat) (i : Int), ¬ (c = 19 + 9 * e ∧ (i = 7 ∨ i = 11)) → ¬ ((c = 9 ∧ (i = 3 ∨ i = 4)) ∨ c = 11 ∨ c = 12) → Z c i = wv e W V' q' c i := fun c i k1 k2 => (rq c i k1).trans (a2 c i k2)
      have rw2 : ∀ (c : Nat) (i : Int), ¬ (c = 19 + 9 * e ∧ (i = 7 ∨ i = 11 ∨ i = 10)) → ¬ c = 26 + 9 * e → ¬ ((c = 9 ∧ (i = 3 ∨ i = 4)) ∨ c = 11 ∨ c = 12) → Z c i = W c i := fun c i k1 k2 k3 => (rz c i (by omega) k3).trans (wvc c i k2 (by omega))
      have a4 : asL W Z p := by
        unfold asL smL at a3 ⊢
        rw [rq 9 3 (by omega), rq 9 4 (by omega), show Z 11 = Y 11 from funext fun i => rq 11 i (by omega), show Z 12 = Y 12 from funext fun i => rq 12 i (by omega)]
        exact a3
      have hT : agT W Z := fun c hc => funext fun i => rw2 c i (by omega) (by omega) (by omega)
      have hl3 : 0 ≤ Z 9 3 ∧ Z 9 3 ≤ 300 ∧ 0 ≤ Z 9 4 ∧ Z 9 4 ≤ 300 := by
        by_cases hh : hasA W p
        · have := a4.1 hh; rw [this.1, this.2.1]; omega
        · have := a4.2 hh; rw [this.1, this.2.1]; omega
      have hRZ : RCx Z e := RCx_mv hT ⟨hl3.1, hl3.2.1⟩ hl3.2.2 (rw2 9 5 (by omega) (by omega) (by omega)) hR
      have hmo : moD e W Z := ⟨fun c c1 c2 => funext fun i => rw2 c i (by omega) (by omega) (by omega), funext fun i => rw2 8 i (by omega) (by omega) (by omega), agM_T hT, hRZ, fun p' _ _ hk => by rw [kbD_eq (M := W) (W := Z) (funext fun i => rw2 10 i (by omega) (by omega) (by omega))]; exact hk⟩
      have hkd : ∀ c a s b t own, kdS Z c a s b t own = kdS W c a s b t own := fun c a s b t own => by
        have hq : ∀ n, vkD Z n = vkD W n := fun n => by unfold vkD; rw [hT 58 (by omega)]
        have hq2 : ∀ k n, fkD Z k n = fkD W k n := fun k n => by unfold fkD; rw [agM_field (agM_T hT)]
        have hq3 : ∀ a k, canC Z a k = canC W a k := fun a k => by unfold canC; rw [agM_rel (agM_T hT), hT 55 (by omega)]
        have hq4 : ∀ a b, choD Z a b = choD W a b := fun a b => by unfold choD; rw [agM_rel (agM_T hT), agM_suits (agM_T hT)]
        have hq5 : ∀ c a b, twoD Z c a b = twoD W c a b := fun c a b => by unfold twoD; rw [agM_rel (agM_T hT)]
        unfold kdS
        rw [hq, hq2, hq3, hq4, hq5, agM_rel (agM_T hT), hT 55 (by omega)]
      have hvk : ∀ k, vK Z k = vK W k := fun k => by unfold vK; rw [hT 55 (by omega)]
      have c26 : Z (26 + 9 * e) = V' := funext fun i => (rz (26 + 9 * e) i (by omega) (by omega)).trans (by rw [wv_26])
      have c10 : Z (19 + 9 * e) 10 = q' := (rz (19 + 9 * e) 10 (by omega) (by omega)).trans wv_10
      refine ⟨⟨fun h => by omega, fun _ => ⟨by rw [rw2 _ _ (by omega) (by omega) (by omega)]; exact h9, fun h => absurd h h5, fun _ => ⟨r7, by rw [r11]; exact g3, by rw [r11]; exact g4, by rw [r11]; exact a4, ⟨by rw [rw2 _ _ (by omega) (by omega) (by omega)]; exact hsz, fun i x hx => ?_⟩, TS, Vb, n, fun i x hx => (hS i x hx).trans (hkd _ _ _ _ _ _).symm, fun i hi => ?_, hb, ?_⟩⟩, fun h => by omega⟩, fun c i hc => rw2 c i (by unfold dcell at hc; omega) (by unfold dcell at hc; omega) (by unfold dcell at hc; omega), rw2 _ _ (by omega) (by omega) (by omega)⟩
      · obtain ⟨w1, w2, w3, w4, w5⟩ := hs.2 i x hx
        rw [rw2 _ _ (by omega) (by omega) (by omega), rw2 _ _ (by omega) (by omega) (by omega), rw2 _ _ (by omega) (by omega) (by omega), rw2 _ _ (by omega) (by omega) (by omega), rw2 _ _ (by omega) (by omega) (by omega), c26]
        exact ⟨w1, w2, w3, w4, fun h => ⟨(w5 h).1, hcn i x hx h⟩⟩
      · rw [rw2 _ _ (by omega) (by omega) (by omega), hvk]; exact hTS i hi
      · rw [c26, c10]; exact pS_mono hmo hR g2
  · obtain ⟨V', q', g1⟩ := o4 h3
    rw [g1]
    have hq : ∀ (c : Nat) (i : Int), ¬ c = 26 + 9 * e → ¬ (c = 19 + 9 * e ∧ (i = 10 ∨ i = 7 ∨ i = 9)) → failD (wv e W V' q') e R.2 c i = W c i := fun c i k1 k2 => by
      unfold failD mset; rw [if_neg (by omega), if_neg (by omega)]; exact wvc c i k1 (by omega)
    refine ⟨⟨fun h => by omega, fun h => by omega, fun _ => ⟨?_, ?_, hq 9 3 (by omega) (by omega), hq 9 4 (by omega) (by omega), funext fun i => hq 11 i (by omega) (by omega), funext fun i => hq 12 i (by omega) (by omega)⟩⟩, fun c i hc => hq c i (by unfold dcell at hc; omega) (by unfold dcell at hc; omega), hq _ _ (by omega) (by omega)⟩
    · unfold failD; rw [mset_ni (by decide), mset_eq rfl]
    · unfold failD; exact mset_eq rfl
end DS
