/-- what the model's go may write -/
def gcell (e : Int) (c : Nat) (i : Int) : Prop := (c = 55 ∧ (i = 21 ∨ i = 24 ∨ i = 25 ∨ i = 28 ∨ i = 37 ∨ i = 39 ∨ (42 ≤ i ∧ i ≤ 47))) ∨ (74 ≤ c ∧ ¬ (c = 74 ∧ i < 0)) ∨ c = 72 ∨ c = 73 ∨ ((66 ≤ c ∧ c ≤ 70) ∧ i = e)
def frG (e : Int) (M M' : Mem) : Prop := ∀ c i, ¬ gcell e c i → M' c i = M c i
def smR (M M' : Mem) : Prop := M' 55 21 = M 55 21 ∧ M' 55 24 = M 55 24 ∧ M' 72 = M 72 ∧ M' 73 = M 73
def askR (M M' : Mem) (p : Int) : Prop := (hasReq M p → smR M M') ∧ (¬ hasReq M p → M' 55 21 = M 55 21 + 1 ∧ M' 55 24 = M 55 24 + 1 ∧ (M' 72 = fun i => if i = M 55 21 then p else M 72 i) ∧ M' 73 = fun i => if i = M 55 21 then M 55 24 else M 73 i)
def goR (e : Int) (M M' : Mem) (R : Int × Int) : Prop := (R.1 = 0 → M' 66 e = 2 ∧ M' 69 e = R.2 ∧ M' 68 e = 0 ∧ smR M M') ∧ (R.1 = 1 → M' 68 e = 0 ∧ (¬ M 55 11 = 0 → M' 66 e = 7 ∧ smR M M') ∧ (M 55 11 = 0 → M' 66 e = 1 ∧ M' 70 e = R.2 ∧ askR M M' R.2)) ∧ (R.1 = 2 → M' 66 e = 3 ∧ M' 68 e = R.2 ∧ smR M M') ∧ (R.1 = 0 ∨ R.1 = 1 ∨ R.1 = 2)
/-- what the model's go does, by the text alone -/
def goS (e : Int) (M M' : Mem) : Prop := frG e M M' ∧ (dfF (lexF M e) = none → M' 66 e = 4 ∧ M' 67 e = -1 ∧ M' 68 e = 0 ∧ smR M M') ∧ ∀ N S, dfF (lexF M e) = some (N, S) → ∃ T, fxN M N T ∧ ((¬ gdN T 0 N.length ∧ M' 66 e = 5 ∧ M' 67 e = -1 ∧ M' 68 e = 0 ∧ smR M M') ∨ (gdN T 0 N.length ∧ M' 67 e = T (tp N) ∧ goR e M M' (eV M N T (tp N))))
/-- what must hold for the model's go -/
def MH (e : Int) (M : Mem) : Prop := okL M ∧ okT M e ∧ TI M ∧ CI M ∧ (∀ j, j < 0 → M 74 j = 0) ∧ (0 ≤ M 55 21 ∧ M 55 21 ≤ 400) ∧ (0 ≤ M 55 24 ∧ M 55 24 ≤ 400) ∧ 0 ≤ e ∧ e < 4
theorem evX_ag {A W : Mem} (h : agV A W) {T : Int → Int} {E : Int → Int × Int} {n : Int} {x : ND} : evX W T E n x = evX A T E n x := by
  unfold evX; simp only [cF_ag h]
theorem eV_ag {A W : Mem} (h : agV A W) {N : List ND} {T : Int → Int} (n : Int) : eV W N T n = eV A N T n := by
  have : ∀ (f : Nat), evF W N T f = evF A N T f := by
    intro f
    induction f with
    | zero => rfl
    | succ f ih =>
      funext n
      show evX W T (evF W N T f) n _ = evX A T (evF A N T f) n _
      rw [ih, evX_ag h]
  unfold eV; rw [this]
theorem fxN_ag {A W : Mem} (h : agM A W) {N : List ND} {T : Int → Int} (hN : fxN A N T) : fxN W N T := fun n x hx => (hN n x hx).trans (agM_kchk h _ _ _ _ _).symm
theorem agM_sy {A W : Mem} (h : agM A W) : agM W A := by
  obtain ⟨⟨h0, h5, h9, h10⟩, g6, g7, g8, g9, g0, g1, g2⟩ := h
  exact ⟨⟨h0.symm, h5.symm, h9.symm, h10.symm⟩, g6.symm, g7.symm, g8.symm, g9.symm, g0.symm, g1.symm, g2.symm⟩
theorem agV_sy {A W : Mem} (h : agV A W) : agV W A := by
  obtain ⟨g6, g9, g0, g1, g2, g3⟩ := h
  exact ⟨g6.symm, g9.symm, g0.symm, g1.symm, g2.symm, g3.symm⟩
theorem dfF_gd {F : List (Int × Int) × Int} {x : List ND × List SD} (h : dfF F = some x) : gdF F := by
  by_cases hg : F.2 = 0 ∧ F.1.length ≤ 24
  · exact hg
  · have e : dfF F = none := if_neg hg
    rw [e] at h; cases h
theorem text_V {M : Mem} {e : Int} (hL : okL M) (hX : okT M e) (he : 0 ≤ e ∧ e < 4) (h : (lexF M e).2 = 0) : (∀ x ∈ (lexF M e).1, tokV x.1 x.2) ∧ ∀ x ∈ (lexF M e).1, tokW x.1 x.2 := by
  have hlen := hL e he.1 (by omega)
  exact ⟨lexL_ok (f := txM M e) (len := M 64 e) (fun j hj => txM_rng hX hj) hlen.2 (n := 41) (k := 0) (L := []) (Int.le_refl _) (fun x hx => absurd hx (by simp)) h, lexL_W (f := txM M e) (len := M 64 e) (fun j hj => txM_rng hX hj) hlen.2 (n := 41) (k := 0) (L := []) (Int.le_refl _) (fun x hx => absurd hx (by simp)) h⟩
theorem go0_fr {M : Mem} {e : Int} {c : Nat} {i : Int} (h : ¬ ((c = 67 ∨ c = 68 ∨ c = 70) ∧ i = e)) : go0 M e c i = M c i := by
  unfold go0 mset
  rw [if_neg (fun h9 => h ⟨Or.inl h9.1, h9.2⟩), if_neg (fun h9 => h ⟨Or.inr (Or.inl h9.1), h9.2⟩), if_neg (fun h9 => h ⟨Or.inr (Or.inr h9.1), h9.2⟩)]
theorem split_fr {M : Mem} {e : Int} {c : Nat} {i : Int} (h : ¬ ((c = 55 ∧ (i = 25 ∨ i = 44)) ∨ (c = 74 ∧ 0 ≤ i) ∨ c = 75)) : splitM M e c i = M c i := by
  unfold splitM lexM
  rw [if_neg (fun h9 => h (Or.inl ⟨h9.1, Or.inl h9.2⟩)), if_neg (fun h9 => h (Or.inl ⟨h9.1, Or.inr h9.2⟩)), if_neg (fun h9 => h (Or.inr (Or.inl ⟨h9.1, h9.2.1⟩))), if_neg (fun h9 => h (Or.inr (Or.inr h9.1)))]
section GS
variable {M W2 M' : Mem} {e : Int} {N : List ND} {S : List SD}
/-- the memory behind the parser, away from what go writes -/
theorem par_fr (h : frP (splitM (go0 M e) e) W2) {c : Nat} {i : Int} (hc : ¬ (pcell c i ∨ (c = 55 ∧ (i = 25 ∨ i = 44)) ∨ (c = 74 ∧ 0 ≤ i) ∨ c = 75 ∨ ((c = 67 ∨ c = 68 ∨ c = 70) ∧ i = e))) : W2 c i = M c i := by
  rw [h c i (fun h9 => hc (Or.inl h9)), split_fr (fun h9 => hc (Or.inr (by rcases h9 with h9 | h9 | h9; exact Or.inl h9; exact Or.inr (Or.inl h9); exact Or.inr (Or.inr (Or.inl h9)))))]
  exact go0_fr (fun h9 => hc (Or.inr (Or.inr (Or.inr (Or.inr h9)))))
theorem par_agM (h : frP (splitM (go0 M e) e) W2) : agM M W2 := by
  have hh : ∀ (c : Nat) (i : Int), ((56 ≤ c ∧ c ≤ 62) ∨ (c = 55 ∧ i ≤ 20)) → W2 c i = M c i := fun c i hc => par_fr h (by unfold pcell; omega)
  exact ⟨⟨hh 55 0 (by omega), hh 55 5 (by omega), hh 55 9 (by omega), hh 55 10 (by omega)⟩, funext fun i => hh 56 i (by omega), funext fun i => hh 57 i (by omega), funext fun i => hh 58 i (by omega), funext fun i => hh 59 i (by omega), funext fun i => hh 60 i (by omega), funext fun i => hh 61 i (by omega), funext fun i => hh 62 i (by omega)⟩
theorem gk_agM {W : Mem} : agM W (gkM W e) := by
  have hh : ∀ (c : Nat) (i : Int), ¬ c = 81 → ¬ c = 67 → gkM W e c i = W c i := fun c i h1 h2 => by
    unfold gkM mK; rw [mset_ne h2]; exact if_neg h1
  exact ⟨⟨hh 55 0 (by omega) (by omega), hh 55 5 (by omega) (by omega), hh 55 9 (by omega) (by omega), hh 55 10 (by omega) (by omega)⟩, funext fun i => hh 56 i (by omega) (by omega), funext fun i => hh 57 i (by omega) (by omega), funext fun i => hh 58 i (by omega) (by omega), funext fun i => hh 59 i (by omega) (by omega), funext fun i => hh 60 i (by omega) (by omega), funext fun i => hh 61 i (by omega) (by omega), funext fun i => hh 62 i (by omega) (by omega)⟩
theorem gk_fr {W : Mem} {c : Nat} {i : Int} (h1 : ¬ c = 81) (h2 : ¬ c = 67) : gkM W e c i = W c i := by
  unfold gkM mK; rw [mset_ne h2]; exact if_neg h1
theorem kind_lt {A : Mem} {T : Int → Int} (hI : TI A) (hN : fxN A N T) (ha : allN N) (hg : gdN T 0 N.length) : ∀ (f : Nat) (n : Int), 0 ≤ n → n < N.length → n < f → 0 ≤ T n ∧ T n < 18 := by
  intro f
  induction f with
  | zero => intro n h0 _ h; omega
  | succ f ih =>
    intro n h0 h1 hf
    have hx := ndGet h0 h1
    have hgd := ndAll ha h0 h1
    have hk := hN n.toNat _ hx
    rw [Int.toNat_of_nonneg h0] at hk
    have hge := hg n.toNat (by omega) (by omega)
    rw [Int.toNat_of_nonneg h0] at hge
    refine ⟨hge, ?_⟩
    rw [hk]
    generalize N.getD n.toNat nd0 = x at hgd
    obtain ⟨g1, g2, g3, g4, g5, g6, g7⟩ := hgd
    exact (kchk_rng hI g1.1 (fun h => by have := g5 h; rw [w32_id (by omega)]; exact this) (fun h => by have := g2 (by omega); have := g3 (by omega); exact ih _ (by omega) (by omega) (by omega)) (fun h => by have := g4 h; exact ih _ (by omega) (by omega) (by omega))).2
/-- what the parser and the kinds give, for the rounds of work -/
theorem SF_of (h : MH e M) (hD : dfF (lexF M e) = some (N, S)) (hp : frP (splitM (go0 M e) e) W2) (hn : W2 55 28 = N.length) (hk : ndk W2 N) (hr : W2 84 0 = tp N) : fxN M N (totK (kcF W2) N.length 0 (fun j => W2 81 j)) ∧ ((cmD W2).2 = true ↔ gdN (totK (kcF W2) N.length 0 (fun j => W2 81 j)) 0 N.length) ∧ ((cmD W2).2 = true → (cmD W2).1 = totK (kcF W2) N.length 0 (fun j => W2 81 j) ∧ SF (gkM W2 e) N (cmD W2).1) := by
  obtain ⟨hL, hX, hI, hC, hneg, h21, h24, he⟩ := h
  have hg := dfF_gd hD
  obtain ⟨hv, hw⟩ := text_V hL hX he hg.1
  obtain ⟨d1, d2, d3, d4, d5⟩ := desc_all hg hv hD
  have ag := par_agM hp
  have hN2 := fxN_of hk d1
  have ht := cmN_tot (f := kcF W2) N.length 0 (fun j => W2 81 j)
  have e1 : cmD W2 = cmN (kcF W2) N.length 0 (fun j => W2 81 j) := by
    unfold cmD; rw [hn, Int.toNat_natCast]
  have e2 : (cmD W2).2 = true ↔ gdN (totK (kcF W2) N.length 0 (fun j => W2 81 j)) 0 N.length := by
    rw [e1, ht.1]
    refine ⟨fun h9 n _ h8 => ?_, fun h9 m h8 => ?_⟩
    · have := h9 n h8
      rw [show (0 : Int) + (n : Int) = n by omega] at this
      exact this
    · rw [show (0 : Int) + (m : Int) = m by omega]
      exact h9 m (by omega) h8
  refine ⟨fxN_ag (agM_sy ag) hN2, e2, fun hf => ?_⟩
  have e3 : (cmD W2).1 = totK (kcF W2) N.length 0 (fun j => W2 81 j) := by
    rw [e1]; rw [e1] at hf; exact ht.2 hf
  refine ⟨e3, ?_⟩
  have hI2 := agM_TI (gk_agM (e := e)) (agM_TI ag hI)
  have hgd := e2.mp hf
  have hN3 : fxN (gkM W2 e) N (cmD W2).1 := by rw [e3]; exact fxN_ag gk_agM hN2
  refine ⟨⟨fun i hi => ?_, ?_, d1, by omega⟩, hI2, agM_CI gk_agM (agM_CI ag hC), hN3, fun n h0 h1 => ?_, desc_con hg hv hw hD, by rw [gk_fr (by decide) (by decide)]; exact hn, by rw [gk_fr (by decide) (by decide)]; exact hr, d4, d5⟩
  · have := hk i hi
    rw [gk_fr (by decide) (by decide), gk_fr (by decide) (by decide), gk_fr (by decide) (by decide), gk_fr (by decide) (by decide), gk_fr (by decide) (by decide)]
    exact this
  · funext i
    unfold gkM mK
    rw [mset_ne (by decide)]
    exact if_pos rfl
  · rw [e3] at hN3 ⊢
    exact kind_lt hI2 hN3 d1 hgd (n.toNat + 1) n h0 h1 (by omega)
theorem go_ok (h : MH e M) : goM e M := by
  obtain ⟨hL, hX, hI, hC, hneg, h21, h24, he⟩ := h
  exact goM_of hL hX he hI hneg h21 h24 (fun N S W2 hD hp hn hk hr hf => ⟨_, IW_WInv ((SF_of ⟨hL, hX, hI, hC, hneg, h21, h24, he⟩ hD hp hn hk hr).2.2 hf).2, IW_0 ((SF_of ⟨hL, hX, hI, hC, hneg, h21, h24, he⟩ hD hp hn hk hr).2.2 hf).2.1 ((SF_of ⟨hL, hX, hI, hC, hneg, h21, h24, he⟩ hD hp hn hk hr).2.2 hf).2.2.2.2.2.2.2.1⟩)
/-- the model's go, by the text alone -/
theorem go_sum (h : MH e M) (hg : goQ e M M') : goS e M M' := by
  have hMH := h
  obtain ⟨hL, hX, hI, hC, hneg, h21, h24, he⟩ := h
  obtain ⟨W1, hW1, hq⟩ := hg
  subst hW1
  have hF := lexF_go0 (M := M) (e := e)
  have h44 : splitM (go0 M e) e 55 44 = if (lexF M e).2 = 0 ∧ (lexF M e).1.length ≤ 24 then 0 else 1 := rfl
  have hlex : splitM (go0 M e) e = lexM (go0 M e) (lexF M e).1 (if (lexF M e).2 = 0 ∧ (lexF M e).1.length ≤ 24 then 0 else 1) := rfl
  have hbad : dfF (lexF M e) = none → ∀ W2, frP (splitM (go0 M e) e) W2 → M' = mset W2 66 e 4 → goS e M M' := by
    intro hD W2 hp hM
    have hfr : ∀ (c : Nat) (i : Int), ¬ (pcell c i ∨ (c = 55 ∧ (i = 25 ∨ i = 44)) ∨ (c = 74 ∧ 0 ≤ i) ∨ c = 75 ∨ ((c = 67 ∨ c = 68 ∨ c = 70) ∧ i = e)) → ¬ (c = 66 ∧ i = e) → M' c i = M c i := fun c i h1 h2 => by
      rw [hM]; unfold mset; rw [if_neg h2]; exact par_fr hp h1
    refine ⟨fun c i hc => hfr c i (by unfold gcell at hc; unfold pcell; omega) (by unfold gcell at hc; omega), fun _ => ⟨by rw [hM]; exact mset_eq rfl, ?_, ?_, hfr 55 21 (by unfold pcell; omega) (by omega), hfr 55 24 (by unfold pcell; omega) (by omega), funext fun i => hfr 72 i (by unfold pcell; omega) (by omega), funext fun i => hfr 73 i (by unfold pcell; omega) (by omega)⟩, fun N S h9 => by rw [hD] at h9; cases h9⟩
    · rw [hM, mset_ne (by omega), hp 67 e (by unfold pcell; omega), split_fr (by omega)]
      exact mset_eq rfl
    · rw [hM, mset_ne (by omega), hp 68 e (by unfold pcell; omega), split_fr (by omega)]
      unfold go0
      rw [mset_ne (by omega)]
      exact mset_eq rfl
  rcases hq with ⟨q1, q2⟩ | ⟨q1, q2, W2, q3, q4⟩ | ⟨q1, N, O, o, a, cl, W2, q2, q3, q4⟩
  · refine hbad ?_ _ (fun c i _ => rfl) q2
    have hng : ¬ ((lexF M e).2 = 0 ∧ (lexF M e).1.length ≤ 24) := fun h9 => q1 (by rw [h44, if_pos h9])
    exact if_neg hng
  · refine hbad ?_ _ q3 q4
    have hg : gdF (lexF M e) := by
      by_cases h9 : (lexF M e).2 = 0 ∧ (lexF M e).1.length ≤ 24
      · exact h9
      · rw [h44, if_neg h9] at q1; omega
    obtain ⟨hv, hw⟩ := text_V hL hX he hg.1
    have hd := parse_desc (M := go0 M e) (w := if (lexF M e).2 = 0 ∧ (lexF M e).1.length ≤ 24 then 0 else 1) hg hv
    rw [← hlex] at hd
    cases hD : dfF (lexF M e) with
    | none => rfl
    | some x =>
      obtain ⟨N, S⟩ := x
      obtain ⟨o, a, c, h9⟩ := hd.2 N S hD
      rw [q2] at h9; cases h9
  · have hg : gdF (lexF M e) := by
      by_cases h9 : (lexF M e).2 = 0 ∧ (lexF M e).1.length ≤ 24
      · exact h9
      · rw [h44, if_neg h9] at q1; omega
    obtain ⟨hv, hw⟩ := text_V hL hX he hg.1
    have hd := parse_desc (M := go0 M e) (w := if (lexF M e).2 = 0 ∧ (lexF M e).1.length ≤ 24 then 0 else 1) hg hv
    rw [← hlex] at hd
    obtain ⟨hp, ⟨hn, hk⟩, ⟨r4, r5⟩, -⟩ := q3
    cases hD : dfF (lexF M e) with
    | none => rw [hd.1 hD] at q2; cases q2
    | some x =>
      obtain ⟨N', S'⟩ := x
      obtain ⟨o', a', c', h2⟩ := hd.2 N' S' hD
      rw [h2] at q2
      cases q2
      have h84 : W2 84 0 = tp N := r5.1
      obtain ⟨s1, s2, s3⟩ := SF_of hMH hD hp hn hk h84
      have hfr2 := fun (c : Nat) (i : Int) (hc : ¬ (pcell c i ∨ (c = 55 ∧ (i = 25 ∨ i = 44)) ∨ (c = 74 ∧ 0 ≤ i) ∨ c = 75 ∨ ((c = 67 ∨ c = 68 ∨ c = 70) ∧ i = e))) => par_fr hp hc
      have e68 : W2 68 e = 0 := by
        rw [hp 68 e (by unfold pcell; omega), split_fr (by omega)]
        unfold go0
        rw [mset_ne (by omega)]
        exact mset_eq rfl
      have e67 : W2 67 e = -1 := by
        rw [hp 67 e (by unfold pcell; omega), split_fr (by omega)]
        exact mset_eq rfl
      unfold goS
      rw [hD]
      generalize hT : totK (kcF W2) N.length 0 (fun j => W2 81 j) = T at s1 s2 s3
      rcases q4 with ⟨c1, c2⟩ | ⟨c1, z, W4, c2, c3⟩
      · have hfr : ∀ (c : Nat) (i : Int), ¬ (c = 66 ∧ i = e) → ¬ c = 81 → M' c i = W2 c i := fun c i h1 h2 => by
          rw [c2]; unfold mset mK; rw [if_neg h1, if_neg h2]
        refine ⟨fun c i hc => ?_, fun h9 => (by cases h9), fun N9 S9 h9 => ?_⟩
        · rw [hfr c i (by unfold gcell at hc; omega) (by unfold gcell at hc; omega)]
          exact hfr2 c i (by unfold gcell at hc; unfold pcell; omega)
        · cases h9
          refine ⟨T, s1, Or.inl ⟨fun h8 => ?_, by rw [c2]; exact mset_eq rfl, by rw [hfr 67 e (by omega) (by omega)]; exact e67, by rw [hfr 68 e (by omega) (by omega)]; exact e68, ?_, ?_, ?_, ?_⟩⟩
          · rw [s2.mpr h8] at c1; cases c1
          · rw [hfr 55 21 (by omega) (by omega)]; exact hfr2 55 21 (by unfold pcell; omega)
          · rw [hfr 55 24 (by omega) (by omega)]; exact hfr2 55 24 (by unfold pcell; omega)
          · funext i; rw [hfr 72 i (by omega) (by omega)]; exact hfr2 72 i (by unfold pcell; omega)
          · funext i; rw [hfr 73 i (by omega) (by omega)]; exact hfr2 73 i (by unfold pcell; omega)
      · obtain ⟨t1, t2⟩ := s3 c1
        have hgd := s2.mp c1
        rw [t1] at t2
        have hw4 := work_ev t2.1 t2.2.2.2.2.2.2.1 t2.2.2.2.2.2.2.2.1 t2.2.2.2.2.2.2.2.2.1 t2.2.2.2.2.2.2.2.2.2 c2
        have hwf := workQ_fr c2
        have g84 : W4 84 0 = tp N := (hwf 84 0 (by omega)).trans (by rw [gk_fr (by decide) (by decide)]; exact h84)
        have avv : agV M (gkM W2 e) := by
          obtain ⟨⟨_, _, _, _⟩, g6, g7, g8, g9, g0, g1, g2⟩ := agM_tr (par_agM hp) (gk_agM (W := W2) (e := e))
          exact ⟨g6, g9, g0, g1, g2, funext fun i => by rw [gk_fr (by decide) (by decide)]; exact hfr2 71 i (by unfold pcell; omega)⟩
        rw [eV_ag avv] at hw4
        have f4 : ∀ (c : Nat) (i : Int), ¬ (c = 81 ∨ c = 82 ∨ c = 83 ∨ (c = 55 ∧ (i = 46 ∨ i = 47)) ∨ c = 67) → W4 c i = W2 c i := fun c i hc => by
          rw [hwf c i (by omega)]; exact gk_fr (by omega) (by omega)
        have f67 : ∀ i, ¬ i = e → W4 67 i = W2 67 i := fun i hi => by
          rw [hwf 67 i (by omega)]; unfold gkM mK; rw [mset_ni hi]; exact if_neg (by decide)
        have g67 : W4 67 e = T (tp N) := by
          rw [hwf 67 e (by omega)]
          unfold gkM
          rw [mset_eq rfl, t1, h84]
        have g11 : W4 55 11 = M 55 11 := (f4 55 11 (by omega)).trans (hfr2 55 11 (by unfold pcell; omega))
        have g21 : W4 55 21 = M 55 21 := (f4 55 21 (by omega)).trans (hfr2 55 21 (by unfold pcell; omega))
        have g24 : W4 55 24 = M 55 24 := (f4 55 24 (by omega)).trans (hfr2 55 24 (by unfold pcell; omega))
        have g72 : W4 72 = M 72 := funext fun i => (f4 72 i (by omega)).trans (hfr2 72 i (by unfold pcell; omega))
        have g73 : W4 73 = M 73 := funext fun i => (f4 73 i (by omega)).trans (hfr2 73 i (by unfold pcell; omega))
        have g4 : ∀ (c : Nat) (i : Int), ¬ gcell e c i → W4 c i = M c i := fun c i hc => by
          by_cases h67 : c = 67
          · subst h67
            rw [f67 i (by unfold gcell at hc; omega)]; exact hfr2 67 i (by unfold gcell at hc; unfold pcell; omega)
          · rw [f4 c i (by unfold gcell at hc; omega)]; exact hfr2 c i (by unfold gcell at hc; unfold pcell; omega)
        have gw : ∀ (c : Nat) (i : Int), ¬ ((c = 66 ∨ c = 68 ∨ c = 69) ∧ i = e) → gwM W4 e z c i = W4 c i := fun c i hc => by
          unfold gwM mset
          rw [if_neg (fun h9 => hc ⟨Or.inr (Or.inr h9.1), h9.2⟩), if_neg (fun h9 => hc ⟨Or.inr (Or.inl h9.1), h9.2⟩), if_neg (fun h9 => hc ⟨Or.inl h9.1, h9.2⟩)]
        have w66 : gwM W4 e z 66 e = z := by unfold gwM; rw [mset_ne (by omega), mset_ne (by omega), mset_eq rfl]
        have w68 : gwM W4 e z 68 e = W4 55 46 := by unfold gwM; rw [mset_ne (by omega), mset_eq rfl]
        have w69 : gwM W4 e z 69 e = W4 83 (tp N) := by unfold gwM; rw [mset_eq rfl, g84]
        generalize hR : eV M N T (tp N) = R at hw4
        obtain ⟨w0, w1, w2, w3⟩ := hw4
        have hz1 : z = 1 → R.1 = 1 := fun hz => by
          rcases w3 with h9 | h9 | h9
          · have := (w0 h9).1; rw [hz] at this; cases this
          · exact h9
          · have := (w2 h9).1; rw [hz] at this; cases this
        have hz0 : R.1 = 0 → z = 2 := fun h9 => by have := (w0 h9).1; cases this; rfl
        have hz2 : R.1 = 2 → z = 3 := fun h9 => by have := (w2 h9).1; cases this; rfl
        have hz3 : R.1 = 1 → z = 1 := fun h9 => by have := (w1 h9).1; cases this; rfl
        have smw : ∀ V : Mem, (∀ c i, ¬ ((c = 66 ∨ c = 68 ∨ c = 69 ∨ c = 70) ∧ i = e) → V c i = W4 c i) → smR M V := fun V hV => ⟨(hV 55 21 (by omega)).trans g21, (hV 55 24 (by omega)).trans g24, (funext fun i => hV 72 i (by omega)).trans g72, (funext fun i => hV 73 i (by omega)).trans g73⟩
        rcases c3 with ⟨k1, k2⟩ | ⟨k1, k2, k3⟩ | ⟨k1, k2, k3, k4⟩ | ⟨k1, k2, k3, k4⟩
        · refine ⟨fun c i hc => ?_, fun h9 => (by cases h9), fun N9 S9 h9 => ?_⟩
          · rw [k2, gw c i (by unfold gcell at hc; omega)]; exact g4 c i hc
          · cases h9
            refine ⟨T, s1, Or.inr ⟨hgd, by rw [k2, gw 67 e (by omega)]; exact g67, ?_⟩⟩
            rw [hR]
            refine ⟨fun h9 => ?_, fun h9 => absurd (hz3 h9) k1, fun h9 => ?_, w3⟩
            · obtain ⟨a1, a2, a3⟩ := w0 h9
              exact ⟨by rw [k2, w66]; exact hz0 h9, by rw [k2, w69]; exact a2, by rw [k2, w68]; exact a3, by rw [k2]; exact smw _ (fun c i hc => gw c i (by omega))⟩
            · obtain ⟨a1, a2⟩ := w2 h9
              exact ⟨by rw [k2, w66]; exact hz2 h9, by rw [k2, w68]; exact a2, by rw [k2]; exact smw _ (fun c i hc => gw c i (by omega))⟩
        · have r1 := hz1 k1
          obtain ⟨a1, a2, a3⟩ := w1 r1
          have h9 : ∀ (c : Nat) (i : Int), ¬ ((c = 66 ∨ c = 68 ∨ c = 69) ∧ i = e) → M' c i = W4 c i := fun c i hc => by
            rw [k3]; unfold mset; rw [if_neg (fun h9 => hc ⟨Or.inl h9.1, h9.2⟩)]; exact gw c i hc
          refine ⟨fun c i hc => ?_, fun h9 => (by cases h9), fun N9 S9 h8 => ?_⟩
          · rw [h9 c i (by unfold gcell at hc; omega)]; exact g4 c i hc
          · cases h8
            refine ⟨T, s1, Or.inr ⟨hgd, by rw [h9 67 e (by omega)]; exact g67, ?_⟩⟩
            rw [hR]
            refine ⟨fun h8 => by omega, fun h8 => ⟨?_, fun _ => ⟨by rw [k3]; exact mset_eq rfl, smw _ (fun c i hc => h9 c i (by omega))⟩, fun h7 => absurd (g11.trans h7) k2⟩, fun h8 => by omega, w3⟩
            rw [k3, mset_ne (by omega), w68]; exact a3
        · have r1 := hz1 k1
          obtain ⟨a1, a2, a3⟩ := w1 r1
          have h9 : ∀ (c : Nat) (i : Int), ¬ ((c = 66 ∨ c = 68 ∨ c = 69 ∨ c = 70) ∧ i = e) → M' c i = W4 c i := fun c i hc => by
            rw [k4]; unfold mset; rw [if_neg (fun h9 => hc ⟨Or.inr (Or.inr (Or.inr h9.1)), h9.2⟩)]; exact gw c i (by omega)
          have q21 : (mset (gwM W4 e z) 70 e (W4 55 47)) 55 21 = M 55 21 := by rw [mset_ne (by omega), gw 55 21 (by omega)]; exact g21
          have q72 : (mset (gwM W4 e z) 70 e (W4 55 47)) 72 = M 72 := by funext i; rw [mset_ne (by omega), gw 72 i (by omega), g72]
          have hh : hasReq M R.2 := by
            unfold hasReq at k3 ⊢
            rw [q21, q72, a2] at k3; exact k3
          refine ⟨fun c i hc => ?_, fun h9 => (by cases h9), fun N9 S9 h8 => ?_⟩
          · rw [h9 c i (by unfold gcell at hc; omega)]; exact g4 c i hc
          · cases h8
            refine ⟨T, s1, Or.inr ⟨hgd, by rw [h9 67 e (by omega)]; exact g67, ?_⟩⟩
            rw [hR]
            refine ⟨fun h8 => by omega, fun h8 => ⟨?_, fun h7 => absurd (g11.symm.trans k2) h7, fun _ => ⟨?_, by rw [k4]; exact (mset_eq rfl).trans a2, fun _ => smw _ h9, fun h7 => absurd hh h7⟩⟩, fun h8 => by omega, w3⟩
            · rw [k4, mset_ne (by omega), w68]; exact a3
            · rw [k4, mset_ne (by omega), w66]; exact k1
        · have r1 := hz1 k1
          obtain ⟨a1, a2, a3⟩ := w1 r1
          have q21 : (mset (gwM W4 e z) 70 e (W4 55 47)) 55 21 = M 55 21 := by rw [mset_ne (by omega), gw 55 21 (by omega)]; exact g21
          have q24 : (mset (gwM W4 e z) 70 e (W4 55 47)) 55 24 = M 55 24 := by rw [mset_ne (by omega), gw 55 24 (by omega)]; exact g24
          have q72 : (mset (gwM W4 e z) 70 e (W4 55 47)) 72 = M 72 := by funext i; rw [mset_ne (by omega), gw 72 i (by omega), g72]
          have q73 : (mset (gwM W4 e z) 70 e (W4 55 47)) 73 = M 73 := by funext i; rw [mset_ne (by omega), gw 73 i (by omega), g73]
          have hh : ¬ hasReq M R.2 := by
            unfold hasReq at k3 ⊢
            rw [q21, q72, a2] at k3; exact k3
          have hV : ∀ (c : Nat) (i : Int), ¬ ((c = 66 ∨ c = 68 ∨ c = 69 ∨ c = 70) ∧ i = e) → (mset (gwM W4 e z) 70 e (W4 55 47)) c i = W4 c i := fun c i hc => by
            unfold mset; rw [if_neg (fun h9 => hc ⟨Or.inr (Or.inr (Or.inr h9.1)), h9.2⟩)]; exact gw c i (by omega)
          have v66 : (mset (gwM W4 e z) 70 e (W4 55 47)) 66 e = 1 := by rw [mset_ne (by omega), w66]; exact k1
          have v68 : (mset (gwM W4 e z) 70 e (W4 55 47)) 68 e = 0 := by rw [mset_ne (by omega), w68]; exact a3
          have v70 : (mset (gwM W4 e z) 70 e (W4 55 47)) 70 e = R.2 := (mset_eq rfl).trans a2
          rw [a2] at k4 q21 q24 q72 q73 hV v66 v68 v70
          generalize mset (gwM W4 e z) 70 e R.2 = V at k4 q21 q24 q72 q73 hV v66 v68 v70
          have hs : ∀ (c : Nat) (i : Int), ¬ (c = 72 ∨ c = 73 ∨ (c = 55 ∧ (i = 21 ∨ i = 24))) → M' c i = V c i := fun c i hc => by
            rw [k4]; unfold sendM mset
            rw [if_neg (by omega), if_neg (by omega), if_neg (by omega), if_neg (by omega)]
          refine ⟨fun c i hc => ?_, fun h9 => (by cases h9), fun N9 S9 h8 => ?_⟩
          · rw [hs c i (by unfold gcell at hc; omega), hV c i (by unfold gcell at hc; omega)]; exact g4 c i hc
          · cases h8
            refine ⟨T, s1, Or.inr ⟨hgd, by rw [hs 67 e (by omega), hV 67 e (by omega)]; exact g67, ?_⟩⟩
            rw [hR]
            refine ⟨fun h8 => by omega, fun h8 => ⟨by rw [hs 68 e (by omega)]; exact v68, fun h7 => absurd (g11.symm.trans k2) h7, fun _ => ⟨by rw [hs 66 e (by omega)]; exact v66, by rw [hs 70 e (by omega)]; exact v70, fun h7 => absurd h7 hh, fun _ => ⟨?_, ?_, ?_, ?_⟩⟩⟩, fun h8 => by omega, w3⟩
            · rw [k4]; unfold sendM; rw [mset_ni (by omega), mset_eq rfl, q21]
            · rw [k4]; unfold sendM; rw [mset_eq rfl, q24]
            · funext i
              rw [k4]; unfold sendM
              rw [mset_ne (by omega), mset_ne (by omega), mset_ne (by omega)]
              unfold mset
              rw [q21, q72]
              simp
            · funext i
              rw [k4]; unfold sendM
              rw [mset_ne (by omega), mset_ne (by omega)]
              unfold mset
              rw [q21, q24, q73]
              simp
end GS
