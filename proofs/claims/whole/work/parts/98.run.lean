/-- the desk's memory with other values and another place of an evaluation -/
def wv (e : Nat) (W : Mem) (V : Int → Int) (q : Int) : Mem := fun c i => if c = 26 + 9 * e then V i else if c = 19 + 9 * e ∧ i = 10 then q else W c i
section WV
variable {e : Nat} {W : Mem} {V : Int → Int} {q : Int}
theorem wv_c {c : Nat} (h : ¬ c = 26 + 9 * e) (h2 : ¬ c = 19 + 9 * e) : wv e W V q c = W c := by
  funext i; unfold wv; rw [if_neg h, if_neg (fun h9 => h2 h9.1)]
theorem wv_26 : wv e W V q (26 + 9 * e) = V := by
  funext i; exact if_pos rfl
theorem wv_10 : wv e W V q (19 + 9 * e) 10 = q := by
  unfold wv; rw [if_neg (by omega), if_pos ⟨rfl, rfl⟩]
theorem wv_19 {i : Int} (h : ¬ i = 10) : wv e W V q (19 + 9 * e) i = W (19 + 9 * e) i := by
  unfold wv; rw [if_neg (by omega), if_neg (fun h9 => h h9.2)]
theorem wv_agT (he : e < 4) : agT W (wv e W V q) := fun c hc => wv_c (by omega) (by omega)
theorem wv_set {i v : Int} : setlD (wv e W V q) e i v = wv e W (fun j => if j = i then v else V j) (i + 1) := by
  funext c j
  unfold setlD mset wv
  by_cases h1 : c = 26 + 9 * e
  · subst h1
    rw [if_neg (show ¬ (26 + 9 * e = 19 + 9 * e ∧ j = 10) by omega), if_pos rfl, if_pos rfl]
    by_cases h2 : j = i
    · rw [if_pos ⟨rfl, h2⟩]; exact (if_pos h2).symm
    · rw [if_neg (fun h9 => h2 h9.2)]; exact (if_neg h2).symm
  · rw [if_neg (show ¬ (c = 26 + 9 * e ∧ j = i) from fun h9 => h1 h9.1), if_neg h1, if_neg h1]
    by_cases h3 : c = 19 + 9 * e ∧ j = 10
    · rw [if_pos h3, if_pos h3]
    · rw [if_neg h3, if_neg h3, if_neg h3]
theorem wv_jmp {q' : Int} : mset (wv e W V q) (19 + 9 * e) 10 q' = wv e W V q' := by
  funext c j
  unfold mset wv
  by_cases h3 : c = 19 + 9 * e ∧ j = 10
  · rw [if_pos h3, if_neg (show ¬ c = 26 + 9 * e by omega), if_pos h3]
  · rw [if_neg h3, if_neg h3, if_neg h3]
end WV
/-- what a step does, by the values alone -/
def stpY (M : Mem) (e : Nat) (V : Int → Int) (i : Int) : Int × Int := if M (21 + 9 * e) i = 137 then (3, i + 1) else if M (21 + 9 * e) i = 143 then ndR M (28 * 0 + M (23 + 9 * e) i) else if M (21 + 9 * e) i = 144 then partR M (w32 (V (M (22 + 9 * e) i))) (M (23 + 9 * e) i) else if M (21 + 9 * e) i = 142 then partR M (w32 (V (M (22 + 9 * e) i))) 26
  else if M (21 + 9 * e) i = 145 then elmR M (w32 (V (M (22 + 9 * e) i))) (V (M (23 + 9 * e) i)) else if M (21 + 9 * e) i = 141 then insR M e i (w32 (V (M (22 + 9 * e) i))) (M (23 + 9 * e) i) else if M (21 + 9 * e) i = 146 then cstR M e i (V (M (22 + 9 * e) i)) (M (23 + 9 * e) i)
  else if M (21 + 9 * e) i = 149 then (0, V (if V (M (22 + 9 * e) i) = 1 then M (23 + 9 * e) i else M (24 + 9 * e) i)) else if M (21 + 9 * e) i = 150 then (3, M (23 + 9 * e) i) else if M (21 + 9 * e) i = 151 then (3, if V (M (22 + 9 * e) i) = 0 then M (23 + 9 * e) i else i + 1) else if M (21 + 9 * e) i = 152 then (3, if V (M (22 + 9 * e) i) = 1 then M (23 + 9 * e) i else i + 1)
  else sgnR (M (21 + 9 * e) i) (M (25 + 9 * e) i) (V (M (22 + 9 * e) i)) (V (M (23 + 9 * e) i))
theorem stpR_wv {e : Nat} {W : Mem} {V : Int → Int} {q i : Int} (he : e < 4) : stpR (wv e W V q) e i = stpY W e V i := by
  have h26 : wv e W V q (26 + 9 * e) = V := wv_26
  have h21 : wv e W V q (21 + 9 * e) = W (21 + 9 * e) := wv_c (by omega) (by omega)
  have h22 : wv e W V q (22 + 9 * e) = W (22 + 9 * e) := wv_c (by omega) (by omega)
  have h23 : wv e W V q (23 + 9 * e) = W (23 + 9 * e) := wv_c (by omega) (by omega)
  have h24 : wv e W V q (24 + 9 * e) = W (24 + 9 * e) := wv_c (by omega) (by omega)
  have h25 : wv e W V q (25 + 9 * e) = W (25 + 9 * e) := wv_c (by omega) (by omega)
  have h10 : wv e W V q 10 = W 10 := wv_c (by omega) (by omega)
  have h8 : wv e W V q 8 = W 8 := wv_c (by omega) (by omega)
  have h60 : wv e W V q 60 = W 60 := wv_c (by omega) (by omega)
  have hs : suitsB (wv e W V q) = suitsB W := by
    funext a b; unfold suitsB isAm; rw [wv_c (c := 56) (by omega) (by omega)]
  unfold stpR stpY elmR partR insR cstR ndR kbD
  simp only [h26, h21, h22, h23, h24, h25, h10, h8, h60, hs]
/-- what holds of the memory while an evaluation goes on -/
def RCx (W : Mem) (e : Nat) : Prop := RT W ∧ TI W ∧ CI W ∧ ((0 ≤ W 9 3 ∧ W 9 3 ≤ 300) ∧ (0 ≤ W 9 4 ∧ W 9 4 ≤ 300) ∧ (0 ≤ W 9 5 ∧ W 9 5 ≤ 1)) ∧ e < 4
section SH
variable {e : Nat} {W : Mem} {V : Int → Int} {q p s1 s2 s3 c : Int}
theorem stH_137 (hR : RCx W e) (hp : 0 ≤ p ∧ p < 48) (h1 : W (21 + 9 * e) p = 137) (h2 : W (22 + 9 * e) p = s1) (h3 : W (23 + 9 * e) p = s2) (h4 : W (24 + 9 * e) p = s3) (hs1 : 0 ≤ s1 ∧ s1 < 48)  : stpH (wv e W V q) e p := by
  obtain ⟨hT, hI, hC, hL, he⟩ := hR
  have h26 : wv e W V q (26 + 9 * e) = V := wv_26
  have h21 : wv e W V q (21 + 9 * e) = W (21 + 9 * e) := wv_c (by omega) (by omega)
  have h22 : wv e W V q (22 + 9 * e) = W (22 + 9 * e) := wv_c (by omega) (by omega)
  have h23 : wv e W V q (23 + 9 * e) = W (23 + 9 * e) := wv_c (by omega) (by omega)
  have h24 : wv e W V q (24 + 9 * e) = W (24 + 9 * e) := wv_c (by omega) (by omega)
  have h25 : wv e W V q (25 + 9 * e) = W (25 + 9 * e) := wv_c (by omega) (by omega)
  have h9 : wv e W V q 9 = W 9 := wv_c (by omega) (by omega)
  have h55 : wv e W V q 55 = W 55 := wv_c (by omega) (by omega)
  have hv : vK (wv e W V q) = vK W := by funext k; unfold vK; rw [h55]
  unfold stpH
  rw [h21, h22, h23, h24, h25, h26, h9, h55, hv, h1, h2, h3, h4]
  exact ⟨RT_t (wv_agT he) hT, TI_t (wv_agT he) hI, hp, hL, hs1, fun h => absurd h (by decide), fun h => absurd h (by decide), fun h => absurd h (by decide), fun h => absurd h (by decide), fun h => absurd h (by decide), fun h => absurd h (by decide), fun h => absurd h (by decide), fun h => absurd (Or.inl rfl) h, fun h => absurd h (by decide)⟩
theorem stH_143 (hR : RCx W e) (hp : 0 ≤ p ∧ p < 48) (h1 : W (21 + 9 * e) p = 143) (h2 : W (22 + 9 * e) p = s1) (h3 : W (23 + 9 * e) p = s2) (h4 : W (24 + 9 * e) p = s3) (hs1 : 0 ≤ s1 ∧ s1 < 48) (hn : 0 ≤ s2 ∧ s2 ≤ 26) : stpH (wv e W V q) e p := by
  obtain ⟨hT, hI, hC, hL, he⟩ := hR
  have h26 : wv e W V q (26 + 9 * e) = V := wv_26
  have h21 : wv e W V q (21 + 9 * e) = W (21 + 9 * e) := wv_c (by omega) (by omega)
  have h22 : wv e W V q (22 + 9 * e) = W (22 + 9 * e) := wv_c (by omega) (by omega)
  have h23 : wv e W V q (23 + 9 * e) = W (23 + 9 * e) := wv_c (by omega) (by omega)
  have h24 : wv e W V q (24 + 9 * e) = W (24 + 9 * e) := wv_c (by omega) (by omega)
  have h25 : wv e W V q (25 + 9 * e) = W (25 + 9 * e) := wv_c (by omega) (by omega)
  have h9 : wv e W V q 9 = W 9 := wv_c (by omega) (by omega)
  have h55 : wv e W V q 55 = W 55 := wv_c (by omega) (by omega)
  have hv : vK (wv e W V q) = vK W := by funext k; unfold vK; rw [h55]
  unfold stpH
  rw [h21, h22, h23, h24, h25, h26, h9, h55, hv, h1, h2, h3, h4]
  exact ⟨RT_t (wv_agT he) hT, TI_t (wv_agT he) hI, hp, hL, hs1, fun _ => hn, fun h => absurd h (by decide), fun h => absurd h (by decide), fun h => absurd h (by decide), fun h => absurd h (by decide), fun h => absurd h (by decide), fun h => absurd h (by decide), fun h => absurd (Or.inr (Or.inl rfl)) h, fun h => absurd h (by decide)⟩
theorem stH_144 (hR : RCx W e) (hp : 0 ≤ p ∧ p < 48) (h1 : W (21 + 9 * e) p = 144) (h2 : W (22 + 9 * e) p = s1) (h3 : W (23 + 9 * e) p = s2) (h4 : W (24 + 9 * e) p = s3) (hs1 : 0 ≤ s1 ∧ s1 < 48) (hn : 0 ≤ s2 ∧ s2 < 26) (hx : 0 ≤ w32 (V s1) ∧ w32 (V s1) ≤ 12) : stpH (wv e W V q) e p := by
  obtain ⟨hT, hI, hC, hL, he⟩ := hR
  have h26 : wv e W V q (26 + 9 * e) = V := wv_26
  have h21 : wv e W V q (21 + 9 * e) = W (21 + 9 * e) := wv_c (by omega) (by omega)
  have h22 : wv e W V q (22 + 9 * e) = W (22 + 9 * e) := wv_c (by omega) (by omega)
  have h23 : wv e W V q (23 + 9 * e) = W (23 + 9 * e) := wv_c (by omega) (by omega)
  have h24 : wv e W V q (24 + 9 * e) = W (24 + 9 * e) := wv_c (by omega) (by omega)
  have h25 : wv e W V q (25 + 9 * e) = W (25 + 9 * e) := wv_c (by omega) (by omega)
  have h9 : wv e W V q 9 = W 9 := wv_c (by omega) (by omega)
  have h55 : wv e W V q 55 = W 55 := wv_c (by omega) (by omega)
  have hv : vK (wv e W V q) = vK W := by funext k; unfold vK; rw [h55]
  unfold stpH
  rw [h21, h22, h23, h24, h25, h26, h9, h55, hv, h1, h2, h3, h4]
  exact ⟨RT_t (wv_agT he) hT, TI_t (wv_agT he) hI, hp, hL, hs1, fun h => absurd h (by decide), fun _ => ⟨hn, hx⟩, fun h => absurd h (by decide), fun h => absurd h (by decide), fun h => absurd h (by decide), fun h => absurd h (by decide), fun h => absurd h (by decide), fun h => absurd (Or.inr (Or.inr (Or.inl rfl))) h, fun h => absurd h (by decide)⟩
theorem stH_142 (hR : RCx W e) (hp : 0 ≤ p ∧ p < 48) (h1 : W (21 + 9 * e) p = 142) (h2 : W (22 + 9 * e) p = s1) (h3 : W (23 + 9 * e) p = s2) (h4 : W (24 + 9 * e) p = s3) (hs1 : 0 ≤ s1 ∧ s1 < 48) (hx : 0 ≤ w32 (V s1) ∧ w32 (V s1) ≤ 12) : stpH (wv e W V q) e p := by
  obtain ⟨hT, hI, hC, hL, he⟩ := hR
  have h26 : wv e W V q (26 + 9 * e) = V := wv_26
  have h21 : wv e W V q (21 + 9 * e) = W (21 + 9 * e) := wv_c (by omega) (by omega)
  have h22 : wv e W V q (22 + 9 * e) = W (22 + 9 * e) := wv_c (by omega) (by omega)
  have h23 : wv e W V q (23 + 9 * e) = W (23 + 9 * e) := wv_c (by omega) (by omega)
  have h24 : wv e W V q (24 + 9 * e) = W (24 + 9 * e) := wv_c (by omega) (by omega)
  have h25 : wv e W V q (25 + 9 * e) = W (25 + 9 * e) := wv_c (by omega) (by omega)
  have h9 : wv e W V q 9 = W 9 := wv_c (by omega) (by omega)
  have h55 : wv e W V q 55 = W 55 := wv_c (by omega) (by omega)
  have hv : vK (wv e W V q) = vK W := by funext k; unfold vK; rw [h55]
  unfold stpH
  rw [h21, h22, h23, h24, h25, h26, h9, h55, hv, h1, h2, h3, h4]
  exact ⟨RT_t (wv_agT he) hT, TI_t (wv_agT he) hI, hp, hL, hs1, fun h => absurd h (by decide), fun h => absurd h (by decide), fun _ => hx, fun h => absurd h (by decide), fun h => absurd h (by decide), fun h => absurd h (by decide), fun h => absurd h (by decide), fun h => absurd (Or.inr (Or.inr (Or.inr (Or.inl rfl)))) h, fun h => absurd h (by decide)⟩
theorem stH_145 (hR : RCx W e) (hp : 0 ≤ p ∧ p < 48) (h1 : W (21 + 9 * e) p = 145) (h2 : W (22 + 9 * e) p = s1) (h3 : W (23 + 9 * e) p = s2) (h4 : W (24 + 9 * e) p = s3) (hs1 : 0 ≤ s1 ∧ s1 < 48) (hx : 0 ≤ w32 (V s1) ∧ w32 (V s1) ≤ 12) (hs2 : 0 ≤ s2 ∧ s2 < 48) : stpH (wv e W V q) e p := by
  obtain ⟨hT, hI, hC, hL, he⟩ := hR
  have h26 : wv e W V q (26 + 9 * e) = V := wv_26
  have h21 : wv e W V q (21 + 9 * e) = W (21 + 9 * e) := wv_c (by omega) (by omega)
  have h22 : wv e W V q (22 + 9 * e) = W (22 + 9 * e) := wv_c (by omega) (by omega)
  have h23 : wv e W V q (23 + 9 * e) = W (23 + 9 * e) := wv_c (by omega) (by omega)
  have h24 : wv e W V q (24 + 9 * e) = W (24 + 9 * e) := wv_c (by omega) (by omega)
  have h25 : wv e W V q (25 + 9 * e) = W (25 + 9 * e) := wv_c (by omega) (by omega)
  have h9 : wv e W V q 9 = W 9 := wv_c (by omega) (by omega)
  have h55 : wv e W V q 55 = W 55 := wv_c (by omega) (by omega)
  have hv : vK (wv e W V q) = vK W := by funext k; unfold vK; rw [h55]
  unfold stpH
  rw [h21, h22, h23, h24, h25, h26, h9, h55, hv, h1, h2, h3, h4]
  exact ⟨RT_t (wv_agT he) hT, TI_t (wv_agT he) hI, hp, hL, hs1, fun h => absurd h (by decide), fun h => absurd h (by decide), fun h => absurd h (by decide), fun _ => hx, fun h => absurd h (by decide), fun h => absurd h (by decide), fun h => absurd h (by decide), fun _ => hs2, fun h => absurd h (by decide)⟩
theorem stH_141 (hR : RCx W e) (hp : 0 ≤ p ∧ p < 48) (h1 : W (21 + 9 * e) p = 141) (h2 : W (22 + 9 * e) p = s1) (h3 : W (23 + 9 * e) p = s2) (h4 : W (24 + 9 * e) p = s3) (hs1 : 0 ≤ s1 ∧ s1 < 48) (hx : (0 ≤ w32 (V s1) ∧ w32 (V s1) ≤ W 55 5) ∧ vK W (W (25 + 9 * e) s1) ∧ vK W s2) : stpH (wv e W V q) e p := by
  obtain ⟨hT, hI, hC, hL, he⟩ := hR
  have h26 : wv e W V q (26 + 9 * e) = V := wv_26
  have h21 : wv e W V q (21 + 9 * e) = W (21 + 9 * e) := wv_c (by omega) (by omega)
  have h22 : wv e W V q (22 + 9 * e) = W (22 + 9 * e) := wv_c (by omega) (by omega)
  have h23 : wv e W V q (23 + 9 * e) = W (23 + 9 * e) := wv_c (by omega) (by omega)
  have h24 : wv e W V q (24 + 9 * e) = W (24 + 9 * e) := wv_c (by omega) (by omega)
  have h25 : wv e W V q (25 + 9 * e) = W (25 + 9 * e) := wv_c (by omega) (by omega)
  have h9 : wv e W V q 9 = W 9 := wv_c (by omega) (by omega)
  have h55 : wv e W V q 55 = W 55 := wv_c (by omega) (by omega)
  have hv : vK (wv e W V q) = vK W := by funext k; unfold vK; rw [h55]
  unfold stpH
  rw [h21, h22, h23, h24, h25, h26, h9, h55, hv, h1, h2, h3, h4]
  exact ⟨RT_t (wv_agT he) hT, TI_t (wv_agT he) hI, hp, hL, hs1, fun h => absurd h (by decide), fun h => absurd h (by decide), fun h => absurd h (by decide), fun h => absurd h (by decide), fun _ => hx, fun h => absurd h (by decide), fun h => absurd h (by decide), fun h => absurd (Or.inr (Or.inr (Or.inr (Or.inr (Or.inl rfl))))) h, fun h => absurd h (by decide)⟩
theorem stH_146 (hR : RCx W e) (hp : 0 ≤ p ∧ p < 48) (h1 : W (21 + 9 * e) p = 146) (h2 : W (22 + 9 * e) p = s1) (h3 : W (23 + 9 * e) p = s2) (h4 : W (24 + 9 * e) p = s3) (hs1 : 0 ≤ s1 ∧ s1 < 48) (hx : (reB s2 = true → 0 ≤ V s1 ∧ V s1 ≤ W 55 5) ∧ vK W (W (25 + 9 * e) s1) ∧ vK W s2) : stpH (wv e W V q) e p := by
  obtain ⟨hT, hI, hC, hL, he⟩ := hR
  have h26 : wv e W V q (26 + 9 * e) = V := wv_26
  have h21 : wv e W V q (21 + 9 * e) = W (21 + 9 * e) := wv_c (by omega) (by omega)
  have h22 : wv e W V q (22 + 9 * e) = W (22 + 9 * e) := wv_c (by omega) (by omega)
  have h23 : wv e W V q (23 + 9 * e) = W (23 + 9 * e) := wv_c (by omega) (by omega)
  have h24 : wv e W V q (24 + 9 * e) = W (24 + 9 * e) := wv_c (by omega) (by omega)
  have h25 : wv e W V q (25 + 9 * e) = W (25 + 9 * e) := wv_c (by omega) (by omega)
  have h9 : wv e W V q 9 = W 9 := wv_c (by omega) (by omega)
  have h55 : wv e W V q 55 = W 55 := wv_c (by omega) (by omega)
  have hv : vK (wv e W V q) = vK W := by funext k; unfold vK; rw [h55]
  unfold stpH
  rw [h21, h22, h23, h24, h25, h26, h9, h55, hv, h1, h2, h3, h4]
  exact ⟨RT_t (wv_agT he) hT, TI_t (wv_agT he) hI, hp, hL, hs1, fun h => absurd h (by decide), fun h => absurd h (by decide), fun h => absurd h (by decide), fun h => absurd h (by decide), fun h => absurd h (by decide), fun _ => hx, fun h => absurd h (by decide), fun h => absurd (Or.inr (Or.inr (Or.inr (Or.inr (Or.inr (Or.inl rfl)))))) h, fun h => absurd h (by decide)⟩
theorem stH_149 (hR : RCx W e) (hp : 0 ≤ p ∧ p < 48) (h1 : W (21 + 9 * e) p = 149) (h2 : W (22 + 9 * e) p = s1) (h3 : W (23 + 9 * e) p = s2) (h4 : W (24 + 9 * e) p = s3) (hs1 : 0 ≤ s1 ∧ s1 < 48) (hs2 : 0 ≤ s2 ∧ s2 < 48) (hs3 : 0 ≤ s3 ∧ s3 < 48) : stpH (wv e W V q) e p := by
  obtain ⟨hT, hI, hC, hL, he⟩ := hR
  have h26 : wv e W V q (26 + 9 * e) = V := wv_26
  have h21 : wv e W V q (21 + 9 * e) = W (21 + 9 * e) := wv_c (by omega) (by omega)
  have h22 : wv e W V q (22 + 9 * e) = W (22 + 9 * e) := wv_c (by omega) (by omega)
  have h23 : wv e W V q (23 + 9 * e) = W (23 + 9 * e) := wv_c (by omega) (by omega)
  have h24 : wv e W V q (24 + 9 * e) = W (24 + 9 * e) := wv_c (by omega) (by omega)
  have h25 : wv e W V q (25 + 9 * e) = W (25 + 9 * e) := wv_c (by omega) (by omega)
  have h9 : wv e W V q 9 = W 9 := wv_c (by omega) (by omega)
  have h55 : wv e W V q 55 = W 55 := wv_c (by omega) (by omega)
  have hv : vK (wv e W V q) = vK W := by funext k; unfold vK; rw [h55]
  unfold stpH
  rw [h21, h22, h23, h24, h25, h26, h9, h55, hv, h1, h2, h3, h4]
  exact ⟨RT_t (wv_agT he) hT, TI_t (wv_agT he) hI, hp, hL, hs1, fun h => absurd h (by decide), fun h => absurd h (by decide), fun h => absurd h (by decide), fun h => absurd h (by decide), fun h => absurd h (by decide), fun h => absurd h (by decide), fun _ => hs3, fun _ => hs2, fun h => absurd h (by decide)⟩
theorem stH_150 (hR : RCx W e) (hp : 0 ≤ p ∧ p < 48) (h1 : W (21 + 9 * e) p = 150) (h2 : W (22 + 9 * e) p = s1) (h3 : W (23 + 9 * e) p = s2) (h4 : W (24 + 9 * e) p = s3) (hs1 : 0 ≤ s1 ∧ s1 < 48) (hs2 : 0 ≤ s2 ∧ s2 ≤ 48) : stpH (wv e W V q) e p := by
  obtain ⟨hT, hI, hC, hL, he⟩ := hR
  have h26 : wv e W V q (26 + 9 * e) = V := wv_26
  have h21 : wv e W V q (21 + 9 * e) = W (21 + 9 * e) := wv_c (by omega) (by omega)
  have h22 : wv e W V q (22 + 9 * e) = W (22 + 9 * e) := wv_c (by omega) (by omega)
  have h23 : wv e W V q (23 + 9 * e) = W (23 + 9 * e) := wv_c (by omega) (by omega)
  have h24 : wv e W V q (24 + 9 * e) = W (24 + 9 * e) := wv_c (by omega) (by omega)
  have h25 : wv e W V q (25 + 9 * e) = W (25 + 9 * e) := wv_c (by omega) (by omega)
  have h9 : wv e W V q 9 = W 9 := wv_c (by omega) (by omega)
  have h55 : wv e W V q 55 = W 55 := wv_c (by omega) (by omega)
  have hv : vK (wv e W V q) = vK W := by funext k; unfold vK; rw [h55]
  unfold stpH
  rw [h21, h22, h23, h24, h25, h26, h9, h55, hv, h1, h2, h3, h4]
  exact ⟨RT_t (wv_agT he) hT, TI_t (wv_agT he) hI, hp, hL, hs1, fun h => absurd h (by decide), fun h => absurd h (by decide), fun h => absurd h (by decide), fun h => absurd h (by decide), fun h => absurd h (by decide), fun h => absurd h (by decide), fun h => absurd h (by decide), fun h => absurd (Or.inr (Or.inr (Or.inr (Or.inr (Or.inr (Or.inr (Or.inl rfl))))))) h, fun _ => hs2⟩
theorem stH_151 (hR : RCx W e) (hp : 0 ≤ p ∧ p < 48) (h1 : W (21 + 9 * e) p = 151) (h2 : W (22 + 9 * e) p = s1) (h3 : W (23 + 9 * e) p = s2) (h4 : W (24 + 9 * e) p = s3) (hs1 : 0 ≤ s1 ∧ s1 < 48) (hs2 : 0 ≤ s2 ∧ s2 ≤ 48) : stpH (wv e W V q) e p := by
  obtain ⟨hT, hI, hC, hL, he⟩ := hR
  have h26 : wv e W V q (26 + 9 * e) = V := wv_26
  have h21 : wv e W V q (21 + 9 * e) = W (21 + 9 * e) := wv_c (by omega) (by omega)
  have h22 : wv e W V q (22 + 9 * e) = W (22 + 9 * e) := wv_c (by omega) (by omega)
  have h23 : wv e W V q (23 + 9 * e) = W (23 + 9 * e) := wv_c (by omega) (by omega)
  have h24 : wv e W V q (24 + 9 * e) = W (24 + 9 * e) := wv_c (by omega) (by omega)
  have h25 : wv e W V q (25 + 9 * e) = W (25 + 9 * e) := wv_c (by omega) (by omega)
  have h9 : wv e W V q 9 = W 9 := wv_c (by omega) (by omega)
  have h55 : wv e W V q 55 = W 55 := wv_c (by omega) (by omega)
  have hv : vK (wv e W V q) = vK W := by funext k; unfold vK; rw [h55]
  unfold stpH
  rw [h21, h22, h23, h24, h25, h26, h9, h55, hv, h1, h2, h3, h4]
  exact ⟨RT_t (wv_agT he) hT, TI_t (wv_agT he) hI, hp, hL, hs1, fun h => absurd h (by decide), fun h => absurd h (by decide), fun h => absurd h (by decide), fun h => absurd h (by decide), fun h => absurd h (by decide), fun h => absurd h (by decide), fun h => absurd h (by decide), fun h => absurd (Or.inr (Or.inr (Or.inr (Or.inr (Or.inr (Or.inr (Or.inr (Or.inl rfl)))))))) h, fun _ => hs2⟩
theorem stH_152 (hR : RCx W e) (hp : 0 ≤ p ∧ p < 48) (h1 : W (21 + 9 * e) p = 152) (h2 : W (22 + 9 * e) p = s1) (h3 : W (23 + 9 * e) p = s2) (h4 : W (24 + 9 * e) p = s3) (hs1 : 0 ≤ s1 ∧ s1 < 48) (hs2 : 0 ≤ s2 ∧ s2 ≤ 48) : stpH (wv e W V q) e p := by
  obtain ⟨hT, hI, hC, hL, he⟩ := hR
  have h26 : wv e W V q (26 + 9 * e) = V := wv_26
  have h21 : wv e W V q (21 + 9 * e) = W (21 + 9 * e) := wv_c (by omega) (by omega)
  have h22 : wv e W V q (22 + 9 * e) = W (22 + 9 * e) := wv_c (by omega) (by omega)
  have h23 : wv e W V q (23 + 9 * e) = W (23 + 9 * e) := wv_c (by omega) (by omega)
  have h24 : wv e W V q (24 + 9 * e) = W (24 + 9 * e) := wv_c (by omega) (by omega)
  have h25 : wv e W V q (25 + 9 * e) = W (25 + 9 * e) := wv_c (by omega) (by omega)
  have h9 : wv e W V q 9 = W 9 := wv_c (by omega) (by omega)
  have h55 : wv e W V q 55 = W 55 := wv_c (by omega) (by omega)
  have hv : vK (wv e W V q) = vK W := by funext k; unfold vK; rw [h55]
  unfold stpH
  rw [h21, h22, h23, h24, h25, h26, h9, h55, hv, h1, h2, h3, h4]
  exact ⟨RT_t (wv_agT he) hT, TI_t (wv_agT he) hI, hp, hL, hs1, fun h => absurd h (by decide), fun h => absurd h (by decide), fun h => absurd h (by decide), fun h => absurd h (by decide), fun h => absurd h (by decide), fun h => absurd h (by decide), fun h => absurd h (by decide), fun h => absurd (Or.inr (Or.inr (Or.inr (Or.inr (Or.inr (Or.inr (Or.inr (Or.inr (rfl))))))))) h, fun _ => hs2⟩
theorem stH_two (hR : RCx W e) (hp : 0 ≤ p ∧ p < 48) (h1 : W (21 + 9 * e) p = c) (h2 : W (22 + 9 * e) p = s1) (h3 : W (23 + 9 * e) p = s2) (h4 : W (24 + 9 * e) p = s3) (hs1 : 0 ≤ s1 ∧ s1 < 48) (hs2 : 0 ≤ s2 ∧ s2 < 48) (hc : ¬ (c = 137 ∨ c = 143 ∨ c = 144 ∨ c = 142 ∨ c = 145 ∨ c = 141 ∨ c = 146 ∨ c = 149 ∨ c = 150 ∨ c = 151 ∨ c = 152)) : stpH (wv e W V q) e p := by
  obtain ⟨hT, hI, hC, hL, he⟩ := hR
  have h26 : wv e W V q (26 + 9 * e) = V := wv_26
  have h21 : wv e W V q (21 + 9 * e) = W (21 + 9 * e) := wv_c (by omega) (by omega)
  have h22 : wv e W V q (22 + 9 * e) = W (22 + 9 * e) := wv_c (by omega) (by omega)
  have h23 : wv e W V q (23 + 9 * e) = W (23 + 9 * e) := wv_c (by omega) (by omega)
  have h24 : wv e W V q (24 + 9 * e) = W (24 + 9 * e) := wv_c (by omega) (by omega)
  have h25 : wv e W V q (25 + 9 * e) = W (25 + 9 * e) := wv_c (by omega) (by omega)
  have h9 : wv e W V q 9 = W 9 := wv_c (by omega) (by omega)
  have h55 : wv e W V q 55 = W 55 := wv_c (by omega) (by omega)
  have hv : vK (wv e W V q) = vK W := by funext k; unfold vK; rw [h55]
  unfold stpH
  rw [h21, h22, h23, h24, h25, h26, h9, h55, hv, h1, h2, h3, h4]
  exact ⟨RT_t (wv_agT he) hT, TI_t (wv_agT he) hI, hp, hL, hs1, fun h => by omega, fun h => by omega, fun h => by omega, fun h => by omega, fun h => by omega, fun h => by omega, fun h => by omega, fun _ => hs2, fun h => by omega⟩
end SH
section SY
variable {e : Nat} {W : Mem} {V : Int → Int} {p s1 s2 s3 c : Int}
theorem stY_137 (h1 : W (21 + 9 * e) p = 137) : stpY W e V p = (3, p + 1) := by
  unfold stpY
  rw [h1, if_pos rfl]
theorem stY_143 (h1 : W (21 + 9 * e) p = 143) : stpY W e V p = ndR W (28 * 0 + W (23 + 9 * e) p) := by
  unfold stpY
  rw [h1, if_neg (show ¬ (143 : Int) = 137 by decide), if_pos rfl]
theorem stY_144 (h1 : W (21 + 9 * e) p = 144) : stpY W e V p = partR W (w32 (V (W (22 + 9 * e) p))) (W (23 + 9 * e) p) := by
  unfold stpY
  rw [h1, if_neg (show ¬ (144 : Int) = 137 by decide), if_neg (show ¬ (144 : Int) = 143 by decide), if_pos rfl]
theorem stY_142 (h1 : W (21 + 9 * e) p = 142) : stpY W e V p = partR W (w32 (V (W (22 + 9 * e) p))) 26 := by
  unfold stpY
  rw [h1, if_neg (show ¬ (142 : Int) = 137 by decide), if_neg (show ¬ (142 : Int) = 143 by decide), if_neg (show ¬ (142 : Int) = 144 by decide), if_pos rfl]
theorem stY_145 (h1 : W (21 + 9 * e) p = 145) : stpY W e V p = elmR W (w32 (V (W (22 + 9 * e) p))) (V (W (23 + 9 * e) p)) := by
  unfold stpY
  rw [h1, if_neg (show ¬ (145 : Int) = 137 by decide), if_neg (show ¬ (145 : Int) = 143 by decide), if_neg (show ¬ (145 : Int) = 144 by decide), if_neg (show ¬ (145 : Int) = 142 by decide), if_pos rfl]
theorem stY_141 (h1 : W (21 + 9 * e) p = 141) : stpY W e V p = insR W e p (w32 (V (W (22 + 9 * e) p))) (W (23 + 9 * e) p) := by
  unfold stpY
  rw [h1, if_neg (show ¬ (141 : Int) = 137 by decide), if_neg (show ¬ (141 : Int) = 143 by decide), if_neg (show ¬ (141 : Int) = 144 by decide), if_neg (show ¬ (141 : Int) = 142 by decide), if_neg (show ¬ (141 : Int) = 145 by decide), if_pos rfl]
theorem stY_146 (h1 : W (21 + 9 * e) p = 146) : stpY W e V p = cstR W e p (V (W (22 + 9 * e) p)) (W (23 + 9 * e) p) := by
  unfold stpY
  rw [h1, if_neg (show ¬ (146 : Int) = 137 by decide), if_neg (show ¬ (146 : Int) = 143 by decide), if_neg (show ¬ (146 : Int) = 144 by decide), if_neg (show ¬ (146 : Int) = 142 by decide), if_neg (show ¬ (146 : Int) = 145 by decide), if_neg (show ¬ (146 : Int) = 141 by decide), if_pos rfl]
theorem stY_149 (h1 : W (21 + 9 * e) p = 149) : stpY W e V p = (0, V (if V (W (22 + 9 * e) p) = 1 then W (23 + 9 * e) p else W (24 + 9 * e) p)) := by
  unfold stpY
  rw [h1, if_neg (show ¬ (149 : Int) = 137 by decide), if_neg (show ¬ (149 : Int) = 143 by decide), if_neg (show ¬ (149 : Int) = 144 by decide), if_neg (show ¬ (149 : Int) = 142 by decide), if_neg (show ¬ (149 : Int) = 145 by decide), if_neg (show ¬ (149 : Int) = 141 by decide), if_neg (show ¬ (149 : Int) = 146 by decide), if_pos rfl]
theorem stY_150 (h1 : W (21 + 9 * e) p = 150) : stpY W e V p = (3, W (23 + 9 * e) p) := by
  unfold stpY
  rw [h1, if_neg (show ¬ (150 : Int) = 137 by decide), if_neg (show ¬ (150 : Int) = 143 by decide), if_neg (show ¬ (150 : Int) = 144 by decide), if_neg (show ¬ (150 : Int) = 142 by decide), if_neg (show ¬ (150 : Int) = 145 by decide), if_neg (show ¬ (150 : Int) = 141 by decide), if_neg (show ¬ (150 : Int) = 146 by decide), if_neg (show ¬ (150 : Int) = 149 by decide), if_pos rfl]
theorem stY_151 (h1 : W (21 + 9 * e) p = 151) : stpY W e V p = (3, if V (W (22 + 9 * e) p) = 0 then W (23 + 9 * e) p else p + 1) := by
  unfold stpY
  rw [h1, if_neg (show ¬ (151 : Int) = 137 by decide), if_neg (show ¬ (151 : Int) = 143 by decide), if_neg (show ¬ (151 : Int) = 144 by decide), if_neg (show ¬ (151 : Int) = 142 by decide), if_neg (show ¬ (151 : Int) = 145 by decide), if_neg (show ¬ (151 : Int) = 141 by decide), if_neg (show ¬ (151 : Int) = 146 by decide), if_neg (show ¬ (151 : Int) = 149 by decide), if_neg (show ¬ (151 : Int) = 150 by decide), if_pos rfl]
theorem stY_152 (h1 : W (21 + 9 * e) p = 152) : stpY W e V p = (3, if V (W (22 + 9 * e) p) = 1 then W (23 + 9 * e) p else p + 1) := by
  unfold stpY
  rw [h1, if_neg (show ¬ (152 : Int) = 137 by decide), if_neg (show ¬ (152 : Int) = 143 by decide), if_neg (show ¬ (152 : Int) = 144 by decide), if_neg (show ¬ (152 : Int) = 142 by decide), if_neg (show ¬ (152 : Int) = 145 by decide), if_neg (show ¬ (152 : Int) = 141 by decide), if_neg (show ¬ (152 : Int) = 146 by decide), if_neg (show ¬ (152 : Int) = 149 by decide), if_neg (show ¬ (152 : Int) = 150 by decide), if_neg (show ¬ (152 : Int) = 151 by decide), if_pos rfl]
theorem stY_two (h1 : W (21 + 9 * e) p = c) (hc : ¬ (c = 137 ∨ c = 143 ∨ c = 144 ∨ c = 142 ∨ c = 145 ∨ c = 141 ∨ c = 146 ∨ c = 149 ∨ c = 150 ∨ c = 151 ∨ c = 152)) : stpY W e V p = sgnR c (W (25 + 9 * e) p) (V (W (22 + 9 * e) p)) (V (W (23 + 9 * e) p)) := by
  unfold stpY
  rw [h1, if_neg (show ¬ c = 137 by omega), if_neg (show ¬ c = 143 by omega), if_neg (show ¬ c = 144 by omega), if_neg (show ¬ c = 142 by omega), if_neg (show ¬ c = 145 by omega), if_neg (show ¬ c = 141 by omega), if_neg (show ¬ c = 146 by omega), if_neg (show ¬ c = 149 by omega), if_neg (show ¬ c = 150 by omega), if_neg (show ¬ c = 151 by omega), if_neg (show ¬ c = 152 by omega)]
end SY
