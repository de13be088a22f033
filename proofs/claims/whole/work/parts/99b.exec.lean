def ups (V : Int → Int) (i v : Int) : Int → Int := fun j => if j = i then v else V j
/-- steps that neither wait nor fail -/
def pS (W : Mem) (e : Nat) (L : Int) : Nat → (Int → Int) → Int → (Int → Int) → Int → Prop
  | 0, V, q, V', q' => V' = V ∧ q' = q
  | n + 1, V, q, V', q' => q < L ∧ stpH (wv e W V q) e q ∧ (((stpY W e V q).1 = 0 ∧ pS W e L n (ups V q (stpY W e V q).2) (q + 1) V' q') ∨ ((stpY W e V q).1 = 3 ∧ pS W e L n V (stpY W e V q).2 V' q'))
def cnV (S : List SD) (V : Int → Int) : Prop := ∀ (p : Nat) (s : SD), S[p]? = some s → s.1 = 137 → V p = s.2.2.2.2.2
section PS
variable {W A : Mem} {e : Nat} {L : Int} {N : List ND} {S : List SD} {TN TS : Int → Int}
theorem pS_tr : ∀ {n m : Nat} {V V1 V2 : Int → Int} {q q1 q2 : Int}, pS W e L n V q V1 q1 → pS W e L m V1 q1 V2 q2 → pS W e L (n + m) V q V2 q2 := by
  intro n
  induction n with
  | zero =>
    intro m V V1 V2 q q1 q2 h h2
    obtain ⟨rfl, rfl⟩ := h
    rw [Nat.zero_add]; exact h2
  | succ n ih =>
    intro m V V1 V2 q q1 q2 h h2
    obtain ⟨h3, h4, h5⟩ := h
    rw [Nat.succ_add]
    refine ⟨h3, h4, ?_⟩
    rcases h5 with ⟨h5, h6⟩ | ⟨h5, h6⟩
    · exact Or.inl ⟨h5, ih h6 h2⟩
    · exact Or.inr ⟨h5, ih h6 h2⟩
theorem pS_set {V : Int → Int} {q y : Int} (h : q < L) (h2 : stpH (wv e W V q) e q) (h3 : stpY W e V q = (0, y)) : pS W e L 1 V q (ups V q y) (q + 1) := by
  refine ⟨h, h2, Or.inl ?_⟩
  rw [h3]
  exact ⟨rfl, rfl, rfl⟩
theorem pS_jmp {V : Int → Int} {q y : Int} (h : q < L) (h2 : stpH (wv e W V q) e q) (h3 : stpY W e V q = (3, y)) : pS W e L 1 V q V y := by
  refine ⟨h, h2, Or.inr ?_⟩
  rw [h3]
  exact ⟨rfl, rfl, rfl⟩
/-- what is fixed while the steps of a text are worked out -/
def RS (W A : Mem) (e : Nat) (N : List ND) (S : List SD) (TN TS : Int → Int) : Prop := RCx W e ∧ KRA W A ∧ stp e W S ∧ S.length ≤ 48 ∧ (∀ p : Nat, p < S.length → W (25 + 9 * e) p = TS p ∧ vK W (TS p)) ∧ TY0 A N TN ∧ fxS W S TS
/-- what the steps from a to b do, by the value of node j - 1 -/
def exQ (W A : Mem) (e : Nat) (N : List ND) (S : List SD) (TN : Int → Int) (j a b : Nat) (V : Int → Int) : Prop :=
  (∀ y, eV A N TN ((j : Int) - 1) = (0, y) → ∃ n V', pS W e S.length n V a V' b ∧ V' ((b : Int) - 1) = y ∧ (∀ x : Int, x < a ∨ b ≤ x → V' x = V x) ∧ cnV S V')
  ∧ (¬ (eV A N TN ((j : Int) - 1)).1 = 0 → ∃ n V' q, pS W e S.length n V a V' q ∧ (a ≤ q ∧ q < b) ∧ stpH (wv e W V' q) e q ∧ rlR W (stpY W e V' q) (eV A N TN ((j : Int) - 1)))
theorem cnV_ups {V : Int → Int} {p : Nat} {s : SD} {y : Int} (h : cnV S V) (hp : S[p]? = some s) (hs : ¬ s.1 = 137) : cnV S (ups V p y) := by
  intro p' s' hp' hs'
  unfold ups
  by_cases hpp : (p' : Int) = p
  · have : p' = p := by omega
    subst this
    rw [hp] at hp'; cases hp'
    exact absurd hs' hs
  · rw [if_neg hpp]; exact h p' s' hp' hs'
/-- the last step of an expression, when its operands are there -/
theorem ex_end {j a b1 : Nat} {V V1 : Int → Int} {n : Nat} {s : SD} {R : Int × Int} (hb : a ≤ b1) (hS : S[b1]? = some s) (hs : ¬ s.1 = 137) (hp : pS W e S.length n V a V1 b1) (hH : stpH (wv e W V1 b1) e b1) (hf : ∀ x : Int, x < a ∨ b1 ≤ x → V1 x = V x) (hc : cnV S V1) (hR : eV A N TN (j : Int) = R) (hr : rlR W (stpY W e V1 b1) R) : exQ W A e N S TN (j + 1) a (b1 + 1) V := by
  have hL : (b1 : Int) < S.length := by have := (List.getElem?_eq_some_iff.mp hS).1; omega
  have c1 : ((j + 1 : Nat) : Int) - 1 = (j : Int) := by omega
  have c2 : ((b1 + 1 : Nat) : Int) - 1 = (b1 : Int) := by omega
  unfold exQ
  rw [c1, c2, hR]
  refine ⟨fun y hy => ?_, fun hn => ⟨n, V1, b1, hp, by omega, hH, hr⟩⟩
  have hY : stpY W e V1 b1 = (0, y) := by
    rw [hy] at hr
    rcases hr with ⟨h1, h2⟩ | ⟨h1, h2, h3⟩ | ⟨h1, h2⟩
    · exact h2.symm
    · cases h3
    · rw [← h2] at h1; cases h1
  refine ⟨n + 1, ups V1 b1 y, pS_tr hp (by rw [show ((b1 + 1 : Nat) : Int) = (b1 : Int) + 1 by omega]; exact pS_set hL hH hY), if_pos rfl, fun x hx => ?_, cnV_ups hc hS hs⟩
  unfold ups
  rw [if_neg (by omega)]
  exact hf x (by omega)
/-- an operand that has no value -/
theorem ex_fail {j j1 a b b1 n : Nat} {V V1 : Int → Int} {a1 : Nat} (hp : pS W e S.length n V a V1 a1) (h : exQ W A e N S TN j1 a1 b1 V1) (ha : a ≤ a1) (hb : b1 ≤ b) (hf : ¬ (eV A N TN ((j1 : Int) - 1)).1 = 0) (hR : eV A N TN ((j : Int) - 1) = eV A N TN ((j1 : Int) - 1)) : exQ W A e N S TN j a b V := by
  unfold exQ
  rw [hR]
  refine ⟨fun y hy => ?_, fun _ => ?_⟩
  · rw [hy] at hf; exact absurd rfl hf
  · obtain ⟨m, V', q, h1, h2, h3, h4⟩ := h.2 hf
    exact ⟨n + m, V', q, pS_tr hp h1, by omega, h3, h4⟩
theorem eV_at {j : Nat} {x : ND} (ha : allN N) (h32 : N.length ≤ 32) (h : N[j]? = some x) : eV A N TN (j : Int) = evX A TN (eV A N TN) (j : Int) x := by
  have hl := (List.getElem?_eq_some_iff.mp h).1
  rw [eV_eq ha h32 (by omega) (by omega), Int.toNat_natCast, List.getD_eq_getElem?_getD, h, Option.getD_some]
theorem cF_bin {o v kn ka a b : Int} (ho : 27 ≤ o ∧ o ≤ 47) (h4 : ¬ o = 44) (h6 : ¬ o = 46) : cF A o v kn ka a b = reckF o kn a b := by
  unfold cF
  rw [if_neg (c := o < 6) (by omega), if_neg (c := o = 6) (by omega), if_neg (c := o = 7) (by omega), if_neg (c := 100 < o) (by omega), if_neg (c := o = 60 ∨ o = 61 ∨ o = 62) (by omega), if_neg (c := o = 63 ∨ o = 64) (by omega), if_neg (c := o = 65) (by omega), if_neg h4, if_neg h6]
theorem cF_una {t v kn ka a b : Int} (ht : t = 27 ∨ t = 28 ∨ t = 32 ∨ t = 33) : cF A (100 + t) v kn ka a b = (0, unF (100 + t) a) := by
  unfold cF
  rw [if_neg (c := 100 + t < 6) (by omega), if_neg (c := 100 + t = 6) (by omega), if_neg (c := 100 + t = 7) (by omega), if_pos (show 100 < 100 + t by omega)]
theorem tc_two {t : Int} (h : 0 < bdV t) : ¬ (tcode t = 137 ∨ tcode t = 143 ∨ tcode t = 144 ∨ tcode t = 142 ∨ tcode t = 145 ∨ tcode t = 141 ∨ tcode t = 146 ∨ tcode t = 149 ∨ tcode t = 150 ∨ tcode t = 151 ∨ tcode t = 152) := by
  rcases bdV_cs h with rfl | rfl | rfl | rfl | rfl | rfl | rfl | rfl | rfl | rfl | rfl | rfl | rfl | rfl | rfl | rfl | rfl | rfl | rfl <;> decide
theorem uc_two {t : Int} (h : t = 27 ∨ t = 28 ∨ t = 32 ∨ t = 33) : ¬ (ucode t = 137 ∨ ucode t = 143 ∨ ucode t = 144 ∨ ucode t = 142 ∨ ucode t = 145 ∨ ucode t = 141 ∨ ucode t = 146 ∨ ucode t = 149 ∨ ucode t = 150 ∨ ucode t = 151 ∨ ucode t = 152) := by
  rcases h with rfl | rfl | rfl | rfl <;> decide
theorem Comp_in : ∀ {f i j a b : Nat}, Comp N S f i j a b → j ≤ N.length ∧ b ≤ S.length := by
  intro f
  cases f with
  | zero => intro i j a b h; exact h.elim
  | succ f =>
    intro i j a b h
    have g : ∀ {α : Type} {l : List α} {k : Nat} {x : α}, l[k]? = some x → k + 1 ≤ l.length := fun h => (List.getElem?_eq_some_iff.mp h).1
    rcases h with ⟨x, s, rfl, rfl, h1, h2, h3⟩ | ⟨rfl, rfl, h1, h2, h3, h4⟩ | ⟨j1, b1, x, s, rfl, rfl, h1, h2, h3, h4⟩ | ⟨m, q, j1, b1, x, s, rfl, rfl, h1, h2, h3, h4, h5⟩ | ⟨m, q, j1, b1, t, rfl, rfl, h0, h1, h2, h3, h4, h5⟩ | ⟨m1, m2, q1, q2, j1, b1, rfl, rfl, h1, h2, h3, h4, h5, h6, h7⟩
    · exact ⟨g h1, g h2⟩
    · exact ⟨g h3, g h4⟩
    · exact ⟨g h2, g h3⟩
    · exact ⟨g h3, g h4⟩
    · exact ⟨g h4, g h5⟩
    · exact ⟨g h6, g h7⟩
theorem RS_kd (h : RS W A e N S TN TS) {f i j a b : Nat} (hc : Comp N S f i j a b) : TN ((j : Int) - 1) = TS ((b : Int) - 1) ∧ 0 ≤ TN ((j : Int) - 1) := by
  obtain ⟨hR, hK, hs, h48, hTS, ⟨ha, h32, hI, hC, hN, hT, hw⟩, hS⟩ := h
  have hlen := Comp_in hc
  have hq := Comp_kd hR.2.1 (fxN_ag (agM_sy hK.1) hN) hS ha hc
  have := hq.2 (fun n h1 h2 => (hT n (by omega) (by omega)).1)
  exact ⟨this.1, this.2.1⟩
end PS
