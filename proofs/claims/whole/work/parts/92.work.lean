section WL
variable {A : Mem} {N : List ND} {T : Int → Int} {W : Mem}
/-- how many of the first nodes are not done -/
def udn (W : Mem) : Nat → Nat
  | 0 => 0
  | k + 1 => udn W k + if W 82 k = 0 then 1 else 0
theorem udn_le (W : Mem) : ∀ k, udn W k ≤ k := by
  intro k
  induction k with
  | zero => exact Nat.le_refl _
  | succ k ih => unfold udn; split <;> omega
theorem udn_set {W W' : Mem} {n : Int} (h0 : 0 ≤ n) (hn : W 82 n = 0) (h1 : ¬ W' 82 n = 0) (h2 : ∀ i, i ≠ n → W' 82 i = W 82 i) : ∀ k : Nat, (k ≤ n → udn W' k = udn W k) ∧ (n < k → udn W' k + 1 = udn W k) := by
  intro k
  induction k with
  | zero => exact ⟨fun _ => rfl, fun h => absurd h (by omega)⟩
  | succ k ih =>
    obtain ⟨i1, i2⟩ := ih
    unfold udn
    by_cases hk : (k : Int) = n
    · have e := i1 (by omega)
      rw [hk, if_neg h1, if_pos hn, e]
      exact ⟨fun h => by omega, fun _ => rfl⟩
    · rw [h2 k hk]
      refine ⟨fun h => by rw [i1 (by omega)], fun h => ?_⟩
      have := i2 (by omega)
      omega
theorem lackM_in (hA : ndT A N T) (h : wkF A W) {n : Int} (h0 : 0 ≤ n) (h1 : n < N.length) (hl : ¬ lackM W n < 0) : lackM W n < n ∧ W 82 (lackM W n) = 0 := by
  obtain ⟨k1, k2, k3, k4, k5, k6⟩ := nd_wk hA h h0 h1
  obtain ⟨g1, g2, g3, g4, -⟩ := ndAll hA.2.2.1 h0 h1
  unfold lackM at hl ⊢
  rw [k1, k2, k3, k4] at hl ⊢
  generalize N.getD n.toNat nd0 = x at hl g1 g2 g3 g4 ⊢
  by_cases c1 : x.1 < 8
  · rw [if_pos c1] at hl; omega
  have q2 := g2 (by omega)
  rw [if_neg c1] at hl ⊢
  by_cases c2 : W 82 x.2.1 = 0
  · rw [if_pos c2]; exact ⟨q2.1.2, c2⟩
  rw [if_neg c2] at hl ⊢
  by_cases c3 : x.1 = 65
  · rw [if_pos c3] at hl ⊢
    have q4 := g4 c3
    by_cases c4 : W 83 x.2.1 = 0
    · rw [if_pos c4] at hl ⊢
      by_cases c5 : W 82 x.2.2.2.1 = 0
      · rw [if_pos c5]; exact ⟨q4.2, c5⟩
      · rw [if_neg c5] at hl; omega
    · rw [if_neg c4] at hl ⊢
      by_cases c5 : W 82 x.2.2.1 = 0
      · rw [if_pos c5]; exact ⟨q2.2, c5⟩
      · rw [if_neg c5] at hl; omega
  rw [if_neg c3] at hl ⊢
  by_cases c4 : x.2.2.1 < 0 ∨ (x.1 = 44 ∧ W 83 x.2.1 = 0) ∨ (x.1 = 46 ∧ ¬ W 83 x.2.1 = 0)
  · rw [if_pos c4] at hl; omega
  rw [if_neg c4] at hl ⊢
  by_cases c5 : W 82 x.2.2.1 = 0
  · rw [if_pos c5]; exact ⟨q2.2, c5⟩
  · rw [if_neg c5] at hl; omega
/-- the chain of what is lacking ends at a node that can be worked out -/
theorem dsc_ev (hA : ndT A N T) (h : IW A N T W) : ∀ (f : Nat) (m : Int), 0 ≤ m → m < N.length → m < f → W 82 m = 0 → (0 ≤ dscF W f m ∧ dscF W f m < N.length) ∧ W 82 (dscF W f m) = 0 ∧ lackM W (dscF W f m) < 0 ∧ (¬ (eV A N T (dscF W f m)).1 = 0 → eV A N T m = eV A N T (dscF W f m)) := by
  intro f
  induction f with
  | zero => intro m h0 _ h2; omega
  | succ f ih =>
    intro m h0 h1 h2 hd
    by_cases hl : lackM W m < 0
    · have e : dscF W (f + 1) m = m := if_pos hl
      rw [e]; exact ⟨⟨h0, h1⟩, hd, hl, fun _ => rfl⟩
    · have e : dscF W (f + 1) m = dscF W f (lackM W m) := if_neg hl
      rw [e]
      have hi := lackM_in hA h.1 h0 h1 hl
      obtain ⟨i1, i2, i3, i4⟩ := ih (lackM W m) (by omega) (by omega) (by omega) hi.2
      refine ⟨i1, i2, i3, fun h9 => ?_⟩
      have e9 := i4 h9
      rw [← e9] at h9 ⊢
      exact ev_lack hA h h0 h1 hl h9
theorem IW_set (hA : ndT A N T) (h : IW A N T W) {n v : Int} {W' : Mem} (h0 : 0 ≤ n) (h1 : n < N.length) (hl : lackM W n < 0) (hc : cmpF W n = (0, v)) (he : eqX (setM W n v) W') : IW A N T W' := by
  have k6 := (nd_wk hA h.1 h0 h1).2.2.2.2.2
  have hf : wkF A W' := wkF_tr h.1 (wkF_tr wkF_setM (wkF_eqX he))
  refine ⟨hf, fun m m0 m1 hm => ?_⟩
  have e82 : W' 82 m = setM W n v 82 m := he 82 m (by omega)
  have e83 : W' 83 m = setM W n v 83 m := he 83 m (by omega)
  by_cases hmn : m = n
  · subst hmn
    rw [e83, ev_comp hA h h0 h1 hl, hc]
    have : setM W m v 83 m = if W 81 m = 0 then w32 v else v := by
      unfold setM; rw [mset_ne (by omega), mset_eq rfl]
    rw [this, k6]
    rfl
  · have e2 : setM W n v 82 m = W 82 m := by unfold setM; rw [mset_ni hmn, mset_ne (by omega)]
    have e3 : setM W n v 83 m = W 83 m := by unfold setM; rw [mset_ne (by omega), mset_ni hmn]
    rw [e83, e3]
    rw [e82, e2] at hm
    exact h.2 m m0 m1 hm
/-- what computing gives: a value, a piece or an exception -/
theorem needF_3 {M : Mem} {p v : Int} : (needF M p v).1 = 0 ∨ (needF M p v).1 = 1 := by
  unfold needF; split
  · exact Or.inr rfl
  · exact Or.inl rfl
theorem cmpF_3 {W : Mem} {n : Int} : (cmpF W n).1 = 0 ∨ (cmpF W n).1 = 1 ∨ (cmpF W n).1 = 2 := by
  unfold cmpF
  split
  · exact Or.inl rfl
  split
  · exact (needF_3 (M := W)).elim Or.inl (fun h => Or.inr (Or.inl h))
  split
  · exact (needF_3 (M := W)).elim Or.inl (fun h => Or.inr (Or.inl h))
  split
  · exact Or.inl rfl
  split
  · unfold intoF
    split
    · exact Or.inr (Or.inr rfl)
    split
    · exact (needF_3 (M := W)).elim Or.inl (fun h => Or.inr (Or.inl h))
    split
    · exact Or.inr (Or.inl rfl)
    split
    · exact Or.inl rfl
    split
    · exact Or.inr (Or.inr rfl)
    · exact (needF_3 (M := W)).elim Or.inl (fun h => Or.inr (Or.inl h))
  split
  · unfold fitF
    split
    · exact Or.inl rfl
    split
    · split
      · exact Or.inl rfl
      · exact Or.inl rfl
    split
    · exact Or.inr (Or.inl rfl)
    split
    · exact Or.inl rfl
    split
    · exact Or.inl rfl
    · exact Or.inr (Or.inr rfl)
  split
  · exact Or.inl rfl
  split
  · exact Or.inl rfl
  split
  · exact Or.inl rfl
  unfold reckF
  repeat' split
  all_goals first | exact Or.inl rfl | exact Or.inr (Or.inr rfl)
/-- what the work leaves, by the value of the root -/
def wkQ (R : Int × Int) (W : Mem) (root : Int) (r : Int × Int × Mem) : Prop := (R.1 = 0 → r.1 = 2 ∧ r.2.2 83 root = R.2 ∧ r.2.2 55 46 = W 55 46) ∧ (R.1 = 1 → r.1 = 1 ∧ r.2.1 = R.2 ∧ r.2.2 55 46 = W 55 46) ∧ (R.1 = 2 → r.1 = 3 ∧ r.2.2 55 46 = R.2) ∧ (R.1 = 0 ∨ R.1 = 1 ∨ R.1 = 2)
theorem nrK_nz {k : Int} {R : Int × Int} (h : ¬ R.1 = 0) : nrK k R = R := if_neg h
theorem workL_ev (hA : ndT A N T) {root : Int} (h0 : 0 ≤ root) (h1 : root < N.length) : ∀ (f : Nat) (W : Mem), IW A N T W → udn W N.length ≤ f → wkQ (eV A N T root) W root (workL root f W) := by
  intro f
  have h32 := hA.2.2.2
  have base : ∀ (f : Nat) (W : Mem), IW A N T W → ¬ W 82 root = 0 → wkQ (eV A N T root) W root (workL root f W) := by
    intro f W h hd
    rw [workL_d hd, h.2 root h0 h1 hd]
    exact ⟨fun _ => ⟨rfl, rfl, rfl⟩, fun h => absurd h (show ¬ (0 : Int) = 1 by decide), fun h => absurd h (show ¬ (0 : Int) = 2 by decide), Or.inl rfl⟩
  induction f with
  | zero =>
    intro W h hu
    by_cases hd : W 82 root = 0
    · exfalso
      have h9 := (udn_set (W := W) (W' := mset W 82 root 1) h0 hd (by rw [mset_eq rfl]; decide) (fun i hi => mset_ni hi) N.length).2 (by omega)
      omega
    · exact base 0 W h hd
  | succ f ih =>
    intro W h hu
    by_cases hd : W 82 root = 0
    · obtain ⟨i1, i2, i3, i4⟩ := dsc_ev hA h 32 root h0 h1 (by omega) hd
      generalize hn : dscF W 32 root = n at i1 i2 i3 i4
      have hc := ev_comp hA h i1.1 i1.2 i3
      rcases cmpF_3 (W := W) (n := n) with h3 | h3 | h3
      · have e3 : cmpF W n = (0, (cmpF W n).2) := Prod.ext h3 rfl
        rw [workL_v hd hn e3]
        have hw : IW A N T (setM W n (cmpF W n).2) := IW_set hA h i1.1 i1.2 i3 e3 eqX_rfl
        have hs := (udn_set (W := W) (W' := setM W n (cmpF W n).2) i1.1 i2 (by unfold setM; rw [mset_eq rfl]; decide) (fun i hi => by unfold setM; rw [mset_ni hi, mset_ne (by omega)]) N.length).2 i1.2
        have e46 : setM W n (cmpF W n).2 55 46 = W 55 46 := by unfold setM; rw [mset_ne (by omega), mset_ne (by omega)]
        have := ih _ hw (by omega)
        unfold wkQ at this ⊢
        rw [e46] at this
        exact this
      · have e3 : cmpF W n = (1, (cmpF W n).2) := Prod.ext h3 rfl
        rw [workL_p hd hn e3]
        have e4 : eV A N T n = cmpF W n := by rw [hc, nrK_nz (by omega)]
        rw [i4 (by rw [e4]; omega), e4]
        exact ⟨fun h => absurd h (by omega), fun _ => ⟨rfl, rfl, rfl⟩, fun h => absurd h (by omega), Or.inr (Or.inl h3)⟩
      · have e3 : cmpF W n = (2, (cmpF W n).2) := Prod.ext h3 rfl
        rw [workL_t hd hn e3]
        have e4 : eV A N T n = cmpF W n := by rw [hc, nrK_nz (by omega)]
        rw [i4 (by rw [e4]; omega), e4]
        exact ⟨fun h => absurd h (by omega), fun h => absurd h (by omega), fun _ => ⟨rfl, show mset W 55 46 (cmpF W n).2 55 46 = (cmpF W n).2 from mset_eq rfl⟩, Or.inr (Or.inr h3)⟩
    · exact base (f + 1) W h hd
theorem IW_0 (hA : ndT A N T) (hn : A 55 28 = N.length) : IW A N T (work0 A) := by
  refine ⟨work0_fr, fun n h0 h1 hd => ?_⟩
  exfalso
  apply hd
  unfold work0
  rw [mset_ne (by omega), mset_ne (by omega)]
  exact if_pos ⟨rfl, h0, by omega⟩
/-- the model's work is the value of the root -/
theorem work_ev (hA : ndT A N T) (hn : A 55 28 = N.length) {root : Int} (hr : A 84 0 = root) (h0 : 0 ≤ root) (h1 : root < N.length) {r : Option PV} {W4 : Mem} (h : workQ A r W4) :
    ((eV A N T root).1 = 0 → r = some (vi 2) ∧ W4 83 root = (eV A N T root).2 ∧ W4 55 46 = 0) ∧ ((eV A N T root).1 = 1 → r = some (vi 1) ∧ W4 55 47 = (eV A N T root).2 ∧ W4 55 46 = 0) ∧ ((eV A N T root).1 = 2 → r = some (vi 3) ∧ W4 55 46 = (eV A N T root).2) ∧ ((eV A N T root).1 = 0 ∨ (eV A N T root).1 = 1 ∨ (eV A N T root).1 = 2) := by
  have hu := udn_le (work0 A) N.length
  have h32 := hA.2.2.2
  have hw := workL_ev hA h0 h1 1000 (work0 A) (IW_0 hA hn) (by omega)
  obtain ⟨q1, q2, q3⟩ := h
  rw [hr] at q1 q2 q3
  generalize workL root 1000 (work0 A) = R at hw q1 q2 q3
  obtain ⟨w1, w2, w3, w4⟩ := hw
  have e46 : work0 A 55 46 = 0 := by unfold work0; rw [mset_ni (by omega), mset_eq rfl]
  have f46 : W4 55 46 = R.2.2 55 46 := q2 55 46 (by omega)
  have f83 : W4 83 root = R.2.2 83 root := q2 83 root (by omega)
  refine ⟨fun h => ?_, fun h => ?_, fun h => ?_, w4⟩
  · obtain ⟨a1, a2, a3⟩ := w1 h
    exact ⟨by rw [q1, a1], by rw [f83, a2], by rw [f46, a3, e46]⟩
  · obtain ⟨a1, a2, a3⟩ := w2 h
    exact ⟨by rw [q1, a1], by rw [(q3 a1).1, a2], by rw [f46, a3, e46]⟩
  · obtain ⟨a1, a2⟩ := w3 h
    exact ⟨by rw [q1, a1], by rw [f46, a2]⟩
end WL
