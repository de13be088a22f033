/-- what a node's value is by those of its operands: 0 a value, 1 a piece that is missing, 2 an exception -/
def cF (M : Mem) (o v kn ka a b : Int) : Int × Int :=
  if o < 6 then (0, if o = 5 then 0 else v)
  else if o = 6 then needF M 26 (M 59 26) else if o = 7 then needF M (w32 v) (M 59 (w32 v))
  else if 100 < o then (0, unF o a)
  else if o = 60 ∨ o = 61 ∨ o = 62 then intoF M o (w32 v) (w32 a) b
  else if o = 63 ∨ o = 64 then fitF M o (w32 v) a ka
  else if o = 65 then (0, b)
  else if o = 44 then (0, if a = 0 then a else b)
  else if o = 46 then (0, if a = 0 then b else a)
  else reckF o kn a b
def nrK (k : Int) (R : Int × Int) : Int × Int := if R.1 = 0 then (0, if k = 0 then w32 R.2 else R.2) else R
def evX (M : Mem) (T : Int → Int) (E : Int → Int × Int) (n : Int) (x : ND) : Int × Int :=
  if x.1 < 8 then nrK (T n) (cF M x.1 x.2.2.2.2 (T n) 0 0 0)
  else if ¬ (E x.2.1).1 = 0 then E x.2.1
  else if x.1 = 65 then (if ¬ (E (if (E x.2.1).2 = 0 then x.2.2.2.1 else x.2.2.1)).1 = 0 then E (if (E x.2.1).2 = 0 then x.2.2.2.1 else x.2.2.1) else nrK (T n) (cF M 65 x.2.2.2.2 (T n) (T x.2.1) (E x.2.1).2 (E (if (E x.2.1).2 = 0 then x.2.2.2.1 else x.2.2.1)).2))
  else if x.2.2.1 < 0 ∨ (x.1 = 44 ∧ (E x.2.1).2 = 0) ∨ (x.1 = 46 ∧ ¬ (E x.2.1).2 = 0) then nrK (T n) (cF M x.1 x.2.2.2.2 (T n) (T x.2.1) (E x.2.1).2 0)
  else if ¬ (E x.2.2.1).1 = 0 then E x.2.2.1
  else nrK (T n) (cF M x.1 x.2.2.2.2 (T n) (T x.2.1) (E x.2.1).2 (E x.2.2.1).2)
def nd0 : ND := (0, 0, 0, 0, 0)
def evF (M : Mem) (N : List ND) (T : Int → Int) : Nat → Int → Int × Int
  | 0, _ => (0, 0)
  | f + 1, n => evX M T (evF M N T f) n (N.getD n.toNat nd0)
def eV (M : Mem) (N : List ND) (T : Int → Int) (n : Int) : Int × Int := evF M N T 40 n
theorem evX_cg {M : Mem} {T : Int → Int} {E E' : Int → Int × Int} {n : Int} {x : ND} (h1 : 8 ≤ x.1 → E x.2.1 = E' x.2.1) (h2 : 8 ≤ x.1 → 0 ≤ x.2.2.1 → E x.2.2.1 = E' x.2.2.1) (h3 : x.1 = 65 → 0 ≤ x.2.2.1 ∧ E x.2.2.2.1 = E' x.2.2.2.1) : evX M T E n x = evX M T E' n x := by
  unfold evX
  by_cases c1 : x.1 < 8
  · rw [if_pos c1, if_pos c1]
  rw [if_neg c1, if_neg c1, h1 (by omega)]
  by_cases c2 : (E' x.2.1).1 = 0
  · have nn : ¬ ¬ (E' x.2.1).1 = 0 := fun h => h c2
    rw [if_neg nn, if_neg nn]
    by_cases c3 : x.1 = 65
    · rw [if_pos c3, if_pos c3]
      have h9 := h3 c3
      by_cases c4 : (E' x.2.1).2 = 0
      · rw [if_pos c4, h9.2]
      · rw [if_neg c4, h2 (by omega) h9.1]
    · rw [if_neg c3, if_neg c3]
      by_cases c4 : x.2.2.1 < 0 ∨ (x.1 = 44 ∧ (E' x.2.1).2 = 0) ∨ (x.1 = 46 ∧ ¬ (E' x.2.1).2 = 0)
      · rw [if_pos c4, if_pos c4]
      · rw [if_neg c4, if_neg c4, h2 (by omega) (by omega)]
  · rw [if_pos c2, if_pos c2]
theorem ndGet {N : List ND} {n : Int} (h0 : 0 ≤ n) (h1 : n < N.length) : N[n.toNat]? = some (N.getD n.toNat nd0) := by
  have hi : n.toNat < N.length := by omega
  rw [List.getD_eq_getElem?_getD, List.getElem?_eq_getElem hi, Option.getD_some]
theorem ndAll {N : List ND} {n : Int} (ha : allN N) (h0 : 0 ≤ n) (h1 : n < N.length) : ndOK n (N.getD n.toNat nd0) := by
  have := ha n.toNat _ (ndGet h0 h1)
  rw [Int.toNat_of_nonneg h0] at this
  exact this
theorem evF_fuel {M : Mem} {N : List ND} {T : Int → Int} (ha : allN N) : ∀ (f g : Nat) (n : Int), 0 ≤ n → n < N.length → n < f → n < g → evF M N T f n = evF M N T g n := by
  intro f
  induction f with
  | zero => intro g n h0 _ h; omega
  | succ f ih =>
    intro g n h0 h1 hf hg
    cases g with
    | zero => omega
    | succ g =>
      obtain ⟨-, g2, g3, g4, -⟩ := ndAll ha h0 h1
      exact evX_cg (fun h => by have := g2 h; exact ih g _ this.1.1 (by omega) (by omega) (by omega)) (fun h h9 => by have := g2 h; exact ih g _ h9 (by omega) (by omega) (by omega)) (fun h => by have := g4 h; have := g3 (Or.inr (Or.inr h)); exact ⟨this, ih g _ (by omega) (by omega) (by omega) (by omega)⟩)
theorem eV_eq {M : Mem} {N : List ND} {T : Int → Int} (ha : allN N) (h32 : N.length ≤ 32) {n : Int} (h0 : 0 ≤ n) (h1 : n < N.length) : eV M N T n = evX M T (eV M N T) n (N.getD n.toNat nd0) := by
  obtain ⟨-, g2, g3, g4, -⟩ := ndAll ha h0 h1
  unfold eV
  show evX M T (evF M N T 39) n (N.getD n.toNat nd0) = _
  exact evX_cg (fun h => by have := g2 h; exact evF_fuel ha 39 40 _ this.1.1 (by omega) (by omega) (by omega)) (fun h h9 => by have := g2 h; exact evF_fuel ha 39 40 _ h9 (by omega) (by omega) (by omega)) (fun h => by have := g4 h; have := g3 (Or.inr (Or.inr h)); exact ⟨this, evF_fuel ha 39 40 _ (by omega) (by omega) (by omega) (by omega)⟩)
section EX
variable {M : Mem} {T : Int → Int} {E : Int → Int × Int} {n a b : Int} {x : ND}
theorem nn0 : ¬ ¬ (0 : Int) = 0 := fun h => h rfl
theorem evX_lo (h : x.1 < 8) : evX M T E n x = nrK (T n) (cF M x.1 x.2.2.2.2 (T n) 0 0 0) := if_pos h
theorem evX_f1 (h : ¬ x.1 < 8) (h1 : ¬ (E x.2.1).1 = 0) : evX M T E n x = E x.2.1 := by
  unfold evX; rw [if_neg h, if_pos h1]
theorem evX_65f (h65 : x.1 = 65) (h1 : E x.2.1 = (0, a)) (h2 : ¬ (E (if a = 0 then x.2.2.2.1 else x.2.2.1)).1 = 0) : evX M T E n x = E (if a = 0 then x.2.2.2.1 else x.2.2.1) := by
  unfold evX; rw [if_neg (show ¬ x.1 < 8 by omega), h1]; dsimp only; rw [if_neg nn0, if_pos h65, if_pos h2]
theorem evX_65v (h65 : x.1 = 65) (h1 : E x.2.1 = (0, a)) (h2 : E (if a = 0 then x.2.2.2.1 else x.2.2.1) = (0, b)) : evX M T E n x = nrK (T n) (cF M 65 x.2.2.2.2 (T n) (T x.2.1) a b) := by
  unfold evX; rw [if_neg (show ¬ x.1 < 8 by omega), h1]; dsimp only; rw [if_neg nn0, if_pos h65, h2]; dsimp only; rw [if_neg nn0]
theorem evX_one (h : ¬ x.1 < 8) (h65 : ¬ x.1 = 65) (h1 : E x.2.1 = (0, a)) (h2 : x.2.2.1 < 0 ∨ (x.1 = 44 ∧ a = 0) ∨ (x.1 = 46 ∧ ¬ a = 0)) : evX M T E n x = nrK (T n) (cF M x.1 x.2.2.2.2 (T n) (T x.2.1) a 0) := by
  unfold evX; rw [if_neg h, h1]; dsimp only; rw [if_neg nn0, if_neg h65, if_pos h2]
theorem evX_f2 (h : ¬ x.1 < 8) (h65 : ¬ x.1 = 65) (h1 : E x.2.1 = (0, a)) (h2 : ¬ (x.2.2.1 < 0 ∨ (x.1 = 44 ∧ a = 0) ∨ (x.1 = 46 ∧ ¬ a = 0))) (h3 : ¬ (E x.2.2.1).1 = 0) : evX M T E n x = E x.2.2.1 := by
  unfold evX; rw [if_neg h, h1]; dsimp only; rw [if_neg nn0, if_neg h65, if_neg h2, if_pos h3]
theorem evX_two (h : ¬ x.1 < 8) (h65 : ¬ x.1 = 65) (h1 : E x.2.1 = (0, a)) (h2 : ¬ (x.2.2.1 < 0 ∨ (x.1 = 44 ∧ a = 0) ∨ (x.1 = 46 ∧ ¬ a = 0))) (h3 : E x.2.2.1 = (0, b)) : evX M T E n x = nrK (T n) (cF M x.1 x.2.2.2.2 (T n) (T x.2.1) a b) := by
  unfold evX; rw [if_neg h, h1]; dsimp only; rw [if_neg nn0, if_neg h65, if_neg h2, h3]; dsimp only; rw [if_neg nn0]
end EX
/-- the parts of the memory that values depend on -/
def agV (A W : Mem) : Prop := W 56 = A 56 ∧ W 59 = A 59 ∧ W 60 = A 60 ∧ W 61 = A 61 ∧ W 62 = A 62 ∧ W 71 = A 71
theorem suitsB_ag {A W : Mem} (h : agV A W) (a b : Int) : suitsB W a b = suitsB A a b := by
  unfold suitsB isAm; rw [h.1]
theorem needF_ag {A W : Mem} (h : agV A W) (p v : Int) : needF W p v = needF A p v := by
  unfold needF; rw [h.2.2.2.2.2]
theorem cF_ag {A W : Mem} (h : agV A W) (o v kn ka a b : Int) : cF W o v kn ka a b = cF A o v kn ka a b := by
  have hs := suitsB_ag h
  have hn := needF_ag h
  obtain ⟨h1, h2, h3, h4, h5, h6⟩ := h
  unfold cF intoF fitF
  simp only [hs, hn, h2, h3, h4, h5, h6]
/-- the model's computing, by the values of the operands -/
theorem cmpF_cF {W : Mem} {n : Int} : cmpF W n = cF W (W 76 n) (W 80 n) (W 81 n) (W 81 (W 77 n)) (W 83 (W 77 n)) (if W 76 n = 65 then (if W 83 (W 77 n) = 0 then W 83 (W 79 n) else W 83 (W 78 n)) else W 83 (W 78 n)) := by
  unfold cmpF cF
  by_cases c1 : W 76 n < 6
  · rw [if_pos c1, if_pos c1]
  rw [if_neg c1, if_neg c1]
  by_cases c2 : W 76 n = 6
  · rw [if_pos c2, if_pos c2]
  rw [if_neg c2, if_neg c2]
  by_cases c3 : W 76 n = 7
  · rw [if_pos c3, if_pos c3]
  rw [if_neg c3, if_neg c3]
  by_cases c4 : 100 < W 76 n
  · rw [if_pos c4, if_pos c4]
  rw [if_neg c4, if_neg c4]
  by_cases c5 : W 76 n = 60 ∨ W 76 n = 61 ∨ W 76 n = 62
  · rw [if_pos c5, if_pos c5, if_neg (c := W 76 n = 65) (by omega)]
  rw [if_neg c5, if_neg c5]
  by_cases c6 : W 76 n = 63 ∨ W 76 n = 64
  · rw [if_pos c6, if_pos c6]
  rw [if_neg c6, if_neg c6]
  by_cases c7 : W 76 n = 65
  · rw [if_pos c7, if_pos c7, if_pos c7]
  rw [if_neg c7, if_neg c7, if_neg c7]
/-- computing does not look at a second operand that is not needed -/
theorem cF_b {M : Mem} {o v kn ka a b b' : Int} (ho : nodeO o) (h8 : 8 ≤ o) (h65 : ¬ o = 65) (hb : o = 60 ∨ o = 61 ∨ o = 63 ∨ o = 64 ∨ 100 < o ∨ (o = 44 ∧ a = 0) ∨ (o = 46 ∧ ¬ a = 0)) : cF M o v kn ka a b = cF M o v kn ka a b' := by
  unfold cF
  have d1 : ¬ o < 6 := by omega
  have d2 : ¬ o = 6 := by omega
  have d3 : ¬ o = 7 := by omega
  rw [if_neg d1, if_neg d1, if_neg d2, if_neg d2, if_neg d3, if_neg d3]
  by_cases c4 : 100 < o
  · rw [if_pos c4, if_pos c4]
  rw [if_neg c4, if_neg c4]
  by_cases c5 : o = 60 ∨ o = 61 ∨ o = 62
  · rw [if_pos c5, if_pos c5]
    unfold intoF
    rcases (show o = 60 ∨ o = 61 by omega) with rfl | rfl <;> simp
  rw [if_neg c5, if_neg c5]
  by_cases c6 : o = 63 ∨ o = 64
  · rw [if_pos c6, if_pos c6]
  rw [if_neg c6, if_neg c6, if_neg h65, if_neg h65]
  by_cases c7 : o = 44
  · rw [if_pos c7, if_pos c7, if_pos (show a = 0 by omega), if_pos (show a = 0 by omega)]
  rw [if_neg c7, if_neg c7]
  rw [if_pos (show o = 46 by omega), if_pos (show o = 46 by omega), if_neg (show ¬ a = 0 by omega), if_neg (show ¬ a = 0 by omega)]
/-- what holds of the model's memory while the nodes are worked out: what is done is right -/
def IW (A : Mem) (N : List ND) (T : Int → Int) (W : Mem) : Prop := wkF A W ∧ ∀ n : Int, 0 ≤ n → n < N.length → ¬ W 82 n = 0 → eV A N T n = (0, W 83 n)
/-- a memory with these nodes and kinds -/
def ndT (A : Mem) (N : List ND) (T : Int → Int) : Prop := ndk A N ∧ A 81 = T ∧ allN N ∧ N.length ≤ 32
section WK
variable {A : Mem} {N : List ND} {T : Int → Int} {W : Mem}
theorem agV_wk (h : wkF A W) : agV A W := ⟨funext fun i => h 56 i (by omega), funext fun i => h 59 i (by omega), funext fun i => h 60 i (by omega), funext fun i => h 61 i (by omega), funext fun i => h 62 i (by omega), funext fun i => h 71 i (by omega)⟩
theorem nd_wk (hA : ndT A N T) (h : wkF A W) {n : Int} (h0 : 0 ≤ n) (h1 : n < N.length) : W 76 n = (N.getD n.toNat nd0).1 ∧ W 77 n = (N.getD n.toNat nd0).2.1 ∧ W 78 n = (N.getD n.toNat nd0).2.2.1 ∧ W 79 n = (N.getD n.toNat nd0).2.2.2.1 ∧ W 80 n = (N.getD n.toNat nd0).2.2.2.2 ∧ W 81 = T := by
  have hk := hA.1 n.toNat (by omega)
  rw [Int.toNat_of_nonneg h0] at hk
  obtain ⟨k1, k2, k3, k4, k5⟩ := hk
  exact ⟨(h 76 n (by omega)).trans k1, (h 77 n (by omega)).trans k2, (h 78 n (by omega)).trans k3, (h 79 n (by omega)).trans k4, (h 80 n (by omega)).trans k5, (funext fun i => h 81 i (by omega)).trans hA.2.1⟩
/-- a node that lacks nothing: its value is what is computed -/
theorem ev_comp (hA : ndT A N T) (h : IW A N T W) {n : Int} (h0 : 0 ≤ n) (h1 : n < N.length) (hl : lackM W n < 0) : eV A N T n = nrK (T n) (cmpF W n) := by
  obtain ⟨k1, k2, k3, k4, k5, k6⟩ := nd_wk hA h.1 h0 h1
  have hg := ndAll hA.2.2.1 h0 h1
  rw [eV_eq hA.2.2.1 hA.2.2.2 h0 h1, cmpF_cF, cF_ag (agV_wk h.1), k6]
  unfold lackM at hl
  rw [k1, k2, k3, k4] at hl
  rw [k1, k2, k3, k4, k5]
  generalize N.getD n.toNat nd0 = x at hg hl ⊢
  obtain ⟨g1, g2, g3, g4, -⟩ := hg
  by_cases c1 : x.1 < 8
  · rw [evX_lo c1, if_neg (show ¬ x.1 = 65 by omega)]
    unfold cF
    by_cases d1 : x.1 < 6
    · rw [if_pos d1, if_pos d1]
    rw [if_neg d1, if_neg d1]
    by_cases d2 : x.1 = 6
    · rw [if_pos d2, if_pos d2]
    · rw [if_neg d2, if_neg d2, if_pos (show x.1 = 7 by omega), if_pos (show x.1 = 7 by omega)]
  rw [if_neg c1] at hl
  have q2 := g2 (by omega)
  by_cases c2 : W 82 x.2.1 = 0
  · rw [if_pos c2] at hl; omega
  rw [if_neg c2] at hl
  have e1 := h.2 x.2.1 q2.1.1 (by omega) c2
  by_cases c3 : x.1 = 65
  · rw [if_pos c3] at hl
    have q4 := g4 c3
    have q3 := g3 (Or.inr (Or.inr c3))
    rw [if_pos c3]
    by_cases c4 : W 83 x.2.1 = 0
    · rw [if_pos c4] at hl
      by_cases c5 : W 82 x.2.2.2.1 = 0
      · rw [if_pos c5] at hl; omega
      · rw [evX_65v c3 e1 (b := W 83 x.2.2.2.1) (by rw [if_pos c4]; exact h.2 x.2.2.2.1 q4.1 (by omega) c5), if_pos c4, c3]
    · rw [if_neg c4] at hl
      by_cases c5 : W 82 x.2.2.1 = 0
      · rw [if_pos c5] at hl; omega
      · rw [evX_65v c3 e1 (b := W 83 x.2.2.1) (by rw [if_neg c4]; exact h.2 x.2.2.1 q3 (by omega) c5), if_neg c4, c3]
  rw [if_neg c3] at hl
  rw [if_neg c3]
  by_cases c4 : x.2.2.1 < 0 ∨ (x.1 = 44 ∧ W 83 x.2.1 = 0) ∨ (x.1 = 46 ∧ ¬ W 83 x.2.1 = 0)
  · rw [evX_one c1 c3 e1 c4]
    refine congrArg (nrK (T n)) (cF_b g1 (by omega) c3 ?_)
    unfold nodeO at g1
    omega
  rw [if_neg c4] at hl
  by_cases c5 : W 82 x.2.2.1 = 0
  · rw [if_pos c5] at hl; omega
  · rw [evX_two c1 c3 e1 c4 (h.2 x.2.2.1 (by omega) (by omega) c5)]
/-- a node that lacks one with no value has none either, and the same of it -/
theorem ev_lack (hA : ndT A N T) (h : IW A N T W) {n : Int} (h0 : 0 ≤ n) (h1 : n < N.length) (hl : ¬ lackM W n < 0) (hf : ¬ (eV A N T (lackM W n)).1 = 0) : eV A N T n = eV A N T (lackM W n) := by
  obtain ⟨k1, k2, k3, k4, k5, k6⟩ := nd_wk hA h.1 h0 h1
  have hg := ndAll hA.2.2.1 h0 h1
  rw [eV_eq (n := n) hA.2.2.1 hA.2.2.2 h0 h1]
  unfold lackM at hl hf ⊢
  rw [k1, k2, k3, k4] at hl hf ⊢
  generalize N.getD n.toNat nd0 = x at hg hl hf ⊢
  obtain ⟨g1, g2, g3, g4, -⟩ := hg
  by_cases c1 : x.1 < 8
  · rw [if_pos c1] at hl; omega
  rw [if_neg c1] at hl hf ⊢
  have q2 := g2 (by omega)
  by_cases c2 : W 82 x.2.1 = 0
  · rw [if_pos c2] at hf ⊢
    exact evX_f1 c1 hf
  rw [if_neg c2] at hl hf ⊢
  have e1 := h.2 x.2.1 q2.1.1 (by omega) c2
  by_cases c3 : x.1 = 65
  · rw [if_pos c3] at hl hf ⊢
    by_cases c4 : W 83 x.2.1 = 0
    · rw [if_pos c4] at hl hf ⊢
      by_cases c5 : W 82 x.2.2.2.1 = 0
      · rw [if_pos c5] at hf ⊢
        have := evX_65f (M := A) (T := T) (n := n) c3 e1 (by rw [if_pos c4]; exact hf)
        rw [if_pos c4] at this
        exact this
      · rw [if_neg c5] at hl; omega
    · rw [if_neg c4] at hl hf ⊢
      by_cases c5 : W 82 x.2.2.1 = 0
      · rw [if_pos c5] at hf ⊢
        have := evX_65f (M := A) (T := T) (n := n) c3 e1 (by rw [if_neg c4]; exact hf)
        rw [if_neg c4] at this
        exact this
      · rw [if_neg c5] at hl; omega
  rw [if_neg c3] at hl hf ⊢
  by_cases c4 : x.2.2.1 < 0 ∨ (x.1 = 44 ∧ W 83 x.2.1 = 0) ∨ (x.1 = 46 ∧ ¬ W 83 x.2.1 = 0)
  · rw [if_pos c4] at hl; omega
  rw [if_neg c4] at hl hf ⊢
  by_cases c5 : W 82 x.2.2.1 = 0
  · rw [if_pos c5] at hf ⊢
    exact evX_f2 c1 c3 e1 c4 hf
  · rw [if_neg c5] at hl; omega
end WK
