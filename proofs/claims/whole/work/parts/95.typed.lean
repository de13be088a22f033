/-- the model's half of the target is the same -/
def agM (A W : Mem) : Prop := (W 55 0 = A 55 0 ∧ W 55 5 = A 55 5 ∧ W 55 9 = A 55 9 ∧ W 55 10 = A 55 10) ∧ W 56 = A 56 ∧ W 57 = A 57 ∧ W 58 = A 58 ∧ W 59 = A 59 ∧ W 60 = A 60 ∧ W 61 = A 61 ∧ W 62 = A 62
section AG
variable {A W : Mem}
theorem agM_TI (h : agM A W) (hI : TI A) : TI W := by
  obtain ⟨⟨h0, h5, h9, h10⟩, g6, g7, g8, g9, g0, g1, g2⟩ := h
  exact TI_m h0 h5 h9 h10 g6 g7 g8 g0 g1 hI
theorem agM_suits (h : agM A W) : suitsB W = suitsB A := by
  funext a b; unfold suitsB isAm; rw [h.2.1]
theorem agM_rel (h : agM A W) : relB W = relB A := by
  funext a b; unfold relB; rw [agM_suits h]
theorem agM_field (h : agM A W) : fieldM W = fieldM A := by
  funext a b; unfold fieldM; rw [h.2.1, h.2.2.1]
theorem agM_kchk (h : agM A W) (o v a b c : Int) : kchk W o v a b c = kchk A o v a b c := by
  unfold kchk eithV
  rw [agM_suits h, agM_rel h, agM_field h, h.1.1, h.2.2.2.1]
theorem agM_valid (h : agM A W) : validB W = validB A := by
  funext k v; unfold validB; rw [agM_suits h, h.1.2.1, h.2.2.2.2.2.1]
theorem agM_due (h : agM A W) : dueM W = dueM A := by
  funext o p; unfold dueM; rw [agM_field h, h.2.2.2.2.2.1, h.2.2.2.2.2.2.1]
theorem agM_isA (h : agM A W) : isAm W = isAm A := by
  funext a b; unfold isAm; rw [h.2.1]
theorem agM_CI (h : agM A W) (hC : CI A) : CI W := by
  unfold CI at hC ⊢
  rw [agM_valid h, agM_due h, agM_isA h, h.1.1, h.1.2.1, h.2.2.1, h.2.2.2.1, h.2.2.2.2.1, h.2.2.2.2.2.1, h.2.2.2.2.2.2.1, h.2.2.2.2.2.2.2]
  exact hC
theorem agM_tr {V : Mem} (h : agM A W) (h2 : agM W V) : agM A V := by
  obtain ⟨⟨h0, h5, h9, h10⟩, g6, g7, g8, g9, g0, g1, g2⟩ := h
  obtain ⟨⟨i0, i5, i9, i10⟩, k6, k7, k8, k9, k0, k1, k2⟩ := h2
  exact ⟨⟨i0.trans h0, i5.trans h5, i9.trans h9, i10.trans h10⟩, k6.trans g6, k7.trans g7, k8.trans g8, k9.trans g9, k0.trans g0, k1.trans g1, k2.trans g2⟩
end AG
/-- all that is fixed while the nodes of a text are worked out -/
def SF (A : Mem) (N : List ND) (T : Int → Int) : Prop := ndT A N T ∧ TI A ∧ CI A ∧ fxN A N T ∧ (∀ n : Int, 0 ≤ n → n < N.length → 0 ≤ T n ∧ T n < 18) ∧ (∀ x ∈ N, tokW x.1 x.2.2.2.2) ∧ A 55 28 = N.length ∧ A 84 0 = tp N ∧ 0 ≤ tp N ∧ tp N < N.length
theorem val_zero {M : Mem} {k : Int} (h : 0 ≤ k) : validB M k 0 = true := by
  by_cases h4 : 4 ≤ k
  · exact (val_r h4).mpr (Or.inl rfl)
  · rcases (show k = 0 ∨ k = 1 ∨ k = 2 ∨ k = 3 by omega) with rfl | rfl | rfl | rfl
    · rw [val_0]; exact decide_eq_true (w32_id (by omega)).symm
    · exact val_1
    · rw [val_2]; rfl
    · exact ty3 (Or.inl rfl)
theorem nr_0 {k : Int} {R : Int × Int} {y : Int} (h : nrK k R = (0, y)) : R.1 = 0 ∧ y = if k = 0 then w32 R.2 else R.2 := by
  unfold nrK at h
  by_cases h0 : R.1 = 0
  · rw [if_pos h0] at h; cases h; exact ⟨h0, rfl⟩
  · rw [if_neg h0] at h; rw [h] at h0; exact absurd rfl h0
theorem ty_leaf {M : Mem} (hI : TI M) (hC : CI M) {o v k ka kb kc y : Int} (h8 : o < 8) (h1 : 1 ≤ o) (hk : k = kchk M o (w32 v) ka kb kc) (h0 : 0 ≤ k) (hw : tokW o v) (h7 : o = 7 → 0 ≤ v ∧ v < 26) (hr : cF M o v k 0 0 0 = (0, y)) : validB M k (if k = 0 then w32 y else y) = true := by
  refine ty_nr ?_
  unfold cF at hr
  rcases (show o = 1 ∨ o = 2 ∨ o = 3 ∨ o = 4 ∨ o = 5 ∨ o = 6 ∨ o = 7 by omega) with rfl | rfl | rfl | rfl | rfl | rfl | rfl
  · left; rw [hk]; rfl
  · right; rw [show k = 1 from hk]; exact val_1
  · right
    cases hr
    have := hw.1 rfl
    rw [show k = 2 from hk, val_2]
    exact decide_eq_true (by rw [if_neg (by decide)]; omega)
  · right
    cases hr
    have := hw.2.1 rfl
    rw [show k = 3 from hk]
    exact ty3 (by rw [if_neg (by decide)]; omega)
  · right
    cases hr
    exact val_zero h0
  · right
    have hy := need_v (show needF M 26 (M 59 26) = (0, y) from hr)
    have hk2 : k = M 58 26 := hk
    rw [← hy, hk2]
    exact (hC.2.2.2.2.1 26 (by omega) (by omega)).1 (by omega)
  · right
    have h9 := h7 rfl
    have hy := need_v (show needF M (w32 v) (M 59 (w32 v)) = (0, y) from hr)
    have hk2 : k = M 58 (w32 v) := hk
    rw [w32_id (by omega)] at hy hk2
    rw [← hy, hk2]
    exact (hC.2.2.2.2.1 v (by omega) (by omega)).1 (by omega)
theorem ty_cF {M : Mem} (hI : TI M) (hC : CI M) {o v k ka kb kc a b y : Int} (ho : nodeO o) (h8 : 8 ≤ o) (h65 : ¬ o = 65) (h60 : o = 60 → 0 ≤ v ∧ v < 26) (h63 : o = 63 → 0 ≤ v ∧ v < 6) (h64 : o = 64 → 0 ≤ v ∧ v < 17) (hk : k = kchk M o (w32 v) ka kb kc) (h0 : 0 ≤ k) (ha : validB M ka a = true) (hb : (8 ≤ o ∧ o < 60) ∨ o = 62 → validB M kb b = true) (hr : cF M o v k ka a b = (0, y)) : validB M k (if k = 0 then w32 y else y) = true := by
  unfold cF at hr
  rw [if_neg (c := o < 6) (by omega), if_neg (c := o = 6) (by omega), if_neg (c := o = 7) (by omega)] at hr
  by_cases c1 : 100 < o
  · rw [if_pos c1] at hr
    cases hr
    exact ty_una c1 hk h0 ha
  rw [if_neg c1] at hr
  by_cases c2 : o = 60 ∨ o = 61 ∨ o = 62
  · rw [if_pos c2] at hr
    exact ty_into hI hC c2 (fun e => by have := h60 e; rw [w32_id (by omega)]; exact this) hk h0 ha (fun e => hb (Or.inr e)) hr
  rw [if_neg c2] at hr
  by_cases c3 : o = 63 ∨ o = 64
  · rw [if_pos c3] at hr
    refine ty_fit hI hC c3 ?_ hk h0 ha hr
    rcases c3 with e | e
    · have := h63 e; rw [w32_id (by omega)]; omega
    · have := h64 e; rw [w32_id (by omega)]; exact this
  rw [if_neg c3, if_neg h65] at hr
  unfold nodeO at ho
  by_cases c4 : o = 44 ∨ o = 46
  · rcases kc_and (M := M) (v := w32 v) (a := ka) (b := kb) (c := kc) c4 with h | ⟨h, h1, h2⟩
    · omega
    · have hb9 := hb (by omega)
      rw [h1] at ha
      rw [h2] at hb9
      refine ty_nr (Or.inr ?_)
      rw [hk, h]
      rcases c4 with rfl | rfl
      · rw [if_pos rfl] at hr
        cases hr
        split
        · exact ha
        · exact hb9
      · rw [if_neg (by decide), if_pos rfl] at hr
        cases hr
        split
        · exact hb9
        · exact ha
  · rw [if_neg (c := o = 44) (by omega), if_neg (c := o = 46) (by omega)] at hr
    exact ty_reck (by omega) hk h0 ha (hb (by omega)) hr
section TS
variable {A : Mem} {N : List ND} {T : Int → Int}
/-- what values of nodes need to be of their kinds -/
def TY0 (A : Mem) (N : List ND) (T : Int → Int) : Prop := allN N ∧ N.length ≤ 32 ∧ TI A ∧ CI A ∧ fxN A N T ∧ (∀ n : Int, 0 ≤ n → n < N.length → 0 ≤ T n ∧ T n < 18) ∧ ∀ x ∈ N, tokW x.1 x.2.2.2.2
/-- values are of the kinds of their nodes -/
theorem ev_ty (h : TY0 A N T) : ∀ (f : Nat) (n : Int), 0 ≤ n → n < N.length → n < f → ∀ y, eV A N T n = (0, y) → validB A (T n) y = true := by
  obtain ⟨ha, h32, hI, hC, hN, hT, hw⟩ := h
  intro f
  induction f with
  | zero => intro n h0 _ h1; omega
  | succ f ih =>
    intro n h0 h1 hf y hy
    have hx := ndGet h0 h1
    have hg := ndAll ha h0 h1
    have hk := hN n.toNat _ hx
    rw [Int.toNat_of_nonneg h0] at hk
    have hwx := hw _ (List.mem_of_getElem? hx)
    rw [eV_eq ha h32 h0 h1] at hy
    have hTn := hT n h0 h1
    generalize N.getD n.toNat nd0 = x at hx hg hk hwx hy
    obtain ⟨g1, g2, g3, g4, g5, g6, g7⟩ := hg
    by_cases c1 : x.1 < 8
    · rw [evX_lo c1] at hy
      obtain ⟨r1, r2⟩ := nr_0 hy
      rw [r2]
      exact ty_leaf hI hC c1 g1.1 hk hTn.1 hwx (fun e => g5 (Or.inl e)) (Prod.ext r1 rfl)
    have q2 := g2 (by omega)
    by_cases c2 : (eV A N T x.2.1).1 = 0
    · have e1 : eV A N T x.2.1 = (0, (eV A N T x.2.1).2) := Prod.ext c2 rfl
      have v1 := ih x.2.1 q2.1.1 (by omega) (by omega) _ e1
      generalize (eV A N T x.2.1).2 = a at e1 v1
      by_cases c3 : x.1 = 65
      · have q3 := g3 (Or.inr (Or.inr c3))
        have q4 := g4 c3
        have hTb := hT x.2.2.1 q3 (by omega)
        have hTc := hT x.2.2.2.1 q4.1 (by omega)
        rw [c3] at hk
        by_cases c4 : (eV A N T (if a = 0 then x.2.2.2.1 else x.2.2.1)).1 = 0
        · have e2 : eV A N T (if a = 0 then x.2.2.2.1 else x.2.2.1) = (0, (eV A N T (if a = 0 then x.2.2.2.1 else x.2.2.1)).2) := Prod.ext c4 rfl
          generalize hz : (eV A N T (if a = 0 then x.2.2.2.1 else x.2.2.1)).2 = z at e2
          rw [evX_65v c3 e1 e2] at hy
          obtain ⟨r1, r2⟩ := nr_0 hy
          have r2' : y = if T n = 0 then w32 z else z := r2
          rw [r2']
          refine ty_cho hI hC hk hTn.1 hTb.1 hTc.1 ?_
          by_cases ca : a = 0
          · rw [if_pos ca] at e2
            exact Or.inr (ih x.2.2.2.1 q4.1 (by omega) (by omega) _ e2)
          · rw [if_neg ca] at e2
            exact Or.inl (ih x.2.2.1 q3 (by omega) (by omega) _ e2)
        · rw [evX_65f c3 e1 c4] at hy
          rw [hy] at c4; exact absurd rfl c4
      by_cases c4 : x.2.2.1 < 0 ∨ (x.1 = 44 ∧ a = 0) ∨ (x.1 = 46 ∧ ¬ a = 0)
      · rw [evX_one c1 c3 e1 c4] at hy
        obtain ⟨r1, r2⟩ := nr_0 hy
        rw [r2]
        refine ty_cF hI hC g1 (by omega) c3 (fun e => g5 (Or.inr e)) g6 g7 hk hTn.1 v1 (fun e => ?_) (Prod.ext r1 rfl)
        have q3 := g3 (by omega)
        exact val_zero (hT x.2.2.1 q3 (by omega)).1
      by_cases c5 : (eV A N T x.2.2.1).1 = 0
      · have e2 : eV A N T x.2.2.1 = (0, (eV A N T x.2.2.1).2) := Prod.ext c5 rfl
        rw [evX_two c1 c3 e1 c4 e2] at hy
        obtain ⟨r1, r2⟩ := nr_0 hy
        rw [r2]
        exact ty_cF hI hC g1 (by omega) c3 (fun e => g5 (Or.inr e)) g6 g7 hk hTn.1 v1 (fun e => ih x.2.2.1 (by omega) (by omega) (by omega) _ e2) (Prod.ext r1 rfl)
      · rw [evX_f2 c1 c3 e1 c4 c5] at hy
        rw [hy] at c5; exact absurd rfl c5
    · rw [evX_f1 c1 c2] at hy
      rw [hy] at c2; exact absurd rfl c2
theorem ev_valid0 (h : TY0 A N T) {n y : Int} (h0 : 0 ≤ n) (h1 : n < N.length) (hy : eV A N T n = (0, y)) : validB A (T n) y = true := ev_ty h (n.toNat + 1) n h0 h1 (by omega) y hy
theorem SF_TY (h : SF A N T) : TY0 A N T := ⟨h.1.2.2.1, h.1.2.2.2, h.2.1, h.2.2.1, h.2.2.2.1, h.2.2.2.2.1, h.2.2.2.2.2.1⟩
theorem ev_valid (h : SF A N T) {n y : Int} (h0 : 0 ≤ n) (h1 : n < N.length) (hy : eV A N T n = (0, y)) : validB A (T n) y = true := ev_valid0 (SF_TY h) h0 h1 hy
/-- the invariant of the rounds of work -/
theorem IW_WInv (h : SF A N T) : WInv (IW A N T) := by
  have hSF := h
  obtain ⟨hA, hI, hC, hN, hT, hw, h28, h84, hr0, hr1⟩ := h
  have h32 := hA.2.2.2
  refine ⟨fun W hW => ⟨?_, ?_, ?_, ?_⟩, fun W n hW h0 hn hl => ?_, fun W W' n v hW h0 hn hl hc he => ?_⟩
  · have e28 : W 55 28 = N.length := (hW.1 55 28 (by omega)).trans h28
    have e84 : W 84 0 = tp N := (hW.1 84 0 (by omega)).trans h84
    refine ⟨by rw [e28, e84]; omega, fun n h0 hn => ?_⟩
    rw [e28] at hn
    obtain ⟨k1, k2, k3, k4, k5, k6⟩ := nd_wk hA hW.1 h0 hn
    obtain ⟨g1, g2, g3, g4, g5, g6, g7⟩ := ndAll hA.2.2.1 h0 hn
    unfold nodeC
    rw [k1, k2, k3, k4, k5]
    generalize N.getD n.toNat nd0 = x at g1 g2 g3 g4 g5 g6 g7 ⊢
    refine ⟨g1, ⟨fun e => by have := g2 e; omega, fun e => ?_, fun e => by have := g4 e; omega, fun e => ?_, fun e => ?_⟩, fun e => by have := g2 e; omega, fun e => (g4 e).2⟩
    · have := g3 (by omega)
      have := g2 (by omega)
      omega
    · have := g5 (Or.inl e); rw [w32_id (by omega)]; exact this
    · have := g5 (Or.inr e); rw [w32_id (by omega)]; exact this
  · have e56 : W 56 = A 56 := funext fun i => hW.1 56 i (by omega)
    have := hI.2.2.2.2.1
    unfold okP at this ⊢
    rw [e56]; exact this
  · have e61 : W 61 = A 61 := funext fun i => hW.1 61 i (by omega)
    rw [e61]; exact hI.2.2.2.2.2.2.2.2.2.2.1
  · have e60 : W 60 = A 60 := funext fun i => hW.1 60 i (by omega)
    rw [e60]
    intro j j0 j1
    have := hI.2.2.2.2.2.2.2.2.2.1 j j0 j1
    omega
  · have e28 : W 55 28 = N.length := (hW.1 55 28 (by omega)).trans h28
    rw [e28] at hn
    obtain ⟨k1, k2, k3, k4, k5, k6⟩ := nd_wk hA hW.1 h0 hn
    have hx := ndGet h0 hn
    have hk := hN n.toNat _ hx
    rw [Int.toNat_of_nonneg h0] at hk
    have hTn := hT n h0 hn
    unfold lackM at hl
    rw [k1, k2] at hl
    obtain ⟨g1, g2, g3, g4, g5, g6, g7⟩ := ndAll hA.2.2.1 h0 hn
    unfold nodeD
    rw [k1, k2, k5, k6]
    generalize N.getD n.toNat nd0 = x at g1 g2 g3 g4 g5 g6 g7 hk hl ⊢
    have first : 8 ≤ x.1 → (0 ≤ T x.2.1 ∧ T x.2.1 < 18) ∧ validB A (T x.2.1) (W 83 x.2.1) = true := by
      intro h8
      have q2 := g2 h8
      rw [if_neg (by omega)] at hl
      have c2 : ¬ W 82 x.2.1 = 0 := fun c2 => by rw [if_pos c2] at hl; omega
      exact ⟨hT x.2.1 q2.1.1 (by omega), ev_valid hSF q2.1.1 (by omega) (hW.2 x.2.1 q2.1.1 (by omega) c2)⟩
    have small : 8 ≤ x.1 → 4 ≤ T x.2.1 → 0 ≤ w32 (W 83 x.2.1) ∧ w32 (W 83 x.2.1) ≤ 12 := by
      intro h8 h4
      have := valid_in hI h4 (first h8).2
      have h12 := hI.2.1
      rw [w32_id (by omega)]
      omega
    have hv : x.1 = 63 ∨ x.1 = 64 → 0 ≤ w32 x.2.2.2.2 ∧ w32 x.2.2.2.2 < 17 ∧ (x.1 = 63 → w32 x.2.2.2.2 < 6) := by
      intro e
      rcases e with e | e
      · have := g6 e; rw [w32_id (by omega)]; omega
      · have := g7 e; rw [w32_id (by omega)]; omega
    refine ⟨hv, fun e => (first (by omega)).1, fun e => small (by omega) ?_, fun e => ?_, fun e h4 => small (by omega) ?_⟩
    · rcases e with e | e | e
      · rw [e, kc_60] at hk
        split at hk <;> omega
      · rw [e, kc_61] at hk
        split at hk <;> omega
      · rw [e, kc_62] at hk
        split at hk <;> omega
    · have := hv e
      unfold toK
      split <;> omega
    · unfold toK at h4
      rcases e with e | e
      · rw [e, kc_63] at hk
        split at hk
        · rename_i h9; exact (rel_e.mp h9.2).1.1
        · omega
      · rw [e, kc_64] at hk
        rw [e, if_neg (by decide)] at h4
        split at hk
        · rename_i h9
          rcases h9.2 with h8 | h8 | h8
          · omega
          · omega
          · exact (rel_e.mp h8).1.1
        · omega
  · have e28 : W 55 28 = N.length := (hW.1 55 28 (by omega)).trans h28
    rw [e28] at hn
    exact IW_set hA hW h0 hn hl hc he
end TS
