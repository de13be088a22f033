/-- what holds of classes, objects and contents between the calls -/
def CI (M : Mem) : Prop :=
  (∀ o, 1 ≤ o → o ≤ M 55 5 → isKindB (M 55 0) (M 60 o) = true ∧ 4 ≤ M 60 o)
  ∧ (∀ o, M 55 5 < o → o ≤ 12 → M 60 o = 0 ∧ M 61 o = 0)
  ∧ (∀ c n, M 55 0 ≤ c → c < 6 → 0 ≤ n → n < 26 → M 57 (26 * c + n) = -1)
  ∧ (∀ c d n, 0 ≤ c → c < M 55 0 → 0 ≤ d → d < M 55 0 → isAm M c d = true → ¬ c = d → 0 ≤ n → n < 26 → 0 ≤ M 57 (26 * c + n) → ¬ 0 ≤ M 57 (26 * d + n))
  ∧ (∀ n, 0 ≤ n → n < 27 → (¬ M 58 n = -1 → validB M (M 58 n) (M 59 n) = true) ∧ (M 58 n = -1 → M 59 n = 0))
  ∧ (∀ o p, 1 ≤ o → o ≤ 12 → 0 ≤ p → p < 26 → (¬ dueM M o p = -1 → validB M (dueM M o p) (M 62 (26 * o + p)) = true) ∧ (dueM M o p = -1 → M 62 (26 * o + p) = 0))
section CL
variable {p f : Int → Int} {cl name : Int}
theorem foF_fuel (hp : ∀ c, 0 ≤ c → c < cl → p c < c) : ∀ (n m : Nat) (c : Int), c < cl → c < n → c < m → foF p f name n c = foF p f name m c := by
  intro n
  induction n with
  | zero => intro m c _ h _; rw [foF_neg (by omega), foF_neg (by omega)]
  | succ n ih =>
    intro m c hc h h2
    by_cases h0 : c < 0
    · rw [foF_neg h0, foF_neg h0]
    · cases m with
      | zero => omega
      | succ m =>
        by_cases hh : 0 ≤ f (26 * c + name)
        · rw [foF_hit h0 hh, foF_hit h0 hh]
        · rw [foF_s h0 hh, foF_s h0 hh]
          have := hp c (by omega) hc
          exact ih m (p c) (by omega) (by omega) (by omega)
theorem isAf_fuel (hp : ∀ c, 0 ≤ c → c < cl → p c < c) {b : Int} : ∀ (n m : Nat) (c : Int), c < cl → c < n → c < m → isAf p n c b = isAf p m c b := by
  intro n
  induction n with
  | zero =>
    intro m c _ h _
    by_cases e : c = b
    · rw [isAf_eq e, isAf_eq e]
    · rw [isAf_neg e (by omega), isAf_neg e (by omega)]
  | succ n ih =>
    intro m c hc h h2
    by_cases e : c = b
    · rw [isAf_eq e, isAf_eq e]
    by_cases h0 : c < 0
    · rw [isAf_neg e h0, isAf_neg e h0]
    · cases m with
      | zero => omega
      | succ m =>
        rw [isAf_s e h0, isAf_s e h0]
        have := hp c (by omega) hc
        exact ih m (p c) (by omega) (by omega) (by omega)
theorem isAf_le (hp : ∀ c, 0 ≤ c → c < cl → p c < c) {a : Int} : ∀ (n : Nat) (x : Int), x < cl → isAf p n x a = true → a ≤ x := by
  intro n
  induction n with
  | zero =>
    intro x _ h
    by_cases e : x = a
    · omega
    · rw [isAf_0 e] at h; cases h
  | succ n ih =>
    intro x hx h
    by_cases e : x = a
    · omega
    by_cases h0 : x < 0
    · rw [isAf_neg e h0] at h; cases h
    · rw [isAf_s e h0] at h
      have := hp x (by omega) hx
      have := ih (p x) (by omega) h
      omega
theorem isAf_tr (hp : ∀ c, 0 ≤ c → c < cl → p c < c) (h6 : cl ≤ 6) {y z : Int} (hyz : isAf p 6 y z = true) : ∀ (n : Nat) (x : Int), x < cl → isAf p n x y = true → isAf p 6 x z = true := by
  intro n
  induction n with
  | zero =>
    intro x _ h
    by_cases e : x = y
    · rw [e]; exact hyz
    · rw [isAf_0 e] at h; cases h
  | succ n ih =>
    intro x hx h
    by_cases e : x = y
    · rw [e]; exact hyz
    by_cases h0 : x < 0
    · rw [isAf_neg e h0] at h; cases h
    · rw [isAf_s e h0] at h
      have h9 := hp x (by omega) hx
      have h8 := ih (p x) (by omega) h
      by_cases ez : x = z
      · exact isAf_eq ez
      · rw [isAf_s ez h0, isAf_fuel hp 5 6 (p x) (by omega) (by omega) (by omega)]
        exact h8
theorem foF_find (hp : ∀ c, 0 ≤ c → c < cl → p c < c) : ∀ (n : Nat) (c : Int), c < cl → ¬ foF p f name n c = -1 → ∃ z, 0 ≤ z ∧ z ≤ c ∧ isAf p n c z = true ∧ 0 ≤ f (26 * z + name) ∧ foF p f name n c = f (26 * z + name) := by
  intro n
  induction n with
  | zero => intro c _ h; exact absurd rfl h
  | succ n ih =>
    intro c hc h
    by_cases h0 : c < 0
    · exact absurd (foF_neg h0) h
    by_cases hh : 0 ≤ f (26 * c + name)
    · exact ⟨c, by omega, Int.le_refl _, isAf_eq rfl, hh, foF_hit h0 hh⟩
    · rw [foF_s h0 hh] at h ⊢
      have h9 := hp c (by omega) hc
      obtain ⟨z, z1, z2, z3, z4, z5⟩ := ih (p c) (by omega) h
      refine ⟨z, z1, by omega, ?_, z4, z5⟩
      rw [isAf_s (by omega) h0]
      exact z3
end CL
theorem par_lt {M : Mem} (hI : TI M) : ∀ c, 0 ≤ c → c < M 55 0 → (fun j => M 56 j) c < c := hI.2.2.2.2.2.1
theorem isA_tr {M : Mem} (hI : TI M) {x y z : Int} (hx : x < M 55 0) (h : isAm M x y = true) (h2 : isAm M y z = true) : isAm M x z = true := isAf_tr (par_lt hI) hI.1.2 h2 6 x hx h
/-- a class finds the fields of those that it is -/
theorem fld_up {M : Mem} (hI : TI M) (hC : CI M) {a b name : Int} (hb : b < M 55 0) (ha : 0 ≤ a) (hn : 0 ≤ name ∧ name < 26) (his : isAm M b a = true) (hk : ¬ fieldM M a name = -1) : fieldM M b name = fieldM M a name := by
  have hp := par_lt hI
  have h6 := hI.1.2
  have hab := isAf_le hp 6 b hb his
  obtain ⟨z, z1, z2, z3, z4, z5⟩ := foF_find hp 6 a (by omega) hk
  have main : ∀ (n : Nat) (x : Int), n ≤ 6 → x < M 55 0 → isAf (fun j => M 56 j) n x a = true → fieldM M x name = fieldM M a name := by
    intro n
    induction n with
    | zero =>
      intro x _ _ h
      by_cases e : x = a
      · rw [e]
      · rw [isAf_0 e] at h; cases h
    | succ n ih =>
      intro x hn6 hx h
      by_cases e : x = a
      · rw [e]
      by_cases h0 : x < 0
      · rw [isAf_neg e h0] at h; cases h
      have hle := isAf_le hp (n + 1) x hx h
      have hx6 : isAm M x a = true := by
        have := isAf_tr hp h6 (y := a) (z := a) (isAf_eq rfl) (n + 1) x hx h
        exact this
      rw [isAf_s e h0] at h
      have h9 : M 56 x < x := hp x (by omega) hx
      have h8 := ih (M 56 x) (by omega) (by omega) h
      have hxz : isAm M x z = true := isA_tr hI hx hx6 z3
      have hf : ¬ 0 ≤ M 57 (26 * x + name) := fun h7 => hC.2.2.2.1 x z name (by omega) hx z1 (by omega) hxz (by omega) hn.1 hn.2 h7 z4
      rw [← h8]
      show foF (fun j => M 56 j) (fun j => M 57 j) name 6 x = foF (fun j => M 56 j) (fun j => M 57 j) name 6 (M 56 x)
      rw [foF_s h0 hf]
      exact foF_fuel hp 5 6 (M 56 x) (by omega) (by omega) (by omega)
  exact main 6 b (Nat.le_refl _) hb his
theorem suits_e {M : Mem} {a b : Int} : suitsB M a b = true ↔ a = b ∨ (a = 17 ∧ 4 ≤ b) ∨ ((4 ≤ a ∧ a < 10 ∧ 4 ≤ b ∧ b < 10) ∧ isAm M (a - 4) (b - 4) = true) := by
  unfold suitsB refB
  rw [Bool.or_eq_true, Bool.or_eq_true, Bool.and_eq_true, Bool.and_eq_true, decide_eq_true_iff, decide_eq_true_iff, decide_eq_true_iff, decide_eq_true_iff, or_assoc]
theorem suits_tr {M : Mem} (hI : TI M) {k a b : Int} (hk : isKindB (M 55 0) k = true) (h : suitsB M k a = true) (h2 : suitsB M a b = true) : suitsB M k b = true := by
  have hk9 := isKindB_t.mp hk
  have hc := hI.1
  rcases suits_e.mp h with rfl | h9 | ⟨h9, h8⟩
  · exact h2
  · omega
  · rcases suits_e.mp h2 with rfl | h7 | ⟨h7, h6⟩
    · exact h
    · omega
    · exact suits_e.mpr (Or.inr (Or.inr ⟨by omega, isA_tr hI (by omega) h8 h6⟩))
theorem valid_up {M : Mem} (hI : TI M) (hC : CI M) {a b v : Int} (ha : 4 ≤ a) (hb : 4 ≤ b) (hv : validB M a v = true) (h : suitsB M a b = true) : validB M b v = true := by
  rcases (val_r ha).mp hv with h0 | ⟨h1, h2⟩
  · exact (val_r hb).mpr (Or.inl h0)
  · exact (val_r hb).mpr (Or.inr ⟨h1, suits_tr hI (hC.1 v (by omega) h1.2).1 h2 h⟩)
theorem valid_in {M : Mem} (hI : TI M) {a v : Int} (ha : 4 ≤ a) (hv : validB M a v = true) : 0 ≤ v ∧ v ≤ M 55 5 := by
  have := hI.2.1
  rcases (val_r ha).mp hv with h0 | ⟨h1, h2⟩ <;> omega
theorem ty0 {M : Mem} {v : Int} : validB M 0 (w32 v) = true := by
  rw [val_0]
  exact decide_eq_true (w32_id (w32_in v)).symm
theorem ty_nr {M : Mem} {k v : Int} (h : k = 0 ∨ validB M k v = true) : validB M k (if k = 0 then w32 v else v) = true := by
  by_cases e : k = 0
  · rw [if_pos e, e]; exact ty0
  · rw [if_neg e]; exact h.resolve_left e
theorem ty3 {M : Mem} {v : Int} (h : v = 0 ∨ v = 1) : validB M 3 v = true := by rw [val_3]; exact decide_eq_true (by omega)
theorem ty3_i {M : Mem} {v : Int} (h : validB M 3 v = true) : v = 0 ∨ v = 1 := by rw [val_3] at h; have := of_decide_eq_true h; omega
theorem tyb {M : Mem} {b : Bool} : validB M 3 (b2i b) = true := ty3 (by cases b <;> simp [b2i])
/-- a value that is known -/
theorem need_v {M : Mem} {p v y : Int} (h : needF M p v = (0, y)) : v = y := by
  unfold needF at h
  split at h
  · cases h
  · cases h; rfl
theorem kc_num {M : Mem} {o v a b c : Int} (h : o = 27 ∨ o = 28 ∨ o = 29 ∨ o = 30 ∨ o = 31 ∨ o = 38 ∨ o = 39 ∨ o = 40) : kchk M o v a b c = -1 ∨ kchk M o v a b c = 0 ∨ kchk M o v a b c = 1 := by
  rcases h with rfl | rfl | rfl | rfl | rfl | rfl | rfl | rfl <;> simp [kchk, comV] <;> grind
theorem kc_cmp {M : Mem} {o v a b c : Int} (h : o = 34 ∨ o = 35 ∨ o = 36 ∨ o = 37 ∨ o = 41 ∨ o = 42) : kchk M o v a b c = -1 ∨ kchk M o v a b c = 3 := by
  rcases h with rfl | rfl | rfl | rfl | rfl | rfl <;> simp [kchk] <;> grind
theorem kc_bit {M : Mem} {o v a b c : Int} (h : o = 43 ∨ o = 45 ∨ o = 47) : kchk M o v a b c = -1 ∨ kchk M o v a b c = 0 ∨ kchk M o v a b c = 1 ∨ (kchk M o v a b c = 3 ∧ a = 3 ∧ b = 3) := by
  rcases h with rfl | rfl | rfl <;> simp [kchk, comV] <;> grind
theorem kc_and {M : Mem} {o v a b c : Int} (h : o = 44 ∨ o = 46) : kchk M o v a b c = -1 ∨ (kchk M o v a b c = 3 ∧ a = 3 ∧ b = 3) := by
  rcases h with rfl | rfl <;> simp [kchk] <;> grind
theorem kc_una {M : Mem} {o v a b c : Int} (h : 100 < o) : kchk M o v a b c = -1 ∨ (o = 133 ∧ a = 3 ∧ kchk M o v a b c = 3) ∨ (¬ o = 133 ∧ a < 3 ∧ (kchk M o v a b c = 0 ∨ kchk M o v a b c = 1)) := by
  unfold kchk comV
  rw [if_neg (c := o = 1 ∨ o = 2 ∨ o = 3) (by omega), if_neg (c := o < 8) (by omega), if_pos h]
  grind
theorem kc_60 {M : Mem} {v a b c : Int} : kchk M 60 v a b c = if 4 ≤ a ∧ a < 10 then fieldM M (a - 4) v else -1 := by simp [kchk]
theorem kc_61 {M : Mem} {v a b c : Int} : kchk M 61 v a b c = if 10 ≤ a ∧ a < 17 then 0 else -1 := by simp [kchk]
theorem kc_63 {M : Mem} {v a b c : Int} : kchk M 63 v a b c = if (0 ≤ v ∧ v < M 55 0) ∧ relB M a (4 + v) = true then 3 else -1 := by simp [kchk]
theorem kc_64 {M : Mem} {v a b c : Int} : kchk M 64 v a b c = if isKindB (M 55 0) v = true ∧ ((a < 3 ∧ v < 3) ∨ (a = 3 ∧ v = 3) ∨ relB M a v = true) then v else -1 := by simp [kchk]
theorem kc_62 {M : Mem} {v a b c : Int} : kchk M 62 v a b c = if (10 ≤ a ∧ a < 17) ∧ (b = 0 ∨ b = 2) then elemM a else -1 := by simp [kchk]
theorem kc_65 {M : Mem} {v a b c : Int} : kchk M 65 v a b c = if a = 3 then eithV M b c else -1 := by simp [kchk]
theorem bit3 {a b : Int} (ha : a = 0 ∨ a = 1) (hb : b = 0 ∨ b = 1) : (o_land a b = 0 ∨ o_land a b = 1) ∧ (o_lor a b = 0 ∨ o_lor a b = 1) ∧ (o_lxor a b = 0 ∨ o_lxor a b = 1) := by
  rcases ha with rfl | rfl <;> rcases hb with rfl | rfl <;> decide
theorem not3 {a : Int} (ha : a = 0 ∨ a = 1) : o_lsub 1 a = 0 ∨ o_lsub 1 a = 1 := by
  rcases ha with rfl | rfl <;> decide
section TY
variable {M : Mem} {k v ka kb kc a b y : Int}
theorem ty_una {o : Int} (ho : 100 < o) (hk : k = kchk M o v ka kb kc) (h0 : 0 ≤ k) (ha : validB M ka a = true) : validB M k (if k = 0 then w32 (unF o a) else unF o a) = true := by
  refine ty_nr ?_
  rcases kc_una (M := M) (v := v) (a := ka) (b := kb) (c := kc) ho with h | ⟨h1, h2, h3⟩ | ⟨h1, h2, h3⟩
  · omega
  · right
    rw [hk, h3]
    rw [h2] at ha
    have e : unF o a = o_lsub 1 a := if_pos h1
    rw [e]
    exact ty3 (not3 (ty3_i ha))
  · rcases h3 with h3 | h3
    · left; omega
    · right; rw [hk, h3]; exact val_1
theorem ty_reck {o : Int} (ho : o = 27 ∨ o = 28 ∨ o = 29 ∨ o = 30 ∨ o = 31 ∨ o = 34 ∨ o = 35 ∨ o = 36 ∨ o = 37 ∨ o = 38 ∨ o = 39 ∨ o = 40 ∨ o = 41 ∨ o = 42 ∨ o = 43 ∨ o = 45 ∨ o = 47) (hk : k = kchk M o v ka kb kc) (h0 : 0 ≤ k) (ha : validB M ka a = true) (hb : validB M kb b = true) (hr : reckF o k a b = (0, y)) : validB M k (if k = 0 then w32 y else y) = true := by
  refine ty_nr ?_
  by_cases h1 : o = 27 ∨ o = 28 ∨ o = 29 ∨ o = 30 ∨ o = 31 ∨ o = 38 ∨ o = 39 ∨ o = 40
  · rcases kc_num (M := M) (v := v) (a := ka) (b := kb) (c := kc) h1 with h | h | h
    · omega
    · left; omega
    · right; rw [hk, h]; exact val_1
  by_cases h2 : o = 34 ∨ o = 35 ∨ o = 36 ∨ o = 37 ∨ o = 41 ∨ o = 42
  · rcases kc_cmp (M := M) (v := v) (a := ka) (b := kb) (c := kc) h2 with h | h
    · omega
    · right
      have e : reckF o k a b = (0, cmpB o a b) := by
        unfold reckF
        rw [if_neg (c := o = 27) (by omega), if_neg (c := o = 28) (by omega), if_neg (c := o = 29) (by omega), if_neg (c := o = 30 ∨ o = 31) (by omega), if_neg (c := 38 ≤ o ∧ o ≤ 40) (by omega), if_neg (c := o = 43) (by omega), if_neg (c := o = 45) (by omega), if_neg (c := o = 47) (by omega)]
      rw [e] at hr
      cases hr
      rw [hk, h]
      refine ty3 ?_
      unfold cmpB
      split
      · exact Or.inr rfl
      · exact Or.inl rfl
  have h3 : o = 43 ∨ o = 45 ∨ o = 47 := by omega
  rcases kc_bit (M := M) (v := v) (a := ka) (b := kb) (c := kc) h3 with h | h | h | ⟨h, h4, h5⟩
  · omega
  · left; omega
  · right; rw [hk, h]; exact val_1
  · right
    rw [hk, h]
    rw [h4] at ha
    rw [h5] at hb
    have hb3 := bit3 (ty3_i ha) (ty3_i hb)
    rcases h3 with rfl | rfl | rfl
    · have e : reckF 43 k a b = (0, o_land a b) := by simp [reckF]
      rw [e] at hr; cases hr
      exact ty3 hb3.1
    · have e : reckF 45 k a b = (0, o_lor a b) := by simp [reckF]
      rw [e] at hr; cases hr
      exact ty3 hb3.2.1
    · have e : reckF 47 k a b = (0, o_lxor a b) := by simp [reckF]
      rw [e] at hr; cases hr
      exact ty3 hb3.2.2
/-- an object of a class has the part that its static kind tells -/
theorem due_field (hI : TI M) (hC : CI M) {n : Int} (hka : 4 ≤ ka ∧ ka < 10) (hn : 0 ≤ n ∧ n < 26) (ha : validB M ka a = true) (hz : ¬ a = 0) (hk : ¬ fieldM M (ka - 4) n = -1) : (1 ≤ a ∧ a ≤ M 55 5) ∧ M 60 a < 10 ∧ dueM M a n = fieldM M (ka - 4) n := by
  rcases (val_r hka.1).mp ha with h | ⟨h1, h2⟩
  · exact absurd h hz
  have ho := hC.1 a (by omega) h1.2
  have hkb := isKindB_t.mp ho.1
  have hc := hI.1
  refine ⟨by omega, ?_⟩
  rcases suits_e.mp h2 with h9 | h9 | ⟨h9, h8⟩
  · refine ⟨by omega, ?_⟩
    unfold dueM
    rw [if_pos (by omega), h9]
  · omega
  · refine ⟨by omega, ?_⟩
    unfold dueM
    rw [if_pos (by omega)]
    exact fld_up hI hC (by omega) (by omega) hn h8 hk
theorem due_elem (hI : TI M) (hC : CI M) {n : Int} (hka : 10 ≤ ka ∧ ka < 17) (hn : 0 ≤ n ∧ n < M 61 a) (ha : validB M ka a = true) (hz : ¬ a = 0) : (1 ≤ a ∧ a ≤ M 55 5) ∧ M 60 a = ka ∧ dueM M a n = elemM ka := by
  rcases (val_r (by omega : 4 ≤ ka)).mp ha with h | ⟨h1, h2⟩
  · exact absurd h hz
  have ho := hC.1 a (by omega) h1.2
  have hkb := isKindB_t.mp ho.1
  have hc := hI.1
  have e : M 60 a = ka := by
    rcases suits_e.mp h2 with h9 | h9 | ⟨h9, h8⟩ <;> omega
  refine ⟨by omega, e, ?_⟩
  unfold dueM
  rw [e, if_neg (by omega), if_pos hn.2]
theorem ty_into (hI : TI M) (hC : CI M) {o : Int} (ho : o = 60 ∨ o = 61 ∨ o = 62) (hv : o = 60 → 0 ≤ v ∧ v < 26) (hk : k = kchk M o v ka kb kc) (h0 : 0 ≤ k) (ha : validB M ka a = true) (hb : o = 62 → validB M kb b = true) (hr : intoF M o v (w32 a) b = (0, y)) : validB M k (if k = 0 then w32 y else y) = true := by
  refine ty_nr ?_
  have h12 := hI.2.1
  rcases ho with rfl | rfl | rfl
  · rw [kc_60] at hk
    by_cases hc : 4 ≤ ka ∧ ka < 10
    · rw [if_pos hc] at hk
      have hr9 := valid_in hI hc.1 ha
      rw [w32_id (by omega)] at hr
      unfold intoF at hr
      by_cases hz : a = 0
      · rw [if_pos hz] at hr; cases hr
      · rw [if_neg hz, if_pos rfl] at hr
        have hy := need_v hr
        obtain ⟨d1, d2, d3⟩ := due_field hI hC hc (hv rfl) ha hz (by omega)
        right
        have h9 := (hC.2.2.2.2.2 a v d1.1 (by omega) (hv rfl).1 (hv rfl).2).1 (by omega)
        rw [d3, ← hk] at h9
        rw [← hy]
        exact h9
    · rw [if_neg hc] at hk; omega
  · rw [kc_61] at hk
    split at hk
    · left; exact hk
    · omega
  · rw [kc_62] at hk
    by_cases hc : (10 ≤ ka ∧ ka < 17) ∧ (kb = 0 ∨ kb = 2)
    · rw [if_pos hc] at hk
      have hr9 := valid_in hI (by omega) ha
      rw [w32_id (by omega)] at hr
      unfold intoF at hr
      by_cases hz : a = 0
      · rw [if_pos hz] at hr; cases hr
      · rw [if_neg hz, if_neg (by decide)] at hr
        split at hr
        · cases hr
        rw [if_neg (by decide)] at hr
        by_cases hx : b < 0 ∨ M 61 a ≤ b
        · rw [if_pos hx] at hr; cases hr
        · rw [if_neg hx] at hr
          have h61 := hI.2.2.2.2.2.2.2.2.2.2.1 a hr9.1 (by omega)
          rw [w32_id (by omega)] at hr
          have hy := need_v hr
          obtain ⟨d1, d2, d3⟩ := due_elem hI hC (n := b) hc.1 (by omega) ha hz
          right
          have h9 := (hC.2.2.2.2.2 a b d1.1 (by omega) (by omega) (by omega)).1 (by omega)
          rw [d3, ← hk] at h9
          rw [← hy]
          exact h9
    · rw [if_neg hc] at hk; omega
theorem land_ch (x : Int) : 0 ≤ o_land x 65535 ∧ o_land x 65535 ≤ 65535 ∧ o_land x 65535 = x % 65536 := by
  have h2 : (Int64.ofInt x).toBitVec.toNat = (x % ((2 ^ 64 : Nat) : Int)).toNat := BitVec.toNat_ofInt ..
  have e : ((Int64.ofInt x) &&& (Int64.ofInt 65535)).toBitVec.toNat = (x % ((2 ^ 64 : Nat) : Int)).toNat % 2 ^ 16 := by
    rw [Int64.toBitVec_and, BitVec.toNat_and, h2, show (Int64.ofInt 65535).toBitVec.toNat = 2 ^ 16 - 1 from rfl, Nat.and_two_pow_sub_one_eq_mod]
  have e2 : o_land x 65535 = ((((Int64.ofInt x) &&& (Int64.ofInt 65535)).toBitVec.toNat : Nat) : Int) := by
    show BitVec.toInt _ = _
    exact BitVec.toInt_eq_toNat_of_lt (by rw [e]; omega)
  rw [e] at e2
  omega
theorem ty_fit (hI : TI M) (hC : CI M) {o : Int} (ho : o = 63 ∨ o = 64) (hv : 0 ≤ v ∧ v < 17) (hk : k = kchk M o v ka kb kc) (h0 : 0 ≤ k) (ha : validB M ka a = true) (hr : fitF M o v a ka = (0, y)) : validB M k (if k = 0 then w32 y else y) = true := by
  refine ty_nr ?_
  have h12 := hI.2.1
  rcases ho with rfl | rfl
  · rw [kc_63] at hk
    split at hk
    · right
      rw [hk]
      refine ty3 ?_
      unfold fitF toK at hr
      rw [if_pos rfl, if_neg (by omega)] at hr
      split at hr
      · rw [if_pos rfl] at hr
        cases hr
        split
        · exact Or.inl rfl
        · exact Or.inr rfl
      · split at hr
        · cases hr
        · rw [if_pos rfl] at hr
          cases hr
          have := b2i_in (suitsB M (M 60 (w32 a)) (4 + v))
          omega
    · omega
  · rw [kc_64] at hk
    by_cases hc : isKindB (M 55 0) v = true ∧ ((ka < 3 ∧ v < 3) ∨ (ka = 3 ∧ v = 3) ∨ relB M ka v = true)
    · rw [if_pos hc] at hk
      subst hk
      unfold fitF toK at hr
      rw [if_neg (show ¬ (64 : Int) = 63 by decide)] at hr
      by_cases h4 : k < 4
      · rw [if_pos h4] at hr
        cases hr
        rcases (show k = 0 ∨ k = 1 ∨ k = 2 ∨ k = 3 by omega) with rfl | rfl | rfl | rfl
        · left; rfl
        · right; exact val_1
        · right
          rw [if_pos rfl, val_2]
          have := land_ch a
          exact decide_eq_true (by omega)
        · right
          have hka : ka = 3 := by
            rcases hc.2 with h | h | h
            · omega
            · exact h.1
            · have := (rel_e.mp h).1; omega
          rw [hka] at ha
          exact ha
      · rw [if_neg h4] at hr
        have hrel : relB M ka k = true := by
          rcases hc.2 with h | h | h
          · omega
          · omega
          · exact h
        have hka := (rel_e.mp hrel).1
        have hr9 := valid_in hI hka.1 ha
        right
        by_cases h5 : a = 0 ∨ suitsB M ka k = true
        · rw [if_pos h5, if_neg (show ¬ (64 : Int) = 63 by decide)] at hr
          cases hr
          rcases h5 with h5 | h5
          · exact (val_r hka.2).mpr (Or.inl h5)
          · exact valid_up hI hC hka.1 hka.2 ha h5
        · rw [if_neg h5] at hr
          split at hr
          · cases hr
          · rw [if_neg (show ¬ (64 : Int) = 63 by decide)] at hr
            split at hr
            · rename_i h6
              cases hr
              rw [w32_id (by omega)] at h6
              exact (val_r hka.2).mpr (Or.inr ⟨by omega, h6⟩)
            · cases hr
    · rw [if_neg hc] at hk; omega
theorem ty_cho (hI : TI M) (hC : CI M) (hk : k = kchk M 65 v ka kb kc) (h0 : 0 ≤ k) (hb0 : 0 ≤ kb) (hc0 : 0 ≤ kc) (hb : validB M kb y = true ∨ validB M kc y = true) : validB M k (if k = 0 then w32 y else y) = true := by
  refine ty_nr ?_
  rw [kc_65] at hk
  by_cases h3 : ka = 3
  · rw [if_pos h3] at hk
    unfold eithV at hk
    by_cases e : kb = kc
    · rw [if_pos e] at hk
      rw [hk]; rw [← e] at hb; right; exact hb.elim id id
    rw [if_neg e] at hk
    by_cases e2 : kb < 3 ∧ kc < 3
    · rw [if_pos e2] at hk
      unfold comV at hk
      split at hk
      · right; rw [hk]; exact val_1
      · left; exact hk
    rw [if_neg e2] at hk
    by_cases e3 : relB M kb kc = true
    · rw [if_pos e3] at hk
      have hr := rel_e.mp e3
      right
      by_cases e4 : suitsB M kb kc = true
      · rw [if_pos e4] at hk
        rw [hk]
        rcases hb with hb | hb
        · exact valid_up hI hC hr.1.1 hr.1.2 hb e4
        · exact hb
      · rw [if_neg e4] at hk
        rw [hk]
        rcases hb with hb | hb
        · exact hb
        · exact valid_up hI hC hr.1.2 hr.1.1 hb (hr.2.resolve_left e4)
    · rw [if_neg e3] at hk; omega
  · rw [if_neg h3] at hk; omega
end TY
