/-- the nodes are in order: operands before the node -/
def wfN (M : Mem) : Prop := (0 ≤ M 84 0 ∧ M 84 0 < M 55 28 ∧ M 55 28 ≤ 32) ∧ ∀ n, 0 ≤ n → n < M 55 28 → nodeO (M 76 n) ∧ nodeC M n ∧ (8 ≤ M 76 n → M 77 n < n ∧ M 78 n < n) ∧ (M 76 n = 65 → M 79 n < n)
theorem lack_in {M : Mem} {n : Int} (h : wfN M) (h0 : 0 ≤ n) (hn : n < M 55 28) (hl : ¬ lackM M n < 0) : lackM M n < n ∧ M 82 (lackM M n) = 0 := by
  obtain ⟨h1, h2, h3, h4⟩ := h.2 n h0 hn
  unfold lackM at hl ⊢
  grind
def dscF (M : Mem) : Nat → Int → Int
  | 0, n => n
  | f + 1, n => if lackM M n < 0 then n else dscF M f (lackM M n)
def workL (root : Int) : Nat → Mem → Int × Int × Mem
  | 0, M => (2, 0, M)
  | f + 1, M => if ¬ M 82 root = 0 then (2, 0, M) else if (cmpF M (dscF M 32 root)).1 = 0 then workL root f (setM M (dscF M 32 root) (cmpF M (dscF M 32 root)).2)
    else if (cmpF M (dscF M 32 root)).1 = 1 then (1, (cmpF M (dscF M 32 root)).2, M) else (3, (cmpF M (dscF M 32 root)).2, mset M 55 46 (cmpF M (dscF M 32 root)).2)
section EQX
variable {A B : Mem}
theorem eqX_c (h : eqX A B) {c : Nat} (hc : c ≠ 55) : B c = A c := by
  funext i; exact h c i (fun e => hc e.1)
theorem eqX_f (h : eqX A B) {i : Int} (hi : i ≠ 47) : B 55 i = A 55 i := h 55 i (fun e => hi e.2)
theorem lackM_eqX (h : eqX A B) (n : Int) : lackM B n = lackM A n := by
  unfold lackM; rw [eqX_c h (c := 76) (by decide), eqX_c h (c := 77) (by decide), eqX_c h (c := 78) (by decide), eqX_c h (c := 79) (by decide), eqX_c h (c := 82) (by decide), eqX_c h (c := 83) (by decide)]
theorem dscF_eqX (h : eqX A B) : ∀ (f : Nat) (n : Int), dscF B f n = dscF A f n := by
  intro f
  induction f with
  | zero => intro n; rfl
  | succ f ih => intro n; unfold dscF; rw [lackM_eqX h, ih]
theorem suitsB_eqX (h : eqX A B) (a b : Int) : suitsB B a b = suitsB A a b := by
  unfold suitsB isAm; rw [eqX_c h (c := 56) (by decide)]
theorem needF_eqX (h : eqX A B) (p v : Int) : needF B p v = needF A p v := by
  unfold needF; rw [eqX_c h (c := 71) (by decide)]
theorem cmpF_eqX (h : eqX A B) (n : Int) : cmpF B n = cmpF A n := by
  unfold cmpF intoF fitF
  simp only [suitsB_eqX h, needF_eqX h, eqX_c h (c := 76) (by decide), eqX_c h (c := 77) (by decide), eqX_c h (c := 78) (by decide), eqX_c h (c := 79) (by decide), eqX_c h (c := 80) (by decide), eqX_c h (c := 81) (by decide), eqX_c h (c := 83) (by decide), eqX_c h (c := 59) (by decide), eqX_c h (c := 60) (by decide), eqX_c h (c := 61) (by decide), eqX_c h (c := 62) (by decide), eqX_c h (c := 71) (by decide)]
def wQ (R R' : Int × Int × Mem) : Prop := R'.1 = R.1 ∧ R'.2.1 = R.2.1 ∧ eqX R.2.2 R'.2.2
theorem workL_eqX (root : Int) : ∀ (f : Nat) {A B : Mem}, eqX A B → wQ (workL root f A) (workL root f B) := by
  intro f
  induction f with
  | zero => intro A B h; exact ⟨rfl, rfl, h⟩
  | succ f ih =>
    intro A B h
    unfold workL
    rw [dscF_eqX h, cmpF_eqX h, eqX_c h (c := 82) (by decide)]
    split
    · exact ⟨rfl, rfl, h⟩
    split
    · exact ih (eqX_set h)
    split
    · exact ⟨rfl, rfl, h⟩
    · exact ⟨rfl, rfl, eqX_mset h⟩
end EQX
theorem wQ_tr {A B C : Int × Int × Mem} (h : wQ A B) (h2 : wQ B C) : wQ A C := ⟨h2.1.trans h.1, h2.2.1.trans h.2.1, eqX_tr h.2.2 h2.2.2⟩
theorem workL_d {root : Int} {f : Nat} {M : Mem} (h : ¬ M 82 root = 0) : workL root f M = (2, 0, M) := by cases f <;> simp [workL, h]
theorem workL_v {root n v : Int} {f : Nat} {M : Mem} (h : M 82 root = 0) (hn : dscF M 32 root = n) (hc : cmpF M n = (0, v)) : workL root (f + 1) M = workL root f (setM M n v) := by simp [workL, h, hn, hc]
theorem workL_p {root n v : Int} {f : Nat} {M : Mem} (h : M 82 root = 0) (hn : dscF M 32 root = n) (hc : cmpF M n = (1, v)) : workL root (f + 1) M = (1, v, M) := by simp [workL, h, hn, hc]
theorem workL_t {root n v : Int} {f : Nat} {M : Mem} (h : M 82 root = 0) (hn : dscF M 32 root = n) (hc : cmpF M n = (2, v)) : workL root (f + 1) M = (3, v, mset M 55 46 v) := by simp [workL, h, hn, hc]
def clrM (M : Mem) (k : Int) : Mem := fun c i => if c = 82 ∧ 0 ≤ i ∧ i < k then 0 else M c i
theorem clrM_0 {M : Mem} : clrM M 0 = M := by
  funext c i; unfold clrM; rw [if_neg (by omega)]
theorem clrM_s {M : Mem} {k : Int} (h : 0 ≤ k) : mset (clrM M k) 82 k 0 = clrM M (k + 1) := by
  funext c i; unfold clrM mset; grind
def work0 (M : Mem) : Mem := mset (mset (clrM M (M 55 28)) 55 46 0) 55 47 (-1)
/-- what holds while the nodes are worked out -/
def WInv (I : Mem → Prop) : Prop :=
  (∀ M, I M → wfN M ∧ okP M ∧ (∀ j, 0 ≤ j → j ≤ 12 → 0 ≤ M 61 j ∧ M 61 j ≤ 5) ∧ (∀ j, 0 ≤ j → j ≤ 12 → 0 ≤ M 60 j ∧ M 60 j < 18))
  ∧ (∀ M n, I M → 0 ≤ n → n < M 55 28 → lackM M n < 0 → nodeD M n)
  ∧ (∀ M M' n v, I M → 0 ≤ n → n < M 55 28 → lackM M n < 0 → cmpF M n = (0, v) → eqX (setM M n v) M' → I M')
def workQ (M : Mem) (r : Option PV) (M' : Mem) : Prop := r = some (vi (workL (M 84 0) 1000 (work0 M)).1) ∧ eqX (workL (M 84 0) 1000 (work0 M)).2.2 M' ∧ ((workL (M 84 0) 1000 (work0 M)).1 = 1 → M' 55 47 = (workL (M 84 0) 1000 (work0 M)).2.1 ∧ 0 ≤ M' 55 47 ∧ M' 55 47 < 423)
