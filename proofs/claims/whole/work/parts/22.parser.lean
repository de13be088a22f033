/-- a node: its code, its operands, its number -/
abbrev ND := Int × Int × Int × Int × Int
def pcell (c : Nat) (i : Int) : Prop := (76 ≤ c ∧ c ≤ 80) ∨ (84 ≤ c ∧ c ≤ 86) ∨ (c = 55 ∧ (i = 28 ∨ i = 37 ∨ i = 39 ∨ i = 42 ∨ i = 43 ∨ i = 44 ∨ i = 45))
def frP (M0 M : Mem) : Prop := ∀ c i, ¬ pcell c i → M c i = M0 c i
def ndk (M : Mem) (N : List ND) : Prop := ∀ i : Nat, i < N.length → M 76 i = (N.getD i (0, 0, 0, 0, 0)).1 ∧ M 77 i = (N.getD i (0, 0, 0, 0, 0)).2.1 ∧ M 78 i = (N.getD i (0, 0, 0, 0, 0)).2.2.1 ∧ M 79 i = (N.getD i (0, 0, 0, 0, 0)).2.2.2.1 ∧ M 80 i = (N.getD i (0, 0, 0, 0, 0)).2.2.2.2
def stk (f : Int → Int) : List Int → Prop
  | [] => True
  | x :: r => f r.length = x ∧ stk f r
theorem stk_ext {f g : Int → Int} : ∀ {L : List Int}, stk f L → (∀ i, 0 ≤ i → i < L.length → g i = f i) → stk g L := by
  intro L
  induction L with
  | nil => intro _ _; trivial
  | cons x r ih => intro h hg; exact ⟨by rw [hg _ (by omega) (by simp)]; exact h.1, ih h.2 (fun i h0 h1 => hg i h0 (by simp; omega))⟩
def RP (M0 M : Mem) (N : List ND) (O : List Int) (P : List (Int × Int)) (o a cl w : Int) : Prop :=
  frP M0 M ∧ (M 55 28 = N.length ∧ ndk M N) ∧ (M 55 37 = O.length ∧ stk (M 84) O) ∧ (M 55 39 = P.length ∧ stk (M 85) (P.map Prod.fst) ∧ stk (M 86) (P.map Prod.snd)) ∧ M 55 42 = o ∧ M 55 43 = a ∧ M 55 45 = cl ∧ M 55 44 = w
section RP
variable {M0 M : Mem} {N : List ND} {O : List Int} {P : List (Int × Int)} {o a cl w : Int}
theorem frP_set {c : Nat} {i x : Int} (h : frP M0 M) (hc : pcell c i) : frP M0 (mset M c i x) := by
  intro c' i' h'
  unfold mset
  rw [if_neg (by rintro ⟨rfl, rfl⟩; exact h' hc)]
  exact h c' i' h'
theorem RP_push {n : Int} (h : RP M0 M N O P o a cl w) : RP M0 (pushM M n) N (n :: O) P o a cl w := by
  obtain ⟨h1, h2, ⟨h3, h4⟩, h5, h6, h7, h8, h9⟩ := h
  refine ⟨frP_set (frP_set h1 (by simp [pcell])) (by simp [pcell]), h2, ⟨?_, ?_, ?_⟩, h5, h6, h7, h8, h9⟩
  · show M 55 37 + 1 = _; rw [h3]; simp
  · show (if (84 : Nat) = 84 ∧ (O.length : Int) = M 55 37 then n else M 84 O.length) = n; rw [if_pos ⟨rfl, h3.symm⟩]
  · refine stk_ext h4 (fun i h0 hi => ?_)
    show (if (84 : Nat) = 84 ∧ i = M 55 37 then n else M 84 i) = M 84 i
    rw [if_neg (by omega)]
theorem RP_pop {x : Int} (h : RP M0 M N (x :: O) P o a cl w) : M 84 (M 55 37 - 1) = x ∧ RP M0 (popM M) N O P o a cl w := by
  obtain ⟨h1, h2, ⟨h3, h4, h4'⟩, h5, h6, h7, h8, h9⟩ := h
  have e : M 55 37 - 1 = O.length := by rw [h3]; simp
  refine ⟨by rw [e]; exact h4, frP_set h1 (by simp [pcell]), h2, ⟨?_, h4'⟩, h5, h6, h7, h8, h9⟩
  exact e
theorem RP_node {x y z v t : Int} (h : RP M0 M N O P o a cl w) : RP M0 (nodeM M x y z v t) (N ++ [(x, y, z, v, t)]) O P o a cl w := by
  obtain ⟨h1, ⟨h2, h2'⟩, h3, h5, h6, h7, h8, h9⟩ := h
  refine ⟨frP_set (frP_set (frP_set (frP_set (frP_set (frP_set h1 (by simp [pcell])) (by simp [pcell])) (by simp [pcell])) (by simp [pcell])) (by simp [pcell])) (by simp [pcell]), ⟨?_, ?_⟩, h3, h5, h6, h7, h8, h9⟩
  · show M 55 28 + 1 = _; rw [h2]; simp
  · intro i hi
    rw [List.length_append, List.length_singleton] at hi
    show (if (76 : Nat) = 76 ∧ (i : Int) = M 55 28 then x else M 76 i) = _ ∧ (if (77 : Nat) = 77 ∧ (i : Int) = M 55 28 then y else M 77 i) = _ ∧ (if (78 : Nat) = 78 ∧ (i : Int) = M 55 28 then z else M 78 i) = _ ∧ (if (79 : Nat) = 79 ∧ (i : Int) = M 55 28 then v else M 79 i) = _ ∧ (if (80 : Nat) = 80 ∧ (i : Int) = M 55 28 then t else M 80 i) = _
    rw [h2]
    by_cases hj : i = N.length
    · subst hj; simp
    · have e : (N ++ [(x, y, z, v, t)]).getD i (0, 0, 0, 0, 0) = N.getD i (0, 0, 0, 0, 0) := by simp [List.getD_eq_getElem?_getD, List.getElem?_append_left (show i < N.length by omega)]
      rw [e, if_neg (by omega), if_neg (by omega), if_neg (by omega), if_neg (by omega), if_neg (by omega)]
      exact h2' i (by omega)
theorem RP_hold {x k : Int} (h : RP M0 M N O P o a cl w) : RP M0 (holdM M x k) N O ((x, k) :: P) o a cl w := by
  obtain ⟨h1, h2, h3, ⟨h4, h5, h5'⟩, h6, h7, h8, h9⟩ := h
  refine ⟨frP_set (frP_set (frP_set h1 (by simp [pcell])) (by simp [pcell])) (by simp [pcell]), h2, h3, ⟨?_, ⟨?_, ?_⟩, ?_, ?_⟩, h6, h7, h8, h9⟩
  · show M 55 39 + 1 = _; rw [h4]; simp
  · show (if (85 : Nat) = 85 ∧ (((P.map Prod.fst).length : Nat) : Int) = M 55 39 then x else M 85 _) = x; rw [if_pos ⟨rfl, by rw [h4]; simp⟩]
  · refine stk_ext h5 (fun i h0 hi => ?_)
    rw [List.length_map] at hi
    show (if (85 : Nat) = 85 ∧ i = M 55 39 then x else M 85 i) = M 85 i
    rw [if_neg (by omega)]
  · show (if (86 : Nat) = 86 ∧ (((P.map Prod.snd).length : Nat) : Int) = M 55 39 then k else M 86 _) = k; rw [if_pos ⟨rfl, by rw [h4]; simp⟩]
  · refine stk_ext h5' (fun i h0 hi => ?_)
    rw [List.length_map] at hi
    show (if (86 : Nat) = 86 ∧ i = M 55 39 then k else M 86 i) = M 86 i
    rw [if_neg (by omega)]
theorem RP_drop {x k : Int} (h : RP M0 M N O ((x, k) :: P) o a cl w) : M 85 (M 55 39 - 1) = x ∧ M 86 (M 55 39 - 1) = k ∧ topM M = x ∧ RP M0 (mset M 55 39 (M 55 39 - 1)) N O P o a cl w := by
  obtain ⟨h1, h2, h3, ⟨h4, ⟨h5, h5b⟩, h5', h5c⟩, h6, h7, h8, h9⟩ := h
  have e : M 55 39 - 1 = P.length := by rw [h4]; simp
  have e2 : M 85 (M 55 39 - 1) = x := by rw [e]; simpa using h5
  refine ⟨e2, by rw [e]; simpa using h5', ?_, frP_set h1 (by simp [pcell]), h2, h3, ⟨e, h5b, h5c⟩, h6, h7, h8, h9⟩
  unfold topM; rw [if_neg (by simp at h4; omega)]; exact e2
theorem RP_top0 (h : RP M0 M N O [] o a cl w) : topM M = 0 := by
  obtain ⟨h1, h2, h3, ⟨h4, _⟩, _⟩ := h
  unfold topM; rw [if_pos (by simpa using h4)]
theorem RP_retop {x x' k : Int} (h : RP M0 M N O ((x, k) :: P) o a cl w) : RP M0 (mset M 85 (M 55 39 - 1) x') N O ((x', k) :: P) o a cl w := by
  obtain ⟨h1, h2, h3, ⟨h4, ⟨h5, h5b⟩, h5', h5c⟩, h6, h7, h8, h9⟩ := h
  have e : M 55 39 - 1 = P.length := by rw [h4]; simp
  refine ⟨frP_set h1 (by simp [pcell]), h2, h3, ⟨by show M 55 39 = _; rw [h4]; simp, ⟨?_, ?_⟩, h5', h5c⟩, h6, h7, h8, h9⟩
  · show (if (85 : Nat) = 85 ∧ (((P.map Prod.fst).length : Nat) : Int) = M 55 39 - 1 then x' else _) = x'
    rw [if_pos ⟨rfl, by rw [e]; simp⟩]
  · refine stk_ext h5b (fun i h0 hi => ?_)
    rw [List.length_map] at hi
    show (if (85 : Nat) = 85 ∧ i = M 55 39 - 1 then x' else M 85 i) = M 85 i
    rw [if_neg (by omega)]
theorem RP_o {x : Int} (h : RP M0 M N O P o a cl w) : RP M0 (mset M 55 42 x) N O P x a cl w := by
  obtain ⟨h1, h2, h3, h4, h6, h7, h8, h9⟩ := h
  exact ⟨frP_set h1 (by simp [pcell]), h2, h3, h4, rfl, h7, h8, h9⟩
theorem RP_a {x : Int} (h : RP M0 M N O P o a cl w) : RP M0 (mset M 55 43 x) N O P o x cl w := by
  obtain ⟨h1, h2, h3, h4, h6, h7, h8, h9⟩ := h
  exact ⟨frP_set h1 (by simp [pcell]), h2, h3, h4, h6, rfl, h8, h9⟩
theorem RP_cl {x : Int} (h : RP M0 M N O P o a cl w) : RP M0 (mset M 55 45 x) N O P o a x w := by
  obtain ⟨h1, h2, h3, h4, h6, h7, h8, h9⟩ := h
  exact ⟨frP_set h1 (by simp [pcell]), h2, h3, h4, h6, h7, rfl, h9⟩
theorem RP_w {x : Int} (h : RP M0 M N O P o a cl w) : RP M0 (mset M 55 44 x) N O P o a cl x := by
  obtain ⟨h1, h2, h3, h4, h6, h7, h8, h9⟩ := h
  exact ⟨frP_set h1 (by simp [pcell]), h2, h3, h4, h6, h7, h8, rfl⟩
theorem RP_N (h : RP M0 M N O P o a cl w) : M 55 28 = N.length := h.2.1.1
theorem RP_O (h : RP M0 M N O P o a cl w) : M 55 37 = O.length := h.2.2.1.1
theorem RP_P (h : RP M0 M N O P o a cl w) : M 55 39 = P.length := h.2.2.2.1.1
theorem RP_W (h : RP M0 M N O P o a cl w) : M 55 44 = w := h.2.2.2.2.2.2.2
theorem RP_C (h : RP M0 M N O P o a cl w) : M 55 45 = cl := h.2.2.2.2.2.2.1
theorem RP_A (h : RP M0 M N O P o a cl w) : M 55 43 = a := h.2.2.2.2.2.1
theorem RP_OP (h : RP M0 M N O P o a cl w) : M 55 42 = o := h.2.2.2.2.1
theorem RP_fr (h : RP M0 M N O P o a cl w) {c : Nat} {i : Int} (hc : ¬ pcell c i) : M c i = M0 c i := h.1 c i hc
end RP
def isS (t : Int) : Bool := decide (100 < t ∨ t = 64)
def redB (least t : Int) : Bool := isS t || decide ((least ≤ bdV t ∧ 0 < bdV t) ∨ (t = 26 ∧ least = 0))
def arW (t : Int) : Nat := if isS t = true then 0 else if t = 26 then 2 else if t = 20 then 0 else 1
def arP : List (Int × Int) → Nat
  | [] => 0
  | x :: r => arW x.1 + arP r
def redN (t k : Int) (O : List Int) : ND := if isS t = true then (t, O.getD 0 0, -1, -1, k) else if t = 26 then (65, O.getD 2 0, O.getD 1 0, O.getD 0 0, 0) else (t, O.getD 1 0, O.getD 0 0, -1, k)
def reduceL (least : Int) : List ND → List Int → List (Int × Int) → List ND × List Int × List (Int × Int)
  | N, O, [] => (N, O, [])
  | N, O, (t, k) :: P => if redB least t = true then reduceL least (N ++ [redN t k O]) ((N.length : Int) :: O.drop (arW t + 1)) P else (N, O, (t, k) :: P)
theorem reduceL_s {least t k : Int} {N : List ND} {O : List Int} {P : List (Int × Int)} (h : redB least t = true) : reduceL least N O ((t, k) :: P) = reduceL least (N ++ [redN t k O]) ((N.length : Int) :: O.drop (arW t + 1)) P := by simp [reduceL, h]
theorem reduceL_n {least t k : Int} {N : List ND} {O : List Int} {P : List (Int × Int)} (h : ¬ redB least t = true) : reduceL least N O ((t, k) :: P) = (N, O, (t, k) :: P) := by simp [reduceL, h]
