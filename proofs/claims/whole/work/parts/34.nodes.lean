/-- a good node at place i -/
def ndOK (i : Int) (x : ND) : Prop := nodeO x.1 ∧ (8 ≤ x.1 → (0 ≤ x.2.1 ∧ x.2.1 < i) ∧ x.2.2.1 < i) ∧ ((8 ≤ x.1 ∧ x.1 < 60) ∨ x.1 = 62 ∨ x.1 = 65 → 0 ≤ x.2.2.1) ∧ (x.1 = 65 → 0 ≤ x.2.2.2.1 ∧ x.2.2.2.1 < i) ∧ (x.1 = 7 ∨ x.1 = 60 → 0 ≤ x.2.2.2.2 ∧ x.2.2.2.2 < 26) ∧ (x.1 = 63 → 0 ≤ x.2.2.2.2 ∧ x.2.2.2.2 < 6) ∧ (x.1 = 64 → 0 ≤ x.2.2.2.2 ∧ x.2.2.2.2 < 17)
def allN (N : List ND) : Prop := ∀ (i : Nat) (x : ND), N[i]? = some x → ndOK i x
def allO (n : Int) (O : List Int) : Prop := ∀ x ∈ O, 0 ≤ x ∧ x < n
def pOK (p : Int × Int) : Prop := (100 < p.1 → p.1 ≤ 147) ∧ (p.1 = 64 → 0 ≤ p.2 ∧ p.2 < 17)
def goodS : PSt → Prop
  | (N, O, P, _, _, _) => allN N ∧ allO N.length O ∧ ∀ p ∈ P, pOK p
theorem allN_add {N : List ND} {x : ND} (h : allN N) (hx : ndOK N.length x) : allN (N ++ [x]) := by
  intro i y hy
  by_cases hi : i < N.length
  · rw [List.getElem?_append_left hi] at hy; exact h i y hy
  · rw [List.getElem?_append_right (by omega)] at hy
    by_cases h0 : i - N.length = 0
    · rw [h0] at hy; cases hy; rw [show i = N.length by omega]; exact hx
    · rw [show i - N.length = (i - N.length - 1) + 1 by omega] at hy; simp at hy
theorem allO_up {n m : Int} {O : List Int} (h : allO n O) (hm : n ≤ m) : allO m O := fun x hx => ⟨(h x hx).1, by have := (h x hx).2; omega⟩
theorem allO_new {N : List ND} {x : ND} {O : List Int} (h : allO N.length O) : allO (N ++ [x]).length ((N.length : Int) :: O) := by
  intro y hy
  rcases List.mem_cons.mp hy with rfl | hy
  · simp; omega
  · have := h y hy; simp; omega
theorem allO_drop {n : Int} {O : List Int} (h : allO n O) (k : Nat) : allO n (O.drop k) := fun x hx => h x (List.mem_of_mem_drop hx)
theorem nodeO_bd {t : Int} (h : 0 < bdV t) : nodeO t ∧ 8 ≤ t ∧ t < 60 := by
  unfold bdV at h; unfold nodeO; grind (splits := 40)
theorem good_red {least : Int} : ∀ {P : List (Int × Int)} {N : List ND} {O : List Int} {o a cl : Int}, goodS (N, O, P, o, a, cl) → O.length = 1 + arP P → goodS (redS least (N, O, P, o, a, cl)) := by
  intro P
  induction P with
  | nil => intro N O o a cl h _; exact h
  | cons x P ih =>
    obtain ⟨t, k⟩ := x
    intro N O o a cl h hA
    obtain ⟨h1, h2, h3⟩ := h
    have hA' : O.length = 1 + (arW t + arP P) := hA
    have hp : pOK (t, k) := h3 _ (List.mem_cons_self ..)
    have h3' : ∀ p ∈ P, pOK p := fun p hp => h3 p (List.mem_cons_of_mem _ hp)
    by_cases hr : redB least t = true
    · by_cases hS : isS t = true
      · have haw : arW t = 0 := arW_s hS
        obtain ⟨x1, O, rfl⟩ := cons1 (show 1 ≤ O.length by omega)
        have e : redS least (N, x1 :: O, (t, k) :: P, o, a, cl) = redS least (N ++ [(t, x1, -1, -1, k)], (N.length : Int) :: O, P, o, a, cl) := by simp only [redS, redL_1 hS]
        rw [e]
        have hx := h2 x1 (List.mem_cons_self ..)
        have hS2 : 100 < t ∨ t = 64 := by unfold isS at hS; simpa using hS
        refine ih ⟨allN_add h1 ?_, allO_new (fun y hy => h2 y (List.mem_cons_of_mem _ hy)), h3'⟩ (by simp at hA' ⊢; omega)
        unfold ndOK nodeO
        have h64 := hp.2
        simp only at h64 ⊢
        refine ⟨by omega, fun _ => ⟨hx, by omega⟩, fun e => by omega, fun e => by omega, fun e => by omega, fun e => by omega, fun e => h64 e⟩
      · rcases (show (t = 26 ∧ least = 0) ∨ (least ≤ bdV t ∧ 0 < bdV t) by unfold redB at hr; simp [hS] at hr; omega) with ⟨h26, hl0⟩ | ⟨hb1, hb2⟩
        · have haw : arW t = 2 := by rw [h26]; decide
          obtain ⟨x3, x2, x1, O, rfl⟩ := cons3 (show 3 ≤ O.length by omega)
          have e : redS least (N, x3 :: x2 :: x1 :: O, (t, k) :: P, o, a, cl) = redS least (N ++ [(65, x1, x2, x3, 0)], (N.length : Int) :: O, P, o, a, cl) := by simp only [redS, redL_3 h26 hl0]
          rw [e]
          have hx3 := h2 x3 (by simp); have hx2 := h2 x2 (by simp); have hx1 := h2 x1 (by simp)
          refine ih ⟨allN_add h1 ?_, allO_new (fun y hy => h2 y (by simp [hy])), h3'⟩ (by simp at hA' ⊢; omega)
          unfold ndOK nodeO
          simp only
          refine ⟨by omega, fun _ => ⟨hx1, by omega⟩, fun e => by omega, fun e => by omega, fun e => by omega, fun e => by omega, fun e => by omega⟩
        · obtain ⟨hn1, hn2, hn3⟩ := nodeO_bd hb2
          have haw : arW t = 1 := bdV_ar (by omega)
          obtain ⟨x2, x1, O, rfl⟩ := cons2 (show 2 ≤ O.length by omega)
          have e : redS least (N, x2 :: x1 :: O, (t, k) :: P, o, a, cl) = redS least (N ++ [(t, x1, x2, -1, k)], (N.length : Int) :: O, P, o, a, cl) := by simp only [redS, redL_2 hS hb1 hb2]
          rw [e]
          have hx2 := h2 x2 (by simp); have hx1 := h2 x1 (by simp)
          refine ih ⟨allN_add h1 ?_, allO_new (fun y hy => h2 y (by simp [hy])), h3'⟩ (by simp at hA' ⊢; omega)
          unfold ndOK
          simp only
          refine ⟨hn1, fun _ => ⟨hx1, by omega⟩, fun e => by omega, fun e => by omega, fun e => by omega, fun e => by omega, fun e => by omega⟩
    · have e : redS least (N, O, (t, k) :: P, o, a, cl) = (N, O, (t, k) :: P, o, a, cl) := by simp only [redS, reduceL_n hr]
      rw [e]; exact ⟨h1, h2, h3⟩
