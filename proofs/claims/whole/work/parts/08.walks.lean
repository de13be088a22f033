/-! helpers of the printed walks -/
section GP
variable {X : WX} {g : SG} {d k0 kE : Nat} {y : MethodName} {cc : ByteArray} {nL : Nat} {ret : Option FieldType} {Q : Option PV → Mem → Prop} {pc : Nat} {ls : List (Nat × PV)} {st : List PV} {K : Nat} {M : Mem}
theorem G_pc {pc' : Nat} (h : pc = pc') (k : G X g d k0 kE y cc nL ret Q pc' ls st K M) : G X g d k0 kE y cc nL ret Q pc ls st K M := h ▸ k
theorem G_ps {pc' : Nat} {st' : List PV} (h : pc = pc') (h2 : st = st') (k : G X g d k0 kE y cc nL ret Q pc' ls st' K M) : G X g d k0 kE y cc nL ret Q pc ls st K M := h ▸ h2 ▸ k
theorem G_M {M' : Mem} (h : M = M') (k : G X g d k0 kE y cc nL ret Q pc ls st K M') : G X g d k0 kE y cc nL ret Q pc ls st K M := h ▸ k
theorem G_all {pc' : Nat} {ls' : List (Nat × PV)} {st' : List PV} {M' : Mem} (h : pc = pc') (h1 : ls = ls') (h2 : st = st') (h3 : M = M') (k : G X g d k0 kE y cc nL ret Q pc' ls' st' K M') : G X g d k0 kE y cc nL ret Q pc ls st K M := by
  subst h; subst h1; subst h2; subst h3; exact k
/-- fewer locals, in another order -/
theorem G_ls {ls' : List (Nat × PV)} (h : ∀ q ∈ ls', q ∈ ls) (k : G X g d k0 kE y cc nL ret Q pc ls' st K M) : G X g d k0 kE y cc nL ret Q pc ls st K M := by
  intro p l e R s m args below meth c H locs arr cells slots Tg C hH hS hl hlv
  exact k p l e R s m args below meth c H locs arr cells slots Tg C hH hS ⟨hl.1, hl.2.1, fun q hq => by
    obtain ⟨r, hr, rfl⟩ := List.mem_map.mp hq
    exact hl.2.2 _ (List.mem_map.mpr ⟨r, h r hr, rfl⟩)⟩ (fun q hq => hlv q (h q hq))
theorem G_Q {Q' : Option PV → Mem → Prop} (h : ∀ r M', Q' r M' → Q r M') (k : G X g d k0 kE y cc nL ret Q' pc ls st K M) : G X g d k0 kE y cc nL ret Q pc ls st K M := by
  intro p l e R s m args below meth c H locs arr cells slots Tg C hH hS hl hlv hsv hc hs hK hend
  exact k p l e R s m args below meth c H locs arr cells slots Tg C hH hS hl hlv hsv hc hs hK (fun r M' H' locs' arr' pc' hQ => hend r M' H' locs' arr' pc' (h r M' hQ))
theorem G_putL {idx o c k : Nat} {x ki : Int} {w : PV} (hd : decode cc pc = .ok (.putfield idx, 3)) (hl : Cond.fieldLink y.cls idx (cT c k).1 (cT c k).2.1 (cT c k).2.2.1 ∈ UW) (hki : (k : Int) = ki) (hkd : kd o = .inl c) (hk : k < cN c) (hoK : o < K) (hK9 : K ≤ 1000) (hfin : (cT c k).2.2.2 = false) (hg : g o k = none) (hx : tok (cTy c k) x) (hw : mkv (cTy c k) x = w) (kk : G X g d k0 kE y cc nL ret Q (pc + 3) ls st K (mset M o ki x)) : G X g d k0 kE y cc nL ret Q pc ls (w :: vr (o : Int) :: st) K M := by
  subst hki
  exact G_put hd hl hkd hk hoK hK9 hfin hg hx hw kk
theorem G_putFL {idx o c k : Nat} {x ki : Int} {w : PV} (hd : decode cc pc = .ok (.putfield idx, 3)) (hl : Cond.fieldLink y.cls idx (cT c k).1 (cT c k).2.1 (cT c k).2.2.1 ∈ UW) (hki : (k : Int) = ki) (hkd : kd o = .inl c) (hk : k < cN c) (hoK : o < K) (hK9 : K ≤ 1000) (hfin : (cT c k).2.2.2 = true) (hini : y.name = "<init>") (hdecl : (cT c k).1 = y.cls) (hg : g o k = none) (hx : tok (cTy c k) x) (hw : mkv (cTy c k) x = w) (kk : G X g d k0 kE y cc nL ret Q (pc + 3) ls st K (mset M o ki x)) : G X g d k0 kE y cc nL ret Q pc ls (w :: vr (o : Int) :: st) K M := by
  subst hki
  exact G_putF hd hl hkd hk hoK hK9 hfin hini hdecl hg hx hw kk
end GP
theorem tokI {x : Int} (h : -2147483648 ≤ x ∧ x < 2147483648) : tok .int x := h
theorem tokZ {x : Int} (h : 0 ≤ x ∧ x ≤ 1) : tok .boolean x := h
theorem tokC {x : Int} (h : 0 ≤ x ∧ x < 65536) : tok .char x := h
theorem tokB {x : Int} (h : -128 ≤ x ∧ x < 128) : tok .byte x := h
theorem tokJ {x : Int} (h : -9223372036854775808 ≤ x ∧ x < 9223372036854775808) : tok .long x := h
theorem tokO {x : Int} {n : String} (h : 0 ≤ x) : tok (.object n) x := h
theorem tokA {x : Int} {t : FieldType} (h : 0 ≤ x) : tok (.array t) x := h
theorem tok_i {x : Int} (h : tok .int x) : -2147483648 ≤ x ∧ x < 2147483648 := h
theorem tok_l {x : Int} (h : tok .long x) : -9223372036854775808 ≤ x ∧ x < 9223372036854775808 := h
theorem tok_c {x : Int} (h : tok .char x) : 0 ≤ x ∧ x < 65536 := h
theorem tok_z {x : Int} (h : tok .boolean x) : 0 ≤ x ∧ x ≤ 1 := h
theorem gt_arr {o : Nat} (h : gtl.getD o [] = []) (i : Int) : gt o i = none := by
  unfold gt
  cases i with
  | ofNat n => simp only [h]; rfl
  | negSucc n => rfl
def b2i (b : Bool) : Int := if b then 1 else 0
theorem b2i_t {b : Bool} (h : b = true) : b2i b = 1 := by rw [h]; rfl
theorem b2i_f {b : Bool} (h : b = false) : b2i b = 0 := by rw [h]; rfl
theorem b2i_in (b : Bool) : 0 ≤ b2i b ∧ b2i b ≤ 1 := by cases b <;> decide
theorem b2i_0 {b : Bool} : b2i b = 0 ↔ b = false := by cases b <;> decide
theorem b2i_1 {b : Bool} : b2i b = 1 ↔ b = true := by cases b <;> decide
theorem b2i_nz {b : Bool} : ¬ b2i b = 0 ↔ b = true := by cases b <;> decide
theorem ret_t {b : Bool} {M M' : Mem} (h : b = true) (hM : M' = M) : (some (vi 1) : Option PV) = some (vi (b2i b)) ∧ M' = M := ⟨by rw [h]; rfl, hM⟩
theorem ret_f {b : Bool} {M M' : Mem} (h : b = false) (hM : M' = M) : (some (vi 0) : Option PV) = some (vi (b2i b)) ∧ M' = M := ⟨by rw [h]; rfl, hM⟩
theorem ret_e {x z : Int} {M M' : Mem} (h : x = z) (hM : M' = M) : (some (vi x) : Option PV) = some (vi z) ∧ M' = M := ⟨by rw [h], hM⟩
theorem ret_l {x z : Int} {M M' : Mem} (h : x = z) (hM : M' = M) : (some (vl x) : Option PV) = some (vl z) ∧ M' = M := ⟨by rw [h], hM⟩
theorem ext_lt {P : Int → Prop} {c : Int} (h : ∀ j, 0 ≤ j → j < c → P j) (hc : P c) : ∀ j, 0 ≤ j → j < c + 1 → P j := by
  intro j h1 h2
  by_cases hj : j = c
  · rw [hj]; exact hc
  · exact h j h1 (by omega)
