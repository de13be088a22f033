/-! THE LAW'S FRAME: the rows once more, with a fact about the state at the law's entry -/
def GL (Sc : State → Prop) (X : WX) (g : SG) (d k0 kE : Nat) (y : MethodName) (cc : ByteArray) (nL : Nat) (ret : Option FieldType) (pc : Nat) (ls : List (Nat × PV)) (st : List PV) (K : Nat) (M : Mem) : Prop :=
  ∀ (p : Program) (l : Launch) (e : Env) (R : Room) (s : State) (m : MethodId) (args : Array Value) (below : List Frame) (meth : Method) (c : Code) (H : Heap) (locs : List Loc) (arr : Array Slot) (cells slots : Nat) (Tg : State → Prop),
    Sc s → Ctx X d k0 kE y cc nL ret p R s m args meth c → HP X g K M H → va_S (own X) s.heap H locs → lv_has arr nL (lmap X ls) → (∀ q ∈ ls, vok q.2) → (∀ v ∈ st, vok v) → cells + k0 = K → slots + csz k0 = csz K → K ≤ kE →
    (∀ (H' : Heap) (locs' : List Loc) (arr' : Array Slot) (pc' : Nat), va_S (own X) s.heap H' locs' → decode cc pc' = .ok (.ireturn, 1) → W p l e R s m args below meth c H' locs' (kE - k0) (csz kE - csz k0) Tg (F0 m pc' arr' [.int 1])) →
    W p l e R s m args below meth c H locs cells slots Tg (F0 m pc arr (st.map (conc X.1)))
section GLr
variable {Sc : State → Prop} {X : WX} {g : SG} {d k0 kE : Nat} {y : MethodName} {cc : ByteArray} {nL : Nat} {ret : Option FieldType} {pc : Nat} {ls : List (Nat × PV)} {st : List PV} {K : Nat} {M : Mem}
variable {y2 : MethodName} {b2 : ByteArray} {nL2 n2 d2 K1 idx : Nat} {ret2 : Option FieldType} {Q2 : Option PV → Mem → Prop}
theorem L_go {pc' : Nat} {ls' : List (Nat × PV)} {st' : List PV}
    (h : ∀ {p : Program} {l : Launch} {e : Env} {R : Room} {s : State} {m : MethodId} {args : Array Value} {below : List Frame} {meth : Method} {c : Code} {H : Heap} {locs : List Loc} {arr : Array Slot} {cells slots : Nat} {Tg : State → Prop}, p.tables.exec = Jvm.exec → c.code = cc → Ctx X d k0 kE y cc nL ret p R s m args meth c → HP X g K M H → va_S (own X) s.heap H locs → lv_has arr nL (lmap X ls) → (∀ q ∈ ls, vok q.2) → (∀ v ∈ st, vok v) →
      ((∀ v ∈ st', vok v) → (∀ q ∈ ls', vok q.2) → ∀ arr', lv_has arr' nL (lmap X ls') → W p l e R s m args below meth c H locs cells slots Tg (F0 m pc' arr' (st'.map (conc X.1)))) → W p l e R s m args below meth c H locs cells slots Tg (F0 m pc arr (st.map (conc X.1))))
    (k : GL Sc X g d k0 kE y cc nL ret pc' ls' st' K M) : GL Sc X g d k0 kE y cc nL ret pc ls st K M := by
  intro p l e R s m args below meth c H locs arr cells slots Tg hSc C hH hS hl hlv hsv hc hs hK hend
  exact h C.1 C.2.1 C hH hS hl hlv hsv (fun h1 h2 arr' h3 => k p l e R s m args below meth c H locs arr' cells slots Tg hSc C hH hS h3 h2 h1 hc hs hK hend)
theorem L_rngl {i n : Nat} {x : Int} (hi : ls[i]? = some (n, vi x)) (k : -2147483648 ≤ x ∧ x < 2147483648 → GL Sc X g d k0 kE y cc nL ret pc ls st K M) : GL Sc X g d k0 kE y cc nL ret pc ls st K M := by
  intro p l e R s m args below meth c H locs arr cells slots Tg hSc C hH hS hl hlv hsv
  exact k (hlv _ (List.mem_of_getElem? hi)) p l e R s m args below meth c H locs arr cells slots Tg hSc C hH hS hl hlv hsv
theorem L_rng {i : Nat} {x : Int} (hi : st[i]? = some (vi x)) (k : -2147483648 ≤ x ∧ x < 2147483648 → GL Sc X g d k0 kE y cc nL ret pc ls st K M) : GL Sc X g d k0 kE y cc nL ret pc ls st K M := by
  intro p l e R s m args below meth c H locs arr cells slots Tg hSc C hH hS hl hlv hsv
  exact k (hsv _ (List.mem_of_getElem? hi)) p l e R s m args below meth c H locs arr cells slots Tg hSc C hH hS hl hlv hsv
theorem L_iconst {n : Int} (hd : decode cc pc = .ok (.iconst n, 1)) (hn : -2147483648 ≤ n ∧ n < 2147483648) (k : GL Sc X g d k0 kE y cc nL ret (pc + 1) ls (vi n :: st) K M) : GL Sc X g d k0 kE y cc nL ret pc ls st K M :=
  L_go (fun hx hb C hH hS hl hlv hsv kk => lv_iconst hx hb hd rfl (kk (vcons (v := vi n) hn hsv) hlv _ hl)) k
theorem L_bipush {n : Int} (hd : decode cc pc = .ok (.bipush n, 2)) (hn : -128 ≤ n ∧ n < 128) (k : GL Sc X g d k0 kE y cc nL ret (pc + 2) ls (vi n :: st) K M) : GL Sc X g d k0 kE y cc nL ret pc ls st K M :=
  L_go (fun hx hb C hH hS hl hlv hsv kk => lv_bipush hx hb hd (Int32.toInt_inj.mp (by rw [Int8.toInt_toInt32, i32_in (by omega)]; exact Int8.toInt_ofInt_of_le (by omega) (by omega))) (kk (vcons (v := vi n) (show -2147483648 ≤ n ∧ n < 2147483648 by omega) hsv) hlv _ hl)) k
theorem L_iload {i n len : Nat} {x : Int} (hd : (∃ k : Fin 4, (k : Nat) = i ∧ len = 1 ∧ decode cc pc = .ok (.iload_n k, 1)) ∨ (len = 2 ∧ decode cc pc = .ok (.iload i, 2))) (hi : ls[n]? = some (i, vi x)) (k : GL Sc X g d k0 kE y cc nL ret (pc + len) ls (vi x :: st) K M) : GL Sc X g d k0 kE y cc nL ret pc ls st K M := by
  refine L_go (fun hx hb C hH hS hl hlv hsv kk => ?_) k
  have hv : vok (vi x) := hlv _ (List.mem_of_getElem? hi)
  rcases hd with ⟨k, h1, rfl, h2⟩ | ⟨rfl, h2⟩
  · exact lv_iload_n hx hb h2 h1 (lget hi hl) (kk (vcons hv hsv) hlv _ hl)
  · exact lv_iload hx hb h2 (lget hi hl) (kk (vcons hv hsv) hlv _ hl)
theorem L_istore {i len : Nat} {x : Int} {ls' : List (Nat × PV)} (hd : (∃ k : Fin 4, (k : Nat) = i ∧ len = 1 ∧ decode cc pc = .ok (.istore_n k, 1)) ∨ (len = 2 ∧ decode cc pc = .ok (.istore i, 2))) (hi : i < nL) (hl' : pst1 ls i (vi x) = ls') (k : GL Sc X g d k0 kE y cc nL ret (pc + len) ls' st K M) : GL Sc X g d k0 kE y cc nL ret pc ls (vi x :: st) K M := by
  subst hl'
  refine L_go (fun hx hb C hH hS hl hlv hsv kk => ?_) k
  rcases hd with ⟨k, h1, rfl, h2⟩ | ⟨rfl, h2⟩
  · exact lv_istore_n hx hb h2 h1 hl hi (lmap_pst1 X ls i (vi x)).symm (fun ls9 h9 => kk (vtl hsv) (pst1_ok (vhd hsv) hlv) _ h9)
  · exact lv_istore hx hb h2 hl hi (lmap_pst1 X ls i (vi x)).symm (fun ls9 h9 => kk (vtl hsv) (pst1_ok (vhd hsv) hlv) _ h9)
theorem L_aload {i n len : Nat} {x : Int} (hd : (∃ k : Fin 4, (k : Nat) = i ∧ len = 1 ∧ decode cc pc = .ok (.aload_n k, 1)) ∨ (len = 2 ∧ decode cc pc = .ok (.aload i, 2))) (hi : ls[n]? = some (i, vr x)) (h0 : x ≠ 0) (k : GL Sc X g d k0 kE y cc nL ret (pc + len) ls (vr x :: st) K M) : GL Sc X g d k0 kE y cc nL ret pc ls st K M := by
  refine L_go (fun hx hb C hH hS hl hlv hsv kk => ?_) k
  have hv : vok (vr x) := hlv _ (List.mem_of_getElem? hi)
  have e : conc X.1 (vr x) = .ref (X.1 x.toNat) := by show (if x = 0 then Value.null else _) = _; rw [if_neg h0]
  have hg := lget hi hl
  rw [e] at hg
  have hk := kk (vcons hv hsv) hlv _ hl
  rw [List.map_cons, e] at hk
  rcases hd with ⟨k, h1, rfl, h2⟩ | ⟨rfl, h2⟩
  · exact lv_aload_n hx hb h2 h1 hg hk
  · exact lv_aload hx hb h2 hg hk
theorem L_astore {i len : Nat} {x : Int} {ls' : List (Nat × PV)} (hd : (∃ k : Fin 4, (k : Nat) = i ∧ len = 1 ∧ decode cc pc = .ok (.astore_n k, 1)) ∨ (len = 2 ∧ decode cc pc = .ok (.astore i, 2))) (h0 : x ≠ 0) (hi : i < nL) (hl' : pst1 ls i (vr x) = ls') (k : GL Sc X g d k0 kE y cc nL ret (pc + len) ls' st K M) : GL Sc X g d k0 kE y cc nL ret pc ls (vr x :: st) K M := by
  subst hl'
  refine L_go (fun hx hb C hH hS hl hlv hsv kk => ?_) k
  have e : conc X.1 (vr x) = .ref (X.1 x.toNat) := by show (if x = 0 then Value.null else _) = _; rw [if_neg h0]
  have h3 := lmap_pst1 X ls i (vr x)
  rw [e] at h3
  rw [List.map_cons, e]
  rcases hd with ⟨k, h1, rfl, h2⟩ | ⟨rfl, h2⟩
  · exact lv_astore_n hx hb h2 h1 hl hi h3.symm (fun ls9 h9 => kk (vtl hsv) (pst1_ok (vhd hsv) hlv) _ h9)
  · exact lv_astore hx hb h2 hl hi h3.symm (fun ls9 h9 => kk (vtl hsv) (pst1_ok (vhd hsv) hlv) _ h9)
theorem L_iinc {i n : Nat} {x z : Int} {ls' : List (Nat × PV)} (hd : decode cc pc = .ok (.iinc i z, 3)) (hn : ls[n]? = some (i, vi x)) (hi : i < nL) (hr : -2147483648 ≤ x + z ∧ x + z < 2147483648) (hl' : pst1 ls i (vi (x + z)) = ls') (k : GL Sc X g d k0 kE y cc nL ret (pc + 3) ls' st K M) : GL Sc X g d k0 kE y cc nL ret pc ls st K M := by
  subst hl'
  refine L_go (fun hx hb C hH hS hl hlv hsv kk => ?_) k
  refine lv_iinc hx hb hd hl (k := n) (x := Int32.ofInt x) (v := Int32.ofInt (x + z)) (by show (ls.map _)[n]? = _; rw [List.getElem?_map, hn]; rfl) (Int32.ofInt_add _ _).symm hi (lmap_pst1 X ls i (vi (x + z))).symm (fun ls9 h9 => kk hsv (pst1_ok hr hlv) _ h9)
theorem L_iadd {a b : Int} (hd : decode cc pc = .ok (.iadd, 1)) (hr : -2147483648 ≤ a + b ∧ a + b < 2147483648) (k : GL Sc X g d k0 kE y cc nL ret (pc + 1) ls (vi (a + b) :: st) K M) : GL Sc X g d k0 kE y cc nL ret pc ls (vi b :: vi a :: st) K M :=
  L_go (fun hx hb C hH hS hl hlv hsv kk => lv_iadd hx hb hd (by have h := kk (vcons (v := vi (a + b)) hr (vtl (vtl hsv))) hlv _ hl; simp only [List.map_cons, conc, Int32.ofInt_add] at h; exact h)) k
theorem L_isub {a b : Int} (hd : decode cc pc = .ok (.isub, 1)) (hr : -2147483648 ≤ a - b ∧ a - b < 2147483648) (k : GL Sc X g d k0 kE y cc nL ret (pc + 1) ls (vi (a - b) :: st) K M) : GL Sc X g d k0 kE y cc nL ret pc ls (vi b :: vi a :: st) K M :=
  L_go (fun hx hb C hH hS hl hlv hsv kk => lv_isub hx hb hd (by have h := kk (vcons (v := vi (a - b)) hr (vtl (vtl hsv))) hlv _ hl; simp only [List.map_cons, conc, Int32.ofInt_sub] at h; exact h)) k
theorem L_iand {a b : Int} (hd : decode cc pc = .ok (.iand, 1)) (k : GL Sc X g d k0 kE y cc nL ret (pc + 1) ls (vi (o_iand a b) :: st) K M) : GL Sc X g d k0 kE y cc nL ret pc ls (vi b :: vi a :: st) K M :=
  L_go (fun hx hb C hH hS hl hlv hsv kk => lv_iand hx hb hd  (by have h := kk (vcons (v := vi (o_iand a b)) (i32_rng _) (vtl (vtl hsv))) hlv _ hl; simp only [List.map_cons, conc, o_iand, Int32.ofInt_toInt] at h; exact h)) k
theorem L_lor {a b : Int} (hd : decode cc pc = .ok (.lor, 1)) (k : GL Sc X g d k0 kE y cc nL ret (pc + 1) ls (vl (o_lor a b) :: st) K M) : GL Sc X g d k0 kE y cc nL ret pc ls (vl b :: vl a :: st) K M :=
  L_go (fun hx hb C hH hS hl hlv hsv kk => lv_lor hx hb hd  (by have h := kk (vcons (v := vl (o_lor a b)) (i64_rng _) (vtl (vtl hsv))) hlv _ hl; simp only [List.map_cons, conc, o_lor, Int64.ofInt_toInt] at h; exact h)) k
theorem L_land {a b : Int} (hd : decode cc pc = .ok (.land, 1)) (k : GL Sc X g d k0 kE y cc nL ret (pc + 1) ls (vl (o_land a b) :: st) K M) : GL Sc X g d k0 kE y cc nL ret pc ls (vl b :: vl a :: st) K M :=
  L_go (fun hx hb C hH hS hl hlv hsv kk => lv_land hx hb hd  (by have h := kk (vcons (v := vl (o_land a b)) (i64_rng _) (vtl (vtl hsv))) hlv _ hl; simp only [List.map_cons, conc, o_land, Int64.ofInt_toInt] at h; exact h)) k
theorem L_lshl {a b : Int} (hd : decode cc pc = .ok (.lshl, 1)) (k : GL Sc X g d k0 kE y cc nL ret (pc + 1) ls (vl (o_lshl a b) :: st) K M) : GL Sc X g d k0 kE y cc nL ret pc ls (vi b :: vl a :: st) K M :=
  L_go (fun hx hb C hH hS hl hlv hsv kk => lv_lshl hx hb hd (Int64.ofInt_toInt _).symm (kk (vcons (v := vl (o_lshl a b)) (i64_rng _) (vtl (vtl hsv))) hlv _ hl)) k
theorem L_i2l {a : Int} (hd : decode cc pc = .ok (.i2l, 1)) (k : GL Sc X g d k0 kE y cc nL ret (pc + 1) ls (vl a :: st) K M) : GL Sc X g d k0 kE y cc nL ret pc ls (vi a :: st) K M := by
  refine L_go (fun hx hb C hH hS hl hlv hsv kk => ?_) k
  have ha : -2147483648 ≤ a ∧ a < 2147483648 := vhd hsv
  exact lv_i2l hx hb hd (v := Int64.ofInt a) (Int64.toInt_inj.mp (by rw [Int32.toInt_toInt64, i32_in ha, i64_in (by omega)])) (kk (vcons (v := vl a) (show -9223372036854775808 ≤ a ∧ a < 9223372036854775808 by omega) (vtl hsv)) hlv _ hl)
theorem L_i2c {a : Int} (hd : decode cc pc = .ok (.i2c, 1)) (k : GL Sc X g d k0 kE y cc nL ret (pc + 1) ls (vi (a % 65536) :: st) K M) : GL Sc X g d k0 kE y cc nL ret pc ls (vi a :: st) K M :=
  L_go (fun hx hb C hH hS hl hlv hsv kk => lv_i2c hx hb hd (i2c_v a) (kk (vcons (v := vi (a % 65536)) (show -2147483648 ≤ a % 65536 ∧ a % 65536 < 2147483648 by omega) (vtl hsv)) hlv _ hl)) k
theorem L_ldc2 {idx : Nat} {x : Int} (hd : decode cc pc = .ok (.ldc2_w idx, 3)) (hw : Cond.constantLong y.cls idx (Int64.ofInt x) ∈ UW) (hx : -9223372036854775808 ≤ x ∧ x < 9223372036854775808) (k : GL Sc X g d k0 kE y cc nL ret (pc + 3) ls (vl x :: st) K M) : GL Sc X g d k0 kE y cc nL ret pc ls st K M :=
  L_go (fun hx1 hb C hH hS hl hlv hsv kk => lv_ldc2 hx1 hb C.2.2.2.2.1 (C.2.2.2.2.2.1 _ hw) hd (kk (vcons (v := vl x) hx hsv) hlv _ hl)) k
theorem L_dup {v : PV} (hd : decode cc pc = .ok (.dup, 1)) (hv : ∀ x, v ≠ vl x) (k : GL Sc X g d k0 kE y cc nL ret (pc + 1) ls (v :: v :: st) K M) : GL Sc X g d k0 kE y cc nL ret pc ls (v :: st) K M :=
  L_go (fun hx hb C hH hS hl hlv hsv kk => lv_dup hx hb hd (cat1 X.1 hv) (kk (vcons (vhd hsv) hsv) hlv _ hl)) k
theorem L_icmp_gt {a b : Int} {off : Int} {tgt : Nat} (hd : decode cc pc = .ok (.if_icmp .gt off, 3)) (ht : (pc : Int) + off = (tgt : Int)) (kt : b < a → GL Sc X g d k0 kE y cc nL ret tgt ls st K M) (kf : ¬ b < a → GL Sc X g d k0 kE y cc nL ret (pc + 3) ls st K M) : GL Sc X g d k0 kE y cc nL ret pc ls (vi b :: vi a :: st) K M := by
  intro p l e R s m args below meth c H locs arr cells slots Tg hSc C hH hS hl hlv hsv hc hs hK hend
  have hb9 : -2147483648 ≤ b ∧ b < 2147483648 := vhd hsv
  have ha9 : -2147483648 ≤ a ∧ a < 2147483648 := vhd (vtl hsv)
  have hi := i32_lt hb9 ha9
  exact lv_icmp_gt C.1 C.2.1 hd ht (fun h => kt (hi.mp h) p l e R s m args below meth c H locs arr cells slots Tg hSc C hH hS hl hlv (vtl (vtl hsv)) hc hs hK hend) (fun h => kf (fun q => h (hi.mpr q)) p l e R s m args below meth c H locs arr cells slots Tg hSc C hH hS hl hlv (vtl (vtl hsv)) hc hs hK hend)
theorem L_icmp_eq {a b : Int} {off : Int} {tgt : Nat} (hd : decode cc pc = .ok (.if_icmp .eq off, 3)) (ht : (pc : Int) + off = (tgt : Int)) (kt : a = b → GL Sc X g d k0 kE y cc nL ret tgt ls st K M) (kf : ¬ a = b → GL Sc X g d k0 kE y cc nL ret (pc + 3) ls st K M) : GL Sc X g d k0 kE y cc nL ret pc ls (vi b :: vi a :: st) K M := by
  intro p l e R s m args below meth c H locs arr cells slots Tg hSc C hH hS hl hlv hsv hc hs hK hend
  have hb9 : -2147483648 ≤ b ∧ b < 2147483648 := vhd hsv
  have ha9 : -2147483648 ≤ a ∧ a < 2147483648 := vhd (vtl hsv)
  have hi := i32_eq ha9 hb9
  exact lv_icmp_eq C.1 C.2.1 hd ht (fun h => kt (hi.mp h) p l e R s m args below meth c H locs arr cells slots Tg hSc C hH hS hl hlv (vtl (vtl hsv)) hc hs hK hend) (fun h => kf (fun q => h (hi.mpr q)) p l e R s m args below meth c H locs arr cells slots Tg hSc C hH hS hl hlv (vtl (vtl hsv)) hc hs hK hend)
theorem L_if_eq {x : Int} {off : Int} {tgt : Nat} (hd : decode cc pc = .ok (.ifCond .eq off, 3)) (ht : (pc : Int) + off = (tgt : Int)) (kt : x = 0 → GL Sc X g d k0 kE y cc nL ret tgt ls st K M) (kf : ¬ x = 0 → GL Sc X g d k0 kE y cc nL ret (pc + 3) ls st K M) : GL Sc X g d k0 kE y cc nL ret pc ls (vi x :: st) K M := by
  intro p l e R s m args below meth c H locs arr cells slots Tg hSc C hH hS hl hlv hsv hc hs hK hend
  have hx9 : -2147483648 ≤ x ∧ x < 2147483648 := vhd hsv
  have hz9 : -2147483648 ≤ (0 : Int) ∧ (0 : Int) < 2147483648 := by decide
  have hi := i32_eq hx9 hz9
  exact lv_if_eq C.1 C.2.1 hd ht (fun h => kt (hi.mp h) p l e R s m args below meth c H locs arr cells slots Tg hSc C hH hS hl hlv (vtl hsv) hc hs hK hend) (fun h => kf (fun q => h (hi.mpr q)) p l e R s m args below meth c H locs arr cells slots Tg hSc C hH hS hl hlv (vtl hsv) hc hs hK hend)
theorem L_if_ne {x : Int} {off : Int} {tgt : Nat} (hd : decode cc pc = .ok (.ifCond .ne off, 3)) (ht : (pc : Int) + off = (tgt : Int)) (kt : ¬ x = 0 → GL Sc X g d k0 kE y cc nL ret tgt ls st K M) (kf : x = 0 → GL Sc X g d k0 kE y cc nL ret (pc + 3) ls st K M) : GL Sc X g d k0 kE y cc nL ret pc ls (vi x :: st) K M := by
  intro p l e R s m args below meth c H locs arr cells slots Tg hSc C hH hS hl hlv hsv hc hs hK hend
  have hx9 : -2147483648 ≤ x ∧ x < 2147483648 := vhd hsv
  have hz9 : -2147483648 ≤ (0 : Int) ∧ (0 : Int) < 2147483648 := by decide
  have hi := not_congr (i32_eq hx9 hz9)
  exact lv_if_ne C.1 C.2.1 hd ht (fun h => kt (hi.mp h) p l e R s m args below meth c H locs arr cells slots Tg hSc C hH hS hl hlv (vtl hsv) hc hs hK hend) (fun h => kf ((i32_eq hx9 hz9).mp h) p l e R s m args below meth c H locs arr cells slots Tg hSc C hH hS hl hlv (vtl hsv) hc hs hK hend)
theorem L_lcmp0 {a b : Int} (hd : decode cc pc = .ok (.lcmp, 1)) (k : GL Sc X g d k0 kE y cc nL ret (pc + 1) ls (vi (lcv a b) :: st) K M) : GL Sc X g d k0 kE y cc nL ret pc ls (vl b :: vl a :: st) K M :=
  L_go (fun hx hb C hH hS hl hlv hsv kk => W.lcmp hx hb hd (by rw [lcv_e (vhd (vtl hsv)) (vhd hsv)]; exact kk (vcons (v := vi (lcv a b)) (lcv_in a b) (vtl (vtl hsv))) hlv _ hl)) k
theorem L_lcmp_eq {a b : Int} {off : Int} {tgt : Nat} (hd0 : decode cc pc = .ok (.lcmp, 1)) (hd : decode cc (pc + 1) = .ok (.ifCond .eq off, 3)) (ht : ((pc + 1 : Nat) : Int) + off = (tgt : Int)) (kt : a = b → GL Sc X g d k0 kE y cc nL ret tgt ls st K M) (kf : ¬ a = b → GL Sc X g d k0 kE y cc nL ret (pc + 4) ls st K M) : GL Sc X g d k0 kE y cc nL ret pc ls (vl b :: vl a :: st) K M := by
  refine L_lcmp0 hd0 (L_if_eq hd ht (fun h => kt ?_) (fun h => kf ?_))
  all_goals (unfold lcv at h; split at h <;> (try split at h) <;> omega)
theorem L_goto {off : Int} {tgt : Nat} (hd : decode cc pc = .ok (.goto off, 3)) (ht : (pc : Int) + off = (tgt : Int)) (k : GL Sc X g d k0 kE y cc nL ret tgt ls st K M) : GL Sc X g d k0 kE y cc nL ret pc ls st K M :=
  L_go (fun hx hb C hH hS hl hlv hsv kk => lv_goto hx hb hd ht (kk hsv hlv _ hl)) k
theorem L_tableIn {x : Int} {dflt lo hi : Int} {offs : Array Int} {len : Nat} {off : Int} {tgt : Nat} (hd : decode cc pc = .ok (.tableswitch dflt lo hi offs, len)) (h : lo ≤ x ∧ x ≤ hi) (ho : offs[(x - lo).toNat]? = some off) (ht : (pc : Int) + off = (tgt : Int)) (k : GL Sc X g d k0 kE y cc nL ret tgt ls st K M) : GL Sc X g d k0 kE y cc nL ret pc ls (vi x :: st) K M :=
  L_go (fun hx hb C hH hS hl hlv hsv kk => lv_tableIn hx hb hd (by rw [i32_in (vhd hsv)]; omega) (by rw [i32_in (vhd hsv)]; omega) (by rw [i32_in (vhd hsv)]; exact ho) ht (kk (vtl hsv) hlv _ hl)) k
theorem L_tableOut {x : Int} {dflt lo hi : Int} {offs : Array Int} {len : Nat} {tgt : Nat} (hd : decode cc pc = .ok (.tableswitch dflt lo hi offs, len)) (h : x < lo ∨ hi < x) (ht : (pc : Int) + dflt = (tgt : Int)) (k : GL Sc X g d k0 kE y cc nL ret tgt ls st K M) : GL Sc X g d k0 kE y cc nL ret pc ls (vi x :: st) K M :=
  L_go (fun hx hb C hH hS hl hlv hsv kk => lv_tableOut hx hb hd (by rw [i32_in (vhd hsv)]; exact h) ht (kk (vtl hsv) hlv _ hl)) k
theorem L_pc {pc' : Nat} (h : pc = pc') (k : GL Sc X g d k0 kE y cc nL ret pc' ls st K M) : GL Sc X g d k0 kE y cc nL ret pc ls st K M := h ▸ k
theorem L_ps {pc' : Nat} {st' : List PV} (h : pc = pc') (h2 : st = st') (k : GL Sc X g d k0 kE y cc nL ret pc' ls st' K M) : GL Sc X g d k0 kE y cc nL ret pc ls st K M := h ▸ h2 ▸ k
theorem L_ls {ls' : List (Nat × PV)} (h : ∀ q ∈ ls', q ∈ ls) (k : GL Sc X g d k0 kE y cc nL ret pc ls' st K M) : GL Sc X g d k0 kE y cc nL ret pc ls st K M := by
  intro p l e R s m args below meth c H locs arr cells slots Tg hSc C hH hS hl hlv
  exact k p l e R s m args below meth c H locs arr cells slots Tg hSc C hH hS ⟨hl.1, hl.2.1, fun q hq => by
    obtain ⟨r, hr, rfl⟩ := List.mem_map.mp hq
    exact hl.2.2 _ (List.mem_map.mpr ⟨r, h r hr, rfl⟩)⟩ (fun q hq => hlv q (h q hq))
theorem L_callV {o cl : Nat} {as rest stk : List PV} (hd : decode cc pc = .ok (.invokevirtual idx, 3)) (hM : MFv y2 b2 nL2 ret2 n2) (hl : Cond.methodLink y.cls idx y2 ∈ UW) (hkd : kd o = .inl cl) (hcl : cR cl = y2.cls) (hoK : o < K) (hstk : stk = as.reverse ++ vr (o : Int) :: rest) (hn : as.length = n2) (hroom : pcs rest ≤ 8) (hd2 : d2 + 1 ≤ d) (hK : K ≤ K1 ∧ K1 ≤ kE) (hc : MG X g d2 K K1 y2 b2 nL2 ret2 (vr (o : Int) :: as) M Q2)
    (kk : ∀ r M', (∀ v ∈ r, vok v) → Q2 r M' → GL Sc X g d k0 kE y cc nL ret (pc + 3) ls (r.toList ++ rest) K1 M') : GL Sc X g d k0 kE y cc nL ret pc ls stk K M := by
  subst hstk
  intro p l e R s m args below meth c H locs arr cells slots Tg hSc C hH hS hls hlv hsv hcc hs hKE hend
  obtain ⟨hva, hvr⟩ := vapp hsv
  have ho1 := (kd_in hkd).1
  have hP := PcOK (vr (o : Int) :: as) C.2.2.2.2.2.2.2.2.1 hH hS
  have r := csz_room hcc hs hK.1 hK.2 C.2.2.2.2.2.2.2.2.2.2.2.1 C.2.2.2.2.2.2.2.2.2.2.2.2.1
  have hrec := rcv_of C hH hkd hoK
  rw [hcl] at hrec
  have hc' := hc (vcons (vhd hvr) hva) l
  have hP2 : PreV s H y2.cls (X.1 o) (fun (a : Array Value) (U : State) => a = ((vr (o : Int) :: as).map (conc X.1)).toArray ∧ HP X g K M U.heap ∧ KX X U) (as.map (conc X.1)) :=
    ⟨hP.1, hrec, fun U hU hW => ⟨by rw [List.map_cons, conc_ref X.1 ho1], (hP.2 U hU hW).2⟩⟩
  refine W_back (va_runV (As := as.map (conc X.1)) (rest := rest.map (conc X.1)) (g := F0 m pc arr ((as.reverse ++ vr (o : Int) :: rest).map (conc X.1))) ⟨C.1, C.2.1, C.2.2.2.1, C.2.2.2.2.1, C.2.2.2.2.2.1⟩ hc' ⟨mkCallB C hM.1 hl hd2, C.2.2.2.2.2.1 _ hM.2.1, C.2.2.2.2.2.1 _ hM.2.2⟩ hP2 rfl (by rw [List.length_map]; exact hn) hls.1 (by rw [List.map_append, List.map_reverse, List.map_cons, conc_ref X.1 ho1]) (lv_room (by rw [pcs_e]; exact hroom)) hd r) hS (fun r M' H1 locs1 hok hQ2 hHP hS1 => ?_)
  obtain ⟨a1, a2⟩ := cs_arith (k0 := k0) (by omega) hcc hs hK.1
  rw [toL]
  exact kk r M' hok hQ2 p l e R s m args below meth c H1 locs1 arr _ _ Tg hSc C hHP hS1 hls hlv (fun v hv => (List.mem_append.mp hv).elim (fun h => hok v (by simpa using h)) (vtl hvr v)) a1 a2 hK.2 hend
theorem L_callI {o : Nat} {as rest stk : List PV} (hd : decode cc pc = .ok (.invokespecial idx, 3)) (hM : MFi y2 b2 nL2 n2) (hl : Cond.methodLink y.cls idx y2 ∈ UW) (ho1 : 1 ≤ o) (hstk : stk = as.reverse ++ vr (o : Int) :: rest) (hn : as.length = n2) (hroom : pcs rest ≤ 8) (hd2 : d2 + 1 ≤ d) (hK : K ≤ K1 ∧ K1 ≤ kE) (hc : MG X g d2 K K1 y2 b2 nL2 none (vr (o : Int) :: as) M Q2)
    (kk : ∀ r M', (∀ v ∈ r, vok v) → Q2 r M' → GL Sc X g d k0 kE y cc nL ret (pc + 3) ls (r.toList ++ rest) K1 M') : GL Sc X g d k0 kE y cc nL ret pc ls stk K M := by
  subst hstk
  intro p l e R s m args below meth c H locs arr cells slots Tg hSc C hH hS hls hlv hsv hcc hs hKE hend
  obtain ⟨hva, hvr⟩ := vapp hsv
  have hP := PcOK (vr (o : Int) :: as) C.2.2.2.2.2.2.2.2.1 hH hS
  have r := csz_room hcc hs hK.1 hK.2 C.2.2.2.2.2.2.2.2.2.2.2.1 C.2.2.2.2.2.2.2.2.2.2.2.2.1
  have hc' := hc (vcons (vhd hvr) hva) l
  have hP2 : PreS s H (fun (a : Array Value) (U : State) => a = ((vr (o : Int) :: as).map (conc X.1)).toArray ∧ HP X g K M U.heap ∧ KX X U) (.ref (X.1 o) :: as.map (conc X.1)) :=
    ⟨hP.1, fun U hU hW => ⟨by rw [List.map_cons, conc_ref X.1 ho1], (hP.2 U hU hW).2⟩⟩
  refine W_back (va_runI (As := as.map (conc X.1)) (rest := rest.map (conc X.1)) (g := F0 m pc arr ((as.reverse ++ vr (o : Int) :: rest).map (conc X.1))) ⟨C.1, C.2.1, C.2.2.2.1, C.2.2.2.2.1, C.2.2.2.2.2.1⟩ hc' ⟨mkCallB C hM.1 hl hd2, hM.2.2, C.2.2.2.2.2.1 _ hM.2.1⟩ hP2 rfl (by rw [List.length_map]; exact hn) hls.1 (by rw [List.map_append, List.map_reverse, List.map_cons, conc_ref X.1 ho1]) (lv_room (by rw [pcs_e]; exact hroom)) hd r) hS (fun r M' H1 locs1 hok hQ2 hHP hS1 => ?_)
  obtain ⟨a1, a2⟩ := cs_arith (k0 := k0) (by omega) hcc hs hK.1
  rw [toL]
  exact kk r M' hok hQ2 p l e R s m args below meth c H1 locs1 arr _ _ Tg hSc C hHP hS1 hls hlv (fun v hv => (List.mem_append.mp hv).elim (fun h => hok v (by simpa using h)) (vtl hvr v)) a1 a2 hK.2 hend
theorem L_new {c idx : Nat} (hg : g = g0) (hd : decode cc pc = .ok (.new idx, 3)) (hkd : kd K = .inl c) (hcl : Cond.classLink y.cls idx (cR c) ∈ UW) (hins : Cond.instantiable (cR c) (cN c) ∈ UW) (hini : Cond.initialized (cR c) ∈ UW) (hK : K + 1 ≤ kE) (hK9 : K < 1000) (kk : GL Sc X g d k0 kE y cc nL ret (pc + 3) ls (vr (K : Int) :: st) (K + 1) (mnew M K)) : GL Sc X g d k0 kE y cc nL ret pc ls st K M := by
  subst hg
  obtain ⟨ho1, -, hc⟩ := kd_in hkd
  intro p l e R s m args below meth c0 H locs arr cells slots Tg hSc C hH hS hls hlv hsv hcc hs hKE hend
  have hA := C.2.2.2.2.2.2.2.2.1.2.1
  obtain ⟨hSl, hfc, kC, hkC, hkind⟩ := id (C.2.2.2.2.2.2.2.2.1.1.1.1 c _ (classes_at hc))
  have hKn := C.2.2.2.2.2.2.2.2.1.1.1.1 c _ (classes_at hc)
  have hs1 : csz1 K = cN c := by unfold csz1; rw [hkd]
  have hr1 := C.2.2.2.2.2.2.2.2.2.2.2.1
  have hr2 := C.2.2.2.2.2.2.2.2.2.2.2.2.1
  have hm := csz_mono hK
  rw [csz_step, hs1] at hm
  have hk0 : k0 ≤ K := by omega
  refine W.newcK C.1 C.2.1 C.2.2.2.2.1 (C.2.2.2.2.2.1 _ hcl) (C.2.2.2.2.2.1 _ hins) (C.2.2.2.2.2.1 _ hini) rfl hd (by omega) (by omega) hfc rfl fun H1 kC' hkC' e1 z1 o1 => ?_
  have ha := new_size hH hA ho1 hK9
  have hob := (u_born (cTy c) C.2.2.2.2.2.1 (c_in c hc) hKn hkC' e1 (c_ty c hc))
  have hcell : cellOK X g0 (mnew M K) H1 K := by
    unfold cellOK
    rw [hkd]
    have hz : ∀ i : Int, rd g0 (mnew M K) K i = 0 := fun i => by simp [rd, g0, mnew]
    simp only [hz]
    refine ⟨?_, fun i hi => ?_⟩
    · rw [ha]
      exact hob.to fun i hi => dflt_e X.1 (cTy_ok c i hc hi).1 (cTy_ok c i hc hi).2.1
    · have := cTy_ok c i hc hi
      exact tok0 (Or.inr ⟨_, rfl, this⟩) this.1 this.2.1 this.2.2
  have hHP : HP X g0 (K + 1) (mnew M K) H1 := HP_new hA hH ho1 hK9 z1 o1 (fun _ => 0) hcell
  have hS1 : va_S (own X) s.heap H1 locs := ⟨Nat.le_trans hS.1 (by omega), fun q h1 h2 => by rw [o1 q (Nat.lt_of_lt_of_le h1 hS.1)]; exact hS.2.1 q h1 h2, hS.2.2⟩
  have hW := kk p l e R s m args below meth c0 H1 locs arr (cells + 1) (slots + cN c) Tg hSc C hHP hS1 hls hlv (vcons (v := vr (K : Int)) (show (0 : Int) ≤ K by omega) hsv) (by omega) (by rw [csz_step, hs1]; omega) hK hend
  rw [List.map_cons, conc_ref X.1 ho1, ha] at hW
  exact hW
end GLr
