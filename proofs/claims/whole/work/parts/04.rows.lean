/-! THE ROWS OF THE PURE LAYER -/
theorem i32_in {x : Int} (h : -2147483648 ≤ x ∧ x < 2147483648) : (Int32.ofInt x).toInt = x := Int32.toInt_ofInt_of_le (by omega) (by omega)
theorem i64_in {x : Int} (h : -9223372036854775808 ≤ x ∧ x < 9223372036854775808) : (Int64.ofInt x).toInt = x := Int64.toInt_ofInt_of_le (by omega) (by omega)
theorem ofInt_w32 (x : Int) : Int32.ofInt (w32 x) = Int32.ofInt x := Int32.toInt_inj.mp (by rw [Int32.toInt_ofInt, Int32.toInt_ofInt]; exact Int.bmod_bmod)
theorem ofInt_w64 (x : Int) : Int64.ofInt (w64 x) = Int64.ofInt x := Int64.toInt_inj.mp (by rw [Int64.toInt_ofInt, Int64.toInt_ofInt]; exact Int.bmod_bmod)
theorem w32_in (x : Int) : -2147483648 ≤ w32 x ∧ w32 x < 2147483648 := by
  have h1 := Int.le_bmod (x := x) (m := 4294967296) (by omega)
  have h2 := Int.bmod_lt (x := x) (m := 4294967296) (by omega)
  unfold w32
  omega
theorem w64_in (x : Int) : -9223372036854775808 ≤ w64 x ∧ w64 x < 9223372036854775808 := by
  have h1 := Int.le_bmod (x := x) (m := 18446744073709551616) (by omega)
  have h2 := Int.bmod_lt (x := x) (m := 18446744073709551616) (by omega)
  unfold w64
  omega
theorem w32_id {x : Int} (h : -2147483648 ≤ x ∧ x < 2147483648) : w32 x = x := by
  unfold w32
  exact Int.bmod_eq_of_le (by omega) (by omega)
theorem w64_id {x : Int} (h : -9223372036854775808 ≤ x ∧ x < 9223372036854775808) : w64 x = x := by
  unfold w64
  exact Int.bmod_eq_of_le (by omega) (by omega)
theorem i32_rng (x : Int32) : -2147483648 ≤ x.toInt ∧ x.toInt < 2147483648 := ⟨x.le_toInt, x.toInt_lt⟩
theorem i64_rng (x : Int64) : -9223372036854775808 ≤ x.toInt ∧ x.toInt < 9223372036854775808 := ⟨x.le_toInt, x.toInt_lt⟩
theorem i32_eq {x y : Int} (hx : -2147483648 ≤ x ∧ x < 2147483648) (hy : -2147483648 ≤ y ∧ y < 2147483648) : Int32.ofInt x = Int32.ofInt y ↔ x = y := by
  refine ⟨fun h => ?_, fun h => by rw [h]⟩
  have := congrArg Int32.toInt h
  rwa [i32_in hx, i32_in hy] at this
theorem i32_lt {x y : Int} (hx : -2147483648 ≤ x ∧ x < 2147483648) (hy : -2147483648 ≤ y ∧ y < 2147483648) : Int32.ofInt x < Int32.ofInt y ↔ x < y := by
  rw [Int32.lt_iff_toInt_lt, i32_in hx, i32_in hy]
theorem i32_le {x y : Int} (hx : -2147483648 ≤ x ∧ x < 2147483648) (hy : -2147483648 ≤ y ∧ y < 2147483648) : Int32.ofInt x ≤ Int32.ofInt y ↔ x ≤ y := by
  rw [Int32.le_iff_toInt_le, i32_in hx, i32_in hy]
theorem i64_eq {x y : Int} (hx : -9223372036854775808 ≤ x ∧ x < 9223372036854775808) (hy : -9223372036854775808 ≤ y ∧ y < 9223372036854775808) : Int64.ofInt x = Int64.ofInt y ↔ x = y := by
  refine ⟨fun h => ?_, fun h => by rw [h]⟩
  have := congrArg Int64.toInt h
  rwa [i64_in hx, i64_in hy] at this
theorem i64_lt {x y : Int} (hx : -9223372036854775808 ≤ x ∧ x < 9223372036854775808) (hy : -9223372036854775808 ≤ y ∧ y < 9223372036854775808) : Int64.ofInt x < Int64.ofInt y ↔ x < y := by
  rw [Int64.lt_iff_toInt_lt, i64_in hx, i64_in hy]
theorem conc_ok {ty : FieldType} {x : Int} (ad : Nat → Nat) (h : tok ty x) : narrow ty (conc ad (mkv ty x)) = conc ad (mkv ty x) ∧ fits ty (conc ad (mkv ty x)) = true := by
  cases ty with
  | boolean =>
    have h' : 0 ≤ x ∧ x ≤ 1 := h
    rcases (show x = 0 ∨ x = 1 by omega) with rfl | rfl <;> exact ⟨rfl, rfl⟩
  | char =>
    obtain ⟨q, rfl⟩ := Int.eq_ofNat_of_zero_le h.1
    have h2 : q < 65536 := by have := h.2; omega
    have e : conc ad (mkv .char (q : Int)) = .int (nI q) := by show Value.int (Int32.ofInt (q : Int)) = _; rw [Int32.ofInt_eq_ofNat]; rfl
    rw [e]
    exact pk_charN h2
  | byte =>
    have h' : -128 ≤ x ∧ x < 128 := h
    have e : Int32.ofInt x = (Int32.ofInt x).toInt8.toInt32 := by
      apply Int32.toInt_inj.mp
      rw [Int8.toInt_toInt32, Int32.toInt_toInt8, i32_in (by omega)]
      exact (Int.bmod_eq_of_le (by omega) (by omega)).symm
    show narrow .byte (.int (Int32.ofInt x)) = .int (Int32.ofInt x) ∧ fits .byte (.int (Int32.ofInt x)) = true
    rw [e]
    exact ⟨pk_nb _, pk_fb _⟩
  | int => exact ⟨rfl, rfl⟩
  | long => exact ⟨rfl, rfl⟩
  | object n =>
    show narrow (.object n) (conc ad (vr x)) = conc ad (vr x) ∧ fits (.object n) (conc ad (vr x)) = true
    simp only [conc]
    split <;> exact ⟨rfl, rfl⟩
  | array t =>
    show narrow (.array t) (conc ad (vr x)) = conc ad (vr x) ∧ fits (.array t) (conc ad (vr x)) = true
    simp only [conc]
    split <;> exact ⟨rfl, rfl⟩
  | _ => exact absurd h (by simp [tok])
theorem conc_ref (ad : Nat → Nat) {o : Nat} (h : 1 ≤ o) : conc ad (vr (o : Int)) = .ref (ad o) := by
  show (if (o : Int) = 0 then Value.null else .ref (ad (o : Int).toNat)) = _
  rw [if_neg (by omega), Int.toNat_natCast]
def o_iand (a b : Int) : Int := ((Int32.ofInt a) &&& (Int32.ofInt b)).toInt
def o_ior (a b : Int) : Int := ((Int32.ofInt a) ||| (Int32.ofInt b)).toInt
def o_ixor (a b : Int) : Int := ((Int32.ofInt a) ^^^ (Int32.ofInt b)).toInt
def o_ishl (a b : Int) : Int := ((Int32.ofInt a) <<< ((Int32.ofInt b) &&& 31)).toInt
def o_ishr (a b : Int) : Int := ((Int32.ofInt a) >>> ((Int32.ofInt b) &&& 31)).toInt
def o_idiv (a b : Int) : Int := ((Int32.ofInt a) / (Int32.ofInt b)).toInt
def o_irem (a b : Int) : Int := ((Int32.ofInt a) - (Int32.ofInt a) / (Int32.ofInt b) * (Int32.ofInt b)).toInt
def o_iushr (a b : Int) : Int := ((Int32.ofInt a).toUInt32 >>> ((Int32.ofInt b).toUInt32 &&& Int32.toUInt32 31)).toInt32.toInt
def o_ladd (a b : Int) : Int := ((Int64.ofInt a) + (Int64.ofInt b)).toInt
def o_lsub (a b : Int) : Int := ((Int64.ofInt a) - (Int64.ofInt b)).toInt
def o_lmul (a b : Int) : Int := ((Int64.ofInt a) * (Int64.ofInt b)).toInt
def o_land (a b : Int) : Int := ((Int64.ofInt a) &&& (Int64.ofInt b)).toInt
def o_lor (a b : Int) : Int := ((Int64.ofInt a) ||| (Int64.ofInt b)).toInt
def o_lxor (a b : Int) : Int := ((Int64.ofInt a) ^^^ (Int64.ofInt b)).toInt
def o_ldiv (a b : Int) : Int := ((Int64.ofInt a) / (Int64.ofInt b)).toInt
def o_lrem (a b : Int) : Int := ((Int64.ofInt a) - (Int64.ofInt a) / (Int64.ofInt b) * (Int64.ofInt b)).toInt
def o_lshl (a b : Int) : Int := ((Int64.ofInt a) <<< ((Int32.ofInt b).toInt64 &&& 63)).toInt
def o_lshr (a b : Int) : Int := ((Int64.ofInt a) >>> ((Int32.ofInt b).toInt64 &&& 63)).toInt
def o_lushr (a b : Int) : Int := (((Int64.ofInt a).toUInt64 >>> ((Int32.ofInt b).toInt64.toUInt64 &&& Int64.toUInt64 63)).toInt64).toInt
def o_lneg (a : Int) : Int := (-(Int64.ofInt a)).toInt
section GR
variable {X : WX} {g : SG} {d k0 kE : Nat} {y : MethodName} {cc : ByteArray} {nL : Nat} {ret : Option FieldType} {Q : Option PV → Mem → Prop} {pc : Nat} {ls : List (Nat × PV)} {st : List PV} {K : Nat} {M : Mem}
theorem MG_of_G {as : List PV} (h1 : plainName y.cls = true) (hlen : psl as ≤ nL) (hk : k0 ≤ kE) (hk1 : 1 ≤ k0) (hG : G X g d k0 kE y cc nL ret Q 0 (pargs 0 as) [] k0 M) : MG X g d k0 kE y cc nL ret as M Q := by
  intro hv l
  refine Met.ofW (cc := cc) (maxL := nL) (ret := ret) h1 rfl ?_
  intro p e s m args below meth c s₁ B hml hP
  obtain ⟨rfl, hH, hK⟩ := hP
  have hts := atoms_spec (ws := Cond.code y cc nL ret :: UW) B.pre
  have C : Ctx X d k0 kE y cc nL ret p (headSpec (Cond.code y cc nL ret :: UW) ({ frames := d, cells := kE - k0, slots := csz kE - csz k0, locals := 64 * d } : Room)).room s m (as.map (conc X.1)).toArray meth c :=
    ⟨B.exec, B.bytes, B.returns, hml, findClass_of_methodNamed B.named, fun w hw => hts w (List.mem_cons_of_mem _ hw), B.notSynchronized, (name_of_methodNamed B.named B.method).1, hK, Nat.le_refl _, Nat.le_refl _, Nat.le_refl _, Nat.le_refl _, hH.1, hk1⟩
  have hl := lv_entry (as.map (conc X.1)) (n := nL) (by rw [lg_len]; exact hlen)
  rw [lmap_pargs] at hl
  rw [lg_entry_eq]
  refine hG p l e _ s m _ below meth c s.heap [] _ 0 0 _ C hH va_S.rf hl (fun q hq => hv _ (pargs_mem hq)) (fun v h => by cases h) (Nat.zero_add _) (Nat.zero_add _) hk (fun r M' H' locs' arr' pc' hQ hHP hS hR => ?_)
  cases hret : ret with
  | none =>
    rw [hret] at hR
    obtain ⟨rfl, hdg⟩ := hR
    exact W.vret C.1 C.2.1 (by rw [C.2.2.1, hret]) (fun t ht hW => ⟨none, M', rfl, (fun v h => by cases h), hQ, by rw [ht]; exact hHP, hS.F ht⟩) hS.2.2 hdg C.2.2.2.2.2.2.1
  | some ty =>
    by_cases hl : ty = .long
    · subst hl
      rw [hret] at hR
      obtain ⟨x, rfl, hx, hdg⟩ := hR
      exact W.lret C.1 C.2.1 (by rw [C.2.2.1, hret]) (fun t ht hW => ⟨some (vl x), M', rfl, (fun v h => by cases h; exact hx), hQ, by rw [ht]; exact hHP, hS.F ht⟩) hS.2.2 hdg C.2.2.2.2.2.2.1
    · have hR' : ∃ x, r = some (vi x) ∧ tok ty x ∧ mkv ty x = vi x ∧ decode cc pc' = .ok (.ireturn, 1) := by
        rw [hret] at hR
        cases ty <;> first | exact hR | exact absurd rfl hl
      obtain ⟨x, rfl, hx, hm, hdg⟩ := hR'
      have hn := (conc_ok X.1 hx).1
      rw [hm] at hn
      have hvk := tok_vok hx
      rw [hm] at hvk
      exact W.zret (ty := ty) C.1 C.2.1 (by rw [C.2.2.1, hret]) hn (fun t ht hW => ⟨some (vi x), M', rfl, (fun v h => by cases h; exact hvk), hQ, by rw [ht]; exact hHP, hS.F ht⟩) hS.2.2 hdg C.2.2.2.2.2.2.1
theorem MG.weaken {as : List PV} {Q2 : Option PV → Mem → Prop} (h : MG X g d k0 kE y cc nL ret as M Q) (hQ : ∀ r M', (∀ v ∈ r, vok v) → Q r M' → Q2 r M') : MG X g d k0 kE y cc nL ret as M Q2 := by
  intro hv l p e ha hc hk s m args below hf hap hP hT
  obtain ⟨k, o, t1, t2, t3, ⟨r, M', q1, q2, q3, q4⟩, q5⟩ := h hv l p e ha hc hk s m args below hf hap hP hT
  exact ⟨k, o, t1, t2, t3, ⟨r, M', q1, q2, hQ r M' q2 q3, q4⟩, q5⟩
/-- a row that leaves the heap alone -/
theorem G_go {pc' : Nat} {ls' : List (Nat × PV)} {st' : List PV}
    (h : ∀ {p : Program} {l : Launch} {e : Env} {R : Room} {s : State} {m : MethodId} {args : Array Value} {below : List Frame} {meth : Method} {c : Code} {H : Heap} {locs : List Loc} {arr : Array Slot} {cells slots : Nat} {Tg : State → Prop}, p.tables.exec = Jvm.exec → c.code = cc → Ctx X d k0 kE y cc nL ret p R s m args meth c → HP X g K M H → va_S (own X) s.heap H locs → lv_has arr nL (lmap X ls) → (∀ q ∈ ls, vok q.2) → (∀ v ∈ st, vok v) →
      ((∀ v ∈ st', vok v) → (∀ q ∈ ls', vok q.2) → ∀ arr', lv_has arr' nL (lmap X ls') → W p l e R s m args below meth c H locs cells slots Tg (F0 m pc' arr' (st'.map (conc X.1)))) → W p l e R s m args below meth c H locs cells slots Tg (F0 m pc arr (st.map (conc X.1))))
    (k : G X g d k0 kE y cc nL ret Q pc' ls' st' K M) : G X g d k0 kE y cc nL ret Q pc ls st K M := by
  intro p l e R s m args below meth c H locs arr cells slots Tg C hH hS hl hlv hsv hc hs hK hend
  exact h C.1 C.2.1 C hH hS hl hlv hsv (fun h1 h2 arr' h3 => k p l e R s m args below meth c H locs arr' cells slots Tg C hH hS h3 h2 h1 hc hs hK hend)
/-- values that come are of their range -/
theorem G_rng {i : Nat} {x : Int} (hi : st[i]? = some (vi x)) (k : -2147483648 ≤ x ∧ x < 2147483648 → G X g d k0 kE y cc nL ret Q pc ls st K M) : G X g d k0 kE y cc nL ret Q pc ls st K M := by
  intro p l e R s m args below meth c H locs arr cells slots Tg C hH hS hl hlv hsv
  exact k (hsv _ (List.mem_of_getElem? hi)) p l e R s m args below meth c H locs arr cells slots Tg C hH hS hl hlv hsv
theorem G_rngl {i n : Nat} {x : Int} (hi : ls[i]? = some (n, vi x)) (k : -2147483648 ≤ x ∧ x < 2147483648 → G X g d k0 kE y cc nL ret Q pc ls st K M) : G X g d k0 kE y cc nL ret Q pc ls st K M := by
  intro p l e R s m args below meth c H locs arr cells slots Tg C hH hS hl hlv hsv
  exact k (hlv _ (List.mem_of_getElem? hi)) p l e R s m args below meth c H locs arr cells slots Tg C hH hS hl hlv hsv
theorem G_rngL {i n : Nat} {x : Int} (hi : ls[i]? = some (n, vl x)) (k : -9223372036854775808 ≤ x ∧ x < 9223372036854775808 → G X g d k0 kE y cc nL ret Q pc ls st K M) : G X g d k0 kE y cc nL ret Q pc ls st K M := by
  intro p l e R s m args below meth c H locs arr cells slots Tg C hH hS hl hlv hsv
  exact k (hlv _ (List.mem_of_getElem? hi)) p l e R s m args below meth c H locs arr cells slots Tg C hH hS hl hlv hsv
theorem G_mem (k : (∀ o, 1 ≤ o → o < K → ∀ c, kd o = .inl c → ∀ i : Nat, i < cN c → tok (cTy c i) (rd g M o i)) → (∀ o, 1 ≤ o → o < K → ∀ ty n, kd o = .inr (ty, n) → ∀ i : Nat, i < n → tok ty (rd g M o i)) → G X g d k0 kE y cc nL ret Q pc ls st K M) : G X g d k0 kE y cc nL ret Q pc ls st K M := by
  intro p l e R s m args below meth c H locs arr cells slots Tg C hH
  refine k (fun o h1 h2 c hc i hi => ?_) (fun o h1 h2 ty n hc i hi => ?_) p l e R s m args below meth c H locs arr cells slots Tg C hH
  · have h := hH.2 o h1 h2
    unfold cellOK at h
    rw [hc] at h
    exact h.2 i hi
  · have h := hH.2 o h1 h2
    unfold cellOK at h
    rw [hc] at h
    exact h.2 i hi
theorem vcons {v : PV} {l : List PV} (h1 : vok v) (h2 : ∀ w ∈ l, vok w) : ∀ w ∈ v :: l, vok w := fun w h => (List.mem_cons.mp h).elim (fun e => e ▸ h1) (h2 w)
theorem vtl {v : PV} {l : List PV} (h2 : ∀ w ∈ v :: l, vok w) : ∀ w ∈ l, vok w := fun w h => h2 w (List.mem_cons_of_mem _ h)
theorem vhd {v : PV} {l : List PV} (h2 : ∀ w ∈ v :: l, vok w) : vok v := h2 v List.mem_cons_self
theorem lget {i n : Nat} {v : PV} (hi : ls[n]? = some (i, v)) {arr : Array Slot} (hl : lv_has arr nL (lmap X ls)) : arr[i]? = some (.val (conc X.1 v)) :=
  lv_at hl n (by show (ls.map _)[n]? = _; rw [List.getElem?_map, hi]; rfl)
-- constants
theorem G_iconst {n : Int} (hd : decode cc pc = .ok (.iconst n, 1)) (hn : -2147483648 ≤ n ∧ n < 2147483648) (k : G X g d k0 kE y cc nL ret Q (pc + 1) ls (vi n :: st) K M) : G X g d k0 kE y cc nL ret Q pc ls st K M :=
  G_go (fun hx hb C hH hS hl hlv hsv kk => lv_iconst hx hb hd rfl (kk (vcons (v := vi n) hn hsv) hlv _ hl)) k
theorem G_bipush {n : Int} (hd : decode cc pc = .ok (.bipush n, 2)) (hn : -128 ≤ n ∧ n < 128) (k : G X g d k0 kE y cc nL ret Q (pc + 2) ls (vi n :: st) K M) : G X g d k0 kE y cc nL ret Q pc ls st K M :=
  G_go (fun hx hb C hH hS hl hlv hsv kk => lv_bipush hx hb hd (Int32.toInt_inj.mp (by rw [Int8.toInt_toInt32, i32_in (by omega)]; exact Int8.toInt_ofInt_of_le (by omega) (by omega))) (kk (vcons (v := vi n) (show -2147483648 ≤ n ∧ n < 2147483648 by omega) hsv) hlv _ hl)) k
theorem G_sipush {n : Int} (hd : decode cc pc = .ok (.sipush n, 3)) (hn : -32768 ≤ n ∧ n < 32768) (k : G X g d k0 kE y cc nL ret Q (pc + 3) ls (vi n :: st) K M) : G X g d k0 kE y cc nL ret Q pc ls st K M :=
  G_go (fun hx hb C hH hS hl hlv hsv kk => lv_sipush hx hb hd (Int32.toInt_inj.mp (by rw [Int16.toInt_toInt32, i32_in (by omega)]; exact Int16.toInt_ofInt_of_le (by omega) (by omega))) (kk (vcons (v := vi n) (show -2147483648 ≤ n ∧ n < 2147483648 by omega) hsv) hlv _ hl)) k
theorem G_lconst0 (hd : decode cc pc = .ok (.lconst 0, 1)) (k : G X g d k0 kE y cc nL ret Q (pc + 1) ls (vl 0 :: st) K M) : G X g d k0 kE y cc nL ret Q pc ls st K M :=
  G_go (fun hx hb C hH hS hl hlv hsv kk => lv_lconst hx hb hd rfl (kk (vcons (v := vl 0) (show -9223372036854775808 ≤ (0 : Int) ∧ (0 : Int) < 9223372036854775808 by decide) hsv) hlv _ hl)) k
theorem G_lconst1 (hd : decode cc pc = .ok (.lconst 1, 1)) (k : G X g d k0 kE y cc nL ret Q (pc + 1) ls (vl 1 :: st) K M) : G X g d k0 kE y cc nL ret Q pc ls st K M :=
  G_go (fun hx hb C hH hS hl hlv hsv kk => lv_lconst hx hb hd rfl (kk (vcons (v := vl 1) (show -9223372036854775808 ≤ (1 : Int) ∧ (1 : Int) < 9223372036854775808 by decide) hsv) hlv _ hl)) k
theorem G_ldc2 {idx : Nat} {x : Int} (hd : decode cc pc = .ok (.ldc2_w idx, 3)) (hw : Cond.constantLong y.cls idx (Int64.ofInt x) ∈ UW) (hx : -9223372036854775808 ≤ x ∧ x < 9223372036854775808) (k : G X g d k0 kE y cc nL ret Q (pc + 3) ls (vl x :: st) K M) : G X g d k0 kE y cc nL ret Q pc ls st K M :=
  G_go (fun hx1 hb C hH hS hl hlv hsv kk => lv_ldc2 hx1 hb C.2.2.2.2.1 (C.2.2.2.2.2.1 _ hw) hd (kk (vcons (v := vl x) hx hsv) hlv _ hl)) k
theorem G_ldcw {idx : Nat} {x : Int} (hd : decode cc pc = .ok (.ldc_w idx, 3)) (hw : Cond.constant y.cls idx (Int32.ofInt x) ∈ UW) (hx : -2147483648 ≤ x ∧ x < 2147483648) (k : G X g d k0 kE y cc nL ret Q (pc + 3) ls (vi x :: st) K M) : G X g d k0 kE y cc nL ret Q pc ls st K M :=
  G_go (fun hx1 hb C hH hS hl hlv hsv kk => lv_ldcw hx1 hb C.2.2.2.2.1 (C.2.2.2.2.2.1 _ hw) hd (kk (vcons (v := vi x) hx hsv) hlv _ hl)) k
-- locals
theorem G_iload {i n len : Nat} {x : Int} (hd : (∃ k : Fin 4, (k : Nat) = i ∧ len = 1 ∧ decode cc pc = .ok (.iload_n k, 1)) ∨ (len = 2 ∧ decode cc pc = .ok (.iload i, 2))) (hi : ls[n]? = some (i, vi x)) (k : G X g d k0 kE y cc nL ret Q (pc + len) ls (vi x :: st) K M) : G X g d k0 kE y cc nL ret Q pc ls st K M := by
  refine G_go (fun hx hb C hH hS hl hlv hsv kk => ?_) k
  have hv : vok (vi x) := hlv _ (List.mem_of_getElem? hi)
  rcases hd with ⟨k, h1, rfl, h2⟩ | ⟨rfl, h2⟩
  · exact lv_iload_n hx hb h2 h1 (lget hi hl) (kk (vcons hv hsv) hlv _ hl)
  · exact lv_iload hx hb h2 (lget hi hl) (kk (vcons hv hsv) hlv _ hl)
theorem G_lload {i n len : Nat} {x : Int} (hd : (∃ k : Fin 4, (k : Nat) = i ∧ len = 1 ∧ decode cc pc = .ok (.lload_n k, 1)) ∨ (len = 2 ∧ decode cc pc = .ok (.lload i, 2))) (hi : ls[n]? = some (i, vl x)) (k : G X g d k0 kE y cc nL ret Q (pc + len) ls (vl x :: st) K M) : G X g d k0 kE y cc nL ret Q pc ls st K M := by
  refine G_go (fun hx hb C hH hS hl hlv hsv kk => ?_) k
  have hv : vok (vl x) := hlv _ (List.mem_of_getElem? hi)
  rcases hd with ⟨k, h1, rfl, h2⟩ | ⟨rfl, h2⟩
  · exact lv_lload_n hx hb h2 h1 (lget hi hl) (kk (vcons hv hsv) hlv _ hl)
  · exact lv_lload hx hb h2 (lget hi hl) (kk (vcons hv hsv) hlv _ hl)
theorem G_aload {i n len : Nat} {x : Int} (hd : (∃ k : Fin 4, (k : Nat) = i ∧ len = 1 ∧ decode cc pc = .ok (.aload_n k, 1)) ∨ (len = 2 ∧ decode cc pc = .ok (.aload i, 2))) (hi : ls[n]? = some (i, vr x)) (h0 : x ≠ 0) (k : G X g d k0 kE y cc nL ret Q (pc + len) ls (vr x :: st) K M) : G X g d k0 kE y cc nL ret Q pc ls st K M := by
  refine G_go (fun hx hb C hH hS hl hlv hsv kk => ?_) k
  have hv : vok (vr x) := hlv _ (List.mem_of_getElem? hi)
  have e : conc X.1 (vr x) = .ref (X.1 x.toNat) := by show (if x = 0 then Value.null else _) = _; rw [if_neg h0]
  have hg := lget hi hl
  rw [e] at hg
  have hk := kk (vcons hv hsv) hlv _ hl
  rw [List.map_cons, e] at hk
  rcases hd with ⟨k, h1, rfl, h2⟩ | ⟨rfl, h2⟩
  · exact lv_aload_n hx hb h2 h1 hg hk
  · exact lv_aload hx hb h2 hg hk
/-- storing into a local of one slot, of two -/
def pst1 (ls : List (Nat × PV)) (i : Nat) (v : PV) : List (Nat × PV) := (i, v) :: ls.filter (fun q => !(q.1 == i) && !(q.1 + 1 == i && (match q.2 with | .inr (.inl _) => true | _ => false)))
def pst2 (ls : List (Nat × PV)) (i : Nat) (v : PV) : List (Nat × PV) := (i, v) :: ls.filter (fun q => !(q.1 == i) && (!(q.1 == i + 1) && !(q.1 + 1 == i && (match q.2 with | .inr (.inl _) => true | _ => false))))
theorem cat2 (ad : Nat → Nat) (v : PV) : ((conc ad v).category == 2) = (match v with | .inr (.inl _) => true | _ => false) := by
  rcases v with x | x | x
  · rfl
  · rfl
  · show ((conc ad (vr x)).category == 2) = false
    rw [conc_cat_r]; rfl
theorem lmap_pst1 (X : WX) (ls : List (Nat × PV)) (i : Nat) (v : PV) : lmap X (pst1 ls i v) = (i, conc X.1 v) :: (lmap X ls).filter (fun q => !(q.1 == i) && !(q.1 + 1 == i && q.2.category == 2)) := by
  unfold lmap pst1
  rw [List.map_cons, List.filter_map]
  congr 3
  funext q
  simp only [Function.comp, cat2]
theorem lmap_pst2 (X : WX) (ls : List (Nat × PV)) (i : Nat) (v : PV) : lmap X (pst2 ls i v) = (i, conc X.1 v) :: (lmap X ls).filter (fun q => !(q.1 == i) && (!(q.1 == i + 1) && !(q.1 + 1 == i && q.2.category == 2))) := by
  unfold lmap pst2
  rw [List.map_cons, List.filter_map]
  congr 3
  funext q
  simp only [Function.comp, cat2]
theorem pst1_ok {i : Nat} {v : PV} (hv : vok v) (h : ∀ q ∈ ls, vok q.2) : ∀ q ∈ pst1 ls i v, vok q.2 := fun q hq => by
  rcases List.mem_cons.mp hq with rfl | hq
  · exact hv
  · exact h q (List.mem_filter.mp hq).1
theorem pst2_ok {i : Nat} {v : PV} (hv : vok v) (h : ∀ q ∈ ls, vok q.2) : ∀ q ∈ pst2 ls i v, vok q.2 := fun q hq => by
  rcases List.mem_cons.mp hq with rfl | hq
  · exact hv
  · exact h q (List.mem_filter.mp hq).1
theorem G_istore {i len : Nat} {x : Int} {ls' : List (Nat × PV)} (hd : (∃ k : Fin 4, (k : Nat) = i ∧ len = 1 ∧ decode cc pc = .ok (.istore_n k, 1)) ∨ (len = 2 ∧ decode cc pc = .ok (.istore i, 2))) (hi : i < nL) (hl' : pst1 ls i (vi x) = ls') (k : G X g d k0 kE y cc nL ret Q (pc + len) ls' st K M) : G X g d k0 kE y cc nL ret Q pc ls (vi x :: st) K M := by
  subst hl'
  refine G_go (fun hx hb C hH hS hl hlv hsv kk => ?_) k
  rcases hd with ⟨k, h1, rfl, h2⟩ | ⟨rfl, h2⟩
  · exact lv_istore_n hx hb h2 h1 hl hi (lmap_pst1 X ls i (vi x)).symm (fun ls9 h9 => kk (vtl hsv) (pst1_ok (vhd hsv) hlv) _ h9)
  · exact lv_istore hx hb h2 hl hi (lmap_pst1 X ls i (vi x)).symm (fun ls9 h9 => kk (vtl hsv) (pst1_ok (vhd hsv) hlv) _ h9)
theorem G_lstore {i len : Nat} {x : Int} {ls' : List (Nat × PV)} (hd : (∃ k : Fin 4, (k : Nat) = i ∧ len = 1 ∧ decode cc pc = .ok (.lstore_n k, 1)) ∨ (len = 2 ∧ decode cc pc = .ok (.lstore i, 2))) (hi : i + 1 < nL) (hl' : pst2 ls i (vl x) = ls') (k : G X g d k0 kE y cc nL ret Q (pc + len) ls' st K M) : G X g d k0 kE y cc nL ret Q pc ls (vl x :: st) K M := by
  subst hl'
  refine G_go (fun hx hb C hH hS hl hlv hsv kk => ?_) k
  rcases hd with ⟨k, h1, rfl, h2⟩ | ⟨rfl, h2⟩
  · exact lv_lstore_n hx hb h2 h1 hl hi (lmap_pst2 X ls i (vl x)).symm (fun ls9 h9 => kk (vtl hsv) (pst2_ok (vhd hsv) hlv) _ h9)
  · exact lv_lstore hx hb h2 hl hi (lmap_pst2 X ls i (vl x)).symm (fun ls9 h9 => kk (vtl hsv) (pst2_ok (vhd hsv) hlv) _ h9)
theorem G_astore {i len : Nat} {x : Int} {ls' : List (Nat × PV)} (hd : (∃ k : Fin 4, (k : Nat) = i ∧ len = 1 ∧ decode cc pc = .ok (.astore_n k, 1)) ∨ (len = 2 ∧ decode cc pc = .ok (.astore i, 2))) (h0 : x ≠ 0) (hi : i < nL) (hl' : pst1 ls i (vr x) = ls') (k : G X g d k0 kE y cc nL ret Q (pc + len) ls' st K M) : G X g d k0 kE y cc nL ret Q pc ls (vr x :: st) K M := by
  subst hl'
  refine G_go (fun hx hb C hH hS hl hlv hsv kk => ?_) k
  have e : conc X.1 (vr x) = .ref (X.1 x.toNat) := by show (if x = 0 then Value.null else _) = _; rw [if_neg h0]
  have h3 := lmap_pst1 X ls i (vr x)
  rw [e] at h3
  rw [List.map_cons, e]
  rcases hd with ⟨k, h1, rfl, h2⟩ | ⟨rfl, h2⟩
  · exact lv_astore_n hx hb h2 h1 hl hi h3.symm (fun ls9 h9 => kk (vtl hsv) (pst1_ok (vhd hsv) hlv) _ h9)
  · exact lv_astore hx hb h2 hl hi h3.symm (fun ls9 h9 => kk (vtl hsv) (pst1_ok (vhd hsv) hlv) _ h9)
theorem G_iinc {i n : Nat} {x z : Int} {ls' : List (Nat × PV)} (hd : decode cc pc = .ok (.iinc i z, 3)) (hn : ls[n]? = some (i, vi x)) (hi : i < nL) (hr : -2147483648 ≤ x + z ∧ x + z < 2147483648) (hl' : pst1 ls i (vi (x + z)) = ls') (k : G X g d k0 kE y cc nL ret Q (pc + 3) ls' st K M) : G X g d k0 kE y cc nL ret Q pc ls st K M := by
  subst hl'
  refine G_go (fun hx hb C hH hS hl hlv hsv kk => ?_) k
  refine lv_iinc hx hb hd hl (k := n) (x := Int32.ofInt x) (v := Int32.ofInt (x + z)) (by show (ls.map _)[n]? = _; rw [List.getElem?_map, hn]; rfl) (Int32.ofInt_add _ _).symm hi (lmap_pst1 X ls i (vi (x + z))).symm (fun ls9 h9 => kk hsv (pst1_ok hr hlv) _ h9)
-- arithmetic
theorem G_iadd {a b : Int} (hd : decode cc pc = .ok (.iadd, 1)) (hr : -2147483648 ≤ a + b ∧ a + b < 2147483648) (k : G X g d k0 kE y cc nL ret Q (pc + 1) ls (vi (a + b) :: st) K M) : G X g d k0 kE y cc nL ret Q pc ls (vi b :: vi a :: st) K M :=
  G_go (fun hx hb C hH hS hl hlv hsv kk => lv_iadd hx hb hd (by have h := kk (vcons (v := vi (a + b)) hr (vtl (vtl hsv))) hlv _ hl; simp only [List.map_cons, conc, Int32.ofInt_add] at h; exact h)) k
theorem G_isub {a b : Int} (hd : decode cc pc = .ok (.isub, 1)) (hr : -2147483648 ≤ a - b ∧ a - b < 2147483648) (k : G X g d k0 kE y cc nL ret Q (pc + 1) ls (vi (a - b) :: st) K M) : G X g d k0 kE y cc nL ret Q pc ls (vi b :: vi a :: st) K M :=
  G_go (fun hx hb C hH hS hl hlv hsv kk => lv_isub hx hb hd (by have h := kk (vcons (v := vi (a - b)) hr (vtl (vtl hsv))) hlv _ hl; simp only [List.map_cons, conc, Int32.ofInt_sub] at h; exact h)) k
theorem G_imul {a b : Int} (hd : decode cc pc = .ok (.imul, 1)) (hr : -2147483648 ≤ a * b ∧ a * b < 2147483648) (k : G X g d k0 kE y cc nL ret Q (pc + 1) ls (vi (a * b) :: st) K M) : G X g d k0 kE y cc nL ret Q pc ls (vi b :: vi a :: st) K M :=
  G_go (fun hx hb C hH hS hl hlv hsv kk => lv_imul hx hb hd (by have h := kk (vcons (v := vi (a * b)) hr (vtl (vtl hsv))) hlv _ hl; simp only [List.map_cons, conc, Int32.ofInt_mul] at h; exact h)) k
theorem G_iand {a b : Int} (hd : decode cc pc = .ok (.iand, 1)) (k : G X g d k0 kE y cc nL ret Q (pc + 1) ls (vi (o_iand a b) :: st) K M) : G X g d k0 kE y cc nL ret Q pc ls (vi b :: vi a :: st) K M :=
  G_go (fun hx hb C hH hS hl hlv hsv kk => lv_iand hx hb hd  (by have h := kk (vcons (v := vi (o_iand a b)) (i32_rng _) (vtl (vtl hsv))) hlv _ hl; simp only [List.map_cons, conc, o_iand, Int32.ofInt_toInt] at h; exact h)) k
theorem G_ior {a b : Int} (hd : decode cc pc = .ok (.ior, 1)) (k : G X g d k0 kE y cc nL ret Q (pc + 1) ls (vi (o_ior a b) :: st) K M) : G X g d k0 kE y cc nL ret Q pc ls (vi b :: vi a :: st) K M :=
  G_go (fun hx hb C hH hS hl hlv hsv kk => lv_ior hx hb hd  (by have h := kk (vcons (v := vi (o_ior a b)) (i32_rng _) (vtl (vtl hsv))) hlv _ hl; simp only [List.map_cons, conc, o_ior, Int32.ofInt_toInt] at h; exact h)) k
theorem G_ixor {a b : Int} (hd : decode cc pc = .ok (.ixor, 1)) (k : G X g d k0 kE y cc nL ret Q (pc + 1) ls (vi (o_ixor a b) :: st) K M) : G X g d k0 kE y cc nL ret Q pc ls (vi b :: vi a :: st) K M :=
  G_go (fun hx hb C hH hS hl hlv hsv kk => lv_ixor hx hb hd  (by have h := kk (vcons (v := vi (o_ixor a b)) (i32_rng _) (vtl (vtl hsv))) hlv _ hl; simp only [List.map_cons, conc, o_ixor, Int32.ofInt_toInt] at h; exact h)) k
theorem G_ishl {a b : Int} (hd : decode cc pc = .ok (.ishl, 1)) (k : G X g d k0 kE y cc nL ret Q (pc + 1) ls (vi (o_ishl a b) :: st) K M) : G X g d k0 kE y cc nL ret Q pc ls (vi b :: vi a :: st) K M :=
  G_go (fun hx hb C hH hS hl hlv hsv kk => lv_ishl hx hb hd  (by have h := kk (vcons (v := vi (o_ishl a b)) (i32_rng _) (vtl (vtl hsv))) hlv _ hl; simp only [List.map_cons, conc, o_ishl, Int32.ofInt_toInt] at h; exact h)) k
theorem G_ishr {a b : Int} (hd : decode cc pc = .ok (.ishr, 1)) (k : G X g d k0 kE y cc nL ret Q (pc + 1) ls (vi (o_ishr a b) :: st) K M) : G X g d k0 kE y cc nL ret Q pc ls (vi b :: vi a :: st) K M :=
  G_go (fun hx hb C hH hS hl hlv hsv kk => lv_ishr hx hb hd  (by have h := kk (vcons (v := vi (o_ishr a b)) (i32_rng _) (vtl (vtl hsv))) hlv _ hl; simp only [List.map_cons, conc, o_ishr, Int32.ofInt_toInt] at h; exact h)) k
theorem G_idiv {a b : Int} (hd : decode cc pc = .ok (.idiv, 1)) (hb0 : b ≠ 0) (k : G X g d k0 kE y cc nL ret Q (pc + 1) ls (vi (o_idiv a b) :: st) K M) : G X g d k0 kE y cc nL ret Q pc ls (vi b :: vi a :: st) K M :=
  G_go (fun hx hb C hH hS hl hlv hsv kk => lv_idiv hx hb hd (fun h => hb0 ((i32_eq (vhd hsv) (by decide)).mp h)) (by have h := kk (vcons (v := vi (o_idiv a b)) (i32_rng _) (vtl (vtl hsv))) hlv _ hl; simp only [List.map_cons, conc, o_idiv, Int32.ofInt_toInt] at h; exact h)) k
theorem G_irem {a b : Int} (hd : decode cc pc = .ok (.irem, 1)) (hb0 : b ≠ 0) (k : G X g d k0 kE y cc nL ret Q (pc + 1) ls (vi (o_irem a b) :: st) K M) : G X g d k0 kE y cc nL ret Q pc ls (vi b :: vi a :: st) K M :=
  G_go (fun hx hb C hH hS hl hlv hsv kk => lv_irem hx hb hd (fun h => hb0 ((i32_eq (vhd hsv) (by decide)).mp h)) (by have h := kk (vcons (v := vi (o_irem a b)) (i32_rng _) (vtl (vtl hsv))) hlv _ hl; simp only [List.map_cons, conc, o_irem, Int32.ofInt_toInt] at h; exact h)) k
theorem G_iushr {a b : Int} (hd : decode cc pc = .ok (.iushr, 1)) (k : G X g d k0 kE y cc nL ret Q (pc + 1) ls (vi (o_iushr a b) :: st) K M) : G X g d k0 kE y cc nL ret Q pc ls (vi b :: vi a :: st) K M :=
  G_go (fun hx hb C hH hS hl hlv hsv kk => lv_iushr hx hb hd (Int32.ofInt_toInt _).symm (kk (vcons (v := vi (o_iushr a b)) (i32_rng _) (vtl (vtl hsv))) hlv _ hl)) k
theorem G_ladd {a b : Int} (hd : decode cc pc = .ok (.ladd, 1)) (k : G X g d k0 kE y cc nL ret Q (pc + 1) ls (vl (o_ladd a b) :: st) K M) : G X g d k0 kE y cc nL ret Q pc ls (vl b :: vl a :: st) K M :=
  G_go (fun hx hb C hH hS hl hlv hsv kk => lv_ladd hx hb hd  (by have h := kk (vcons (v := vl (o_ladd a b)) (i64_rng _) (vtl (vtl hsv))) hlv _ hl; simp only [List.map_cons, conc, o_ladd, Int64.ofInt_toInt] at h; exact h)) k
theorem G_lsub {a b : Int} (hd : decode cc pc = .ok (.lsub, 1)) (k : G X g d k0 kE y cc nL ret Q (pc + 1) ls (vl (o_lsub a b) :: st) K M) : G X g d k0 kE y cc nL ret Q pc ls (vl b :: vl a :: st) K M :=
  G_go (fun hx hb C hH hS hl hlv hsv kk => lv_lsub hx hb hd  (by have h := kk (vcons (v := vl (o_lsub a b)) (i64_rng _) (vtl (vtl hsv))) hlv _ hl; simp only [List.map_cons, conc, o_lsub, Int64.ofInt_toInt] at h; exact h)) k
theorem G_lmul {a b : Int} (hd : decode cc pc = .ok (.lmul, 1)) (k : G X g d k0 kE y cc nL ret Q (pc + 1) ls (vl (o_lmul a b) :: st) K M) : G X g d k0 kE y cc nL ret Q pc ls (vl b :: vl a :: st) K M :=
  G_go (fun hx hb C hH hS hl hlv hsv kk => lv_lmul hx hb hd  (by have h := kk (vcons (v := vl (o_lmul a b)) (i64_rng _) (vtl (vtl hsv))) hlv _ hl; simp only [List.map_cons, conc, o_lmul, Int64.ofInt_toInt] at h; exact h)) k
theorem G_land {a b : Int} (hd : decode cc pc = .ok (.land, 1)) (k : G X g d k0 kE y cc nL ret Q (pc + 1) ls (vl (o_land a b) :: st) K M) : G X g d k0 kE y cc nL ret Q pc ls (vl b :: vl a :: st) K M :=
  G_go (fun hx hb C hH hS hl hlv hsv kk => lv_land hx hb hd  (by have h := kk (vcons (v := vl (o_land a b)) (i64_rng _) (vtl (vtl hsv))) hlv _ hl; simp only [List.map_cons, conc, o_land, Int64.ofInt_toInt] at h; exact h)) k
theorem G_lor {a b : Int} (hd : decode cc pc = .ok (.lor, 1)) (k : G X g d k0 kE y cc nL ret Q (pc + 1) ls (vl (o_lor a b) :: st) K M) : G X g d k0 kE y cc nL ret Q pc ls (vl b :: vl a :: st) K M :=
  G_go (fun hx hb C hH hS hl hlv hsv kk => lv_lor hx hb hd  (by have h := kk (vcons (v := vl (o_lor a b)) (i64_rng _) (vtl (vtl hsv))) hlv _ hl; simp only [List.map_cons, conc, o_lor, Int64.ofInt_toInt] at h; exact h)) k
theorem G_lxor {a b : Int} (hd : decode cc pc = .ok (.lxor, 1)) (k : G X g d k0 kE y cc nL ret Q (pc + 1) ls (vl (o_lxor a b) :: st) K M) : G X g d k0 kE y cc nL ret Q pc ls (vl b :: vl a :: st) K M :=
  G_go (fun hx hb C hH hS hl hlv hsv kk => lv_lxor hx hb hd  (by have h := kk (vcons (v := vl (o_lxor a b)) (i64_rng _) (vtl (vtl hsv))) hlv _ hl; simp only [List.map_cons, conc, o_lxor, Int64.ofInt_toInt] at h; exact h)) k
theorem G_ldiv {a b : Int} (hd : decode cc pc = .ok (.ldiv, 1)) (hb0 : b ≠ 0) (k : G X g d k0 kE y cc nL ret Q (pc + 1) ls (vl (o_ldiv a b) :: st) K M) : G X g d k0 kE y cc nL ret Q pc ls (vl b :: vl a :: st) K M :=
  G_go (fun hx hb C hH hS hl hlv hsv kk => lv_ldiv hx hb hd (fun h => hb0 ((i64_eq (vhd hsv) (by decide)).mp h)) (by have h := kk (vcons (v := vl (o_ldiv a b)) (i64_rng _) (vtl (vtl hsv))) hlv _ hl; simp only [List.map_cons, conc, o_ldiv, Int64.ofInt_toInt] at h; exact h)) k
theorem G_lrem {a b : Int} (hd : decode cc pc = .ok (.lrem, 1)) (hb0 : b ≠ 0) (k : G X g d k0 kE y cc nL ret Q (pc + 1) ls (vl (o_lrem a b) :: st) K M) : G X g d k0 kE y cc nL ret Q pc ls (vl b :: vl a :: st) K M :=
  G_go (fun hx hb C hH hS hl hlv hsv kk => lv_lrem hx hb hd (fun h => hb0 ((i64_eq (vhd hsv) (by decide)).mp h)) (by have h := kk (vcons (v := vl (o_lrem a b)) (i64_rng _) (vtl (vtl hsv))) hlv _ hl; simp only [List.map_cons, conc, o_lrem, Int64.ofInt_toInt] at h; exact h)) k
theorem G_lshl {a b : Int} (hd : decode cc pc = .ok (.lshl, 1)) (k : G X g d k0 kE y cc nL ret Q (pc + 1) ls (vl (o_lshl a b) :: st) K M) : G X g d k0 kE y cc nL ret Q pc ls (vi b :: vl a :: st) K M :=
  G_go (fun hx hb C hH hS hl hlv hsv kk => lv_lshl hx hb hd (Int64.ofInt_toInt _).symm (kk (vcons (v := vl (o_lshl a b)) (i64_rng _) (vtl (vtl hsv))) hlv _ hl)) k
theorem G_lshr {a b : Int} (hd : decode cc pc = .ok (.lshr, 1)) (k : G X g d k0 kE y cc nL ret Q (pc + 1) ls (vl (o_lshr a b) :: st) K M) : G X g d k0 kE y cc nL ret Q pc ls (vi b :: vl a :: st) K M :=
  G_go (fun hx hb C hH hS hl hlv hsv kk => lv_lshr hx hb hd (Int64.ofInt_toInt _).symm (kk (vcons (v := vl (o_lshr a b)) (i64_rng _) (vtl (vtl hsv))) hlv _ hl)) k
theorem G_lushr {a b : Int} (hd : decode cc pc = .ok (.lushr, 1)) (k : G X g d k0 kE y cc nL ret Q (pc + 1) ls (vl (o_lushr a b) :: st) K M) : G X g d k0 kE y cc nL ret Q pc ls (vi b :: vl a :: st) K M :=
  G_go (fun hx hb C hH hS hl hlv hsv kk => lv_lushr hx hb hd (Int64.ofInt_toInt _).symm (kk (vcons (v := vl (o_lushr a b)) (i64_rng _) (vtl (vtl hsv))) hlv _ hl)) k
theorem G_lneg {a : Int} (hd : decode cc pc = .ok (.lneg, 1)) (k : G X g d k0 kE y cc nL ret Q (pc + 1) ls (vl (o_lneg a) :: st) K M) : G X g d k0 kE y cc nL ret Q pc ls (vl a :: st) K M :=
  G_go (fun hx hb C hH hS hl hlv hsv kk => lv_lneg hx hb hd (by have h := kk (vcons (v := vl (o_lneg a)) (i64_rng _) (vtl hsv)) hlv _ hl; simp only [List.map_cons, conc, o_lneg, Int64.ofInt_toInt] at h; exact h)) k
theorem G_i2l {a : Int} (hd : decode cc pc = .ok (.i2l, 1)) (k : G X g d k0 kE y cc nL ret Q (pc + 1) ls (vl a :: st) K M) : G X g d k0 kE y cc nL ret Q pc ls (vi a :: st) K M := by
  refine G_go (fun hx hb C hH hS hl hlv hsv kk => ?_) k
  have ha : -2147483648 ≤ a ∧ a < 2147483648 := vhd hsv
  exact lv_i2l hx hb hd (v := Int64.ofInt a) (Int64.toInt_inj.mp (by rw [Int32.toInt_toInt64, i32_in ha, i64_in (by omega)])) (kk (vcons (v := vl a) (show -9223372036854775808 ≤ a ∧ a < 9223372036854775808 by omega) (vtl hsv)) hlv _ hl)
theorem G_l2i {a : Int} (hd : decode cc pc = .ok (.l2i, 1)) (k : G X g d k0 kE y cc nL ret Q (pc + 1) ls (vi (w32 a) :: st) K M) : G X g d k0 kE y cc nL ret Q pc ls (vl a :: st) K M :=
  G_go (fun hx hb C hH hS hl hlv hsv kk => lv_l2i hx hb hd (v := Int32.ofInt (w32 a)) (by rw [ofInt_w32]; exact Int64.toInt32_ofInt) (kk (vcons (v := vi (w32 a)) (w32_in a) (vtl hsv)) hlv _ hl)) k
theorem i2c_v (a : Int) : ((Int32.ofInt a).toUInt32 % 65536).toInt32 = Int32.ofInt (a % 65536) := by
  obtain ⟨q, hq⟩ := Int.eq_ofNat_of_zero_le (show 0 ≤ a % 65536 by omega)
  have h1 : (Int32.ofInt a).toBitVec.toNat % 65536 = q := by
    rw [Int32.toBitVec_ofInt, BitVec.toNat_ofInt]
    have e : a % ((2 ^ 32 : Nat) : Int) % 65536 = a % 65536 := Int.emod_emod_of_dvd a (by decide)
    have h2 : 0 ≤ a % ((2 ^ 32 : Nat) : Int) := Int.emod_nonneg _ (by decide)
    omega
  rw [pk_char, h1, hq, Int32.ofInt_eq_ofNat]; rfl
theorem G_i2c {a : Int} (hd : decode cc pc = .ok (.i2c, 1)) (k : G X g d k0 kE y cc nL ret Q (pc + 1) ls (vi (a % 65536) :: st) K M) : G X g d k0 kE y cc nL ret Q pc ls (vi a :: st) K M :=
  G_go (fun hx hb C hH hS hl hlv hsv kk => lv_i2c hx hb hd (i2c_v a) (kk (vcons (v := vi (a % 65536)) (show -2147483648 ≤ a % 65536 ∧ a % 65536 < 2147483648 by omega) (vtl hsv)) hlv _ hl)) k
theorem cat1 {v : PV} (ad : Nat → Nat) (h : ∀ x, v ≠ vl x) : (conc ad v).category = 1 := by
  rcases v with x | x | x
  · rfl
  · exact absurd rfl (h x)
  · exact conc_cat_r ad x
theorem G_dup {v : PV} (hd : decode cc pc = .ok (.dup, 1)) (hv : ∀ x, v ≠ vl x) (k : G X g d k0 kE y cc nL ret Q (pc + 1) ls (v :: v :: st) K M) : G X g d k0 kE y cc nL ret Q pc ls (v :: st) K M :=
  G_go (fun hx hb C hH hS hl hlv hsv kk => lv_dup hx hb hd (cat1 X.1 hv) (kk (vcons (vhd hsv) hsv) hlv _ hl)) k
theorem G_pop {v : PV} (hd : decode cc pc = .ok (.pop, 1)) (hv : ∀ x, v ≠ vl x) (k : G X g d k0 kE y cc nL ret Q (pc + 1) ls st K M) : G X g d k0 kE y cc nL ret Q pc ls (v :: st) K M :=
  G_go (fun hx hb C hH hS hl hlv hsv kk => lv_pop hx hb hd (cat1 X.1 hv) (kk (vtl hsv) hlv _ hl)) k
theorem G_dup2 {v w : PV} (hd : decode cc pc = .ok (.dup2, 1)) (hv : ∀ x, v ≠ vl x) (hw : ∀ x, w ≠ vl x) (k : G X g d k0 kE y cc nL ret Q (pc + 1) ls (v :: w :: v :: w :: st) K M) : G X g d k0 kE y cc nL ret Q pc ls (v :: w :: st) K M :=
  G_go (fun hx hb C hH hS hl hlv hsv kk => lv_dup2_11 hx hb hd (cat1 X.1 hv) (cat1 X.1 hw) (kk (vcons (vhd hsv) (vcons (vhd (vtl hsv)) hsv)) hlv _ hl)) k
theorem G_if_eq {x : Int} {off : Int} {tgt : Nat} (hd : decode cc pc = .ok (.ifCond .eq off, 3)) (ht : (pc : Int) + off = (tgt : Int)) (kt : x = 0 → G X g d k0 kE y cc nL ret Q tgt ls st K M) (kf : ¬ x = 0 → G X g d k0 kE y cc nL ret Q (pc + 3) ls st K M) : G X g d k0 kE y cc nL ret Q pc ls (vi x :: st) K M := by
  intro p l e R s m args below meth c H locs arr cells slots Tg C hH hS hl hlv hsv hc hs hK hend
  have hx9 : -2147483648 ≤ x ∧ x < 2147483648 := vhd hsv
  have hz9 : -2147483648 ≤ (0 : Int) ∧ (0 : Int) < 2147483648 := by decide
  have hi := i32_eq hx9 hz9
  exact lv_if_eq C.1 C.2.1 hd ht (fun h => kt (hi.mp h) p l e R s m args below meth c H locs arr cells slots Tg C hH hS hl hlv (vtl hsv) hc hs hK hend) (fun h => kf (fun q => h (hi.mpr q)) p l e R s m args below meth c H locs arr cells slots Tg C hH hS hl hlv (vtl hsv) hc hs hK hend)
theorem G_icmp_eq {a b : Int} {off : Int} {tgt : Nat} (hd : decode cc pc = .ok (.if_icmp .eq off, 3)) (ht : (pc : Int) + off = (tgt : Int)) (kt : a = b → G X g d k0 kE y cc nL ret Q tgt ls st K M) (kf : ¬ a = b → G X g d k0 kE y cc nL ret Q (pc + 3) ls st K M) : G X g d k0 kE y cc nL ret Q pc ls (vi b :: vi a :: st) K M := by
  intro p l e R s m args below meth c H locs arr cells slots Tg C hH hS hl hlv hsv hc hs hK hend
  have hb9 : -2147483648 ≤ b ∧ b < 2147483648 := vhd hsv
  have ha9 : -2147483648 ≤ a ∧ a < 2147483648 := vhd (vtl hsv)
  have hi := i32_eq ha9 hb9
  exact lv_icmp_eq C.1 C.2.1 hd ht (fun h => kt (hi.mp h) p l e R s m args below meth c H locs arr cells slots Tg C hH hS hl hlv (vtl (vtl hsv)) hc hs hK hend) (fun h => kf (fun q => h (hi.mpr q)) p l e R s m args below meth c H locs arr cells slots Tg C hH hS hl hlv (vtl (vtl hsv)) hc hs hK hend)
theorem G_if_ne {x : Int} {off : Int} {tgt : Nat} (hd : decode cc pc = .ok (.ifCond .ne off, 3)) (ht : (pc : Int) + off = (tgt : Int)) (kt : ¬ x = 0 → G X g d k0 kE y cc nL ret Q tgt ls st K M) (kf : x = 0 → G X g d k0 kE y cc nL ret Q (pc + 3) ls st K M) : G X g d k0 kE y cc nL ret Q pc ls (vi x :: st) K M := by
  intro p l e R s m args below meth c H locs arr cells slots Tg C hH hS hl hlv hsv hc hs hK hend
  have hx9 : -2147483648 ≤ x ∧ x < 2147483648 := vhd hsv
  have hz9 : -2147483648 ≤ (0 : Int) ∧ (0 : Int) < 2147483648 := by decide
  have hi := not_congr (i32_eq hx9 hz9)
  exact lv_if_ne C.1 C.2.1 hd ht (fun h => kt (hi.mp h) p l e R s m args below meth c H locs arr cells slots Tg C hH hS hl hlv (vtl hsv) hc hs hK hend) (fun h => kf ((i32_eq hx9 hz9).mp h) p l e R s m args below meth c H locs arr cells slots Tg C hH hS hl hlv (vtl hsv) hc hs hK hend)
theorem G_icmp_ne {a b : Int} {off : Int} {tgt : Nat} (hd : decode cc pc = .ok (.if_icmp .ne off, 3)) (ht : (pc : Int) + off = (tgt : Int)) (kt : ¬ a = b → G X g d k0 kE y cc nL ret Q tgt ls st K M) (kf : a = b → G X g d k0 kE y cc nL ret Q (pc + 3) ls st K M) : G X g d k0 kE y cc nL ret Q pc ls (vi b :: vi a :: st) K M := by
  intro p l e R s m args below meth c H locs arr cells slots Tg C hH hS hl hlv hsv hc hs hK hend
  have hb9 : -2147483648 ≤ b ∧ b < 2147483648 := vhd hsv
  have ha9 : -2147483648 ≤ a ∧ a < 2147483648 := vhd (vtl hsv)
  have hi := not_congr (i32_eq ha9 hb9)
  exact lv_icmp_ne C.1 C.2.1 hd ht (fun h => kt (hi.mp h) p l e R s m args below meth c H locs arr cells slots Tg C hH hS hl hlv (vtl (vtl hsv)) hc hs hK hend) (fun h => kf ((i32_eq ha9 hb9).mp h) p l e R s m args below meth c H locs arr cells slots Tg C hH hS hl hlv (vtl (vtl hsv)) hc hs hK hend)
theorem G_if_lt {x : Int} {off : Int} {tgt : Nat} (hd : decode cc pc = .ok (.ifCond .lt off, 3)) (ht : (pc : Int) + off = (tgt : Int)) (kt : x < 0 → G X g d k0 kE y cc nL ret Q tgt ls st K M) (kf : ¬ x < 0 → G X g d k0 kE y cc nL ret Q (pc + 3) ls st K M) : G X g d k0 kE y cc nL ret Q pc ls (vi x :: st) K M := by
  intro p l e R s m args below meth c H locs arr cells slots Tg C hH hS hl hlv hsv hc hs hK hend
  have hx9 : -2147483648 ≤ x ∧ x < 2147483648 := vhd hsv
  have hz9 : -2147483648 ≤ (0 : Int) ∧ (0 : Int) < 2147483648 := by decide
  have hi := i32_lt hx9 hz9
  exact lv_if_lt C.1 C.2.1 hd ht (fun h => kt (hi.mp h) p l e R s m args below meth c H locs arr cells slots Tg C hH hS hl hlv (vtl hsv) hc hs hK hend) (fun h => kf (fun q => h (hi.mpr q)) p l e R s m args below meth c H locs arr cells slots Tg C hH hS hl hlv (vtl hsv) hc hs hK hend)
theorem G_icmp_lt {a b : Int} {off : Int} {tgt : Nat} (hd : decode cc pc = .ok (.if_icmp .lt off, 3)) (ht : (pc : Int) + off = (tgt : Int)) (kt : a < b → G X g d k0 kE y cc nL ret Q tgt ls st K M) (kf : ¬ a < b → G X g d k0 kE y cc nL ret Q (pc + 3) ls st K M) : G X g d k0 kE y cc nL ret Q pc ls (vi b :: vi a :: st) K M := by
  intro p l e R s m args below meth c H locs arr cells slots Tg C hH hS hl hlv hsv hc hs hK hend
  have hb9 : -2147483648 ≤ b ∧ b < 2147483648 := vhd hsv
  have ha9 : -2147483648 ≤ a ∧ a < 2147483648 := vhd (vtl hsv)
  have hi := i32_lt ha9 hb9
  exact lv_icmp_lt C.1 C.2.1 hd ht (fun h => kt (hi.mp h) p l e R s m args below meth c H locs arr cells slots Tg C hH hS hl hlv (vtl (vtl hsv)) hc hs hK hend) (fun h => kf (fun q => h (hi.mpr q)) p l e R s m args below meth c H locs arr cells slots Tg C hH hS hl hlv (vtl (vtl hsv)) hc hs hK hend)
theorem G_if_ge {x : Int} {off : Int} {tgt : Nat} (hd : decode cc pc = .ok (.ifCond .ge off, 3)) (ht : (pc : Int) + off = (tgt : Int)) (kt : 0 ≤ x → G X g d k0 kE y cc nL ret Q tgt ls st K M) (kf : ¬ 0 ≤ x → G X g d k0 kE y cc nL ret Q (pc + 3) ls st K M) : G X g d k0 kE y cc nL ret Q pc ls (vi x :: st) K M := by
  intro p l e R s m args below meth c H locs arr cells slots Tg C hH hS hl hlv hsv hc hs hK hend
  have hx9 : -2147483648 ≤ x ∧ x < 2147483648 := vhd hsv
  have hz9 : -2147483648 ≤ (0 : Int) ∧ (0 : Int) < 2147483648 := by decide
  have hi := i32_le hz9 hx9
  exact lv_if_ge C.1 C.2.1 hd ht (fun h => kt (hi.mp h) p l e R s m args below meth c H locs arr cells slots Tg C hH hS hl hlv (vtl hsv) hc hs hK hend) (fun h => kf (fun q => h (hi.mpr q)) p l e R s m args below meth c H locs arr cells slots Tg C hH hS hl hlv (vtl hsv) hc hs hK hend)
theorem G_icmp_ge {a b : Int} {off : Int} {tgt : Nat} (hd : decode cc pc = .ok (.if_icmp .ge off, 3)) (ht : (pc : Int) + off = (tgt : Int)) (kt : b ≤ a → G X g d k0 kE y cc nL ret Q tgt ls st K M) (kf : ¬ b ≤ a → G X g d k0 kE y cc nL ret Q (pc + 3) ls st K M) : G X g d k0 kE y cc nL ret Q pc ls (vi b :: vi a :: st) K M := by
  intro p l e R s m args below meth c H locs arr cells slots Tg C hH hS hl hlv hsv hc hs hK hend
  have hb9 : -2147483648 ≤ b ∧ b < 2147483648 := vhd hsv
  have ha9 : -2147483648 ≤ a ∧ a < 2147483648 := vhd (vtl hsv)
  have hi := i32_le hb9 ha9
  exact lv_icmp_ge C.1 C.2.1 hd ht (fun h => kt (hi.mp h) p l e R s m args below meth c H locs arr cells slots Tg C hH hS hl hlv (vtl (vtl hsv)) hc hs hK hend) (fun h => kf (fun q => h (hi.mpr q)) p l e R s m args below meth c H locs arr cells slots Tg C hH hS hl hlv (vtl (vtl hsv)) hc hs hK hend)
theorem G_if_gt {x : Int} {off : Int} {tgt : Nat} (hd : decode cc pc = .ok (.ifCond .gt off, 3)) (ht : (pc : Int) + off = (tgt : Int)) (kt : 0 < x → G X g d k0 kE y cc nL ret Q tgt ls st K M) (kf : ¬ 0 < x → G X g d k0 kE y cc nL ret Q (pc + 3) ls st K M) : G X g d k0 kE y cc nL ret Q pc ls (vi x :: st) K M := by
  intro p l e R s m args below meth c H locs arr cells slots Tg C hH hS hl hlv hsv hc hs hK hend
  have hx9 : -2147483648 ≤ x ∧ x < 2147483648 := vhd hsv
  have hz9 : -2147483648 ≤ (0 : Int) ∧ (0 : Int) < 2147483648 := by decide
  have hi := i32_lt hz9 hx9
  exact lv_if_gt C.1 C.2.1 hd ht (fun h => kt (hi.mp h) p l e R s m args below meth c H locs arr cells slots Tg C hH hS hl hlv (vtl hsv) hc hs hK hend) (fun h => kf (fun q => h (hi.mpr q)) p l e R s m args below meth c H locs arr cells slots Tg C hH hS hl hlv (vtl hsv) hc hs hK hend)
theorem G_icmp_gt {a b : Int} {off : Int} {tgt : Nat} (hd : decode cc pc = .ok (.if_icmp .gt off, 3)) (ht : (pc : Int) + off = (tgt : Int)) (kt : b < a → G X g d k0 kE y cc nL ret Q tgt ls st K M) (kf : ¬ b < a → G X g d k0 kE y cc nL ret Q (pc + 3) ls st K M) : G X g d k0 kE y cc nL ret Q pc ls (vi b :: vi a :: st) K M := by
  intro p l e R s m args below meth c H locs arr cells slots Tg C hH hS hl hlv hsv hc hs hK hend
  have hb9 : -2147483648 ≤ b ∧ b < 2147483648 := vhd hsv
  have ha9 : -2147483648 ≤ a ∧ a < 2147483648 := vhd (vtl hsv)
  have hi := i32_lt hb9 ha9
  exact lv_icmp_gt C.1 C.2.1 hd ht (fun h => kt (hi.mp h) p l e R s m args below meth c H locs arr cells slots Tg C hH hS hl hlv (vtl (vtl hsv)) hc hs hK hend) (fun h => kf (fun q => h (hi.mpr q)) p l e R s m args below meth c H locs arr cells slots Tg C hH hS hl hlv (vtl (vtl hsv)) hc hs hK hend)
theorem G_if_le {x : Int} {off : Int} {tgt : Nat} (hd : decode cc pc = .ok (.ifCond .le off, 3)) (ht : (pc : Int) + off = (tgt : Int)) (kt : x ≤ 0 → G X g d k0 kE y cc nL ret Q tgt ls st K M) (kf : ¬ x ≤ 0 → G X g d k0 kE y cc nL ret Q (pc + 3) ls st K M) : G X g d k0 kE y cc nL ret Q pc ls (vi x :: st) K M := by
  intro p l e R s m args below meth c H locs arr cells slots Tg C hH hS hl hlv hsv hc hs hK hend
  have hx9 : -2147483648 ≤ x ∧ x < 2147483648 := vhd hsv
  have hz9 : -2147483648 ≤ (0 : Int) ∧ (0 : Int) < 2147483648 := by decide
  have hi := i32_le hx9 hz9
  exact lv_if_le C.1 C.2.1 hd ht (fun h => kt (hi.mp h) p l e R s m args below meth c H locs arr cells slots Tg C hH hS hl hlv (vtl hsv) hc hs hK hend) (fun h => kf (fun q => h (hi.mpr q)) p l e R s m args below meth c H locs arr cells slots Tg C hH hS hl hlv (vtl hsv) hc hs hK hend)
theorem G_icmp_le {a b : Int} {off : Int} {tgt : Nat} (hd : decode cc pc = .ok (.if_icmp .le off, 3)) (ht : (pc : Int) + off = (tgt : Int)) (kt : a ≤ b → G X g d k0 kE y cc nL ret Q tgt ls st K M) (kf : ¬ a ≤ b → G X g d k0 kE y cc nL ret Q (pc + 3) ls st K M) : G X g d k0 kE y cc nL ret Q pc ls (vi b :: vi a :: st) K M := by
  intro p l e R s m args below meth c H locs arr cells slots Tg C hH hS hl hlv hsv hc hs hK hend
  have hb9 : -2147483648 ≤ b ∧ b < 2147483648 := vhd hsv
  have ha9 : -2147483648 ≤ a ∧ a < 2147483648 := vhd (vtl hsv)
  have hi := i32_le ha9 hb9
  exact lv_icmp_le C.1 C.2.1 hd ht (fun h => kt (hi.mp h) p l e R s m args below meth c H locs arr cells slots Tg C hH hS hl hlv (vtl (vtl hsv)) hc hs hK hend) (fun h => kf (fun q => h (hi.mpr q)) p l e R s m args below meth c H locs arr cells slots Tg C hH hS hl hlv (vtl (vtl hsv)) hc hs hK hend)
def lcv (a b : Int) : Int := if b < a then 1 else if a = b then 0 else -1
theorem lcv_e {a b : Int} (ha : -9223372036854775808 ≤ a ∧ a < 9223372036854775808) (hb : -9223372036854775808 ≤ b ∧ b < 9223372036854775808) : lg_cmp (Int64.ofInt a) (Int64.ofInt b) = Int32.ofInt (lcv a b) := by
  unfold lg_cmp lcv
  simp only [gt_iff_lt, i64_lt hb ha, i64_eq ha hb]
  by_cases h1 : b < a
  · simp only [if_pos h1]; rfl
  · by_cases h2 : a = b
    · simp only [if_neg h1, if_pos h2]; rfl
    · simp only [if_neg h1, if_neg h2]; rfl
theorem lcv_in (a b : Int) : -2147483648 ≤ lcv a b ∧ lcv a b < 2147483648 := by
  unfold lcv
  split
  · decide
  · split <;> decide
theorem G_lcmp0 {a b : Int} (hd : decode cc pc = .ok (.lcmp, 1)) (k : G X g d k0 kE y cc nL ret Q (pc + 1) ls (vi (lcv a b) :: st) K M) : G X g d k0 kE y cc nL ret Q pc ls (vl b :: vl a :: st) K M :=
  G_go (fun hx hb C hH hS hl hlv hsv kk => W.lcmp hx hb hd (by rw [lcv_e (vhd (vtl hsv)) (vhd hsv)]; exact kk (vcons (v := vi (lcv a b)) (lcv_in a b) (vtl (vtl hsv))) hlv _ hl)) k
theorem G_lcmp_eq {a b : Int} {off : Int} {tgt : Nat} (hd0 : decode cc pc = .ok (.lcmp, 1)) (hd : decode cc (pc + 1) = .ok (.ifCond .eq off, 3)) (ht : ((pc + 1 : Nat) : Int) + off = (tgt : Int)) (kt : a = b → G X g d k0 kE y cc nL ret Q tgt ls st K M) (kf : ¬ a = b → G X g d k0 kE y cc nL ret Q (pc + 4) ls st K M) : G X g d k0 kE y cc nL ret Q pc ls (vl b :: vl a :: st) K M := by
  refine G_lcmp0 hd0 (G_if_eq hd ht (fun h => kt ?_) (fun h => kf ?_))
  all_goals (unfold lcv at h; split at h <;> (try split at h) <;> omega)
theorem G_lcmp_ne {a b : Int} {off : Int} {tgt : Nat} (hd0 : decode cc pc = .ok (.lcmp, 1)) (hd : decode cc (pc + 1) = .ok (.ifCond .ne off, 3)) (ht : ((pc + 1 : Nat) : Int) + off = (tgt : Int)) (kt : ¬ a = b → G X g d k0 kE y cc nL ret Q tgt ls st K M) (kf : a = b → G X g d k0 kE y cc nL ret Q (pc + 4) ls st K M) : G X g d k0 kE y cc nL ret Q pc ls (vl b :: vl a :: st) K M := by
  refine G_lcmp0 hd0 (G_if_ne hd ht (fun h => kt ?_) (fun h => kf ?_))
  all_goals (unfold lcv at h; split at h <;> (try split at h) <;> omega)
theorem G_lcmp_lt {a b : Int} {off : Int} {tgt : Nat} (hd0 : decode cc pc = .ok (.lcmp, 1)) (hd : decode cc (pc + 1) = .ok (.ifCond .lt off, 3)) (ht : ((pc + 1 : Nat) : Int) + off = (tgt : Int)) (kt : a < b → G X g d k0 kE y cc nL ret Q tgt ls st K M) (kf : ¬ a < b → G X g d k0 kE y cc nL ret Q (pc + 4) ls st K M) : G X g d k0 kE y cc nL ret Q pc ls (vl b :: vl a :: st) K M := by
  refine G_lcmp0 hd0 (G_if_lt hd ht (fun h => kt ?_) (fun h => kf ?_))
  all_goals (unfold lcv at h; split at h <;> (try split at h) <;> omega)
theorem G_lcmp_ge {a b : Int} {off : Int} {tgt : Nat} (hd0 : decode cc pc = .ok (.lcmp, 1)) (hd : decode cc (pc + 1) = .ok (.ifCond .ge off, 3)) (ht : ((pc + 1 : Nat) : Int) + off = (tgt : Int)) (kt : b ≤ a → G X g d k0 kE y cc nL ret Q tgt ls st K M) (kf : ¬ b ≤ a → G X g d k0 kE y cc nL ret Q (pc + 4) ls st K M) : G X g d k0 kE y cc nL ret Q pc ls (vl b :: vl a :: st) K M := by
  refine G_lcmp0 hd0 (G_if_ge hd ht (fun h => kt ?_) (fun h => kf ?_))
  all_goals (unfold lcv at h; split at h <;> (try split at h) <;> omega)
theorem G_lcmp_gt {a b : Int} {off : Int} {tgt : Nat} (hd0 : decode cc pc = .ok (.lcmp, 1)) (hd : decode cc (pc + 1) = .ok (.ifCond .gt off, 3)) (ht : ((pc + 1 : Nat) : Int) + off = (tgt : Int)) (kt : b < a → G X g d k0 kE y cc nL ret Q tgt ls st K M) (kf : ¬ b < a → G X g d k0 kE y cc nL ret Q (pc + 4) ls st K M) : G X g d k0 kE y cc nL ret Q pc ls (vl b :: vl a :: st) K M := by
  refine G_lcmp0 hd0 (G_if_gt hd ht (fun h => kt ?_) (fun h => kf ?_))
  all_goals (unfold lcv at h; split at h <;> (try split at h) <;> omega)
theorem G_lcmp_le {a b : Int} {off : Int} {tgt : Nat} (hd0 : decode cc pc = .ok (.lcmp, 1)) (hd : decode cc (pc + 1) = .ok (.ifCond .le off, 3)) (ht : ((pc + 1 : Nat) : Int) + off = (tgt : Int)) (kt : a ≤ b → G X g d k0 kE y cc nL ret Q tgt ls st K M) (kf : ¬ a ≤ b → G X g d k0 kE y cc nL ret Q (pc + 4) ls st K M) : G X g d k0 kE y cc nL ret Q pc ls (vl b :: vl a :: st) K M := by
  refine G_lcmp0 hd0 (G_if_le hd ht (fun h => kt ?_) (fun h => kf ?_))
  all_goals (unfold lcv at h; split at h <;> (try split at h) <;> omega)
theorem G_goto {off : Int} {tgt : Nat} (hd : decode cc pc = .ok (.goto off, 3)) (ht : (pc : Int) + off = (tgt : Int)) (k : G X g d k0 kE y cc nL ret Q tgt ls st K M) : G X g d k0 kE y cc nL ret Q pc ls st K M :=
  G_go (fun hx hb C hH hS hl hlv hsv kk => lv_goto hx hb hd ht (kk hsv hlv _ hl)) k
theorem G_lookup {x : Int} {dflt : Int} {ps : Array (Int × Int)} {len : Nat} {off : Int} {tgt : Nat} (hd : decode cc pc = .ok (.lookupswitch dflt ps, len)) (hp : (ps.toList.zip (ps.toList.drop 1)).all (fun (a, next) => a.1 < next.1) = true) (ho : Op.lookupswitch.offset ps.toList dflt x = off) (ht : (pc : Int) + off = (tgt : Int)) (k : G X g d k0 kE y cc nL ret Q tgt ls st K M) : G X g d k0 kE y cc nL ret Q pc ls (vi x :: st) K M :=
  G_go (fun hx hb C hH hS hl hlv hsv kk => lv_lookup hx hb hd hp (by rw [i32_in (vhd hsv)]; exact ho) ht (kk (vtl hsv) hlv _ hl)) k
theorem lk_ne {x a o d : Int} {r : List (Int × Int)} (h : x ≠ a) : Op.lookupswitch.offset ((a, o) :: r) d x = Op.lookupswitch.offset r d x := by
  rw [Op.lookupswitch.offset_cons, if_neg (fun q => h q.symm)]
theorem G_tableOut {x : Int} {dflt lo hi : Int} {offs : Array Int} {len : Nat} {tgt : Nat} (hd : decode cc pc = .ok (.tableswitch dflt lo hi offs, len)) (h : x < lo ∨ hi < x) (ht : (pc : Int) + dflt = (tgt : Int)) (k : G X g d k0 kE y cc nL ret Q tgt ls st K M) : G X g d k0 kE y cc nL ret Q pc ls (vi x :: st) K M :=
  G_go (fun hx hb C hH hS hl hlv hsv kk => lv_tableOut hx hb hd (by rw [i32_in (vhd hsv)]; exact h) ht (kk (vtl hsv) hlv _ hl)) k
theorem G_tableIn {x : Int} {dflt lo hi : Int} {offs : Array Int} {len : Nat} {off : Int} {tgt : Nat} (hd : decode cc pc = .ok (.tableswitch dflt lo hi offs, len)) (h : lo ≤ x ∧ x ≤ hi) (ho : offs[(x - lo).toNat]? = some off) (ht : (pc : Int) + off = (tgt : Int)) (k : G X g d k0 kE y cc nL ret Q tgt ls st K M) : G X g d k0 kE y cc nL ret Q pc ls (vi x :: st) K M :=
  G_go (fun hx hb C hH hS hl hlv hsv kk => lv_tableIn hx hb hd (by rw [i32_in (vhd hsv)]; omega) (by rw [i32_in (vhd hsv)]; omega) (by rw [i32_in (vhd hsv)]; exact ho) ht (kk (vtl hsv) hlv _ hl)) k
theorem G_iret {x : Int} {ty : FieldType} (hd : decode cc pc = .ok (.ireturn, 1)) (hr : ret = some ty) (hx : tok ty x) (hm : mkv ty x = vi x) (hK : K = kE) (hQ : Q (some (vi x)) M) : G X g d k0 kE y cc nL ret Q pc ls [vi x] K M := by
  intro p l e R s m args below meth c H locs arr cells slots Tg C hH hS hl hlv hsv hc hs hK2 hend
  subst hK
  have e1 : cells = K - k0 := by omega
  have e2 : slots = csz K - csz k0 := by omega
  subst e1; subst e2
  refine hend (some (vi x)) M H locs arr pc hQ hH hS ?_
  subst hr
  cases ty <;> first | exact ⟨x, rfl, hx, hm, hd⟩ | (simp only [mkv] at hm; cases hm)
theorem G_lret {x : Int} (hd : decode cc pc = .ok (.lreturn, 1)) (hr : ret = some .long) (hK : K = kE) (hQ : Q (some (vl x)) M) : G X g d k0 kE y cc nL ret Q pc ls [vl x] K M := by
  intro p l e R s m args below meth c H locs arr cells slots Tg C hH hS hl hlv hsv hc hs hK2 hend
  subst hK
  have e1 : cells = K - k0 := by omega
  have e2 : slots = csz K - csz k0 := by omega
  subst e1; subst e2
  refine hend (some (vl x)) M H locs arr pc hQ hH hS ?_
  subst hr
  exact ⟨x, rfl, vhd hsv, hd⟩
theorem G_vret (hd : decode cc pc = .ok (.return_, 1)) (hr : ret = none) (hK : K = kE) (hQ : Q none M) : G X g d k0 kE y cc nL ret Q pc ls [] K M := by
  intro p l e R s m args below meth c H locs arr cells slots Tg C hH hS hl hlv hsv hc hs hK2 hend
  subst hK
  have e1 : cells = K - k0 := by omega
  have e2 : slots = csz K - csz k0 := by omega
  subst e1; subst e2
  refine hend none M H locs arr pc hQ hH hS ?_
  subst hr
  exact ⟨rfl, hd⟩
end GR
