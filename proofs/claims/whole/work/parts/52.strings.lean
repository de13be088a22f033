set_option maxRecDepth 30000 in
theorem fs_38 : Cond.fieldLink R_Js 38 "java/lang/String" "COMPACT_STRINGS" "Z" ∈ UW := UW_of (lw_at2 207 rfl) rfl
set_option maxRecDepth 30000 in
theorem fs_1053 : Cond.fieldLink R_Js 1053 "jdk/internal/util/Preconditions" "SIOOBE_FORMATTER" "Ljava/util/function/BiFunction;" ∈ UW := UW_of (lw_at2 223 rfl) rfl
set_option maxRecDepth 30000 in
theorem fs_9 : Cond.fieldLink R_Js 9 "java/lang/String" "value" "[B" ∈ UW := UW_of (lw_at6 162 rfl) rfl
set_option maxRecDepth 30000 in
theorem fs_15 : Cond.fieldLink R_Js 15 "java/lang/String" "coder" "B" ∈ UW := UW_of (lw_at6 163 rfl) rfl
set_option maxRecDepth 30000 in
theorem mm_max_l : Cond.methodLink R_Jl 92 Lib.Math.max.name ∈ UW := UW_of (lw_at3 63 rfl) rfl
set_option maxRecDepth 30000 in
theorem mm_max_s : Cond.static Lib.Math.max.name ∈ UW := UW_of (lw_at3 64 rfl) rfl
set_option maxRecDepth 30000 in
theorem mm_max_c : Cond.code Lib.Math.max.name Lib.Math.max.code 2 (some .int) ∈ UW := UW_of (lw_at3 65 rfl) rfl
set_option maxRecDepth 30000 in
theorem mm_min_l : Cond.methodLink R_Jl 38 Lib.Math.min.name ∈ UW := UW_of (lw_at3 66 rfl) rfl
set_option maxRecDepth 30000 in
theorem mm_min_s : Cond.static Lib.Math.min.name ∈ UW := UW_of (lw_at3 67 rfl) rfl
set_option maxRecDepth 30000 in
theorem mm_min_c : Cond.code Lib.Math.min.name Lib.Math.min.code 2 (some .int) ∈ UW := UW_of (lw_at3 68 rfl) rfl
set_option maxRecDepth 30000 in
theorem mm_ini : Cond.initialized "java/lang/Math" ∈ UW := UW_of (lw_at1 17 rfl) rfl
def bysD (i j : Nat) : Int := ((bytS.getD i []).getD j 0).toInt
def lnsD (i : Nat) : Nat := lenS.getD i 0
section GS
variable {X : WX} {g : SG} {d k0 kE : Nat} {y : MethodName} {cc : ByteArray} {nL : Nat} {ret : Option FieldType} {Q : Option PV → Mem → Prop} {pc : Nat} {ls : List (Nat × PV)} {st : List PV} {K : Nat} {M : Mem}
theorem G_ldcS {i idx : Nat} (hi : i < 11) (hd : decode cc pc = .ok (.ldc idx, 2)) (hidx : poolS.getD i 0 = idx) (hy : y.cls = R_To) (k : G X g d k0 kE y cc nL ret Q (pc + 2) ls (vr ((1000 + i : Nat) : Int) :: st) K M) : G X g d k0 kE y cc nL ret Q pc ls st K M :=
  G_go (fun hx hb C hH hS hl hlv hsv kk => by
    have hK := (C.2.2.2.2.2.2.2.2.1.2.2).2.1 i hi
    rw [hidx] at hK
    have h9 := kk (vcons (v := vr ((1000 + i : Nat) : Int)) (show (0 : Int) ≤ _ by omega) hsv) hlv _ hl
    rw [List.map_cons, conc_ref X.1 (by omega)] at h9
    exact va_ldcS hx hb (hy ▸ C.2.2.2.2.1) hK hd h9) k
theorem G_sval {i : Nat} (hi : i < 11) (hd : decode cc pc = .ok (.getfield 9, 3)) (hy : y.cls = R_Js) (k : G X g d k0 kE y cc nL ret Q (pc + 3) ls (vr ((2000 + i : Nat) : Int) :: st) K M) : G X g d k0 kE y cc nL ret Q pc ls (vr ((1000 + i : Nat) : Int) :: st) K M :=
  G_go (fun hx hb C hH hS hl hlv hsv kk => by
    have hK := ((C.2.2.2.2.2.2.2.2.1.2.2).1.1 i hi).2.2.1
    have h9 := kk (vcons (v := vr ((2000 + i : Nat) : Int)) (show (0 : Int) ≤ _ by omega) (vtl hsv)) hlv _ hl
    rw [List.map_cons, conc_ref X.1 (by omega)] at h9
    rw [List.map_cons, conc_ref X.1 (by omega)]
    exact vk_getf hx hb hK hS (hy ▸ C.2.2.2.2.1) (C.2.2.2.2.2.1 _ fs_9) (fun _ h => h) hd h9) k
theorem G_scod {i : Nat} (hi : i < 11) (hd : decode cc pc = .ok (.getfield 15, 3)) (hy : y.cls = R_Js) (k : G X g d k0 kE y cc nL ret Q (pc + 3) ls (vi 0 :: st) K M) : G X g d k0 kE y cc nL ret Q pc ls (vr ((1000 + i : Nat) : Int) :: st) K M :=
  G_go (fun hx hb C hH hS hl hlv hsv kk => by
    have hK := ((C.2.2.2.2.2.2.2.2.1.2.2).1.1 i hi).2.1
    have h9 := kk (vcons (v := vi 0) (show -2147483648 ≤ (0 : Int) ∧ (0 : Int) < 2147483648 by omega) (vtl hsv)) hlv _ hl
    rw [List.map_cons, conc_ref X.1 (by omega)]
    exact vk_getf hx hb hK hS (hy ▸ C.2.2.2.2.1) (C.2.2.2.2.2.1 _ fs_15) (fun _ h => h) hd h9) k
theorem G_scmp (hd : decode cc pc = .ok (.getstatic 38, 3)) (hy : y.cls = R_Js) (k : G X g d k0 kE y cc nL ret Q (pc + 3) ls (vi 1 :: st) K M) : G X g d k0 kE y cc nL ret Q pc ls st K M :=
  G_go (fun hx hb C hH hS hl hlv hsv kk => by
    have hK := (C.2.2.2.2.2.2.2.2.1.2.2).2.2.1
    have h9 := kk (vcons (v := vi 1) (show -2147483648 ≤ (1 : Int) ∧ (1 : Int) < 2147483648 by omega) hsv) hlv _ hl
    exact va_gets hx hb hK hS (hy ▸ C.2.2.2.2.1) (C.2.2.2.2.2.1 _ fs_38) (fun _ h => h) hd h9) k
theorem G_sfmt (hd : decode cc pc = .ok (.getstatic 1053, 3)) (hy : y.cls = R_Js) (k : G X g d k0 kE y cc nL ret Q (pc + 3) ls (vr ((X.1 3001 : Nat) : Int) :: st) K M) : G X g d k0 kE y cc nL ret Q pc ls st K M :=
  G_go (fun hx hb C hH hS hl hlv hsv kk => by
    have hK := (C.2.2.2.2.2.2.2.2.1.2.2).2.2.2
    have h9 := kk (vcons (v := vr ((X.1 3001 : Nat) : Int)) (show (0 : Int) ≤ _ by omega) hsv) hlv _ hl
    exact va_gets hx hb hK hS (hy ▸ C.2.2.2.2.1) (C.2.2.2.2.2.1 _ fs_1053) (fun _ h => h) hd h9) k
theorem G_sbal {i : Nat} {j : Int} (hi : i < 11) (hd : decode cc pc = .ok (.baload, 1)) (hj : 0 ≤ j ∧ j < lnsD i) (k : G X g d k0 kE y cc nL ret Q (pc + 1) ls (vi (bysD i j.toNat) :: st) K M) : G X g d k0 kE y cc nL ret Q pc ls (vi j :: vr ((2000 + i : Nat) : Int) :: st) K M :=
  G_go (fun hx hb C hH hS hl hlv hsv kk => by
    have hK := ((C.2.2.2.2.2.2.2.2.1.2.2).1.1 i hi).2.2.2
    obtain ⟨e1, e2⟩ := ix_in hj (vhd hsv)
    have h9 := kk (vcons (v := vi (bysD i j.toNat)) (i32_rng _) (vtl (vtl hsv))) hlv _ hl
    rw [List.map_cons, List.map_cons, conc_ref X.1 (by omega)]
    refine va_tb (v := conc X.1 (vi (bysD i j.toNat))) hx hb hK hS e2 ?_ hd h9
    show Value.int _ = Value.int (Int32.ofInt _)
    rw [e1]
    unfold bysD
    rw [Int32.ofInt_toInt]) k
theorem G_slen {i : Nat} (hi : i < 11) (hd : decode cc pc = .ok (.arraylength, 1)) (k : G X g d k0 kE y cc nL ret Q (pc + 1) ls (vi (lnsD i : Int) :: st) K M) : G X g d k0 kE y cc nL ret Q pc ls (vr ((2000 + i : Nat) : Int) :: st) K M :=
  G_go (fun hx hb C hH hS hl hlv hsv kk => by
    have hK := ((C.2.2.2.2.2.2.2.2.1.2.2).1.1 i hi).2.2.2
    have hn : lnsD i < 100 := by
      have : ∀ i : Nat, i < 11 → lnsD i < 100 := by decide
      exact this i hi
    have h9 := kk (vcons (v := vi (lnsD i : Int)) (show -2147483648 ≤ (lnsD i : Int) ∧ (lnsD i : Int) < 2147483648 by omega) (vtl hsv)) hlv _ hl
    rw [List.map_cons, conc_ref X.1 (by omega)]
    exact va_tlen hx hb hK hS (v := Int32.ofInt (lnsD i : Int)) (Int32.ofInt_eq_ofNat (n := lnsD i)).symm hd h9) k
theorem G_callSt {idx : Nat} {y2 : MethodName} {b2 : ByteArray} {nL2 n2 d2 : Nat} {ret2 : Option FieldType} {Q2 : Option PV → Mem → Prop} {K1 : Nat} {i : Nat} {as rest stk : List PV} (hi : i < 11) (hd : decode cc pc = .ok (.invokevirtual idx, 3)) (hM : MFv y2 b2 nL2 ret2 n2) (hl : Cond.methodLink y.cls idx y2 ∈ UW) (hcl : y2.cls = R_Js) (hstk : stk = as.reverse ++ vr ((1000 + i : Nat) : Int) :: rest) (hn : as.length = n2) (hroom : pcs rest ≤ 8) (hd2 : d2 + 1 ≤ d) (hK : K ≤ K1 ∧ K1 ≤ kE) (hc : MG X g d2 K K1 y2 b2 nL2 ret2 (vr ((1000 + i : Nat) : Int) :: as) M Q2)
    (kk : ∀ r M', (∀ v ∈ r, vok v) → Q2 r M' → G X g d k0 kE y cc nL ret Q (pc + 3) ls (r.toList ++ rest) K1 M') : G X g d k0 kE y cc nL ret Q pc ls stk K M := by
  subst hstk
  intro p l e R s m args below meth c H locs arr cells slots Tg C hH hS hls hlv hsv hcc hs hKE hend
  obtain ⟨hva, hvr⟩ := vapp hsv
  have ho1 : 1 ≤ 1000 + i := by omega
  have hP := PcOK (vr ((1000 + i : Nat) : Int) :: as) C.2.2.2.2.2.2.2.2.1 hH hS
  have r := csz_room hcc hs hK.1 hK.2 C.2.2.2.2.2.2.2.2.2.2.2.1 C.2.2.2.2.2.2.2.2.2.2.2.2.1
  have hrec := vk_recv (C.2.2.2.2.2.2.2.2.1.2.2).1 hi hS
  have hc' := hc (vcons (vhd hvr) hva) l
  have hP2 : PreV s H y2.cls (X.1 (1000 + i)) (fun (a : Array Value) (U : State) => a = ((vr ((1000 + i : Nat) : Int) :: as).map (conc X.1)).toArray ∧ HP X g K M U.heap ∧ KX X U) (as.map (conc X.1)) :=
    ⟨hP.1, by rw [hcl]; exact hrec, fun U hU hW => ⟨by rw [List.map_cons, conc_ref X.1 ho1], (hP.2 U hU hW).2⟩⟩
  refine W_back (va_runV (As := as.map (conc X.1)) (rest := rest.map (conc X.1)) (g := F0 m pc arr ((as.reverse ++ vr ((1000 + i : Nat) : Int) :: rest).map (conc X.1))) ⟨C.1, C.2.1, C.2.2.2.1, C.2.2.2.2.1, C.2.2.2.2.2.1⟩ hc' ⟨mkCallB C hM.1 hl hd2, C.2.2.2.2.2.1 _ hM.2.1, C.2.2.2.2.2.1 _ hM.2.2⟩ hP2 rfl (by rw [List.length_map]; exact hn) hls.1 (by rw [List.map_append, List.map_reverse, List.map_cons, conc_ref X.1 ho1]) (lv_room (by rw [pcs_e]; exact hroom)) hd r) hS (fun r M' H1 locs1 hok hQ2 hHP hS1 => ?_)
  obtain ⟨a1, a2⟩ := cs_arith (k0 := k0) (by omega) hcc hs hK.1
  rw [toL]
  exact kk r M' hok hQ2 p l e R s m args below meth c H1 locs1 arr _ _ Tg C hHP hS1 hls hlv (fun v hv => (List.mem_append.mp hv).elim (fun h => hok v (by simpa using h)) (vtl hvr v)) a1 a2 hK.2 hend
theorem G_mmax {a b : Int} (hd : decode cc pc = .ok (.invokestatic 92, 3)) (hy : y.cls = R_Jl) (h1 : 1 ≤ d) (hr : pcs st ≤ 8) (hKE : K ≤ kE) (hcell : True) (k : G X g d k0 kE y cc nL ret Q (pc + 3) ls (vi (if a < b then b else a) :: st) K M) : G X g d k0 kE y cc nL ret Q pc ls (vi b :: vi a :: st) K M := by
  intro p l e R s m args below meth c H locs arr cells slots Tg C hH hS hls hlv hsv hcc hs hKK hend
  have ha : -2147483648 ≤ a ∧ a < 2147483648 := vhd (vtl hsv)
  have hb : -2147483648 ≤ b ∧ b < 2147483648 := vhd hsv
  have h9 := k p l e R s m args below meth c H locs arr cells slots Tg C hH hS hls hlv (vcons (v := vi (if a < b then b else a)) (show -2147483648 ≤ (if a < b then b else a) ∧ (if a < b then b else a) < 2147483648 by split <;> assumption) (vtl (vtl hsv))) hcc hs hKK hend
  obtain ⟨q1, q2, q3, q4, q5, q6, q7, q8, q9, q10, q11, q12, q13, q14⟩ := C
  have e : (if Int32.ofInt a < Int32.ofInt b then Int32.ofInt b else Int32.ofInt a) = Int32.ofInt (if a < b then b else a) := by
    by_cases h : a < b
    · rw [if_pos h, if_pos ((i32_lt ha hb).mpr h)]
    · rw [if_neg h, if_neg (fun hh => h ((i32_lt ha hb).mp hh))]
  refine va_mmax q1 q2 (by rw [q4]; exact hls.1.symm) (own := R_Jl) (hy ▸ q5) (q6 _ mm_max_l) (q6 _ mm_max_s) (q6 _ mm_ini) (q6 _ mm_max_c) (by omega) (by rw [pcs_e]; omega) (by omega) (by have := csz_mono hKK; omega) hd ?_
  rw [e]
  exact h9
theorem G_mmin {a b : Int} (hd : decode cc pc = .ok (.invokestatic 38, 3)) (hy : y.cls = R_Jl) (h1 : 1 ≤ d) (hr : pcs st ≤ 8) (hKE : K ≤ kE) (hcell : True) (k : G X g d k0 kE y cc nL ret Q (pc + 3) ls (vi (if b < a then b else a) :: st) K M) : G X g d k0 kE y cc nL ret Q pc ls (vi b :: vi a :: st) K M := by
  intro p l e R s m args below meth c H locs arr cells slots Tg C hH hS hls hlv hsv hcc hs hKK hend
  have ha : -2147483648 ≤ a ∧ a < 2147483648 := vhd (vtl hsv)
  have hb : -2147483648 ≤ b ∧ b < 2147483648 := vhd hsv
  have h9 := k p l e R s m args below meth c H locs arr cells slots Tg C hH hS hls hlv (vcons (v := vi (if b < a then b else a)) (show -2147483648 ≤ (if b < a then b else a) ∧ (if b < a then b else a) < 2147483648 by split <;> assumption) (vtl (vtl hsv))) hcc hs hKK hend
  obtain ⟨q1, q2, q3, q4, q5, q6, q7, q8, q9, q10, q11, q12, q13, q14⟩ := C
  have e : (if Int32.ofInt b < Int32.ofInt a then Int32.ofInt b else Int32.ofInt a) = Int32.ofInt (if b < a then b else a) := by
    by_cases h : b < a
    · rw [if_pos h, if_pos ((i32_lt hb ha).mpr h)]
    · rw [if_neg h, if_neg (fun hh => h ((i32_lt hb ha).mp hh))]
  refine va_mmin q1 q2 (by rw [q4]; exact hls.1.symm) (own := R_Jl) (hy ▸ q5) (q6 _ mm_min_l) (q6 _ mm_min_s) (q6 _ mm_ini) (q6 _ mm_min_c) (by omega) (by rw [pcs_e]; omega) (by omega) (by have := csz_mono hKK; omega) hd ?_
  rw [e]
  exact h9
def i2bV (x : Int) : Int := x.bmod 256
theorem G_i2b {a : Int} (hd : decode cc pc = .ok (.i2b, 1)) (ha : 0 ≤ a ∧ a < 128) (k : G X g d k0 kE y cc nL ret Q (pc + 1) ls (vi a :: st) K M) : G X g d k0 kE y cc nL ret Q pc ls (vi a :: st) K M :=
  G_go (fun hx hb C hH hS hl hlv hsv kk => by
    have h9 := kk hsv hlv _ hl
    refine lv_i2b hx hb hd (v := Int32.ofInt a) ?_ h9
    apply Int32.toInt_inj.mp
    rw [Int8.toInt_toInt32, Int32.toInt_toInt8, i32_in (by omega)]
    exact Int.bmod_eq_of_le (by omega) (by omega)) k
end GS
