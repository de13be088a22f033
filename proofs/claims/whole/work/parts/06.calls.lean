/-! THE ROWS OF THE PURE LAYER: calls, new cells -/
def pcs : List PV → Nat
  | [] => 0
  | .inr (.inl _) :: vs => pcs vs + 2
  | _ :: vs => pcs vs + 1
theorem pcs_e (X : WX) (l : List PV) : ((l.map (conc X.1)).map fun v => v.category).sum = pcs l := by
  induction l with
  | nil => rfl
  | cons v vs ih =>
    rcases v with x | x | x
    · rw [List.map_cons, List.map_cons, List.sum_cons, ih, conc_cat_i]; simp [pcs]; omega
    · rw [List.map_cons, List.map_cons, List.sum_cons, ih, conc_cat_l]; simp [pcs]; omega
    · rw [List.map_cons, List.map_cons, List.sum_cons, ih, conc_cat_r]; simp [pcs]; omega
/-- a method that can be called: its words -/
def MF (y : MethodName) (b : ByteArray) (nL : Nat) (ret : Option FieldType) (n : Nat) : Prop :=
  Cond.code y b nL ret ∈ UW ∧ Cond.initialized y.cls ∈ UW ∧ (y.cls ≠ "java/lang/invoke/MethodHandle" ∧ y.cls ≠ "java/lang/invoke/VarHandle") ∧ (parseMethodDescriptor y.desc).map (fun d => d.parameters.length) = some n ∧ nL ≤ 40
def MFs (y : MethodName) (b : ByteArray) (nL : Nat) (ret : Option FieldType) (n : Nat) : Prop := MF y b nL ret n ∧ Cond.static y ∈ UW
def MFv (y : MethodName) (b : ByteArray) (nL : Nat) (ret : Option FieldType) (n : Nat) : Prop := MF y b nL ret n ∧ Cond.instanceMethod y ∈ UW ∧ Cond.selects y.cls y y ∈ UW
def MFi (y : MethodName) (b : ByteArray) (nL : Nat) (n : Nat) : Prop := MF y b nL none n ∧ Cond.instanceMethod y ∈ UW ∧ y.name = "<init>"
theorem UW_pay {s : State} {args : Array Value} (hts : ∀ w ∈ UW, w.before args s = true) {w : Cond} (h : w ∈ UW) (a' : Array Value) (U : State) (hW : s.WarmedH U.vm) : w.before a' U = true :=
  word_at hW (good_of_word (UW_good w h)) (hts w h)
section GC
variable {X : WX} {g : SG} {d k0 kE : Nat} {y : MethodName} {cc : ByteArray} {nL : Nat} {ret : Option FieldType} {Q : Option PV → Mem → Prop} {pc : Nat} {ls : List (Nat × PV)} {st : List PV} {K : Nat} {M : Mem}
theorem toL (X : WX) (r : Option PV) (rest : List PV) : (r.map (conc X.1)).toList ++ rest.map (conc X.1) = (r.toList ++ rest).map (conc X.1) := by
  cases r <;> simp
theorem W_back {p : Program} {l : Launch} {e : Env} {R : Room} {s : State} {m : MethodId} {args : Array Value} {below : List Frame} {meth : Method} {c : Code} {H : Heap} {locs : List Loc} {cells slots mc ms : Nat} {Tg : State → Prop} {arr : Array Slot} {st0 rest : List Value} {K1 : Nat} {Q2 : Option PV → Mem → Prop}
    (hr : va_Run p l e R s m args below meth c H locs cells slots mc ms (F0 m pc arr st0) rest (fun (st : State) (o : Outcome) (t : State) => ∃ (r : Option PV) (M' : Mem), o = .returned (r.map (conc X.1)) ∧ (∀ v ∈ r, vok v) ∧ Q2 r M' ∧ HP X g K1 M' t.heap ∧ va_F (own X) st t) (own X))
    (hS : va_S (own X) s.heap H locs)
    (kk : ∀ (r : Option PV) (M' : Mem) (H1 : Heap) (locs1 : List Loc), (∀ v ∈ r, vok v) → Q2 r M' → HP X g K1 M' H1 → va_S (own X) s.heap H1 locs1 → W p l e R s m args below meth c H1 locs1 (cells + mc) (slots + ms) Tg (F0 m (pc + 3) arr ((r.map (conc X.1)).toList ++ rest))) :
    W p l e R s m args below meth c H locs cells slots Tg (F0 m pc arr st0) := by
  intro T hT X1
  obtain ⟨v, st₀, t, T', L, h0, X', hL, e1, e2, ⟨r, M', hv, hok, hQ, hHP, hz, hkept⟩, stp⟩ := hr T hT X1
  have hv' : v = r.map (conc X.1) := Outcome.returned.inj hv
  subst hv'
  rw [h0] at hz hkept
  obtain ⟨t2, a1, b1⟩ := kk r M' T'.heap (locs ++ L) hok hQ (by rw [e1]; exact hHP)
    ⟨Nat.le_trans hS.1 (by rw [e1]; exact hz), fun q h1 h2 => by rw [e1, hkept q (Nat.lt_of_lt_of_le h1 hS.1) h2]; exact hS.2.1 q h1 h2, fun q hq => by
      rcases List.mem_append.mp hq with h | h
      · exact hS.2.2 q h
      · exact hL q h⟩ T' rfl X'
  exact ⟨t2, stp t2 a1, b1⟩
theorem PcOK {s : State} {H : Heap} {K : Nat} (as : List PV) (hK : KX X s) (hH : HP X g K M H) {locs : List Loc} (hS : va_S (own X) s.heap H locs) :
    FrameBlind (fun (a : Array Value) (U : State) => a = (as.map (conc X.1)).toArray ∧ HP X g K M U.heap ∧ KX X U) ∧ ∀ U : State, U.heap = H → s.WarmedH U.vm → ((as.map (conc X.1)).toArray = (as.map (conc X.1)).toArray ∧ HP X g K M U.heap ∧ KX X U) :=
  ⟨fun a U gf mk q => ⟨q.1, q.2.1, KX.calling q.2.2⟩, fun U hU hW => ⟨rfl, by rw [hU]; exact hH, hK.warm hW (fun a h1 h2 => by rw [hU]; exact hS.2.1 a h1 h2)⟩⟩
variable {y2 : MethodName} {b2 : ByteArray} {nL2 n2 d2 K1 idx : Nat} {ret2 : Option FieldType} {Q2 : Option PV → Mem → Prop}
theorem mkCallB {p : Program} {R : Room} {s : State} {m : MethodId} {args : Array Value} {meth : Method} {c : Code} (C : Ctx X d k0 kE y cc nL ret p R s m args meth c) (hM : MF y2 b2 nL2 ret2 n2) (hl : Cond.methodLink y.cls idx y2 ∈ UW) (hd2 : d2 + 1 ≤ d) :
    CallB R s args y.cls idx y2 b2 nL2 ret2 (Cond.code y2 b2 nL2 ret2 :: UW) ({ frames := d2, cells := K1 - K, slots := csz K1 - csz K, locals := 64 * d2 } : Room) (K1 - K) (csz K1 - csz K) n2 := by
  obtain ⟨hx1, hb, hret, hml, hown, hts, hlocks, hnm, hKX, hfr, hlo, -⟩ := C
  obtain ⟨hcode, hini, hno, hpar, hmax⟩ := hM
  refine ⟨rfl, rfl, Nat.le_trans hd2 hfr, ?_, ?_, List.mem_cons_self, hts _ hcode, hts _ hini, hno, fun sig h => ?_, hts _ hl⟩
  · show 8 + (nL2 + 11) + 64 * d2 ≤ R.locals
    omega
  · intro w hw
    rcases List.mem_cons.mp hw with rfl | hw
    · exact UW_pay hts hcode
    · exact UW_pay hts hw
  · rw [h] at hpar
    exact (Option.some.inj hpar).symm
theorem mkCN {p : Program} {R : Room} {s : State} {m : MethodId} {args : Array Value} {meth : Method} {c : Code} (C : Ctx X d k0 kE y cc nL ret p R s m args meth c) (hM : MF y2 b2 nL2 ret2 n2) (hl : (y.cls, idx, y2) ∈ nests) (hd2 : d2 + 1 ≤ d) :
    va_CN R s args y.cls idx y2 R_De b2 nL2 ret2 (Cond.code y2 b2 nL2 ret2 :: UW) ({ frames := d2, cells := K1 - K, slots := csz K1 - csz K, locals := 64 * d2 } : Room) (K1 - K) (csz K1 - csz K) n2 := by
  obtain ⟨hx1, hb, hret, hml, hown, hts, hlocks, hnm, hKX, hfr, hlo, -⟩ := C
  obtain ⟨hcode, hini, hno, hpar, hmax⟩ := hM
  refine ⟨⟨rfl, rfl, Nat.le_trans hd2 hfr, ?_, ?_, List.mem_cons_self⟩, hts _ hcode, hts _ hini, hno, fun sig h => ?_, va_Nw.use rfl (hKX.1.2.1 _ hl)⟩
  · show 8 + (nL2 + 11) + 64 * d2 ≤ R.locals
    omega
  · intro w hw
    rcases List.mem_cons.mp hw with rfl | hw
    · exact UW_pay hts hcode
    · exact UW_pay hts hw
  · rw [h] at hpar
    exact (Option.some.inj hpar).symm
theorem vapp {a b : List PV} (h : ∀ v ∈ a.reverse ++ b, vok v) : (∀ v ∈ a, vok v) ∧ ∀ v ∈ b, vok v :=
  ⟨fun v hv => h v (List.mem_append_left _ (List.mem_reverse.mpr hv)), fun v hv => h v (List.mem_append_right _ hv)⟩
theorem cs_arith {cells slots : Nat} (h0 : k0 ≤ K) (hc : cells + k0 = K) (hs : slots + csz k0 = csz K) (hK : K ≤ K1) : cells + (K1 - K) + k0 = K1 ∧ slots + (csz K1 - csz K) + csz k0 = csz K1 := by
  have := csz_mono hK
  omega
theorem csz_room {R : Room} {cells slots : Nat} (hc : cells + k0 = K) (hs : slots + csz k0 = csz K) (hK : K ≤ K1) (hE : K1 ≤ kE) (r1 : kE - k0 ≤ R.cells) (r2 : csz kE - csz k0 ≤ R.slots) : cells + (K1 - K) ≤ R.cells ∧ slots + (csz K1 - csz K) ≤ R.slots := by
  have := csz_mono hK
  have := csz_mono hE
  omega
theorem G_callS {as rest stk : List PV} (hd : decode cc pc = .ok (.invokestatic idx, 3)) (hM : MFs y2 b2 nL2 ret2 n2) (hl : Cond.methodLink y.cls idx y2 ∈ UW) (hstk : stk = as.reverse ++ rest) (hn : as.length = n2) (hroom : pcs rest ≤ 8) (hd2 : d2 + 1 ≤ d) (hK : K ≤ K1 ∧ K1 ≤ kE) (hc : MG X g d2 K K1 y2 b2 nL2 ret2 as M Q2)
    (kk : ∀ r M', (∀ v ∈ r, vok v) → Q2 r M' → G X g d k0 kE y cc nL ret Q (pc + 3) ls (r.toList ++ rest) K1 M') : G X g d k0 kE y cc nL ret Q pc ls stk K M := by
  subst hstk
  intro p l e R s m args below meth c H locs arr cells slots Tg C hH hS hls hlv hsv hcc hs hKE hend
  obtain ⟨hva, hvr⟩ := vapp hsv
  have hP := PcOK as C.2.2.2.2.2.2.2.2.1 hH hS
  have r := csz_room hcc hs hK.1 hK.2 C.2.2.2.2.2.2.2.2.2.2.2.1 C.2.2.2.2.2.2.2.2.2.2.2.2.1
  refine W_back (va_runS (As := as.map (conc X.1)) (rest := rest.map (conc X.1)) (g := F0 m pc arr ((as.reverse ++ rest).map (conc X.1))) ⟨C.1, C.2.1, C.2.2.2.1, C.2.2.2.2.1, C.2.2.2.2.2.1⟩ (hc hva l) ⟨mkCallB C hM.1 hl hd2, C.2.2.2.2.2.1 _ hM.2⟩ hP rfl (by rw [List.length_map]; exact hn) hls.1 (by rw [List.map_append, List.map_reverse]) (lv_room (by rw [pcs_e]; exact hroom)) hd r) hS (fun r M' H1 locs1 hok hQ2 hHP hS1 => ?_)
  obtain ⟨a1, a2⟩ := cs_arith (k0 := k0) (by omega) hcc hs hK.1
  rw [toL]
  exact kk r M' hok hQ2 p l e R s m args below meth c H1 locs1 arr _ _ Tg C hHP hS1 hls hlv (fun v hv => (List.mem_append.mp hv).elim (fun h => hok v (by simpa using h)) (hvr v)) a1 a2 hK.2 hend
theorem G_callN {as rest stk : List PV} (hd : decode cc pc = .ok (.invokestatic idx, 3)) (hM : MFs y2 b2 nL2 ret2 n2) (hl : (y.cls, idx, y2) ∈ nests) (hstk : stk = as.reverse ++ rest) (hn : as.length = n2) (hroom : pcs rest ≤ 8) (hd2 : d2 + 1 ≤ d) (hK : K ≤ K1 ∧ K1 ≤ kE) (hc : MG X g d2 K K1 y2 b2 nL2 ret2 as M Q2)
    (kk : ∀ r M', (∀ v ∈ r, vok v) → Q2 r M' → G X g d k0 kE y cc nL ret Q (pc + 3) ls (r.toList ++ rest) K1 M') : G X g d k0 kE y cc nL ret Q pc ls stk K M := by
  subst hstk
  intro p l e R s m args below meth c H locs arr cells slots Tg C hH hS hls hlv hsv hcc hs hKE hend
  obtain ⟨hva, hvr⟩ := vapp hsv
  have hP := PcOK as C.2.2.2.2.2.2.2.2.1 hH hS
  have r := csz_room hcc hs hK.1 hK.2 C.2.2.2.2.2.2.2.2.2.2.2.1 C.2.2.2.2.2.2.2.2.2.2.2.2.1
  refine W_back (va_runSN (As := as.map (conc X.1)) (rest := rest.map (conc X.1)) (g := F0 m pc arr ((as.reverse ++ rest).map (conc X.1))) ⟨C.1, C.2.1, C.2.2.2.1, C.2.2.2.2.1, C.2.2.2.2.2.1⟩ (hc hva l) ⟨mkCN C hM.1 hl hd2, C.2.2.2.2.2.1 _ hM.2, trivial⟩ hP rfl (by rw [List.length_map]; exact hn) hls.1 (by rw [List.map_append, List.map_reverse]) (lv_room (by rw [pcs_e]; exact hroom)) hd r) hS (fun r M' H1 locs1 hok hQ2 hHP hS1 => ?_)
  obtain ⟨a1, a2⟩ := cs_arith (k0 := k0) (by omega) hcc hs hK.1
  rw [toL]
  exact kk r M' hok hQ2 p l e R s m args below meth c H1 locs1 arr _ _ Tg C hHP hS1 hls hlv (fun v hv => (List.mem_append.mp hv).elim (fun h => hok v (by simpa using h)) (hvr v)) a1 a2 hK.2 hend
theorem rcv_of {p : Program} {R : Room} {s : State} {m : MethodId} {args : Array Value} {meth : Method} {c : Code} {H : Heap} (C : Ctx X d k0 kE y cc nL ret p R s m args meth c) (hH : HP X g K M H) {o cl : Nat} (hkd : kd o = .inl cl) (hoK : o < K) : ∃ cellB : Cell, H[X.1 o]? = some cellB ∧ cellB.vm.isStatics = false ∧ s.vm.findClass (cR cl) = some cellB.cls := by
  obtain ⟨ho1, -, hc⟩ := kd_in hkd
  obtain ⟨⟨cell, q1, q2, q3, q4⟩, -⟩ := cell_obj hH ho1 hoK hkd
  obtain ⟨-, hfc, -⟩ := C.2.2.2.2.2.2.2.2.1.1.1.1 cl _ (classes_at hc)
  exact ⟨cell, q1, by rw [q3]; rfl, by rw [q2]; exact hfc⟩
theorem G_callV {o cl : Nat} {as rest stk : List PV} (hd : decode cc pc = .ok (.invokevirtual idx, 3)) (hM : MFv y2 b2 nL2 ret2 n2) (hl : Cond.methodLink y.cls idx y2 ∈ UW) (hkd : kd o = .inl cl) (hcl : cR cl = y2.cls) (hoK : o < K) (hstk : stk = as.reverse ++ vr (o : Int) :: rest) (hn : as.length = n2) (hroom : pcs rest ≤ 8) (hd2 : d2 + 1 ≤ d) (hK : K ≤ K1 ∧ K1 ≤ kE) (hc : MG X g d2 K K1 y2 b2 nL2 ret2 (vr (o : Int) :: as) M Q2)
    (kk : ∀ r M', (∀ v ∈ r, vok v) → Q2 r M' → G X g d k0 kE y cc nL ret Q (pc + 3) ls (r.toList ++ rest) K1 M') : G X g d k0 kE y cc nL ret Q pc ls stk K M := by
  subst hstk
  intro p l e R s m args below meth c H locs arr cells slots Tg C hH hS hls hlv hsv hcc hs hKE hend
  obtain ⟨hva, hvr⟩ := vapp hsv
  have ho1 := (kd_in hkd).1
  have hP := PcOK (vr (o : Int) :: as) C.2.2.2.2.2.2.2.2.1 hH hS
  have r := csz_room hcc hs hK.1 hK.2 C.2.2.2.2.2.2.2.2.2.2.2.1 C.2.2.2.2.2.2.2.2.2.2.2.2.1
  have hrec := rcv_of C hH hkd hoK
  rw [hcl] at hrec
  have hc' := hc (vcons (vhd hvr) hva) l
  have hP2 : PreV s H y2.cls (X.1 o) (fun (a : Array Value) (U : State) => a = ((vr (o : Int) :: as).map (conc X.1)).toArray ∧ HP X g K M U.heap ∧ KX X U) (as.map (conc X.1)) :=
    ⟨hP.1, hrec, fun U hU hW => ⟨by rw [List.map_cons, conc_ref X.1 ho1], (hP.2 U hU hW).2⟩⟩
  refine W_back (va_runV (As := as.map (conc X.1)) (rest := rest.map (conc X.1)) (g := F0 m pc arr ((as.reverse ++ vr (o : Int) :: rest).map (conc X.1))) ⟨C.1, C.2.1, C.2.2.2.1, C.2.2.2.2.1, C.2.2.2.2.2.1⟩ hc' ⟨mkCallB C hM.1 hl hd2, C.2.2.2.2.2.1 _ hM.2.1, C.2.2.2.2.2.1 _ hM.2.2⟩ hP2 rfl (by rw [List.length_map]; exact hn) hls.1 (by rw [List.map_append, List.map_reverse, List.map_cons, conc_ref X.1 ho1]) (lv_room (by rw [pcs_e]; exact hroom)) hd r) hS (fun r M' H1 locs1 hok hQ2 hHP hS1 => ?_)
  obtain ⟨a1, a2⟩ := cs_arith (k0 := k0) (by omega) hcc hs hK.1
  rw [toL]
  exact kk r M' hok hQ2 p l e R s m args below meth c H1 locs1 arr _ _ Tg C hHP hS1 hls hlv (fun v hv => (List.mem_append.mp hv).elim (fun h => hok v (by simpa using h)) (vtl hvr v)) a1 a2 hK.2 hend
theorem G_callI {o : Nat} {as rest stk : List PV} (hd : decode cc pc = .ok (.invokespecial idx, 3)) (hM : MFi y2 b2 nL2 n2) (hl : Cond.methodLink y.cls idx y2 ∈ UW) (ho1 : 1 ≤ o) (hstk : stk = as.reverse ++ vr (o : Int) :: rest) (hn : as.length = n2) (hroom : pcs rest ≤ 8) (hd2 : d2 + 1 ≤ d) (hK : K ≤ K1 ∧ K1 ≤ kE) (hc : MG X g d2 K K1 y2 b2 nL2 none (vr (o : Int) :: as) M Q2)
    (kk : ∀ r M', (∀ v ∈ r, vok v) → Q2 r M' → G X g d k0 kE y cc nL ret Q (pc + 3) ls (r.toList ++ rest) K1 M') : G X g d k0 kE y cc nL ret Q pc ls stk K M := by
  subst hstk
  intro p l e R s m args below meth c H locs arr cells slots Tg C hH hS hls hlv hsv hcc hs hKE hend
  obtain ⟨hva, hvr⟩ := vapp hsv
  have hP := PcOK (vr (o : Int) :: as) C.2.2.2.2.2.2.2.2.1 hH hS
  have r := csz_room hcc hs hK.1 hK.2 C.2.2.2.2.2.2.2.2.2.2.2.1 C.2.2.2.2.2.2.2.2.2.2.2.2.1
  have hc' := hc (vcons (vhd hvr) hva) l
  have hP2 : PreS s H (fun (a : Array Value) (U : State) => a = ((vr (o : Int) :: as).map (conc X.1)).toArray ∧ HP X g K M U.heap ∧ KX X U) (.ref (X.1 o) :: as.map (conc X.1)) :=
    ⟨hP.1, fun U hU hW => ⟨by rw [List.map_cons, conc_ref X.1 ho1], (hP.2 U hU hW).2⟩⟩
  refine W_back (va_runI (As := as.map (conc X.1)) (rest := rest.map (conc X.1)) (g := F0 m pc arr ((as.reverse ++ vr (o : Int) :: rest).map (conc X.1))) ⟨C.1, C.2.1, C.2.2.2.1, C.2.2.2.2.1, C.2.2.2.2.2.1⟩ hc' ⟨mkCallB C hM.1 hl hd2, hM.2.2, C.2.2.2.2.2.1 _ hM.2.1⟩ hP2 rfl (by rw [List.length_map]; exact hn) hls.1 (by rw [List.map_append, List.map_reverse, List.map_cons, conc_ref X.1 ho1]) (lv_room (by rw [pcs_e]; exact hroom)) hd r) hS (fun r M' H1 locs1 hok hQ2 hHP hS1 => ?_)
  obtain ⟨a1, a2⟩ := cs_arith (k0 := k0) (by omega) hcc hs hK.1
  rw [toL]
  exact kk r M' hok hQ2 p l e R s m args below meth c H1 locs1 arr _ _ Tg C hHP hS1 hls hlv (fun v hv => (List.mem_append.mp hv).elim (fun h => hok v (by simpa using h)) (vtl hvr v)) a1 a2 hK.2 hend
theorem G_callIN {o : Nat} {as rest stk : List PV} (hd : decode cc pc = .ok (.invokespecial idx, 3)) (hM : MFi y2 b2 nL2 n2) (hl : (y.cls, idx, y2) ∈ nests) (ho1 : 1 ≤ o) (hstk : stk = as.reverse ++ vr (o : Int) :: rest) (hn : as.length = n2) (hroom : pcs rest ≤ 8) (hd2 : d2 + 1 ≤ d) (hK : K ≤ K1 ∧ K1 ≤ kE) (hc : MG X g d2 K K1 y2 b2 nL2 none (vr (o : Int) :: as) M Q2)
    (kk : ∀ r M', (∀ v ∈ r, vok v) → Q2 r M' → G X g d k0 kE y cc nL ret Q (pc + 3) ls (r.toList ++ rest) K1 M') : G X g d k0 kE y cc nL ret Q pc ls stk K M := by
  subst hstk
  intro p l e R s m args below meth c H locs arr cells slots Tg C hH hS hls hlv hsv hcc hs hKE hend
  obtain ⟨hva, hvr⟩ := vapp hsv
  have hP := PcOK (vr (o : Int) :: as) C.2.2.2.2.2.2.2.2.1 hH hS
  have r := csz_room hcc hs hK.1 hK.2 C.2.2.2.2.2.2.2.2.2.2.2.1 C.2.2.2.2.2.2.2.2.2.2.2.2.1
  have hc' := hc (vcons (vhd hvr) hva) l
  have hP2 : PreS s H (fun (a : Array Value) (U : State) => a = ((vr (o : Int) :: as).map (conc X.1)).toArray ∧ HP X g K M U.heap ∧ KX X U) (.ref (X.1 o) :: as.map (conc X.1)) :=
    ⟨hP.1, fun U hU hW => ⟨by rw [List.map_cons, conc_ref X.1 ho1], (hP.2 U hU hW).2⟩⟩
  refine W_back (va_runIN (As := as.map (conc X.1)) (rest := rest.map (conc X.1)) (g := F0 m pc arr ((as.reverse ++ vr (o : Int) :: rest).map (conc X.1))) ⟨C.1, C.2.1, C.2.2.2.1, C.2.2.2.2.1, C.2.2.2.2.2.1⟩ hc' ⟨mkCN C hM.1 hl hd2, hM.2.2, C.2.2.2.2.2.1 _ hM.2.1⟩ hP2 rfl (by rw [List.length_map]; exact hn) hls.1 (by rw [List.map_append, List.map_reverse, List.map_cons, conc_ref X.1 ho1]) (lv_room (by rw [pcs_e]; exact hroom)) hd r) hS (fun r M' H1 locs1 hok hQ2 hHP hS1 => ?_)
  obtain ⟨a1, a2⟩ := cs_arith (k0 := k0) (by omega) hcc hs hK.1
  rw [toL]
  exact kk r M' hok hQ2 p l e R s m args below meth c H1 locs1 arr _ _ Tg C hHP hS1 hls hlv (fun v hv => (List.mem_append.mp hv).elim (fun h => hok v (by simpa using h)) (vtl hvr v)) a1 a2 hK.2 hend
theorem csz_step (k : Nat) : csz (k + 1) = csz k + csz1 k := rfl
/-- a cell comes -/
theorem HP_new {H H' : Heap} (hA : adOK X) (hH : HP X g K M H) (hK1 : 1 ≤ K) (hK9 : K < 1000) (hz : H'.size = H.size + 1) (hq : ∀ q : Nat, q < H.size → H'[q]? = H[q]?) (f : Int → Int) (hc : cellOK X g (fun k i => if k = K then f i else M k i) H' K) : HP X g (K + 1) (fun k i => if k = K then f i else M k i) H' := by
  refine ⟨by rw [hz]; have := hH.1; omega, fun k hk1 hk2 => ?_⟩
  by_cases hk : k = K
  · rw [hk]; exact hc
  · have h := hH.2 k hk1 (by omega)
    have hlt : X.1 k < H.size := by
      have := hA k hk1 (by omega)
      have := hH.1
      omega
    have hrd : ∀ j : Int, rd g (fun k i => if k = K then f i else M k i) k j = rd g M k j := fun j => by unfold rd; simp only [if_neg hk]
    unfold cellOK at h ⊢
    cases hkd : kd k with
    | inl c =>
      rw [hkd] at h
      simp only [hrd]
      exact ⟨h.1.kept (hq _ hlt), h.2⟩
    | inr a =>
      rw [hkd] at h
      simp only [hrd]
      exact ⟨by rw [hq _ hlt]; exact h.1, h.2⟩
def mnew (M : Mem) (K : Nat) : Mem := fun k i => if k = K then 0 else M k i
theorem tok0 {ty : FieldType} (h : tok ty 0 ∨ ∃ t, ty = t ∧ (ty ≠ .float ∧ ty ≠ .double ∧ ty ≠ .short)) : ty ≠ .float → ty ≠ .double → ty ≠ .short → tok ty 0 := by
  intro h1 h2 h3
  cases ty <;> first | exact absurd rfl h1 | exact absurd rfl h2 | exact absurd rfl h3 | (simp [tok])
theorem dflt_e (ad : Nat → Nat) {ty : FieldType} (h1 : ty ≠ .float) (h2 : ty ≠ .double) : defaultValue ty = conc ad (mkv ty 0) := by
  cases ty <;> first | rfl | exact absurd rfl h1 | exact absurd rfl h2
theorem new_size {H : Heap} (hH : HP X g K M H) (hA : adOK X) (h1 : 1 ≤ K) (h9 : K < 1000) : X.1 K = H.size := by
  have := hA K h1 h9
  have := hH.1
  omega
theorem cTy_ok (c i : Nat) (hc : c < 10) (hi : i < cN c) : cTy c i ≠ .float ∧ cTy c i ≠ .double ∧ cTy c i ≠ .short := by
  have : ((List.range 10).all fun c => (List.range (cN c)).all fun i => decide (cTy c i ≠ .float ∧ cTy c i ≠ .double ∧ cTy c i ≠ .short)) = true := by decide +kernel
  have h2 := List.all_eq_true.mp (List.all_eq_true.mp this c (List.mem_range.mpr hc)) i (List.mem_range.mpr hi)
  simpa using h2
theorem g0_rd (M : Mem) (k : Nat) (i : Int) : rd g0 M k i = M k i := rfl
theorem G_new {c idx : Nat} (hg : g = g0) (hd : decode cc pc = .ok (.new idx, 3)) (hkd : kd K = .inl c) (hcl : Cond.classLink y.cls idx (cR c) ∈ UW) (hins : Cond.instantiable (cR c) (cN c) ∈ UW) (hini : Cond.initialized (cR c) ∈ UW) (hK : K + 1 ≤ kE) (hK9 : K < 1000) (kk : G X g d k0 kE y cc nL ret Q (pc + 3) ls (vr (K : Int) :: st) (K + 1) (mnew M K)) : G X g d k0 kE y cc nL ret Q pc ls st K M := by
  subst hg
  obtain ⟨ho1, -, hc⟩ := kd_in hkd
  intro p l e R s m args below meth c0 H locs arr cells slots Tg C hH hS hls hlv hsv hcc hs hKE hend
  have hA := C.2.2.2.2.2.2.2.2.1.2.1
  obtain ⟨hSl, hfc, kC, hkC, hkind⟩ := id (C.2.2.2.2.2.2.2.2.1.1.1.1 c _ (classes_at hc))
  have hKn := C.2.2.2.2.2.2.2.2.1.1.1.1 c _ (classes_at hc)
  have hs1 : csz1 K = cN c := by unfold csz1; rw [hkd]
  have hr1 := C.2.2.2.2.2.2.2.2.2.2.2.1
  have hr2 := C.2.2.2.2.2.2.2.2.2.2.2.2.1
  have hm := csz_mono hK
  rw [csz_step, hs1] at hm
  have hk0 : k0 ≤ K := by omega
  refine W.newcK C.1 C.2.1 C.2.2.2.2.1 (C.2.2.2.2.2.1 _ hcl) (C.2.2.2.2.2.1 _ hins) (C.2.2.2.2.2.1 _ hini) rfl hd (by omega) (by omega) hfc rfl fun H1 kC' hkC' e1 z1 o1 => ?_
  have ha := new_size hH hA ho1 hK9
  have hob := (u_born (cTy c) C.2.2.2.2.2.1 (c_in c hc) hKn hkC' e1 (c_ty c hc))
  have hcell : cellOK X g0 (mnew M K) H1 K := by
    unfold cellOK
    rw [hkd]
    have hz : ∀ i : Int, rd g0 (mnew M K) K i = 0 := fun i => by simp [rd, g0, mnew]
    simp only [hz]
    refine ⟨?_, fun i hi => ?_⟩
    · rw [ha]
      exact hob.to fun i hi => dflt_e X.1 (cTy_ok c i hc hi).1 (cTy_ok c i hc hi).2.1
    · have := cTy_ok c i hc hi
      exact tok0 (Or.inr ⟨_, rfl, this⟩) this.1 this.2.1 this.2.2
  have hHP : HP X g0 (K + 1) (mnew M K) H1 := HP_new hA hH ho1 hK9 z1 o1 (fun _ => 0) hcell
  have hS1 : va_S (own X) s.heap H1 locs := ⟨Nat.le_trans hS.1 (by omega), fun q h1 h2 => by rw [o1 q (Nat.lt_of_lt_of_le h1 hS.1)]; exact hS.2.1 q h1 h2, hS.2.2⟩
  have hW := kk p l e R s m args below meth c0 H1 locs arr (cells + 1) (slots + cN c) Tg C hHP hS1 hls hlv (vcons (v := vr (K : Int)) (show (0 : Int) ≤ K by omega) hsv) (by omega) (by rw [csz_step, hs1]; omega) hK hend
  rw [List.map_cons, conc_ref X.1 ho1, ha] at hW
  exact hW
theorem G_newa {at1 : ArrayType} {n : Nat} {ty : FieldType} (hg : g = g0) (hd : decode cc pc = .ok (.newarray at1, 2)) (hty : newarray.typeOf at1 = ty) (hw : Cond.arrayClass ty ∈ UW) (hta : ty ∈ arrTys) (hkd : kd K = .inr (ty, n)) (hn : n < 1000) (hK1 : 1 ≤ K) (hK : K + 1 ≤ kE) (hK9 : K < 1000) (kk : G X g d k0 kE y cc nL ret Q (pc + 2) ls (vr (K : Int) :: st) (K + 1) (mnew M K)) : G X g d k0 kE y cc nL ret Q pc ls (vi (n : Int) :: st) K M := by
  subst hg
  subst hty
  intro p l e R s m args below meth c0 H locs arr cells slots Tg C hH hS hls hlv hsv hcc hs hKE hend
  have hA := C.2.2.2.2.2.2.2.2.1.2.1
  have hs1 : csz1 K = n := by unfold csz1; rw [hkd]
  have hr1 := C.2.2.2.2.2.2.2.2.2.2.2.1
  have hr2 := C.2.2.2.2.2.2.2.2.2.2.2.2.1
  have hm := csz_mono hK
  rw [csz_step, hs1] at hm
  have hk0 : k0 ≤ K := by omega
  have hcb : componentBytes (newarray.typeOf at1) ≤ 8 := by cases at1 <;> decide
  have hvi : vok (vi (n : Int)) := show -2147483648 ≤ (n : Int) ∧ (n : Int) < 2147483648 by omega
  have e0 : (Int32.ofInt (n : Int)).toNatClampNeg = n := by rw [Int32.toNatClampNeg_ofInt_of_le (by omega) (by omega)]; omega
  refine va_newaK C.1 C.2.1 (C.2.2.2.2.2.1 _ hw) rfl hd rfl (n := Int32.ofInt (n : Int)) (N := n) (by rw [Int32.lt_iff_toInt_lt, i32_in hvi, Int32.toInt_zero]; omega) e0 (by have := Nat.mul_le_mul (Nat.le_of_lt hn) hcb; omega) (by omega) (by omega) rfl fun H1 cA e1 z1 o1 hAr hNm => ?_
  have ha := new_size hH hA hK1 hK9
  have hcA : cA = X.2.2.2.1 (newarray.typeOf at1) := by
    have h2 := (arrK C.2.2.2.2.2.2.2.2.1.1 hta).2
    have h3 : s.vm.findClass ("[" ++ (newarray.typeOf at1).toString) = some (X.2.2.2.1 (newarray.typeOf at1)) := by
      cases at1 <;> exact h2
    exact Option.some.inj (hNm.symm.trans h3)
  have hnt : newarray.typeOf at1 ≠ .float ∧ newarray.typeOf at1 ≠ .double ∧ newarray.typeOf at1 ≠ .short := by
    refine ⟨?_, ?_, ?_⟩ <;> (intro h; rw [h] at hta; revert hta; decide)
  have hcell : cellOK X g0 (mnew M K) H1 K := by
    unfold cellOK
    rw [hkd]
    have hz : ∀ i : Int, rd g0 (mnew M K) K i = 0 := fun i => by simp [rd, g0, mnew]
    simp only [hz]
    refine ⟨?_, fun i hi => tok0 (Or.inr ⟨_, rfl, hnt⟩) hnt.1 hnt.2.1 hnt.2.2⟩
    rw [ha, e1, hcA, dflt_e X.1 hnt.1 hnt.2.1]
  have hHP : HP X g0 (K + 1) (mnew M K) H1 := HP_new hA hH hK1 hK9 z1 o1 (fun _ => 0) hcell
  have hS1 : va_S (own X) s.heap H1 locs := ⟨Nat.le_trans hS.1 (by omega), fun q h1 h2 => by rw [o1 q (Nat.lt_of_lt_of_le h1 hS.1)]; exact hS.2.1 q h1 h2, hS.2.2⟩
  have hW := kk p l e R s m args below meth c0 H1 locs arr (cells + 1) (slots + n) Tg C hHP hS1 hls hlv (vcons (v := vr (K : Int)) (show (0 : Int) ≤ K by omega) (vtl hsv)) (by omega) (by rw [csz_step, hs1]; omega) hK hend
  rw [List.map_cons, conc_ref X.1 hK1, ha] at hW
  exact hW
theorem G_anewa {n idx : Nat} (hg : g = g0) (hd : decode cc pc = .ok (.anewarray idx, 3)) (hcl : Cond.classLink y.cls idx "MirrorDesk$Evaluation" ∈ UW) (hkd : kd K = .inr (.object "MirrorDesk$Evaluation", n)) (hn : n < 1000) (hK1 : 1 ≤ K) (hK : K + 1 ≤ kE) (hK9 : K < 1000) (kk : G X g d k0 kE y cc nL ret Q (pc + 3) ls (vr (K : Int) :: st) (K + 1) (mnew M K)) : G X g d k0 kE y cc nL ret Q pc ls (vi (n : Int) :: st) K M := by
  subst hg
  intro p l e R s m args below meth c0 H locs arr cells slots Tg C hH hS hls hlv hsv hcc hs hKE hend
  have hA := C.2.2.2.2.2.2.2.2.1.2.1
  have hs1 : csz1 K = n := by unfold csz1; rw [hkd]
  have hr1 := C.2.2.2.2.2.2.2.2.2.2.2.1
  have hr2 := C.2.2.2.2.2.2.2.2.2.2.2.2.1
  have hm := csz_mono hK
  rw [csz_step, hs1] at hm
  have hk0 : k0 ≤ K := by omega
  have hvi : vok (vi (n : Int)) := show -2147483648 ≤ (n : Int) ∧ (n : Int) < 2147483648 by omega
  have e0 : (Int32.ofInt (n : Int)).toNatClampNeg = n := by rw [Int32.toNatClampNeg_ofInt_of_le (by omega) (by omega)]; omega
  refine W.anew C.1 C.2.1 C.2.2.2.2.1 (C.2.2.2.2.2.1 _ hcl) (va_AO.use C.2.2.2.2.2.2.2.2.1.1.2.2) rfl hd rfl (n := Int32.ofInt (n : Int)) (by rw [Int32.lt_iff_toInt_lt, i32_in hvi, Int32.toInt_zero]; omega) (by rw [e0]; omega) (by omega) (by rw [e0]; omega) fun cA kA comp f1 f2 f3 f4 => ?_
  rw [e0]
  have ha := new_size hH hA hK1 hK9
  have hcA : cA = X.2.2.2.1 (.object "MirrorDesk$Evaluation") := by
    obtain ⟨kA', comp', g1, g2, g3, g4⟩ := (arrK C.2.2.2.2.2.2.2.2.1.1 (show FieldType.object "MirrorDesk$Evaluation" ∈ arrTys by decide)).2
    exact Option.some.inj (f1.symm.trans g4)
  generalize hH1 : H.push ({ cls := cA, slots := Array.replicate n .null, vm := .none } : Cell) = H1
  have z1 : H1.size = H.size + 1 := by rw [← hH1]; simp
  have o1 : ∀ q : Nat, q < H.size → H1[q]? = H[q]? := fun q hq => by rw [← hH1, Array.getElem?_push, if_neg (Nat.ne_of_lt hq)]
  have e1 : H1[H.size]? = some (arrV cA n (fun _ => .null)) := by rw [← hH1, ← arrV_new]; simp
  have hcell : cellOK X g0 (mnew M K) H1 K := by
    unfold cellOK
    rw [hkd]
    have hz : ∀ i : Int, rd g0 (mnew M K) K i = 0 := fun i => by simp [rd, g0, mnew]
    simp only [hz]
    refine ⟨?_, fun i hi => (show (0 : Int) ≤ 0 from Int.le_refl _)⟩
    rw [ha, e1, hcA]
    rfl
  have hHP : HP X g0 (K + 1) (mnew M K) H1 := HP_new hA hH hK1 hK9 z1 o1 (fun _ => 0) hcell
  have hS1 : va_S (own X) s.heap H1 locs := ⟨Nat.le_trans hS.1 (by omega), fun q h1 h2 => by rw [o1 q (Nat.lt_of_lt_of_le h1 hS.1)]; exact hS.2.1 q h1 h2, hS.2.2⟩
  have hW := kk p l e R s m args below meth c0 H1 locs arr (cells + 1) (slots + n) Tg C hHP hS1 hls hlv (vcons (v := vr (K : Int)) (show (0 : Int) ≤ K by omega) (vtl hsv)) (by omega) (by rw [csz_step, hs1]; omega) hK hend
  rw [List.map_cons, conc_ref X.1 hK1, ha] at hW
  exact hW
theorem G_aastore {o v n c : Nat} {i : Int} (hd : decode cc pc = .ok (.aastore, 1)) (hkd : kd o = .inr (.object "MirrorDesk$Evaluation", n)) (hkv : kd v = .inl 1) (ho : 1 ≤ o ∧ o < K) (hvK : v < K) (hK9 : K ≤ 1000) (hg : g o i = none) (hi : 0 ≤ i ∧ i < n) (kk : G X g d k0 kE y cc nL ret Q (pc + 1) ls st K (mset M o i v)) : G X g d k0 kE y cc nL ret Q pc ls (vr (v : Int) :: vi i :: vr (o : Int) :: st) K M := by
  intro p l e R s m args below meth c H locs arr cells slots Tg C hH hS hls hlv hsv hcc hs hK hend
  have hv1 := (kd_in hkv).1
  obtain ⟨q1, q2⟩ := cell_arr hH ho.1 ho.2 hkd
  obtain ⟨e1, e2⟩ := ix_in hi (vhd (vtl hsv))
  obtain ⟨⟨cellV, g1, g2, g3, -⟩, -⟩ := cell_obj hH hv1 hvK hkv
  have hcls := (C.2.2.2.2.2.2.2.2.1.1.1.1 1 _ (classes_at (by decide))).2
  obtain ⟨kA, comp, k1, k2, k3, -⟩ := (arrK C.2.2.2.2.2.2.2.2.1.1 (show FieldType.object "MirrorDesk$Evaluation" ∈ arrTys by decide)).2
  have hcomp : comp = X.2.1 1 := Option.some.inj (k3.symm.trans hcls.1)
  subst hcomp
  obtain ⟨kC, hkC, -⟩ := hcls.2
  rw [List.map_cons, List.map_cons, List.map_cons, conc_ref X.1 ho.1, conc_ref X.1 hv1]
  refine W.aast C.1 C.2.1 q1 (fun q h => by cases h) (fun h => by cases h) k1 k2 rfl hkC ⟨fun q => e2 (Or.inl q), by rw [arrV_size]; exact Nat.not_le.mp fun q => e2 (Or.inr q)⟩ g1 (fun q h => by rw [g3] at h; cases h) (by rw [g2]; exact hkC) (by rw [g2]; exact va_assign hcls) rfl rfl hd fun H' z1 z2 z3 => ?_
  rw [e1] at z1 ⊢
  exact kk p l e R s m args below meth c H' _ arr cells slots Tg C (HP_upd C.2.2.2.2.2.2.2.2.1.2.1 hH hK9 ho.1 ho.2 z2 z3 (arr_after hkd hg hi.1 q2 (show (0 : Int) ≤ (v : Int) by omega) (by rw [show mkv (.object "MirrorDesk$Evaluation") (v : Int) = vr (v : Int) from rfl, conc_ref X.1 hv1]; exact z1))) (hS.put z2 z3 (ad_own C.2.2.2.2.2.2.2.2.1.2.1 ho.1 (by omega))) hls hlv (vtl (vtl (vtl hsv))) hcc hs hK hend
theorem G_objInit {o : Nat} (hd : decode cc pc = .ok (.invokespecial idx, 3)) (hl : Cond.methodLink y.cls idx objectInit ∈ UW) (hi : Cond.instanceMethod objectInit ∈ UW) (hc : Cond.code objectInit ⟨#[0xb1]⟩ 1 none ∈ UW) (ho : 1 ≤ o) (hd1 : 1 ≤ d) (hroom : pcs st ≤ 8) (kk : G X g d k0 kE y cc nL ret Q (pc + 3) ls st K M) : G X g d k0 kE y cc nL ret Q pc ls (vr (o : Int) :: st) K M := by
  refine G_go (fun hx hb C hH hS hls hlv hsv kk => ?_) kk
  rw [List.map_cons, conc_ref X.1 ho]
  have h1 := C.2.2.2.2.2.2.2.2.2.1
  have h2 := C.2.2.2.2.2.2.2.2.2.2.1
  refine W.objInit hx hb C.2.2.2.2.1 (C.2.2.2.2.2.1 _ hl) (C.2.2.2.2.2.1 _ hi) (C.2.2.2.2.2.1 _ hc) rfl (by rw [C.2.2.2.1]; exact hls.1) rfl hd (by omega) ?_ (kk (vtl hsv) hlv _ hls)
  have h3 := lv_room (m := default) (pc := 0) (ls := #[]) (rest := []) (st := st.map (conc X.1)) (by rw [pcs_e]; exact hroom)
  rw [pcs_e] at h3 ⊢
  have h4 : ∀ (m : MethodId), 2 * (F0 m pc (#[] : Array Slot) []).monitorRoom = 0 := fun _ => rfl
  show 2 * 0 + pcs st + 12 ≤ _
  omega
end GC
