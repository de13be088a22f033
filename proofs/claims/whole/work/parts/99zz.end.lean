/-! THE CLAIM OUT OF ONE WALK OF THE LAW'S BODY. Your part is whole_start (and what it stands on); all else here is the same for every law, but numbers. -/
def R_law : String := "MirrorDeskLaw"
def lw_P (b : Addr) (xs : List Int32) (args : Array Value) (s : State) : Prop := args = #[.ref b] ∧ s.IntsAt b xs ∧ xs.length ≤ 320 ∧ (Jvm.Cond.and given_1 narrow_1).before args s = true
def lw_Q (_ : Array Value) (s : State) (o : Outcome) (t : State) : Prop := o = .returned (some (.int 1)) ∧ Framed s o t [] 600000 7302250
def lw_Z (below : List Frame) (a : Array Value) (s : State) : State → Prop := fun t => ∃ o, t.status = .running ∧ Ended t below o ∧ lw_Q a s o t
/-- the law's own end, with 1 on the stack, nothing written that was there before, its room as the claim has it -/
theorem lw_ret {p : Program} {l : Launch} {e : Env} {s : State} {m : MethodId} {below : List Frame} {meth : Method} {c : Code} {b : Nat} (hx : p.tables.exec = Jvm.exec) (hb : c.code = code) (hr : meth.sig.returnType = ret) (hlocks : meth.locks = false) {pc : Nat} {H : Heap} {ls : Array Slot} (hdg : decode code pc = .ok (.ireturn, 1)) : W p l e room_1 s m #[Value.ref b] below meth c H [] 600000 7302250 (lw_Z below #[Value.ref b] s) (F0 m pc ls [.int 1]) := by
  intro T hT X
  obtain ⟨fs, hret, hrun, hended, hW, hframe⟩ := X.leave (v := some (.int 1)) (hlocks := hlocks) (fun h => by rw [hr] at h; cases h)
  have hmeth' : T.vm.method? m = some meth := X.method'
  refine ⟨T.setFrames fs, ?_, .returned (some (.int 1)), hrun, hended, rfl, ⟨_, rfl⟩, hW, hframe⟩
  jvm_step X.here [X.here.top, hx, hb, hdg, hmeth', hr, ret, narrow_b1]
  (try refine ⟨rfl, ?_⟩); (try refine ⟨rfl, ?_⟩)
  first | (intro acts; rw [hret _ acts rfl rfl rfl]) | rw [hret _ _ rfl rfl rfl]
  exact Steps.refl _
/-- what holds at the law's entry: the machine, the code, the tables' words (any of lw_tbl by 'hts w (by decide +kernel)'), the script of L ints xs at the cell b, what the Statement gives of the start (any of its parts by flat_of_before) -/
def lw_At (p : Program) (s : State) (m : MethodId) (meth : Method) (c : Code) (b L : Nat) (xs : Nat → Int32) : Prop :=
  p.tables.exec = Jvm.exec ∧ c.code = code ∧ meth.sig.returnType = ret ∧ c.maxLocals = 4 ∧ s.vm.findClass R_law = some m.cls ∧ (∀ w ∈ lw_tbl, w.before #[Value.ref b] s = true) ∧ va_X b L xs s s.heap ∧ b < s.heap.size ∧ meth.locks = false ∧ (Jvm.Cond.and given_1 narrow_1).before #[Value.ref b] s = true
set_option maxHeartbeats 4000000 in
set_option maxRecDepth 100000 in
/-- THE LAW, from its entry -/
theorem whole_start {p : Program} {e : Env} {s : State} {m : MethodId} {below : List Frame} {meth : Method} {c : Code} (l : Launch) (hflags : l.flags = flags0) {b L : Nat} {xs : Nat → Int32} (hL : L ≤ 320) (C0 : lw_At p s m meth c b L xs) : W p l e room_1 s m #[Value.ref b] below meth c s.heap [] 0 0 (lw_Z below #[Value.ref b] s) (entryFrame m ([Value.ref b] : List Value).toArray 4) := by
  obtain ⟨hx, hb, hr, hml, hown, hts, hX, hbl, hlocks, hgv⟩ := id C0
  have hs : ∀ w ∈ FLT, w.before #[Value.ref b] s = true := flat_of_before _ hgv
  have htu : ∀ w ∈ UW, w.before #[Value.ref b] s = true := fun w hw => hts w (UW_tbl w hw)
  have hA : ∀ a : Nat, a < s.heap.size → ¬ (fun q : Nat => s.heap.size ≤ q) a := fun a h => Nat.not_le.mpr h
  -- the classes
  have hk1 : ∀ c : Nat, ∃ q : ClassId × (Nat → Nat), c < 10 → u_Kn s (cR c) (cT c) (cN c) q.1 q.2 := fun c => by
    by_cases h : c < 10
    · obtain ⟨cC, iS, hq⟩ := k_all htu c h
      exact ⟨(cC, iS), fun _ => hq⟩
    · exact ⟨(default, fun _ => 0), fun h2 => absurd h2 h⟩
  obtain ⟨D, hD⟩ := Classical.axiomOfChoice hk1
  have ha1 : ∀ ty : FieldType, ∃ cA : ClassId, ty ∈ arrTys → ArrOfT s cA ty ∧ va_RA s cA ty := fun ty => by
    by_cases h : ty ∈ arrTys
    · obtain ⟨cA, hq⟩ := arr_all hts ty h
      exact ⟨cA, fun _ => hq⟩
    · exact ⟨default, fun h2 => absurd h2 h⟩
  obtain ⟨arc, hArc⟩ := Classical.axiomOfChoice ha1
  -- the String constants
  obtain ⟨aK, aV, hSt, hEv⟩ := vk_Sof (args := #[Value.ref b]) (s := s) (N := 11) (tm := tmS) (len := lenS) (byt := bytS) (A := fun q : Nat => s.heap.size ≤ q) (by decide) (fun i hi => hs _ (n_ex i hi)) (fun i hi => hs _ (n_co i hi)) (fun i hi => hs _ (n_ar i hi)) (fun i hi => hs _ (n_le i hi)) (fun i hi j hj => hs _ (n_el i hi j hj))
    (fun i j hi hj hij => (n_ne i hi j hj hij).elim (fun h => Or.inl (hs _ h)) (fun h => Or.inr (hs _ h))) hA
  have hZ1 := va_Zof (A := fun q : Nat => s.heap.size ≤ q) (hts _ w_z1) (hts _ w_z2) (va_eqt (hs _ n_cs)) hA
  have hZ2 := va_Zqof (A := fun q : Nat => s.heap.size ≤ q) (hts _ w_z3) (hts _ w_z4) (hs _ n_si) hA
  obtain ⟨nr, tt, hZ3⟩ : ∃ nr tt : Nat, (nr = 0 ∧ va_Z "jdk/internal/util/Preconditions" "SIOOBE_FORMATTER" "Ljava/util/function/BiFunction;" .null (fun q : Nat => s.heap.size ≤ q) s s.heap) ∨ (nr = 3003 ∧ va_Z "jdk/internal/util/Preconditions" "SIOOBE_FORMATTER" "Ljava/util/function/BiFunction;" (.ref tt) (fun q : Nat => s.heap.size ≤ q) s s.heap) := by
    rcases hZ2 with h | ⟨t, h⟩
    · exact ⟨0, 0, Or.inl ⟨rfl, h⟩⟩
    · exact ⟨3003, t, Or.inr ⟨rfl, h⟩⟩
  obtain ⟨X, hXd⟩ : ∃ X : WX, X = (adr s.heap.size aK aV nr tt b, fun c => (D c).1, fun c => (D c).2, arc, s.heap.size) := ⟨_, rfl⟩
  have x1 : X.1 = adr s.heap.size aK aV nr tt b := by rw [hXd]
  have xK : ∀ i : Nat, i < 11 → X.1 (1000 + i) = aK i := fun i hi => by
    rw [x1]; unfold adr
    rw [if_neg (by omega), if_pos (by omega), show 1000 + i - 1000 = i by omega]
  have xV : ∀ i : Nat, i < 11 → X.1 (2000 + i) = aV i := fun i hi => by
    rw [x1]; unfold adr
    rw [if_neg (by omega), if_neg (by omega), if_pos (by omega), show 2000 + i - 2000 = i by omega]
  have x3 : X.1 3001 = nr := by rw [x1]; rfl
  have x4 : X.1 3002 = b := by rw [x1]; rfl
  have x5 : X.1 3003 = tt := by rw [x1]; rfl
  have xB : X.2.2.2.2 = s.heap.size := by rw [hXd]
  have hown2 : own X = fun q : Nat => s.heap.size ≤ q := by unfold own; rw [xB]
  have hAd : adOK X := fun k h1 h2 => by
    rw [x1, xB]; unfold adr
    rw [if_pos h2]; omega
  have hKT : KT X s := by
    refine ⟨⟨fun c q hq => ?_, fun k q hq => ?_⟩, fun q hq => va_Nw.of rfl (hts _ (w_ne q hq)), va_AO.of (hts _ w_ao)⟩
    · by_cases h : c < 10
      · rw [classes_at h] at hq
        cases hq
        rw [hXd]
        exact hD c h
      · rw [List.getElem?_eq_none (by show classes.length ≤ c; have : classes.length = 10 := rfl; omega)] at hq
        cases hq
    · rw [List.getElem?_map] at hq
      cases ht : arrTys[k]? with
      | none => rw [ht] at hq; cases hq
      | some ty =>
        rw [ht] at hq
        cases hq
        rw [hXd]
        exact hArc ty (List.mem_of_getElem? ht)
  have hKS : KS X s := by
    refine ⟨?_, fun i hi => ?_, by rw [hown2]; exact hZ1, ?_⟩
    · rw [hown2]
      refine ⟨fun i hi => ?_, fun i j hi hj h => ?_⟩
      · show va_O "java/lang/String" (X.1 (1000 + i)) _ _ _ ∧ va_OF "java/lang/String" "coder" "B" (.int 0) (X.1 (1000 + i)) _ _ _ ∧ va_OF "java/lang/String" "value" "[B" (.ref (X.1 (2000 + i))) (X.1 (1000 + i)) _ _ _ ∧ va_T .byte (X.1 (2000 + i)) _ _ _ _ _
        rw [xK i hi, xV i hi]
        exact hSt.1 i hi
      · have h2 : X.1 (1000 + i) = X.1 (1000 + j) := h
        rw [xK i hi, xK j hj] at h2
        exact hSt.2 i j hi hj h2
    · rw [xK i hi]
      exact vk_R.of (hts _ (w_sr i hi)) (hEv i hi)
    · rw [hown2, x3]
      rcases hZ3 with ⟨rfl, h⟩ | ⟨rfl, h⟩
      · exact h
      · have e : conc X.1 (vr ((3003 : Nat) : Int)) = .ref tt := by
          show Value.ref (X.1 3003) = .ref tt
          rw [x5]
        rw [e]
        exact h
  have hC : Ctx X 409 1 KE (yL meth.name) code 4 ret p room_1 s m #[Value.ref b] meth c :=
    ⟨hx, hb, hr, hml, hown, htu, hlocks, rfl, ⟨hKT, hAd, hKS⟩, by decide, by decide, by decide, by decide +kernel, by rw [xB], Nat.le_refl _⟩
  have hl := lv_entry ([.ref b]) (n := 4) (Nat.le_of_ble_eq_true rfl)
  rw [lg_entry_eq]
  have hcb : conc X.1 (vr 3002) = .ref b := by
    show Value.ref (X.1 3002) = .ref b
    rw [x4]
  have hl2 : lv_has ((lg_sl [Value.ref b] ++ List.replicate (4 - (lg_sl [Value.ref b]).length) Slot.unset).toArray) 4 (lmap X [(0, vr 3002)]) := by
    show lv_has _ 4 [(0, conc X.1 (vr 3002))]
    rw [hcb]
    exact hl
  have hSc : Scr X L xs s := ⟨by rw [x4]; exact hX, by rw [x4]; exact hbl, by rw [hown2, x4]; exact Nat.not_le.mpr hbl, hL⟩
  exact lw_begin (X := X) (L := L) (xs := xs) (nm := meth.name) hL p l e room_1 s m #[Value.ref b] below meth c s.heap [] _ 0 0 (lw_Z below #[Value.ref b] s) hSc hC ⟨by rw [xB], fun k h1 h2 => absurd h2 (by omega)⟩ va_S.rf hl2
    (fun q hq => by
      rcases List.mem_cons.mp hq with rfl | hq
      · exact (show (0 : Int) ≤ 3002 by decide)
      · cases hq)
    (fun v hv => by cases hv) rfl (Nat.zero_add _) (by decide)
    (fun H' locs' arr' pc' hS hd => va_forget (fun q hq => by have h := hS.2.2 q hq; rw [hown2] at h; exact h) (W.widen (k := 600000) (n := 7302250) (by decide) (by decide +kernel) (lw_ret hx hb hr hlocks hd)))
set_option maxHeartbeats 4000000 in
theorem lw_walk (l : Launch) (hflags : l.flags = flags0) (b : Addr) (xs : List Int32) : MetFree l x (headSpec (Jvm.Cond.code x code maxLocals ret :: tables_1) room_1) (lw_P b xs) (fun _ _ _ _ _ => True) lw_Q := by
  refine MetFree.of_bodyS (code := code) (maxLocals := maxLocals) (ret := ret) (by decide) ?_ ?_
  · intro args s m h hn
    obtain ⟨meth, c, h1, h2, h3, h4, h5, h6, -, -⟩ := Cond.code_spec hn (atoms_spec (ws := Jvm.Cond.code x code maxLocals ret :: tables_1) h _ List.mem_cons_self)
    exact ⟨meth, c, h1, h2, h3, h4, h5, h6⟩
  · intro p e s m args below meth c s₁ B hml0 hP _
    obtain ⟨rfl, hx, hbd, hgv⟩ := hP
    obtain ⟨scr, harrAt, hlist, hof, hsmall⟩ := hx
    obtain ⟨hcb, hkn, -, -⟩ := State.arrayAt?_spec harrAt
    have hown : s.vm.findClass R_law = some m.cls := findClass_of_methodNamed B.named
    have hts0 : ∀ c ∈ (Jvm.Cond.code x code maxLocals ret :: tables_1), c.before #[Value.ref b] s = true := atoms_spec (ws := Jvm.Cond.code x code maxLocals ret :: tables_1) B.pre
    have hts : ∀ w ∈ lw_tbl, w.before #[Value.ref b] s = true := k2_hts_sels lw_privs (fun w hw => hts0 w (List.mem_cons_of_mem _ hw)) lw_privs_ok
    have hml : c.maxLocals = 4 := B.maxLocals_eq (hts0 _ List.mem_cons_self)
    have X₀ : Stand p l e room_1 s m #[Value.ref b] below meth c s₁ [] 0 0 := Stand.of_body B
    have hh0 : s₁.heap = s.heap := by rw [B.state]; rfl
    have hsz : scr.slots.size = xs.length := by rw [← Array.length_toList, hlist, List.length_map]
    have hval : ∀ j : Nat, j < xs.length → scr.slots[j]? = some (.int (xs.getD j 0)) := fun j hj => by
      rw [← Array.getElem?_toList, hlist]
      simp [hj]
    have hbl : b < s.heap.size := (Array.getElem?_eq_some_iff.mp hcb).1
    have hX : va_X b xs.length (fun j => xs.getD j 0) s s.heap := ⟨scr, hcb, hof, hkn, hsz, hval⟩
    have K : W p l e room_1 s m #[Value.ref b] below meth c s₁.heap [] 0 0 (lw_Z below #[Value.ref b] s) (entryFrame m ([Value.ref b] : List Value).toArray 4) := by
      rw [hh0]
      exact whole_start l hflags hbd ⟨B.exec, B.bytes, B.returns, hml, hown, hts, hX, hbl, B.notSynchronized, hgv⟩
    obtain ⟨t, a1, o, b1, b2, b3⟩ := K s₁ rfl X₀
    exact ⟨t, o, a1, b1, b2, b3⟩
theorem lw_pre_spec {args : Array Value} {s : State} (h : (Jvm.Cond.and given_1 narrow_1).before args s = true) (hr : rest_1_c.before args s = true) : ∃ (b : Addr) (xs : List Int32), lw_P b xs args s := by
  have hs := flat_of_before _ h
  have hq := flat_of_before _ hr
  have hc : (Cond.count 1).before args s = true := hs _ (by decide +kernel)
  have harr : (Cond.arrayOf (.arg 0) .int).before args s = true := hs _ (by decide +kernel)
  have hle : (Cond.le (.length (.arg 0)) (.int 320)).before args s = true := hs _ (by decide +kernel)
  have hlen : (Cond.isInt (.length (.arg 0))).before args s = true := hq _ (by decide +kernel)
  have hall : (Cond.all (.arg 0) (.isInt (.elem (.arg 0) (.index 0)))).before args s = true := hq _ (by decide +kernel)
  obtain ⟨b, xs, hb, hx⟩ := State.ints_of_pre rfl harr hlen hall
  have hsm : xs.length < 2 ^ 31 := hx.choose_spec.2.2.2
  have hev : (Term.length (.arg 0)).eval args s none [] s = some (.int xs.length.toInt32) := hx.length_eval hb
  have hv := Cond.le_ints hev (show (Term.int 320).eval args s none [] s = some (.int 320) from rfl)
  have hd : xs.length.toInt32 ≤ 320 := by
    simpa [Cond.before, Cond.holds, hv] using hle
  have hN : xs.length ≤ 320 := (Int32.ofNat_le_ofNat hsm (by decide)).mp (show Int32.ofNat xs.length ≤ Int32.ofNat 320 from hd)
  exact ⟨b, xs, Cond.one_arg hc (show args[0]? = some (.ref b) from hb), hx, hN, h⟩
theorem lw_comes (l : Launch) (hflags : l.flags = flags0) : Comes l x (Jvm.Cond.code x code maxLocals ret :: tables_1) room_1 (fun tb e args s => Calls_1 tb e args s ∧ rest_1 tb e args s ∧ Pre_1 tb e args s)
    (fun _ _ args s o t => lw_Q args s o t) := by
  intro p e ha hc hk s m args below hf hfit hheap happ hpre
  obtain ⟨b, xs, hP⟩ := lw_pre_spec hpre.2.2 hpre.2.1
  obtain ⟨k, o, h1, h2, h3, hQ⟩ := lw_walk l hflags b xs p e ha hc hk s m args below hf ((Spec.applies_iff_loose hf).mp happ).1 hP trivial
  exact ⟨k, o, h1, h2, h3, hQ⟩
theorem lw_frame {s t : State} {o : Outcome} {args : Array Value} (h : Framed s o t [] 600000 7302250) :
    Framed s o t (fieldLocs frame_1_writes args s ++ arrayLocs frame_1_arrays args s ++ staticLocs frame_1_statics s) 600000 7302250 := h
theorem lw_limb (L : Cond) (hL : ∀ (args : Array Value) (s t : State), L.after args s (.returned (some (.int 1))) t = true) :
    ArmFor flags0 classFile x code maxLocals ret World_1 tables_1 room_1 Calls_1 rest_1 Pre_1
      (fun tb e a s o t => postC L tb e a s o t ∧ Framed s o t (fieldLocs frame_1_writes a s ++ arrayLocs frame_1_arrays a s ++ staticLocs frame_1_statics s) 600000 7302250) := by
  intro l hflags _ _ p e ha hc hk s m args below hf hfit hheap happ hpre
  obtain ⟨k, o, h1, h2, h3, rfl, hF⟩ := lw_comes l hflags p e ha hc hk s m args below hf hfit hheap happ hpre
  exact ⟨k, _, h1, h2, h3, hL args s _, lw_frame hF⟩
theorem i_vc : Claimed_1_1 ∧ Claimed_1_2 := ⟨lw_limb limb_1_1 (fun args s t => by simp [limb_1_1, Cond.after, Cond.holds, Cond.value]), lw_limb limb_1_2 (fun args s t => Cond.after_iff.mpr (by
  first | (rw [show limb_1_2 = Cond.eq .result (.int 1) from rfl, Cond.eq_ints (x := 1) (y := 1) rfl rfl]; simp; done) | (simp [limb_1_2, Cond.value, Term.eval]; done)))⟩
