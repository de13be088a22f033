/-! THE ROWS OF THE PURE LAYER: the heap, calls -/
theorem rd_mset_ne {g : SG} {M : Mem} {k k' : Nat} {i i' v : Int} (h : ¬ (k' = k ∧ i' = i)) : rd g (mset M k i v) k' i' = rd g M k' i' := by
  unfold rd mset
  cases g k' i' with
  | some r => rfl
  | none => simp only [if_neg h]
theorem rd_mset_eq {g : SG} {M : Mem} {k : Nat} {i v : Int} (h : g k i = none) : rd g (mset M k i v) k i = v := by
  unfold rd mset
  rw [h]
  simp
theorem kd_in {k : Nat} {c : Nat} (h : kd k = .inl c) : 1 ≤ k ∧ k < KE ∧ c < 10 := by
  have h1 : ∀ k : Nat, k < 87 → ∀ c, kd k = .inl c → 1 ≤ k ∧ k < 87 ∧ c < 10 := by
    intro k hk c h
    have : ((List.range 87).all fun k => match kd k with | .inl c => decide (1 ≤ k ∧ k < 87 ∧ c < 10) | .inr _ => true) = true := by decide +kernel
    have h2 := List.all_eq_true.mp this k (List.mem_range.mpr hk)
    rw [h] at h2
    simpa using h2
  by_cases hk : k < 87
  · exact h1 k hk c h
  · unfold kd at h
    rw [List.getD_eq_getElem?_getD, List.getElem?_eq_none (by show kdl.length ≤ k; have : kdl.length = 87 := rfl; omega)] at h
    cases h
section GH
variable {X : WX} {g : SG} {d k0 kE : Nat} {y : MethodName} {cc : ByteArray} {nL : Nat} {ret : Option FieldType} {Q : Option PV → Mem → Prop} {pc : Nat} {ls : List (Nat × PV)} {st : List PV} {K : Nat} {M : Mem}
theorem cell_obj {H : Heap} (hH : HP X g K M H) {o c : Nat} (h1 : 1 ≤ o) (h2 : o < K) (hk : kd o = .inl c) : t_OB (X.1 o) (X.2.1 c) (cN c) (X.2.2.1 c) H (fun i => conc X.1 (mkv (cTy c i) (rd g M o i))) ∧ ∀ i : Nat, i < cN c → tok (cTy c i) (rd g M o i) := by
  have h := hH.2 o h1 h2
  unfold cellOK at h
  rw [hk] at h
  exact h
theorem cell_arr {H : Heap} (hH : HP X g K M H) {o n : Nat} {ty : FieldType} (h1 : 1 ≤ o) (h2 : o < K) (hk : kd o = .inr (ty, n)) : H[X.1 o]? = some (arrV (X.2.2.2.1 ty) n (fun j => conc X.1 (mkv ty (rd g M o j)))) ∧ ∀ j : Nat, j < n → tok ty (rd g M o j) := by
  have h := hH.2 o h1 h2
  unfold cellOK at h
  rw [hk] at h
  exact h
theorem ad_inj (hA : adOK X) {a b : Nat} (h1 : 1 ≤ a) (h2 : a < 1000) (h3 : 1 ≤ b) (h4 : b < 1000) (h : X.1 a = X.1 b) : a = b := by
  have e1 := hA a h1 h2
  have e2 := hA b h3 h4
  omega
theorem ad_own (hA : adOK X) {a : Nat} (h1 : 1 ≤ a) (h2 : a < 1000) : own X (X.1 a) := by
  have e1 := hA a h1 h2
  show X.2.2.2.2 ≤ X.1 a
  omega
/-- other cells stay when one is written -/
theorem HP_upd {H H' : Heap} (hA : adOK X) (hH : HP X g K M H) (hKK : K ≤ 1000) {o : Nat} {i v : Int} (h1 : 1 ≤ o) (h2 : o < K) (hz : H'.size = H.size) (hq : ∀ q : Nat, q ≠ X.1 o → H'[q]? = H[q]?) (hc : cellOK X g (mset M o i v) H' o) : HP X g K (mset M o i v) H' := by
  refine ⟨by rw [hz]; exact hH.1, fun k hk1 hk2 => ?_⟩
  by_cases hko : k = o
  · rw [hko]; exact hc
  · have h := hH.2 k hk1 hk2
    have hne : X.1 k ≠ X.1 o := fun e => hko (ad_inj hA hk1 (by omega) h1 (by omega) e)
    have hrd : ∀ j : Int, rd g (mset M o i v) k j = rd g M k j := fun j => rd_mset_ne (fun z => hko z.1)
    unfold cellOK at h ⊢
    cases hkd : kd k with
    | inl c =>
      rw [hkd] at h
      simp only [hrd]
      exact ⟨h.1.kept (hq _ hne), h.2⟩
    | inr a =>
      rw [hkd] at h
      simp only [hrd]
      exact ⟨by rw [hq _ hne]; exact h.1, h.2⟩
theorem G_get {idx o c k : Nat} {v : Int} {w : PV} (hd : decode cc pc = .ok (.getfield idx, 3)) (hl : Cond.fieldLink y.cls idx (cT c k).1 (cT c k).2.1 (cT c k).2.2.1 ∈ UW) (hkd : kd o = .inl c) (hk : k < cN c) (hoK : o < K) (hv : rd g M o k = v) (hw : mkv (cTy c k) v = w) (kk : G X g d k0 kE y cc nL ret Q (pc + 3) ls (w :: st) K M) : G X g d k0 kE y cc nL ret Q pc ls (vr (o : Int) :: st) K M := by
  subst hv; subst hw
  obtain ⟨ho1, -, hc⟩ := kd_in hkd
  refine G_go (fun hx hb C hH hS hls hlv hsv kk => ?_) kk
  have hob := cell_obj hH ho1 hoK hkd
  obtain ⟨⟨cell, q1, q2, q3, q4⟩, htok⟩ := hob
  obtain ⟨hSl, hfc, kC, hkC, hkind⟩ := C.2.2.2.2.2.2.2.2.1.1.1.1 c _ (classes_at hc)
  obtain ⟨cf, kf, fi, f, hi, hsl⟩ := hSl k hk
  rw [List.map_cons, conc_ref X.1 ho1]
  exact W.getf hx hb C.2.2.2.2.1 (C.2.2.2.2.2.1 _ hl) hi (u_facts hfc hkC (u_lays C.2.2.2.2.2.1 (c_in c hc) hk) hi).1 q1 (by rw [q3]; exact fun h => by cases h) (v := conc X.1 (mkv (cTy c k) (rd g M o k))) (by rw [hsl]; exact q4 k hk) rfl rfl hd (kk (vcons (tok_vok (htok k hk)) (vtl hsv)) hlv _ hls)
theorem obj_after {H' : Heap} {o c k : Nat} {x : Int} (hkd : kd o = .inl c) (hg : g o k = none) (htok : ∀ i : Nat, i < cN c → tok (cTy c i) (rd g M o i)) (hx : tok (cTy c k) x) (ht : t_OB (X.1 o) (X.2.1 c) (cN c) (X.2.2.1 c) H' (updV (fun i => conc X.1 (mkv (cTy c i) (rd g M o i))) k (conc X.1 (mkv (cTy c k) x)))) : cellOK X g (mset M o k x) H' o := by
  unfold cellOK
  rw [hkd]
  have hr : ∀ i : Nat, i ≠ k → rd g (mset M o k x) o i = rd g M o i := fun i hi => rd_mset_ne (fun z => hi (by have := z.2; omega))
  refine ⟨ht.to fun i hi => ?_, fun i hi => ?_⟩
  · by_cases hik : i = k
    · subst hik
      simp only [updV, if_pos, rd_mset_eq hg]
    · simp only [updV, if_neg hik, hr i hik]
  · by_cases hik : i = k
    · subst hik
      rw [rd_mset_eq hg]; exact hx
    · rw [hr i hik]; exact htok i hi
theorem G_put {idx o c k : Nat} {x : Int} {w : PV} (hd : decode cc pc = .ok (.putfield idx, 3)) (hl : Cond.fieldLink y.cls idx (cT c k).1 (cT c k).2.1 (cT c k).2.2.1 ∈ UW) (hkd : kd o = .inl c) (hk : k < cN c) (hoK : o < K) (hK9 : K ≤ 1000) (hfin : (cT c k).2.2.2 = false) (hg : g o k = none) (hx : tok (cTy c k) x) (hw : mkv (cTy c k) x = w) (kk : G X g d k0 kE y cc nL ret Q (pc + 3) ls st K (mset M o k x)) : G X g d k0 kE y cc nL ret Q pc ls (w :: vr (o : Int) :: st) K M := by
  subst hw
  obtain ⟨ho1, -, hc⟩ := kd_in hkd
  intro p l e R s m args below meth c0 H locs arr cells slots Tg C hH hS hls hlv hsv hcc hs hK hend
  obtain ⟨hx1, hb, hret, hml, hown, hts, hlocks, hnm, hKX, hrest⟩ := id C
  obtain ⟨⟨cell, q1, q2, q3, q4⟩, htok⟩ := cell_obj hH ho1 hoK hkd
  obtain ⟨hSl, hfc, kC, hkC, hkind⟩ := hKX.1.1.1 c _ (classes_at hc)
  have hap := va_apart (D := (X.2.1, X.2.2.1)) (cl := classes) (own := y.cls) hts (c_in c hc) (cTy c) (c_ty c hc) (c_nm c hc) hKX.1.1 (classes_at hc)
  obtain ⟨cf, kf, fi, f, hi, hsl⟩ := hSl k hk
  have hlay := hts _ (c_in c hc _ (u_in_lay hk))
  unfold u_lay at hlay
  rw [if_neg (by rw [hfin]; decide)] at hlay
  have hst := (u_facts hfc hkC (u_lays hts (c_in c hc) hk) hi).1
  obtain ⟨hn, hfit⟩ := conc_ok X.1 hx
  have h6 := u_store hfc hkC hkind hlay hi (c_ty c hc k hk) hn hfit
  rw [List.map_cons, List.map_cons, conc_ref X.1 ho1]
  refine W.putK hx1 hb (f := f) ⟨hown, hts _ hl, ⟨_, _, _, hi⟩, hst⟩ (by rw [q2]; exact h6) q1 q3 (by rw [hsl]; exact k2_hasslot (q4 k hk)) rfl rfl hd fun H' e1 e2 e3 => ?_
  rw [hsl] at e1 ⊢
  have hcell := obj_after (H' := H') hkd hg htok hx ⟨_, e1, q2, q3, t_set q4 hap hk _⟩
  exact kk p l e R s m args below meth c0 H' _ arr cells slots Tg C (HP_upd hKX.2.1 hH hK9 ho1 hoK e2 e3 hcell) (hS.put e2 e3 (ad_own hKX.2.1 ho1 (by omega))) hls hlv (vtl (vtl hsv)) hcc hs hK hend
theorem G_putF {idx o c k : Nat} {x : Int} {w : PV} (hd : decode cc pc = .ok (.putfield idx, 3)) (hl : Cond.fieldLink y.cls idx (cT c k).1 (cT c k).2.1 (cT c k).2.2.1 ∈ UW) (hkd : kd o = .inl c) (hk : k < cN c) (hoK : o < K) (hK9 : K ≤ 1000) (hfin : (cT c k).2.2.2 = true) (hini : y.name = "<init>") (hdecl : (cT c k).1 = y.cls) (hg : g o k = none) (hx : tok (cTy c k) x) (hw : mkv (cTy c k) x = w) (kk : G X g d k0 kE y cc nL ret Q (pc + 3) ls st K (mset M o k x)) : G X g d k0 kE y cc nL ret Q pc ls (w :: vr (o : Int) :: st) K M := by
  subst hw
  obtain ⟨ho1, -, hc⟩ := kd_in hkd
  intro p l e R s m args below meth c0 H locs arr cells slots Tg C hH hS hls hlv hsv hcc hs hK hend
  obtain ⟨hx1, hb, hret, hml, hown, hts, hlocks, hnm, hKX, hrest⟩ := id C
  obtain ⟨⟨cell, q1, q2, q3, q4⟩, htok⟩ := cell_obj hH ho1 hoK hkd
  obtain ⟨hSl, hfc, kC, hkC, hkind⟩ := hKX.1.1.1 c _ (classes_at hc)
  have hap := va_apart (D := (X.2.1, X.2.2.1)) (cl := classes) (own := y.cls) hts (c_in c hc) (cTy c) (c_ty c hc) (c_nm c hc) hKX.1.1 (classes_at hc)
  obtain ⟨cf, kf, fi, f, hi, hsl⟩ := hSl k hk
  have hlay := hts _ (c_in c hc _ (u_in_lay hk))
  unfold u_lay at hlay
  rw [if_pos hfin] at hlay
  have hst := (u_facts hfc hkC (u_lays hts (c_in c hc) hk) hi).1
  have hcf : m.cls = cf := by
    obtain ⟨_, _, c', _, _, _, -, -, hf', -, -, -, hown2, -⟩ := Cond.laysFinal_spec hlay
    have e1 : c' = cf := by have := hi.symm.trans hf'; simp at this; exact this.1.symm
    rw [hdecl] at hown2
    rw [← e1]; exact Option.some.inj (hown.symm.trans hown2)
  obtain ⟨hn, hfit⟩ := conc_ok X.1 hx
  have h6 := u_fits hfc hkC hkind (Or.inr hlay) hi (c_ty c hc k hk) hn hfit
  rw [List.map_cons, List.map_cons, conc_ref X.1 ho1]
  refine W.putFinK hx1 hb hown (hts _ hl) hi hst hcf (by rw [hnm]; exact hini) (by rw [q2]; exact h6) q1 q3 (by rw [hsl]; exact k2_hasslot (q4 k hk)) rfl rfl hd fun H' e1 e2 e3 => ?_
  rw [hsl] at e1 ⊢
  have hcell := obj_after (H' := H') hkd hg htok hx ⟨_, e1, q2, q3, t_set q4 hap hk _⟩
  exact kk p l e R s m args below meth c0 H' _ arr cells slots Tg C (HP_upd hKX.2.1 hH hK9 ho1 hoK e2 e3 hcell) (hS.put e2 e3 (ad_own hKX.2.1 ho1 (by omega))) hls hlv (vtl (vtl hsv)) hcc hs hK hend
theorem arrK {s : State} (hK : KT X s) {ty : FieldType} (h : ty ∈ arrTys) : ArrOfT s (X.2.2.2.1 ty) ty ∧ va_RA s (X.2.2.2.1 ty) ty := by
  obtain ⟨j, hj⟩ := List.getElem?_of_mem h
  exact hK.1.2 j (X.2.2.2.1 ty, ty) (by rw [List.getElem?_map, hj]; rfl)
theorem ix_in {i : Int} {n : Nat} (h : 0 ≤ i ∧ i < n) (hi : vok (vi i)) : (Int32.ofInt i).toNatClampNeg = i.toNat ∧ ¬ (Int32.ofInt i < 0 ∨ n ≤ (Int32.ofInt i).toNatClampNeg) := by
  have hi' : -2147483648 ≤ i ∧ i < 2147483648 := hi
  have e : (Int32.ofInt i).toNatClampNeg = i.toNat := Int32.toNatClampNeg_ofInt_of_le (by omega) (by omega)
  refine ⟨e, ?_⟩
  rw [e, Int32.lt_iff_toInt_lt, i32_in hi', Int32.toInt_zero]
  omega
theorem G_iaload {o n : Nat} {i v : Int} (hd : decode cc pc = .ok (.iaload, 1)) (hkd : kd o = .inr (.int, n)) (ho : 1 ≤ o ∧ o < K) (hi : 0 ≤ i ∧ i < n) (hv : rd g M o i = v) (kk : tok .int v → G X g d k0 kE y cc nL ret Q (pc + 1) ls (vi v :: st) K M) : G X g d k0 kE y cc nL ret Q pc ls (vi i :: vr (o : Int) :: st) K M := by
  subst hv
  intro p l e R s m args below meth c H locs arr cells slots Tg C hH hS hls hlv hsv hcc hs hK hend
  obtain ⟨q1, q2⟩ := cell_arr hH ho.1 ho.2 hkd
  obtain ⟨e1, e2⟩ := ix_in hi (vhd hsv)
  have ht := q2 i.toNat (by omega)
  rw [Int.toNat_of_nonneg hi.1] at ht
  have hW := kk ht p l e R s m args below meth c H locs arr cells slots Tg C hH hS hls hlv (vcons (v := vi (rd g M o i)) (tok_vok ht) (vtl (vtl hsv))) hcc hs hK hend
  rw [List.map_cons, List.map_cons, conc_ref X.1 ho.1]
  exact W.iald (v := conc X.1 (vi (rd g M o i))) C.1 C.2.1 q1 ((arrK C.2.2.2.2.2.2.2.2.1.1 (by decide)).1 n _) (fun q => by cases q) (by rw [arrV_size]; exact e2) (by rw [e1, arrV_read _ _ (by omega), Int.toNat_of_nonneg hi.1]; rfl) rfl rfl hd hW
theorem G_laload {o n : Nat} {i v : Int} (hd : decode cc pc = .ok (.laload, 1)) (hkd : kd o = .inr (.long, n)) (ho : 1 ≤ o ∧ o < K) (hi : 0 ≤ i ∧ i < n) (hv : rd g M o i = v) (kk : tok .long v → G X g d k0 kE y cc nL ret Q (pc + 1) ls (vl v :: st) K M) : G X g d k0 kE y cc nL ret Q pc ls (vi i :: vr (o : Int) :: st) K M := by
  subst hv
  intro p l e R s m args below meth c H locs arr cells slots Tg C hH hS hls hlv hsv hcc hs hK hend
  obtain ⟨q1, q2⟩ := cell_arr hH ho.1 ho.2 hkd
  obtain ⟨e1, e2⟩ := ix_in hi (vhd hsv)
  have ht := q2 i.toNat (by omega)
  rw [Int.toNat_of_nonneg hi.1] at ht
  have hW := kk ht p l e R s m args below meth c H locs arr cells slots Tg C hH hS hls hlv (vcons (v := vl (rd g M o i)) (tok_vok ht) (vtl (vtl hsv))) hcc hs hK hend
  rw [List.map_cons, List.map_cons, conc_ref X.1 ho.1]
  exact W.lald (v := conc X.1 (vl (rd g M o i))) C.1 C.2.1 q1 ((arrK C.2.2.2.2.2.2.2.2.1.1 (by decide)).1 n _) (fun q => by cases q) (by rw [arrV_size]; exact e2) (by rw [e1, arrV_read _ _ (by omega), Int.toNat_of_nonneg hi.1]; rfl) rfl rfl hd hW
theorem G_caload {o n : Nat} {i v : Int} (hd : decode cc pc = .ok (.caload, 1)) (hkd : kd o = .inr (.char, n)) (ho : 1 ≤ o ∧ o < K) (hi : 0 ≤ i ∧ i < n) (hv : rd g M o i = v) (kk : tok .char v → G X g d k0 kE y cc nL ret Q (pc + 1) ls (vi v :: st) K M) : G X g d k0 kE y cc nL ret Q pc ls (vi i :: vr (o : Int) :: st) K M := by
  subst hv
  intro p l e R s m args below meth c H locs arr cells slots Tg C hH hS hls hlv hsv hcc hs hK hend
  obtain ⟨q1, q2⟩ := cell_arr hH ho.1 ho.2 hkd
  obtain ⟨e1, e2⟩ := ix_in hi (vhd hsv)
  have ht := q2 i.toNat (by omega)
  rw [Int.toNat_of_nonneg hi.1] at ht
  have hW := kk ht p l e R s m args below meth c H locs arr cells slots Tg C hH hS hls hlv (vcons (v := vi (rd g M o i)) (tok_vok ht) (vtl (vtl hsv))) hcc hs hK hend
  rw [List.map_cons, List.map_cons, conc_ref X.1 ho.1]
  exact W.cald (v := conc X.1 (vi (rd g M o i))) C.1 C.2.1 q1 ((arrK C.2.2.2.2.2.2.2.2.1.1 (by decide)).1 n _) (fun q => by cases q) (by rw [arrV_size]; exact e2) (by rw [e1, arrV_read _ _ (by omega), Int.toNat_of_nonneg hi.1]; rfl) rfl rfl hd hW
theorem G_zaload {o n : Nat} {i v : Int} (hd : decode cc pc = .ok (.baload, 1)) (hkd : kd o = .inr (.boolean, n)) (ho : 1 ≤ o ∧ o < K) (hi : 0 ≤ i ∧ i < n) (hv : rd g M o i = v) (kk : tok .boolean v → G X g d k0 kE y cc nL ret Q (pc + 1) ls (vi v :: st) K M) : G X g d k0 kE y cc nL ret Q pc ls (vi i :: vr (o : Int) :: st) K M := by
  subst hv
  intro p l e R s m args below meth c H locs arr cells slots Tg C hH hS hls hlv hsv hcc hs hK hend
  obtain ⟨q1, q2⟩ := cell_arr hH ho.1 ho.2 hkd
  obtain ⟨e1, e2⟩ := ix_in hi (vhd hsv)
  have ht := q2 i.toNat (by omega)
  rw [Int.toNat_of_nonneg hi.1] at ht
  have hW := kk ht p l e R s m args below meth c H locs arr cells slots Tg C hH hS hls hlv (vcons (v := vi (rd g M o i)) (tok_vok ht) (vtl (vtl hsv))) hcc hs hK hend
  rw [List.map_cons, List.map_cons, conc_ref X.1 ho.1]
  exact W.zald (v := conc X.1 (vi (rd g M o i))) C.1 C.2.1 q1 ((arrK C.2.2.2.2.2.2.2.2.1.1 (by decide)).1 n _) (fun q => by cases q) (by rw [arrV_size]; exact e2) (by rw [e1, arrV_read _ _ (by omega), Int.toNat_of_nonneg hi.1]; rfl) rfl rfl hd hW
theorem G_aaload {o n : Nat} {i v : Int} (hd : decode cc pc = .ok (.aaload, 1)) (hkd : kd o = .inr (.object "MirrorDesk$Evaluation", n)) (ho : 1 ≤ o ∧ o < K) (hi : 0 ≤ i ∧ i < n) (hv : rd g M o i = v) (kk : G X g d k0 kE y cc nL ret Q (pc + 1) ls (vr v :: st) K M) : G X g d k0 kE y cc nL ret Q pc ls (vi i :: vr (o : Int) :: st) K M := by
  subst hv
  intro p l e R s m args below meth c H locs arr cells slots Tg C hH hS hls hlv hsv hcc hs hK hend
  obtain ⟨q1, q2⟩ := cell_arr hH ho.1 ho.2 hkd
  obtain ⟨e1, e2⟩ := ix_in hi (vhd hsv)
  have ht := q2 i.toNat (by omega)
  rw [Int.toNat_of_nonneg hi.1] at ht
  have hW := kk p l e R s m args below meth c H locs arr cells slots Tg C hH hS hls hlv (vcons (v := vr (rd g M o i)) (tok_vok ht) (vtl (vtl hsv))) hcc hs hK hend
  rw [List.map_cons, List.map_cons, conc_ref X.1 ho.1]
  exact W.aald (v := conc X.1 (vr (rd g M o i))) C.1 C.2.1 q1 ((arrK C.2.2.2.2.2.2.2.2.1.1 (by decide)).1 n _) rfl (fun q => by cases q) (by rw [arrV_size]; exact e2) (by rw [e1, arrV_read _ _ (by omega), Int.toNat_of_nonneg hi.1]; rfl) rfl rfl hd hW
theorem arr_after {H' : Heap} {o n : Nat} {ty : FieldType} {i x : Int} (hkd : kd o = .inr (ty, n)) (hg : g o i = none) (hi : 0 ≤ i) (htok : ∀ j : Nat, j < n → tok ty (rd g M o j)) (hx : tok ty x) (h : H'[X.1 o]? = some ((arrV (X.2.2.2.1 ty) n (fun j => conc X.1 (mkv ty (rd g M o j)))).setSlot i.toNat (conc X.1 (mkv ty x)))) : cellOK X g (mset M o i x) H' o := by
  unfold cellOK
  rw [hkd]
  have hr : ∀ j : Nat, j ≠ i.toNat → rd g (mset M o i x) o j = rd g M o j := fun j hj => rd_mset_ne (fun z => hj (by have := z.2; omega))
  have hs : rd g (mset M o i x) o (i.toNat : Nat) = x := by rw [Int.toNat_of_nonneg hi]; exact rd_mset_eq hg
  refine ⟨?_, fun j hj => ?_⟩
  · rw [h, arrV_store]
    congr 2
    funext j
    by_cases hij : j = i.toNat
    · subst hij
      simp only [updV, if_pos, hs]
    · simp only [updV, if_neg hij, hr j hij]
  · by_cases hij : j = i.toNat
    · subst hij
      rw [hs]; exact hx
    · rw [hr j hij]; exact htok j hj
theorem G_iastore {o n : Nat} {i x : Int} (hd : decode cc pc = .ok (.iastore, 1)) (hkd : kd o = .inr (.int, n)) (ho : 1 ≤ o ∧ o < K) (hK9 : K ≤ 1000) (hg : g o i = none) (hi : 0 ≤ i ∧ i < n) (hx : tok .int x) (kk : G X g d k0 kE y cc nL ret Q (pc + 1) ls st K (mset M o i x)) : G X g d k0 kE y cc nL ret Q pc ls (vi x :: vi i :: vr (o : Int) :: st) K M := by
  intro p l e R s m args below meth c H locs arr cells slots Tg C hH hS hls hlv hsv hcc hs hK hend
  obtain ⟨q1, q2⟩ := cell_arr hH ho.1 ho.2 hkd
  obtain ⟨e1, e2⟩ := ix_in hi (vhd (vtl hsv))
  rw [List.map_cons, List.map_cons, List.map_cons, conc_ref X.1 ho.1]
  refine W.iast C.1 C.2.1 q1 ((arrK C.2.2.2.2.2.2.2.2.1.1 (by decide)).1 n _) (fun q => by cases q) (by rw [arrV_size]; exact e2) rfl rfl hd fun H' z1 z2 z3 => ?_
  rw [e1] at z1 ⊢
  exact kk p l e R s m args below meth c H' _ arr cells slots Tg C (HP_upd C.2.2.2.2.2.2.2.2.1.2.1 hH hK9 ho.1 ho.2 z2 z3 (arr_after hkd hg hi.1 q2 hx z1)) (hS.put z2 z3 (ad_own C.2.2.2.2.2.2.2.2.1.2.1 ho.1 (by omega))) hls hlv (vtl (vtl (vtl hsv))) hcc hs hK hend
theorem G_lastore {o n : Nat} {i x : Int} (hd : decode cc pc = .ok (.lastore, 1)) (hkd : kd o = .inr (.long, n)) (ho : 1 ≤ o ∧ o < K) (hK9 : K ≤ 1000) (hg : g o i = none) (hi : 0 ≤ i ∧ i < n) (hx : tok .long x) (kk : G X g d k0 kE y cc nL ret Q (pc + 1) ls st K (mset M o i x)) : G X g d k0 kE y cc nL ret Q pc ls (vl x :: vi i :: vr (o : Int) :: st) K M := by
  intro p l e R s m args below meth c H locs arr cells slots Tg C hH hS hls hlv hsv hcc hs hK hend
  obtain ⟨q1, q2⟩ := cell_arr hH ho.1 ho.2 hkd
  obtain ⟨e1, e2⟩ := ix_in hi (vhd (vtl hsv))
  rw [List.map_cons, List.map_cons, List.map_cons, conc_ref X.1 ho.1]
  refine W.last C.1 C.2.1 q1 ((arrK C.2.2.2.2.2.2.2.2.1.1 (by decide)).1 n _) (fun q => by cases q) (by rw [arrV_size]; exact e2) rfl rfl hd fun H' z1 z2 z3 => ?_
  rw [e1] at z1 ⊢
  exact kk p l e R s m args below meth c H' _ arr cells slots Tg C (HP_upd C.2.2.2.2.2.2.2.2.1.2.1 hH hK9 ho.1 ho.2 z2 z3 (arr_after hkd hg hi.1 q2 hx z1)) (hS.put z2 z3 (ad_own C.2.2.2.2.2.2.2.2.1.2.1 ho.1 (by omega))) hls hlv (vtl (vtl (vtl hsv))) hcc hs hK hend
theorem G_castore {o n : Nat} {i x : Int} (hd : decode cc pc = .ok (.castore, 1)) (hkd : kd o = .inr (.char, n)) (ho : 1 ≤ o ∧ o < K) (hK9 : K ≤ 1000) (hg : g o i = none) (hi : 0 ≤ i ∧ i < n) (hx : tok .char x) (kk : G X g d k0 kE y cc nL ret Q (pc + 1) ls st K (mset M o i x)) : G X g d k0 kE y cc nL ret Q pc ls (vi x :: vi i :: vr (o : Int) :: st) K M := by
  intro p l e R s m args below meth c H locs arr cells slots Tg C hH hS hls hlv hsv hcc hs hK hend
  obtain ⟨q1, q2⟩ := cell_arr hH ho.1 ho.2 hkd
  obtain ⟨e1, e2⟩ := ix_in hi (vhd (vtl hsv))
  rw [List.map_cons, List.map_cons, List.map_cons, conc_ref X.1 ho.1]
  refine W.cast C.1 C.2.1 q1 ((arrK C.2.2.2.2.2.2.2.2.1.1 (by decide)).1 n _) (fun q => by cases q) (by rw [arrV_size]; exact e2) rfl rfl hd fun H' z1 z2 z3 => ?_
  rw [e1] at z1 ⊢
  rw [show narrow .char (.int (Int32.ofInt x)) = .int (Int32.ofInt x) from (conc_ok X.1 hx).1] at z1
  exact kk p l e R s m args below meth c H' _ arr cells slots Tg C (HP_upd C.2.2.2.2.2.2.2.2.1.2.1 hH hK9 ho.1 ho.2 z2 z3 (arr_after hkd hg hi.1 q2 hx z1)) (hS.put z2 z3 (ad_own C.2.2.2.2.2.2.2.2.1.2.1 ho.1 (by omega))) hls hlv (vtl (vtl (vtl hsv))) hcc hs hK hend
theorem G_zastore {o n : Nat} {i x : Int} (hd : decode cc pc = .ok (.bastore, 1)) (hkd : kd o = .inr (.boolean, n)) (ho : 1 ≤ o ∧ o < K) (hK9 : K ≤ 1000) (hg : g o i = none) (hi : 0 ≤ i ∧ i < n) (hx : tok .boolean x) (kk : G X g d k0 kE y cc nL ret Q (pc + 1) ls st K (mset M o i x)) : G X g d k0 kE y cc nL ret Q pc ls (vi x :: vi i :: vr (o : Int) :: st) K M := by
  intro p l e R s m args below meth c H locs arr cells slots Tg C hH hS hls hlv hsv hcc hs hK hend
  obtain ⟨q1, q2⟩ := cell_arr hH ho.1 ho.2 hkd
  obtain ⟨e1, e2⟩ := ix_in hi (vhd (vtl hsv))
  rw [List.map_cons, List.map_cons, List.map_cons, conc_ref X.1 ho.1]
  refine W.zast C.1 C.2.1 q1 ((arrK C.2.2.2.2.2.2.2.2.1.1 (by decide)).1 n _) (fun q => by cases q) (by rw [arrV_size]; exact e2) rfl rfl hd fun H' z1 z2 z3 => ?_
  rw [e1] at z1 ⊢
  rw [show narrow .boolean (.int (Int32.ofInt x)) = .int (Int32.ofInt x) from (conc_ok X.1 hx).1] at z1
  exact kk p l e R s m args below meth c H' _ arr cells slots Tg C (HP_upd C.2.2.2.2.2.2.2.2.1.2.1 hH hK9 ho.1 ho.2 z2 z3 (arr_after hkd hg hi.1 q2 hx z1)) (hS.put z2 z3 (ad_own C.2.2.2.2.2.2.2.2.1.2.1 ho.1 (by omega))) hls hlv (vtl (vtl (vtl hsv))) hcc hs hK hend
theorem G_alen {o n : Nat} {ty : FieldType} (hd : decode cc pc = .ok (.arraylength, 1)) (hkd : kd o = .inr (ty, n)) (hty : ty ∈ arrTys) (ho : 1 ≤ o ∧ o < K) (hn : n < 2147483648) (kk : G X g d k0 kE y cc nL ret Q (pc + 1) ls (vi (n : Int) :: st) K M) : G X g d k0 kE y cc nL ret Q pc ls (vr (o : Int) :: st) K M := by
  refine G_go (fun hx hb C hH hS hls hlv hsv kk => ?_) kk
  obtain ⟨q1, q2⟩ := cell_arr hH ho.1 ho.2 hkd
  rw [List.map_cons, conc_ref X.1 ho.1]
  exact W.alen hx hb q1 ((arrK C.2.2.2.2.2.2.2.2.1.1 hty).1 n _) (by rw [arrV_size]; exact (Int32.ofInt_eq_ofNat (n := n)).symm) rfl rfl hd (kk (vcons (v := vi (n : Int)) (show -2147483648 ≤ (n : Int) ∧ (n : Int) < 2147483648 by omega) (vtl hsv)) hlv _ hls)
end GH
