def cpD (M : Mem) (a b : Nat) (n : Int) : Mem := fun c i => if c = b ∧ 0 ≤ i ∧ i < n then M a i else M c i
set_option maxRecDepth 30000 in
theorem ac_l : Cond.methodLink R_Ev 56 arraycopyName ∈ UW := UW_of (lw_at2 152 rfl) rfl
set_option maxRecDepth 30000 in
theorem ac_s : Cond.static arraycopyName ∈ UW := UW_of (lw_at2 153 rfl) rfl
set_option maxRecDepth 30000 in
theorem ac_n : Cond.native arraycopyName ∈ UW := UW_of (lw_at2 154 rfl) rfl
set_option maxRecDepth 30000 in
theorem ac_i : Cond.initialized "java/lang/System" ∈ UW := UW_of (lw_at1 12 rfl) rfl
section CPY
variable {X : WX} {g : SG} {d k0 kE : Nat} {y : MethodName} {cc : ByteArray} {nL : Nat} {ret : Option FieldType} {Q : Option PV → Mem → Prop} {pc : Nat} {ls : List (Nat × PV)} {K : Nat} {M : Mem}
theorem HP_arr {H H' : Heap} {M' : Mem} (hA : adOK X) (hH : HP X g K M H) (hKK : K ≤ 1000) {o : Nat} (h1 : 1 ≤ o) (h2 : o < K) (hM : ∀ k, k ≠ o → ∀ j, rd g M' k j = rd g M k j) (hz : H'.size = H.size) (hq : ∀ q : Nat, q ≠ X.1 o → H'[q]? = H[q]?) (hc : cellOK X g M' H' o) : HP X g K M' H' := by
  refine ⟨by rw [hz]; exact hH.1, fun k hk1 hk2 => ?_⟩
  by_cases hko : k = o
  · rw [hko]; exact hc
  · have h := hH.2 k hk1 hk2
    have hne : X.1 k ≠ X.1 o := fun e => hko (ad_inj hA hk1 (by omega) h1 (by omega) e)
    have hrd : ∀ j : Int, rd g M' k j = rd g M k j := hM k hko
    unfold cellOK at h ⊢
    cases hkd : kd k with
    | inl c =>
      rw [hkd] at h
      simp only [hrd]
      exact ⟨h.1.kept (hq _ hne), h.2⟩
    | inr a =>
      rw [hkd] at h
      simp only [hrd]
      exact ⟨by rw [hq _ hne]; exact h.1, h.2⟩
theorem G_copyc {a b n0 n1 idx : Nat} {n : Int} (hd : decode cc pc = .ok (.invokestatic idx, 3)) (hl : Cond.methodLink y.cls idx arraycopyName ∈ UW) (hka : kd a = .inr (.char, n0)) (hkb : kd b = .inr (.char, n1)) (ha : 1 ≤ a ∧ a < K) (hb : 1 ≤ b ∧ b < K) (hK9 : K ≤ 1000) (hga : ∀ i, g a i = none) (hgb : ∀ i, g b i = none) (hn : 0 ≤ n ∧ n ≤ n0 ∧ n ≤ n1) (hn0 : n0 < 2147483648) (hdd : 1 ≤ d) (kk : G X g d k0 kE y cc nL ret Q (pc + 3) ls [] K (cpD M a b n)) : G X g d k0 kE y cc nL ret Q pc ls [vi n, vi 0, vr (b : Int), vi 0, vr (a : Int)] K M := by
  intro p l e R s m args below meth c H locs arr cells slots Tg C hH hS hls hlv hsv hcc hs hK hend
  obtain ⟨q1, q2⟩ := cell_arr hH ha.1 ha.2 hka
  obtain ⟨r1, r2⟩ := cell_arr hH hb.1 hb.2 hkb
  have hAd : adOK X := C.2.2.2.2.2.2.2.2.1.2.1
  rw [List.map_cons, List.map_cons, List.map_cons, List.map_cons, List.map_cons, conc_ref X.1 ha.1, conc_ref X.1 hb.1]
  intro T hT XX
  obtain ⟨-, c0, hc0, cm0, hcc0⟩ := (arrK C.2.2.2.2.2.2.2.2.1.1 (show FieldType.char ∈ arrTys by decide)).1 n0 (fun j => conc X.1 (mkv .char (rd g M a j)))
  obtain ⟨-, c1, hc1, cm1, hcc1⟩ := (arrK C.2.2.2.2.2.2.2.2.1.1 (show FieldType.char ∈ arrTys by decide)).1 n1 (fun j => conc X.1 (mkv .char (rd g M b j)))
  have e0 : (Int32.ofInt n).toInt = n := i32_in (by omega)
  have en : (Int32.ofInt n).toNatClampNeg = n.toNat := Int32.toNatClampNeg_ofInt_of_le (by omega) (by omega)
  have ez : (Int32.ofInt 0).toNatClampNeg = 0 := rfl
  have ez0 : (Int32.ofInt 0).toInt = 0 := rfl
  have hsz : n.toNat ≤ n0 := by omega
  obtain ⟨vm', X', step⟩ := XX.arraycopy C.1 C.2.2.2.2.1 (C.2.2.2.2.2.1 _ hl) (C.2.2.2.2.2.1 _ ac_n) (C.2.2.2.2.2.1 _ ac_s) (C.2.2.2.2.2.1 _ ac_i) (src := X.1 a) (dst := X.1 b) (cs := arrV (X.2.2.2.1 .char) n0 (fun j => conc X.1 (mkv .char (rd g M a j)))) (cd := arrV (X.2.2.2.1 .char) n1 (fun j => conc X.1 (mkv .char (rd g M b j)))) (srcPos := Int32.ofInt 0) (destPos := Int32.ofInt 0) (n := Int32.ofInt n) (by rw [hT]; exact q1) (by rw [hT]; exact r1)
    (fun _ h => by cases h) (fun _ h => by cases h) (fun h => by cases h) (fun h => by cases h) hc0 hc1 hcc0 hcc1 (by decide) (by decide) (by decide) (by rw [Int32.lt_iff_toInt_lt, e0, Int32.toInt_zero]; omega)
    (by rw [e0, ez0, arrV_size]; omega) (by rw [e0, ez0, arrV_size]; omega)
    (fun vm₁ _ i hi => by
      rw [en] at hi
      have e : (arrV (X.2.2.2.1 .char) n0 (fun j => conc X.1 (mkv .char (rd g M a j)))).slots.getD ((Int32.ofInt 0).toNatClampNeg + i) .null = conc X.1 (mkv .char (rd g M a i)) := by
        rw [ez, Nat.zero_add, Array.getD_eq_getD_getElem?, arrV_read _ _ (by omega)]
        rfl
      rw [e]
      exact ⟨(conc_ok X.1 (q2 i (by omega))).2, trivial⟩)
    (g := F0 m pc arr [.int (Int32.ofInt n), .int (Int32.ofInt 0), .ref (X.1 b), .int (Int32.ofInt 0), .ref (X.1 a)]) rfl (by rw [C.2.2.2.1]; exact hls.1) (rest := []) rfl (by rw [C.2.1]; exact hd) (Nat.le_trans hdd C.2.2.2.2.2.2.2.2.2.1) (Nat.le_trans (show 2 * 0 + 0 + (nativeFrameWords "java/lang/System" "arraycopy" 5 + 11) ≤ 64 * d from Nat.le_trans (show _ ≤ 64 by decide) (by omega)) C.2.2.2.2.2.2.2.2.2.2.1)
  have e1 : copied (arrV (X.2.2.2.1 .char) n0 (fun j => conc X.1 (mkv .char (rd g M a j)))) (arrV (X.2.2.2.1 .char) n1 (fun j => conc X.1 (mkv .char (rd g M b j)))) (Int32.ofInt 0) (Int32.ofInt 0) (Int32.ofInt n) = arrV (X.2.2.2.1 .char) n1 (fun j => conc X.1 (mkv .char (rd g (cpD M a b n) b j))) := by
    have h9 := va_copied (fun z => Value.int z) (X.2.2.2.1 .char) (X.2.2.2.1 .char) (n0 := n0) (n1 := n1) (sp := (Int32.ofInt 0).toNatClampNeg) (dp := (Int32.ofInt 0).toNatClampNeg) (n := (Int32.ofInt n).toNatClampNeg) (fun j : Nat => Int32.ofInt (rd g M a j)) (fun j : Nat => Int32.ofInt (rd g M b j)) (by rw [en, ez]; omega)
    refine Eq.trans h9 ?_
    congr 1
    funext j
    show Value.int (va_cpy _ _ _ _ _ j) = Value.int (Int32.ofInt (rd g (cpD M a b n) b j))
    congr 1
    unfold va_cpy
    rw [en, ez]
    have hrb : rd g (cpD M a b n) b (j : Int) = if (j : Int) < n then rd g M a j else rd g M b j := by
      unfold rd cpD
      rw [hga, hgb]
      by_cases hj : (j : Int) < n
      · rw [if_pos hj]; show (if b = b ∧ 0 ≤ (j : Int) ∧ (j : Int) < n then M a j else M b j) = M a j; rw [if_pos ⟨rfl, by omega, hj⟩]
      · rw [if_neg hj]; show (if b = b ∧ 0 ≤ (j : Int) ∧ (j : Int) < n then M a j else M b j) = M b j; rw [if_neg (fun h => hj h.2.2)]
    rw [hrb]
    by_cases hj : (j : Int) < n
    · rw [if_pos (by omega), if_pos hj]; simp
    · rw [if_neg (by omega), if_neg hj]
  rw [e1] at X' step
  have hlt : X.1 b < H.size := (Array.getElem?_eq_some_iff.mp r1).1
  have hheap : ((T.setVm vm').setCell (X.1 b) (arrV (X.2.2.2.1 .char) n1 (fun j => conc X.1 (mkv .char (rd g (cpD M a b n) b j))))).heap = H.setIfInBounds (X.1 b) (arrV (X.2.2.2.1 .char) n1 (fun j => conc X.1 (mkv .char (rd g (cpD M a b n) b j)))) := by rw [← hT]; rfl
  have oq : ∀ q : Nat, q ≠ X.1 b → (H.setIfInBounds (X.1 b) (arrV (X.2.2.2.1 .char) n1 (fun j => conc X.1 (mkv .char (rd g (cpD M a b n) b j)))))[q]? = H[q]? := fun q hq => by simp [Array.getElem?_setIfInBounds, Ne.symm hq]
  have hrd : ∀ k, k ≠ b → ∀ j, rd g (cpD M a b n) k j = rd g M k j := by
    intro k hk j
    have e9 : cpD M a b n k j = M k j := if_neg (fun h => hk h.1)
    unfold rd
    rw [e9]
  have htok : ∀ j : Nat, j < n1 → tok .char (rd g (cpD M a b n) b j) := by
    intro j hj
    unfold rd cpD
    rw [hgb]
    by_cases hjn : (j : Int) < n
    · show tok .char (if b = b ∧ 0 ≤ (j : Int) ∧ (j : Int) < n then M a j else M b j)
      rw [if_pos ⟨rfl, by omega, hjn⟩]
      have h9 := q2 j (by omega)
      unfold rd at h9; rw [hga] at h9; exact h9
    · show tok .char (if b = b ∧ 0 ≤ (j : Int) ∧ (j : Int) < n then M a j else M b j)
      rw [if_neg (fun h => hjn h.2.2)]
      have h9 := r2 j hj
      unfold rd at h9; rw [hgb] at h9; exact h9
  have hc : cellOK X g (cpD M a b n) (H.setIfInBounds (X.1 b) (arrV (X.2.2.2.1 .char) n1 (fun j => conc X.1 (mkv .char (rd g (cpD M a b n) b j))))) b := by
    unfold cellOK
    rw [hkb]
    exact ⟨by simp [Array.getElem?_setIfInBounds, hlt], htok⟩
  have hob : own X (X.1 b) := ad_own hAd hb.1 (by omega)
  obtain ⟨t, a1, b1⟩ := kk p l e R s m args below meth c (H.setIfInBounds (X.1 b) (arrV (X.2.2.2.1 .char) n1 (fun j => conc X.1 (mkv .char (rd g (cpD M a b n) b j))))) _ arr cells slots Tg C (HP_arr hAd hH hK9 hb.1 hb.2 hrd (by simp) oq hc) ⟨by simp; exact hS.1, fun q g1 g2 => by
      rw [oq q (fun e => g2 (by rw [e]; exact hob))]
      exact hS.2.1 q g1 g2, fun q hq => by
      rcases List.mem_append.mp hq with h | h
      · exact hS.2.2 q h
      · obtain ⟨z, -, hz⟩ := List.mem_map.mp h
        rw [← hz]
        exact hob⟩ hls hlv (fun v hv => absurd hv (by simp)) hcc hs hK hend _ hheap X'
  exact ⟨t, step t a1, b1⟩
end CPY
theorem d_Ev_takeText_0 : decode b_Ev_takeText 0 = .ok (.aload_n 1, 1) := by decide +kernel
theorem d_Ev_takeText_1 : decode b_Ev_takeText 1 = .ok (.iconst 0, 1) := by decide +kernel
theorem d_Ev_takeText_2 : decode b_Ev_takeText 2 = .ok (.aload_n 0, 1) := by decide +kernel
theorem d_Ev_takeText_3 : decode b_Ev_takeText 3 = .ok (.getfield 18, 3) := by decide +kernel
theorem d_Ev_takeText_6 : decode b_Ev_takeText 6 = .ok (.iconst 0, 1) := by decide +kernel
theorem d_Ev_takeText_7 : decode b_Ev_takeText 7 = .ok (.iload_n 2, 1) := by decide +kernel
theorem d_Ev_takeText_8 : decode b_Ev_takeText 8 = .ok (.invokestatic 56, 3) := by decide +kernel
theorem d_Ev_takeText_11 : decode b_Ev_takeText 11 = .ok (.aload_n 0, 1) := by decide +kernel
theorem d_Ev_takeText_12 : decode b_Ev_takeText 12 = .ok (.iload_n 2, 1) := by decide +kernel
theorem d_Ev_takeText_13 : decode b_Ev_takeText 13 = .ok (.putfield 62, 3) := by decide +kernel
theorem d_Ev_takeText_16 : decode b_Ev_takeText 16 = .ok (.return_, 1) := by decide +kernel
theorem g_Ev_takeText {X : WX} {d : Nat} (hd : 1 ≤ d) (e : Nat) (n : Int) (M : Mem) (he : e < 4) (hn : 0 ≤ n ∧ n ≤ 40) : MG X gt d KE KE y_Ev_takeText b_Ev_takeText 3 none [vr ((19 + 9 * e : Nat) : Int), vr 3, vi n] M (fun r M' => r = none ∧ M' = mset (cpD M 3 (27 + 9 * e) n) (19 + 9 * e) 6 n) := by
  refine MG_of_G (by decide) (Nat.le_of_ble_eq_true rfl) (Nat.le_refl _) (by decide) ?_
  show G X gt d KE KE y_Ev_takeText b_Ev_takeText 3 none _ 0 [(0, vr ((19 + 9 * e : Nat) : Int)), (1, vr 3), (2, vi n)] [] KE M
  refine G_rngl (i := 2) rfl (fun hr2 => ?_)
  refine G_aload (i := 1) (n := 1) (len := 1) (Or.inl ⟨1, rfl, rfl, d_Ev_takeText_0⟩) rfl (by decide) (G_pc (pc' := 1) rfl ?_)
  refine G_iconst (n := 0) d_Ev_takeText_1 (by decide) (G_pc (pc' := 2) rfl ?_)
  refine G_aload (i := 0) (n := 0) (len := 1) (Or.inl ⟨0, rfl, rfl, d_Ev_takeText_2⟩) rfl (by omega) (G_pc (pc' := 3) rfl ?_)
  refine G_get (o := (19 + 9 * e)) (c := 1) (k := 5) (v := ((27 + 9 * e : Nat) : Int)) d_Ev_takeText_3 fl_Ev_18 (kd_Ev he) (by decide) (by show 19 + 9 * e < 87; omega) (gf_Ev5 he) rfl (G_pc (pc' := 6) rfl ?_)
  refine G_iconst (n := 0) d_Ev_takeText_6 (by decide) (G_pc (pc' := 7) rfl ?_)
  refine G_iload (i := 2) (n := 2) (len := 1) (Or.inl ⟨2, rfl, rfl, d_Ev_takeText_7⟩) rfl (G_pc (pc' := 8) rfl ?_)
  refine G_copyc (a := 3) (b := 27 + 9 * e) (n0 := 40) (n1 := 40) d_Ev_takeText_8 ac_l rfl (kd_S6 he) ⟨by decide, by decide⟩ ⟨by omega, by show 27 + 9 * e < 87; omega⟩ (by decide) (fun i => gt_arr rfl i) (gn_S6 he) (by omega) (by decide) (by omega) (G_pc (pc' := 11) rfl ?_)
  refine G_aload (i := 0) (n := 0) (len := 1) (Or.inl ⟨0, rfl, rfl, d_Ev_takeText_11⟩) rfl (by omega) (G_pc (pc' := 12) rfl ?_)
  refine G_iload (i := 2) (n := 2) (len := 1) (Or.inl ⟨2, rfl, rfl, d_Ev_takeText_12⟩) rfl (G_pc (pc' := 13) rfl ?_)
  refine G_putL (o := (19 + 9 * e)) (c := 1) (k := 6) (ki := 6) (x := n) d_Ev_takeText_13 fl_Ev_62 rfl (kd_Ev he) (by decide) (by show 19 + 9 * e < 87; omega) (by decide) rfl (gn_Ev he (by decide)) (tokI (by omega)) rfl (G_pc (pc' := 16) rfl ?_)
  refine G_vret d_Ev_takeText_16 rfl rfl ?_
  exact ⟨rfl, rfl⟩

