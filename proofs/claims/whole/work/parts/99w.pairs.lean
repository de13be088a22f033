/-! THE SEVENTEEN PAIRS: the call of the desk and the call of the model one behind the other -/
def Pr (X : WX) (n : Int) (dy : MethodName) (db : ByteArray) (dL : Nat) (my : MethodName) (mb : ByteArray) (mL : Nat) (ret : Option FieldType) (as : List PV) (sh : Int → PV) (M : Mem) : Prop :=
  ∃ Qd : Option PV → Mem → Prop, MG X gt 408 KE KE dy db dL ret (vr 1 :: as) M Qd ∧ ∀ (r : Option PV) (M1 : Mem), Qd r M1 → ∃ Qm : Option PV → Mem → Prop, MG X gt 6 KE KE my mb mL ret (vr 55 :: as) M1 Qm ∧ ∀ (r' : Option PV) (M2 : Mem), Qm r' M2 → r = r' ∧ BI (n + 4) M2 ∧ ∃ x, r' = some (sh x)
theorem dk_of {P : Prop} {r a b : Option PV} {M1 A B : Mem} {φ : Mem → Prop} (h : (P → r = a ∧ M1 = A) ∧ (¬ P → r = b ∧ M1 = B)) (hA : φ A) (hB : φ B) : φ M1 :=
  (Classical.em P).elim (fun p => by rw [(h.1 p).2]; exact hA) (fun p => by rw [(h.2 p).2]; exact hB)
theorem sh_of {P A B : Prop} {r : Option PV} {a b : Int} (h : (P → r = some (vi a) ∧ A) ∧ (¬ P → r = some (vi b) ∧ B)) : ∃ x, r = some (vi x) :=
  (Classical.em P).elim (fun p => ⟨_, (h.1 p).1⟩) (fun p => ⟨_, (h.2 p).1⟩)
def hiM (M Z : Mem) : Prop := ∀ c : Nat, 55 ≤ c → Z c = M c
theorem hi_rf {M : Mem} : hiM M M := fun _ _ => rfl
theorem hi_set {M Z : Mem} {k : Nat} {i v : Int} (h : hiM M Z) (hk : k < 55) : hiM M (mset Z k i v) := fun c hc => funext fun j => (if_neg (fun h => by omega)).trans (congrFun (h c hc) j)
theorem hi_end {M Z : Mem} {v : Int} (h : hiM M Z) : hiM M (endD Z v) := fun c hc => funext fun j => (endD_o (by omega) (by omega) (fun m hm => by omega)).trans (congrFun (h c hc) j)
theorem TI_hi {M Z : Mem} (h : hiM M Z) (hI : TI M) : TI Z :=
  TI_m (congrFun (h 55 (by decide)) 0) (congrFun (h 55 (by decide)) 5) (congrFun (h 55 (by decide)) 9) (congrFun (h 55 (by decide)) 10) (h 56 (by decide)) (h 57 (by decide)) (h 58 (by decide)) (h 60 (by decide)) (h 61 (by decide)) hI
section PR
variable {X : WX} {M : Mem} {n : Int}
theorem pr_addClass (hB : BI n M) (a : Int) : Pr X n y_De_addClass b_De_addClass 2 y_Mo_addClass b_Mo_addClass 2 (some .int) [vi a] vi M :=
  ⟨_, g_De_addClass (by decide) a M hB.1.1 hB.1.2.1, fun _ M1 hd =>
    have hi : hiM M M1 := dk_of hd (hi_set (hi_set hi_rf (by decide)) (by decide)) hi_rf
    ⟨_, g_Mo_addClass (by decide) a M1 (TI_hi hi hB.1.2.1).1, fun _ _ hm => ⟨(c_addClass hB hd hm).1, BI_up (c_addClass hB hd hm).2 (by omega), sh_of hm⟩⟩⟩
theorem pr_addField (hB : BI n M) (t m k : Int) : Pr X n y_De_addField b_De_addField 4 y_Mo_addField b_Mo_addField 5 (some .boolean) [vi t, vi m, vi k] vi M :=
  ⟨_, g_De_addField (by decide) t m k M hB.1.1 hB.1.2.1, fun _ M1 hd =>
    have hi : hiM M M1 := dk_of hd (hi_set hi_rf (by decide)) hi_rf
    ⟨_, g_Mo_addField (by decide) t m k M1 (TI_hi hi hB.1.2.1).1 (TI_hi hi hB.1.2.1).2.2.2.2.1, fun _ _ hm => ⟨(c_addField hB hd hm).1, BI_up (c_addField hB hd hm).2 (by omega), sh_of hm⟩⟩⟩
theorem pr_addVariable (hB : BI n M) (m k : Int) : Pr X n y_De_addVariable b_De_addVariable 3 y_Mo_addVariable b_Mo_addVariable 3 (some .boolean) [vi m, vi k] vi M :=
  ⟨_, g_De_addVariable (by decide) m k M hB.1.1 hB.1.2.1, fun _ M1 hd =>
    have hi : hiM M M1 := dk_of hd (hi_set hi_rf (by decide)) hi_rf
    ⟨_, g_Mo_addVariable (by decide) m k M1 (TI_hi hi hB.1.2.1).1, fun _ _ hm => ⟨(c_addVar hB hd hm).1, BI_up (c_addVar hB hd hm).2 (by omega), sh_of hm⟩⟩⟩
theorem pr_make (hB : BI n M) (k l : Int) : Pr X n y_De_make b_De_make 3 y_Mo_make b_Mo_make 4 (some .int) [vi k, vi l] vi M :=
  ⟨_, g_De_make (by decide) k l M hB.1.1 hB.1.2.1, fun _ M1 hd =>
    have hi : hiM M M1 := dk_of hd (hi_set (hi_set (hi_set hi_rf (by decide)) (by decide)) (by decide)) hi_rf
    ⟨_, g_Mo_make (by decide) k l M1 (TI_hi hi hB.1.2.1).1 (TI_hi hi hB.1.2.1).2.1, fun _ _ hm => ⟨(c_make hB hd hm).1, BI_up (c_make hB hd hm).2 (by omega), sh_of hm⟩⟩⟩
theorem pr_setVariable (hB : BI n M) (m v : Int) : Pr X n y_De_setVariable b_De_setVariable 4 y_Mo_setVariable b_Mo_setVariable 4 (some .boolean) [vi m, vl v] vi M :=
  ⟨_, g_De_setVariable (by decide) m v M hB.1.1 hB.1.2.1, fun _ M1 hd =>
    have hi : hiM M M1 := dk_of hd (hi_set hi_rf (by decide)) hi_rf
    have hI := TI_hi hi hB.1.2.1
    ⟨_, g_Mo_setVariable (by decide) m v M1 hI.2.2.2.2.1 hI.2.1 hI.2.2.2.2.2.2.2.2.1 hI.2.2.2.2.2.2.2.1, fun _ _ hm => ⟨(c_setVar hB hd hm).1, BI_up (c_setVar hB hd hm).2 (by omega), sh_of hm⟩⟩⟩
theorem pr_setPart (hB : BI n M) (o p v : Int) : Pr X n y_De_setPart b_De_setPart 5 y_Mo_setPart b_Mo_setPart 7 (some .boolean) [vi o, vi p, vl v] vi M :=
  ⟨_, g_De_setPart (by decide) o p v M hB.1.1 hB.1.2.1, fun _ M1 hd =>
    have hi : hiM M M1 := dk_of hd (hi_set hi_rf (by decide)) hi_rf
    have hI := TI_hi hi hB.1.2.1
    ⟨_, g_Mo_setPart (by decide) o p v M1 hI.2.2.2.2.1 hI.2.1 hI.2.2.2.2.2.2.2.2.1 hI.2.2.2.2.2.2.1 (fun o h1 h2 => hI.2.2.2.2.2.2.2.2.2.2.1 o (by omega) (by have := hI.2.1; omega)), fun _ _ hm => ⟨(c_setPart hB hd hm).1, BI_up (c_setPart hB hd hm).2 (by omega), sh_of hm⟩⟩⟩
theorem pr_run (hB : BI n M) (hn : n ≤ 290) (on : Int) (hon : 0 ≤ on ∧ on ≤ 1) : Pr X n y_De_run b_De_run 2 y_Mo_run b_Mo_run 2 (some .boolean) [vi on] vi M :=
  ⟨_, g_De_run (by decide) on M hB.1.1 hB.1.2.1 hon, fun _ M1 hd =>
    have hi : hiM M M1 := dk_of hd (by
      unfold runD
      split
      · exact hi_set (hi_set hi_rf (by decide)) (by decide)
      · exact hi_end (hi_set (hi_set hi_rf (by decide)) (by decide))) hi_rf
    have hI := TI_hi hi hB.1.2.1
    ⟨_, g_Mo_run (by decide) on M1 hon hI.2.2.1 hI.2.2.2.1, fun _ _ hm => ⟨(c_run hB (by omega) hon hd hm).1, BI_up (c_run hB (by omega) hon hd hm).2 (by omega), sh_of hm⟩⟩⟩
theorem pr_line (hB : BI n M) (hn : n ≤ 290) (on : Int) (hon : 0 ≤ on ∧ on ≤ 1) : Pr X n y_De_line b_De_line 2 y_Mo_line b_Mo_line 2 (some .boolean) [vi on] vi M :=
  ⟨_, g_De_line (by decide) on M hon, fun _ M1 hd =>
    have hi : hiM M M1 := dk_of hd (by
      unfold lineD
      split
      · exact hi_end (hi_set hi_rf (by decide))
      · exact hi_set hi_rf (by decide)) hi_rf
    ⟨_, g_Mo_line (by decide) on M1 hon (by rw [congrFun (hi 55 (by decide)) 11]; have := hB.2.1.1; have := hB.2.1.2.1; omega), fun _ _ hm => ⟨(c_line hB (by omega) hon hd hm).1, BI_up (c_line hB (by omega) hon hd hm).2 (by omega), sh_of hm⟩⟩⟩
theorem pr_put (hB : BI n M) (hn : n ≤ 290) (c : Int) : Pr X n y_De_put b_De_put 2 y_Mo_put b_Mo_put 2 (some .boolean) [vi c] vi M :=
  ⟨_, g_De_put (by decide) c M (by have := hB.2.2.2.2.1.1; have := hB.2.2.2.2.1.2.1; omega), fun _ M1 hd =>
    have hi : hiM M M1 := dk_of hd (hi_set (hi_set hi_rf (by decide)) (by decide)) hi_rf
    ⟨_, g_Mo_put (by decide) c M1 (by rw [congrFun (hi 64 (by decide)) 4]; exact hB.2.2.2.2.1.2.1), fun _ _ hm => ⟨(c_put hB (by omega) hd hm).1, BI_up (c_put hB (by omega) hd hm).2 (by omega), sh_of hm⟩⟩⟩
theorem BI_w (hB : BI n M) (hn : n ≤ 290) : (0 ≤ M 9 3 ∧ M 9 3 ≤ 300) ∧ (0 ≤ M 9 4 ∧ M 9 4 ≤ 300) ∧ (∀ j, 0 ≤ j → j < M 9 3 → (0 ≤ M 11 j ∧ M 11 j < 364) ∧ 0 ≤ M 12 j ∧ M 12 j < 100000) ∧ (0 ≤ M 55 21 ∧ M 55 21 ≤ 400) ∧ (0 ≤ M 55 24 ∧ M 55 24 ≤ 400) ∧ ∀ j, 0 ≤ j → j < M 55 21 → 0 ≤ M 72 j ∧ M 72 j < 423 := by
  obtain ⟨-, ⟨c1, c2, ⟨d1, d2, d3, d4⟩, c4, c5, c6⟩, -⟩ := hB
  refine ⟨by omega, by omega, fun j h0 h1 => ⟨(d4 j h0 h1).1.1, c4 j h0 h1⟩, by omega, by omega, fun j h0 h1 => ?_⟩
  have h2 := d4 j h0 (by omega)
  rw [h2.2.1]
  exact pcD_rng h2.1
theorem pr_request (hB : BI n M) (hn : n ≤ 290) (k w : Int) : Pr X n y_De_request b_De_request 6 y_Mo_request b_Mo_request 7 (some .int) [vi k, vi w] vi M :=
  have hw := BI_w hB hn
  ⟨_, g_De_request (by decide) k w M hB.1.1 hB.1.2.1 hw.1 hw.2.2.1, fun _ M1 hd =>
    have hi : hiM M M1 := dk_of hd hi_rf hi_rf
    ⟨_, g_Mo_request (by decide) k w M1 (by rw [congrFun (hi 55 (by decide)) 21]; exact hw.2.2.2.1) (fun j h0 h1 => by rw [congrFun (hi 72 (by decide)) j]; rw [congrFun (hi 55 (by decide)) 21] at h1; exact hw.2.2.2.2.2 j h0 h1), fun _ _ hm => ⟨(c_request hB hd hm).1, BI_up (c_request hB hd hm).2 (by omega), ⟨_, hm.1⟩⟩⟩⟩
theorem pr_refuse (hB : BI n M) (hn : n ≤ 290) (k : Int) : Pr X n y_De_refuse b_De_refuse 5 y_Mo_refuse b_Mo_refuse 5 (some .int) [vi k] vi M :=
  have hw := BI_w hB hn
  ⟨_, g_De_refuse (by decide) k M hw.1 hw.2.2.1, fun _ M1 hd =>
    have hi : hiM M M1 := dk_of hd (fun c hc => funext fun j => (refN_o 4 0 _ _ c j (fun m _ h2 => by omega)).trans (by
      unfold dropD shD mset; rw [if_neg (fun h9 => by omega), if_neg (fun h9 => by omega)])) hi_rf
    ⟨_, g_Mo_refuse (by decide) k M1 (by rw [congrFun (hi 55 (by decide)) 21]; exact hw.2.2.2.1), fun _ _ hm => ⟨(c_refuse hB (by omega) hd hm).1, BI_up (c_refuse hB (by omega) hd hm).2 (by omega), sh_of hm⟩⟩⟩
theorem pr_count (hB : BI n M) (hn : n ≤ 290) (w : Int) : Pr X n y_De_count b_De_count 2 y_Mo_count b_Mo_count 4 (some .int) [vi w] vi M :=
  have hw := BI_w hB hn
  ⟨_, g_De_count (by decide) w M (by have := hB.2.2.2.2.1.1; have := hB.2.2.2.2.1.2.1; omega) hw.1 (by have := hw.2.1; omega) (fun j h0 h1 => hB.2.2.1.1.1 j (by omega) (by omega)), fun _ M1 hd =>
    have hi : hiM M M1 := by rw [hd.2]; exact hi_rf
    ⟨_, g_Mo_count (by decide) w M1 (by rw [congrFun (hi 55 (by decide)) 21]; exact hw.2.2.2.1) (by rw [congrFun (hi 55 (by decide)) 24]; exact hw.2.2.2.2.1), fun _ _ hm => ⟨(c_count hB hd hm).1, BI_up (c_count hB hd hm).2 (by omega), ⟨_, hm.1⟩⟩⟩⟩
theorem pr_look (hB : BI n M) (z w : Int) : Pr X n y_De_look b_De_look 3 y_Mo_look b_Mo_look 3 (some .int) [vi z, vi w] vi M := by
  by_cases hz : 0 ≤ z ∧ z < 4
  · obtain ⟨e, rfl⟩ := Int.eq_ofNat_of_zero_le hz.1
    have he : e < 4 := by omega
    refine ⟨_, g_De_look (by decide) e w M he, fun r M1 hd => ⟨_, g_Mo_look (by decide) e w M1, fun r' M2 hm => ?_⟩⟩
    have h := c_look (z := e) hB ⟨fun e' he' hh => (by have : e' = e := by omega
                                                       subst this; exact hd), fun hh => absurd hz hh⟩ hm
    exact ⟨h.1, BI_up h.2 (by omega), _, hm.1⟩
  · refine ⟨_, gx_De_look (by decide) z w M hz, fun r M1 hd => ⟨_, g_Mo_look (by decide) z w M1, fun r' M2 hm => ?_⟩⟩
    have h := c_look (z := z) hB ⟨fun e' he' hh => absurd ⟨by omega, by omega⟩ hz, fun _ => hd⟩ hm
    exact ⟨h.1, BI_up h.2 (by omega), _, hm.1⟩
theorem pr_value (hB : BI n M) (z : Int) : Pr X n y_De_value b_De_value 2 y_Mo_value b_Mo_value 2 (some .long) [vi z] vl M := by
  by_cases hz : 0 ≤ z ∧ z < 4
  · obtain ⟨e, rfl⟩ := Int.eq_ofNat_of_zero_le hz.1
    have he : e < 4 := by omega
    obtain ⟨a1, a2, a3, a4, a5, a6, a7, a8, a9⟩ := hB.2.2.2.2.2.1 e he
    refine ⟨_, g_De_value (by decide) e M he (fun h => (a7 (by omega)).1), fun r M1 hd => ⟨_, g_Mo_value (by decide) e M1, fun r' M2 hm => ?_⟩⟩
    have h := c_value (z := e) hB ⟨fun e' he' hh => (by have : e' = e := by omega
                                                        subst this; exact hd), fun hh => absurd hz hh⟩ hm
    exact ⟨h.1, BI_up h.2 (by omega), _, hm.1⟩
  · refine ⟨_, gx_De_value (by decide) z M hz, fun r M1 hd => ⟨_, g_Mo_value (by decide) z M1, fun r' M2 hm => ?_⟩⟩
    have h := c_value (z := z) hB ⟨fun e' he' hh => absurd ⟨by omega, by omega⟩ hz, fun _ => hd⟩ hm
    exact ⟨h.1, BI_up h.2 (by omega), _, hm.1⟩
end PR
