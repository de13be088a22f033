def TL (M : Mem) (L : List (Int × Int)) : Prop := M 14 3 = L.length ∧ ∀ i : Nat, i < L.length → M 15 i = tcode (tkt L i) ∧ M 16 i = tkind (tkt L i) ∧ M 17 i = tnum (tkt L i) (tkv L i)
def frT (M M' : Mem) : Prop := ∀ c i, ¬ (14 ≤ c ∧ c ≤ 17) → M' c i = M c i
def gdF (F : List (Int × Int) × Int) : Prop := F.2 = 0 ∧ F.1.length ≤ 24
theorem frT_set {M M1 : Mem} {c : Nat} {i v : Int} (h : frT M M1) (hc : 14 ≤ c ∧ c ≤ 17) : frT M (mset M1 c i v) := fun c' i' h' => (mset_ne (by omega)).trans (h c' i' h')
theorem frT_addK {M M1 : Mem} {c k n : Int} (h : frT M M1) : frT M (addK M1 c k n) := frT_set (frT_set (frT_set (frT_set h (by omega)) (by omega)) (by omega)) (by omega)
theorem TL_add {M : Mem} {L : List (Int × Int)} {t v : Int} (h : TL M L) : TL (addK M (tcode t) (tkind t) (tnum t v)) (L ++ [(t, v)]) := by
  refine ⟨?_, fun i hi => ?_⟩
  · show M 14 3 + 1 = _; rw [h.1]; simp
  · rw [List.length_append, List.length_singleton] at hi
    show (if (15 : Nat) = 15 ∧ (i : Int) = M 14 3 then tcode t else M 15 i) = _ ∧ (if (16 : Nat) = 16 ∧ (i : Int) = M 14 3 then tkind t else M 16 i) = _ ∧ (if (17 : Nat) = 17 ∧ (i : Int) = M 14 3 then tnum t v else M 17 i) = _
    rw [h.1]
    by_cases hj : i = L.length
    · subst hj
      rw [tkt_new rfl, tkv_new rfl]; simp
    · rw [tkt_old (by omega) (by omega), tkv_old (by omega) (by omega), if_neg (by omega), if_neg (by omega), if_neg (by omega)]
      exact h.2 i (by omega)
theorem LT_addK {e : Nat} {f : Int → Int} {len c k n : Int} {M : Mem} (he : e < 4) (h : LT e f len M) : LT e f len (addK M c k n) := by
  refine ⟨h.1, h.2.1, h.2.2.1, fun j h0 h1 => ?_, h.2.2.2.2⟩
  have e1 : addK M c k n (27 + 9 * e) j = M (27 + 9 * e) j := by
    unfold addK
    rw [mset_ne (by omega), mset_ne (by omega), mset_ne (by omega), mset_ne (by omega)]
  rw [e1]; exact h.2.2.2.1 j h0 h1
theorem lexL_t {f : Int → Int} {len : Int} {n : Nat} {k : Int} {L : List (Int × Int)} (h : k < len) (h2 : ¬ f k = 32) (h3 : (tok1 f k).2.2.2 = 0) : lexL f len (n + 1) k L = lexL f len n (tok1 f k).1 (L ++ [((tok1 f k).2.1, (tok1 f k).2.2.1)]) := by simp [lexL, h, h2, h3]
theorem lexL_w {f : Int → Int} {len : Int} {n : Nat} {k : Int} {L : List (Int × Int)} (h : k < len) (h2 : ¬ f k = 32) (h3 : ¬ (tok1 f k).2.2.2 = 0) : lexL f len (n + 1) k L = (L ++ [((tok1 f k).2.1, (tok1 f k).2.2.1)], (tok1 f k).2.2.2) := by simp [lexL, h, h2, h3]
theorem lexL_len {f : Int → Int} {len : Int} : ∀ {n : Nat} {k : Int} {L : List (Int × Int)}, L.length ≤ (lexL f len n k L).1.length := by
  intro n
  induction n with
  | zero => intro k L; exact Nat.le_refl _
  | succ n ih =>
    intro k L
    by_cases h : k < len
    · by_cases h2 : f k = 32
      · rw [lexL_sp h h2]; exact ih
      · by_cases h3 : (tok1 f k).2.2.2 = 0
        · rw [lexL_t h h2 h3]
          have := @ih (tok1 f k).1 (L ++ [((tok1 f k).2.1, (tok1 f k).2.2.1)])
          simp only [List.length_append, List.length_cons, List.length_nil] at this
          omega
        · rw [lexL_w h h2 h3]; simp
    · rw [lexL_out h]; exact Nat.le_refl _
theorem lexL_24 {f : Int → Int} {len : Int} {n : Nat} {k : Int} {L : List (Int × Int)} (h : k < len) (h2 : ¬ f k = 32) (hL : L.length = 24) : ¬ gdF (lexL f len (n + 1) k L) := by
  intro hg
  by_cases h3 : (tok1 f k).2.2.2 = 0
  · rw [lexL_t h h2 h3] at hg
    have := @lexL_len f len n (tok1 f k).1 (L ++ [((tok1 f k).2.1, (tok1 f k).2.2.1)])
    have h4 := hg.2
    simp only [List.length_append, List.length_cons, List.length_nil] at this
    omega
  · rw [lexL_w h h2 h3] at hg; exact h3 hg.1
theorem d_To_split_0 : decode b_To_split 0 = .ok (.aload_n 0, 1) := by decide +kernel
theorem d_To_split_1 : decode b_To_split 1 = .ok (.aload_n 1, 1) := by decide +kernel
theorem d_To_split_2 : decode b_To_split 2 = .ok (.putfield 22, 3) := by decide +kernel
theorem d_To_split_5 : decode b_To_split 5 = .ok (.aload_n 0, 1) := by decide +kernel
theorem d_To_split_6 : decode b_To_split 6 = .ok (.iload_n 2, 1) := by decide +kernel
theorem d_To_split_7 : decode b_To_split 7 = .ok (.putfield 26, 3) := by decide +kernel
theorem d_To_split_10 : decode b_To_split 10 = .ok (.aload_n 0, 1) := by decide +kernel
theorem d_To_split_11 : decode b_To_split 11 = .ok (.iconst 0, 1) := by decide +kernel
theorem d_To_split_12 : decode b_To_split 12 = .ok (.putfield 30, 3) := by decide +kernel
theorem d_To_split_15 : decode b_To_split 15 = .ok (.iconst 0, 1) := by decide +kernel
theorem d_To_split_16 : decode b_To_split 16 = .ok (.istore_n 3, 1) := by decide +kernel
theorem d_To_split_17 : decode b_To_split 17 = .ok (.iconst 0, 1) := by decide +kernel
theorem d_To_split_18 : decode b_To_split 18 = .ok (.istore 4, 2) := by decide +kernel
theorem d_To_split_20 : decode b_To_split 20 = .ok (.iload 4, 2) := by decide +kernel
theorem d_To_split_22 : decode b_To_split 22 = .ok (.aload_n 0, 1) := by decide +kernel
theorem d_To_split_23 : decode b_To_split 23 = .ok (.getfield 26, 3) := by decide +kernel
theorem d_To_split_26 : decode b_To_split 26 = .ok (.if_icmp .ge 47, 3) := by decide +kernel
theorem d_To_split_29 : decode b_To_split 29 = .ok (.iload_n 3, 1) := by decide +kernel
theorem d_To_split_30 : decode b_To_split 30 = .ok (.aload_n 0, 1) := by decide +kernel
theorem d_To_split_31 : decode b_To_split 31 = .ok (.getfield 26, 3) := by decide +kernel
theorem d_To_split_34 : decode b_To_split 34 = .ok (.if_icmp .ge 39, 3) := by decide +kernel
theorem d_To_split_37 : decode b_To_split 37 = .ok (.aload_n 0, 1) := by decide +kernel
theorem d_To_split_38 : decode b_To_split 38 = .ok (.getfield 22, 3) := by decide +kernel
theorem d_To_split_41 : decode b_To_split 41 = .ok (.iload_n 3, 1) := by decide +kernel
theorem d_To_split_42 : decode b_To_split 42 = .ok (.caload, 1) := by decide +kernel
theorem d_To_split_43 : decode b_To_split 43 = .ok (.bipush 32, 2) := by decide +kernel
theorem d_To_split_45 : decode b_To_split 45 = .ok (.if_icmp .ne 9, 3) := by decide +kernel
theorem d_To_split_48 : decode b_To_split 48 = .ok (.iload_n 3, 1) := by decide +kernel
theorem d_To_split_49 : decode b_To_split 49 = .ok (.iconst 1, 1) := by decide +kernel
theorem d_To_split_50 : decode b_To_split 50 = .ok (.iadd, 1) := by decide +kernel
theorem d_To_split_51 : decode b_To_split 51 = .ok (.goto 8, 3) := by decide +kernel
theorem d_To_split_54 : decode b_To_split 54 = .ok (.aload_n 0, 1) := by decide +kernel
theorem d_To_split_55 : decode b_To_split 55 = .ok (.iload_n 3, 1) := by decide +kernel
theorem d_To_split_56 : decode b_To_split 56 = .ok (.invokevirtual 33, 3) := by decide +kernel
theorem d_To_split_59 : decode b_To_split 59 = .ok (.istore_n 3, 1) := by decide +kernel
theorem d_To_split_60 : decode b_To_split 60 = .ok (.iload_n 3, 1) := by decide +kernel
theorem d_To_split_61 : decode b_To_split 61 = .ok (.iconst (-1), 1) := by decide +kernel
theorem d_To_split_62 : decode b_To_split 62 = .ok (.if_icmp .ne 5, 3) := by decide +kernel
theorem d_To_split_65 : decode b_To_split 65 = .ok (.iconst 0, 1) := by decide +kernel
theorem d_To_split_66 : decode b_To_split 66 = .ok (.ireturn, 1) := by decide +kernel
theorem d_To_split_67 : decode b_To_split 67 = .ok (.iinc 4 1, 3) := by decide +kernel
theorem d_To_split_70 : decode b_To_split 70 = .ok (.goto (-50), 3) := by decide +kernel
theorem d_To_split_73 : decode b_To_split 73 = .ok (.iconst 1, 1) := by decide +kernel
theorem d_To_split_74 : decode b_To_split 74 = .ok (.ireturn, 1) := by decide +kernel
set_option maxHeartbeats 1000000 in
theorem g_To_split {X : WX} {d : Nat} (hd : 7 ≤ d) (e : Nat) (f : Int → Int) (len : Int) (F : List (Int × Int) × Int) (M : Mem) (he : e < 4) (hlen : 0 ≤ len ∧ len ≤ 40) (hch : ∀ k, 0 ≤ k → k < len → M (27 + 9 * e) k = f k ∧ 32 ≤ f k ∧ f k ≤ 126) (hz : ∀ k, len ≤ k → f k = 0) (hF : lexL f len 41 0 [] = F) : MG X gt d KE KE y_To_split b_To_split 5 (some .boolean) [vr 14, vr ((27 + 9 * e : Nat) : Int), vi len] M (fun r M' => (gdF F → r = some (vi 1) ∧ TL M' F.1 ∧ frT M M') ∧ (¬ gdF F → r = some (vi 0) ∧ frT M M')) := by
  refine MG_of_G (by decide) (Nat.le_of_ble_eq_true rfl) (Nat.le_refl _) (by decide) ?_
  show G X gt d KE KE y_To_split b_To_split 5 (some .boolean) _ 0 [(0, vr 14), (1, vr ((27 + 9 * e : Nat) : Int)), (2, vi len)] [] KE M
  refine G_rngl (i := 2) rfl (fun hr2 => ?_)
  have loop : ∀ (g : Nat) (k cnt : Int) (L : List (Int × Int)) (M1 : Mem), 41 - k ≤ g → (0 ≤ k ∧ k ≤ 43) → (0 ≤ cnt ∧ cnt ≤ k) → LT e f len M1 → TL M1 L → L.length ≤ 24 → frT M M1 → lexL f len g k L = F → G X gt d KE KE y_To_split b_To_split 5 (some .boolean) (fun r M' => (gdF F → r = some (vi 1) ∧ TL M' F.1 ∧ frT M M') ∧ (¬ gdF F → r = some (vi 0) ∧ frT M M')) 20 [(4, vi cnt), (3, vi k), (0, vr 14), (1, vr ((27 + 9 * e : Nat) : Int)), (2, vi len)] [] KE M1 := by
    intro g
    induction g with
    | zero =>
      intro k cnt L M1 hg hk hcnt hL1 hT h24 hfr hF
      have hTn := hT.1
      have hlen := hL1.2.2.1
      refine G_iload (i := 4) (n := 0) (len := 2) (Or.inr ⟨rfl, d_To_split_20⟩) rfl (G_pc (pc' := 22) rfl ?_)
      refine G_aload (i := 0) (n := 2) (len := 1) (Or.inl ⟨0, rfl, rfl, d_To_split_22⟩) rfl (by decide) (G_pc (pc' := 23) rfl ?_)
      refine G_get (o := 14) (c := 7) (k := 5) (v := M1 14 5) d_To_split_23 fl_To_26 rfl (by decide) (by decide) rfl rfl (G_pc (pc' := 26) rfl ?_)
      rw [show M1 14 5 = len from hL1.2.1]
      refine G_icmp_ge (tgt := 73) d_To_split_26 (by decide) (fun h1901 => ?_) (fun h1901 => G_pc (pc' := 29) rfl ?_)
      · skip
        refine G_iconst (n := 1) d_To_split_73 (by decide) (G_pc (pc' := 74) rfl ?_)
        refine G_iret d_To_split_74 rfl (tokZ (by decide)) rfl rfl ?_
        have hF9 : lexL f len 0 k L = (L, 0) := lexL_out (by omega)
        rw [hF] at hF9
        rw [hF9]
        exact ⟨fun _ => ⟨rfl, hT, hfr⟩, fun h => absurd ⟨rfl, h24⟩ h⟩
      · skip
        refine G_iload (i := 3) (n := 1) (len := 1) (Or.inl ⟨3, rfl, rfl, d_To_split_29⟩) rfl (G_pc (pc' := 30) rfl ?_)
        refine G_aload (i := 0) (n := 2) (len := 1) (Or.inl ⟨0, rfl, rfl, d_To_split_30⟩) rfl (by decide) (G_pc (pc' := 31) rfl ?_)
        refine G_get (o := 14) (c := 7) (k := 5) (v := M1 14 5) d_To_split_31 fl_To_26 rfl (by decide) (by decide) rfl rfl (G_pc (pc' := 34) rfl ?_)
        rw [show M1 14 5 = len from hL1.2.1]
        refine G_icmp_ge (tgt := 73) d_To_split_34 (by decide) (fun h1902 => ?_) (fun h1902 => absurd h1902 (by omega))
        refine G_iconst (n := 1) d_To_split_73 (by decide) (G_pc (pc' := 74) rfl ?_)
        refine G_iret d_To_split_74 rfl (tokZ (by decide)) rfl rfl ?_
        have hF9 : lexL f len 0 k L = (L, 0) := lexL_out (by omega)
        rw [hF] at hF9
        rw [hF9]
        exact ⟨fun _ => ⟨rfl, hT, hfr⟩, fun h => absurd ⟨rfl, h24⟩ h⟩
    | succ g ih =>
      intro k cnt L M1 hg hk hcnt hL1 hT h24 hfr hF
      have hTn := hT.1
      have hlen := hL1.2.2.1
      refine G_iload (i := 4) (n := 0) (len := 2) (Or.inr ⟨rfl, d_To_split_20⟩) rfl (G_pc (pc' := 22) rfl ?_)
      refine G_aload (i := 0) (n := 2) (len := 1) (Or.inl ⟨0, rfl, rfl, d_To_split_22⟩) rfl (by decide) (G_pc (pc' := 23) rfl ?_)
      refine G_get (o := 14) (c := 7) (k := 5) (v := M1 14 5) d_To_split_23 fl_To_26 rfl (by decide) (by decide) rfl rfl (G_pc (pc' := 26) rfl ?_)
      rw [show M1 14 5 = len from hL1.2.1]
      refine G_icmp_ge (tgt := 73) d_To_split_26 (by decide) (fun h2001 => ?_) (fun h2001 => G_pc (pc' := 29) rfl ?_)
      · skip
        refine G_iconst (n := 1) d_To_split_73 (by decide) (G_pc (pc' := 74) rfl ?_)
        refine G_iret d_To_split_74 rfl (tokZ (by decide)) rfl rfl ?_
        have hF9 : lexL f len (g + 1) k L = (L, 0) := lexL_out (by omega)
        rw [hF] at hF9
        rw [hF9]
        exact ⟨fun _ => ⟨rfl, hT, hfr⟩, fun h => absurd ⟨rfl, h24⟩ h⟩
      · skip
        refine G_iload (i := 3) (n := 1) (len := 1) (Or.inl ⟨3, rfl, rfl, d_To_split_29⟩) rfl (G_pc (pc' := 30) rfl ?_)
        refine G_aload (i := 0) (n := 2) (len := 1) (Or.inl ⟨0, rfl, rfl, d_To_split_30⟩) rfl (by decide) (G_pc (pc' := 31) rfl ?_)
        refine G_get (o := 14) (c := 7) (k := 5) (v := M1 14 5) d_To_split_31 fl_To_26 rfl (by decide) (by decide) rfl rfl (G_pc (pc' := 34) rfl ?_)
        rw [show M1 14 5 = len from hL1.2.1]
        refine G_icmp_ge (tgt := 73) d_To_split_34 (by decide) (fun h2002 => ?_) (fun h2002 => G_pc (pc' := 37) rfl ?_)
        · skip
          refine G_iconst (n := 1) d_To_split_73 (by decide) (G_pc (pc' := 74) rfl ?_)
          refine G_iret d_To_split_74 rfl (tokZ (by decide)) rfl rfl ?_
          have hF9 : lexL f len (g + 1) k L = (L, 0) := lexL_out (by omega)
          rw [hF] at hF9
          rw [hF9]
          exact ⟨fun _ => ⟨rfl, hT, hfr⟩, fun h => absurd ⟨rfl, h24⟩ h⟩
        · skip
          refine G_aload (i := 0) (n := 2) (len := 1) (Or.inl ⟨0, rfl, rfl, d_To_split_37⟩) rfl (by decide) (G_pc (pc' := 38) rfl ?_)
          refine G_get (o := 14) (c := 7) (k := 4) (v := M1 14 4) d_To_split_38 fl_To_22 rfl (by decide) (by decide) rfl rfl (G_pc (pc' := 41) rfl ?_)
          rw [show M1 14 4 = ((27 + 9 * e : Nat) : Int) from hL1.1]
          refine G_iload (i := 3) (n := 1) (len := 1) (Or.inl ⟨3, rfl, rfl, d_To_split_41⟩) rfl (G_pc (pc' := 42) rfl ?_)
          refine G_caload (o := (27 + 9 * e)) (n := 40) (i := k) (v := M1 (27 + 9 * e) k) d_To_split_42 (kd_S6 he) ⟨by omega, (by show 27 + 9 * e < 87; omega)⟩ (by omega) (rdw (gn_S6 he _) (by first | rfl | (repeat (first | rfl | exact mset_eq (by omega) | refine (mset_ne (by omega)).trans ?_ | refine (mset_ni (by omega)).trans ?_)))) (fun t2003 => G_pc (pc' := 43) rfl ?_)
          have t2003 := tok_c t2003
          have cx2004 := hL1.2.2.2.1 k (by omega) (by omega)
          rw [show M1 (27 + 9 * e) k = f k from cx2004.1]
          refine G_bipush (n := 32) d_To_split_43 (by decide) (G_pc (pc' := 45) rfl ?_)
          refine G_icmp_ne (tgt := 54) d_To_split_45 (by decide) (fun h2005 => ?_) (fun h2005 => G_pc (pc' := 48) rfl ?_)
          · skip
            refine G_aload (i := 0) (n := 2) (len := 1) (Or.inl ⟨0, rfl, rfl, d_To_split_54⟩) rfl (by decide) (G_pc (pc' := 55) rfl ?_)
            refine G_iload (i := 3) (n := 1) (len := 1) (Or.inl ⟨3, rfl, rfl, d_To_split_55⟩) rfl (G_pc (pc' := 56) rfl ?_)
            refine G_callV (K1 := KE) (d2 := 6) (o := 14) (cl := 7) (as := [vi k]) (rest := []) d_To_split_56 mf_To_readToken ml_To_33 rfl rfl (by decide) rfl rfl (Nat.le_of_ble_eq_true rfl) (by omega) ⟨Nat.le_refl _, Nat.le_refl _⟩ (g_To_readToken (by omega) e f len k M1 he hL1 (by omega) (by omega)) (fun r2006 M2007 kq2008 q2008 => ?_)
            clear kq2008
            by_cases h24 : L.length = 24
            · skip
              obtain ⟨rfl, rfl⟩ := q2008.1 (by omega)
              refine G_ps (pc' := 59) (st' := [vi (-1)]) rfl rfl ?_
              refine G_istore (i := 3) (len := 1) (ls' := [(3, vi (-1)), (4, vi cnt), (0, vr 14), (1, vr ((27 + 9 * e : Nat) : Int)), (2, vi len)]) (Or.inl ⟨3, rfl, rfl, d_To_split_59⟩) (by decide) rfl (G_pc (pc' := 60) rfl ?_)
              refine G_iload (i := 3) (n := 0) (len := 1) (Or.inl ⟨3, rfl, rfl, d_To_split_60⟩) rfl (G_pc (pc' := 61) rfl ?_)
              refine G_iconst (n := (-1)) d_To_split_61 (by decide) (G_pc (pc' := 62) rfl ?_)
              refine G_icmp_ne (tgt := 67) d_To_split_62 (by decide) (fun h2009 => absurd h2009 (by decide)) (fun h2009 => G_pc (pc' := 65) rfl ?_)
              refine G_iconst (n := 0) d_To_split_65 (by decide) (G_pc (pc' := 66) rfl ?_)
              refine G_iret d_To_split_66 rfl (tokZ (by decide)) rfl rfl ?_
              exact ⟨fun h => absurd h (by rw [← hF]; exact lexL_24 (by omega) (by assumption) (by assumption)), fun _ => ⟨rfl, hfr⟩⟩
            · skip
              rcases q2008.2 (by omega) with ⟨hw9, rfl, rfl⟩ | ⟨hw9, rfl, rfl⟩
              · skip
                refine G_ps (pc' := 59) (st' := [vi (-1)]) rfl rfl ?_
                refine G_istore (i := 3) (len := 1) (ls' := [(3, vi (-1)), (4, vi cnt), (0, vr 14), (1, vr ((27 + 9 * e : Nat) : Int)), (2, vi len)]) (Or.inl ⟨3, rfl, rfl, d_To_split_59⟩) (by decide) rfl (G_pc (pc' := 60) rfl ?_)
                refine G_iload (i := 3) (n := 0) (len := 1) (Or.inl ⟨3, rfl, rfl, d_To_split_60⟩) rfl (G_pc (pc' := 61) rfl ?_)
                refine G_iconst (n := (-1)) d_To_split_61 (by decide) (G_pc (pc' := 62) rfl ?_)
                refine G_icmp_ne (tgt := 67) d_To_split_62 (by decide) (fun h2010 => absurd h2010 (by decide)) (fun h2010 => G_pc (pc' := 65) rfl ?_)
                refine G_iconst (n := 0) d_To_split_65 (by decide) (G_pc (pc' := 66) rfl ?_)
                refine G_iret d_To_split_66 rfl (tokZ (by decide)) rfl rfl ?_
                exact ⟨fun h => absurd h.1 (by rw [← hF, lexL_w (by omega) (by assumption) hw9]; exact hw9), fun _ => ⟨rfl, hfr⟩⟩
              · skip
                refine G_ps (pc' := 59) (st' := [vi ((tok1 f k).1)]) rfl rfl ?_
                have hte := tok1_end (f := f) (k := k) (by omega) (by omega)
                refine G_istore (i := 3) (len := 1) (ls' := [(3, vi ((tok1 f k).1)), (4, vi cnt), (0, vr 14), (1, vr ((27 + 9 * e : Nat) : Int)), (2, vi len)]) (Or.inl ⟨3, rfl, rfl, d_To_split_59⟩) (by decide) rfl (G_pc (pc' := 60) rfl ?_)
                refine G_iload (i := 3) (n := 0) (len := 1) (Or.inl ⟨3, rfl, rfl, d_To_split_60⟩) rfl (G_pc (pc' := 61) rfl ?_)
                refine G_iconst (n := (-1)) d_To_split_61 (by decide) (G_pc (pc' := 62) rfl ?_)
                refine G_icmp_ne (tgt := 67) d_To_split_62 (by decide) (fun h2011 => ?_) (fun h2011 => absurd h2011 (by omega))
                refine G_iinc (i := 4) (n := 1) (z := 1) (ls' := [(4, vi (cnt + 1)), (3, vi ((tok1 f k).1)), (0, vr 14), (1, vr ((27 + 9 * e : Nat) : Int)), (2, vi len)]) d_To_split_67 rfl (by decide) (by omega) rfl (G_pc (pc' := 70) rfl ?_)
                refine G_goto (tgt := 20) d_To_split_70 (by decide) ?_
                exact ih _ _ _ _ (by omega) (by omega) (by omega) (LT_addK he hL1) (TL_add hT) (by rw [List.length_append, List.length_singleton]; omega) (frT_addK hfr) ((lexL_t (by omega) (by assumption) hw9).symm.trans hF)
          · skip
            refine G_iload (i := 3) (n := 1) (len := 1) (Or.inl ⟨3, rfl, rfl, d_To_split_48⟩) rfl (G_pc (pc' := 49) rfl ?_)
            refine G_iconst (n := 1) d_To_split_49 (by decide) (G_pc (pc' := 50) rfl ?_)
            refine G_iadd d_To_split_50 (by omega) (G_pc (pc' := 51) rfl ?_)
            refine G_goto (tgt := 59) d_To_split_51 (by decide) ?_
            refine G_istore (i := 3) (len := 1) (ls' := [(3, vi (k + 1)), (4, vi cnt), (0, vr 14), (1, vr ((27 + 9 * e : Nat) : Int)), (2, vi len)]) (Or.inl ⟨3, rfl, rfl, d_To_split_59⟩) (by decide) rfl (G_pc (pc' := 60) rfl ?_)
            refine G_iload (i := 3) (n := 0) (len := 1) (Or.inl ⟨3, rfl, rfl, d_To_split_60⟩) rfl (G_pc (pc' := 61) rfl ?_)
            refine G_iconst (n := (-1)) d_To_split_61 (by decide) (G_pc (pc' := 62) rfl ?_)
            refine G_icmp_ne (tgt := 67) d_To_split_62 (by decide) (fun h2012 => ?_) (fun h2012 => absurd h2012 (by omega))
            refine G_iinc (i := 4) (n := 1) (z := 1) (ls' := [(4, vi (cnt + 1)), (3, vi (k + 1)), (0, vr 14), (1, vr ((27 + 9 * e : Nat) : Int)), (2, vi len)]) d_To_split_67 rfl (by decide) (by omega) rfl (G_pc (pc' := 70) rfl ?_)
            refine G_goto (tgt := 20) d_To_split_70 (by decide) ?_
            exact ih _ _ _ _ (by omega) (by omega) (by omega) hL1 hT h24 hfr ((lexL_sp (by omega) (by assumption)).symm.trans hF)
  refine G_aload (i := 0) (n := 0) (len := 1) (Or.inl ⟨0, rfl, rfl, d_To_split_0⟩) rfl (by decide) (G_pc (pc' := 1) rfl ?_)
  refine G_aload (i := 1) (n := 1) (len := 1) (Or.inl ⟨1, rfl, rfl, d_To_split_1⟩) rfl (by omega) (G_pc (pc' := 2) rfl ?_)
  refine G_putL (o := 14) (c := 7) (k := 4) (ki := 4) (x := ((27 + 9 * e : Nat) : Int)) d_To_split_2 fl_To_22 rfl rfl (by decide) (by decide) (by decide) rfl rfl (tokA (by omega)) rfl (G_pc (pc' := 5) rfl ?_)
  refine G_aload (i := 0) (n := 0) (len := 1) (Or.inl ⟨0, rfl, rfl, d_To_split_5⟩) rfl (by decide) (G_pc (pc' := 6) rfl ?_)
  refine G_iload (i := 2) (n := 2) (len := 1) (Or.inl ⟨2, rfl, rfl, d_To_split_6⟩) rfl (G_pc (pc' := 7) rfl ?_)
  refine G_putL (o := 14) (c := 7) (k := 5) (ki := 5) (x := len) d_To_split_7 fl_To_26 rfl rfl (by decide) (by decide) (by decide) rfl rfl (tokI (by omega)) rfl (G_pc (pc' := 10) rfl ?_)
  refine G_aload (i := 0) (n := 0) (len := 1) (Or.inl ⟨0, rfl, rfl, d_To_split_10⟩) rfl (by decide) (G_pc (pc' := 11) rfl ?_)
  refine G_iconst (n := 0) d_To_split_11 (by decide) (G_pc (pc' := 12) rfl ?_)
  refine G_putL (o := 14) (c := 7) (k := 3) (ki := 3) (x := 0) d_To_split_12 fl_To_30 rfl rfl (by decide) (by decide) (by decide) rfl rfl (tokI (by decide)) rfl (G_pc (pc' := 15) rfl ?_)
  refine G_iconst (n := 0) d_To_split_15 (by decide) (G_pc (pc' := 16) rfl ?_)
  refine G_istore (i := 3) (len := 1) (ls' := [(3, vi 0), (0, vr 14), (1, vr ((27 + 9 * e : Nat) : Int)), (2, vi len)]) (Or.inl ⟨3, rfl, rfl, d_To_split_16⟩) (by decide) rfl (G_pc (pc' := 17) rfl ?_)
  refine G_iconst (n := 0) d_To_split_17 (by decide) (G_pc (pc' := 18) rfl ?_)
  refine G_istore (i := 4) (len := 2) (ls' := [(4, vi 0), (3, vi 0), (0, vr 14), (1, vr ((27 + 9 * e : Nat) : Int)), (2, vi len)]) (Or.inr ⟨rfl, d_To_split_18⟩) (by decide) rfl (G_pc (pc' := 20) rfl ?_)
  exact loop 41 0 0 [] _ (by omega) (by omega) (by omega) ⟨rfl, rfl, hlen, fun j h0 h1 => by rw [mset_ne (by omega), mset_ne (by omega), mset_ne (by omega)]; exact hch j h0 h1, hz⟩ ⟨rfl, fun i hi => absurd hi (by simp)⟩ (by simp) (fun c i hc => by rw [mset_ne (by omega), mset_ne (by omega), mset_ne (by omega)]) hF

/-- the tokens of a text are good -/
def tokV (t v : Int) : Prop := okt t ∧ 1 ≤ t ∧ (t = 7 → 0 ≤ v ∧ v < 26) ∧ (8 ≤ t → t ≤ 12 → 0 ≤ v ∧ v < 6) ∧ 0 ≤ v ∧ v < 1000000000000000000
theorem wk_rng (n v : Int) : wkT n v = 0 ∨ (4 ≤ wkT n v ∧ wkT n v ≤ 6) ∨ (9 ≤ wkT n v ∧ wkT n v ≤ 15) := by
  have h1 : wkA n v = 0 ∨ (4 ≤ wkA n v ∧ wkA n v ≤ 6) ∨ (9 ≤ wkA n v ∧ wkA n v ≤ 15) := by
    unfold wkA
    repeat' (split)
    all_goals omega
  have h2 : wkB n v = 0 ∨ (4 ≤ wkB n v ∧ wkB n v ≤ 6) ∨ (9 ≤ wkB n v ∧ wkB n v ≤ 15) := by
    unfold wkB
    repeat' (split)
    all_goals omega
  have h3 : wkC n v = 0 ∨ (4 ≤ wkC n v ∧ wkC n v ≤ 6) ∨ (9 ≤ wkC n v ∧ wkC n v ≤ 15) := by
    unfold wkC
    repeat' (split)
    all_goals omega
  unfold wkT
  repeat' (split)
  all_goals omega
theorem w2_ok {b x : Int} (hx : x = 0 ∨ (4 ≤ x ∧ x ≤ 6) ∨ (9 ≤ x ∧ x ≤ 15)) (hw : (wordT2 b x).2.2.2 = 0) : tokV (wordT2 b x).2.1 (wordT2 b x).2.2.1 := by
  unfold wordT2 at hw ⊢
  simp only at hw ⊢
  have hx0 : ¬ x = 0 := fun e => by rw [if_pos e] at hw; omega
  have e1 : (if x = 15 then (4 : Int) else x) = 4 ∨ (if x = 15 then (4 : Int) else x) = x := by split <;> simp
  have e2 : (if x = 4 then (1 : Int) else 0) = 0 ∨ (if x = 4 then (1 : Int) else 0) = 1 := by split <;> simp
  have e3 : x = 15 → (if x = 15 then (4 : Int) else x) = 4 := fun e => if_pos e
  have e4 : ¬ x = 15 → (if x = 15 then (4 : Int) else x) = x := fun e => if_neg e
  generalize (if x = 15 then (4 : Int) else x) = y at e1 e3 e4 ⊢
  generalize (if x = 4 then (1 : Int) else 0) = z at e2 ⊢
  have hy : (4 ≤ y ∧ y ≤ 6) ∨ (9 ≤ y ∧ y ≤ 14) := by
    by_cases h15 : x = 15
    · have := e3 h15; omega
    · have := e4 h15; omega
  exact ⟨by unfold okt; omega, by omega, fun h => by omega, fun h1 h2 => by omega, by omega⟩
theorem n1_ok {f : Int → Int} {k a v : Int} (hv : 0 ≤ v ∧ v < 1000000000000000000) : tokV (numT1 f k a v).2.1 (numT1 f k a v).2.2.1 := by
  unfold numT1
  split
  · exact ⟨by show okt 2; unfold okt; omega, by show (1 : Int) ≤ 2; decide, fun h => absurd h (by show ¬ (2 : Int) = 7; decide), fun h => absurd h (by show ¬ (8 : Int) ≤ 2; decide), hv⟩
  · exact ⟨by show okt 1; unfold okt; omega, by show (1 : Int) ≤ 1; decide, fun h => absurd h (by show ¬ (1 : Int) = 7; decide), fun h => absurd h (by show ¬ (8 : Int) ≤ 1; decide), hv⟩
theorem tok1_ok {f : Int → Int} {k : Int} (hf : ∀ j, 0 ≤ j → 0 ≤ f j ∧ f j ≤ 126) (hk : 0 ≤ k) (hw : (tok1 f k).2.2.2 = 0) : tokV (tok1 f k).2.1 (tok1 f k).2.2.1 := by
  by_cases h1 : letB (f k) = true
  · rw [tok1_l h1] at hw ⊢
    have hl := letB_t.mp h1
    by_cases h9 : runE letB f (40 - k).toNat k - k = 1
    · rw [wordT_1 rfl h9] at hw ⊢
      by_cases hs : 97 ≤ f k ∧ f k ≤ 122
      · rw [w1_s hs]
        exact ⟨by show okt 7; unfold okt; omega, by show (1 : Int) ≤ 7; decide, fun _ => by show 0 ≤ f k - 97 ∧ f k - 97 < 26; omega, fun h => absurd h (by show ¬ (8 : Int) ≤ 7; decide), by show 0 ≤ f k - 97 ∧ f k - 97 < 1000000000000000000; omega⟩
      · by_cases h7 : 70 < f k
        · rw [w1_n hs h7] at hw; exact absurd hw (by show ¬ (1 : Int) = 0; decide)
        · rw [w1_b hs h7]
          exact ⟨by show okt 8; unfold okt; omega, by show (1 : Int) ≤ 8; decide, fun h => absurd h (by show ¬ (8 : Int) = 7; decide), fun _ _ => by show 0 ≤ f k - 65 ∧ f k - 65 < 6; omega, by show 0 ≤ f k - 65 ∧ f k - 65 < 1000000000000000000; omega⟩
    · rw [wordT_2 rfl rfl h9] at hw ⊢
      exact w2_ok (wk_rng _ _) hw
  by_cases h2 : digB (f k) = true
  · rw [tok1_d h1 h2]
    rw [nm_n rfl]
    refine n1_ok (nv_rng rfl ?_ ?_)
    · have := (@runE_le digB f (40 - k).toNat k).1
      unfold numN; split <;> omega
    · unfold numN; split <;> omega
  by_cases h3 : f k = 39
  · rw [tok1_c h1 h2 h3]
    have := hf (k + 1) (by omega)
    exact ⟨by show okt 3; unfold okt; omega, by show (1 : Int) ≤ 3; decide, fun h => absurd h (by show ¬ (3 : Int) = 7; decide), fun h => absurd h (by show ¬ (8 : Int) ≤ 3; decide), by show 0 ≤ f (k + 1) ∧ f (k + 1) < 1000000000000000000; omega⟩
  · rw [tok1_s h1 h2 h3] at hw ⊢
    have hr := sgT_rng (f k) (f (k + 1)) (f (k + 2))
    have hz : ¬ sgT (f k) (f (k + 1)) (f (k + 2)) = 0 := by
      intro e
      have hw' : (if sgT (f k) (f (k + 1)) (f (k + 2)) = 0 then (1 : Int) else 0) = 0 := hw
      rw [if_pos e] at hw'; omega
    show tokV (sgT (f k) (f (k + 1)) (f (k + 2))) 0
    exact ⟨by unfold okt; omega, by omega, fun h => by omega, fun h h2 => by omega, by omega⟩
theorem lexL_ok {f : Int → Int} {len : Int} (hf : ∀ j, 0 ≤ j → 0 ≤ f j ∧ f j ≤ 126) (hlen : len ≤ 40) : ∀ {n : Nat} {k : Int} {L : List (Int × Int)}, 0 ≤ k → (∀ x ∈ L, tokV x.1 x.2) → (lexL f len n k L).2 = 0 → ∀ x ∈ (lexL f len n k L).1, tokV x.1 x.2 := by
  intro n
  induction n with
  | zero => intro k L _ h _; exact h
  | succ n ih =>
    intro k L h0 h hz
    by_cases hk : k < len
    · by_cases h2 : f k = 32
      · rw [lexL_sp hk h2] at hz ⊢; exact ih (by omega) h hz
      · by_cases h3 : (tok1 f k).2.2.2 = 0
        · rw [lexL_t hk h2 h3] at hz ⊢
          have := tok1_end (f := f) (k := k) (by omega) h0
          refine ih (by omega) (fun x hx => ?_) hz
          rcases List.mem_append.mp hx with hx | hx
          · exact h x hx
          · rw [List.mem_singleton.mp hx]; exact tok1_ok hf h0 h3
        · rw [lexL_w hk h2 h3] at hz; exact absurd hz h3
    · rw [lexL_out hk] at hz ⊢; exact h
/-- codes and worths of the tokens, by place -/
def TF (L : List (Int × Int)) (k : Int) : Int := if 0 ≤ k ∧ k < L.length then tkt L k else 0
def WF (L : List (Int × Int)) (k : Int) : Int := if 0 ≤ k ∧ k < L.length then tkv L k else 0
theorem tk_mem {L : List (Int × Int)} {k : Int} (h : 0 ≤ k ∧ k < L.length) : (tkt L k, tkv L k) ∈ L := by
  have hk : k.toNat < L.length := by omega
  have e : L.getD k.toNat (0, 0) = L[k.toNat] := by rw [List.getD_eq_getElem?_getD, List.getElem?_eq_getElem hk]; rfl
  unfold tkt tkv
  rw [e]
  exact List.getElem_mem hk
theorem TR_of {M : Mem} {L : List (Int × Int)} (h : TL M L) (h24 : L.length ≤ 24) (hv : ∀ x ∈ L, tokV x.1 x.2) : TR M (TF L) (WF L) L.length := by
  refine ⟨h.1, by omega, fun k h0 h1 => ?_, fun k hk => if_neg (by omega), fun k h0 h1 => ?_, fun k h0 h1 => ?_⟩
  · have := h.2 k.toNat (by omega)
    rw [Int.toNat_of_nonneg h0] at this
    unfold TF WF; rw [if_pos ⟨h0, h1⟩, if_pos ⟨h0, h1⟩]; exact this
  · unfold TF; rw [if_pos ⟨h0, h1⟩]
    have := hv _ (tk_mem ⟨h0, h1⟩)
    exact ⟨this.2.1, this.1⟩
  · unfold TF WF; rw [if_pos ⟨h0, h1⟩, if_pos ⟨h0, h1⟩]
    have := hv _ (tk_mem ⟨h0, h1⟩)
    exact ⟨this.2.2.1, this.2.2.2.1, this.2.2.2.2⟩
