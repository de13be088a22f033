abbrev PSt := List ND × List Int × List (Int × Int) × Int × Int × Int
def topP : List (Int × Int) → Int
  | [] => 0
  | x :: _ => x.1
theorem topP_cons {P : List (Int × Int)} {t : Int} (h : topP P = t) (h0 : ¬ t = 0) : ∃ k P2, P = (t, k) :: P2 := by
  cases P with
  | nil => exact absurd h.symm h0
  | cons x r => obtain ⟨y, k⟩ := x; exact ⟨k, r, by rw [show y = t from h]⟩
theorem RP_top {M0 M : Mem} {N : List ND} {O : List Int} {P : List (Int × Int)} {o a cl w : Int} (h : RP M0 M N O P o a cl w) : topM M = topP P := by
  cases P with
  | nil => exact RP_top0 h
  | cons x r => obtain ⟨y, k⟩ := x; exact (RP_drop h).2.2.1
theorem RP_tk {M0 M : Mem} {N : List ND} {O : List Int} {P : List (Int × Int)} {o a cl w : Int} (h : RP M0 M N O P o a cl w) (k : Int) : tkA M k = tkA M0 k := by
  unfold tkA; rw [RP_fr h (c := 55) (i := 25) (by simp [pcell]), RP_fr h (c := 74) (by simp [pcell])]
theorem RP_t {M0 M : Mem} {N : List ND} {O : List Int} {P : List (Int × Int)} {o a cl w : Int} (h : RP M0 M N O P o a cl w) {k : Int} (hk : k < M0 55 25) : M 74 k = tkA M0 k := by
  unfold tkA; rw [if_pos hk, RP_fr h (c := 74) (by simp [pcell])]
theorem RP_v {M0 M : Mem} {N : List ND} {O : List Int} {P : List (Int × Int)} {o a cl w : Int} (h : RP M0 M N O P o a cl w) {k : Int} : M 75 k = M0 75 k := RP_fr h (c := 75) (by simp [pcell])
theorem RP_n {M0 M : Mem} {N : List ND} {O : List Int} {P : List (Int × Int)} {o a cl w : Int} (h : RP M0 M N O P o a cl w) : M 55 25 = M0 55 25 := RP_fr h (c := 55) (by simp [pcell])
theorem reduceL_inv {least : Int} : ∀ {P : List (Int × Int)} {N N1 : List ND} {O O1 : List Int} {P1 : List (Int × Int)}, reduceL least N O P = (N1, O1, P1) → O.length = 1 + arP P → O.length ≤ N.length → O1.length = 1 + arP P1 ∧ N1.length + P1.length = N.length + P.length ∧ O1.length ≤ N1.length ∧ N.length ≤ N1.length := by
  intro P
  induction P with
  | nil => intro N N1 O O1 P1 h h1 h2; cases h; exact ⟨h1, rfl, h2, Nat.le_refl _⟩
  | cons x P ih =>
    obtain ⟨t, k⟩ := x
    intro N N1 O O1 P1 h h1 h2
    by_cases hr : redB least t = true
    · rw [reduceL_s hr] at h
      have h1' : O.length = 1 + (arW t + arP P) := h1
      have h3 := ih h (by simp; omega) (by simp; omega)
      simp at h3 ⊢
      omega
    · rw [reduceL_n hr] at h
      cases h
      exact ⟨h1, rfl, h2, Nat.le_refl _⟩
def stepQ (M0 : Mem) (R : Option (Int × PSt)) (r : Option PV) (M' : Mem) : Prop :=
  (R = none ∧ frP M0 M' ∧ M' 55 44 = 1 ∧ ∃ k', r = some (vi k')) ∨ ∃ k' N O P o a cl, R = some (k', N, O, P, o, a, cl) ∧ r = some (vi k') ∧ RP M0 M' N O P o a cl 0
def leafS (t t1 v k : Int) : PSt → Option (Int × PSt)
  | (N, O, P, o, a, cl) => if t = 1 ∧ v = 2147483648 ∧ (¬ topP P = 128 ∨ t1 = 24 ∨ t1 = 22) then none else some (k + 1, N ++ [(t, -1, -1, -1, v)], (N.length : Int) :: O, P, o, a, cl)
def castK (w v : Int) (array : Bool) : Int := if array = true then (if w = 9 then 10 else 11 + v) else if w = 8 then 4 + v else w - 9
def castS (t1 t2 t3 t4 v1 k : Int) : PSt → Option (Int × PSt)
  | (N, O, P, o, a, cl) => if t2 = 22 then (if ¬ t4 = 21 ∨ ¬ t3 = 23 ∨ (¬ t1 = 8 ∧ ¬ t1 = 9) then none else some (k + 5, N, O, (64, castK t1 v1 true) :: P, o, a, cl)) else if ¬ t2 = 21 then none else some (k + 3, N, O, (64, castK t1 v1 false) :: P, o, a, cl)
def beforeS (t t1 t2 t3 t4 v1 k : Int) : PSt → Option (Int × PSt)
  | (N, O, P, o, a, cl) => if t = 27 ∨ t = 28 ∨ t = 32 ∨ t = 33 then some (k + 1, N, O, (100 + t, 0) :: P, o, a, cl) else if ¬ t = 20 then none else if t1 < 8 ∨ 12 < t1 then (if 6 < o + 1 then none else some (k + 1, N, O, (20, 0) :: P, o + 1, a, cl)) else castS t1 t2 t3 t4 v1 k (N, O, P, o, a, cl)
def dotS (t1 v1 k : Int) : PSt → Option (Int × PSt)
  | (N, O, P, o, a, cl) => if cl = 1 ∨ (¬ t1 = 7 ∧ ¬ t1 = 14) then none else some (k + 2, N ++ [(if t1 = 7 then 60 else 61, O.getD 0 0, -1, -1, v1)], (N.length : Int) :: O.drop 1, P, o, a, 0)
def sqS (k : Int) : PSt → Option (Int × PSt)
  | (N, O, P, o, a, cl) => if cl = 1 ∨ 6 < o + 1 then none else some (k + 1, N, O, (22, 0) :: P, o + 1, a, 0)
def closeS (t k : Int) : PSt → Option (Int × PSt)
  | (N, O, P, o, a, _) => if ¬ topP P = (if t = 21 then 20 else 22) then none else if t = 23 then some (k + 1, N ++ [(62, O.getD 1 0, O.getD 0 0, -1, 0)], (N.length : Int) :: O.drop 2, P.drop 1, o - 1, a, 0) else some (k + 1, N, O, P.drop 1, o - 1, a, 0)
def askS (k : Int) : PSt → Option (Int × PSt)
  | (N, O, P, o, a, _) => if 4 < a + 1 then none else some (k + 1, N, O, (25, 0) :: P, o, a + 1, 0)
def colS (k : Int) : PSt → Option (Int × PSt)
  | (N, O, P, o, a, _) => if ¬ topP P = 25 then none else some (k + 1, N, O, (26, (P.getD 0 (0, 0)).2) :: P.drop 1, o, a, 0)
def ofS (t1 v1 k : Int) : PSt → Option (Int × PSt)
  | (N, O, P, o, a, _) => if ¬ t1 = 8 then none else some (k + 2, N ++ [(63, O.getD 0 0, -1, -1, v1)], (N.length : Int) :: O.drop 1, P, o, a, 1)
def binS (t k : Int) : PSt → Option (Int × PSt)
  | (N, O, P, o, a, cl) => if bdV t = 0 ∨ (cl = 1 ∧ 7 < bdV t) then none else some (k + 1, N, O, (t, 0) :: P, o, a, 0)
def redS (least : Int) : PSt → PSt
  | (N, O, P, o, a, cl) => ((reduceL least N O P).1, (reduceL least N O P).2.1, (reduceL least N O P).2.2, o, a, cl)
theorem redS_e {least : Int} {N N1 : List ND} {O O1 : List Int} {P P1 : List (Int × Int)} {o a cl : Int} (h : reduceL least N O P = (N1, O1, P1)) : redS least (N, O, P, o, a, cl) = (N1, O1, P1, o, a, cl) := by
  simp only [redS, h]
def behindS (t t1 v1 k : Int) (S : PSt) : Option (Int × PSt) :=
  if t = 24 then dotS t1 v1 k S else if t = 22 then sqS k S else if t = 21 ∨ t = 23 then closeS t k (redS 0 S) else if t = 25 then askS k (redS 1 S) else if t = 26 then colS k (redS 0 S) else if t = 13 then ofS t1 v1 k (redS 7 S) else binS t k (redS (bdV t) S)
theorem d_Mo_leaf_0 : decode b_Mo_leaf 0 = .ok (.aload_n 0, 1) := by decide +kernel
theorem d_Mo_leaf_1 : decode b_Mo_leaf 1 = .ok (.getfield 69, 3) := by decide +kernel
theorem d_Mo_leaf_4 : decode b_Mo_leaf 4 = .ok (.iload_n 1, 1) := by decide +kernel
theorem d_Mo_leaf_5 : decode b_Mo_leaf 5 = .ok (.laload, 1) := by decide +kernel
theorem d_Mo_leaf_6 : decode b_Mo_leaf 6 = .ok (.lstore_n 2, 1) := by decide +kernel
theorem d_Mo_leaf_7 : decode b_Mo_leaf 7 = .ok (.aload_n 0, 1) := by decide +kernel
theorem d_Mo_leaf_8 : decode b_Mo_leaf 8 = .ok (.getfield 66, 3) := by decide +kernel
theorem d_Mo_leaf_11 : decode b_Mo_leaf 11 = .ok (.iload_n 1, 1) := by decide +kernel
theorem d_Mo_leaf_12 : decode b_Mo_leaf 12 = .ok (.iaload, 1) := by decide +kernel
theorem d_Mo_leaf_13 : decode b_Mo_leaf 13 = .ok (.iconst 1, 1) := by decide +kernel
theorem d_Mo_leaf_14 : decode b_Mo_leaf 14 = .ok (.if_icmp .ne 54, 3) := by decide +kernel
theorem d_Mo_leaf_17 : decode b_Mo_leaf 17 = .ok (.lload_n 2, 1) := by decide +kernel
theorem d_Mo_leaf_18 : decode b_Mo_leaf 18 = .ok (.ldc2_w 205, 3) := by decide +kernel
theorem d_Mo_leaf_21 : decode b_Mo_leaf 21 = .ok (.lcmp, 1) := by decide +kernel
theorem d_Mo_leaf_22 : decode b_Mo_leaf 22 = .ok (.ifCond .ne 46, 3) := by decide +kernel
theorem d_Mo_leaf_25 : decode b_Mo_leaf 25 = .ok (.aload_n 0, 1) := by decide +kernel
theorem d_Mo_leaf_26 : decode b_Mo_leaf 26 = .ok (.aload_n 0, 1) := by decide +kernel
theorem d_Mo_leaf_27 : decode b_Mo_leaf 27 = .ok (.invokevirtual 216, 3) := by decide +kernel
theorem d_Mo_leaf_30 : decode b_Mo_leaf 30 = .ok (.sipush 128, 3) := by decide +kernel
theorem d_Mo_leaf_33 : decode b_Mo_leaf 33 = .ok (.if_icmp .ne 27, 3) := by decide +kernel
theorem d_Mo_leaf_36 : decode b_Mo_leaf 36 = .ok (.aload_n 0, 1) := by decide +kernel
theorem d_Mo_leaf_37 : decode b_Mo_leaf 37 = .ok (.iload_n 1, 1) := by decide +kernel
theorem d_Mo_leaf_38 : decode b_Mo_leaf 38 = .ok (.iconst 1, 1) := by decide +kernel
theorem d_Mo_leaf_39 : decode b_Mo_leaf 39 = .ok (.iadd, 1) := by decide +kernel
theorem d_Mo_leaf_40 : decode b_Mo_leaf 40 = .ok (.invokevirtual 254, 3) := by decide +kernel
theorem d_Mo_leaf_43 : decode b_Mo_leaf 43 = .ok (.bipush 24, 2) := by decide +kernel
theorem d_Mo_leaf_45 : decode b_Mo_leaf 45 = .ok (.if_icmp .eq 15, 3) := by decide +kernel
theorem d_Mo_leaf_48 : decode b_Mo_leaf 48 = .ok (.aload_n 0, 1) := by decide +kernel
theorem d_Mo_leaf_49 : decode b_Mo_leaf 49 = .ok (.iload_n 1, 1) := by decide +kernel
theorem d_Mo_leaf_50 : decode b_Mo_leaf 50 = .ok (.iconst 1, 1) := by decide +kernel
theorem d_Mo_leaf_51 : decode b_Mo_leaf 51 = .ok (.iadd, 1) := by decide +kernel
theorem d_Mo_leaf_52 : decode b_Mo_leaf 52 = .ok (.invokevirtual 254, 3) := by decide +kernel
theorem d_Mo_leaf_55 : decode b_Mo_leaf 55 = .ok (.bipush 22, 2) := by decide +kernel
theorem d_Mo_leaf_57 : decode b_Mo_leaf 57 = .ok (.if_icmp .ne 7, 3) := by decide +kernel
theorem d_Mo_leaf_60 : decode b_Mo_leaf 60 = .ok (.iconst 1, 1) := by decide +kernel
theorem d_Mo_leaf_61 : decode b_Mo_leaf 61 = .ok (.goto 4, 3) := by decide +kernel
theorem d_Mo_leaf_64 : decode b_Mo_leaf 64 = .ok (.iconst 0, 1) := by decide +kernel
theorem d_Mo_leaf_65 : decode b_Mo_leaf 65 = .ok (.putfield 166, 3) := by decide +kernel
theorem d_Mo_leaf_68 : decode b_Mo_leaf 68 = .ok (.aload_n 0, 1) := by decide +kernel
theorem d_Mo_leaf_69 : decode b_Mo_leaf 69 = .ok (.aload_n 0, 1) := by decide +kernel
theorem d_Mo_leaf_70 : decode b_Mo_leaf 70 = .ok (.aload_n 0, 1) := by decide +kernel
theorem d_Mo_leaf_71 : decode b_Mo_leaf 71 = .ok (.getfield 66, 3) := by decide +kernel
theorem d_Mo_leaf_74 : decode b_Mo_leaf 74 = .ok (.iload_n 1, 1) := by decide +kernel
theorem d_Mo_leaf_75 : decode b_Mo_leaf 75 = .ok (.iaload, 1) := by decide +kernel
theorem d_Mo_leaf_76 : decode b_Mo_leaf 76 = .ok (.iconst (-1), 1) := by decide +kernel
theorem d_Mo_leaf_77 : decode b_Mo_leaf 77 = .ok (.iconst (-1), 1) := by decide +kernel
theorem d_Mo_leaf_78 : decode b_Mo_leaf 78 = .ok (.iconst (-1), 1) := by decide +kernel
theorem d_Mo_leaf_79 : decode b_Mo_leaf 79 = .ok (.lload_n 2, 1) := by decide +kernel
theorem d_Mo_leaf_80 : decode b_Mo_leaf 80 = .ok (.invokevirtual 226, 3) := by decide +kernel
theorem d_Mo_leaf_83 : decode b_Mo_leaf 83 = .ok (.invokevirtual 230, 3) := by decide +kernel
theorem d_Mo_leaf_86 : decode b_Mo_leaf 86 = .ok (.iload_n 1, 1) := by decide +kernel
theorem d_Mo_leaf_87 : decode b_Mo_leaf 87 = .ok (.iconst 1, 1) := by decide +kernel
theorem d_Mo_leaf_88 : decode b_Mo_leaf 88 = .ok (.iadd, 1) := by decide +kernel
theorem d_Mo_leaf_89 : decode b_Mo_leaf 89 = .ok (.ireturn, 1) := by decide +kernel
theorem g_Mo_leaf {X : WX} {d : Nat} (hd : 1 ≤ d) (k : Int) (M0 : Mem) (N : List ND) (O : List Int) (P : List (Int × Int)) (o a cl : Int) (M : Mem) (hR : RP M0 M N O P o a cl 0) (hk : 0 ≤ k ∧ k < M0 55 25) (hT : M0 55 25 ≤ 24) (hB : N.length + P.length ≤ 23) (hC : O.length ≤ N.length) (ho : -100 ≤ o ∧ o ≤ 100 ∧ -100 ≤ a ∧ a ≤ 100) : MG X gt d KE KE y_Mo_leaf b_Mo_leaf 4 (some .int) [vr 55, vi k] M (stepQ M0 (leafS (tkA M0 k) (tkA M0 (k + 1)) (M0 75 k) k (N, O, P, o, a, cl))) := by
  refine MG_of_G (by decide) (Nat.le_of_ble_eq_true rfl) (Nat.le_refl _) (by decide) ?_
  show G X gt d KE KE y_Mo_leaf b_Mo_leaf 4 (some .int) _ 0 [(0, vr 55), (1, vi k)] [] KE M
  have hRN := RP_N hR
  have hRO := RP_O hR
  have hRP := RP_P hR
  refine G_rngl (i := 1) rfl (fun hr1 => ?_)
  refine G_aload (i := 0) (n := 0) (len := 1) (Or.inl ⟨0, rfl, rfl, d_Mo_leaf_0⟩) rfl (by decide) (G_pc (pc' := 1) rfl ?_)
  refine G_get (o := 55) (c := 9) (k := 27) (v := 75) d_Mo_leaf_1 fl_Mo_69 rfl (by decide) (by decide) rfl rfl (G_pc (pc' := 4) rfl ?_)
  refine G_iload (i := 1) (n := 1) (len := 1) (Or.inl ⟨1, rfl, rfl, d_Mo_leaf_4⟩) rfl (G_pc (pc' := 5) rfl ?_)
  refine G_laload (o := 75) (n := 25) (i := k) (v := M 75 k) d_Mo_leaf_5 rfl ⟨by decide, by decide⟩ (by omega) (rd_arr rfl) (fun t1 => G_pc (pc' := 6) rfl ?_)
  have t1 := tok_l t1
  rw [show M 75 k = M0 75 k from RP_v hR]
  refine G_lstore (i := 2) (len := 1) (ls' := [(2, vl (M0 75 k)), (0, vr 55), (1, vi k)]) (Or.inl ⟨2, rfl, rfl, d_Mo_leaf_6⟩) (by decide) rfl (G_pc (pc' := 7) rfl ?_)
  refine G_aload (i := 0) (n := 1) (len := 1) (Or.inl ⟨0, rfl, rfl, d_Mo_leaf_7⟩) rfl (by decide) (G_pc (pc' := 8) rfl ?_)
  refine G_get (o := 55) (c := 9) (k := 26) (v := 74) d_Mo_leaf_8 fl_Mo_66 rfl (by decide) (by decide) rfl rfl (G_pc (pc' := 11) rfl ?_)
  refine G_iload (i := 1) (n := 2) (len := 1) (Or.inl ⟨1, rfl, rfl, d_Mo_leaf_11⟩) rfl (G_pc (pc' := 12) rfl ?_)
  refine G_iaload (o := 74) (n := 25) (i := k) (v := M 74 k) d_Mo_leaf_12 rfl ⟨by decide, by decide⟩ (by omega) (rd_arr rfl) (fun t2 => G_pc (pc' := 13) rfl ?_)
  have t2 := tok_i t2
  rw [show M 74 k = tkA M0 k from RP_t hR (by omega)]
  refine G_iconst (n := 1) d_Mo_leaf_13 (by decide) (G_pc (pc' := 14) rfl ?_)
  refine G_icmp_ne (tgt := 68) d_Mo_leaf_14 (by decide) (fun h3 => ?_) (fun h3 => G_pc (pc' := 17) rfl ?_)
  · skip
    refine G_aload (i := 0) (n := 1) (len := 1) (Or.inl ⟨0, rfl, rfl, d_Mo_leaf_68⟩) rfl (by decide) (G_pc (pc' := 69) rfl ?_)
    refine G_aload (i := 0) (n := 1) (len := 1) (Or.inl ⟨0, rfl, rfl, d_Mo_leaf_69⟩) rfl (by decide) (G_pc (pc' := 70) rfl ?_)
    refine G_aload (i := 0) (n := 1) (len := 1) (Or.inl ⟨0, rfl, rfl, d_Mo_leaf_70⟩) rfl (by decide) (G_pc (pc' := 71) rfl ?_)
    refine G_get (o := 55) (c := 9) (k := 26) (v := 74) d_Mo_leaf_71 fl_Mo_66 rfl (by decide) (by decide) rfl rfl (G_pc (pc' := 74) rfl ?_)
    refine G_iload (i := 1) (n := 2) (len := 1) (Or.inl ⟨1, rfl, rfl, d_Mo_leaf_74⟩) rfl (G_pc (pc' := 75) rfl ?_)
    refine G_iaload (o := 74) (n := 25) (i := k) (v := M 74 k) d_Mo_leaf_75 rfl ⟨by decide, by decide⟩ (by omega) (rd_arr rfl) (fun t4 => G_pc (pc' := 76) rfl ?_)
    have t4 := tok_i t4
    rw [show M 74 k = tkA M0 k from RP_t hR (by omega)]
    refine G_iconst (n := (-1)) d_Mo_leaf_76 (by decide) (G_pc (pc' := 77) rfl ?_)
    refine G_iconst (n := (-1)) d_Mo_leaf_77 (by decide) (G_pc (pc' := 78) rfl ?_)
    refine G_iconst (n := (-1)) d_Mo_leaf_78 (by decide) (G_pc (pc' := 79) rfl ?_)
    refine G_lload (i := 2) (n := 0) (len := 1) (Or.inl ⟨2, rfl, rfl, d_Mo_leaf_79⟩) rfl (G_pc (pc' := 80) rfl ?_)
    refine G_callV (K1 := KE) (d2 := 0) (o := 55) (cl := 9) (as := [vi (tkA M0 k), vi (-1), vi (-1), vi (-1), vl (M0 75 k)]) (rest := [vr 55]) d_Mo_leaf_80 mf_Mo_node ml_Mo_226 rfl rfl (by decide) rfl rfl (Nat.le_of_ble_eq_true rfl) (by omega) ⟨Nat.le_refl _, Nat.le_refl _⟩ (g_Mo_node (by omega) (tkA M0 k) (-1) (-1) (-1) (M0 75 k) _ (by omega)) (fun r5 M6 kq7 q7 => ?_)
    clear kq7; obtain ⟨q7a, q7b⟩ := q7; subst r5; subst M6
    refine G_ps (pc' := 83) (st' := [vi (M 55 28), vr 55]) rfl rfl ?_
    rw [show M 55 28 = ((N).length : Int) from RP_N hR]
    have hR8 : RP M0 (nodeM M (tkA M0 k) (-1) (-1) (-1) (M0 75 k)) (N ++ [(tkA M0 k, (-1), (-1), (-1), M0 75 k)]) O P o a cl 0 := RP_node hR
    have hR8N := RP_N hR8
    (try simp only [List.length_cons, List.length_append, List.length_nil] at hR8N)
    have hR8O := RP_O hR8
    (try simp only [List.length_cons, List.length_append, List.length_nil] at hR8O)
    have hR8P := RP_P hR8
    (try simp only [List.length_cons, List.length_append, List.length_nil] at hR8P)
    refine G_callV (K1 := KE) (d2 := 0) (o := 55) (cl := 9) (as := [vi ((N).length : Int)]) (rest := []) d_Mo_leaf_83 mf_Mo_push ml_Mo_230 rfl rfl (by decide) rfl rfl (Nat.le_of_ble_eq_true rfl) (by omega) ⟨Nat.le_refl _, Nat.le_refl _⟩ (g_Mo_push (by omega) ((N).length : Int) _ (by omega)) (fun r9 M10 kq11 q11 => ?_)
    clear kq11; obtain ⟨q11a, q11b⟩ := q11; subst r9; subst M10
    refine G_ps (pc' := 86) (st' := []) rfl rfl ?_
    have hR12 : RP M0 (pushM (nodeM M (tkA M0 k) (-1) (-1) (-1) (M0 75 k)) ((N).length : Int)) (N ++ [(tkA M0 k, (-1), (-1), (-1), M0 75 k)]) ((((N).length : Int)) :: O) P o a cl 0 := RP_push hR8
    have hR12N := RP_N hR12
    (try simp only [List.length_cons, List.length_append, List.length_nil] at hR12N)
    have hR12O := RP_O hR12
    (try simp only [List.length_cons, List.length_append, List.length_nil] at hR12O)
    have hR12P := RP_P hR12
    (try simp only [List.length_cons, List.length_append, List.length_nil] at hR12P)
    refine G_iload (i := 1) (n := 2) (len := 1) (Or.inl ⟨1, rfl, rfl, d_Mo_leaf_86⟩) rfl (G_pc (pc' := 87) rfl ?_)
    refine G_iconst (n := 1) d_Mo_leaf_87 (by decide) (G_pc (pc' := 88) rfl ?_)
    refine G_iadd d_Mo_leaf_88 (by omega) (G_pc (pc' := 89) rfl ?_)
    refine G_iret d_Mo_leaf_89 rfl (tokI (by omega)) rfl rfl ?_
    exact Or.inr ⟨_, _, _, _, _, _, _, by unfold leafS; simp only []; rw [if_neg (by omega)], rfl, hR12⟩
  · skip
    refine G_lload (i := 2) (n := 0) (len := 1) (Or.inl ⟨2, rfl, rfl, d_Mo_leaf_17⟩) rfl (G_pc (pc' := 18) rfl ?_)
    refine G_ldc2 (x := 2147483648) d_Mo_leaf_18 k2_Mo_205 (by decide) (G_pc (pc' := 21) rfl ?_)
    refine G_lcmp_ne (tgt := 68) d_Mo_leaf_21 d_Mo_leaf_22 (by decide) (fun h13 => ?_) (fun h13 => G_pc (pc' := 25) rfl ?_)
    · skip
      refine G_aload (i := 0) (n := 1) (len := 1) (Or.inl ⟨0, rfl, rfl, d_Mo_leaf_68⟩) rfl (by decide) (G_pc (pc' := 69) rfl ?_)
      refine G_aload (i := 0) (n := 1) (len := 1) (Or.inl ⟨0, rfl, rfl, d_Mo_leaf_69⟩) rfl (by decide) (G_pc (pc' := 70) rfl ?_)
      refine G_aload (i := 0) (n := 1) (len := 1) (Or.inl ⟨0, rfl, rfl, d_Mo_leaf_70⟩) rfl (by decide) (G_pc (pc' := 71) rfl ?_)
      refine G_get (o := 55) (c := 9) (k := 26) (v := 74) d_Mo_leaf_71 fl_Mo_66 rfl (by decide) (by decide) rfl rfl (G_pc (pc' := 74) rfl ?_)
      refine G_iload (i := 1) (n := 2) (len := 1) (Or.inl ⟨1, rfl, rfl, d_Mo_leaf_74⟩) rfl (G_pc (pc' := 75) rfl ?_)
      refine G_iaload (o := 74) (n := 25) (i := k) (v := M 74 k) d_Mo_leaf_75 rfl ⟨by decide, by decide⟩ (by omega) (rd_arr rfl) (fun t14 => G_pc (pc' := 76) rfl ?_)
      have t14 := tok_i t14
      rw [show M 74 k = tkA M0 k from RP_t hR (by omega)]
      refine G_iconst (n := (-1)) d_Mo_leaf_76 (by decide) (G_pc (pc' := 77) rfl ?_)
      refine G_iconst (n := (-1)) d_Mo_leaf_77 (by decide) (G_pc (pc' := 78) rfl ?_)
      refine G_iconst (n := (-1)) d_Mo_leaf_78 (by decide) (G_pc (pc' := 79) rfl ?_)
      refine G_lload (i := 2) (n := 0) (len := 1) (Or.inl ⟨2, rfl, rfl, d_Mo_leaf_79⟩) rfl (G_pc (pc' := 80) rfl ?_)
      refine G_callV (K1 := KE) (d2 := 0) (o := 55) (cl := 9) (as := [vi (tkA M0 k), vi (-1), vi (-1), vi (-1), vl (M0 75 k)]) (rest := [vr 55]) d_Mo_leaf_80 mf_Mo_node ml_Mo_226 rfl rfl (by decide) rfl rfl (Nat.le_of_ble_eq_true rfl) (by omega) ⟨Nat.le_refl _, Nat.le_refl _⟩ (g_Mo_node (by omega) (tkA M0 k) (-1) (-1) (-1) (M0 75 k) _ (by omega)) (fun r15 M16 kq17 q17 => ?_)
      clear kq17; obtain ⟨q17a, q17b⟩ := q17; subst r15; subst M16
      refine G_ps (pc' := 83) (st' := [vi (M 55 28), vr 55]) rfl rfl ?_
      rw [show M 55 28 = ((N).length : Int) from RP_N hR]
      have hR18 : RP M0 (nodeM M (tkA M0 k) (-1) (-1) (-1) (M0 75 k)) (N ++ [(tkA M0 k, (-1), (-1), (-1), M0 75 k)]) O P o a cl 0 := RP_node hR
      have hR18N := RP_N hR18
      (try simp only [List.length_cons, List.length_append, List.length_nil] at hR18N)
      have hR18O := RP_O hR18
      (try simp only [List.length_cons, List.length_append, List.length_nil] at hR18O)
      have hR18P := RP_P hR18
      (try simp only [List.length_cons, List.length_append, List.length_nil] at hR18P)
      refine G_callV (K1 := KE) (d2 := 0) (o := 55) (cl := 9) (as := [vi ((N).length : Int)]) (rest := []) d_Mo_leaf_83 mf_Mo_push ml_Mo_230 rfl rfl (by decide) rfl rfl (Nat.le_of_ble_eq_true rfl) (by omega) ⟨Nat.le_refl _, Nat.le_refl _⟩ (g_Mo_push (by omega) ((N).length : Int) _ (by omega)) (fun r19 M20 kq21 q21 => ?_)
      clear kq21; obtain ⟨q21a, q21b⟩ := q21; subst r19; subst M20
      refine G_ps (pc' := 86) (st' := []) rfl rfl ?_
      have hR22 : RP M0 (pushM (nodeM M (tkA M0 k) (-1) (-1) (-1) (M0 75 k)) ((N).length : Int)) (N ++ [(tkA M0 k, (-1), (-1), (-1), M0 75 k)]) ((((N).length : Int)) :: O) P o a cl 0 := RP_push hR18
      have hR22N := RP_N hR22
      (try simp only [List.length_cons, List.length_append, List.length_nil] at hR22N)
      have hR22O := RP_O hR22
      (try simp only [List.length_cons, List.length_append, List.length_nil] at hR22O)
      have hR22P := RP_P hR22
      (try simp only [List.length_cons, List.length_append, List.length_nil] at hR22P)
      refine G_iload (i := 1) (n := 2) (len := 1) (Or.inl ⟨1, rfl, rfl, d_Mo_leaf_86⟩) rfl (G_pc (pc' := 87) rfl ?_)
      refine G_iconst (n := 1) d_Mo_leaf_87 (by decide) (G_pc (pc' := 88) rfl ?_)
      refine G_iadd d_Mo_leaf_88 (by omega) (G_pc (pc' := 89) rfl ?_)
      refine G_iret d_Mo_leaf_89 rfl (tokI (by omega)) rfl rfl ?_
      exact Or.inr ⟨_, _, _, _, _, _, _, by unfold leafS; simp only []; rw [if_neg (by omega)], rfl, hR22⟩
    · skip
      refine G_aload (i := 0) (n := 1) (len := 1) (Or.inl ⟨0, rfl, rfl, d_Mo_leaf_25⟩) rfl (by decide) (G_pc (pc' := 26) rfl ?_)
      refine G_aload (i := 0) (n := 1) (len := 1) (Or.inl ⟨0, rfl, rfl, d_Mo_leaf_26⟩) rfl (by decide) (G_pc (pc' := 27) rfl ?_)
      refine G_callV (K1 := KE) (d2 := 0) (o := 55) (cl := 9) (as := []) (rest := [vr 55]) d_Mo_leaf_27 mf_Mo_top ml_Mo_216 rfl rfl (by decide) rfl rfl (Nat.le_of_ble_eq_true rfl) (by omega) ⟨Nat.le_refl _, Nat.le_refl _⟩ (g_Mo_top (by omega)  _ (by omega)) (fun r23 M24 kq25 q25 => ?_)
      clear kq25; obtain ⟨q25a, q25b⟩ := q25; subst r23; subst M24
      refine G_ps (pc' := 30) (st' := [vi (topM M), vr 55]) rfl rfl ?_
      rw [show topM M = topP P from RP_top hR]
      refine G_sipush (n := 128) d_Mo_leaf_30 (by decide) (G_pc (pc' := 33) rfl ?_)
      refine G_icmp_ne (tgt := 60) d_Mo_leaf_33 (by decide) (fun h26 => ?_) (fun h26 => G_pc (pc' := 36) rfl ?_)
      · skip
        refine G_iconst (n := 1) d_Mo_leaf_60 (by decide) (G_pc (pc' := 61) rfl ?_)
        refine G_goto (tgt := 65) d_Mo_leaf_61 (by decide) ?_
        refine G_putL (o := 55) (c := 9) (k := 44) (ki := 44) (x := 1) d_Mo_leaf_65 fl_Mo_166 rfl rfl (by decide) (by decide) (by decide) rfl rfl (tokZ (by decide)) rfl (G_pc (pc' := 68) rfl ?_)
        have hR27 : RP M0 (mset M 55 44 1) N O P o a cl 1 := RP_w hR
        have hR27N := RP_N hR27
        (try simp only [List.length_cons, List.length_append, List.length_nil] at hR27N)
        have hR27O := RP_O hR27
        (try simp only [List.length_cons, List.length_append, List.length_nil] at hR27O)
        have hR27P := RP_P hR27
        (try simp only [List.length_cons, List.length_append, List.length_nil] at hR27P)
        refine G_aload (i := 0) (n := 1) (len := 1) (Or.inl ⟨0, rfl, rfl, d_Mo_leaf_68⟩) rfl (by decide) (G_pc (pc' := 69) rfl ?_)
        refine G_aload (i := 0) (n := 1) (len := 1) (Or.inl ⟨0, rfl, rfl, d_Mo_leaf_69⟩) rfl (by decide) (G_pc (pc' := 70) rfl ?_)
        refine G_aload (i := 0) (n := 1) (len := 1) (Or.inl ⟨0, rfl, rfl, d_Mo_leaf_70⟩) rfl (by decide) (G_pc (pc' := 71) rfl ?_)
        refine G_get (o := 55) (c := 9) (k := 26) (v := 74) d_Mo_leaf_71 fl_Mo_66 rfl (by decide) (by decide) rfl rfl (G_pc (pc' := 74) rfl ?_)
        refine G_iload (i := 1) (n := 2) (len := 1) (Or.inl ⟨1, rfl, rfl, d_Mo_leaf_74⟩) rfl (G_pc (pc' := 75) rfl ?_)
        refine G_iaload (o := 74) (n := 25) (i := k) (v := M 74 k) d_Mo_leaf_75 rfl ⟨by decide, by decide⟩ (by omega) (rd_arr rfl) (fun t28 => G_pc (pc' := 76) rfl ?_)
        have t28 := tok_i t28
        rw [show M 74 k = tkA M0 k from RP_t hR27 (by omega)]
        refine G_iconst (n := (-1)) d_Mo_leaf_76 (by decide) (G_pc (pc' := 77) rfl ?_)
        refine G_iconst (n := (-1)) d_Mo_leaf_77 (by decide) (G_pc (pc' := 78) rfl ?_)
        refine G_iconst (n := (-1)) d_Mo_leaf_78 (by decide) (G_pc (pc' := 79) rfl ?_)
        refine G_lload (i := 2) (n := 0) (len := 1) (Or.inl ⟨2, rfl, rfl, d_Mo_leaf_79⟩) rfl (G_pc (pc' := 80) rfl ?_)
        refine G_callV (K1 := KE) (d2 := 0) (o := 55) (cl := 9) (as := [vi (tkA M0 k), vi (-1), vi (-1), vi (-1), vl (M0 75 k)]) (rest := [vr 55]) d_Mo_leaf_80 mf_Mo_node ml_Mo_226 rfl rfl (by decide) rfl rfl (Nat.le_of_ble_eq_true rfl) (by omega) ⟨Nat.le_refl _, Nat.le_refl _⟩ (g_Mo_node (by omega) (tkA M0 k) (-1) (-1) (-1) (M0 75 k) _ (by omega)) (fun r29 M30 kq31 q31 => ?_)
        clear kq31; obtain ⟨q31a, q31b⟩ := q31; subst r29; subst M30
        refine G_ps (pc' := 83) (st' := [vi ((mset M 55 44 1) 55 28), vr 55]) rfl rfl ?_
        rw [show (mset M 55 44 1) 55 28 = ((N).length : Int) from RP_N hR27]
        have hR32 : RP M0 (nodeM (mset M 55 44 1) (tkA M0 k) (-1) (-1) (-1) (M0 75 k)) (N ++ [(tkA M0 k, (-1), (-1), (-1), M0 75 k)]) O P o a cl 1 := RP_node hR27
        have hR32N := RP_N hR32
        (try simp only [List.length_cons, List.length_append, List.length_nil] at hR32N)
        have hR32O := RP_O hR32
        (try simp only [List.length_cons, List.length_append, List.length_nil] at hR32O)
        have hR32P := RP_P hR32
        (try simp only [List.length_cons, List.length_append, List.length_nil] at hR32P)
        refine G_callV (K1 := KE) (d2 := 0) (o := 55) (cl := 9) (as := [vi ((N).length : Int)]) (rest := []) d_Mo_leaf_83 mf_Mo_push ml_Mo_230 rfl rfl (by decide) rfl rfl (Nat.le_of_ble_eq_true rfl) (by omega) ⟨Nat.le_refl _, Nat.le_refl _⟩ (g_Mo_push (by omega) ((N).length : Int) _ (by omega)) (fun r33 M34 kq35 q35 => ?_)
        clear kq35; obtain ⟨q35a, q35b⟩ := q35; subst r33; subst M34
        refine G_ps (pc' := 86) (st' := []) rfl rfl ?_
        have hR36 : RP M0 (pushM (nodeM (mset M 55 44 1) (tkA M0 k) (-1) (-1) (-1) (M0 75 k)) ((N).length : Int)) (N ++ [(tkA M0 k, (-1), (-1), (-1), M0 75 k)]) ((((N).length : Int)) :: O) P o a cl 1 := RP_push hR32
        have hR36N := RP_N hR36
        (try simp only [List.length_cons, List.length_append, List.length_nil] at hR36N)
        have hR36O := RP_O hR36
        (try simp only [List.length_cons, List.length_append, List.length_nil] at hR36O)
        have hR36P := RP_P hR36
        (try simp only [List.length_cons, List.length_append, List.length_nil] at hR36P)
        refine G_iload (i := 1) (n := 2) (len := 1) (Or.inl ⟨1, rfl, rfl, d_Mo_leaf_86⟩) rfl (G_pc (pc' := 87) rfl ?_)
        refine G_iconst (n := 1) d_Mo_leaf_87 (by decide) (G_pc (pc' := 88) rfl ?_)
        refine G_iadd d_Mo_leaf_88 (by omega) (G_pc (pc' := 89) rfl ?_)
        refine G_iret d_Mo_leaf_89 rfl (tokI (by omega)) rfl rfl ?_
        exact Or.inl ⟨by unfold leafS; simp only []; rw [if_pos (by omega)], hR36.1, RP_W hR36, _, rfl⟩
      · skip
        refine G_aload (i := 0) (n := 1) (len := 1) (Or.inl ⟨0, rfl, rfl, d_Mo_leaf_36⟩) rfl (by decide) (G_pc (pc' := 37) rfl ?_)
        refine G_iload (i := 1) (n := 2) (len := 1) (Or.inl ⟨1, rfl, rfl, d_Mo_leaf_37⟩) rfl (G_pc (pc' := 38) rfl ?_)
        refine G_iconst (n := 1) d_Mo_leaf_38 (by decide) (G_pc (pc' := 39) rfl ?_)
        refine G_iadd d_Mo_leaf_39 (by omega) (G_pc (pc' := 40) rfl ?_)
        refine G_callV (K1 := KE) (d2 := 0) (o := 55) (cl := 9) (as := [vi (k + 1)]) (rest := [vr 55]) d_Mo_leaf_40 mf_Mo_tokenAt ml_Mo_254 rfl rfl (by decide) rfl rfl (Nat.le_of_ble_eq_true rfl) (by omega) ⟨Nat.le_refl _, Nat.le_refl _⟩ (g_Mo_tokenAt (by omega) (k + 1) _ (by omega) (by rw [RP_n hR]; omega)) (fun r37 M38 kq39 q39 => ?_)
        clear kq39; obtain ⟨q39a, q39b⟩ := q39; subst r37; subst M38
        refine G_ps (pc' := 43) (st' := [vi (tkA M (k + 1)), vr 55]) rfl rfl ?_
        rw [show tkA M (k + 1) = tkA M0 (k + 1) from RP_tk hR _]
        refine G_bipush (n := 24) d_Mo_leaf_43 (by decide) (G_pc (pc' := 45) rfl ?_)
        refine G_icmp_eq (tgt := 60) d_Mo_leaf_45 (by decide) (fun h40 => ?_) (fun h40 => G_pc (pc' := 48) rfl ?_)
        · skip
          refine G_iconst (n := 1) d_Mo_leaf_60 (by decide) (G_pc (pc' := 61) rfl ?_)
          refine G_goto (tgt := 65) d_Mo_leaf_61 (by decide) ?_
          refine G_putL (o := 55) (c := 9) (k := 44) (ki := 44) (x := 1) d_Mo_leaf_65 fl_Mo_166 rfl rfl (by decide) (by decide) (by decide) rfl rfl (tokZ (by decide)) rfl (G_pc (pc' := 68) rfl ?_)
          have hR41 : RP M0 (mset M 55 44 1) N O P o a cl 1 := RP_w hR
          have hR41N := RP_N hR41
          (try simp only [List.length_cons, List.length_append, List.length_nil] at hR41N)
          have hR41O := RP_O hR41
          (try simp only [List.length_cons, List.length_append, List.length_nil] at hR41O)
          have hR41P := RP_P hR41
          (try simp only [List.length_cons, List.length_append, List.length_nil] at hR41P)
          refine G_aload (i := 0) (n := 1) (len := 1) (Or.inl ⟨0, rfl, rfl, d_Mo_leaf_68⟩) rfl (by decide) (G_pc (pc' := 69) rfl ?_)
          refine G_aload (i := 0) (n := 1) (len := 1) (Or.inl ⟨0, rfl, rfl, d_Mo_leaf_69⟩) rfl (by decide) (G_pc (pc' := 70) rfl ?_)
          refine G_aload (i := 0) (n := 1) (len := 1) (Or.inl ⟨0, rfl, rfl, d_Mo_leaf_70⟩) rfl (by decide) (G_pc (pc' := 71) rfl ?_)
          refine G_get (o := 55) (c := 9) (k := 26) (v := 74) d_Mo_leaf_71 fl_Mo_66 rfl (by decide) (by decide) rfl rfl (G_pc (pc' := 74) rfl ?_)
          refine G_iload (i := 1) (n := 2) (len := 1) (Or.inl ⟨1, rfl, rfl, d_Mo_leaf_74⟩) rfl (G_pc (pc' := 75) rfl ?_)
          refine G_iaload (o := 74) (n := 25) (i := k) (v := M 74 k) d_Mo_leaf_75 rfl ⟨by decide, by decide⟩ (by omega) (rd_arr rfl) (fun t42 => G_pc (pc' := 76) rfl ?_)
          have t42 := tok_i t42
          rw [show M 74 k = tkA M0 k from RP_t hR41 (by omega)]
          refine G_iconst (n := (-1)) d_Mo_leaf_76 (by decide) (G_pc (pc' := 77) rfl ?_)
          refine G_iconst (n := (-1)) d_Mo_leaf_77 (by decide) (G_pc (pc' := 78) rfl ?_)
          refine G_iconst (n := (-1)) d_Mo_leaf_78 (by decide) (G_pc (pc' := 79) rfl ?_)
          refine G_lload (i := 2) (n := 0) (len := 1) (Or.inl ⟨2, rfl, rfl, d_Mo_leaf_79⟩) rfl (G_pc (pc' := 80) rfl ?_)
          refine G_callV (K1 := KE) (d2 := 0) (o := 55) (cl := 9) (as := [vi (tkA M0 k), vi (-1), vi (-1), vi (-1), vl (M0 75 k)]) (rest := [vr 55]) d_Mo_leaf_80 mf_Mo_node ml_Mo_226 rfl rfl (by decide) rfl rfl (Nat.le_of_ble_eq_true rfl) (by omega) ⟨Nat.le_refl _, Nat.le_refl _⟩ (g_Mo_node (by omega) (tkA M0 k) (-1) (-1) (-1) (M0 75 k) _ (by omega)) (fun r43 M44 kq45 q45 => ?_)
          clear kq45; obtain ⟨q45a, q45b⟩ := q45; subst r43; subst M44
          refine G_ps (pc' := 83) (st' := [vi ((mset M 55 44 1) 55 28), vr 55]) rfl rfl ?_
          rw [show (mset M 55 44 1) 55 28 = ((N).length : Int) from RP_N hR41]
          have hR46 : RP M0 (nodeM (mset M 55 44 1) (tkA M0 k) (-1) (-1) (-1) (M0 75 k)) (N ++ [(tkA M0 k, (-1), (-1), (-1), M0 75 k)]) O P o a cl 1 := RP_node hR41
          have hR46N := RP_N hR46
          (try simp only [List.length_cons, List.length_append, List.length_nil] at hR46N)
          have hR46O := RP_O hR46
          (try simp only [List.length_cons, List.length_append, List.length_nil] at hR46O)
          have hR46P := RP_P hR46
          (try simp only [List.length_cons, List.length_append, List.length_nil] at hR46P)
          refine G_callV (K1 := KE) (d2 := 0) (o := 55) (cl := 9) (as := [vi ((N).length : Int)]) (rest := []) d_Mo_leaf_83 mf_Mo_push ml_Mo_230 rfl rfl (by decide) rfl rfl (Nat.le_of_ble_eq_true rfl) (by omega) ⟨Nat.le_refl _, Nat.le_refl _⟩ (g_Mo_push (by omega) ((N).length : Int) _ (by omega)) (fun r47 M48 kq49 q49 => ?_)
          clear kq49; obtain ⟨q49a, q49b⟩ := q49; subst r47; subst M48
          refine G_ps (pc' := 86) (st' := []) rfl rfl ?_
          have hR50 : RP M0 (pushM (nodeM (mset M 55 44 1) (tkA M0 k) (-1) (-1) (-1) (M0 75 k)) ((N).length : Int)) (N ++ [(tkA M0 k, (-1), (-1), (-1), M0 75 k)]) ((((N).length : Int)) :: O) P o a cl 1 := RP_push hR46
          have hR50N := RP_N hR50
          (try simp only [List.length_cons, List.length_append, List.length_nil] at hR50N)
          have hR50O := RP_O hR50
          (try simp only [List.length_cons, List.length_append, List.length_nil] at hR50O)
          have hR50P := RP_P hR50
          (try simp only [List.length_cons, List.length_append, List.length_nil] at hR50P)
          refine G_iload (i := 1) (n := 2) (len := 1) (Or.inl ⟨1, rfl, rfl, d_Mo_leaf_86⟩) rfl (G_pc (pc' := 87) rfl ?_)
          refine G_iconst (n := 1) d_Mo_leaf_87 (by decide) (G_pc (pc' := 88) rfl ?_)
          refine G_iadd d_Mo_leaf_88 (by omega) (G_pc (pc' := 89) rfl ?_)
          refine G_iret d_Mo_leaf_89 rfl (tokI (by omega)) rfl rfl ?_
          exact Or.inl ⟨by unfold leafS; simp only []; rw [if_pos (by omega)], hR50.1, RP_W hR50, _, rfl⟩
        · skip
          refine G_aload (i := 0) (n := 1) (len := 1) (Or.inl ⟨0, rfl, rfl, d_Mo_leaf_48⟩) rfl (by decide) (G_pc (pc' := 49) rfl ?_)
          refine G_iload (i := 1) (n := 2) (len := 1) (Or.inl ⟨1, rfl, rfl, d_Mo_leaf_49⟩) rfl (G_pc (pc' := 50) rfl ?_)
          refine G_iconst (n := 1) d_Mo_leaf_50 (by decide) (G_pc (pc' := 51) rfl ?_)
          refine G_iadd d_Mo_leaf_51 (by omega) (G_pc (pc' := 52) rfl ?_)
          refine G_callV (K1 := KE) (d2 := 0) (o := 55) (cl := 9) (as := [vi (k + 1)]) (rest := [vr 55]) d_Mo_leaf_52 mf_Mo_tokenAt ml_Mo_254 rfl rfl (by decide) rfl rfl (Nat.le_of_ble_eq_true rfl) (by omega) ⟨Nat.le_refl _, Nat.le_refl _⟩ (g_Mo_tokenAt (by omega) (k + 1) _ (by omega) (by rw [RP_n hR]; omega)) (fun r51 M52 kq53 q53 => ?_)
          clear kq53; obtain ⟨q53a, q53b⟩ := q53; subst r51; subst M52
          refine G_ps (pc' := 55) (st' := [vi (tkA M (k + 1)), vr 55]) rfl rfl ?_
          rw [show tkA M (k + 1) = tkA M0 (k + 1) from RP_tk hR _]
          refine G_bipush (n := 22) d_Mo_leaf_55 (by decide) (G_pc (pc' := 57) rfl ?_)
          refine G_icmp_ne (tgt := 64) d_Mo_leaf_57 (by decide) (fun h54 => ?_) (fun h54 => G_pc (pc' := 60) rfl ?_)
          · skip
            refine G_iconst (n := 0) d_Mo_leaf_64 (by decide) (G_pc (pc' := 65) rfl ?_)
            refine G_putL (o := 55) (c := 9) (k := 44) (ki := 44) (x := 0) d_Mo_leaf_65 fl_Mo_166 rfl rfl (by decide) (by decide) (by decide) rfl rfl (tokZ (by decide)) rfl (G_pc (pc' := 68) rfl ?_)
            have hR55 : RP M0 (mset M 55 44 0) N O P o a cl 0 := RP_w hR
            have hR55N := RP_N hR55
            (try simp only [List.length_cons, List.length_append, List.length_nil] at hR55N)
            have hR55O := RP_O hR55
            (try simp only [List.length_cons, List.length_append, List.length_nil] at hR55O)
            have hR55P := RP_P hR55
            (try simp only [List.length_cons, List.length_append, List.length_nil] at hR55P)
            refine G_aload (i := 0) (n := 1) (len := 1) (Or.inl ⟨0, rfl, rfl, d_Mo_leaf_68⟩) rfl (by decide) (G_pc (pc' := 69) rfl ?_)
            refine G_aload (i := 0) (n := 1) (len := 1) (Or.inl ⟨0, rfl, rfl, d_Mo_leaf_69⟩) rfl (by decide) (G_pc (pc' := 70) rfl ?_)
            refine G_aload (i := 0) (n := 1) (len := 1) (Or.inl ⟨0, rfl, rfl, d_Mo_leaf_70⟩) rfl (by decide) (G_pc (pc' := 71) rfl ?_)
            refine G_get (o := 55) (c := 9) (k := 26) (v := 74) d_Mo_leaf_71 fl_Mo_66 rfl (by decide) (by decide) rfl rfl (G_pc (pc' := 74) rfl ?_)
            refine G_iload (i := 1) (n := 2) (len := 1) (Or.inl ⟨1, rfl, rfl, d_Mo_leaf_74⟩) rfl (G_pc (pc' := 75) rfl ?_)
            refine G_iaload (o := 74) (n := 25) (i := k) (v := M 74 k) d_Mo_leaf_75 rfl ⟨by decide, by decide⟩ (by omega) (rd_arr rfl) (fun t56 => G_pc (pc' := 76) rfl ?_)
            have t56 := tok_i t56
            rw [show M 74 k = tkA M0 k from RP_t hR55 (by omega)]
            refine G_iconst (n := (-1)) d_Mo_leaf_76 (by decide) (G_pc (pc' := 77) rfl ?_)
            refine G_iconst (n := (-1)) d_Mo_leaf_77 (by decide) (G_pc (pc' := 78) rfl ?_)
            refine G_iconst (n := (-1)) d_Mo_leaf_78 (by decide) (G_pc (pc' := 79) rfl ?_)
            refine G_lload (i := 2) (n := 0) (len := 1) (Or.inl ⟨2, rfl, rfl, d_Mo_leaf_79⟩) rfl (G_pc (pc' := 80) rfl ?_)
            refine G_callV (K1 := KE) (d2 := 0) (o := 55) (cl := 9) (as := [vi (tkA M0 k), vi (-1), vi (-1), vi (-1), vl (M0 75 k)]) (rest := [vr 55]) d_Mo_leaf_80 mf_Mo_node ml_Mo_226 rfl rfl (by decide) rfl rfl (Nat.le_of_ble_eq_true rfl) (by omega) ⟨Nat.le_refl _, Nat.le_refl _⟩ (g_Mo_node (by omega) (tkA M0 k) (-1) (-1) (-1) (M0 75 k) _ (by omega)) (fun r57 M58 kq59 q59 => ?_)
            clear kq59; obtain ⟨q59a, q59b⟩ := q59; subst r57; subst M58
            refine G_ps (pc' := 83) (st' := [vi ((mset M 55 44 0) 55 28), vr 55]) rfl rfl ?_
            rw [show (mset M 55 44 0) 55 28 = ((N).length : Int) from RP_N hR55]
            have hR60 : RP M0 (nodeM (mset M 55 44 0) (tkA M0 k) (-1) (-1) (-1) (M0 75 k)) (N ++ [(tkA M0 k, (-1), (-1), (-1), M0 75 k)]) O P o a cl 0 := RP_node hR55
            have hR60N := RP_N hR60
            (try simp only [List.length_cons, List.length_append, List.length_nil] at hR60N)
            have hR60O := RP_O hR60
            (try simp only [List.length_cons, List.length_append, List.length_nil] at hR60O)
            have hR60P := RP_P hR60
            (try simp only [List.length_cons, List.length_append, List.length_nil] at hR60P)
            refine G_callV (K1 := KE) (d2 := 0) (o := 55) (cl := 9) (as := [vi ((N).length : Int)]) (rest := []) d_Mo_leaf_83 mf_Mo_push ml_Mo_230 rfl rfl (by decide) rfl rfl (Nat.le_of_ble_eq_true rfl) (by omega) ⟨Nat.le_refl _, Nat.le_refl _⟩ (g_Mo_push (by omega) ((N).length : Int) _ (by omega)) (fun r61 M62 kq63 q63 => ?_)
            clear kq63; obtain ⟨q63a, q63b⟩ := q63; subst r61; subst M62
            refine G_ps (pc' := 86) (st' := []) rfl rfl ?_
            have hR64 : RP M0 (pushM (nodeM (mset M 55 44 0) (tkA M0 k) (-1) (-1) (-1) (M0 75 k)) ((N).length : Int)) (N ++ [(tkA M0 k, (-1), (-1), (-1), M0 75 k)]) ((((N).length : Int)) :: O) P o a cl 0 := RP_push hR60
            have hR64N := RP_N hR64
            (try simp only [List.length_cons, List.length_append, List.length_nil] at hR64N)
            have hR64O := RP_O hR64
            (try simp only [List.length_cons, List.length_append, List.length_nil] at hR64O)
            have hR64P := RP_P hR64
            (try simp only [List.length_cons, List.length_append, List.length_nil] at hR64P)
            refine G_iload (i := 1) (n := 2) (len := 1) (Or.inl ⟨1, rfl, rfl, d_Mo_leaf_86⟩) rfl (G_pc (pc' := 87) rfl ?_)
            refine G_iconst (n := 1) d_Mo_leaf_87 (by decide) (G_pc (pc' := 88) rfl ?_)
            refine G_iadd d_Mo_leaf_88 (by omega) (G_pc (pc' := 89) rfl ?_)
            refine G_iret d_Mo_leaf_89 rfl (tokI (by omega)) rfl rfl ?_
            exact Or.inr ⟨_, _, _, _, _, _, _, by unfold leafS; simp only []; rw [if_neg (by omega)], rfl, hR64⟩
          · skip
            refine G_iconst (n := 1) d_Mo_leaf_60 (by decide) (G_pc (pc' := 61) rfl ?_)
            refine G_goto (tgt := 65) d_Mo_leaf_61 (by decide) ?_
            refine G_putL (o := 55) (c := 9) (k := 44) (ki := 44) (x := 1) d_Mo_leaf_65 fl_Mo_166 rfl rfl (by decide) (by decide) (by decide) rfl rfl (tokZ (by decide)) rfl (G_pc (pc' := 68) rfl ?_)
            have hR65 : RP M0 (mset M 55 44 1) N O P o a cl 1 := RP_w hR
            have hR65N := RP_N hR65
            (try simp only [List.length_cons, List.length_append, List.length_nil] at hR65N)
            have hR65O := RP_O hR65
            (try simp only [List.length_cons, List.length_append, List.length_nil] at hR65O)
            have hR65P := RP_P hR65
            (try simp only [List.length_cons, List.length_append, List.length_nil] at hR65P)
            refine G_aload (i := 0) (n := 1) (len := 1) (Or.inl ⟨0, rfl, rfl, d_Mo_leaf_68⟩) rfl (by decide) (G_pc (pc' := 69) rfl ?_)
            refine G_aload (i := 0) (n := 1) (len := 1) (Or.inl ⟨0, rfl, rfl, d_Mo_leaf_69⟩) rfl (by decide) (G_pc (pc' := 70) rfl ?_)
            refine G_aload (i := 0) (n := 1) (len := 1) (Or.inl ⟨0, rfl, rfl, d_Mo_leaf_70⟩) rfl (by decide) (G_pc (pc' := 71) rfl ?_)
            refine G_get (o := 55) (c := 9) (k := 26) (v := 74) d_Mo_leaf_71 fl_Mo_66 rfl (by decide) (by decide) rfl rfl (G_pc (pc' := 74) rfl ?_)
            refine G_iload (i := 1) (n := 2) (len := 1) (Or.inl ⟨1, rfl, rfl, d_Mo_leaf_74⟩) rfl (G_pc (pc' := 75) rfl ?_)
            refine G_iaload (o := 74) (n := 25) (i := k) (v := M 74 k) d_Mo_leaf_75 rfl ⟨by decide, by decide⟩ (by omega) (rd_arr rfl) (fun t66 => G_pc (pc' := 76) rfl ?_)
            have t66 := tok_i t66
            rw [show M 74 k = tkA M0 k from RP_t hR65 (by omega)]
            refine G_iconst (n := (-1)) d_Mo_leaf_76 (by decide) (G_pc (pc' := 77) rfl ?_)
            refine G_iconst (n := (-1)) d_Mo_leaf_77 (by decide) (G_pc (pc' := 78) rfl ?_)
            refine G_iconst (n := (-1)) d_Mo_leaf_78 (by decide) (G_pc (pc' := 79) rfl ?_)
            refine G_lload (i := 2) (n := 0) (len := 1) (Or.inl ⟨2, rfl, rfl, d_Mo_leaf_79⟩) rfl (G_pc (pc' := 80) rfl ?_)
            refine G_callV (K1 := KE) (d2 := 0) (o := 55) (cl := 9) (as := [vi (tkA M0 k), vi (-1), vi (-1), vi (-1), vl (M0 75 k)]) (rest := [vr 55]) d_Mo_leaf_80 mf_Mo_node ml_Mo_226 rfl rfl (by decide) rfl rfl (Nat.le_of_ble_eq_true rfl) (by omega) ⟨Nat.le_refl _, Nat.le_refl _⟩ (g_Mo_node (by omega) (tkA M0 k) (-1) (-1) (-1) (M0 75 k) _ (by omega)) (fun r67 M68 kq69 q69 => ?_)
            clear kq69; obtain ⟨q69a, q69b⟩ := q69; subst r67; subst M68
            refine G_ps (pc' := 83) (st' := [vi ((mset M 55 44 1) 55 28), vr 55]) rfl rfl ?_
            rw [show (mset M 55 44 1) 55 28 = ((N).length : Int) from RP_N hR65]
            have hR70 : RP M0 (nodeM (mset M 55 44 1) (tkA M0 k) (-1) (-1) (-1) (M0 75 k)) (N ++ [(tkA M0 k, (-1), (-1), (-1), M0 75 k)]) O P o a cl 1 := RP_node hR65
            have hR70N := RP_N hR70
            (try simp only [List.length_cons, List.length_append, List.length_nil] at hR70N)
            have hR70O := RP_O hR70
            (try simp only [List.length_cons, List.length_append, List.length_nil] at hR70O)
            have hR70P := RP_P hR70
            (try simp only [List.length_cons, List.length_append, List.length_nil] at hR70P)
            refine G_callV (K1 := KE) (d2 := 0) (o := 55) (cl := 9) (as := [vi ((N).length : Int)]) (rest := []) d_Mo_leaf_83 mf_Mo_push ml_Mo_230 rfl rfl (by decide) rfl rfl (Nat.le_of_ble_eq_true rfl) (by omega) ⟨Nat.le_refl _, Nat.le_refl _⟩ (g_Mo_push (by omega) ((N).length : Int) _ (by omega)) (fun r71 M72 kq73 q73 => ?_)
            clear kq73; obtain ⟨q73a, q73b⟩ := q73; subst r71; subst M72
            refine G_ps (pc' := 86) (st' := []) rfl rfl ?_
            have hR74 : RP M0 (pushM (nodeM (mset M 55 44 1) (tkA M0 k) (-1) (-1) (-1) (M0 75 k)) ((N).length : Int)) (N ++ [(tkA M0 k, (-1), (-1), (-1), M0 75 k)]) ((((N).length : Int)) :: O) P o a cl 1 := RP_push hR70
            have hR74N := RP_N hR74
            (try simp only [List.length_cons, List.length_append, List.length_nil] at hR74N)
            have hR74O := RP_O hR74
            (try simp only [List.length_cons, List.length_append, List.length_nil] at hR74O)
            have hR74P := RP_P hR74
            (try simp only [List.length_cons, List.length_append, List.length_nil] at hR74P)
            refine G_iload (i := 1) (n := 2) (len := 1) (Or.inl ⟨1, rfl, rfl, d_Mo_leaf_86⟩) rfl (G_pc (pc' := 87) rfl ?_)
            refine G_iconst (n := 1) d_Mo_leaf_87 (by decide) (G_pc (pc' := 88) rfl ?_)
            refine G_iadd d_Mo_leaf_88 (by omega) (G_pc (pc' := 89) rfl ?_)
            refine G_iret d_Mo_leaf_89 rfl (tokI (by omega)) rfl rfl ?_
            exact Or.inl ⟨by unfold leafS; simp only []; rw [if_pos (by omega)], hR74.1, RP_W hR74, _, rfl⟩

theorem d_Mo_before_0 : decode b_Mo_before 0 = .ok (.aload_n 0, 1) := by decide +kernel
theorem d_Mo_before_1 : decode b_Mo_before 1 = .ok (.getfield 66, 3) := by decide +kernel
theorem d_Mo_before_4 : decode b_Mo_before 4 = .ok (.iload_n 1, 1) := by decide +kernel
theorem d_Mo_before_5 : decode b_Mo_before 5 = .ok (.iaload, 1) := by decide +kernel
theorem d_Mo_before_6 : decode b_Mo_before 6 = .ok (.istore_n 2, 1) := by decide +kernel
theorem d_Mo_before_7 : decode b_Mo_before 7 = .ok (.iload_n 2, 1) := by decide +kernel
theorem d_Mo_before_8 : decode b_Mo_before 8 = .ok (.bipush 27, 2) := by decide +kernel
theorem d_Mo_before_10 : decode b_Mo_before 10 = .ok (.if_icmp .eq 21, 3) := by decide +kernel
theorem d_Mo_before_13 : decode b_Mo_before 13 = .ok (.iload_n 2, 1) := by decide +kernel
theorem d_Mo_before_14 : decode b_Mo_before 14 = .ok (.bipush 28, 2) := by decide +kernel
theorem d_Mo_before_16 : decode b_Mo_before 16 = .ok (.if_icmp .eq 15, 3) := by decide +kernel
theorem d_Mo_before_19 : decode b_Mo_before 19 = .ok (.iload_n 2, 1) := by decide +kernel
theorem d_Mo_before_20 : decode b_Mo_before 20 = .ok (.bipush 32, 2) := by decide +kernel
theorem d_Mo_before_22 : decode b_Mo_before 22 = .ok (.if_icmp .eq 9, 3) := by decide +kernel
theorem d_Mo_before_25 : decode b_Mo_before 25 = .ok (.iload_n 2, 1) := by decide +kernel
theorem d_Mo_before_26 : decode b_Mo_before 26 = .ok (.bipush 33, 2) := by decide +kernel
theorem d_Mo_before_28 : decode b_Mo_before 28 = .ok (.if_icmp .ne 16, 3) := by decide +kernel
theorem d_Mo_before_31 : decode b_Mo_before 31 = .ok (.aload_n 0, 1) := by decide +kernel
theorem d_Mo_before_32 : decode b_Mo_before 32 = .ok (.bipush 100, 2) := by decide +kernel
theorem d_Mo_before_34 : decode b_Mo_before 34 = .ok (.iload_n 2, 1) := by decide +kernel
theorem d_Mo_before_35 : decode b_Mo_before 35 = .ok (.iadd, 1) := by decide +kernel
theorem d_Mo_before_36 : decode b_Mo_before 36 = .ok (.iconst 0, 1) := by decide +kernel
theorem d_Mo_before_37 : decode b_Mo_before 37 = .ok (.invokevirtual 257, 3) := by decide +kernel
theorem d_Mo_before_40 : decode b_Mo_before 40 = .ok (.iload_n 1, 1) := by decide +kernel
theorem d_Mo_before_41 : decode b_Mo_before 41 = .ok (.iconst 1, 1) := by decide +kernel
theorem d_Mo_before_42 : decode b_Mo_before 42 = .ok (.iadd, 1) := by decide +kernel
theorem d_Mo_before_43 : decode b_Mo_before 43 = .ok (.ireturn, 1) := by decide +kernel
theorem d_Mo_before_44 : decode b_Mo_before 44 = .ok (.iload_n 2, 1) := by decide +kernel
theorem d_Mo_before_45 : decode b_Mo_before 45 = .ok (.bipush 20, 2) := by decide +kernel
theorem d_Mo_before_47 : decode b_Mo_before 47 = .ok (.if_icmp .eq 10, 3) := by decide +kernel
theorem d_Mo_before_50 : decode b_Mo_before 50 = .ok (.aload_n 0, 1) := by decide +kernel
theorem d_Mo_before_51 : decode b_Mo_before 51 = .ok (.iconst 1, 1) := by decide +kernel
theorem d_Mo_before_52 : decode b_Mo_before 52 = .ok (.putfield 166, 3) := by decide +kernel
theorem d_Mo_before_55 : decode b_Mo_before 55 = .ok (.iload_n 1, 1) := by decide +kernel
theorem d_Mo_before_56 : decode b_Mo_before 56 = .ok (.ireturn, 1) := by decide +kernel
theorem d_Mo_before_57 : decode b_Mo_before 57 = .ok (.aload_n 0, 1) := by decide +kernel
theorem d_Mo_before_58 : decode b_Mo_before 58 = .ok (.iload_n 1, 1) := by decide +kernel
theorem d_Mo_before_59 : decode b_Mo_before 59 = .ok (.iconst 1, 1) := by decide +kernel
theorem d_Mo_before_60 : decode b_Mo_before 60 = .ok (.iadd, 1) := by decide +kernel
theorem d_Mo_before_61 : decode b_Mo_before 61 = .ok (.invokevirtual 254, 3) := by decide +kernel
theorem d_Mo_before_64 : decode b_Mo_before 64 = .ok (.istore_n 3, 1) := by decide +kernel
theorem d_Mo_before_65 : decode b_Mo_before 65 = .ok (.iload_n 3, 1) := by decide +kernel
theorem d_Mo_before_66 : decode b_Mo_before 66 = .ok (.bipush 8, 2) := by decide +kernel
theorem d_Mo_before_68 : decode b_Mo_before 68 = .ok (.if_icmp .lt 9, 3) := by decide +kernel
theorem d_Mo_before_71 : decode b_Mo_before 71 = .ok (.iload_n 3, 1) := by decide +kernel
theorem d_Mo_before_72 : decode b_Mo_before 72 = .ok (.bipush 12, 2) := by decide +kernel
theorem d_Mo_before_74 : decode b_Mo_before 74 = .ok (.if_icmp .le 42, 3) := by decide +kernel
theorem d_Mo_before_77 : decode b_Mo_before 77 = .ok (.aload_n 0, 1) := by decide +kernel
theorem d_Mo_before_78 : decode b_Mo_before 78 = .ok (.dup, 1) := by decide +kernel
theorem d_Mo_before_79 : decode b_Mo_before 79 = .ok (.getfield 233, 3) := by decide +kernel
theorem d_Mo_before_82 : decode b_Mo_before 82 = .ok (.iconst 1, 1) := by decide +kernel
theorem d_Mo_before_83 : decode b_Mo_before 83 = .ok (.iadd, 1) := by decide +kernel
theorem d_Mo_before_84 : decode b_Mo_before 84 = .ok (.putfield 233, 3) := by decide +kernel
theorem d_Mo_before_87 : decode b_Mo_before 87 = .ok (.aload_n 0, 1) := by decide +kernel
theorem d_Mo_before_88 : decode b_Mo_before 88 = .ok (.aload_n 0, 1) := by decide +kernel
theorem d_Mo_before_89 : decode b_Mo_before 89 = .ok (.getfield 233, 3) := by decide +kernel
theorem d_Mo_before_92 : decode b_Mo_before 92 = .ok (.bipush 6, 2) := by decide +kernel
theorem d_Mo_before_94 : decode b_Mo_before 94 = .ok (.if_icmp .le 7, 3) := by decide +kernel
theorem d_Mo_before_97 : decode b_Mo_before 97 = .ok (.iconst 1, 1) := by decide +kernel
theorem d_Mo_before_98 : decode b_Mo_before 98 = .ok (.goto 4, 3) := by decide +kernel
theorem d_Mo_before_101 : decode b_Mo_before 101 = .ok (.iconst 0, 1) := by decide +kernel
theorem d_Mo_before_102 : decode b_Mo_before 102 = .ok (.putfield 166, 3) := by decide +kernel
theorem d_Mo_before_105 : decode b_Mo_before 105 = .ok (.aload_n 0, 1) := by decide +kernel
theorem d_Mo_before_106 : decode b_Mo_before 106 = .ok (.bipush 20, 2) := by decide +kernel
theorem d_Mo_before_108 : decode b_Mo_before 108 = .ok (.iconst 0, 1) := by decide +kernel
theorem d_Mo_before_109 : decode b_Mo_before 109 = .ok (.invokevirtual 257, 3) := by decide +kernel
theorem d_Mo_before_112 : decode b_Mo_before 112 = .ok (.iload_n 1, 1) := by decide +kernel
theorem d_Mo_before_113 : decode b_Mo_before 113 = .ok (.iconst 1, 1) := by decide +kernel
theorem d_Mo_before_114 : decode b_Mo_before 114 = .ok (.iadd, 1) := by decide +kernel
theorem d_Mo_before_115 : decode b_Mo_before 115 = .ok (.ireturn, 1) := by decide +kernel
theorem d_Mo_before_116 : decode b_Mo_before 116 = .ok (.aload_n 0, 1) := by decide +kernel
theorem d_Mo_before_117 : decode b_Mo_before 117 = .ok (.iload_n 1, 1) := by decide +kernel
theorem d_Mo_before_118 : decode b_Mo_before 118 = .ok (.iconst 2, 1) := by decide +kernel
theorem d_Mo_before_119 : decode b_Mo_before 119 = .ok (.iadd, 1) := by decide +kernel
theorem d_Mo_before_120 : decode b_Mo_before 120 = .ok (.invokevirtual 254, 3) := by decide +kernel
theorem d_Mo_before_123 : decode b_Mo_before 123 = .ok (.bipush 22, 2) := by decide +kernel
theorem d_Mo_before_125 : decode b_Mo_before 125 = .ok (.if_icmp .ne 7, 3) := by decide +kernel
theorem d_Mo_before_128 : decode b_Mo_before 128 = .ok (.iconst 1, 1) := by decide +kernel
theorem d_Mo_before_129 : decode b_Mo_before 129 = .ok (.goto 4, 3) := by decide +kernel
theorem d_Mo_before_132 : decode b_Mo_before 132 = .ok (.iconst 0, 1) := by decide +kernel
theorem d_Mo_before_133 : decode b_Mo_before 133 = .ok (.istore 4, 2) := by decide +kernel
theorem d_Mo_before_135 : decode b_Mo_before 135 = .ok (.iload 4, 2) := by decide +kernel
theorem d_Mo_before_137 : decode b_Mo_before 137 = .ok (.ifCond .eq 9, 3) := by decide +kernel
theorem d_Mo_before_140 : decode b_Mo_before 140 = .ok (.iload_n 1, 1) := by decide +kernel
theorem d_Mo_before_141 : decode b_Mo_before 141 = .ok (.iconst 4, 1) := by decide +kernel
theorem d_Mo_before_142 : decode b_Mo_before 142 = .ok (.iadd, 1) := by decide +kernel
theorem d_Mo_before_143 : decode b_Mo_before 143 = .ok (.goto 6, 3) := by decide +kernel
theorem d_Mo_before_146 : decode b_Mo_before 146 = .ok (.iload_n 1, 1) := by decide +kernel
theorem d_Mo_before_147 : decode b_Mo_before 147 = .ok (.iconst 2, 1) := by decide +kernel
theorem d_Mo_before_148 : decode b_Mo_before 148 = .ok (.iadd, 1) := by decide +kernel
theorem d_Mo_before_149 : decode b_Mo_before 149 = .ok (.istore 5, 2) := by decide +kernel
theorem d_Mo_before_151 : decode b_Mo_before 151 = .ok (.aload_n 0, 1) := by decide +kernel
theorem d_Mo_before_152 : decode b_Mo_before 152 = .ok (.getfield 69, 3) := by decide +kernel
theorem d_Mo_before_155 : decode b_Mo_before 155 = .ok (.iload_n 1, 1) := by decide +kernel
theorem d_Mo_before_156 : decode b_Mo_before 156 = .ok (.iconst 1, 1) := by decide +kernel
theorem d_Mo_before_157 : decode b_Mo_before 157 = .ok (.iadd, 1) := by decide +kernel
theorem d_Mo_before_158 : decode b_Mo_before 158 = .ok (.laload, 1) := by decide +kernel
theorem d_Mo_before_159 : decode b_Mo_before 159 = .ok (.l2i, 1) := by decide +kernel
theorem d_Mo_before_160 : decode b_Mo_before 160 = .ok (.istore 6, 2) := by decide +kernel
theorem d_Mo_before_162 : decode b_Mo_before 162 = .ok (.aload_n 0, 1) := by decide +kernel
theorem d_Mo_before_163 : decode b_Mo_before 163 = .ok (.aload_n 0, 1) := by decide +kernel
theorem d_Mo_before_164 : decode b_Mo_before 164 = .ok (.iload 5, 2) := by decide +kernel
theorem d_Mo_before_166 : decode b_Mo_before 166 = .ok (.invokevirtual 254, 3) := by decide +kernel
theorem d_Mo_before_169 : decode b_Mo_before 169 = .ok (.bipush 21, 2) := by decide +kernel
theorem d_Mo_before_171 : decode b_Mo_before 171 = .ok (.if_icmp .ne 32, 3) := by decide +kernel
theorem d_Mo_before_174 : decode b_Mo_before 174 = .ok (.iload 4, 2) := by decide +kernel
theorem d_Mo_before_176 : decode b_Mo_before 176 = .ok (.ifCond .eq 31, 3) := by decide +kernel
theorem d_Mo_before_179 : decode b_Mo_before 179 = .ok (.aload_n 0, 1) := by decide +kernel
theorem d_Mo_before_180 : decode b_Mo_before 180 = .ok (.iload_n 1, 1) := by decide +kernel
theorem d_Mo_before_181 : decode b_Mo_before 181 = .ok (.iconst 3, 1) := by decide +kernel
theorem d_Mo_before_182 : decode b_Mo_before 182 = .ok (.iadd, 1) := by decide +kernel
theorem d_Mo_before_183 : decode b_Mo_before 183 = .ok (.invokevirtual 254, 3) := by decide +kernel
theorem d_Mo_before_186 : decode b_Mo_before 186 = .ok (.bipush 23, 2) := by decide +kernel
theorem d_Mo_before_188 : decode b_Mo_before 188 = .ok (.if_icmp .ne 15, 3) := by decide +kernel
theorem d_Mo_before_191 : decode b_Mo_before 191 = .ok (.iload_n 3, 1) := by decide +kernel
theorem d_Mo_before_192 : decode b_Mo_before 192 = .ok (.bipush 8, 2) := by decide +kernel
theorem d_Mo_before_194 : decode b_Mo_before 194 = .ok (.if_icmp .eq 13, 3) := by decide +kernel
theorem d_Mo_before_197 : decode b_Mo_before 197 = .ok (.iload_n 3, 1) := by decide +kernel
theorem d_Mo_before_198 : decode b_Mo_before 198 = .ok (.bipush 9, 2) := by decide +kernel
theorem d_Mo_before_200 : decode b_Mo_before 200 = .ok (.if_icmp .eq 7, 3) := by decide +kernel
theorem d_Mo_before_203 : decode b_Mo_before 203 = .ok (.iconst 1, 1) := by decide +kernel
theorem d_Mo_before_204 : decode b_Mo_before 204 = .ok (.goto 4, 3) := by decide +kernel
theorem d_Mo_before_207 : decode b_Mo_before 207 = .ok (.iconst 0, 1) := by decide +kernel
theorem d_Mo_before_208 : decode b_Mo_before 208 = .ok (.putfield 166, 3) := by decide +kernel
theorem d_Mo_before_211 : decode b_Mo_before 211 = .ok (.aload_n 0, 1) := by decide +kernel
theorem d_Mo_before_212 : decode b_Mo_before 212 = .ok (.bipush 64, 2) := by decide +kernel
theorem d_Mo_before_214 : decode b_Mo_before 214 = .ok (.iload 4, 2) := by decide +kernel
theorem d_Mo_before_216 : decode b_Mo_before 216 = .ok (.ifCond .eq 22, 3) := by decide +kernel
theorem d_Mo_before_219 : decode b_Mo_before 219 = .ok (.iload_n 3, 1) := by decide +kernel
theorem d_Mo_before_220 : decode b_Mo_before 220 = .ok (.bipush 9, 2) := by decide +kernel
theorem d_Mo_before_222 : decode b_Mo_before 222 = .ok (.if_icmp .ne 8, 3) := by decide +kernel
theorem d_Mo_before_225 : decode b_Mo_before 225 = .ok (.bipush 10, 2) := by decide +kernel
theorem d_Mo_before_227 : decode b_Mo_before 227 = .ok (.goto 28, 3) := by decide +kernel
theorem d_Mo_before_230 : decode b_Mo_before 230 = .ok (.bipush 11, 2) := by decide +kernel
theorem d_Mo_before_232 : decode b_Mo_before 232 = .ok (.iload 6, 2) := by decide +kernel
theorem d_Mo_before_234 : decode b_Mo_before 234 = .ok (.iadd, 1) := by decide +kernel
theorem d_Mo_before_235 : decode b_Mo_before 235 = .ok (.goto 20, 3) := by decide +kernel
theorem d_Mo_before_238 : decode b_Mo_before 238 = .ok (.iload_n 3, 1) := by decide +kernel
theorem d_Mo_before_239 : decode b_Mo_before 239 = .ok (.bipush 8, 2) := by decide +kernel
theorem d_Mo_before_241 : decode b_Mo_before 241 = .ok (.if_icmp .ne 10, 3) := by decide +kernel
theorem d_Mo_before_244 : decode b_Mo_before 244 = .ok (.iconst 4, 1) := by decide +kernel
theorem d_Mo_before_245 : decode b_Mo_before 245 = .ok (.iload 6, 2) := by decide +kernel
theorem d_Mo_before_247 : decode b_Mo_before 247 = .ok (.iadd, 1) := by decide +kernel
theorem d_Mo_before_248 : decode b_Mo_before 248 = .ok (.goto 7, 3) := by decide +kernel
theorem d_Mo_before_251 : decode b_Mo_before 251 = .ok (.iload_n 3, 1) := by decide +kernel
theorem d_Mo_before_252 : decode b_Mo_before 252 = .ok (.bipush 9, 2) := by decide +kernel
theorem d_Mo_before_254 : decode b_Mo_before 254 = .ok (.isub, 1) := by decide +kernel
theorem d_Mo_before_255 : decode b_Mo_before 255 = .ok (.invokevirtual 257, 3) := by decide +kernel
theorem d_Mo_before_258 : decode b_Mo_before 258 = .ok (.iload 5, 2) := by decide +kernel
theorem d_Mo_before_260 : decode b_Mo_before 260 = .ok (.iconst 1, 1) := by decide +kernel
theorem d_Mo_before_261 : decode b_Mo_before 261 = .ok (.iadd, 1) := by decide +kernel
theorem d_Mo_before_262 : decode b_Mo_before 262 = .ok (.ireturn, 1) := by decide +kernel
set_option maxHeartbeats 1000000 in
theorem g_Mo_before {X : WX} {d : Nat} (hd : 1 ≤ d) (k : Int) (M0 : Mem) (N : List ND) (O : List Int) (P : List (Int × Int)) (o a cl : Int) (M : Mem) (hR : RP M0 M N O P o a cl 0) (hk : 0 ≤ k ∧ k < M0 55 25) (hT : M0 55 25 ≤ 24) (hB : N.length + P.length ≤ 23) (hC : O.length ≤ N.length) (ho : -100 ≤ o ∧ o ≤ 100 ∧ -100 ≤ a ∧ a ≤ 100) (hV : ∀ j, 8 ≤ tkA M0 j → tkA M0 j ≤ 12 → 0 ≤ M0 75 j ∧ M0 75 j < 6) : MG X gt d KE KE y_Mo_before b_Mo_before 7 (some .int) [vr 55, vi k] M (stepQ M0 (beforeS (tkA M0 k) (tkA M0 (k + 1)) (tkA M0 (k + 2)) (tkA M0 (k + 3)) (tkA M0 (k + 4)) (M0 75 (k + 1)) k (N, O, P, o, a, cl))) := by
  refine MG_of_G (by decide) (Nat.le_of_ble_eq_true rfl) (Nat.le_refl _) (by decide) ?_
  show G X gt d KE KE y_Mo_before b_Mo_before 7 (some .int) _ 0 [(0, vr 55), (1, vi k)] [] KE M
  have hRN := RP_N hR
  have hRO := RP_O hR
  have hRP := RP_P hR
  refine G_rngl (i := 1) rfl (fun hr1 => ?_)
  refine G_aload (i := 0) (n := 0) (len := 1) (Or.inl ⟨0, rfl, rfl, d_Mo_before_0⟩) rfl (by decide) (G_pc (pc' := 1) rfl ?_)
  refine G_get (o := 55) (c := 9) (k := 26) (v := 74) d_Mo_before_1 fl_Mo_66 rfl (by decide) (by decide) rfl rfl (G_pc (pc' := 4) rfl ?_)
  refine G_iload (i := 1) (n := 1) (len := 1) (Or.inl ⟨1, rfl, rfl, d_Mo_before_4⟩) rfl (G_pc (pc' := 5) rfl ?_)
  refine G_iaload (o := 74) (n := 25) (i := k) (v := M 74 k) d_Mo_before_5 rfl ⟨by decide, by decide⟩ (by omega) (rd_arr rfl) (fun t1 => G_pc (pc' := 6) rfl ?_)
  have t1 := tok_i t1
  rw [show M 74 k = tkA M0 k from RP_t hR (by omega)]
  refine G_istore (i := 2) (len := 1) (ls' := [(2, vi (tkA M0 k)), (0, vr 55), (1, vi k)]) (Or.inl ⟨2, rfl, rfl, d_Mo_before_6⟩) (by decide) rfl (G_pc (pc' := 7) rfl ?_)
  refine G_iload (i := 2) (n := 0) (len := 1) (Or.inl ⟨2, rfl, rfl, d_Mo_before_7⟩) rfl (G_pc (pc' := 8) rfl ?_)
  refine G_bipush (n := 27) d_Mo_before_8 (by decide) (G_pc (pc' := 10) rfl ?_)
  refine G_icmp_eq (tgt := 31) d_Mo_before_10 (by decide) (fun h2 => ?_) (fun h2 => G_pc (pc' := 13) rfl ?_)
  · skip
    refine G_aload (i := 0) (n := 1) (len := 1) (Or.inl ⟨0, rfl, rfl, d_Mo_before_31⟩) rfl (by decide) (G_pc (pc' := 32) rfl ?_)
    refine G_bipush (n := 100) d_Mo_before_32 (by decide) (G_pc (pc' := 34) rfl ?_)
    refine G_iload (i := 2) (n := 0) (len := 1) (Or.inl ⟨2, rfl, rfl, d_Mo_before_34⟩) rfl (G_pc (pc' := 35) rfl ?_)
    refine G_iadd d_Mo_before_35 (by omega) (G_pc (pc' := 36) rfl ?_)
    refine G_iconst (n := 0) d_Mo_before_36 (by decide) (G_pc (pc' := 37) rfl ?_)
    refine G_callV (K1 := KE) (d2 := 0) (o := 55) (cl := 9) (as := [vi (100 + (tkA M0 k)), vi 0]) (rest := []) d_Mo_before_37 mf_Mo_hold ml_Mo_257 rfl rfl (by decide) rfl rfl (Nat.le_of_ble_eq_true rfl) (by omega) ⟨Nat.le_refl _, Nat.le_refl _⟩ (g_Mo_hold (by omega) (100 + (tkA M0 k)) 0 _ (by omega)) (fun r3 M4 kq5 q5 => ?_)
    clear kq5; obtain ⟨q5a, q5b⟩ := q5; subst r3; subst M4
    refine G_ps (pc' := 40) (st' := []) rfl rfl ?_
    have hR6 : RP M0 (holdM M (100 + (tkA M0 k)) 0) N O ((100 + (tkA M0 k), 0) :: P) o a cl 0 := RP_hold hR
    have hR6N := RP_N hR6
    (try simp only [List.length_cons, List.length_append, List.length_nil] at hR6N)
    have hR6O := RP_O hR6
    (try simp only [List.length_cons, List.length_append, List.length_nil] at hR6O)
    have hR6P := RP_P hR6
    (try simp only [List.length_cons, List.length_append, List.length_nil] at hR6P)
    refine G_iload (i := 1) (n := 2) (len := 1) (Or.inl ⟨1, rfl, rfl, d_Mo_before_40⟩) rfl (G_pc (pc' := 41) rfl ?_)
    refine G_iconst (n := 1) d_Mo_before_41 (by decide) (G_pc (pc' := 42) rfl ?_)
    refine G_iadd d_Mo_before_42 (by omega) (G_pc (pc' := 43) rfl ?_)
    refine G_iret d_Mo_before_43 rfl (tokI (by omega)) rfl rfl ?_
    exact Or.inr ⟨_, _, _, _, _, _, _, by unfold beforeS; simp only []; first | (exfalso; omega) | rw [if_pos (by omega)] | rw [if_neg (by omega), if_neg (by omega), if_pos (by omega), if_neg (by omega)] | (rw [if_neg (by omega), if_neg (by omega), if_neg (by omega)]; unfold castS castK; simp only []; first | (rw [if_pos (by omega), if_neg (by omega)]; grind) | (rw [if_neg (by omega), if_neg (by omega)]; grind)), rfl, hR6⟩
  · skip
    refine G_iload (i := 2) (n := 0) (len := 1) (Or.inl ⟨2, rfl, rfl, d_Mo_before_13⟩) rfl (G_pc (pc' := 14) rfl ?_)
    refine G_bipush (n := 28) d_Mo_before_14 (by decide) (G_pc (pc' := 16) rfl ?_)
    refine G_icmp_eq (tgt := 31) d_Mo_before_16 (by decide) (fun h7 => ?_) (fun h7 => G_pc (pc' := 19) rfl ?_)
    · skip
      refine G_aload (i := 0) (n := 1) (len := 1) (Or.inl ⟨0, rfl, rfl, d_Mo_before_31⟩) rfl (by decide) (G_pc (pc' := 32) rfl ?_)
      refine G_bipush (n := 100) d_Mo_before_32 (by decide) (G_pc (pc' := 34) rfl ?_)
      refine G_iload (i := 2) (n := 0) (len := 1) (Or.inl ⟨2, rfl, rfl, d_Mo_before_34⟩) rfl (G_pc (pc' := 35) rfl ?_)
      refine G_iadd d_Mo_before_35 (by omega) (G_pc (pc' := 36) rfl ?_)
      refine G_iconst (n := 0) d_Mo_before_36 (by decide) (G_pc (pc' := 37) rfl ?_)
      refine G_callV (K1 := KE) (d2 := 0) (o := 55) (cl := 9) (as := [vi (100 + (tkA M0 k)), vi 0]) (rest := []) d_Mo_before_37 mf_Mo_hold ml_Mo_257 rfl rfl (by decide) rfl rfl (Nat.le_of_ble_eq_true rfl) (by omega) ⟨Nat.le_refl _, Nat.le_refl _⟩ (g_Mo_hold (by omega) (100 + (tkA M0 k)) 0 _ (by omega)) (fun r8 M9 kq10 q10 => ?_)
      clear kq10; obtain ⟨q10a, q10b⟩ := q10; subst r8; subst M9
      refine G_ps (pc' := 40) (st' := []) rfl rfl ?_
      have hR11 : RP M0 (holdM M (100 + (tkA M0 k)) 0) N O ((100 + (tkA M0 k), 0) :: P) o a cl 0 := RP_hold hR
      have hR11N := RP_N hR11
      (try simp only [List.length_cons, List.length_append, List.length_nil] at hR11N)
      have hR11O := RP_O hR11
      (try simp only [List.length_cons, List.length_append, List.length_nil] at hR11O)
      have hR11P := RP_P hR11
      (try simp only [List.length_cons, List.length_append, List.length_nil] at hR11P)
      refine G_iload (i := 1) (n := 2) (len := 1) (Or.inl ⟨1, rfl, rfl, d_Mo_before_40⟩) rfl (G_pc (pc' := 41) rfl ?_)
      refine G_iconst (n := 1) d_Mo_before_41 (by decide) (G_pc (pc' := 42) rfl ?_)
      refine G_iadd d_Mo_before_42 (by omega) (G_pc (pc' := 43) rfl ?_)
      refine G_iret d_Mo_before_43 rfl (tokI (by omega)) rfl rfl ?_
      exact Or.inr ⟨_, _, _, _, _, _, _, by unfold beforeS; simp only []; first | (exfalso; omega) | rw [if_pos (by omega)] | rw [if_neg (by omega), if_neg (by omega), if_pos (by omega), if_neg (by omega)] | (rw [if_neg (by omega), if_neg (by omega), if_neg (by omega)]; unfold castS castK; simp only []; first | (rw [if_pos (by omega), if_neg (by omega)]; grind) | (rw [if_neg (by omega), if_neg (by omega)]; grind)), rfl, hR11⟩
    · skip
      refine G_iload (i := 2) (n := 0) (len := 1) (Or.inl ⟨2, rfl, rfl, d_Mo_before_19⟩) rfl (G_pc (pc' := 20) rfl ?_)
      refine G_bipush (n := 32) d_Mo_before_20 (by decide) (G_pc (pc' := 22) rfl ?_)
      refine G_icmp_eq (tgt := 31) d_Mo_before_22 (by decide) (fun h12 => ?_) (fun h12 => G_pc (pc' := 25) rfl ?_)
      · skip
        refine G_aload (i := 0) (n := 1) (len := 1) (Or.inl ⟨0, rfl, rfl, d_Mo_before_31⟩) rfl (by decide) (G_pc (pc' := 32) rfl ?_)
        refine G_bipush (n := 100) d_Mo_before_32 (by decide) (G_pc (pc' := 34) rfl ?_)
        refine G_iload (i := 2) (n := 0) (len := 1) (Or.inl ⟨2, rfl, rfl, d_Mo_before_34⟩) rfl (G_pc (pc' := 35) rfl ?_)
        refine G_iadd d_Mo_before_35 (by omega) (G_pc (pc' := 36) rfl ?_)
        refine G_iconst (n := 0) d_Mo_before_36 (by decide) (G_pc (pc' := 37) rfl ?_)
        refine G_callV (K1 := KE) (d2 := 0) (o := 55) (cl := 9) (as := [vi (100 + (tkA M0 k)), vi 0]) (rest := []) d_Mo_before_37 mf_Mo_hold ml_Mo_257 rfl rfl (by decide) rfl rfl (Nat.le_of_ble_eq_true rfl) (by omega) ⟨Nat.le_refl _, Nat.le_refl _⟩ (g_Mo_hold (by omega) (100 + (tkA M0 k)) 0 _ (by omega)) (fun r13 M14 kq15 q15 => ?_)
        clear kq15; obtain ⟨q15a, q15b⟩ := q15; subst r13; subst M14
        refine G_ps (pc' := 40) (st' := []) rfl rfl ?_
        have hR16 : RP M0 (holdM M (100 + (tkA M0 k)) 0) N O ((100 + (tkA M0 k), 0) :: P) o a cl 0 := RP_hold hR
        have hR16N := RP_N hR16
        (try simp only [List.length_cons, List.length_append, List.length_nil] at hR16N)
        have hR16O := RP_O hR16
        (try simp only [List.length_cons, List.length_append, List.length_nil] at hR16O)
        have hR16P := RP_P hR16
        (try simp only [List.length_cons, List.length_append, List.length_nil] at hR16P)
        refine G_iload (i := 1) (n := 2) (len := 1) (Or.inl ⟨1, rfl, rfl, d_Mo_before_40⟩) rfl (G_pc (pc' := 41) rfl ?_)
        refine G_iconst (n := 1) d_Mo_before_41 (by decide) (G_pc (pc' := 42) rfl ?_)
        refine G_iadd d_Mo_before_42 (by omega) (G_pc (pc' := 43) rfl ?_)
        refine G_iret d_Mo_before_43 rfl (tokI (by omega)) rfl rfl ?_
        exact Or.inr ⟨_, _, _, _, _, _, _, by unfold beforeS; simp only []; first | (exfalso; omega) | rw [if_pos (by omega)] | rw [if_neg (by omega), if_neg (by omega), if_pos (by omega), if_neg (by omega)] | (rw [if_neg (by omega), if_neg (by omega), if_neg (by omega)]; unfold castS castK; simp only []; first | (rw [if_pos (by omega), if_neg (by omega)]; grind) | (rw [if_neg (by omega), if_neg (by omega)]; grind)), rfl, hR16⟩
      · skip
        refine G_iload (i := 2) (n := 0) (len := 1) (Or.inl ⟨2, rfl, rfl, d_Mo_before_25⟩) rfl (G_pc (pc' := 26) rfl ?_)
        refine G_bipush (n := 33) d_Mo_before_26 (by decide) (G_pc (pc' := 28) rfl ?_)
        refine G_icmp_ne (tgt := 44) d_Mo_before_28 (by decide) (fun h17 => ?_) (fun h17 => G_pc (pc' := 31) rfl ?_)
        · skip
          refine G_iload (i := 2) (n := 0) (len := 1) (Or.inl ⟨2, rfl, rfl, d_Mo_before_44⟩) rfl (G_pc (pc' := 45) rfl ?_)
          refine G_bipush (n := 20) d_Mo_before_45 (by decide) (G_pc (pc' := 47) rfl ?_)
          refine G_icmp_eq (tgt := 57) d_Mo_before_47 (by decide) (fun h18 => ?_) (fun h18 => G_pc (pc' := 50) rfl ?_)
          · skip
            refine G_aload (i := 0) (n := 1) (len := 1) (Or.inl ⟨0, rfl, rfl, d_Mo_before_57⟩) rfl (by decide) (G_pc (pc' := 58) rfl ?_)
            refine G_iload (i := 1) (n := 2) (len := 1) (Or.inl ⟨1, rfl, rfl, d_Mo_before_58⟩) rfl (G_pc (pc' := 59) rfl ?_)
            refine G_iconst (n := 1) d_Mo_before_59 (by decide) (G_pc (pc' := 60) rfl ?_)
            refine G_iadd d_Mo_before_60 (by omega) (G_pc (pc' := 61) rfl ?_)
            refine G_callV (K1 := KE) (d2 := 0) (o := 55) (cl := 9) (as := [vi (k + 1)]) (rest := []) d_Mo_before_61 mf_Mo_tokenAt ml_Mo_254 rfl rfl (by decide) rfl rfl (Nat.le_of_ble_eq_true rfl) (by omega) ⟨Nat.le_refl _, Nat.le_refl _⟩ (g_Mo_tokenAt (by omega) (k + 1) _ (by omega) (by rw [RP_n hR]; omega)) (fun r19 M20 kq21 q21 => ?_)
            clear kq21; obtain ⟨q21a, q21b⟩ := q21; subst r19; subst M20
            refine G_ps (pc' := 64) (st' := [vi (tkA M (k + 1))]) rfl rfl ?_
            rw [show tkA M (k + 1) = tkA M0 (k + 1) from RP_tk hR _]
            refine G_istore (i := 3) (len := 1) (ls' := [(3, vi (tkA M0 (k + 1))), (2, vi (tkA M0 k)), (0, vr 55), (1, vi k)]) (Or.inl ⟨3, rfl, rfl, d_Mo_before_64⟩) (by decide) rfl (G_pc (pc' := 65) rfl ?_)
            refine G_iload (i := 3) (n := 0) (len := 1) (Or.inl ⟨3, rfl, rfl, d_Mo_before_65⟩) rfl (G_pc (pc' := 66) rfl ?_)
            refine G_bipush (n := 8) d_Mo_before_66 (by decide) (G_pc (pc' := 68) rfl ?_)
            refine G_icmp_lt (tgt := 77) d_Mo_before_68 (by decide) (fun h22 => ?_) (fun h22 => G_pc (pc' := 71) rfl ?_)
            · skip
              refine G_aload (i := 0) (n := 2) (len := 1) (Or.inl ⟨0, rfl, rfl, d_Mo_before_77⟩) rfl (by decide) (G_pc (pc' := 78) rfl ?_)
              refine G_dup d_Mo_before_78 (fun _ h => by cases h) (G_pc (pc' := 79) rfl ?_)
              refine G_get (o := 55) (c := 9) (k := 42) (v := M 55 42) d_Mo_before_79 fl_Mo_233 rfl (by decide) (by decide) rfl rfl (G_pc (pc' := 82) rfl ?_)
              rw [show M 55 42 = o from (show M 55 42 = o from RP_OP hR)]
              refine G_iconst (n := 1) d_Mo_before_82 (by decide) (G_pc (pc' := 83) rfl ?_)
              refine G_iadd d_Mo_before_83 (by omega) (G_pc (pc' := 84) rfl ?_)
              refine G_putL (o := 55) (c := 9) (k := 42) (ki := 42) (x := o + 1) d_Mo_before_84 fl_Mo_233 rfl rfl (by decide) (by decide) (by decide) rfl rfl (tokI (by omega)) rfl (G_pc (pc' := 87) rfl ?_)
              have hR23 : RP M0 (mset M 55 42 (o + 1)) N O P (o + 1) a cl 0 := RP_o hR
              have hR23N := RP_N hR23
              (try simp only [List.length_cons, List.length_append, List.length_nil] at hR23N)
              have hR23O := RP_O hR23
              (try simp only [List.length_cons, List.length_append, List.length_nil] at hR23O)
              have hR23P := RP_P hR23
              (try simp only [List.length_cons, List.length_append, List.length_nil] at hR23P)
              refine G_aload (i := 0) (n := 2) (len := 1) (Or.inl ⟨0, rfl, rfl, d_Mo_before_87⟩) rfl (by decide) (G_pc (pc' := 88) rfl ?_)
              refine G_aload (i := 0) (n := 2) (len := 1) (Or.inl ⟨0, rfl, rfl, d_Mo_before_88⟩) rfl (by decide) (G_pc (pc' := 89) rfl ?_)
              refine G_get (o := 55) (c := 9) (k := 42) (v := o + 1) d_Mo_before_89 fl_Mo_233 rfl (by decide) (by decide) rfl rfl (G_pc (pc' := 92) rfl ?_)
              refine G_bipush (n := 6) d_Mo_before_92 (by decide) (G_pc (pc' := 94) rfl ?_)
              refine G_icmp_le (tgt := 101) d_Mo_before_94 (by decide) (fun h24 => ?_) (fun h24 => G_pc (pc' := 97) rfl ?_)
              · skip
                refine G_iconst (n := 0) d_Mo_before_101 (by decide) (G_pc (pc' := 102) rfl ?_)
                refine G_putL (o := 55) (c := 9) (k := 44) (ki := 44) (x := 0) d_Mo_before_102 fl_Mo_166 rfl rfl (by decide) (by decide) (by decide) rfl rfl (tokZ (by decide)) rfl (G_pc (pc' := 105) rfl ?_)
                have hR25 : RP M0 (mset (mset M 55 42 (o + 1)) 55 44 0) N O P (o + 1) a cl 0 := RP_w hR23
                have hR25N := RP_N hR25
                (try simp only [List.length_cons, List.length_append, List.length_nil] at hR25N)
                have hR25O := RP_O hR25
                (try simp only [List.length_cons, List.length_append, List.length_nil] at hR25O)
                have hR25P := RP_P hR25
                (try simp only [List.length_cons, List.length_append, List.length_nil] at hR25P)
                refine G_aload (i := 0) (n := 2) (len := 1) (Or.inl ⟨0, rfl, rfl, d_Mo_before_105⟩) rfl (by decide) (G_pc (pc' := 106) rfl ?_)
                refine G_bipush (n := 20) d_Mo_before_106 (by decide) (G_pc (pc' := 108) rfl ?_)
                refine G_iconst (n := 0) d_Mo_before_108 (by decide) (G_pc (pc' := 109) rfl ?_)
                refine G_callV (K1 := KE) (d2 := 0) (o := 55) (cl := 9) (as := [vi 20, vi 0]) (rest := []) d_Mo_before_109 mf_Mo_hold ml_Mo_257 rfl rfl (by decide) rfl rfl (Nat.le_of_ble_eq_true rfl) (by omega) ⟨Nat.le_refl _, Nat.le_refl _⟩ (g_Mo_hold (by omega) 20 0 _ (by omega)) (fun r26 M27 kq28 q28 => ?_)
                clear kq28; obtain ⟨q28a, q28b⟩ := q28; subst r26; subst M27
                refine G_ps (pc' := 112) (st' := []) rfl rfl ?_
                have hR29 : RP M0 (holdM (mset (mset M 55 42 (o + 1)) 55 44 0) 20 0) N O ((20, 0) :: P) (o + 1) a cl 0 := RP_hold hR25
                have hR29N := RP_N hR29
                (try simp only [List.length_cons, List.length_append, List.length_nil] at hR29N)
                have hR29O := RP_O hR29
                (try simp only [List.length_cons, List.length_append, List.length_nil] at hR29O)
                have hR29P := RP_P hR29
                (try simp only [List.length_cons, List.length_append, List.length_nil] at hR29P)
                refine G_iload (i := 1) (n := 3) (len := 1) (Or.inl ⟨1, rfl, rfl, d_Mo_before_112⟩) rfl (G_pc (pc' := 113) rfl ?_)
                refine G_iconst (n := 1) d_Mo_before_113 (by decide) (G_pc (pc' := 114) rfl ?_)
                refine G_iadd d_Mo_before_114 (by omega) (G_pc (pc' := 115) rfl ?_)
                refine G_iret d_Mo_before_115 rfl (tokI (by omega)) rfl rfl ?_
                exact Or.inr ⟨_, _, _, _, _, _, _, by unfold beforeS; simp only []; first | (exfalso; omega) | rw [if_pos (by omega)] | rw [if_neg (by omega), if_neg (by omega), if_pos (by omega), if_neg (by omega)] | (rw [if_neg (by omega), if_neg (by omega), if_neg (by omega)]; unfold castS castK; simp only []; first | (rw [if_pos (by omega), if_neg (by omega)]; grind) | (rw [if_neg (by omega), if_neg (by omega)]; grind)), rfl, hR29⟩
              · skip
                refine G_iconst (n := 1) d_Mo_before_97 (by decide) (G_pc (pc' := 98) rfl ?_)
                refine G_goto (tgt := 102) d_Mo_before_98 (by decide) ?_
                refine G_putL (o := 55) (c := 9) (k := 44) (ki := 44) (x := 1) d_Mo_before_102 fl_Mo_166 rfl rfl (by decide) (by decide) (by decide) rfl rfl (tokZ (by decide)) rfl (G_pc (pc' := 105) rfl ?_)
                have hR30 : RP M0 (mset (mset M 55 42 (o + 1)) 55 44 1) N O P (o + 1) a cl 1 := RP_w hR23
                have hR30N := RP_N hR30
                (try simp only [List.length_cons, List.length_append, List.length_nil] at hR30N)
                have hR30O := RP_O hR30
                (try simp only [List.length_cons, List.length_append, List.length_nil] at hR30O)
                have hR30P := RP_P hR30
                (try simp only [List.length_cons, List.length_append, List.length_nil] at hR30P)
                refine G_aload (i := 0) (n := 2) (len := 1) (Or.inl ⟨0, rfl, rfl, d_Mo_before_105⟩) rfl (by decide) (G_pc (pc' := 106) rfl ?_)
                refine G_bipush (n := 20) d_Mo_before_106 (by decide) (G_pc (pc' := 108) rfl ?_)
                refine G_iconst (n := 0) d_Mo_before_108 (by decide) (G_pc (pc' := 109) rfl ?_)
                refine G_callV (K1 := KE) (d2 := 0) (o := 55) (cl := 9) (as := [vi 20, vi 0]) (rest := []) d_Mo_before_109 mf_Mo_hold ml_Mo_257 rfl rfl (by decide) rfl rfl (Nat.le_of_ble_eq_true rfl) (by omega) ⟨Nat.le_refl _, Nat.le_refl _⟩ (g_Mo_hold (by omega) 20 0 _ (by omega)) (fun r31 M32 kq33 q33 => ?_)
                clear kq33; obtain ⟨q33a, q33b⟩ := q33; subst r31; subst M32
                refine G_ps (pc' := 112) (st' := []) rfl rfl ?_
                have hR34 : RP M0 (holdM (mset (mset M 55 42 (o + 1)) 55 44 1) 20 0) N O ((20, 0) :: P) (o + 1) a cl 1 := RP_hold hR30
                have hR34N := RP_N hR34
                (try simp only [List.length_cons, List.length_append, List.length_nil] at hR34N)
                have hR34O := RP_O hR34
                (try simp only [List.length_cons, List.length_append, List.length_nil] at hR34O)
                have hR34P := RP_P hR34
                (try simp only [List.length_cons, List.length_append, List.length_nil] at hR34P)
                refine G_iload (i := 1) (n := 3) (len := 1) (Or.inl ⟨1, rfl, rfl, d_Mo_before_112⟩) rfl (G_pc (pc' := 113) rfl ?_)
                refine G_iconst (n := 1) d_Mo_before_113 (by decide) (G_pc (pc' := 114) rfl ?_)
                refine G_iadd d_Mo_before_114 (by omega) (G_pc (pc' := 115) rfl ?_)
                refine G_iret d_Mo_before_115 rfl (tokI (by omega)) rfl rfl ?_
                exact Or.inl ⟨by unfold beforeS; simp only []; first | rw [if_neg (by omega), if_pos (by omega)] | rw [if_neg (by omega), if_neg (by omega), if_pos (by omega), if_pos (by omega)] | (rw [if_neg (by omega), if_neg (by omega), if_neg (by omega)]; unfold castS; simp only []; first | rw [if_pos (by omega), if_pos (by omega)] | rw [if_neg (by omega), if_pos (by omega)]), hR34.1, RP_W hR34, _, rfl⟩
            · skip
              refine G_iload (i := 3) (n := 0) (len := 1) (Or.inl ⟨3, rfl, rfl, d_Mo_before_71⟩) rfl (G_pc (pc' := 72) rfl ?_)
              refine G_bipush (n := 12) d_Mo_before_72 (by decide) (G_pc (pc' := 74) rfl ?_)
              refine G_icmp_le (tgt := 116) d_Mo_before_74 (by decide) (fun h35 => ?_) (fun h35 => G_pc (pc' := 77) rfl ?_)
              · skip
                refine G_aload (i := 0) (n := 2) (len := 1) (Or.inl ⟨0, rfl, rfl, d_Mo_before_116⟩) rfl (by decide) (G_pc (pc' := 117) rfl ?_)
                refine G_iload (i := 1) (n := 3) (len := 1) (Or.inl ⟨1, rfl, rfl, d_Mo_before_117⟩) rfl (G_pc (pc' := 118) rfl ?_)
                refine G_iconst (n := 2) d_Mo_before_118 (by decide) (G_pc (pc' := 119) rfl ?_)
                refine G_iadd d_Mo_before_119 (by omega) (G_pc (pc' := 120) rfl ?_)
                refine G_callV (K1 := KE) (d2 := 0) (o := 55) (cl := 9) (as := [vi (k + 2)]) (rest := []) d_Mo_before_120 mf_Mo_tokenAt ml_Mo_254 rfl rfl (by decide) rfl rfl (Nat.le_of_ble_eq_true rfl) (by omega) ⟨Nat.le_refl _, Nat.le_refl _⟩ (g_Mo_tokenAt (by omega) (k + 2) _ (by omega) (by rw [RP_n hR]; omega)) (fun r36 M37 kq38 q38 => ?_)
                clear kq38; obtain ⟨q38a, q38b⟩ := q38; subst r36; subst M37
                refine G_ps (pc' := 123) (st' := [vi (tkA M (k + 2))]) rfl rfl ?_
                rw [show tkA M (k + 2) = tkA M0 (k + 2) from RP_tk hR _]
                refine G_bipush (n := 22) d_Mo_before_123 (by decide) (G_pc (pc' := 125) rfl ?_)
                refine G_icmp_ne (tgt := 132) d_Mo_before_125 (by decide) (fun h39 => ?_) (fun h39 => G_pc (pc' := 128) rfl ?_)
                · skip
                  refine G_iconst (n := 0) d_Mo_before_132 (by decide) (G_pc (pc' := 133) rfl ?_)
                  refine G_istore (i := 4) (len := 2) (ls' := [(4, vi 0), (3, vi (tkA M0 (k + 1))), (2, vi (tkA M0 k)), (0, vr 55), (1, vi k)]) (Or.inr ⟨rfl, d_Mo_before_133⟩) (by decide) rfl (G_pc (pc' := 135) rfl ?_)
                  refine G_iload (i := 4) (n := 0) (len := 2) (Or.inr ⟨rfl, d_Mo_before_135⟩) rfl (G_pc (pc' := 137) rfl ?_)
                  refine G_if_eq (tgt := 146) d_Mo_before_137 (by decide) (fun h40 => ?_) (fun h40 => absurd h40 (by decide))
                  refine G_iload (i := 1) (n := 4) (len := 1) (Or.inl ⟨1, rfl, rfl, d_Mo_before_146⟩) rfl (G_pc (pc' := 147) rfl ?_)
                  refine G_iconst (n := 2) d_Mo_before_147 (by decide) (G_pc (pc' := 148) rfl ?_)
                  refine G_iadd d_Mo_before_148 (by omega) (G_pc (pc' := 149) rfl ?_)
                  refine G_istore (i := 5) (len := 2) (ls' := [(5, vi (k + 2)), (4, vi 0), (3, vi (tkA M0 (k + 1))), (2, vi (tkA M0 k)), (0, vr 55), (1, vi k)]) (Or.inr ⟨rfl, d_Mo_before_149⟩) (by decide) rfl (G_pc (pc' := 151) rfl ?_)
                  refine G_aload (i := 0) (n := 4) (len := 1) (Or.inl ⟨0, rfl, rfl, d_Mo_before_151⟩) rfl (by decide) (G_pc (pc' := 152) rfl ?_)
                  refine G_get (o := 55) (c := 9) (k := 27) (v := 75) d_Mo_before_152 fl_Mo_69 rfl (by decide) (by decide) rfl rfl (G_pc (pc' := 155) rfl ?_)
                  refine G_iload (i := 1) (n := 5) (len := 1) (Or.inl ⟨1, rfl, rfl, d_Mo_before_155⟩) rfl (G_pc (pc' := 156) rfl ?_)
                  refine G_iconst (n := 1) d_Mo_before_156 (by decide) (G_pc (pc' := 157) rfl ?_)
                  refine G_iadd d_Mo_before_157 (by omega) (G_pc (pc' := 158) rfl ?_)
                  refine G_laload (o := 75) (n := 25) (i := k + 1) (v := M 75 (k + 1)) d_Mo_before_158 rfl ⟨by decide, by decide⟩ (by omega) (rd_arr rfl) (fun t41 => G_pc (pc' := 159) rfl ?_)
                  have t41 := tok_l t41
                  rw [show M 75 (k + 1) = M0 75 (k + 1) from RP_v hR]
                  refine G_l2i d_Mo_before_159 (G_pc (pc' := 160) rfl ?_)
                  have hv9 := hV (k + 1) (by omega) (by omega)
                  rw [show w32 (M0 75 (k + 1)) = M0 75 (k + 1) from w32_id (by omega)]
                  refine G_istore (i := 6) (len := 2) (ls' := [(6, vi (M0 75 (k + 1))), (5, vi (k + 2)), (4, vi 0), (3, vi (tkA M0 (k + 1))), (2, vi (tkA M0 k)), (0, vr 55), (1, vi k)]) (Or.inr ⟨rfl, d_Mo_before_160⟩) (by decide) rfl (G_pc (pc' := 162) rfl ?_)
                  refine G_aload (i := 0) (n := 5) (len := 1) (Or.inl ⟨0, rfl, rfl, d_Mo_before_162⟩) rfl (by decide) (G_pc (pc' := 163) rfl ?_)
                  refine G_aload (i := 0) (n := 5) (len := 1) (Or.inl ⟨0, rfl, rfl, d_Mo_before_163⟩) rfl (by decide) (G_pc (pc' := 164) rfl ?_)
                  refine G_iload (i := 5) (n := 1) (len := 2) (Or.inr ⟨rfl, d_Mo_before_164⟩) rfl (G_pc (pc' := 166) rfl ?_)
                  refine G_callV (K1 := KE) (d2 := 0) (o := 55) (cl := 9) (as := [vi (k + 2)]) (rest := [vr 55]) d_Mo_before_166 mf_Mo_tokenAt ml_Mo_254 rfl rfl (by decide) rfl rfl (Nat.le_of_ble_eq_true rfl) (by omega) ⟨Nat.le_refl _, Nat.le_refl _⟩ (g_Mo_tokenAt (by omega) (k + 2) _ (by omega) (by rw [RP_n hR]; omega)) (fun r42 M43 kq44 q44 => ?_)
                  clear kq44; obtain ⟨q44a, q44b⟩ := q44; subst r42; subst M43
                  refine G_ps (pc' := 169) (st' := [vi (tkA M (k + 2)), vr 55]) rfl rfl ?_
                  rw [show tkA M (k + 2) = tkA M0 (k + 2) from RP_tk hR _]
                  refine G_bipush (n := 21) d_Mo_before_169 (by decide) (G_pc (pc' := 171) rfl ?_)
                  refine G_icmp_ne (tgt := 203) d_Mo_before_171 (by decide) (fun h45 => ?_) (fun h45 => G_pc (pc' := 174) rfl ?_)
                  · skip
                    refine G_iconst (n := 1) d_Mo_before_203 (by decide) (G_pc (pc' := 204) rfl ?_)
                    refine G_goto (tgt := 208) d_Mo_before_204 (by decide) ?_
                    refine G_putL (o := 55) (c := 9) (k := 44) (ki := 44) (x := 1) d_Mo_before_208 fl_Mo_166 rfl rfl (by decide) (by decide) (by decide) rfl rfl (tokZ (by decide)) rfl (G_pc (pc' := 211) rfl ?_)
                    have hR46 : RP M0 (mset M 55 44 1) N O P o a cl 1 := RP_w hR
                    have hR46N := RP_N hR46
                    (try simp only [List.length_cons, List.length_append, List.length_nil] at hR46N)
                    have hR46O := RP_O hR46
                    (try simp only [List.length_cons, List.length_append, List.length_nil] at hR46O)
                    have hR46P := RP_P hR46
                    (try simp only [List.length_cons, List.length_append, List.length_nil] at hR46P)
                    refine G_aload (i := 0) (n := 5) (len := 1) (Or.inl ⟨0, rfl, rfl, d_Mo_before_211⟩) rfl (by decide) (G_pc (pc' := 212) rfl ?_)
                    refine G_bipush (n := 64) d_Mo_before_212 (by decide) (G_pc (pc' := 214) rfl ?_)
                    refine G_iload (i := 4) (n := 2) (len := 2) (Or.inr ⟨rfl, d_Mo_before_214⟩) rfl (G_pc (pc' := 216) rfl ?_)
                    refine G_if_eq (tgt := 238) d_Mo_before_216 (by decide) (fun h47 => ?_) (fun h47 => absurd h47 (by decide))
                    refine G_iload (i := 3) (n := 3) (len := 1) (Or.inl ⟨3, rfl, rfl, d_Mo_before_238⟩) rfl (G_pc (pc' := 239) rfl ?_)
                    refine G_bipush (n := 8) d_Mo_before_239 (by decide) (G_pc (pc' := 241) rfl ?_)
                    refine G_icmp_ne (tgt := 251) d_Mo_before_241 (by decide) (fun h48 => ?_) (fun h48 => G_pc (pc' := 244) rfl ?_)
                    · skip
                      refine G_iload (i := 3) (n := 3) (len := 1) (Or.inl ⟨3, rfl, rfl, d_Mo_before_251⟩) rfl (G_pc (pc' := 252) rfl ?_)
                      refine G_bipush (n := 9) d_Mo_before_252 (by decide) (G_pc (pc' := 254) rfl ?_)
                      refine G_isub d_Mo_before_254 (by omega) (G_pc (pc' := 255) rfl ?_)
                      refine G_callV (K1 := KE) (d2 := 0) (o := 55) (cl := 9) (as := [vi 64, vi ((tkA M0 (k + 1)) - 9)]) (rest := []) d_Mo_before_255 mf_Mo_hold ml_Mo_257 rfl rfl (by decide) rfl rfl (Nat.le_of_ble_eq_true rfl) (by omega) ⟨Nat.le_refl _, Nat.le_refl _⟩ (g_Mo_hold (by omega) 64 ((tkA M0 (k + 1)) - 9) _ (by omega)) (fun r49 M50 kq51 q51 => ?_)
                      clear kq51; obtain ⟨q51a, q51b⟩ := q51; subst r49; subst M50
                      refine G_ps (pc' := 258) (st' := []) rfl rfl ?_
                      have hR52 : RP M0 (holdM (mset M 55 44 1) 64 ((tkA M0 (k + 1)) - 9)) N O ((64, (tkA M0 (k + 1)) - 9) :: P) o a cl 1 := RP_hold hR46
                      have hR52N := RP_N hR52
                      (try simp only [List.length_cons, List.length_append, List.length_nil] at hR52N)
                      have hR52O := RP_O hR52
                      (try simp only [List.length_cons, List.length_append, List.length_nil] at hR52O)
                      have hR52P := RP_P hR52
                      (try simp only [List.length_cons, List.length_append, List.length_nil] at hR52P)
                      refine G_iload (i := 5) (n := 1) (len := 2) (Or.inr ⟨rfl, d_Mo_before_258⟩) rfl (G_pc (pc' := 260) rfl ?_)
                      refine G_iconst (n := 1) d_Mo_before_260 (by decide) (G_pc (pc' := 261) rfl ?_)
                      refine G_iadd d_Mo_before_261 (by omega) (G_pc (pc' := 262) rfl ?_)
                      refine G_iret d_Mo_before_262 rfl (tokI (by omega)) rfl rfl ?_
                      exact Or.inl ⟨by unfold beforeS; simp only []; first | rw [if_neg (by omega), if_pos (by omega)] | rw [if_neg (by omega), if_neg (by omega), if_pos (by omega), if_pos (by omega)] | (rw [if_neg (by omega), if_neg (by omega), if_neg (by omega)]; unfold castS; simp only []; first | rw [if_pos (by omega), if_pos (by omega)] | rw [if_neg (by omega), if_pos (by omega)]), hR52.1, RP_W hR52, _, rfl⟩
                    · skip
                      refine G_iconst (n := 4) d_Mo_before_244 (by decide) (G_pc (pc' := 245) rfl ?_)
                      refine G_iload (i := 6) (n := 0) (len := 2) (Or.inr ⟨rfl, d_Mo_before_245⟩) rfl (G_pc (pc' := 247) rfl ?_)
                      refine G_iadd d_Mo_before_247 (by omega) (G_pc (pc' := 248) rfl ?_)
                      refine G_goto (tgt := 255) d_Mo_before_248 (by decide) ?_
                      refine G_callV (K1 := KE) (d2 := 0) (o := 55) (cl := 9) (as := [vi 64, vi (4 + (M0 75 (k + 1)))]) (rest := []) d_Mo_before_255 mf_Mo_hold ml_Mo_257 rfl rfl (by decide) rfl rfl (Nat.le_of_ble_eq_true rfl) (by omega) ⟨Nat.le_refl _, Nat.le_refl _⟩ (g_Mo_hold (by omega) 64 (4 + (M0 75 (k + 1))) _ (by omega)) (fun r53 M54 kq55 q55 => ?_)
                      clear kq55; obtain ⟨q55a, q55b⟩ := q55; subst r53; subst M54
                      refine G_ps (pc' := 258) (st' := []) rfl rfl ?_
                      have hR56 : RP M0 (holdM (mset M 55 44 1) 64 (4 + (M0 75 (k + 1)))) N O ((64, 4 + (M0 75 (k + 1))) :: P) o a cl 1 := RP_hold hR46
                      have hR56N := RP_N hR56
                      (try simp only [List.length_cons, List.length_append, List.length_nil] at hR56N)
                      have hR56O := RP_O hR56
                      (try simp only [List.length_cons, List.length_append, List.length_nil] at hR56O)
                      have hR56P := RP_P hR56
                      (try simp only [List.length_cons, List.length_append, List.length_nil] at hR56P)
                      refine G_iload (i := 5) (n := 1) (len := 2) (Or.inr ⟨rfl, d_Mo_before_258⟩) rfl (G_pc (pc' := 260) rfl ?_)
                      refine G_iconst (n := 1) d_Mo_before_260 (by decide) (G_pc (pc' := 261) rfl ?_)
                      refine G_iadd d_Mo_before_261 (by omega) (G_pc (pc' := 262) rfl ?_)
                      refine G_iret d_Mo_before_262 rfl (tokI (by omega)) rfl rfl ?_
                      exact Or.inl ⟨by unfold beforeS; simp only []; first | rw [if_neg (by omega), if_pos (by omega)] | rw [if_neg (by omega), if_neg (by omega), if_pos (by omega), if_pos (by omega)] | (rw [if_neg (by omega), if_neg (by omega), if_neg (by omega)]; unfold castS; simp only []; first | rw [if_pos (by omega), if_pos (by omega)] | rw [if_neg (by omega), if_pos (by omega)]), hR56.1, RP_W hR56, _, rfl⟩
                  · skip
                    refine G_iload (i := 4) (n := 2) (len := 2) (Or.inr ⟨rfl, d_Mo_before_174⟩) rfl (G_pc (pc' := 176) rfl ?_)
                    refine G_if_eq (tgt := 207) d_Mo_before_176 (by decide) (fun h57 => ?_) (fun h57 => absurd h57 (by decide))
                    refine G_iconst (n := 0) d_Mo_before_207 (by decide) (G_pc (pc' := 208) rfl ?_)
                    refine G_putL (o := 55) (c := 9) (k := 44) (ki := 44) (x := 0) d_Mo_before_208 fl_Mo_166 rfl rfl (by decide) (by decide) (by decide) rfl rfl (tokZ (by decide)) rfl (G_pc (pc' := 211) rfl ?_)
                    have hR58 : RP M0 (mset M 55 44 0) N O P o a cl 0 := RP_w hR
                    have hR58N := RP_N hR58
                    (try simp only [List.length_cons, List.length_append, List.length_nil] at hR58N)
                    have hR58O := RP_O hR58
                    (try simp only [List.length_cons, List.length_append, List.length_nil] at hR58O)
                    have hR58P := RP_P hR58
                    (try simp only [List.length_cons, List.length_append, List.length_nil] at hR58P)
                    refine G_aload (i := 0) (n := 5) (len := 1) (Or.inl ⟨0, rfl, rfl, d_Mo_before_211⟩) rfl (by decide) (G_pc (pc' := 212) rfl ?_)
                    refine G_bipush (n := 64) d_Mo_before_212 (by decide) (G_pc (pc' := 214) rfl ?_)
                    refine G_iload (i := 4) (n := 2) (len := 2) (Or.inr ⟨rfl, d_Mo_before_214⟩) rfl (G_pc (pc' := 216) rfl ?_)
                    refine G_if_eq (tgt := 238) d_Mo_before_216 (by decide) (fun h59 => ?_) (fun h59 => absurd h59 (by decide))
                    refine G_iload (i := 3) (n := 3) (len := 1) (Or.inl ⟨3, rfl, rfl, d_Mo_before_238⟩) rfl (G_pc (pc' := 239) rfl ?_)
                    refine G_bipush (n := 8) d_Mo_before_239 (by decide) (G_pc (pc' := 241) rfl ?_)
                    refine G_icmp_ne (tgt := 251) d_Mo_before_241 (by decide) (fun h60 => ?_) (fun h60 => G_pc (pc' := 244) rfl ?_)
                    · skip
                      refine G_iload (i := 3) (n := 3) (len := 1) (Or.inl ⟨3, rfl, rfl, d_Mo_before_251⟩) rfl (G_pc (pc' := 252) rfl ?_)
                      refine G_bipush (n := 9) d_Mo_before_252 (by decide) (G_pc (pc' := 254) rfl ?_)
                      refine G_isub d_Mo_before_254 (by omega) (G_pc (pc' := 255) rfl ?_)
                      refine G_callV (K1 := KE) (d2 := 0) (o := 55) (cl := 9) (as := [vi 64, vi ((tkA M0 (k + 1)) - 9)]) (rest := []) d_Mo_before_255 mf_Mo_hold ml_Mo_257 rfl rfl (by decide) rfl rfl (Nat.le_of_ble_eq_true rfl) (by omega) ⟨Nat.le_refl _, Nat.le_refl _⟩ (g_Mo_hold (by omega) 64 ((tkA M0 (k + 1)) - 9) _ (by omega)) (fun r61 M62 kq63 q63 => ?_)
                      clear kq63; obtain ⟨q63a, q63b⟩ := q63; subst r61; subst M62
                      refine G_ps (pc' := 258) (st' := []) rfl rfl ?_
                      have hR64 : RP M0 (holdM (mset M 55 44 0) 64 ((tkA M0 (k + 1)) - 9)) N O ((64, (tkA M0 (k + 1)) - 9) :: P) o a cl 0 := RP_hold hR58
                      have hR64N := RP_N hR64
                      (try simp only [List.length_cons, List.length_append, List.length_nil] at hR64N)
                      have hR64O := RP_O hR64
                      (try simp only [List.length_cons, List.length_append, List.length_nil] at hR64O)
                      have hR64P := RP_P hR64
                      (try simp only [List.length_cons, List.length_append, List.length_nil] at hR64P)
                      refine G_iload (i := 5) (n := 1) (len := 2) (Or.inr ⟨rfl, d_Mo_before_258⟩) rfl (G_pc (pc' := 260) rfl ?_)
                      refine G_iconst (n := 1) d_Mo_before_260 (by decide) (G_pc (pc' := 261) rfl ?_)
                      refine G_iadd d_Mo_before_261 (by omega) (G_pc (pc' := 262) rfl ?_)
                      refine G_iret d_Mo_before_262 rfl (tokI (by omega)) rfl rfl ?_
                      exact Or.inr ⟨_, _, _, _, _, _, _, by unfold beforeS; simp only []; first | (exfalso; omega) | rw [if_pos (by omega)] | rw [if_neg (by omega), if_neg (by omega), if_pos (by omega), if_neg (by omega)] | (rw [if_neg (by omega), if_neg (by omega), if_neg (by omega)]; unfold castS castK; simp only []; first | (rw [if_pos (by omega), if_neg (by omega)]; grind) | (rw [if_neg (by omega), if_neg (by omega)]; grind)), rfl, hR64⟩
                    · skip
                      refine G_iconst (n := 4) d_Mo_before_244 (by decide) (G_pc (pc' := 245) rfl ?_)
                      refine G_iload (i := 6) (n := 0) (len := 2) (Or.inr ⟨rfl, d_Mo_before_245⟩) rfl (G_pc (pc' := 247) rfl ?_)
                      refine G_iadd d_Mo_before_247 (by omega) (G_pc (pc' := 248) rfl ?_)
                      refine G_goto (tgt := 255) d_Mo_before_248 (by decide) ?_
                      refine G_callV (K1 := KE) (d2 := 0) (o := 55) (cl := 9) (as := [vi 64, vi (4 + (M0 75 (k + 1)))]) (rest := []) d_Mo_before_255 mf_Mo_hold ml_Mo_257 rfl rfl (by decide) rfl rfl (Nat.le_of_ble_eq_true rfl) (by omega) ⟨Nat.le_refl _, Nat.le_refl _⟩ (g_Mo_hold (by omega) 64 (4 + (M0 75 (k + 1))) _ (by omega)) (fun r65 M66 kq67 q67 => ?_)
                      clear kq67; obtain ⟨q67a, q67b⟩ := q67; subst r65; subst M66
                      refine G_ps (pc' := 258) (st' := []) rfl rfl ?_
                      have hR68 : RP M0 (holdM (mset M 55 44 0) 64 (4 + (M0 75 (k + 1)))) N O ((64, 4 + (M0 75 (k + 1))) :: P) o a cl 0 := RP_hold hR58
                      have hR68N := RP_N hR68
                      (try simp only [List.length_cons, List.length_append, List.length_nil] at hR68N)
                      have hR68O := RP_O hR68
                      (try simp only [List.length_cons, List.length_append, List.length_nil] at hR68O)
                      have hR68P := RP_P hR68
                      (try simp only [List.length_cons, List.length_append, List.length_nil] at hR68P)
                      refine G_iload (i := 5) (n := 1) (len := 2) (Or.inr ⟨rfl, d_Mo_before_258⟩) rfl (G_pc (pc' := 260) rfl ?_)
                      refine G_iconst (n := 1) d_Mo_before_260 (by decide) (G_pc (pc' := 261) rfl ?_)
                      refine G_iadd d_Mo_before_261 (by omega) (G_pc (pc' := 262) rfl ?_)
                      refine G_iret d_Mo_before_262 rfl (tokI (by omega)) rfl rfl ?_
                      exact Or.inr ⟨_, _, _, _, _, _, _, by unfold beforeS; simp only []; first | (exfalso; omega) | rw [if_pos (by omega)] | rw [if_neg (by omega), if_neg (by omega), if_pos (by omega), if_neg (by omega)] | (rw [if_neg (by omega), if_neg (by omega), if_neg (by omega)]; unfold castS castK; simp only []; first | (rw [if_pos (by omega), if_neg (by omega)]; grind) | (rw [if_neg (by omega), if_neg (by omega)]; grind)), rfl, hR68⟩
                · skip
                  refine G_iconst (n := 1) d_Mo_before_128 (by decide) (G_pc (pc' := 129) rfl ?_)
                  refine G_goto (tgt := 133) d_Mo_before_129 (by decide) ?_
                  refine G_istore (i := 4) (len := 2) (ls' := [(4, vi 1), (3, vi (tkA M0 (k + 1))), (2, vi (tkA M0 k)), (0, vr 55), (1, vi k)]) (Or.inr ⟨rfl, d_Mo_before_133⟩) (by decide) rfl (G_pc (pc' := 135) rfl ?_)
                  refine G_iload (i := 4) (n := 0) (len := 2) (Or.inr ⟨rfl, d_Mo_before_135⟩) rfl (G_pc (pc' := 137) rfl ?_)
                  refine G_if_eq (tgt := 146) d_Mo_before_137 (by decide) (fun h69 => absurd h69 (by decide)) (fun h69 => G_pc (pc' := 140) rfl ?_)
                  refine G_iload (i := 1) (n := 4) (len := 1) (Or.inl ⟨1, rfl, rfl, d_Mo_before_140⟩) rfl (G_pc (pc' := 141) rfl ?_)
                  refine G_iconst (n := 4) d_Mo_before_141 (by decide) (G_pc (pc' := 142) rfl ?_)
                  refine G_iadd d_Mo_before_142 (by omega) (G_pc (pc' := 143) rfl ?_)
                  refine G_goto (tgt := 149) d_Mo_before_143 (by decide) ?_
                  refine G_istore (i := 5) (len := 2) (ls' := [(5, vi (k + 4)), (4, vi 1), (3, vi (tkA M0 (k + 1))), (2, vi (tkA M0 k)), (0, vr 55), (1, vi k)]) (Or.inr ⟨rfl, d_Mo_before_149⟩) (by decide) rfl (G_pc (pc' := 151) rfl ?_)
                  refine G_aload (i := 0) (n := 4) (len := 1) (Or.inl ⟨0, rfl, rfl, d_Mo_before_151⟩) rfl (by decide) (G_pc (pc' := 152) rfl ?_)
                  refine G_get (o := 55) (c := 9) (k := 27) (v := 75) d_Mo_before_152 fl_Mo_69 rfl (by decide) (by decide) rfl rfl (G_pc (pc' := 155) rfl ?_)
                  refine G_iload (i := 1) (n := 5) (len := 1) (Or.inl ⟨1, rfl, rfl, d_Mo_before_155⟩) rfl (G_pc (pc' := 156) rfl ?_)
                  refine G_iconst (n := 1) d_Mo_before_156 (by decide) (G_pc (pc' := 157) rfl ?_)
                  refine G_iadd d_Mo_before_157 (by omega) (G_pc (pc' := 158) rfl ?_)
                  refine G_laload (o := 75) (n := 25) (i := k + 1) (v := M 75 (k + 1)) d_Mo_before_158 rfl ⟨by decide, by decide⟩ (by omega) (rd_arr rfl) (fun t70 => G_pc (pc' := 159) rfl ?_)
                  have t70 := tok_l t70
                  rw [show M 75 (k + 1) = M0 75 (k + 1) from RP_v hR]
                  refine G_l2i d_Mo_before_159 (G_pc (pc' := 160) rfl ?_)
                  have hv9 := hV (k + 1) (by omega) (by omega)
                  rw [show w32 (M0 75 (k + 1)) = M0 75 (k + 1) from w32_id (by omega)]
                  refine G_istore (i := 6) (len := 2) (ls' := [(6, vi (M0 75 (k + 1))), (5, vi (k + 4)), (4, vi 1), (3, vi (tkA M0 (k + 1))), (2, vi (tkA M0 k)), (0, vr 55), (1, vi k)]) (Or.inr ⟨rfl, d_Mo_before_160⟩) (by decide) rfl (G_pc (pc' := 162) rfl ?_)
                  refine G_aload (i := 0) (n := 5) (len := 1) (Or.inl ⟨0, rfl, rfl, d_Mo_before_162⟩) rfl (by decide) (G_pc (pc' := 163) rfl ?_)
                  refine G_aload (i := 0) (n := 5) (len := 1) (Or.inl ⟨0, rfl, rfl, d_Mo_before_163⟩) rfl (by decide) (G_pc (pc' := 164) rfl ?_)
                  refine G_iload (i := 5) (n := 1) (len := 2) (Or.inr ⟨rfl, d_Mo_before_164⟩) rfl (G_pc (pc' := 166) rfl ?_)
                  refine G_callV (K1 := KE) (d2 := 0) (o := 55) (cl := 9) (as := [vi (k + 4)]) (rest := [vr 55]) d_Mo_before_166 mf_Mo_tokenAt ml_Mo_254 rfl rfl (by decide) rfl rfl (Nat.le_of_ble_eq_true rfl) (by omega) ⟨Nat.le_refl _, Nat.le_refl _⟩ (g_Mo_tokenAt (by omega) (k + 4) _ (by omega) (by rw [RP_n hR]; omega)) (fun r71 M72 kq73 q73 => ?_)
                  clear kq73; obtain ⟨q73a, q73b⟩ := q73; subst r71; subst M72
                  refine G_ps (pc' := 169) (st' := [vi (tkA M (k + 4)), vr 55]) rfl rfl ?_
                  rw [show tkA M (k + 4) = tkA M0 (k + 4) from RP_tk hR _]
                  refine G_bipush (n := 21) d_Mo_before_169 (by decide) (G_pc (pc' := 171) rfl ?_)
                  refine G_icmp_ne (tgt := 203) d_Mo_before_171 (by decide) (fun h74 => ?_) (fun h74 => G_pc (pc' := 174) rfl ?_)
                  · skip
                    refine G_iconst (n := 1) d_Mo_before_203 (by decide) (G_pc (pc' := 204) rfl ?_)
                    refine G_goto (tgt := 208) d_Mo_before_204 (by decide) ?_
                    refine G_putL (o := 55) (c := 9) (k := 44) (ki := 44) (x := 1) d_Mo_before_208 fl_Mo_166 rfl rfl (by decide) (by decide) (by decide) rfl rfl (tokZ (by decide)) rfl (G_pc (pc' := 211) rfl ?_)
                    have hR75 : RP M0 (mset M 55 44 1) N O P o a cl 1 := RP_w hR
                    have hR75N := RP_N hR75
                    (try simp only [List.length_cons, List.length_append, List.length_nil] at hR75N)
                    have hR75O := RP_O hR75
                    (try simp only [List.length_cons, List.length_append, List.length_nil] at hR75O)
                    have hR75P := RP_P hR75
                    (try simp only [List.length_cons, List.length_append, List.length_nil] at hR75P)
                    refine G_aload (i := 0) (n := 5) (len := 1) (Or.inl ⟨0, rfl, rfl, d_Mo_before_211⟩) rfl (by decide) (G_pc (pc' := 212) rfl ?_)
                    refine G_bipush (n := 64) d_Mo_before_212 (by decide) (G_pc (pc' := 214) rfl ?_)
                    refine G_iload (i := 4) (n := 2) (len := 2) (Or.inr ⟨rfl, d_Mo_before_214⟩) rfl (G_pc (pc' := 216) rfl ?_)
                    refine G_if_eq (tgt := 238) d_Mo_before_216 (by decide) (fun h76 => absurd h76 (by decide)) (fun h76 => G_pc (pc' := 219) rfl ?_)
                    refine G_iload (i := 3) (n := 3) (len := 1) (Or.inl ⟨3, rfl, rfl, d_Mo_before_219⟩) rfl (G_pc (pc' := 220) rfl ?_)
                    refine G_bipush (n := 9) d_Mo_before_220 (by decide) (G_pc (pc' := 222) rfl ?_)
                    refine G_icmp_ne (tgt := 230) d_Mo_before_222 (by decide) (fun h77 => ?_) (fun h77 => G_pc (pc' := 225) rfl ?_)
                    · skip
                      refine G_bipush (n := 11) d_Mo_before_230 (by decide) (G_pc (pc' := 232) rfl ?_)
                      refine G_iload (i := 6) (n := 0) (len := 2) (Or.inr ⟨rfl, d_Mo_before_232⟩) rfl (G_pc (pc' := 234) rfl ?_)
                      refine G_iadd d_Mo_before_234 (by omega) (G_pc (pc' := 235) rfl ?_)
                      refine G_goto (tgt := 255) d_Mo_before_235 (by decide) ?_
                      refine G_callV (K1 := KE) (d2 := 0) (o := 55) (cl := 9) (as := [vi 64, vi (11 + (M0 75 (k + 1)))]) (rest := []) d_Mo_before_255 mf_Mo_hold ml_Mo_257 rfl rfl (by decide) rfl rfl (Nat.le_of_ble_eq_true rfl) (by omega) ⟨Nat.le_refl _, Nat.le_refl _⟩ (g_Mo_hold (by omega) 64 (11 + (M0 75 (k + 1))) _ (by omega)) (fun r78 M79 kq80 q80 => ?_)
                      clear kq80; obtain ⟨q80a, q80b⟩ := q80; subst r78; subst M79
                      refine G_ps (pc' := 258) (st' := []) rfl rfl ?_
                      have hR81 : RP M0 (holdM (mset M 55 44 1) 64 (11 + (M0 75 (k + 1)))) N O ((64, 11 + (M0 75 (k + 1))) :: P) o a cl 1 := RP_hold hR75
                      have hR81N := RP_N hR81
                      (try simp only [List.length_cons, List.length_append, List.length_nil] at hR81N)
                      have hR81O := RP_O hR81
                      (try simp only [List.length_cons, List.length_append, List.length_nil] at hR81O)
                      have hR81P := RP_P hR81
                      (try simp only [List.length_cons, List.length_append, List.length_nil] at hR81P)
                      refine G_iload (i := 5) (n := 1) (len := 2) (Or.inr ⟨rfl, d_Mo_before_258⟩) rfl (G_pc (pc' := 260) rfl ?_)
                      refine G_iconst (n := 1) d_Mo_before_260 (by decide) (G_pc (pc' := 261) rfl ?_)
                      refine G_iadd d_Mo_before_261 (by omega) (G_pc (pc' := 262) rfl ?_)
                      refine G_iret d_Mo_before_262 rfl (tokI (by omega)) rfl rfl ?_
                      exact Or.inl ⟨by unfold beforeS; simp only []; first | rw [if_neg (by omega), if_pos (by omega)] | rw [if_neg (by omega), if_neg (by omega), if_pos (by omega), if_pos (by omega)] | (rw [if_neg (by omega), if_neg (by omega), if_neg (by omega)]; unfold castS; simp only []; first | rw [if_pos (by omega), if_pos (by omega)] | rw [if_neg (by omega), if_pos (by omega)]), hR81.1, RP_W hR81, _, rfl⟩
                    · skip
                      refine G_bipush (n := 10) d_Mo_before_225 (by decide) (G_pc (pc' := 227) rfl ?_)
                      refine G_goto (tgt := 255) d_Mo_before_227 (by decide) ?_
                      refine G_callV (K1 := KE) (d2 := 0) (o := 55) (cl := 9) (as := [vi 64, vi 10]) (rest := []) d_Mo_before_255 mf_Mo_hold ml_Mo_257 rfl rfl (by decide) rfl rfl (Nat.le_of_ble_eq_true rfl) (by omega) ⟨Nat.le_refl _, Nat.le_refl _⟩ (g_Mo_hold (by omega) 64 10 _ (by omega)) (fun r82 M83 kq84 q84 => ?_)
                      clear kq84; obtain ⟨q84a, q84b⟩ := q84; subst r82; subst M83
                      refine G_ps (pc' := 258) (st' := []) rfl rfl ?_
                      have hR85 : RP M0 (holdM (mset M 55 44 1) 64 10) N O ((64, 10) :: P) o a cl 1 := RP_hold hR75
                      have hR85N := RP_N hR85
                      (try simp only [List.length_cons, List.length_append, List.length_nil] at hR85N)
                      have hR85O := RP_O hR85
                      (try simp only [List.length_cons, List.length_append, List.length_nil] at hR85O)
                      have hR85P := RP_P hR85
                      (try simp only [List.length_cons, List.length_append, List.length_nil] at hR85P)
                      refine G_iload (i := 5) (n := 1) (len := 2) (Or.inr ⟨rfl, d_Mo_before_258⟩) rfl (G_pc (pc' := 260) rfl ?_)
                      refine G_iconst (n := 1) d_Mo_before_260 (by decide) (G_pc (pc' := 261) rfl ?_)
                      refine G_iadd d_Mo_before_261 (by omega) (G_pc (pc' := 262) rfl ?_)
                      refine G_iret d_Mo_before_262 rfl (tokI (by omega)) rfl rfl ?_
                      exact Or.inl ⟨by unfold beforeS; simp only []; first | rw [if_neg (by omega), if_pos (by omega)] | rw [if_neg (by omega), if_neg (by omega), if_pos (by omega), if_pos (by omega)] | (rw [if_neg (by omega), if_neg (by omega), if_neg (by omega)]; unfold castS; simp only []; first | rw [if_pos (by omega), if_pos (by omega)] | rw [if_neg (by omega), if_pos (by omega)]), hR85.1, RP_W hR85, _, rfl⟩
                  · skip
                    refine G_iload (i := 4) (n := 2) (len := 2) (Or.inr ⟨rfl, d_Mo_before_174⟩) rfl (G_pc (pc' := 176) rfl ?_)
                    refine G_if_eq (tgt := 207) d_Mo_before_176 (by decide) (fun h86 => absurd h86 (by decide)) (fun h86 => G_pc (pc' := 179) rfl ?_)
                    refine G_aload (i := 0) (n := 5) (len := 1) (Or.inl ⟨0, rfl, rfl, d_Mo_before_179⟩) rfl (by decide) (G_pc (pc' := 180) rfl ?_)
                    refine G_iload (i := 1) (n := 6) (len := 1) (Or.inl ⟨1, rfl, rfl, d_Mo_before_180⟩) rfl (G_pc (pc' := 181) rfl ?_)
                    refine G_iconst (n := 3) d_Mo_before_181 (by decide) (G_pc (pc' := 182) rfl ?_)
                    refine G_iadd d_Mo_before_182 (by omega) (G_pc (pc' := 183) rfl ?_)
                    refine G_callV (K1 := KE) (d2 := 0) (o := 55) (cl := 9) (as := [vi (k + 3)]) (rest := [vr 55]) d_Mo_before_183 mf_Mo_tokenAt ml_Mo_254 rfl rfl (by decide) rfl rfl (Nat.le_of_ble_eq_true rfl) (by omega) ⟨Nat.le_refl _, Nat.le_refl _⟩ (g_Mo_tokenAt (by omega) (k + 3) _ (by omega) (by rw [RP_n hR]; omega)) (fun r87 M88 kq89 q89 => ?_)
                    clear kq89; obtain ⟨q89a, q89b⟩ := q89; subst r87; subst M88
                    refine G_ps (pc' := 186) (st' := [vi (tkA M (k + 3)), vr 55]) rfl rfl ?_
                    rw [show tkA M (k + 3) = tkA M0 (k + 3) from RP_tk hR _]
                    refine G_bipush (n := 23) d_Mo_before_186 (by decide) (G_pc (pc' := 188) rfl ?_)
                    refine G_icmp_ne (tgt := 203) d_Mo_before_188 (by decide) (fun h90 => ?_) (fun h90 => G_pc (pc' := 191) rfl ?_)
                    · skip
                      refine G_iconst (n := 1) d_Mo_before_203 (by decide) (G_pc (pc' := 204) rfl ?_)
                      refine G_goto (tgt := 208) d_Mo_before_204 (by decide) ?_
                      refine G_putL (o := 55) (c := 9) (k := 44) (ki := 44) (x := 1) d_Mo_before_208 fl_Mo_166 rfl rfl (by decide) (by decide) (by decide) rfl rfl (tokZ (by decide)) rfl (G_pc (pc' := 211) rfl ?_)
                      have hR91 : RP M0 (mset M 55 44 1) N O P o a cl 1 := RP_w hR
                      have hR91N := RP_N hR91
                      (try simp only [List.length_cons, List.length_append, List.length_nil] at hR91N)
                      have hR91O := RP_O hR91
                      (try simp only [List.length_cons, List.length_append, List.length_nil] at hR91O)
                      have hR91P := RP_P hR91
                      (try simp only [List.length_cons, List.length_append, List.length_nil] at hR91P)
                      refine G_aload (i := 0) (n := 5) (len := 1) (Or.inl ⟨0, rfl, rfl, d_Mo_before_211⟩) rfl (by decide) (G_pc (pc' := 212) rfl ?_)
                      refine G_bipush (n := 64) d_Mo_before_212 (by decide) (G_pc (pc' := 214) rfl ?_)
                      refine G_iload (i := 4) (n := 2) (len := 2) (Or.inr ⟨rfl, d_Mo_before_214⟩) rfl (G_pc (pc' := 216) rfl ?_)
                      refine G_if_eq (tgt := 238) d_Mo_before_216 (by decide) (fun h92 => absurd h92 (by decide)) (fun h92 => G_pc (pc' := 219) rfl ?_)
                      refine G_iload (i := 3) (n := 3) (len := 1) (Or.inl ⟨3, rfl, rfl, d_Mo_before_219⟩) rfl (G_pc (pc' := 220) rfl ?_)
                      refine G_bipush (n := 9) d_Mo_before_220 (by decide) (G_pc (pc' := 222) rfl ?_)
                      refine G_icmp_ne (tgt := 230) d_Mo_before_222 (by decide) (fun h93 => ?_) (fun h93 => G_pc (pc' := 225) rfl ?_)
                      · skip
                        refine G_bipush (n := 11) d_Mo_before_230 (by decide) (G_pc (pc' := 232) rfl ?_)
                        refine G_iload (i := 6) (n := 0) (len := 2) (Or.inr ⟨rfl, d_Mo_before_232⟩) rfl (G_pc (pc' := 234) rfl ?_)
                        refine G_iadd d_Mo_before_234 (by omega) (G_pc (pc' := 235) rfl ?_)
                        refine G_goto (tgt := 255) d_Mo_before_235 (by decide) ?_
                        refine G_callV (K1 := KE) (d2 := 0) (o := 55) (cl := 9) (as := [vi 64, vi (11 + (M0 75 (k + 1)))]) (rest := []) d_Mo_before_255 mf_Mo_hold ml_Mo_257 rfl rfl (by decide) rfl rfl (Nat.le_of_ble_eq_true rfl) (by omega) ⟨Nat.le_refl _, Nat.le_refl _⟩ (g_Mo_hold (by omega) 64 (11 + (M0 75 (k + 1))) _ (by omega)) (fun r94 M95 kq96 q96 => ?_)
                        clear kq96; obtain ⟨q96a, q96b⟩ := q96; subst r94; subst M95
                        refine G_ps (pc' := 258) (st' := []) rfl rfl ?_
                        have hR97 : RP M0 (holdM (mset M 55 44 1) 64 (11 + (M0 75 (k + 1)))) N O ((64, 11 + (M0 75 (k + 1))) :: P) o a cl 1 := RP_hold hR91
                        have hR97N := RP_N hR97
                        (try simp only [List.length_cons, List.length_append, List.length_nil] at hR97N)
                        have hR97O := RP_O hR97
                        (try simp only [List.length_cons, List.length_append, List.length_nil] at hR97O)
                        have hR97P := RP_P hR97
                        (try simp only [List.length_cons, List.length_append, List.length_nil] at hR97P)
                        refine G_iload (i := 5) (n := 1) (len := 2) (Or.inr ⟨rfl, d_Mo_before_258⟩) rfl (G_pc (pc' := 260) rfl ?_)
                        refine G_iconst (n := 1) d_Mo_before_260 (by decide) (G_pc (pc' := 261) rfl ?_)
                        refine G_iadd d_Mo_before_261 (by omega) (G_pc (pc' := 262) rfl ?_)
                        refine G_iret d_Mo_before_262 rfl (tokI (by omega)) rfl rfl ?_
                        exact Or.inl ⟨by unfold beforeS; simp only []; first | rw [if_neg (by omega), if_pos (by omega)] | rw [if_neg (by omega), if_neg (by omega), if_pos (by omega), if_pos (by omega)] | (rw [if_neg (by omega), if_neg (by omega), if_neg (by omega)]; unfold castS; simp only []; first | rw [if_pos (by omega), if_pos (by omega)] | rw [if_neg (by omega), if_pos (by omega)]), hR97.1, RP_W hR97, _, rfl⟩
                      · skip
                        refine G_bipush (n := 10) d_Mo_before_225 (by decide) (G_pc (pc' := 227) rfl ?_)
                        refine G_goto (tgt := 255) d_Mo_before_227 (by decide) ?_
                        refine G_callV (K1 := KE) (d2 := 0) (o := 55) (cl := 9) (as := [vi 64, vi 10]) (rest := []) d_Mo_before_255 mf_Mo_hold ml_Mo_257 rfl rfl (by decide) rfl rfl (Nat.le_of_ble_eq_true rfl) (by omega) ⟨Nat.le_refl _, Nat.le_refl _⟩ (g_Mo_hold (by omega) 64 10 _ (by omega)) (fun r98 M99 kq100 q100 => ?_)
                        clear kq100; obtain ⟨q100a, q100b⟩ := q100; subst r98; subst M99
                        refine G_ps (pc' := 258) (st' := []) rfl rfl ?_
                        have hR101 : RP M0 (holdM (mset M 55 44 1) 64 10) N O ((64, 10) :: P) o a cl 1 := RP_hold hR91
                        have hR101N := RP_N hR101
                        (try simp only [List.length_cons, List.length_append, List.length_nil] at hR101N)
                        have hR101O := RP_O hR101
                        (try simp only [List.length_cons, List.length_append, List.length_nil] at hR101O)
                        have hR101P := RP_P hR101
                        (try simp only [List.length_cons, List.length_append, List.length_nil] at hR101P)
                        refine G_iload (i := 5) (n := 1) (len := 2) (Or.inr ⟨rfl, d_Mo_before_258⟩) rfl (G_pc (pc' := 260) rfl ?_)
                        refine G_iconst (n := 1) d_Mo_before_260 (by decide) (G_pc (pc' := 261) rfl ?_)
                        refine G_iadd d_Mo_before_261 (by omega) (G_pc (pc' := 262) rfl ?_)
                        refine G_iret d_Mo_before_262 rfl (tokI (by omega)) rfl rfl ?_
                        exact Or.inl ⟨by unfold beforeS; simp only []; first | rw [if_neg (by omega), if_pos (by omega)] | rw [if_neg (by omega), if_neg (by omega), if_pos (by omega), if_pos (by omega)] | (rw [if_neg (by omega), if_neg (by omega), if_neg (by omega)]; unfold castS; simp only []; first | rw [if_pos (by omega), if_pos (by omega)] | rw [if_neg (by omega), if_pos (by omega)]), hR101.1, RP_W hR101, _, rfl⟩
                    · skip
                      refine G_iload (i := 3) (n := 3) (len := 1) (Or.inl ⟨3, rfl, rfl, d_Mo_before_191⟩) rfl (G_pc (pc' := 192) rfl ?_)
                      refine G_bipush (n := 8) d_Mo_before_192 (by decide) (G_pc (pc' := 194) rfl ?_)
                      refine G_icmp_eq (tgt := 207) d_Mo_before_194 (by decide) (fun h102 => ?_) (fun h102 => G_pc (pc' := 197) rfl ?_)
                      · skip
                        refine G_iconst (n := 0) d_Mo_before_207 (by decide) (G_pc (pc' := 208) rfl ?_)
                        refine G_putL (o := 55) (c := 9) (k := 44) (ki := 44) (x := 0) d_Mo_before_208 fl_Mo_166 rfl rfl (by decide) (by decide) (by decide) rfl rfl (tokZ (by decide)) rfl (G_pc (pc' := 211) rfl ?_)
                        have hR103 : RP M0 (mset M 55 44 0) N O P o a cl 0 := RP_w hR
                        have hR103N := RP_N hR103
                        (try simp only [List.length_cons, List.length_append, List.length_nil] at hR103N)
                        have hR103O := RP_O hR103
                        (try simp only [List.length_cons, List.length_append, List.length_nil] at hR103O)
                        have hR103P := RP_P hR103
                        (try simp only [List.length_cons, List.length_append, List.length_nil] at hR103P)
                        refine G_aload (i := 0) (n := 5) (len := 1) (Or.inl ⟨0, rfl, rfl, d_Mo_before_211⟩) rfl (by decide) (G_pc (pc' := 212) rfl ?_)
                        refine G_bipush (n := 64) d_Mo_before_212 (by decide) (G_pc (pc' := 214) rfl ?_)
                        refine G_iload (i := 4) (n := 2) (len := 2) (Or.inr ⟨rfl, d_Mo_before_214⟩) rfl (G_pc (pc' := 216) rfl ?_)
                        refine G_if_eq (tgt := 238) d_Mo_before_216 (by decide) (fun h104 => absurd h104 (by decide)) (fun h104 => G_pc (pc' := 219) rfl ?_)
                        refine G_iload (i := 3) (n := 3) (len := 1) (Or.inl ⟨3, rfl, rfl, d_Mo_before_219⟩) rfl (G_pc (pc' := 220) rfl ?_)
                        refine G_bipush (n := 9) d_Mo_before_220 (by decide) (G_pc (pc' := 222) rfl ?_)
                        refine G_icmp_ne (tgt := 230) d_Mo_before_222 (by decide) (fun h105 => ?_) (fun h105 => G_pc (pc' := 225) rfl ?_)
                        · skip
                          refine G_bipush (n := 11) d_Mo_before_230 (by decide) (G_pc (pc' := 232) rfl ?_)
                          refine G_iload (i := 6) (n := 0) (len := 2) (Or.inr ⟨rfl, d_Mo_before_232⟩) rfl (G_pc (pc' := 234) rfl ?_)
                          refine G_iadd d_Mo_before_234 (by omega) (G_pc (pc' := 235) rfl ?_)
                          refine G_goto (tgt := 255) d_Mo_before_235 (by decide) ?_
                          refine G_callV (K1 := KE) (d2 := 0) (o := 55) (cl := 9) (as := [vi 64, vi (11 + (M0 75 (k + 1)))]) (rest := []) d_Mo_before_255 mf_Mo_hold ml_Mo_257 rfl rfl (by decide) rfl rfl (Nat.le_of_ble_eq_true rfl) (by omega) ⟨Nat.le_refl _, Nat.le_refl _⟩ (g_Mo_hold (by omega) 64 (11 + (M0 75 (k + 1))) _ (by omega)) (fun r106 M107 kq108 q108 => ?_)
                          clear kq108; obtain ⟨q108a, q108b⟩ := q108; subst r106; subst M107
                          refine G_ps (pc' := 258) (st' := []) rfl rfl ?_
                          have hR109 : RP M0 (holdM (mset M 55 44 0) 64 (11 + (M0 75 (k + 1)))) N O ((64, 11 + (M0 75 (k + 1))) :: P) o a cl 0 := RP_hold hR103
                          have hR109N := RP_N hR109
                          (try simp only [List.length_cons, List.length_append, List.length_nil] at hR109N)
                          have hR109O := RP_O hR109
                          (try simp only [List.length_cons, List.length_append, List.length_nil] at hR109O)
                          have hR109P := RP_P hR109
                          (try simp only [List.length_cons, List.length_append, List.length_nil] at hR109P)
                          refine G_iload (i := 5) (n := 1) (len := 2) (Or.inr ⟨rfl, d_Mo_before_258⟩) rfl (G_pc (pc' := 260) rfl ?_)
                          refine G_iconst (n := 1) d_Mo_before_260 (by decide) (G_pc (pc' := 261) rfl ?_)
                          refine G_iadd d_Mo_before_261 (by omega) (G_pc (pc' := 262) rfl ?_)
                          refine G_iret d_Mo_before_262 rfl (tokI (by omega)) rfl rfl ?_
                          exact Or.inr ⟨_, _, _, _, _, _, _, by unfold beforeS; simp only []; first | (exfalso; omega) | rw [if_pos (by omega)] | rw [if_neg (by omega), if_neg (by omega), if_pos (by omega), if_neg (by omega)] | (rw [if_neg (by omega), if_neg (by omega), if_neg (by omega)]; unfold castS castK; simp only []; first | (rw [if_pos (by omega), if_neg (by omega)]; grind) | (rw [if_neg (by omega), if_neg (by omega)]; grind)), rfl, hR109⟩
                        · skip
                          refine G_bipush (n := 10) d_Mo_before_225 (by decide) (G_pc (pc' := 227) rfl ?_)
                          refine G_goto (tgt := 255) d_Mo_before_227 (by decide) ?_
                          refine G_callV (K1 := KE) (d2 := 0) (o := 55) (cl := 9) (as := [vi 64, vi 10]) (rest := []) d_Mo_before_255 mf_Mo_hold ml_Mo_257 rfl rfl (by decide) rfl rfl (Nat.le_of_ble_eq_true rfl) (by omega) ⟨Nat.le_refl _, Nat.le_refl _⟩ (g_Mo_hold (by omega) 64 10 _ (by omega)) (fun r110 M111 kq112 q112 => ?_)
                          clear kq112; obtain ⟨q112a, q112b⟩ := q112; subst r110; subst M111
                          refine G_ps (pc' := 258) (st' := []) rfl rfl ?_
                          have hR113 : RP M0 (holdM (mset M 55 44 0) 64 10) N O ((64, 10) :: P) o a cl 0 := RP_hold hR103
                          have hR113N := RP_N hR113
                          (try simp only [List.length_cons, List.length_append, List.length_nil] at hR113N)
                          have hR113O := RP_O hR113
                          (try simp only [List.length_cons, List.length_append, List.length_nil] at hR113O)
                          have hR113P := RP_P hR113
                          (try simp only [List.length_cons, List.length_append, List.length_nil] at hR113P)
                          refine G_iload (i := 5) (n := 1) (len := 2) (Or.inr ⟨rfl, d_Mo_before_258⟩) rfl (G_pc (pc' := 260) rfl ?_)
                          refine G_iconst (n := 1) d_Mo_before_260 (by decide) (G_pc (pc' := 261) rfl ?_)
                          refine G_iadd d_Mo_before_261 (by omega) (G_pc (pc' := 262) rfl ?_)
                          refine G_iret d_Mo_before_262 rfl (tokI (by omega)) rfl rfl ?_
                          exact Or.inr ⟨_, _, _, _, _, _, _, by unfold beforeS; simp only []; first | (exfalso; omega) | rw [if_pos (by omega)] | rw [if_neg (by omega), if_neg (by omega), if_pos (by omega), if_neg (by omega)] | (rw [if_neg (by omega), if_neg (by omega), if_neg (by omega)]; unfold castS castK; simp only []; first | (rw [if_pos (by omega), if_neg (by omega)]; grind) | (rw [if_neg (by omega), if_neg (by omega)]; grind)), rfl, hR113⟩
                      · skip
                        refine G_iload (i := 3) (n := 3) (len := 1) (Or.inl ⟨3, rfl, rfl, d_Mo_before_197⟩) rfl (G_pc (pc' := 198) rfl ?_)
                        refine G_bipush (n := 9) d_Mo_before_198 (by decide) (G_pc (pc' := 200) rfl ?_)
                        refine G_icmp_eq (tgt := 207) d_Mo_before_200 (by decide) (fun h114 => ?_) (fun h114 => G_pc (pc' := 203) rfl ?_)
                        · skip
                          refine G_iconst (n := 0) d_Mo_before_207 (by decide) (G_pc (pc' := 208) rfl ?_)
                          refine G_putL (o := 55) (c := 9) (k := 44) (ki := 44) (x := 0) d_Mo_before_208 fl_Mo_166 rfl rfl (by decide) (by decide) (by decide) rfl rfl (tokZ (by decide)) rfl (G_pc (pc' := 211) rfl ?_)
                          have hR115 : RP M0 (mset M 55 44 0) N O P o a cl 0 := RP_w hR
                          have hR115N := RP_N hR115
                          (try simp only [List.length_cons, List.length_append, List.length_nil] at hR115N)
                          have hR115O := RP_O hR115
                          (try simp only [List.length_cons, List.length_append, List.length_nil] at hR115O)
                          have hR115P := RP_P hR115
                          (try simp only [List.length_cons, List.length_append, List.length_nil] at hR115P)
                          refine G_aload (i := 0) (n := 5) (len := 1) (Or.inl ⟨0, rfl, rfl, d_Mo_before_211⟩) rfl (by decide) (G_pc (pc' := 212) rfl ?_)
                          refine G_bipush (n := 64) d_Mo_before_212 (by decide) (G_pc (pc' := 214) rfl ?_)
                          refine G_iload (i := 4) (n := 2) (len := 2) (Or.inr ⟨rfl, d_Mo_before_214⟩) rfl (G_pc (pc' := 216) rfl ?_)
                          refine G_if_eq (tgt := 238) d_Mo_before_216 (by decide) (fun h116 => absurd h116 (by decide)) (fun h116 => G_pc (pc' := 219) rfl ?_)
                          refine G_iload (i := 3) (n := 3) (len := 1) (Or.inl ⟨3, rfl, rfl, d_Mo_before_219⟩) rfl (G_pc (pc' := 220) rfl ?_)
                          refine G_bipush (n := 9) d_Mo_before_220 (by decide) (G_pc (pc' := 222) rfl ?_)
                          refine G_icmp_ne (tgt := 230) d_Mo_before_222 (by decide) (fun h117 => ?_) (fun h117 => G_pc (pc' := 225) rfl ?_)
                          · skip
                            refine G_bipush (n := 11) d_Mo_before_230 (by decide) (G_pc (pc' := 232) rfl ?_)
                            refine G_iload (i := 6) (n := 0) (len := 2) (Or.inr ⟨rfl, d_Mo_before_232⟩) rfl (G_pc (pc' := 234) rfl ?_)
                            refine G_iadd d_Mo_before_234 (by omega) (G_pc (pc' := 235) rfl ?_)
                            refine G_goto (tgt := 255) d_Mo_before_235 (by decide) ?_
                            refine G_callV (K1 := KE) (d2 := 0) (o := 55) (cl := 9) (as := [vi 64, vi (11 + (M0 75 (k + 1)))]) (rest := []) d_Mo_before_255 mf_Mo_hold ml_Mo_257 rfl rfl (by decide) rfl rfl (Nat.le_of_ble_eq_true rfl) (by omega) ⟨Nat.le_refl _, Nat.le_refl _⟩ (g_Mo_hold (by omega) 64 (11 + (M0 75 (k + 1))) _ (by omega)) (fun r118 M119 kq120 q120 => ?_)
                            clear kq120; obtain ⟨q120a, q120b⟩ := q120; subst r118; subst M119
                            refine G_ps (pc' := 258) (st' := []) rfl rfl ?_
                            have hR121 : RP M0 (holdM (mset M 55 44 0) 64 (11 + (M0 75 (k + 1)))) N O ((64, 11 + (M0 75 (k + 1))) :: P) o a cl 0 := RP_hold hR115
                            have hR121N := RP_N hR121
                            (try simp only [List.length_cons, List.length_append, List.length_nil] at hR121N)
                            have hR121O := RP_O hR121
                            (try simp only [List.length_cons, List.length_append, List.length_nil] at hR121O)
                            have hR121P := RP_P hR121
                            (try simp only [List.length_cons, List.length_append, List.length_nil] at hR121P)
                            refine G_iload (i := 5) (n := 1) (len := 2) (Or.inr ⟨rfl, d_Mo_before_258⟩) rfl (G_pc (pc' := 260) rfl ?_)
                            refine G_iconst (n := 1) d_Mo_before_260 (by decide) (G_pc (pc' := 261) rfl ?_)
                            refine G_iadd d_Mo_before_261 (by omega) (G_pc (pc' := 262) rfl ?_)
                            refine G_iret d_Mo_before_262 rfl (tokI (by omega)) rfl rfl ?_
                            exact Or.inr ⟨_, _, _, _, _, _, _, by unfold beforeS; simp only []; first | (exfalso; omega) | rw [if_pos (by omega)] | rw [if_neg (by omega), if_neg (by omega), if_pos (by omega), if_neg (by omega)] | (rw [if_neg (by omega), if_neg (by omega), if_neg (by omega)]; unfold castS castK; simp only []; first | (rw [if_pos (by omega), if_neg (by omega)]; grind) | (rw [if_neg (by omega), if_neg (by omega)]; grind)), rfl, hR121⟩
                          · skip
                            refine G_bipush (n := 10) d_Mo_before_225 (by decide) (G_pc (pc' := 227) rfl ?_)
                            refine G_goto (tgt := 255) d_Mo_before_227 (by decide) ?_
                            refine G_callV (K1 := KE) (d2 := 0) (o := 55) (cl := 9) (as := [vi 64, vi 10]) (rest := []) d_Mo_before_255 mf_Mo_hold ml_Mo_257 rfl rfl (by decide) rfl rfl (Nat.le_of_ble_eq_true rfl) (by omega) ⟨Nat.le_refl _, Nat.le_refl _⟩ (g_Mo_hold (by omega) 64 10 _ (by omega)) (fun r122 M123 kq124 q124 => ?_)
                            clear kq124; obtain ⟨q124a, q124b⟩ := q124; subst r122; subst M123
                            refine G_ps (pc' := 258) (st' := []) rfl rfl ?_
                            have hR125 : RP M0 (holdM (mset M 55 44 0) 64 10) N O ((64, 10) :: P) o a cl 0 := RP_hold hR115
                            have hR125N := RP_N hR125
                            (try simp only [List.length_cons, List.length_append, List.length_nil] at hR125N)
                            have hR125O := RP_O hR125
                            (try simp only [List.length_cons, List.length_append, List.length_nil] at hR125O)
                            have hR125P := RP_P hR125
                            (try simp only [List.length_cons, List.length_append, List.length_nil] at hR125P)
                            refine G_iload (i := 5) (n := 1) (len := 2) (Or.inr ⟨rfl, d_Mo_before_258⟩) rfl (G_pc (pc' := 260) rfl ?_)
                            refine G_iconst (n := 1) d_Mo_before_260 (by decide) (G_pc (pc' := 261) rfl ?_)
                            refine G_iadd d_Mo_before_261 (by omega) (G_pc (pc' := 262) rfl ?_)
                            refine G_iret d_Mo_before_262 rfl (tokI (by omega)) rfl rfl ?_
                            exact Or.inr ⟨_, _, _, _, _, _, _, by unfold beforeS; simp only []; first | (exfalso; omega) | rw [if_pos (by omega)] | rw [if_neg (by omega), if_neg (by omega), if_pos (by omega), if_neg (by omega)] | (rw [if_neg (by omega), if_neg (by omega), if_neg (by omega)]; unfold castS castK; simp only []; first | (rw [if_pos (by omega), if_neg (by omega)]; grind) | (rw [if_neg (by omega), if_neg (by omega)]; grind)), rfl, hR125⟩
                        · skip
                          refine G_iconst (n := 1) d_Mo_before_203 (by decide) (G_pc (pc' := 204) rfl ?_)
                          refine G_goto (tgt := 208) d_Mo_before_204 (by decide) ?_
                          refine G_putL (o := 55) (c := 9) (k := 44) (ki := 44) (x := 1) d_Mo_before_208 fl_Mo_166 rfl rfl (by decide) (by decide) (by decide) rfl rfl (tokZ (by decide)) rfl (G_pc (pc' := 211) rfl ?_)
                          have hR126 : RP M0 (mset M 55 44 1) N O P o a cl 1 := RP_w hR
                          have hR126N := RP_N hR126
                          (try simp only [List.length_cons, List.length_append, List.length_nil] at hR126N)
                          have hR126O := RP_O hR126
                          (try simp only [List.length_cons, List.length_append, List.length_nil] at hR126O)
                          have hR126P := RP_P hR126
                          (try simp only [List.length_cons, List.length_append, List.length_nil] at hR126P)
                          refine G_aload (i := 0) (n := 5) (len := 1) (Or.inl ⟨0, rfl, rfl, d_Mo_before_211⟩) rfl (by decide) (G_pc (pc' := 212) rfl ?_)
                          refine G_bipush (n := 64) d_Mo_before_212 (by decide) (G_pc (pc' := 214) rfl ?_)
                          refine G_iload (i := 4) (n := 2) (len := 2) (Or.inr ⟨rfl, d_Mo_before_214⟩) rfl (G_pc (pc' := 216) rfl ?_)
                          refine G_if_eq (tgt := 238) d_Mo_before_216 (by decide) (fun h127 => absurd h127 (by decide)) (fun h127 => G_pc (pc' := 219) rfl ?_)
                          refine G_iload (i := 3) (n := 3) (len := 1) (Or.inl ⟨3, rfl, rfl, d_Mo_before_219⟩) rfl (G_pc (pc' := 220) rfl ?_)
                          refine G_bipush (n := 9) d_Mo_before_220 (by decide) (G_pc (pc' := 222) rfl ?_)
                          refine G_icmp_ne (tgt := 230) d_Mo_before_222 (by decide) (fun h128 => ?_) (fun h128 => G_pc (pc' := 225) rfl ?_)
                          · skip
                            refine G_bipush (n := 11) d_Mo_before_230 (by decide) (G_pc (pc' := 232) rfl ?_)
                            refine G_iload (i := 6) (n := 0) (len := 2) (Or.inr ⟨rfl, d_Mo_before_232⟩) rfl (G_pc (pc' := 234) rfl ?_)
                            refine G_iadd d_Mo_before_234 (by omega) (G_pc (pc' := 235) rfl ?_)
                            refine G_goto (tgt := 255) d_Mo_before_235 (by decide) ?_
                            refine G_callV (K1 := KE) (d2 := 0) (o := 55) (cl := 9) (as := [vi 64, vi (11 + (M0 75 (k + 1)))]) (rest := []) d_Mo_before_255 mf_Mo_hold ml_Mo_257 rfl rfl (by decide) rfl rfl (Nat.le_of_ble_eq_true rfl) (by omega) ⟨Nat.le_refl _, Nat.le_refl _⟩ (g_Mo_hold (by omega) 64 (11 + (M0 75 (k + 1))) _ (by omega)) (fun r129 M130 kq131 q131 => ?_)
                            clear kq131; obtain ⟨q131a, q131b⟩ := q131; subst r129; subst M130
                            refine G_ps (pc' := 258) (st' := []) rfl rfl ?_
                            have hR132 : RP M0 (holdM (mset M 55 44 1) 64 (11 + (M0 75 (k + 1)))) N O ((64, 11 + (M0 75 (k + 1))) :: P) o a cl 1 := RP_hold hR126
                            have hR132N := RP_N hR132
                            (try simp only [List.length_cons, List.length_append, List.length_nil] at hR132N)
                            have hR132O := RP_O hR132
                            (try simp only [List.length_cons, List.length_append, List.length_nil] at hR132O)
                            have hR132P := RP_P hR132
                            (try simp only [List.length_cons, List.length_append, List.length_nil] at hR132P)
                            refine G_iload (i := 5) (n := 1) (len := 2) (Or.inr ⟨rfl, d_Mo_before_258⟩) rfl (G_pc (pc' := 260) rfl ?_)
                            refine G_iconst (n := 1) d_Mo_before_260 (by decide) (G_pc (pc' := 261) rfl ?_)
                            refine G_iadd d_Mo_before_261 (by omega) (G_pc (pc' := 262) rfl ?_)
                            refine G_iret d_Mo_before_262 rfl (tokI (by omega)) rfl rfl ?_
                            exact Or.inl ⟨by unfold beforeS; simp only []; first | rw [if_neg (by omega), if_pos (by omega)] | rw [if_neg (by omega), if_neg (by omega), if_pos (by omega), if_pos (by omega)] | (rw [if_neg (by omega), if_neg (by omega), if_neg (by omega)]; unfold castS; simp only []; first | rw [if_pos (by omega), if_pos (by omega)] | rw [if_neg (by omega), if_pos (by omega)]), hR132.1, RP_W hR132, _, rfl⟩
                          · skip
                            refine G_bipush (n := 10) d_Mo_before_225 (by decide) (G_pc (pc' := 227) rfl ?_)
                            refine G_goto (tgt := 255) d_Mo_before_227 (by decide) ?_
                            refine G_callV (K1 := KE) (d2 := 0) (o := 55) (cl := 9) (as := [vi 64, vi 10]) (rest := []) d_Mo_before_255 mf_Mo_hold ml_Mo_257 rfl rfl (by decide) rfl rfl (Nat.le_of_ble_eq_true rfl) (by omega) ⟨Nat.le_refl _, Nat.le_refl _⟩ (g_Mo_hold (by omega) 64 10 _ (by omega)) (fun r133 M134 kq135 q135 => ?_)
                            clear kq135; obtain ⟨q135a, q135b⟩ := q135; subst r133; subst M134
                            refine G_ps (pc' := 258) (st' := []) rfl rfl ?_
                            have hR136 : RP M0 (holdM (mset M 55 44 1) 64 10) N O ((64, 10) :: P) o a cl 1 := RP_hold hR126
                            have hR136N := RP_N hR136
                            (try simp only [List.length_cons, List.length_append, List.length_nil] at hR136N)
                            have hR136O := RP_O hR136
                            (try simp only [List.length_cons, List.length_append, List.length_nil] at hR136O)
                            have hR136P := RP_P hR136
                            (try simp only [List.length_cons, List.length_append, List.length_nil] at hR136P)
                            refine G_iload (i := 5) (n := 1) (len := 2) (Or.inr ⟨rfl, d_Mo_before_258⟩) rfl (G_pc (pc' := 260) rfl ?_)
                            refine G_iconst (n := 1) d_Mo_before_260 (by decide) (G_pc (pc' := 261) rfl ?_)
                            refine G_iadd d_Mo_before_261 (by omega) (G_pc (pc' := 262) rfl ?_)
                            refine G_iret d_Mo_before_262 rfl (tokI (by omega)) rfl rfl ?_
                            exact Or.inl ⟨by unfold beforeS; simp only []; first | rw [if_neg (by omega), if_pos (by omega)] | rw [if_neg (by omega), if_neg (by omega), if_pos (by omega), if_pos (by omega)] | (rw [if_neg (by omega), if_neg (by omega), if_neg (by omega)]; unfold castS; simp only []; first | rw [if_pos (by omega), if_pos (by omega)] | rw [if_neg (by omega), if_pos (by omega)]), hR136.1, RP_W hR136, _, rfl⟩
              · skip
                refine G_aload (i := 0) (n := 2) (len := 1) (Or.inl ⟨0, rfl, rfl, d_Mo_before_77⟩) rfl (by decide) (G_pc (pc' := 78) rfl ?_)
                refine G_dup d_Mo_before_78 (fun _ h => by cases h) (G_pc (pc' := 79) rfl ?_)
                refine G_get (o := 55) (c := 9) (k := 42) (v := M 55 42) d_Mo_before_79 fl_Mo_233 rfl (by decide) (by decide) rfl rfl (G_pc (pc' := 82) rfl ?_)
                rw [show M 55 42 = o from (show M 55 42 = o from RP_OP hR)]
                refine G_iconst (n := 1) d_Mo_before_82 (by decide) (G_pc (pc' := 83) rfl ?_)
                refine G_iadd d_Mo_before_83 (by omega) (G_pc (pc' := 84) rfl ?_)
                refine G_putL (o := 55) (c := 9) (k := 42) (ki := 42) (x := o + 1) d_Mo_before_84 fl_Mo_233 rfl rfl (by decide) (by decide) (by decide) rfl rfl (tokI (by omega)) rfl (G_pc (pc' := 87) rfl ?_)
                have hR137 : RP M0 (mset M 55 42 (o + 1)) N O P (o + 1) a cl 0 := RP_o hR
                have hR137N := RP_N hR137
                (try simp only [List.length_cons, List.length_append, List.length_nil] at hR137N)
                have hR137O := RP_O hR137
                (try simp only [List.length_cons, List.length_append, List.length_nil] at hR137O)
                have hR137P := RP_P hR137
                (try simp only [List.length_cons, List.length_append, List.length_nil] at hR137P)
                refine G_aload (i := 0) (n := 2) (len := 1) (Or.inl ⟨0, rfl, rfl, d_Mo_before_87⟩) rfl (by decide) (G_pc (pc' := 88) rfl ?_)
                refine G_aload (i := 0) (n := 2) (len := 1) (Or.inl ⟨0, rfl, rfl, d_Mo_before_88⟩) rfl (by decide) (G_pc (pc' := 89) rfl ?_)
                refine G_get (o := 55) (c := 9) (k := 42) (v := o + 1) d_Mo_before_89 fl_Mo_233 rfl (by decide) (by decide) rfl rfl (G_pc (pc' := 92) rfl ?_)
                refine G_bipush (n := 6) d_Mo_before_92 (by decide) (G_pc (pc' := 94) rfl ?_)
                refine G_icmp_le (tgt := 101) d_Mo_before_94 (by decide) (fun h138 => ?_) (fun h138 => G_pc (pc' := 97) rfl ?_)
                · skip
                  refine G_iconst (n := 0) d_Mo_before_101 (by decide) (G_pc (pc' := 102) rfl ?_)
                  refine G_putL (o := 55) (c := 9) (k := 44) (ki := 44) (x := 0) d_Mo_before_102 fl_Mo_166 rfl rfl (by decide) (by decide) (by decide) rfl rfl (tokZ (by decide)) rfl (G_pc (pc' := 105) rfl ?_)
                  have hR139 : RP M0 (mset (mset M 55 42 (o + 1)) 55 44 0) N O P (o + 1) a cl 0 := RP_w hR137
                  have hR139N := RP_N hR139
                  (try simp only [List.length_cons, List.length_append, List.length_nil] at hR139N)
                  have hR139O := RP_O hR139
                  (try simp only [List.length_cons, List.length_append, List.length_nil] at hR139O)
                  have hR139P := RP_P hR139
                  (try simp only [List.length_cons, List.length_append, List.length_nil] at hR139P)
                  refine G_aload (i := 0) (n := 2) (len := 1) (Or.inl ⟨0, rfl, rfl, d_Mo_before_105⟩) rfl (by decide) (G_pc (pc' := 106) rfl ?_)
                  refine G_bipush (n := 20) d_Mo_before_106 (by decide) (G_pc (pc' := 108) rfl ?_)
                  refine G_iconst (n := 0) d_Mo_before_108 (by decide) (G_pc (pc' := 109) rfl ?_)
                  refine G_callV (K1 := KE) (d2 := 0) (o := 55) (cl := 9) (as := [vi 20, vi 0]) (rest := []) d_Mo_before_109 mf_Mo_hold ml_Mo_257 rfl rfl (by decide) rfl rfl (Nat.le_of_ble_eq_true rfl) (by omega) ⟨Nat.le_refl _, Nat.le_refl _⟩ (g_Mo_hold (by omega) 20 0 _ (by omega)) (fun r140 M141 kq142 q142 => ?_)
                  clear kq142; obtain ⟨q142a, q142b⟩ := q142; subst r140; subst M141
                  refine G_ps (pc' := 112) (st' := []) rfl rfl ?_
                  have hR143 : RP M0 (holdM (mset (mset M 55 42 (o + 1)) 55 44 0) 20 0) N O ((20, 0) :: P) (o + 1) a cl 0 := RP_hold hR139
                  have hR143N := RP_N hR143
                  (try simp only [List.length_cons, List.length_append, List.length_nil] at hR143N)
                  have hR143O := RP_O hR143
                  (try simp only [List.length_cons, List.length_append, List.length_nil] at hR143O)
                  have hR143P := RP_P hR143
                  (try simp only [List.length_cons, List.length_append, List.length_nil] at hR143P)
                  refine G_iload (i := 1) (n := 3) (len := 1) (Or.inl ⟨1, rfl, rfl, d_Mo_before_112⟩) rfl (G_pc (pc' := 113) rfl ?_)
                  refine G_iconst (n := 1) d_Mo_before_113 (by decide) (G_pc (pc' := 114) rfl ?_)
                  refine G_iadd d_Mo_before_114 (by omega) (G_pc (pc' := 115) rfl ?_)
                  refine G_iret d_Mo_before_115 rfl (tokI (by omega)) rfl rfl ?_
                  exact Or.inr ⟨_, _, _, _, _, _, _, by unfold beforeS; simp only []; first | (exfalso; omega) | rw [if_pos (by omega)] | rw [if_neg (by omega), if_neg (by omega), if_pos (by omega), if_neg (by omega)] | (rw [if_neg (by omega), if_neg (by omega), if_neg (by omega)]; unfold castS castK; simp only []; first | (rw [if_pos (by omega), if_neg (by omega)]; grind) | (rw [if_neg (by omega), if_neg (by omega)]; grind)), rfl, hR143⟩
                · skip
                  refine G_iconst (n := 1) d_Mo_before_97 (by decide) (G_pc (pc' := 98) rfl ?_)
                  refine G_goto (tgt := 102) d_Mo_before_98 (by decide) ?_
                  refine G_putL (o := 55) (c := 9) (k := 44) (ki := 44) (x := 1) d_Mo_before_102 fl_Mo_166 rfl rfl (by decide) (by decide) (by decide) rfl rfl (tokZ (by decide)) rfl (G_pc (pc' := 105) rfl ?_)
                  have hR144 : RP M0 (mset (mset M 55 42 (o + 1)) 55 44 1) N O P (o + 1) a cl 1 := RP_w hR137
                  have hR144N := RP_N hR144
                  (try simp only [List.length_cons, List.length_append, List.length_nil] at hR144N)
                  have hR144O := RP_O hR144
                  (try simp only [List.length_cons, List.length_append, List.length_nil] at hR144O)
                  have hR144P := RP_P hR144
                  (try simp only [List.length_cons, List.length_append, List.length_nil] at hR144P)
                  refine G_aload (i := 0) (n := 2) (len := 1) (Or.inl ⟨0, rfl, rfl, d_Mo_before_105⟩) rfl (by decide) (G_pc (pc' := 106) rfl ?_)
                  refine G_bipush (n := 20) d_Mo_before_106 (by decide) (G_pc (pc' := 108) rfl ?_)
                  refine G_iconst (n := 0) d_Mo_before_108 (by decide) (G_pc (pc' := 109) rfl ?_)
                  refine G_callV (K1 := KE) (d2 := 0) (o := 55) (cl := 9) (as := [vi 20, vi 0]) (rest := []) d_Mo_before_109 mf_Mo_hold ml_Mo_257 rfl rfl (by decide) rfl rfl (Nat.le_of_ble_eq_true rfl) (by omega) ⟨Nat.le_refl _, Nat.le_refl _⟩ (g_Mo_hold (by omega) 20 0 _ (by omega)) (fun r145 M146 kq147 q147 => ?_)
                  clear kq147; obtain ⟨q147a, q147b⟩ := q147; subst r145; subst M146
                  refine G_ps (pc' := 112) (st' := []) rfl rfl ?_
                  have hR148 : RP M0 (holdM (mset (mset M 55 42 (o + 1)) 55 44 1) 20 0) N O ((20, 0) :: P) (o + 1) a cl 1 := RP_hold hR144
                  have hR148N := RP_N hR148
                  (try simp only [List.length_cons, List.length_append, List.length_nil] at hR148N)
                  have hR148O := RP_O hR148
                  (try simp only [List.length_cons, List.length_append, List.length_nil] at hR148O)
                  have hR148P := RP_P hR148
                  (try simp only [List.length_cons, List.length_append, List.length_nil] at hR148P)
                  refine G_iload (i := 1) (n := 3) (len := 1) (Or.inl ⟨1, rfl, rfl, d_Mo_before_112⟩) rfl (G_pc (pc' := 113) rfl ?_)
                  refine G_iconst (n := 1) d_Mo_before_113 (by decide) (G_pc (pc' := 114) rfl ?_)
                  refine G_iadd d_Mo_before_114 (by omega) (G_pc (pc' := 115) rfl ?_)
                  refine G_iret d_Mo_before_115 rfl (tokI (by omega)) rfl rfl ?_
                  exact Or.inl ⟨by unfold beforeS; simp only []; first | rw [if_neg (by omega), if_pos (by omega)] | rw [if_neg (by omega), if_neg (by omega), if_pos (by omega), if_pos (by omega)] | (rw [if_neg (by omega), if_neg (by omega), if_neg (by omega)]; unfold castS; simp only []; first | rw [if_pos (by omega), if_pos (by omega)] | rw [if_neg (by omega), if_pos (by omega)]), hR148.1, RP_W hR148, _, rfl⟩
          · skip
            refine G_aload (i := 0) (n := 1) (len := 1) (Or.inl ⟨0, rfl, rfl, d_Mo_before_50⟩) rfl (by decide) (G_pc (pc' := 51) rfl ?_)
            refine G_iconst (n := 1) d_Mo_before_51 (by decide) (G_pc (pc' := 52) rfl ?_)
            refine G_putL (o := 55) (c := 9) (k := 44) (ki := 44) (x := 1) d_Mo_before_52 fl_Mo_166 rfl rfl (by decide) (by decide) (by decide) rfl rfl (tokZ (by decide)) rfl (G_pc (pc' := 55) rfl ?_)
            have hR149 : RP M0 (mset M 55 44 1) N O P o a cl 1 := RP_w hR
            have hR149N := RP_N hR149
            (try simp only [List.length_cons, List.length_append, List.length_nil] at hR149N)
            have hR149O := RP_O hR149
            (try simp only [List.length_cons, List.length_append, List.length_nil] at hR149O)
            have hR149P := RP_P hR149
            (try simp only [List.length_cons, List.length_append, List.length_nil] at hR149P)
            refine G_iload (i := 1) (n := 2) (len := 1) (Or.inl ⟨1, rfl, rfl, d_Mo_before_55⟩) rfl (G_pc (pc' := 56) rfl ?_)
            refine G_iret d_Mo_before_56 rfl (tokI (by omega)) rfl rfl ?_
            exact Or.inl ⟨by unfold beforeS; simp only []; first | rw [if_neg (by omega), if_pos (by omega)] | rw [if_neg (by omega), if_neg (by omega), if_pos (by omega), if_pos (by omega)] | (rw [if_neg (by omega), if_neg (by omega), if_neg (by omega)]; unfold castS; simp only []; first | rw [if_pos (by omega), if_pos (by omega)] | rw [if_neg (by omega), if_pos (by omega)]), hR149.1, RP_W hR149, _, rfl⟩
        · skip
          refine G_aload (i := 0) (n := 1) (len := 1) (Or.inl ⟨0, rfl, rfl, d_Mo_before_31⟩) rfl (by decide) (G_pc (pc' := 32) rfl ?_)
          refine G_bipush (n := 100) d_Mo_before_32 (by decide) (G_pc (pc' := 34) rfl ?_)
          refine G_iload (i := 2) (n := 0) (len := 1) (Or.inl ⟨2, rfl, rfl, d_Mo_before_34⟩) rfl (G_pc (pc' := 35) rfl ?_)
          refine G_iadd d_Mo_before_35 (by omega) (G_pc (pc' := 36) rfl ?_)
          refine G_iconst (n := 0) d_Mo_before_36 (by decide) (G_pc (pc' := 37) rfl ?_)
          refine G_callV (K1 := KE) (d2 := 0) (o := 55) (cl := 9) (as := [vi (100 + (tkA M0 k)), vi 0]) (rest := []) d_Mo_before_37 mf_Mo_hold ml_Mo_257 rfl rfl (by decide) rfl rfl (Nat.le_of_ble_eq_true rfl) (by omega) ⟨Nat.le_refl _, Nat.le_refl _⟩ (g_Mo_hold (by omega) (100 + (tkA M0 k)) 0 _ (by omega)) (fun r150 M151 kq152 q152 => ?_)
          clear kq152; obtain ⟨q152a, q152b⟩ := q152; subst r150; subst M151
          refine G_ps (pc' := 40) (st' := []) rfl rfl ?_
          have hR153 : RP M0 (holdM M (100 + (tkA M0 k)) 0) N O ((100 + (tkA M0 k), 0) :: P) o a cl 0 := RP_hold hR
          have hR153N := RP_N hR153
          (try simp only [List.length_cons, List.length_append, List.length_nil] at hR153N)
          have hR153O := RP_O hR153
          (try simp only [List.length_cons, List.length_append, List.length_nil] at hR153O)
          have hR153P := RP_P hR153
          (try simp only [List.length_cons, List.length_append, List.length_nil] at hR153P)
          refine G_iload (i := 1) (n := 2) (len := 1) (Or.inl ⟨1, rfl, rfl, d_Mo_before_40⟩) rfl (G_pc (pc' := 41) rfl ?_)
          refine G_iconst (n := 1) d_Mo_before_41 (by decide) (G_pc (pc' := 42) rfl ?_)
          refine G_iadd d_Mo_before_42 (by omega) (G_pc (pc' := 43) rfl ?_)
          refine G_iret d_Mo_before_43 rfl (tokI (by omega)) rfl rfl ?_
          exact Or.inr ⟨_, _, _, _, _, _, _, by unfold beforeS; simp only []; first | (exfalso; omega) | rw [if_pos (by omega)] | rw [if_neg (by omega), if_neg (by omega), if_pos (by omega), if_neg (by omega)] | (rw [if_neg (by omega), if_neg (by omega), if_neg (by omega)]; unfold castS castK; simp only []; first | (rw [if_pos (by omega), if_neg (by omega)]; grind) | (rw [if_neg (by omega), if_neg (by omega)]; grind)), rfl, hR153⟩

