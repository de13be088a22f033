def nodeM (M : Mem) (o a b c v : Int) : Mem := mset (mset (mset (mset (mset (mset M 76 (M 55 28) o) 77 (M 55 28) a) 78 (M 55 28) b) 79 (M 55 28) c) 80 (M 55 28) v) 55 28 (M 55 28 + 1)
def pushM (M : Mem) (n : Int) : Mem := mset (mset M 84 (M 55 37) n) 55 37 (M 55 37 + 1)
def popM (M : Mem) : Mem := mset M 55 37 (M 55 37 - 1)
def holdM (M : Mem) (o k : Int) : Mem := mset (mset (mset M 85 (M 55 39) o) 86 (M 55 39) k) 55 39 (M 55 39 + 1)
def topM (M : Mem) : Int := if M 55 39 = 0 then 0 else M 85 (M 55 39 - 1)
def tkA (M : Mem) (k : Int) : Int := if k < M 55 25 then M 74 k else 0
def bdV (t : Int) : Int := if t = 46 then 1 else if t = 44 then 2 else if t = 45 then 3 else if t = 47 then 4 else if t = 43 then 5 else if t = 41 ∨ t = 42 then 6 else if 34 ≤ t ∧ t ≤ 37 then 7 else if 38 ≤ t ∧ t ≤ 40 then 8 else if t = 27 ∨ t = 28 then 9 else if 29 ≤ t ∧ t ≤ 31 then 10 else 0
theorem d_Mo_node_0 : decode b_Mo_node 0 = .ok (.aload_n 0, 1) := by decide +kernel
theorem d_Mo_node_1 : decode b_Mo_node 1 = .ok (.getfield 72, 3) := by decide +kernel
theorem d_Mo_node_4 : decode b_Mo_node 4 = .ok (.aload_n 0, 1) := by decide +kernel
theorem d_Mo_node_5 : decode b_Mo_node 5 = .ok (.getfield 207, 3) := by decide +kernel
theorem d_Mo_node_8 : decode b_Mo_node 8 = .ok (.iload_n 1, 1) := by decide +kernel
theorem d_Mo_node_9 : decode b_Mo_node 9 = .ok (.iastore, 1) := by decide +kernel
theorem d_Mo_node_10 : decode b_Mo_node 10 = .ok (.aload_n 0, 1) := by decide +kernel
theorem d_Mo_node_11 : decode b_Mo_node 11 = .ok (.getfield 75, 3) := by decide +kernel
theorem d_Mo_node_14 : decode b_Mo_node 14 = .ok (.aload_n 0, 1) := by decide +kernel
theorem d_Mo_node_15 : decode b_Mo_node 15 = .ok (.getfield 207, 3) := by decide +kernel
theorem d_Mo_node_18 : decode b_Mo_node 18 = .ok (.iload_n 2, 1) := by decide +kernel
theorem d_Mo_node_19 : decode b_Mo_node 19 = .ok (.iastore, 1) := by decide +kernel
theorem d_Mo_node_20 : decode b_Mo_node 20 = .ok (.aload_n 0, 1) := by decide +kernel
theorem d_Mo_node_21 : decode b_Mo_node 21 = .ok (.getfield 78, 3) := by decide +kernel
theorem d_Mo_node_24 : decode b_Mo_node 24 = .ok (.aload_n 0, 1) := by decide +kernel
theorem d_Mo_node_25 : decode b_Mo_node 25 = .ok (.getfield 207, 3) := by decide +kernel
theorem d_Mo_node_28 : decode b_Mo_node 28 = .ok (.iload_n 3, 1) := by decide +kernel
theorem d_Mo_node_29 : decode b_Mo_node 29 = .ok (.iastore, 1) := by decide +kernel
theorem d_Mo_node_30 : decode b_Mo_node 30 = .ok (.aload_n 0, 1) := by decide +kernel
theorem d_Mo_node_31 : decode b_Mo_node 31 = .ok (.getfield 81, 3) := by decide +kernel
theorem d_Mo_node_34 : decode b_Mo_node 34 = .ok (.aload_n 0, 1) := by decide +kernel
theorem d_Mo_node_35 : decode b_Mo_node 35 = .ok (.getfield 207, 3) := by decide +kernel
theorem d_Mo_node_38 : decode b_Mo_node 38 = .ok (.iload 4, 2) := by decide +kernel
theorem d_Mo_node_40 : decode b_Mo_node 40 = .ok (.iastore, 1) := by decide +kernel
theorem d_Mo_node_41 : decode b_Mo_node 41 = .ok (.aload_n 0, 1) := by decide +kernel
theorem d_Mo_node_42 : decode b_Mo_node 42 = .ok (.getfield 84, 3) := by decide +kernel
theorem d_Mo_node_45 : decode b_Mo_node 45 = .ok (.aload_n 0, 1) := by decide +kernel
theorem d_Mo_node_46 : decode b_Mo_node 46 = .ok (.getfield 207, 3) := by decide +kernel
theorem d_Mo_node_49 : decode b_Mo_node 49 = .ok (.lload 5, 2) := by decide +kernel
theorem d_Mo_node_51 : decode b_Mo_node 51 = .ok (.lastore, 1) := by decide +kernel
theorem d_Mo_node_52 : decode b_Mo_node 52 = .ok (.aload_n 0, 1) := by decide +kernel
theorem d_Mo_node_53 : decode b_Mo_node 53 = .ok (.dup, 1) := by decide +kernel
theorem d_Mo_node_54 : decode b_Mo_node 54 = .ok (.getfield 207, 3) := by decide +kernel
theorem d_Mo_node_57 : decode b_Mo_node 57 = .ok (.iconst 1, 1) := by decide +kernel
theorem d_Mo_node_58 : decode b_Mo_node 58 = .ok (.iadd, 1) := by decide +kernel
theorem d_Mo_node_59 : decode b_Mo_node 59 = .ok (.putfield 207, 3) := by decide +kernel
theorem d_Mo_node_62 : decode b_Mo_node 62 = .ok (.aload_n 0, 1) := by decide +kernel
theorem d_Mo_node_63 : decode b_Mo_node 63 = .ok (.getfield 207, 3) := by decide +kernel
theorem d_Mo_node_66 : decode b_Mo_node 66 = .ok (.iconst 1, 1) := by decide +kernel
theorem d_Mo_node_67 : decode b_Mo_node 67 = .ok (.isub, 1) := by decide +kernel
theorem d_Mo_node_68 : decode b_Mo_node 68 = .ok (.ireturn, 1) := by decide +kernel
theorem g_Mo_node {X : WX} {d : Nat} (hd : 0 ≤ d) (o a b c v : Int) (M : Mem) (hN : 0 ≤ M 55 28 ∧ M 55 28 < 32) : MG X gt d KE KE y_Mo_node b_Mo_node 7 (some .int) [vr 55, vi o, vi a, vi b, vi c, vl v] M (fun r M' => r = some (vi (M 55 28)) ∧ M' = nodeM M o a b c v) := by
  refine MG_of_G (by decide) (Nat.le_of_ble_eq_true rfl) (Nat.le_refl _) (by decide) ?_
  show G X gt d KE KE y_Mo_node b_Mo_node 7 (some .int) _ 0 [(0, vr 55), (1, vi o), (2, vi a), (3, vi b), (4, vi c), (5, vl v)] [] KE M
  refine G_rngl (i := 1) rfl (fun hr1 => ?_)
  refine G_rngl (i := 2) rfl (fun hr2 => ?_)
  refine G_rngl (i := 3) rfl (fun hr3 => ?_)
  refine G_rngl (i := 4) rfl (fun hr4 => ?_)
  refine G_rngL (i := 5) rfl (fun hr5 => ?_)
  refine G_aload (i := 0) (n := 0) (len := 1) (Or.inl ⟨0, rfl, rfl, d_Mo_node_0⟩) rfl (by decide) (G_pc (pc' := 1) rfl ?_)
  refine G_get (o := 55) (c := 9) (k := 29) (v := 76) d_Mo_node_1 fl_Mo_72 rfl (by decide) (by decide) rfl rfl (G_pc (pc' := 4) rfl ?_)
  refine G_aload (i := 0) (n := 0) (len := 1) (Or.inl ⟨0, rfl, rfl, d_Mo_node_4⟩) rfl (by decide) (G_pc (pc' := 5) rfl ?_)
  refine G_get (o := 55) (c := 9) (k := 28) (v := M 55 28) d_Mo_node_5 fl_Mo_207 rfl (by decide) (by decide) rfl rfl (G_pc (pc' := 8) rfl ?_)
  refine G_iload (i := 1) (n := 1) (len := 1) (Or.inl ⟨1, rfl, rfl, d_Mo_node_8⟩) rfl (G_pc (pc' := 9) rfl ?_)
  refine G_iastore (o := 76) (n := 32) (i := M 55 28) (x := o) d_Mo_node_9 rfl ⟨by decide, by decide⟩ (by decide) (gt_arr rfl _) (by omega) (tokI (by omega)) (G_pc (pc' := 10) rfl ?_)
  refine G_aload (i := 0) (n := 0) (len := 1) (Or.inl ⟨0, rfl, rfl, d_Mo_node_10⟩) rfl (by decide) (G_pc (pc' := 11) rfl ?_)
  refine G_get (o := 55) (c := 9) (k := 30) (v := 77) d_Mo_node_11 fl_Mo_75 rfl (by decide) (by decide) rfl rfl (G_pc (pc' := 14) rfl ?_)
  refine G_aload (i := 0) (n := 0) (len := 1) (Or.inl ⟨0, rfl, rfl, d_Mo_node_14⟩) rfl (by decide) (G_pc (pc' := 15) rfl ?_)
  refine G_get (o := 55) (c := 9) (k := 28) (v := M 55 28) d_Mo_node_15 fl_Mo_207 rfl (by decide) (by decide) rfl rfl (G_pc (pc' := 18) rfl ?_)
  refine G_iload (i := 2) (n := 2) (len := 1) (Or.inl ⟨2, rfl, rfl, d_Mo_node_18⟩) rfl (G_pc (pc' := 19) rfl ?_)
  refine G_iastore (o := 77) (n := 32) (i := M 55 28) (x := a) d_Mo_node_19 rfl ⟨by decide, by decide⟩ (by decide) (gt_arr rfl _) (by omega) (tokI (by omega)) (G_pc (pc' := 20) rfl ?_)
  refine G_aload (i := 0) (n := 0) (len := 1) (Or.inl ⟨0, rfl, rfl, d_Mo_node_20⟩) rfl (by decide) (G_pc (pc' := 21) rfl ?_)
  refine G_get (o := 55) (c := 9) (k := 31) (v := 78) d_Mo_node_21 fl_Mo_78 rfl (by decide) (by decide) rfl rfl (G_pc (pc' := 24) rfl ?_)
  refine G_aload (i := 0) (n := 0) (len := 1) (Or.inl ⟨0, rfl, rfl, d_Mo_node_24⟩) rfl (by decide) (G_pc (pc' := 25) rfl ?_)
  refine G_get (o := 55) (c := 9) (k := 28) (v := M 55 28) d_Mo_node_25 fl_Mo_207 rfl (by decide) (by decide) rfl rfl (G_pc (pc' := 28) rfl ?_)
  refine G_iload (i := 3) (n := 3) (len := 1) (Or.inl ⟨3, rfl, rfl, d_Mo_node_28⟩) rfl (G_pc (pc' := 29) rfl ?_)
  refine G_iastore (o := 78) (n := 32) (i := M 55 28) (x := b) d_Mo_node_29 rfl ⟨by decide, by decide⟩ (by decide) (gt_arr rfl _) (by omega) (tokI (by omega)) (G_pc (pc' := 30) rfl ?_)
  refine G_aload (i := 0) (n := 0) (len := 1) (Or.inl ⟨0, rfl, rfl, d_Mo_node_30⟩) rfl (by decide) (G_pc (pc' := 31) rfl ?_)
  refine G_get (o := 55) (c := 9) (k := 32) (v := 79) d_Mo_node_31 fl_Mo_81 rfl (by decide) (by decide) rfl rfl (G_pc (pc' := 34) rfl ?_)
  refine G_aload (i := 0) (n := 0) (len := 1) (Or.inl ⟨0, rfl, rfl, d_Mo_node_34⟩) rfl (by decide) (G_pc (pc' := 35) rfl ?_)
  refine G_get (o := 55) (c := 9) (k := 28) (v := M 55 28) d_Mo_node_35 fl_Mo_207 rfl (by decide) (by decide) rfl rfl (G_pc (pc' := 38) rfl ?_)
  refine G_iload (i := 4) (n := 4) (len := 2) (Or.inr ⟨rfl, d_Mo_node_38⟩) rfl (G_pc (pc' := 40) rfl ?_)
  refine G_iastore (o := 79) (n := 32) (i := M 55 28) (x := c) d_Mo_node_40 rfl ⟨by decide, by decide⟩ (by decide) (gt_arr rfl _) (by omega) (tokI (by omega)) (G_pc (pc' := 41) rfl ?_)
  refine G_aload (i := 0) (n := 0) (len := 1) (Or.inl ⟨0, rfl, rfl, d_Mo_node_41⟩) rfl (by decide) (G_pc (pc' := 42) rfl ?_)
  refine G_get (o := 55) (c := 9) (k := 33) (v := 80) d_Mo_node_42 fl_Mo_84 rfl (by decide) (by decide) rfl rfl (G_pc (pc' := 45) rfl ?_)
  refine G_aload (i := 0) (n := 0) (len := 1) (Or.inl ⟨0, rfl, rfl, d_Mo_node_45⟩) rfl (by decide) (G_pc (pc' := 46) rfl ?_)
  refine G_get (o := 55) (c := 9) (k := 28) (v := M 55 28) d_Mo_node_46 fl_Mo_207 rfl (by decide) (by decide) rfl rfl (G_pc (pc' := 49) rfl ?_)
  refine G_lload (i := 5) (n := 5) (len := 2) (Or.inr ⟨rfl, d_Mo_node_49⟩) rfl (G_pc (pc' := 51) rfl ?_)
  refine G_lastore (o := 80) (n := 32) (i := M 55 28) (x := v) d_Mo_node_51 rfl ⟨by decide, by decide⟩ (by decide) (gt_arr rfl _) (by omega) (tokJ (by omega)) (G_pc (pc' := 52) rfl ?_)
  refine G_aload (i := 0) (n := 0) (len := 1) (Or.inl ⟨0, rfl, rfl, d_Mo_node_52⟩) rfl (by decide) (G_pc (pc' := 53) rfl ?_)
  refine G_dup d_Mo_node_53 (fun _ h => by cases h) (G_pc (pc' := 54) rfl ?_)
  refine G_get (o := 55) (c := 9) (k := 28) (v := M 55 28) d_Mo_node_54 fl_Mo_207 rfl (by decide) (by decide) rfl rfl (G_pc (pc' := 57) rfl ?_)
  refine G_iconst (n := 1) d_Mo_node_57 (by decide) (G_pc (pc' := 58) rfl ?_)
  refine G_iadd d_Mo_node_58 (by omega) (G_pc (pc' := 59) rfl ?_)
  refine G_putL (o := 55) (c := 9) (k := 28) (ki := 28) (x := (M 55 28) + 1) d_Mo_node_59 fl_Mo_207 rfl rfl (by decide) (by decide) (by decide) rfl rfl (tokI (by omega)) rfl (G_pc (pc' := 62) rfl ?_)
  refine G_aload (i := 0) (n := 0) (len := 1) (Or.inl ⟨0, rfl, rfl, d_Mo_node_62⟩) rfl (by decide) (G_pc (pc' := 63) rfl ?_)
  refine G_get (o := 55) (c := 9) (k := 28) (v := (M 55 28) + 1) d_Mo_node_63 fl_Mo_207 rfl (by decide) (by decide) rfl rfl (G_pc (pc' := 66) rfl ?_)
  refine G_iconst (n := 1) d_Mo_node_66 (by decide) (G_pc (pc' := 67) rfl ?_)
  refine G_isub d_Mo_node_67 (by omega) (G_pc (pc' := 68) rfl ?_)
  refine G_iret d_Mo_node_68 rfl (tokI (by omega)) rfl rfl ?_
  exact ⟨by congr 2; omega, rfl⟩

theorem d_Mo_push_0 : decode b_Mo_push 0 = .ok (.aload_n 0, 1) := by decide +kernel
theorem d_Mo_push_1 : decode b_Mo_push 1 = .ok (.getfield 96, 3) := by decide +kernel
theorem d_Mo_push_4 : decode b_Mo_push 4 = .ok (.aload_n 0, 1) := by decide +kernel
theorem d_Mo_push_5 : decode b_Mo_push 5 = .ok (.getfield 210, 3) := by decide +kernel
theorem d_Mo_push_8 : decode b_Mo_push 8 = .ok (.iload_n 1, 1) := by decide +kernel
theorem d_Mo_push_9 : decode b_Mo_push 9 = .ok (.iastore, 1) := by decide +kernel
theorem d_Mo_push_10 : decode b_Mo_push 10 = .ok (.aload_n 0, 1) := by decide +kernel
theorem d_Mo_push_11 : decode b_Mo_push 11 = .ok (.dup, 1) := by decide +kernel
theorem d_Mo_push_12 : decode b_Mo_push 12 = .ok (.getfield 210, 3) := by decide +kernel
theorem d_Mo_push_15 : decode b_Mo_push 15 = .ok (.iconst 1, 1) := by decide +kernel
theorem d_Mo_push_16 : decode b_Mo_push 16 = .ok (.iadd, 1) := by decide +kernel
theorem d_Mo_push_17 : decode b_Mo_push 17 = .ok (.putfield 210, 3) := by decide +kernel
theorem d_Mo_push_20 : decode b_Mo_push 20 = .ok (.return_, 1) := by decide +kernel
theorem g_Mo_push {X : WX} {d : Nat} (hd : 0 ≤ d) (n : Int) (M : Mem) (hO : 0 ≤ M 55 37 ∧ M 55 37 < 32) : MG X gt d KE KE y_Mo_push b_Mo_push 2 none [vr 55, vi n] M (fun r M' => r = none ∧ M' = pushM M n) := by
  refine MG_of_G (by decide) (Nat.le_of_ble_eq_true rfl) (Nat.le_refl _) (by decide) ?_
  show G X gt d KE KE y_Mo_push b_Mo_push 2 none _ 0 [(0, vr 55), (1, vi n)] [] KE M
  refine G_rngl (i := 1) rfl (fun hr1 => ?_)
  refine G_aload (i := 0) (n := 0) (len := 1) (Or.inl ⟨0, rfl, rfl, d_Mo_push_0⟩) rfl (by decide) (G_pc (pc' := 1) rfl ?_)
  refine G_get (o := 55) (c := 9) (k := 38) (v := 84) d_Mo_push_1 fl_Mo_96 rfl (by decide) (by decide) rfl rfl (G_pc (pc' := 4) rfl ?_)
  refine G_aload (i := 0) (n := 0) (len := 1) (Or.inl ⟨0, rfl, rfl, d_Mo_push_4⟩) rfl (by decide) (G_pc (pc' := 5) rfl ?_)
  refine G_get (o := 55) (c := 9) (k := 37) (v := M 55 37) d_Mo_push_5 fl_Mo_210 rfl (by decide) (by decide) rfl rfl (G_pc (pc' := 8) rfl ?_)
  refine G_iload (i := 1) (n := 1) (len := 1) (Or.inl ⟨1, rfl, rfl, d_Mo_push_8⟩) rfl (G_pc (pc' := 9) rfl ?_)
  refine G_iastore (o := 84) (n := 32) (i := M 55 37) (x := n) d_Mo_push_9 rfl ⟨by decide, by decide⟩ (by decide) (gt_arr rfl _) (by omega) (tokI (by omega)) (G_pc (pc' := 10) rfl ?_)
  refine G_aload (i := 0) (n := 0) (len := 1) (Or.inl ⟨0, rfl, rfl, d_Mo_push_10⟩) rfl (by decide) (G_pc (pc' := 11) rfl ?_)
  refine G_dup d_Mo_push_11 (fun _ h => by cases h) (G_pc (pc' := 12) rfl ?_)
  refine G_get (o := 55) (c := 9) (k := 37) (v := M 55 37) d_Mo_push_12 fl_Mo_210 rfl (by decide) (by decide) rfl rfl (G_pc (pc' := 15) rfl ?_)
  refine G_iconst (n := 1) d_Mo_push_15 (by decide) (G_pc (pc' := 16) rfl ?_)
  refine G_iadd d_Mo_push_16 (by omega) (G_pc (pc' := 17) rfl ?_)
  refine G_putL (o := 55) (c := 9) (k := 37) (ki := 37) (x := (M 55 37) + 1) d_Mo_push_17 fl_Mo_210 rfl rfl (by decide) (by decide) (by decide) rfl rfl (tokI (by omega)) rfl (G_pc (pc' := 20) rfl ?_)
  refine G_vret d_Mo_push_20 rfl rfl ?_
  exact ⟨rfl, rfl⟩

theorem d_Mo_pop_0 : decode b_Mo_pop 0 = .ok (.aload_n 0, 1) := by decide +kernel
theorem d_Mo_pop_1 : decode b_Mo_pop 1 = .ok (.dup, 1) := by decide +kernel
theorem d_Mo_pop_2 : decode b_Mo_pop 2 = .ok (.getfield 210, 3) := by decide +kernel
theorem d_Mo_pop_5 : decode b_Mo_pop 5 = .ok (.iconst 1, 1) := by decide +kernel
theorem d_Mo_pop_6 : decode b_Mo_pop 6 = .ok (.isub, 1) := by decide +kernel
theorem d_Mo_pop_7 : decode b_Mo_pop 7 = .ok (.putfield 210, 3) := by decide +kernel
theorem d_Mo_pop_10 : decode b_Mo_pop 10 = .ok (.aload_n 0, 1) := by decide +kernel
theorem d_Mo_pop_11 : decode b_Mo_pop 11 = .ok (.getfield 96, 3) := by decide +kernel
theorem d_Mo_pop_14 : decode b_Mo_pop 14 = .ok (.aload_n 0, 1) := by decide +kernel
theorem d_Mo_pop_15 : decode b_Mo_pop 15 = .ok (.getfield 210, 3) := by decide +kernel
theorem d_Mo_pop_18 : decode b_Mo_pop 18 = .ok (.iaload, 1) := by decide +kernel
theorem d_Mo_pop_19 : decode b_Mo_pop 19 = .ok (.ireturn, 1) := by decide +kernel
theorem g_Mo_pop {X : WX} {d : Nat} (hd : 0 ≤ d)  (M : Mem) (hO : 1 ≤ M 55 37 ∧ M 55 37 ≤ 32) : MG X gt d KE KE y_Mo_pop b_Mo_pop 1 (some .int) [vr 55] M (fun r M' => r = some (vi (M 84 (M 55 37 - 1))) ∧ M' = popM M) := by
  refine MG_of_G (by decide) (Nat.le_of_ble_eq_true rfl) (Nat.le_refl _) (by decide) ?_
  show G X gt d KE KE y_Mo_pop b_Mo_pop 1 (some .int) _ 0 [(0, vr 55)] [] KE M
  refine G_aload (i := 0) (n := 0) (len := 1) (Or.inl ⟨0, rfl, rfl, d_Mo_pop_0⟩) rfl (by decide) (G_pc (pc' := 1) rfl ?_)
  refine G_dup d_Mo_pop_1 (fun _ h => by cases h) (G_pc (pc' := 2) rfl ?_)
  refine G_get (o := 55) (c := 9) (k := 37) (v := M 55 37) d_Mo_pop_2 fl_Mo_210 rfl (by decide) (by decide) rfl rfl (G_pc (pc' := 5) rfl ?_)
  refine G_iconst (n := 1) d_Mo_pop_5 (by decide) (G_pc (pc' := 6) rfl ?_)
  refine G_isub d_Mo_pop_6 (by omega) (G_pc (pc' := 7) rfl ?_)
  refine G_putL (o := 55) (c := 9) (k := 37) (ki := 37) (x := (M 55 37) - 1) d_Mo_pop_7 fl_Mo_210 rfl rfl (by decide) (by decide) (by decide) rfl rfl (tokI (by omega)) rfl (G_pc (pc' := 10) rfl ?_)
  refine G_aload (i := 0) (n := 0) (len := 1) (Or.inl ⟨0, rfl, rfl, d_Mo_pop_10⟩) rfl (by decide) (G_pc (pc' := 11) rfl ?_)
  refine G_get (o := 55) (c := 9) (k := 38) (v := 84) d_Mo_pop_11 fl_Mo_96 rfl (by decide) (by decide) rfl rfl (G_pc (pc' := 14) rfl ?_)
  refine G_aload (i := 0) (n := 0) (len := 1) (Or.inl ⟨0, rfl, rfl, d_Mo_pop_14⟩) rfl (by decide) (G_pc (pc' := 15) rfl ?_)
  refine G_get (o := 55) (c := 9) (k := 37) (v := (M 55 37) - 1) d_Mo_pop_15 fl_Mo_210 rfl (by decide) (by decide) rfl rfl (G_pc (pc' := 18) rfl ?_)
  refine G_iaload (o := 84) (n := 32) (i := (M 55 37) - 1) (v := M 84 ((M 55 37) - 1)) d_Mo_pop_18 rfl ⟨by decide, by decide⟩ (by omega) (rd_arr rfl) (fun t1 => G_pc (pc' := 19) rfl ?_)
  have t1 := tok_i t1
  refine G_iret d_Mo_pop_19 rfl (tokI (by omega)) rfl rfl ?_
  exact ⟨rfl, rfl⟩

theorem d_Mo_hold_0 : decode b_Mo_hold 0 = .ok (.aload_n 0, 1) := by decide +kernel
theorem d_Mo_hold_1 : decode b_Mo_hold 1 = .ok (.getfield 99, 3) := by decide +kernel
theorem d_Mo_hold_4 : decode b_Mo_hold 4 = .ok (.aload_n 0, 1) := by decide +kernel
theorem d_Mo_hold_5 : decode b_Mo_hold 5 = .ok (.getfield 213, 3) := by decide +kernel
theorem d_Mo_hold_8 : decode b_Mo_hold 8 = .ok (.iload_n 1, 1) := by decide +kernel
theorem d_Mo_hold_9 : decode b_Mo_hold 9 = .ok (.iastore, 1) := by decide +kernel
theorem d_Mo_hold_10 : decode b_Mo_hold 10 = .ok (.aload_n 0, 1) := by decide +kernel
theorem d_Mo_hold_11 : decode b_Mo_hold 11 = .ok (.getfield 102, 3) := by decide +kernel
theorem d_Mo_hold_14 : decode b_Mo_hold 14 = .ok (.aload_n 0, 1) := by decide +kernel
theorem d_Mo_hold_15 : decode b_Mo_hold 15 = .ok (.getfield 213, 3) := by decide +kernel
theorem d_Mo_hold_18 : decode b_Mo_hold 18 = .ok (.iload_n 2, 1) := by decide +kernel
theorem d_Mo_hold_19 : decode b_Mo_hold 19 = .ok (.iastore, 1) := by decide +kernel
theorem d_Mo_hold_20 : decode b_Mo_hold 20 = .ok (.aload_n 0, 1) := by decide +kernel
theorem d_Mo_hold_21 : decode b_Mo_hold 21 = .ok (.dup, 1) := by decide +kernel
theorem d_Mo_hold_22 : decode b_Mo_hold 22 = .ok (.getfield 213, 3) := by decide +kernel
theorem d_Mo_hold_25 : decode b_Mo_hold 25 = .ok (.iconst 1, 1) := by decide +kernel
theorem d_Mo_hold_26 : decode b_Mo_hold 26 = .ok (.iadd, 1) := by decide +kernel
theorem d_Mo_hold_27 : decode b_Mo_hold 27 = .ok (.putfield 213, 3) := by decide +kernel
theorem d_Mo_hold_30 : decode b_Mo_hold 30 = .ok (.return_, 1) := by decide +kernel
theorem g_Mo_hold {X : WX} {d : Nat} (hd : 0 ≤ d) (o k : Int) (M : Mem) (hW : 0 ≤ M 55 39 ∧ M 55 39 < 32) : MG X gt d KE KE y_Mo_hold b_Mo_hold 3 none [vr 55, vi o, vi k] M (fun r M' => r = none ∧ M' = holdM M o k) := by
  refine MG_of_G (by decide) (Nat.le_of_ble_eq_true rfl) (Nat.le_refl _) (by decide) ?_
  show G X gt d KE KE y_Mo_hold b_Mo_hold 3 none _ 0 [(0, vr 55), (1, vi o), (2, vi k)] [] KE M
  refine G_rngl (i := 1) rfl (fun hr1 => ?_)
  refine G_rngl (i := 2) rfl (fun hr2 => ?_)
  refine G_aload (i := 0) (n := 0) (len := 1) (Or.inl ⟨0, rfl, rfl, d_Mo_hold_0⟩) rfl (by decide) (G_pc (pc' := 1) rfl ?_)
  refine G_get (o := 55) (c := 9) (k := 40) (v := 85) d_Mo_hold_1 fl_Mo_99 rfl (by decide) (by decide) rfl rfl (G_pc (pc' := 4) rfl ?_)
  refine G_aload (i := 0) (n := 0) (len := 1) (Or.inl ⟨0, rfl, rfl, d_Mo_hold_4⟩) rfl (by decide) (G_pc (pc' := 5) rfl ?_)
  refine G_get (o := 55) (c := 9) (k := 39) (v := M 55 39) d_Mo_hold_5 fl_Mo_213 rfl (by decide) (by decide) rfl rfl (G_pc (pc' := 8) rfl ?_)
  refine G_iload (i := 1) (n := 1) (len := 1) (Or.inl ⟨1, rfl, rfl, d_Mo_hold_8⟩) rfl (G_pc (pc' := 9) rfl ?_)
  refine G_iastore (o := 85) (n := 32) (i := M 55 39) (x := o) d_Mo_hold_9 rfl ⟨by decide, by decide⟩ (by decide) (gt_arr rfl _) (by omega) (tokI (by omega)) (G_pc (pc' := 10) rfl ?_)
  refine G_aload (i := 0) (n := 0) (len := 1) (Or.inl ⟨0, rfl, rfl, d_Mo_hold_10⟩) rfl (by decide) (G_pc (pc' := 11) rfl ?_)
  refine G_get (o := 55) (c := 9) (k := 41) (v := 86) d_Mo_hold_11 fl_Mo_102 rfl (by decide) (by decide) rfl rfl (G_pc (pc' := 14) rfl ?_)
  refine G_aload (i := 0) (n := 0) (len := 1) (Or.inl ⟨0, rfl, rfl, d_Mo_hold_14⟩) rfl (by decide) (G_pc (pc' := 15) rfl ?_)
  refine G_get (o := 55) (c := 9) (k := 39) (v := M 55 39) d_Mo_hold_15 fl_Mo_213 rfl (by decide) (by decide) rfl rfl (G_pc (pc' := 18) rfl ?_)
  refine G_iload (i := 2) (n := 2) (len := 1) (Or.inl ⟨2, rfl, rfl, d_Mo_hold_18⟩) rfl (G_pc (pc' := 19) rfl ?_)
  refine G_iastore (o := 86) (n := 32) (i := M 55 39) (x := k) d_Mo_hold_19 rfl ⟨by decide, by decide⟩ (by decide) (gt_arr rfl _) (by omega) (tokI (by omega)) (G_pc (pc' := 20) rfl ?_)
  refine G_aload (i := 0) (n := 0) (len := 1) (Or.inl ⟨0, rfl, rfl, d_Mo_hold_20⟩) rfl (by decide) (G_pc (pc' := 21) rfl ?_)
  refine G_dup d_Mo_hold_21 (fun _ h => by cases h) (G_pc (pc' := 22) rfl ?_)
  refine G_get (o := 55) (c := 9) (k := 39) (v := M 55 39) d_Mo_hold_22 fl_Mo_213 rfl (by decide) (by decide) rfl rfl (G_pc (pc' := 25) rfl ?_)
  refine G_iconst (n := 1) d_Mo_hold_25 (by decide) (G_pc (pc' := 26) rfl ?_)
  refine G_iadd d_Mo_hold_26 (by omega) (G_pc (pc' := 27) rfl ?_)
  refine G_putL (o := 55) (c := 9) (k := 39) (ki := 39) (x := (M 55 39) + 1) d_Mo_hold_27 fl_Mo_213 rfl rfl (by decide) (by decide) (by decide) rfl rfl (tokI (by omega)) rfl (G_pc (pc' := 30) rfl ?_)
  refine G_vret d_Mo_hold_30 rfl rfl ?_
  exact ⟨rfl, rfl⟩

theorem d_Mo_binds_0 : decode b_Mo_binds 0 = .ok (.iload_n 0, 1) := by decide +kernel
theorem d_Mo_binds_1 : decode b_Mo_binds 1 = .ok (.bipush 46, 2) := by decide +kernel
theorem d_Mo_binds_3 : decode b_Mo_binds 3 = .ok (.if_icmp .ne 5, 3) := by decide +kernel
theorem d_Mo_binds_6 : decode b_Mo_binds 6 = .ok (.iconst 1, 1) := by decide +kernel
theorem d_Mo_binds_7 : decode b_Mo_binds 7 = .ok (.ireturn, 1) := by decide +kernel
theorem d_Mo_binds_8 : decode b_Mo_binds 8 = .ok (.iload_n 0, 1) := by decide +kernel
theorem d_Mo_binds_9 : decode b_Mo_binds 9 = .ok (.bipush 44, 2) := by decide +kernel
theorem d_Mo_binds_11 : decode b_Mo_binds 11 = .ok (.if_icmp .ne 5, 3) := by decide +kernel
theorem d_Mo_binds_14 : decode b_Mo_binds 14 = .ok (.iconst 2, 1) := by decide +kernel
theorem d_Mo_binds_15 : decode b_Mo_binds 15 = .ok (.ireturn, 1) := by decide +kernel
theorem d_Mo_binds_16 : decode b_Mo_binds 16 = .ok (.iload_n 0, 1) := by decide +kernel
theorem d_Mo_binds_17 : decode b_Mo_binds 17 = .ok (.bipush 45, 2) := by decide +kernel
theorem d_Mo_binds_19 : decode b_Mo_binds 19 = .ok (.if_icmp .eq 15, 3) := by decide +kernel
theorem d_Mo_binds_22 : decode b_Mo_binds 22 = .ok (.iload_n 0, 1) := by decide +kernel
theorem d_Mo_binds_23 : decode b_Mo_binds 23 = .ok (.bipush 47, 2) := by decide +kernel
theorem d_Mo_binds_25 : decode b_Mo_binds 25 = .ok (.if_icmp .eq 9, 3) := by decide +kernel
theorem d_Mo_binds_28 : decode b_Mo_binds 28 = .ok (.iload_n 0, 1) := by decide +kernel
theorem d_Mo_binds_29 : decode b_Mo_binds 29 = .ok (.bipush 43, 2) := by decide +kernel
theorem d_Mo_binds_31 : decode b_Mo_binds 31 = .ok (.if_icmp .ne 25, 3) := by decide +kernel
theorem d_Mo_binds_34 : decode b_Mo_binds 34 = .ok (.iload_n 0, 1) := by decide +kernel
theorem d_Mo_binds_35 : decode b_Mo_binds 35 = .ok (.bipush 45, 2) := by decide +kernel
theorem d_Mo_binds_37 : decode b_Mo_binds 37 = .ok (.if_icmp .ne 7, 3) := by decide +kernel
theorem d_Mo_binds_40 : decode b_Mo_binds 40 = .ok (.iconst 3, 1) := by decide +kernel
theorem d_Mo_binds_41 : decode b_Mo_binds 41 = .ok (.goto 14, 3) := by decide +kernel
theorem d_Mo_binds_44 : decode b_Mo_binds 44 = .ok (.iload_n 0, 1) := by decide +kernel
theorem d_Mo_binds_45 : decode b_Mo_binds 45 = .ok (.bipush 47, 2) := by decide +kernel
theorem d_Mo_binds_47 : decode b_Mo_binds 47 = .ok (.if_icmp .ne 7, 3) := by decide +kernel
theorem d_Mo_binds_50 : decode b_Mo_binds 50 = .ok (.iconst 4, 1) := by decide +kernel
theorem d_Mo_binds_51 : decode b_Mo_binds 51 = .ok (.goto 4, 3) := by decide +kernel
theorem d_Mo_binds_54 : decode b_Mo_binds 54 = .ok (.iconst 5, 1) := by decide +kernel
theorem d_Mo_binds_55 : decode b_Mo_binds 55 = .ok (.ireturn, 1) := by decide +kernel
theorem d_Mo_binds_56 : decode b_Mo_binds 56 = .ok (.iload_n 0, 1) := by decide +kernel
theorem d_Mo_binds_57 : decode b_Mo_binds 57 = .ok (.bipush 41, 2) := by decide +kernel
theorem d_Mo_binds_59 : decode b_Mo_binds 59 = .ok (.if_icmp .eq 9, 3) := by decide +kernel
theorem d_Mo_binds_62 : decode b_Mo_binds 62 = .ok (.iload_n 0, 1) := by decide +kernel
theorem d_Mo_binds_63 : decode b_Mo_binds 63 = .ok (.bipush 42, 2) := by decide +kernel
theorem d_Mo_binds_65 : decode b_Mo_binds 65 = .ok (.if_icmp .ne 6, 3) := by decide +kernel
theorem d_Mo_binds_68 : decode b_Mo_binds 68 = .ok (.bipush 6, 2) := by decide +kernel
theorem d_Mo_binds_70 : decode b_Mo_binds 70 = .ok (.ireturn, 1) := by decide +kernel
theorem d_Mo_binds_71 : decode b_Mo_binds 71 = .ok (.iload_n 0, 1) := by decide +kernel
theorem d_Mo_binds_72 : decode b_Mo_binds 72 = .ok (.bipush 34, 2) := by decide +kernel
theorem d_Mo_binds_74 : decode b_Mo_binds 74 = .ok (.if_icmp .lt 14, 3) := by decide +kernel
theorem d_Mo_binds_77 : decode b_Mo_binds 77 = .ok (.iload_n 0, 1) := by decide +kernel
theorem d_Mo_binds_78 : decode b_Mo_binds 78 = .ok (.bipush 37, 2) := by decide +kernel
theorem d_Mo_binds_80 : decode b_Mo_binds 80 = .ok (.if_icmp .gt 8, 3) := by decide +kernel
theorem d_Mo_binds_83 : decode b_Mo_binds 83 = .ok (.bipush 7, 2) := by decide +kernel
theorem d_Mo_binds_85 : decode b_Mo_binds 85 = .ok (.goto 55, 3) := by decide +kernel
theorem d_Mo_binds_88 : decode b_Mo_binds 88 = .ok (.iload_n 0, 1) := by decide +kernel
theorem d_Mo_binds_89 : decode b_Mo_binds 89 = .ok (.bipush 38, 2) := by decide +kernel
theorem d_Mo_binds_91 : decode b_Mo_binds 91 = .ok (.if_icmp .lt 14, 3) := by decide +kernel
theorem d_Mo_binds_94 : decode b_Mo_binds 94 = .ok (.iload_n 0, 1) := by decide +kernel
theorem d_Mo_binds_95 : decode b_Mo_binds 95 = .ok (.bipush 40, 2) := by decide +kernel
theorem d_Mo_binds_97 : decode b_Mo_binds 97 = .ok (.if_icmp .gt 8, 3) := by decide +kernel
theorem d_Mo_binds_100 : decode b_Mo_binds 100 = .ok (.bipush 8, 2) := by decide +kernel
theorem d_Mo_binds_102 : decode b_Mo_binds 102 = .ok (.goto 38, 3) := by decide +kernel
theorem d_Mo_binds_105 : decode b_Mo_binds 105 = .ok (.iload_n 0, 1) := by decide +kernel
theorem d_Mo_binds_106 : decode b_Mo_binds 106 = .ok (.bipush 27, 2) := by decide +kernel
theorem d_Mo_binds_108 : decode b_Mo_binds 108 = .ok (.if_icmp .eq 9, 3) := by decide +kernel
theorem d_Mo_binds_111 : decode b_Mo_binds 111 = .ok (.iload_n 0, 1) := by decide +kernel
theorem d_Mo_binds_112 : decode b_Mo_binds 112 = .ok (.bipush 28, 2) := by decide +kernel
theorem d_Mo_binds_114 : decode b_Mo_binds 114 = .ok (.if_icmp .ne 8, 3) := by decide +kernel
theorem d_Mo_binds_117 : decode b_Mo_binds 117 = .ok (.bipush 9, 2) := by decide +kernel
theorem d_Mo_binds_119 : decode b_Mo_binds 119 = .ok (.goto 21, 3) := by decide +kernel
theorem d_Mo_binds_122 : decode b_Mo_binds 122 = .ok (.iload_n 0, 1) := by decide +kernel
theorem d_Mo_binds_123 : decode b_Mo_binds 123 = .ok (.bipush 29, 2) := by decide +kernel
theorem d_Mo_binds_125 : decode b_Mo_binds 125 = .ok (.if_icmp .lt 14, 3) := by decide +kernel
theorem d_Mo_binds_128 : decode b_Mo_binds 128 = .ok (.iload_n 0, 1) := by decide +kernel
theorem d_Mo_binds_129 : decode b_Mo_binds 129 = .ok (.bipush 31, 2) := by decide +kernel
theorem d_Mo_binds_131 : decode b_Mo_binds 131 = .ok (.if_icmp .gt 8, 3) := by decide +kernel
theorem d_Mo_binds_134 : decode b_Mo_binds 134 = .ok (.bipush 10, 2) := by decide +kernel
theorem d_Mo_binds_136 : decode b_Mo_binds 136 = .ok (.goto 4, 3) := by decide +kernel
theorem d_Mo_binds_139 : decode b_Mo_binds 139 = .ok (.iconst 0, 1) := by decide +kernel
theorem d_Mo_binds_140 : decode b_Mo_binds 140 = .ok (.ireturn, 1) := by decide +kernel
theorem g_Mo_binds {X : WX} {d : Nat} (hd : 0 ≤ d) (t : Int) (M : Mem)  : MG X gt d KE KE y_Mo_binds b_Mo_binds 1 (some .int) [vi t] M (fun r M' => r = some (vi (bdV t)) ∧ M' = M) := by
  refine MG_of_G (by decide) (Nat.le_of_ble_eq_true rfl) (Nat.le_refl _) (by decide) ?_
  show G X gt d KE KE y_Mo_binds b_Mo_binds 1 (some .int) _ 0 [(0, vi t)] [] KE M
  refine G_rngl (i := 0) rfl (fun hr0 => ?_)
  refine G_iload (i := 0) (n := 0) (len := 1) (Or.inl ⟨0, rfl, rfl, d_Mo_binds_0⟩) rfl (G_pc (pc' := 1) rfl ?_)
  refine G_bipush (n := 46) d_Mo_binds_1 (by decide) (G_pc (pc' := 3) rfl ?_)
  refine G_icmp_ne (tgt := 8) d_Mo_binds_3 (by decide) (fun h1 => ?_) (fun h1 => G_pc (pc' := 6) rfl ?_)
  · skip
    refine G_iload (i := 0) (n := 0) (len := 1) (Or.inl ⟨0, rfl, rfl, d_Mo_binds_8⟩) rfl (G_pc (pc' := 9) rfl ?_)
    refine G_bipush (n := 44) d_Mo_binds_9 (by decide) (G_pc (pc' := 11) rfl ?_)
    refine G_icmp_ne (tgt := 16) d_Mo_binds_11 (by decide) (fun h2 => ?_) (fun h2 => G_pc (pc' := 14) rfl ?_)
    · skip
      refine G_iload (i := 0) (n := 0) (len := 1) (Or.inl ⟨0, rfl, rfl, d_Mo_binds_16⟩) rfl (G_pc (pc' := 17) rfl ?_)
      refine G_bipush (n := 45) d_Mo_binds_17 (by decide) (G_pc (pc' := 19) rfl ?_)
      refine G_icmp_eq (tgt := 34) d_Mo_binds_19 (by decide) (fun h3 => ?_) (fun h3 => G_pc (pc' := 22) rfl ?_)
      · skip
        refine G_iload (i := 0) (n := 0) (len := 1) (Or.inl ⟨0, rfl, rfl, d_Mo_binds_34⟩) rfl (G_pc (pc' := 35) rfl ?_)
        refine G_bipush (n := 45) d_Mo_binds_35 (by decide) (G_pc (pc' := 37) rfl ?_)
        refine G_icmp_ne (tgt := 44) d_Mo_binds_37 (by decide) (fun h4 => ?_) (fun h4 => G_pc (pc' := 40) rfl ?_)
        · skip
          refine G_iload (i := 0) (n := 0) (len := 1) (Or.inl ⟨0, rfl, rfl, d_Mo_binds_44⟩) rfl (G_pc (pc' := 45) rfl ?_)
          refine G_bipush (n := 47) d_Mo_binds_45 (by decide) (G_pc (pc' := 47) rfl ?_)
          refine G_icmp_ne (tgt := 54) d_Mo_binds_47 (by decide) (fun h5 => ?_) (fun h5 => G_pc (pc' := 50) rfl ?_)
          · skip
            refine G_iconst (n := 5) d_Mo_binds_54 (by decide) (G_pc (pc' := 55) rfl ?_)
            refine G_iret d_Mo_binds_55 rfl (tokI (by decide)) rfl rfl ?_
            exact ret_e (by unfold bdV; grind) rfl
          · skip
            refine G_iconst (n := 4) d_Mo_binds_50 (by decide) (G_pc (pc' := 51) rfl ?_)
            refine G_goto (tgt := 55) d_Mo_binds_51 (by decide) ?_
            refine G_iret d_Mo_binds_55 rfl (tokI (by decide)) rfl rfl ?_
            exact ret_e (by unfold bdV; grind) rfl
        · skip
          refine G_iconst (n := 3) d_Mo_binds_40 (by decide) (G_pc (pc' := 41) rfl ?_)
          refine G_goto (tgt := 55) d_Mo_binds_41 (by decide) ?_
          refine G_iret d_Mo_binds_55 rfl (tokI (by decide)) rfl rfl ?_
          exact ret_e (by unfold bdV; grind) rfl
      · skip
        refine G_iload (i := 0) (n := 0) (len := 1) (Or.inl ⟨0, rfl, rfl, d_Mo_binds_22⟩) rfl (G_pc (pc' := 23) rfl ?_)
        refine G_bipush (n := 47) d_Mo_binds_23 (by decide) (G_pc (pc' := 25) rfl ?_)
        refine G_icmp_eq (tgt := 34) d_Mo_binds_25 (by decide) (fun h6 => ?_) (fun h6 => G_pc (pc' := 28) rfl ?_)
        · skip
          refine G_iload (i := 0) (n := 0) (len := 1) (Or.inl ⟨0, rfl, rfl, d_Mo_binds_34⟩) rfl (G_pc (pc' := 35) rfl ?_)
          refine G_bipush (n := 45) d_Mo_binds_35 (by decide) (G_pc (pc' := 37) rfl ?_)
          refine G_icmp_ne (tgt := 44) d_Mo_binds_37 (by decide) (fun h7 => ?_) (fun h7 => G_pc (pc' := 40) rfl ?_)
          · skip
            refine G_iload (i := 0) (n := 0) (len := 1) (Or.inl ⟨0, rfl, rfl, d_Mo_binds_44⟩) rfl (G_pc (pc' := 45) rfl ?_)
            refine G_bipush (n := 47) d_Mo_binds_45 (by decide) (G_pc (pc' := 47) rfl ?_)
            refine G_icmp_ne (tgt := 54) d_Mo_binds_47 (by decide) (fun h8 => ?_) (fun h8 => G_pc (pc' := 50) rfl ?_)
            · skip
              refine G_iconst (n := 5) d_Mo_binds_54 (by decide) (G_pc (pc' := 55) rfl ?_)
              refine G_iret d_Mo_binds_55 rfl (tokI (by decide)) rfl rfl ?_
              exact ret_e (by unfold bdV; grind) rfl
            · skip
              refine G_iconst (n := 4) d_Mo_binds_50 (by decide) (G_pc (pc' := 51) rfl ?_)
              refine G_goto (tgt := 55) d_Mo_binds_51 (by decide) ?_
              refine G_iret d_Mo_binds_55 rfl (tokI (by decide)) rfl rfl ?_
              exact ret_e (by unfold bdV; grind) rfl
          · skip
            refine G_iconst (n := 3) d_Mo_binds_40 (by decide) (G_pc (pc' := 41) rfl ?_)
            refine G_goto (tgt := 55) d_Mo_binds_41 (by decide) ?_
            refine G_iret d_Mo_binds_55 rfl (tokI (by decide)) rfl rfl ?_
            exact ret_e (by unfold bdV; grind) rfl
        · skip
          refine G_iload (i := 0) (n := 0) (len := 1) (Or.inl ⟨0, rfl, rfl, d_Mo_binds_28⟩) rfl (G_pc (pc' := 29) rfl ?_)
          refine G_bipush (n := 43) d_Mo_binds_29 (by decide) (G_pc (pc' := 31) rfl ?_)
          refine G_icmp_ne (tgt := 56) d_Mo_binds_31 (by decide) (fun h9 => ?_) (fun h9 => G_pc (pc' := 34) rfl ?_)
          · skip
            refine G_iload (i := 0) (n := 0) (len := 1) (Or.inl ⟨0, rfl, rfl, d_Mo_binds_56⟩) rfl (G_pc (pc' := 57) rfl ?_)
            refine G_bipush (n := 41) d_Mo_binds_57 (by decide) (G_pc (pc' := 59) rfl ?_)
            refine G_icmp_eq (tgt := 68) d_Mo_binds_59 (by decide) (fun h10 => ?_) (fun h10 => G_pc (pc' := 62) rfl ?_)
            · skip
              refine G_bipush (n := 6) d_Mo_binds_68 (by decide) (G_pc (pc' := 70) rfl ?_)
              refine G_iret d_Mo_binds_70 rfl (tokI (by decide)) rfl rfl ?_
              exact ret_e (by unfold bdV; grind) rfl
            · skip
              refine G_iload (i := 0) (n := 0) (len := 1) (Or.inl ⟨0, rfl, rfl, d_Mo_binds_62⟩) rfl (G_pc (pc' := 63) rfl ?_)
              refine G_bipush (n := 42) d_Mo_binds_63 (by decide) (G_pc (pc' := 65) rfl ?_)
              refine G_icmp_ne (tgt := 71) d_Mo_binds_65 (by decide) (fun h11 => ?_) (fun h11 => G_pc (pc' := 68) rfl ?_)
              · skip
                refine G_iload (i := 0) (n := 0) (len := 1) (Or.inl ⟨0, rfl, rfl, d_Mo_binds_71⟩) rfl (G_pc (pc' := 72) rfl ?_)
                refine G_bipush (n := 34) d_Mo_binds_72 (by decide) (G_pc (pc' := 74) rfl ?_)
                refine G_icmp_lt (tgt := 88) d_Mo_binds_74 (by decide) (fun h12 => ?_) (fun h12 => G_pc (pc' := 77) rfl ?_)
                · skip
                  refine G_iload (i := 0) (n := 0) (len := 1) (Or.inl ⟨0, rfl, rfl, d_Mo_binds_88⟩) rfl (G_pc (pc' := 89) rfl ?_)
                  refine G_bipush (n := 38) d_Mo_binds_89 (by decide) (G_pc (pc' := 91) rfl ?_)
                  refine G_icmp_lt (tgt := 105) d_Mo_binds_91 (by decide) (fun h13 => ?_) (fun h13 => G_pc (pc' := 94) rfl ?_)
                  · skip
                    refine G_iload (i := 0) (n := 0) (len := 1) (Or.inl ⟨0, rfl, rfl, d_Mo_binds_105⟩) rfl (G_pc (pc' := 106) rfl ?_)
                    refine G_bipush (n := 27) d_Mo_binds_106 (by decide) (G_pc (pc' := 108) rfl ?_)
                    refine G_icmp_eq (tgt := 117) d_Mo_binds_108 (by decide) (fun h14 => ?_) (fun h14 => G_pc (pc' := 111) rfl ?_)
                    · skip
                      refine G_bipush (n := 9) d_Mo_binds_117 (by decide) (G_pc (pc' := 119) rfl ?_)
                      refine G_goto (tgt := 140) d_Mo_binds_119 (by decide) ?_
                      refine G_iret d_Mo_binds_140 rfl (tokI (by decide)) rfl rfl ?_
                      exact ret_e (by unfold bdV; grind) rfl
                    · skip
                      refine G_iload (i := 0) (n := 0) (len := 1) (Or.inl ⟨0, rfl, rfl, d_Mo_binds_111⟩) rfl (G_pc (pc' := 112) rfl ?_)
                      refine G_bipush (n := 28) d_Mo_binds_112 (by decide) (G_pc (pc' := 114) rfl ?_)
                      refine G_icmp_ne (tgt := 122) d_Mo_binds_114 (by decide) (fun h15 => ?_) (fun h15 => G_pc (pc' := 117) rfl ?_)
                      · skip
                        refine G_iload (i := 0) (n := 0) (len := 1) (Or.inl ⟨0, rfl, rfl, d_Mo_binds_122⟩) rfl (G_pc (pc' := 123) rfl ?_)
                        refine G_bipush (n := 29) d_Mo_binds_123 (by decide) (G_pc (pc' := 125) rfl ?_)
                        refine G_icmp_lt (tgt := 139) d_Mo_binds_125 (by decide) (fun h16 => ?_) (fun h16 => G_pc (pc' := 128) rfl ?_)
                        · skip
                          refine G_iconst (n := 0) d_Mo_binds_139 (by decide) (G_pc (pc' := 140) rfl ?_)
                          refine G_iret d_Mo_binds_140 rfl (tokI (by decide)) rfl rfl ?_
                          exact ret_e (by unfold bdV; grind) rfl
                        · skip
                          refine G_iload (i := 0) (n := 0) (len := 1) (Or.inl ⟨0, rfl, rfl, d_Mo_binds_128⟩) rfl (G_pc (pc' := 129) rfl ?_)
                          refine G_bipush (n := 31) d_Mo_binds_129 (by decide) (G_pc (pc' := 131) rfl ?_)
                          refine G_icmp_gt (tgt := 139) d_Mo_binds_131 (by decide) (fun h17 => ?_) (fun h17 => G_pc (pc' := 134) rfl ?_)
                          · skip
                            refine G_iconst (n := 0) d_Mo_binds_139 (by decide) (G_pc (pc' := 140) rfl ?_)
                            refine G_iret d_Mo_binds_140 rfl (tokI (by decide)) rfl rfl ?_
                            exact ret_e (by unfold bdV; grind) rfl
                          · skip
                            refine G_bipush (n := 10) d_Mo_binds_134 (by decide) (G_pc (pc' := 136) rfl ?_)
                            refine G_goto (tgt := 140) d_Mo_binds_136 (by decide) ?_
                            refine G_iret d_Mo_binds_140 rfl (tokI (by decide)) rfl rfl ?_
                            exact ret_e (by unfold bdV; grind) rfl
                      · skip
                        refine G_bipush (n := 9) d_Mo_binds_117 (by decide) (G_pc (pc' := 119) rfl ?_)
                        refine G_goto (tgt := 140) d_Mo_binds_119 (by decide) ?_
                        refine G_iret d_Mo_binds_140 rfl (tokI (by decide)) rfl rfl ?_
                        exact ret_e (by unfold bdV; grind) rfl
                  · skip
                    refine G_iload (i := 0) (n := 0) (len := 1) (Or.inl ⟨0, rfl, rfl, d_Mo_binds_94⟩) rfl (G_pc (pc' := 95) rfl ?_)
                    refine G_bipush (n := 40) d_Mo_binds_95 (by decide) (G_pc (pc' := 97) rfl ?_)
                    refine G_icmp_gt (tgt := 105) d_Mo_binds_97 (by decide) (fun h18 => ?_) (fun h18 => G_pc (pc' := 100) rfl ?_)
                    · skip
                      refine G_iload (i := 0) (n := 0) (len := 1) (Or.inl ⟨0, rfl, rfl, d_Mo_binds_105⟩) rfl (G_pc (pc' := 106) rfl ?_)
                      refine G_bipush (n := 27) d_Mo_binds_106 (by decide) (G_pc (pc' := 108) rfl ?_)
                      refine G_icmp_eq (tgt := 117) d_Mo_binds_108 (by decide) (fun h19 => ?_) (fun h19 => G_pc (pc' := 111) rfl ?_)
                      · skip
                        refine G_bipush (n := 9) d_Mo_binds_117 (by decide) (G_pc (pc' := 119) rfl ?_)
                        refine G_goto (tgt := 140) d_Mo_binds_119 (by decide) ?_
                        refine G_iret d_Mo_binds_140 rfl (tokI (by decide)) rfl rfl ?_
                        exact ret_e (by unfold bdV; grind) rfl
                      · skip
                        refine G_iload (i := 0) (n := 0) (len := 1) (Or.inl ⟨0, rfl, rfl, d_Mo_binds_111⟩) rfl (G_pc (pc' := 112) rfl ?_)
                        refine G_bipush (n := 28) d_Mo_binds_112 (by decide) (G_pc (pc' := 114) rfl ?_)
                        refine G_icmp_ne (tgt := 122) d_Mo_binds_114 (by decide) (fun h20 => ?_) (fun h20 => G_pc (pc' := 117) rfl ?_)
                        · skip
                          refine G_iload (i := 0) (n := 0) (len := 1) (Or.inl ⟨0, rfl, rfl, d_Mo_binds_122⟩) rfl (G_pc (pc' := 123) rfl ?_)
                          refine G_bipush (n := 29) d_Mo_binds_123 (by decide) (G_pc (pc' := 125) rfl ?_)
                          refine G_icmp_lt (tgt := 139) d_Mo_binds_125 (by decide) (fun h21 => ?_) (fun h21 => G_pc (pc' := 128) rfl ?_)
                          · skip
                            refine G_iconst (n := 0) d_Mo_binds_139 (by decide) (G_pc (pc' := 140) rfl ?_)
                            refine G_iret d_Mo_binds_140 rfl (tokI (by decide)) rfl rfl ?_
                            exact ret_e (by unfold bdV; grind) rfl
                          · skip
                            refine G_iload (i := 0) (n := 0) (len := 1) (Or.inl ⟨0, rfl, rfl, d_Mo_binds_128⟩) rfl (G_pc (pc' := 129) rfl ?_)
                            refine G_bipush (n := 31) d_Mo_binds_129 (by decide) (G_pc (pc' := 131) rfl ?_)
                            refine G_icmp_gt (tgt := 139) d_Mo_binds_131 (by decide) (fun h22 => ?_) (fun h22 => G_pc (pc' := 134) rfl ?_)
                            · skip
                              refine G_iconst (n := 0) d_Mo_binds_139 (by decide) (G_pc (pc' := 140) rfl ?_)
                              refine G_iret d_Mo_binds_140 rfl (tokI (by decide)) rfl rfl ?_
                              exact ret_e (by unfold bdV; grind) rfl
                            · skip
                              refine G_bipush (n := 10) d_Mo_binds_134 (by decide) (G_pc (pc' := 136) rfl ?_)
                              refine G_goto (tgt := 140) d_Mo_binds_136 (by decide) ?_
                              refine G_iret d_Mo_binds_140 rfl (tokI (by decide)) rfl rfl ?_
                              exact ret_e (by unfold bdV; grind) rfl
                        · skip
                          refine G_bipush (n := 9) d_Mo_binds_117 (by decide) (G_pc (pc' := 119) rfl ?_)
                          refine G_goto (tgt := 140) d_Mo_binds_119 (by decide) ?_
                          refine G_iret d_Mo_binds_140 rfl (tokI (by decide)) rfl rfl ?_
                          exact ret_e (by unfold bdV; grind) rfl
                    · skip
                      refine G_bipush (n := 8) d_Mo_binds_100 (by decide) (G_pc (pc' := 102) rfl ?_)
                      refine G_goto (tgt := 140) d_Mo_binds_102 (by decide) ?_
                      refine G_iret d_Mo_binds_140 rfl (tokI (by decide)) rfl rfl ?_
                      exact ret_e (by unfold bdV; grind) rfl
                · skip
                  refine G_iload (i := 0) (n := 0) (len := 1) (Or.inl ⟨0, rfl, rfl, d_Mo_binds_77⟩) rfl (G_pc (pc' := 78) rfl ?_)
                  refine G_bipush (n := 37) d_Mo_binds_78 (by decide) (G_pc (pc' := 80) rfl ?_)
                  refine G_icmp_gt (tgt := 88) d_Mo_binds_80 (by decide) (fun h23 => ?_) (fun h23 => G_pc (pc' := 83) rfl ?_)
                  · skip
                    refine G_iload (i := 0) (n := 0) (len := 1) (Or.inl ⟨0, rfl, rfl, d_Mo_binds_88⟩) rfl (G_pc (pc' := 89) rfl ?_)
                    refine G_bipush (n := 38) d_Mo_binds_89 (by decide) (G_pc (pc' := 91) rfl ?_)
                    refine G_icmp_lt (tgt := 105) d_Mo_binds_91 (by decide) (fun h24 => ?_) (fun h24 => G_pc (pc' := 94) rfl ?_)
                    · skip
                      refine G_iload (i := 0) (n := 0) (len := 1) (Or.inl ⟨0, rfl, rfl, d_Mo_binds_105⟩) rfl (G_pc (pc' := 106) rfl ?_)
                      refine G_bipush (n := 27) d_Mo_binds_106 (by decide) (G_pc (pc' := 108) rfl ?_)
                      refine G_icmp_eq (tgt := 117) d_Mo_binds_108 (by decide) (fun h25 => ?_) (fun h25 => G_pc (pc' := 111) rfl ?_)
                      · skip
                        refine G_bipush (n := 9) d_Mo_binds_117 (by decide) (G_pc (pc' := 119) rfl ?_)
                        refine G_goto (tgt := 140) d_Mo_binds_119 (by decide) ?_
                        refine G_iret d_Mo_binds_140 rfl (tokI (by decide)) rfl rfl ?_
                        exact ret_e (by unfold bdV; grind) rfl
                      · skip
                        refine G_iload (i := 0) (n := 0) (len := 1) (Or.inl ⟨0, rfl, rfl, d_Mo_binds_111⟩) rfl (G_pc (pc' := 112) rfl ?_)
                        refine G_bipush (n := 28) d_Mo_binds_112 (by decide) (G_pc (pc' := 114) rfl ?_)
                        refine G_icmp_ne (tgt := 122) d_Mo_binds_114 (by decide) (fun h26 => ?_) (fun h26 => G_pc (pc' := 117) rfl ?_)
                        · skip
                          refine G_iload (i := 0) (n := 0) (len := 1) (Or.inl ⟨0, rfl, rfl, d_Mo_binds_122⟩) rfl (G_pc (pc' := 123) rfl ?_)
                          refine G_bipush (n := 29) d_Mo_binds_123 (by decide) (G_pc (pc' := 125) rfl ?_)
                          refine G_icmp_lt (tgt := 139) d_Mo_binds_125 (by decide) (fun h27 => ?_) (fun h27 => G_pc (pc' := 128) rfl ?_)
                          · skip
                            refine G_iconst (n := 0) d_Mo_binds_139 (by decide) (G_pc (pc' := 140) rfl ?_)
                            refine G_iret d_Mo_binds_140 rfl (tokI (by decide)) rfl rfl ?_
                            exact ret_e (by unfold bdV; grind) rfl
                          · skip
                            refine G_iload (i := 0) (n := 0) (len := 1) (Or.inl ⟨0, rfl, rfl, d_Mo_binds_128⟩) rfl (G_pc (pc' := 129) rfl ?_)
                            refine G_bipush (n := 31) d_Mo_binds_129 (by decide) (G_pc (pc' := 131) rfl ?_)
                            refine G_icmp_gt (tgt := 139) d_Mo_binds_131 (by decide) (fun h28 => ?_) (fun h28 => G_pc (pc' := 134) rfl ?_)
                            · skip
                              refine G_iconst (n := 0) d_Mo_binds_139 (by decide) (G_pc (pc' := 140) rfl ?_)
                              refine G_iret d_Mo_binds_140 rfl (tokI (by decide)) rfl rfl ?_
                              exact ret_e (by unfold bdV; grind) rfl
                            · skip
                              refine G_bipush (n := 10) d_Mo_binds_134 (by decide) (G_pc (pc' := 136) rfl ?_)
                              refine G_goto (tgt := 140) d_Mo_binds_136 (by decide) ?_
                              refine G_iret d_Mo_binds_140 rfl (tokI (by decide)) rfl rfl ?_
                              exact ret_e (by unfold bdV; grind) rfl
                        · skip
                          refine G_bipush (n := 9) d_Mo_binds_117 (by decide) (G_pc (pc' := 119) rfl ?_)
                          refine G_goto (tgt := 140) d_Mo_binds_119 (by decide) ?_
                          refine G_iret d_Mo_binds_140 rfl (tokI (by decide)) rfl rfl ?_
                          exact ret_e (by unfold bdV; grind) rfl
                    · skip
                      refine G_iload (i := 0) (n := 0) (len := 1) (Or.inl ⟨0, rfl, rfl, d_Mo_binds_94⟩) rfl (G_pc (pc' := 95) rfl ?_)
                      refine G_bipush (n := 40) d_Mo_binds_95 (by decide) (G_pc (pc' := 97) rfl ?_)
                      refine G_icmp_gt (tgt := 105) d_Mo_binds_97 (by decide) (fun h29 => ?_) (fun h29 => G_pc (pc' := 100) rfl ?_)
                      · skip
                        refine G_iload (i := 0) (n := 0) (len := 1) (Or.inl ⟨0, rfl, rfl, d_Mo_binds_105⟩) rfl (G_pc (pc' := 106) rfl ?_)
                        refine G_bipush (n := 27) d_Mo_binds_106 (by decide) (G_pc (pc' := 108) rfl ?_)
                        refine G_icmp_eq (tgt := 117) d_Mo_binds_108 (by decide) (fun h30 => ?_) (fun h30 => G_pc (pc' := 111) rfl ?_)
                        · skip
                          refine G_bipush (n := 9) d_Mo_binds_117 (by decide) (G_pc (pc' := 119) rfl ?_)
                          refine G_goto (tgt := 140) d_Mo_binds_119 (by decide) ?_
                          refine G_iret d_Mo_binds_140 rfl (tokI (by decide)) rfl rfl ?_
                          exact ret_e (by unfold bdV; grind) rfl
                        · skip
                          refine G_iload (i := 0) (n := 0) (len := 1) (Or.inl ⟨0, rfl, rfl, d_Mo_binds_111⟩) rfl (G_pc (pc' := 112) rfl ?_)
                          refine G_bipush (n := 28) d_Mo_binds_112 (by decide) (G_pc (pc' := 114) rfl ?_)
                          refine G_icmp_ne (tgt := 122) d_Mo_binds_114 (by decide) (fun h31 => ?_) (fun h31 => G_pc (pc' := 117) rfl ?_)
                          · skip
                            refine G_iload (i := 0) (n := 0) (len := 1) (Or.inl ⟨0, rfl, rfl, d_Mo_binds_122⟩) rfl (G_pc (pc' := 123) rfl ?_)
                            refine G_bipush (n := 29) d_Mo_binds_123 (by decide) (G_pc (pc' := 125) rfl ?_)
                            refine G_icmp_lt (tgt := 139) d_Mo_binds_125 (by decide) (fun h32 => ?_) (fun h32 => G_pc (pc' := 128) rfl ?_)
                            · skip
                              refine G_iconst (n := 0) d_Mo_binds_139 (by decide) (G_pc (pc' := 140) rfl ?_)
                              refine G_iret d_Mo_binds_140 rfl (tokI (by decide)) rfl rfl ?_
                              exact ret_e (by unfold bdV; grind) rfl
                            · skip
                              refine G_iload (i := 0) (n := 0) (len := 1) (Or.inl ⟨0, rfl, rfl, d_Mo_binds_128⟩) rfl (G_pc (pc' := 129) rfl ?_)
                              refine G_bipush (n := 31) d_Mo_binds_129 (by decide) (G_pc (pc' := 131) rfl ?_)
                              refine G_icmp_gt (tgt := 139) d_Mo_binds_131 (by decide) (fun h33 => ?_) (fun h33 => G_pc (pc' := 134) rfl ?_)
                              · skip
                                refine G_iconst (n := 0) d_Mo_binds_139 (by decide) (G_pc (pc' := 140) rfl ?_)
                                refine G_iret d_Mo_binds_140 rfl (tokI (by decide)) rfl rfl ?_
                                exact ret_e (by unfold bdV; grind) rfl
                              · skip
                                refine G_bipush (n := 10) d_Mo_binds_134 (by decide) (G_pc (pc' := 136) rfl ?_)
                                refine G_goto (tgt := 140) d_Mo_binds_136 (by decide) ?_
                                refine G_iret d_Mo_binds_140 rfl (tokI (by decide)) rfl rfl ?_
                                exact ret_e (by unfold bdV; grind) rfl
                          · skip
                            refine G_bipush (n := 9) d_Mo_binds_117 (by decide) (G_pc (pc' := 119) rfl ?_)
                            refine G_goto (tgt := 140) d_Mo_binds_119 (by decide) ?_
                            refine G_iret d_Mo_binds_140 rfl (tokI (by decide)) rfl rfl ?_
                            exact ret_e (by unfold bdV; grind) rfl
                      · skip
                        refine G_bipush (n := 8) d_Mo_binds_100 (by decide) (G_pc (pc' := 102) rfl ?_)
                        refine G_goto (tgt := 140) d_Mo_binds_102 (by decide) ?_
                        refine G_iret d_Mo_binds_140 rfl (tokI (by decide)) rfl rfl ?_
                        exact ret_e (by unfold bdV; grind) rfl
                  · skip
                    refine G_bipush (n := 7) d_Mo_binds_83 (by decide) (G_pc (pc' := 85) rfl ?_)
                    refine G_goto (tgt := 140) d_Mo_binds_85 (by decide) ?_
                    refine G_iret d_Mo_binds_140 rfl (tokI (by decide)) rfl rfl ?_
                    exact ret_e (by unfold bdV; grind) rfl
              · skip
                refine G_bipush (n := 6) d_Mo_binds_68 (by decide) (G_pc (pc' := 70) rfl ?_)
                refine G_iret d_Mo_binds_70 rfl (tokI (by decide)) rfl rfl ?_
                exact ret_e (by unfold bdV; grind) rfl
          · skip
            refine G_iload (i := 0) (n := 0) (len := 1) (Or.inl ⟨0, rfl, rfl, d_Mo_binds_34⟩) rfl (G_pc (pc' := 35) rfl ?_)
            refine G_bipush (n := 45) d_Mo_binds_35 (by decide) (G_pc (pc' := 37) rfl ?_)
            refine G_icmp_ne (tgt := 44) d_Mo_binds_37 (by decide) (fun h34 => ?_) (fun h34 => G_pc (pc' := 40) rfl ?_)
            · skip
              refine G_iload (i := 0) (n := 0) (len := 1) (Or.inl ⟨0, rfl, rfl, d_Mo_binds_44⟩) rfl (G_pc (pc' := 45) rfl ?_)
              refine G_bipush (n := 47) d_Mo_binds_45 (by decide) (G_pc (pc' := 47) rfl ?_)
              refine G_icmp_ne (tgt := 54) d_Mo_binds_47 (by decide) (fun h35 => ?_) (fun h35 => G_pc (pc' := 50) rfl ?_)
              · skip
                refine G_iconst (n := 5) d_Mo_binds_54 (by decide) (G_pc (pc' := 55) rfl ?_)
                refine G_iret d_Mo_binds_55 rfl (tokI (by decide)) rfl rfl ?_
                exact ret_e (by unfold bdV; grind) rfl
              · skip
                refine G_iconst (n := 4) d_Mo_binds_50 (by decide) (G_pc (pc' := 51) rfl ?_)
                refine G_goto (tgt := 55) d_Mo_binds_51 (by decide) ?_
                refine G_iret d_Mo_binds_55 rfl (tokI (by decide)) rfl rfl ?_
                exact ret_e (by unfold bdV; grind) rfl
            · skip
              refine G_iconst (n := 3) d_Mo_binds_40 (by decide) (G_pc (pc' := 41) rfl ?_)
              refine G_goto (tgt := 55) d_Mo_binds_41 (by decide) ?_
              refine G_iret d_Mo_binds_55 rfl (tokI (by decide)) rfl rfl ?_
              exact ret_e (by unfold bdV; grind) rfl
    · skip
      refine G_iconst (n := 2) d_Mo_binds_14 (by decide) (G_pc (pc' := 15) rfl ?_)
      refine G_iret d_Mo_binds_15 rfl (tokI (by decide)) rfl rfl ?_
      exact ret_e (by unfold bdV; grind) rfl
  · skip
    refine G_iconst (n := 1) d_Mo_binds_6 (by decide) (G_pc (pc' := 7) rfl ?_)
    refine G_iret d_Mo_binds_7 rfl (tokI (by decide)) rfl rfl ?_
    exact ret_e (by unfold bdV; grind) rfl

theorem d_Mo_top_0 : decode b_Mo_top 0 = .ok (.aload_n 0, 1) := by decide +kernel
theorem d_Mo_top_1 : decode b_Mo_top 1 = .ok (.getfield 213, 3) := by decide +kernel
theorem d_Mo_top_4 : decode b_Mo_top 4 = .ok (.ifCond .ne 7, 3) := by decide +kernel
theorem d_Mo_top_7 : decode b_Mo_top 7 = .ok (.iconst 0, 1) := by decide +kernel
theorem d_Mo_top_8 : decode b_Mo_top 8 = .ok (.goto 14, 3) := by decide +kernel
theorem d_Mo_top_11 : decode b_Mo_top 11 = .ok (.aload_n 0, 1) := by decide +kernel
theorem d_Mo_top_12 : decode b_Mo_top 12 = .ok (.getfield 99, 3) := by decide +kernel
theorem d_Mo_top_15 : decode b_Mo_top 15 = .ok (.aload_n 0, 1) := by decide +kernel
theorem d_Mo_top_16 : decode b_Mo_top 16 = .ok (.getfield 213, 3) := by decide +kernel
theorem d_Mo_top_19 : decode b_Mo_top 19 = .ok (.iconst 1, 1) := by decide +kernel
theorem d_Mo_top_20 : decode b_Mo_top 20 = .ok (.isub, 1) := by decide +kernel
theorem d_Mo_top_21 : decode b_Mo_top 21 = .ok (.iaload, 1) := by decide +kernel
theorem d_Mo_top_22 : decode b_Mo_top 22 = .ok (.ireturn, 1) := by decide +kernel
theorem g_Mo_top {X : WX} {d : Nat} (hd : 0 ≤ d)  (M : Mem) (hW : 0 ≤ M 55 39 ∧ M 55 39 ≤ 32) : MG X gt d KE KE y_Mo_top b_Mo_top 1 (some .int) [vr 55] M (fun r M' => r = some (vi (topM M)) ∧ M' = M) := by
  refine MG_of_G (by decide) (Nat.le_of_ble_eq_true rfl) (Nat.le_refl _) (by decide) ?_
  show G X gt d KE KE y_Mo_top b_Mo_top 1 (some .int) _ 0 [(0, vr 55)] [] KE M
  refine G_aload (i := 0) (n := 0) (len := 1) (Or.inl ⟨0, rfl, rfl, d_Mo_top_0⟩) rfl (by decide) (G_pc (pc' := 1) rfl ?_)
  refine G_get (o := 55) (c := 9) (k := 39) (v := M 55 39) d_Mo_top_1 fl_Mo_213 rfl (by decide) (by decide) rfl rfl (G_pc (pc' := 4) rfl ?_)
  refine G_if_ne (tgt := 11) d_Mo_top_4 (by decide) (fun h1 => ?_) (fun h1 => G_pc (pc' := 7) rfl ?_)
  · skip
    refine G_aload (i := 0) (n := 0) (len := 1) (Or.inl ⟨0, rfl, rfl, d_Mo_top_11⟩) rfl (by decide) (G_pc (pc' := 12) rfl ?_)
    refine G_get (o := 55) (c := 9) (k := 40) (v := 85) d_Mo_top_12 fl_Mo_99 rfl (by decide) (by decide) rfl rfl (G_pc (pc' := 15) rfl ?_)
    refine G_aload (i := 0) (n := 0) (len := 1) (Or.inl ⟨0, rfl, rfl, d_Mo_top_15⟩) rfl (by decide) (G_pc (pc' := 16) rfl ?_)
    refine G_get (o := 55) (c := 9) (k := 39) (v := M 55 39) d_Mo_top_16 fl_Mo_213 rfl (by decide) (by decide) rfl rfl (G_pc (pc' := 19) rfl ?_)
    refine G_iconst (n := 1) d_Mo_top_19 (by decide) (G_pc (pc' := 20) rfl ?_)
    refine G_isub d_Mo_top_20 (by omega) (G_pc (pc' := 21) rfl ?_)
    refine G_iaload (o := 85) (n := 32) (i := (M 55 39) - 1) (v := M 85 ((M 55 39) - 1)) d_Mo_top_21 rfl ⟨by decide, by decide⟩ (by omega) (rd_arr rfl) (fun t2 => G_pc (pc' := 22) rfl ?_)
    have t2 := tok_i t2
    refine G_iret d_Mo_top_22 rfl (tokI (by omega)) rfl rfl ?_
    exact ret_e (by unfold topM; grind) rfl
  · skip
    refine G_iconst (n := 0) d_Mo_top_7 (by decide) (G_pc (pc' := 8) rfl ?_)
    refine G_goto (tgt := 22) d_Mo_top_8 (by decide) ?_
    refine G_iret d_Mo_top_22 rfl (tokI (by decide)) rfl rfl ?_
    exact ret_e (by unfold topM; grind) rfl

theorem d_Mo_tokenAt_0 : decode b_Mo_tokenAt 0 = .ok (.iload_n 1, 1) := by decide +kernel
theorem d_Mo_tokenAt_1 : decode b_Mo_tokenAt 1 = .ok (.aload_n 0, 1) := by decide +kernel
theorem d_Mo_tokenAt_2 : decode b_Mo_tokenAt 2 = .ok (.getfield 163, 3) := by decide +kernel
theorem d_Mo_tokenAt_5 : decode b_Mo_tokenAt 5 = .ok (.if_icmp .ge 12, 3) := by decide +kernel
theorem d_Mo_tokenAt_8 : decode b_Mo_tokenAt 8 = .ok (.aload_n 0, 1) := by decide +kernel
theorem d_Mo_tokenAt_9 : decode b_Mo_tokenAt 9 = .ok (.getfield 66, 3) := by decide +kernel
theorem d_Mo_tokenAt_12 : decode b_Mo_tokenAt 12 = .ok (.iload_n 1, 1) := by decide +kernel
theorem d_Mo_tokenAt_13 : decode b_Mo_tokenAt 13 = .ok (.iaload, 1) := by decide +kernel
theorem d_Mo_tokenAt_14 : decode b_Mo_tokenAt 14 = .ok (.goto 4, 3) := by decide +kernel
theorem d_Mo_tokenAt_17 : decode b_Mo_tokenAt 17 = .ok (.iconst 0, 1) := by decide +kernel
theorem d_Mo_tokenAt_18 : decode b_Mo_tokenAt 18 = .ok (.ireturn, 1) := by decide +kernel
theorem g_Mo_tokenAt {X : WX} {d : Nat} (hd : 0 ≤ d) (k : Int) (M : Mem) (hk : 0 ≤ k) (hT : M 55 25 ≤ 25) : MG X gt d KE KE y_Mo_tokenAt b_Mo_tokenAt 2 (some .int) [vr 55, vi k] M (fun r M' => r = some (vi (tkA M k)) ∧ M' = M) := by
  refine MG_of_G (by decide) (Nat.le_of_ble_eq_true rfl) (Nat.le_refl _) (by decide) ?_
  show G X gt d KE KE y_Mo_tokenAt b_Mo_tokenAt 2 (some .int) _ 0 [(0, vr 55), (1, vi k)] [] KE M
  refine G_rngl (i := 1) rfl (fun hr1 => ?_)
  refine G_iload (i := 1) (n := 1) (len := 1) (Or.inl ⟨1, rfl, rfl, d_Mo_tokenAt_0⟩) rfl (G_pc (pc' := 1) rfl ?_)
  refine G_aload (i := 0) (n := 0) (len := 1) (Or.inl ⟨0, rfl, rfl, d_Mo_tokenAt_1⟩) rfl (by decide) (G_pc (pc' := 2) rfl ?_)
  refine G_get (o := 55) (c := 9) (k := 25) (v := M 55 25) d_Mo_tokenAt_2 fl_Mo_163 rfl (by decide) (by decide) rfl rfl (G_pc (pc' := 5) rfl ?_)
  refine G_icmp_ge (tgt := 17) d_Mo_tokenAt_5 (by decide) (fun h1 => ?_) (fun h1 => G_pc (pc' := 8) rfl ?_)
  · skip
    refine G_iconst (n := 0) d_Mo_tokenAt_17 (by decide) (G_pc (pc' := 18) rfl ?_)
    refine G_iret d_Mo_tokenAt_18 rfl (tokI (by decide)) rfl rfl ?_
    exact ret_e (by unfold tkA; grind) rfl
  · skip
    refine G_aload (i := 0) (n := 0) (len := 1) (Or.inl ⟨0, rfl, rfl, d_Mo_tokenAt_8⟩) rfl (by decide) (G_pc (pc' := 9) rfl ?_)
    refine G_get (o := 55) (c := 9) (k := 26) (v := 74) d_Mo_tokenAt_9 fl_Mo_66 rfl (by decide) (by decide) rfl rfl (G_pc (pc' := 12) rfl ?_)
    refine G_iload (i := 1) (n := 1) (len := 1) (Or.inl ⟨1, rfl, rfl, d_Mo_tokenAt_12⟩) rfl (G_pc (pc' := 13) rfl ?_)
    refine G_iaload (o := 74) (n := 25) (i := k) (v := M 74 k) d_Mo_tokenAt_13 rfl ⟨by decide, by decide⟩ (by omega) (rd_arr rfl) (fun t2 => G_pc (pc' := 14) rfl ?_)
    have t2 := tok_i t2
    refine G_goto (tgt := 18) d_Mo_tokenAt_14 (by decide) ?_
    refine G_iret d_Mo_tokenAt_18 rfl (tokI (by omega)) rfl rfl ?_
    exact ret_e (by unfold tkA; grind) rfl

