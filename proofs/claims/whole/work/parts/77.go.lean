def mK (M : Mem) (K : Int → Int) : Mem := fun c j => if c = 81 then K j else M c j
def kcF (M : Mem) (K : Int → Int) (n : Int) : Int := kchk M (M 76 n) (w32 (M 80 n)) (K (M 77 n)) (K (M 78 n)) (K (M 79 n))
/-- what a node must be, for its kind to be told -/
def kcH (M : Mem) (K : Int → Int) (n : Int) : Prop := (1 ≤ M 76 n ∧ M 76 n ≤ 133) ∧ (M 76 n = 7 ∨ M 76 n = 60 → 0 ≤ w32 (M 80 n) ∧ w32 (M 80 n) < 26)
  ∧ (8 ≤ M 76 n → (0 ≤ M 77 n ∧ M 77 n < 32) ∧ 0 ≤ K (M 77 n) ∧ K (M 77 n) < 18)
  ∧ (8 ≤ M 76 n ∧ M 76 n ≤ 100 ∧ ¬ M 76 n = 60 ∧ ¬ M 76 n = 61 ∧ ¬ M 76 n = 63 ∧ ¬ M 76 n = 64 → (0 ≤ M 78 n ∧ M 78 n < 32) ∧ 0 ≤ K (M 78 n) ∧ K (M 78 n) < 18)
  ∧ (M 76 n = 65 → (0 ≤ M 79 n ∧ M 79 n < 32) ∧ 0 ≤ K (M 79 n) ∧ K (M 79 n) < 18)
def cmN (f : (Int → Int) → Int → Int) : Nat → Int → (Int → Int) → (Int → Int) × Bool
  | 0, _, K => (K, true)
  | n + 1, i, K => if f K i < 0 then (kup K i (f K i), false) else cmN f n (i + 1) (kup K i (f K i))
theorem cmN_no {f : (Int → Int) → Int → Int} {n : Nat} {i : Int} {K : Int → Int} (h : f K i < 0) : cmN f (n + 1) i K = (kup K i (f K i), false) := by simp [cmN, h]
theorem cmN_yes {f : (Int → Int) → Int → Int} {n : Nat} {i : Int} {K : Int → Int} (h : ¬ f K i < 0) : cmN f (n + 1) i K = cmN f n (i + 1) (kup K i (f K i)) := by simp [cmN, h]
def cmD (M : Mem) : (Int → Int) × Bool := cmN (kcF M) (M 55 28).toNat 0 (fun j => M 81 j)
theorem mK_0 {M : Mem} : M = mK M (fun j => M 81 j) := by
  funext c j; unfold mK; split
  · subst_vars; rfl
  · rfl
theorem mK_s {M : Mem} {K : Int → Int} {i v : Int} : mset (mK M K) 81 i v = mK M (kup K i v) := by
  funext c j; unfold mset mK kup; grind
theorem mK_chk {M : Mem} {K : Int → Int} {n : Int} : checkM (mK M K) n = kcF M K n := rfl
/-- the nodes are such that the kinds of earlier ones are enough -/
def chH (M : Mem) : Prop := (0 ≤ M 55 28 ∧ M 55 28 ≤ 32) ∧ okP M ∧ (0 ≤ M 55 0 ∧ M 55 0 ≤ 6) ∧ ∀ n K, 0 ≤ n → n < M 55 28 → (∀ j, 0 ≤ j → j < n → 0 ≤ K j ∧ K j < 18) → kcH M K n ∧ kcF M K n < 18 ∧ -1 ≤ kcF M K n
theorem kup_r {K : Int → Int} {i v : Int} (h : ∀ j, 0 ≤ j → j < i → 0 ≤ K j ∧ K j < 18) (hv : 0 ≤ v ∧ v < 18) : ∀ j, 0 ≤ j → j < i + 1 → 0 ≤ kup K i v j ∧ kup K i v j < 18 := by
  intro j h0 h1
  unfold kup
  split
  · exact hv
  · exact h j h0 (by omega)
def gwM (W4 : Mem) (e z : Int) : Mem := mset (mset (mset W4 66 e z) 68 e (W4 55 46)) 69 e (W4 83 (W4 84 0))
def gwQ (e : Int) (W M' : Mem) : Prop := ∃ z W4, workQ W (some (vi z)) W4 ∧ ((¬ z = 1 ∧ M' = gwM W4 e z) ∨ (z = 1 ∧ ¬ W4 55 11 = 0 ∧ M' = mset (gwM W4 e z) 66 e 7) ∨ (z = 1 ∧ W4 55 11 = 0 ∧ hasReq (mset (gwM W4 e z) 70 e (W4 55 47)) (W4 55 47) ∧ M' = mset (gwM W4 e z) 70 e (W4 55 47)) ∨ (z = 1 ∧ W4 55 11 = 0 ∧ ¬ hasReq (mset (gwM W4 e z) 70 e (W4 55 47)) (W4 55 47) ∧ M' = sendM (mset (gwM W4 e z) 70 e (W4 55 47)) (W4 55 47)))
def gkM (W2 : Mem) (e : Int) : Mem := mset (mK W2 (cmD W2).1) 67 e ((cmD W2).1 (W2 84 0))
def glQ (e : Int) (W2 M' : Mem) : Prop := ((cmD W2).2 = false ∧ M' = mset (mK W2 (cmD W2).1) 66 e 5) ∨ ((cmD W2).2 = true ∧ gwQ e (gkM W2 e) M')
def go0 (M : Mem) (e : Int) : Mem := mset (mset (mset M 70 e (-1)) 68 e 0) 67 e (-1)
def goQ (e : Int) (M M' : Mem) : Prop := ∃ W1, W1 = splitM (go0 M e) e ∧ ((¬ W1 55 44 = 0 ∧ M' = mset W1 66 e 4) ∨ (W1 55 44 = 0 ∧ parseF W1 = none ∧ ∃ W2, frP W1 W2 ∧ M' = mset W2 66 e 4) ∨ (W1 55 44 = 0 ∧ ∃ N O o a cl W2, parseF W1 = some (N, O, [], o, a, cl) ∧ RP W1 W2 N O [] o a cl 0 ∧ glQ e W2 M'))
/-- what must be known for the model's go -/
def wkH (W2 : Mem) (e : Int) : Prop := (0 ≤ W2 84 0 ∧ W2 84 0 < 32) ∧ ((cmD W2).2 = true → ∃ I, WInv I ∧ I (work0 (gkM W2 e))) ∧ ∀ r W4, workQ (gkM W2 e) r W4 → (0 ≤ W4 84 0 ∧ W4 84 0 < 32) ∧ (0 ≤ W4 55 21 ∧ W4 55 21 ≤ 400) ∧ (0 ≤ W4 55 24 ∧ W4 55 24 ≤ 400)
def goM (e : Int) (M : Mem) : Prop := okL (go0 M e) ∧ okT (go0 M e) e ∧ (splitM (go0 M e) e 55 44 = 0 → (0 ≤ splitM (go0 M e) e 55 25 ∧ splitM (go0 M e) e 55 25 ≤ 24) ∧ ∀ j, 8 ≤ tkA (splitM (go0 M e) e) j → tkA (splitM (go0 M e) e) j ≤ 12 → 0 ≤ splitM (go0 M e) e 75 j ∧ splitM (go0 M e) e 75 j < 6)
  ∧ ∀ N O o a cl W2, splitM (go0 M e) e 55 44 = 0 → parseF (splitM (go0 M e) e) = some (N, O, [], o, a, cl) → RP (splitM (go0 M e) e) W2 N O [] o a cl 0 → chH W2 ∧ wkH W2 e
theorem d_Mo_go_0 : decode b_Mo_go 0 = .ok (.aload_n 0, 1) := by decide +kernel
theorem d_Mo_go_1 : decode b_Mo_go 1 = .ok (.getfield 54, 3) := by decide +kernel
theorem d_Mo_go_4 : decode b_Mo_go 4 = .ok (.iload_n 1, 1) := by decide +kernel
theorem d_Mo_go_5 : decode b_Mo_go 5 = .ok (.iconst (-1), 1) := by decide +kernel
theorem d_Mo_go_6 : decode b_Mo_go 6 = .ok (.iastore, 1) := by decide +kernel
theorem d_Mo_go_7 : decode b_Mo_go 7 = .ok (.aload_n 0, 1) := by decide +kernel
theorem d_Mo_go_8 : decode b_Mo_go 8 = .ok (.getfield 48, 3) := by decide +kernel
theorem d_Mo_go_11 : decode b_Mo_go 11 = .ok (.iload_n 1, 1) := by decide +kernel
theorem d_Mo_go_12 : decode b_Mo_go 12 = .ok (.iconst 0, 1) := by decide +kernel
theorem d_Mo_go_13 : decode b_Mo_go 13 = .ok (.iastore, 1) := by decide +kernel
theorem d_Mo_go_14 : decode b_Mo_go 14 = .ok (.aload_n 0, 1) := by decide +kernel
theorem d_Mo_go_15 : decode b_Mo_go 15 = .ok (.getfield 45, 3) := by decide +kernel
theorem d_Mo_go_18 : decode b_Mo_go 18 = .ok (.iload_n 1, 1) := by decide +kernel
theorem d_Mo_go_19 : decode b_Mo_go 19 = .ok (.iconst (-1), 1) := by decide +kernel
theorem d_Mo_go_20 : decode b_Mo_go 20 = .ok (.iastore, 1) := by decide +kernel
theorem d_Mo_go_21 : decode b_Mo_go 21 = .ok (.aload_n 0, 1) := by decide +kernel
theorem d_Mo_go_22 : decode b_Mo_go 22 = .ok (.iload_n 1, 1) := by decide +kernel
theorem d_Mo_go_23 : decode b_Mo_go 23 = .ok (.invokevirtual 307, 3) := by decide +kernel
theorem d_Mo_go_26 : decode b_Mo_go 26 = .ok (.aload_n 0, 1) := by decide +kernel
theorem d_Mo_go_27 : decode b_Mo_go 27 = .ok (.getfield 166, 3) := by decide +kernel
theorem d_Mo_go_30 : decode b_Mo_go 30 = .ok (.ifCond .ne 7, 3) := by decide +kernel
theorem d_Mo_go_33 : decode b_Mo_go 33 = .ok (.aload_n 0, 1) := by decide +kernel
theorem d_Mo_go_34 : decode b_Mo_go 34 = .ok (.invokevirtual 310, 3) := by decide +kernel
theorem d_Mo_go_37 : decode b_Mo_go 37 = .ok (.aload_n 0, 1) := by decide +kernel
theorem d_Mo_go_38 : decode b_Mo_go 38 = .ok (.getfield 166, 3) := by decide +kernel
theorem d_Mo_go_41 : decode b_Mo_go 41 = .ok (.ifCond .eq 11, 3) := by decide +kernel
theorem d_Mo_go_44 : decode b_Mo_go 44 = .ok (.aload_n 0, 1) := by decide +kernel
theorem d_Mo_go_45 : decode b_Mo_go 45 = .ok (.getfield 42, 3) := by decide +kernel
theorem d_Mo_go_48 : decode b_Mo_go 48 = .ok (.iload_n 1, 1) := by decide +kernel
theorem d_Mo_go_49 : decode b_Mo_go 49 = .ok (.iconst 4, 1) := by decide +kernel
theorem d_Mo_go_50 : decode b_Mo_go 50 = .ok (.iastore, 1) := by decide +kernel
theorem d_Mo_go_51 : decode b_Mo_go 51 = .ok (.return_, 1) := by decide +kernel
theorem d_Mo_go_52 : decode b_Mo_go 52 = .ok (.iconst 0, 1) := by decide +kernel
theorem d_Mo_go_53 : decode b_Mo_go 53 = .ok (.istore_n 2, 1) := by decide +kernel
theorem d_Mo_go_54 : decode b_Mo_go 54 = .ok (.iload_n 2, 1) := by decide +kernel
theorem d_Mo_go_55 : decode b_Mo_go 55 = .ok (.aload_n 0, 1) := by decide +kernel
theorem d_Mo_go_56 : decode b_Mo_go 56 = .ok (.getfield 207, 3) := by decide +kernel
theorem d_Mo_go_59 : decode b_Mo_go 59 = .ok (.if_icmp .ge 37, 3) := by decide +kernel
theorem d_Mo_go_62 : decode b_Mo_go 62 = .ok (.aload_n 0, 1) := by decide +kernel
theorem d_Mo_go_63 : decode b_Mo_go 63 = .ok (.getfield 87, 3) := by decide +kernel
theorem d_Mo_go_66 : decode b_Mo_go 66 = .ok (.iload_n 2, 1) := by decide +kernel
theorem d_Mo_go_67 : decode b_Mo_go 67 = .ok (.aload_n 0, 1) := by decide +kernel
theorem d_Mo_go_68 : decode b_Mo_go 68 = .ok (.iload_n 2, 1) := by decide +kernel
theorem d_Mo_go_69 : decode b_Mo_go 69 = .ok (.invokevirtual 313, 3) := by decide +kernel
theorem d_Mo_go_72 : decode b_Mo_go 72 = .ok (.iastore, 1) := by decide +kernel
theorem d_Mo_go_73 : decode b_Mo_go 73 = .ok (.aload_n 0, 1) := by decide +kernel
theorem d_Mo_go_74 : decode b_Mo_go 74 = .ok (.getfield 87, 3) := by decide +kernel
theorem d_Mo_go_77 : decode b_Mo_go 77 = .ok (.iload_n 2, 1) := by decide +kernel
theorem d_Mo_go_78 : decode b_Mo_go 78 = .ok (.iaload, 1) := by decide +kernel
theorem d_Mo_go_79 : decode b_Mo_go 79 = .ok (.ifCond .ge 11, 3) := by decide +kernel
theorem d_Mo_go_82 : decode b_Mo_go 82 = .ok (.aload_n 0, 1) := by decide +kernel
theorem d_Mo_go_83 : decode b_Mo_go 83 = .ok (.getfield 42, 3) := by decide +kernel
theorem d_Mo_go_86 : decode b_Mo_go 86 = .ok (.iload_n 1, 1) := by decide +kernel
theorem d_Mo_go_87 : decode b_Mo_go 87 = .ok (.iconst 5, 1) := by decide +kernel
theorem d_Mo_go_88 : decode b_Mo_go 88 = .ok (.iastore, 1) := by decide +kernel
theorem d_Mo_go_89 : decode b_Mo_go 89 = .ok (.return_, 1) := by decide +kernel
theorem d_Mo_go_90 : decode b_Mo_go 90 = .ok (.iinc 2 1, 3) := by decide +kernel
theorem d_Mo_go_93 : decode b_Mo_go 93 = .ok (.goto (-39), 3) := by decide +kernel
theorem d_Mo_go_96 : decode b_Mo_go 96 = .ok (.aload_n 0, 1) := by decide +kernel
theorem d_Mo_go_97 : decode b_Mo_go 97 = .ok (.getfield 45, 3) := by decide +kernel
theorem d_Mo_go_100 : decode b_Mo_go 100 = .ok (.iload_n 1, 1) := by decide +kernel
theorem d_Mo_go_101 : decode b_Mo_go 101 = .ok (.aload_n 0, 1) := by decide +kernel
theorem d_Mo_go_102 : decode b_Mo_go 102 = .ok (.getfield 87, 3) := by decide +kernel
theorem d_Mo_go_105 : decode b_Mo_go 105 = .ok (.aload_n 0, 1) := by decide +kernel
theorem d_Mo_go_106 : decode b_Mo_go 106 = .ok (.getfield 96, 3) := by decide +kernel
theorem d_Mo_go_109 : decode b_Mo_go 109 = .ok (.iconst 0, 1) := by decide +kernel
theorem d_Mo_go_110 : decode b_Mo_go 110 = .ok (.iaload, 1) := by decide +kernel
theorem d_Mo_go_111 : decode b_Mo_go 111 = .ok (.iaload, 1) := by decide +kernel
theorem d_Mo_go_112 : decode b_Mo_go 112 = .ok (.iastore, 1) := by decide +kernel
theorem d_Mo_go_113 : decode b_Mo_go 113 = .ok (.aload_n 0, 1) := by decide +kernel
theorem d_Mo_go_114 : decode b_Mo_go 114 = .ok (.getfield 42, 3) := by decide +kernel
theorem d_Mo_go_117 : decode b_Mo_go 117 = .ok (.iload_n 1, 1) := by decide +kernel
theorem d_Mo_go_118 : decode b_Mo_go 118 = .ok (.aload_n 0, 1) := by decide +kernel
theorem d_Mo_go_119 : decode b_Mo_go 119 = .ok (.invokevirtual 316, 3) := by decide +kernel
theorem d_Mo_go_122 : decode b_Mo_go 122 = .ok (.iastore, 1) := by decide +kernel
theorem d_Mo_go_123 : decode b_Mo_go 123 = .ok (.aload_n 0, 1) := by decide +kernel
theorem d_Mo_go_124 : decode b_Mo_go 124 = .ok (.getfield 48, 3) := by decide +kernel
theorem d_Mo_go_127 : decode b_Mo_go 127 = .ok (.iload_n 1, 1) := by decide +kernel
theorem d_Mo_go_128 : decode b_Mo_go 128 = .ok (.aload_n 0, 1) := by decide +kernel
theorem d_Mo_go_129 : decode b_Mo_go 129 = .ok (.getfield 280, 3) := by decide +kernel
theorem d_Mo_go_132 : decode b_Mo_go 132 = .ok (.iastore, 1) := by decide +kernel
theorem d_Mo_go_133 : decode b_Mo_go 133 = .ok (.aload_n 0, 1) := by decide +kernel
theorem d_Mo_go_134 : decode b_Mo_go 134 = .ok (.getfield 51, 3) := by decide +kernel
theorem d_Mo_go_137 : decode b_Mo_go 137 = .ok (.iload_n 1, 1) := by decide +kernel
theorem d_Mo_go_138 : decode b_Mo_go 138 = .ok (.aload_n 0, 1) := by decide +kernel
theorem d_Mo_go_139 : decode b_Mo_go 139 = .ok (.getfield 93, 3) := by decide +kernel
theorem d_Mo_go_142 : decode b_Mo_go 142 = .ok (.aload_n 0, 1) := by decide +kernel
theorem d_Mo_go_143 : decode b_Mo_go 143 = .ok (.getfield 96, 3) := by decide +kernel
theorem d_Mo_go_146 : decode b_Mo_go 146 = .ok (.iconst 0, 1) := by decide +kernel
theorem d_Mo_go_147 : decode b_Mo_go 147 = .ok (.iaload, 1) := by decide +kernel
theorem d_Mo_go_148 : decode b_Mo_go 148 = .ok (.laload, 1) := by decide +kernel
theorem d_Mo_go_149 : decode b_Mo_go 149 = .ok (.lastore, 1) := by decide +kernel
theorem d_Mo_go_150 : decode b_Mo_go 150 = .ok (.aload_n 0, 1) := by decide +kernel
theorem d_Mo_go_151 : decode b_Mo_go 151 = .ok (.getfield 42, 3) := by decide +kernel
theorem d_Mo_go_154 : decode b_Mo_go 154 = .ok (.iload_n 1, 1) := by decide +kernel
theorem d_Mo_go_155 : decode b_Mo_go 155 = .ok (.iaload, 1) := by decide +kernel
theorem d_Mo_go_156 : decode b_Mo_go 156 = .ok (.iconst 1, 1) := by decide +kernel
theorem d_Mo_go_157 : decode b_Mo_go 157 = .ok (.if_icmp .ne 18, 3) := by decide +kernel
theorem d_Mo_go_160 : decode b_Mo_go 160 = .ok (.aload_n 0, 1) := by decide +kernel
theorem d_Mo_go_161 : decode b_Mo_go 161 = .ok (.getfield 157, 3) := by decide +kernel
theorem d_Mo_go_164 : decode b_Mo_go 164 = .ok (.ifCond .eq 11, 3) := by decide +kernel
theorem d_Mo_go_167 : decode b_Mo_go 167 = .ok (.aload_n 0, 1) := by decide +kernel
theorem d_Mo_go_168 : decode b_Mo_go 168 = .ok (.getfield 42, 3) := by decide +kernel
theorem d_Mo_go_171 : decode b_Mo_go 171 = .ok (.iload_n 1, 1) := by decide +kernel
theorem d_Mo_go_172 : decode b_Mo_go 172 = .ok (.bipush 7, 2) := by decide +kernel
theorem d_Mo_go_174 : decode b_Mo_go 174 = .ok (.iastore, 1) := by decide +kernel
theorem d_Mo_go_175 : decode b_Mo_go 175 = .ok (.aload_n 0, 1) := by decide +kernel
theorem d_Mo_go_176 : decode b_Mo_go 176 = .ok (.getfield 42, 3) := by decide +kernel
theorem d_Mo_go_179 : decode b_Mo_go 179 = .ok (.iload_n 1, 1) := by decide +kernel
theorem d_Mo_go_180 : decode b_Mo_go 180 = .ok (.iaload, 1) := by decide +kernel
theorem d_Mo_go_181 : decode b_Mo_go 181 = .ok (.iconst 1, 1) := by decide +kernel
theorem d_Mo_go_182 : decode b_Mo_go 182 = .ok (.if_icmp .ne 21, 3) := by decide +kernel
theorem d_Mo_go_185 : decode b_Mo_go 185 = .ok (.aload_n 0, 1) := by decide +kernel
theorem d_Mo_go_186 : decode b_Mo_go 186 = .ok (.getfield 54, 3) := by decide +kernel
theorem d_Mo_go_189 : decode b_Mo_go 189 = .ok (.iload_n 1, 1) := by decide +kernel
theorem d_Mo_go_190 : decode b_Mo_go 190 = .ok (.aload_n 0, 1) := by decide +kernel
theorem d_Mo_go_191 : decode b_Mo_go 191 = .ok (.getfield 277, 3) := by decide +kernel
theorem d_Mo_go_194 : decode b_Mo_go 194 = .ok (.iastore, 1) := by decide +kernel
theorem d_Mo_go_195 : decode b_Mo_go 195 = .ok (.aload_n 0, 1) := by decide +kernel
theorem d_Mo_go_196 : decode b_Mo_go 196 = .ok (.aload_n 0, 1) := by decide +kernel
theorem d_Mo_go_197 : decode b_Mo_go 197 = .ok (.getfield 277, 3) := by decide +kernel
theorem d_Mo_go_200 : decode b_Mo_go 200 = .ok (.invokevirtual 319, 3) := by decide +kernel
theorem d_Mo_go_203 : decode b_Mo_go 203 = .ok (.return_, 1) := by decide +kernel
set_option maxHeartbeats 1000000 in
theorem g_Mo_go {X : WX} {d : Nat} (hd : 5 ≤ d) (e : Int) (M : Mem) (he : 0 ≤ e ∧ e < 4) (hgm : goM e M) : MG X gt d KE KE y_Mo_go b_Mo_go 3 none [vr 55, vi e] M (fun r M' => r = none ∧ goQ e M M') := by
  refine MG_of_G (by decide) (Nat.le_of_ble_eq_true rfl) (Nat.le_refl _) (by decide) ?_
  show G X gt d KE KE y_Mo_go b_Mo_go 3 none _ 0 [(0, vr 55), (1, vi e)] [] KE M
  refine G_rngl (i := 1) rfl (fun hr1 => ?_)
  have loop : ∀ (W2 : Mem), chH W2 → wkH W2 e → (∀ M', glQ e W2 M' → goQ e M M') → ∀ (n : Nat) (i : Int) (K : Int → Int), i + n = W2 55 28 → 0 ≤ i → (∀ j, 0 ≤ j → j < i → 0 ≤ K j ∧ K j < 18) → cmN (kcF W2) n i K = cmD W2 → G X gt d KE KE y_Mo_go b_Mo_go 3 none (fun r M' => r = none ∧ goQ e M M') 54 [(2, vi i), (0, vr 55), (1, vi e)] [] KE (mK W2 K) := by
    intro W2 hch hwk hQ n
    have hn28 := hch.1
    induction n with
    | zero =>
      intro i K h1 h2 hA hC
      refine G_iload (i := 2) (n := 0) (len := 1) (Or.inl ⟨2, rfl, rfl, d_Mo_go_54⟩) rfl (G_pc (pc' := 55) rfl ?_)
      refine G_aload (i := 0) (n := 1) (len := 1) (Or.inl ⟨0, rfl, rfl, d_Mo_go_55⟩) rfl (by decide) (G_pc (pc' := 56) rfl ?_)
      refine G_get (o := 55) (c := 9) (k := 28) (v := (mK W2 K) 55 28) d_Mo_go_56 fl_Mo_207 rfl (by decide) (by decide) (rdw rfl (by first | rfl | (repeat (first | rfl | exact mset_eq (by omega) | refine (mset_ne (by omega)).trans ?_ | refine (mset_ni (by omega)).trans ?_)))) rfl (G_pc (pc' := 59) rfl ?_)
      refine G_mem (fun hmo _ => ?_)
      have t3101 := tok_i (Eq.mp (congrArg (tok .int) (show rd gt (mK W2 K) 55 ((28 : Nat) : Int) = (mK W2 K) 55 28 from (rdw rfl (by first | rfl | (repeat (first | rfl | exact mset_eq (by omega) | refine (mset_ne (by omega)).trans ?_ | refine (mset_ni (by omega)).trans ?_)))))) (hmo 55 (by decide) (by decide) 9 rfl 28 (by decide)))
      clear hmo
      rw [show (mK W2 K) 55 28 = W2 55 28 from rfl]
      refine G_icmp_ge (tgt := 96) d_Mo_go_59 (by decide) (fun h3102 => ?_) (fun h3102 => absurd h3102 (by omega))
      have h9 : cmD W2 = (K, true) := hC.symm
      obtain ⟨Iv, hWI, hIv⟩ := hwk.2.1 (by rw [h9])
      unfold gkM at hIv; rw [h9] at hIv
      refine G_aload (i := 0) (n := 1) (len := 1) (Or.inl ⟨0, rfl, rfl, d_Mo_go_96⟩) rfl (by decide) (G_pc (pc' := 97) rfl ?_)
      refine G_get (o := 55) (c := 9) (k := 16) (v := 67) d_Mo_go_97 fl_Mo_45 rfl (by decide) (by decide) rfl rfl (G_pc (pc' := 100) rfl ?_)
      refine G_iload (i := 1) (n := 2) (len := 1) (Or.inl ⟨1, rfl, rfl, d_Mo_go_100⟩) rfl (G_pc (pc' := 101) rfl ?_)
      refine G_aload (i := 0) (n := 1) (len := 1) (Or.inl ⟨0, rfl, rfl, d_Mo_go_101⟩) rfl (by decide) (G_pc (pc' := 102) rfl ?_)
      refine G_get (o := 55) (c := 9) (k := 34) (v := 81) d_Mo_go_102 fl_Mo_87 rfl (by decide) (by decide) rfl rfl (G_pc (pc' := 105) rfl ?_)
      refine G_aload (i := 0) (n := 1) (len := 1) (Or.inl ⟨0, rfl, rfl, d_Mo_go_105⟩) rfl (by decide) (G_pc (pc' := 106) rfl ?_)
      refine G_get (o := 55) (c := 9) (k := 38) (v := 84) d_Mo_go_106 fl_Mo_96 rfl (by decide) (by decide) rfl rfl (G_pc (pc' := 109) rfl ?_)
      refine G_iconst (n := 0) d_Mo_go_109 (by decide) (G_pc (pc' := 110) rfl ?_)
      refine G_iaload (o := 84) (n := 32) (i := 0) (v := (mK W2 K) 84 0) d_Mo_go_110 rfl ⟨by decide, by decide⟩ (by omega) (rdw (gt_arr rfl _) (by first | rfl | (repeat (first | rfl | exact mset_eq (by omega) | refine (mset_ne (by omega)).trans ?_ | refine (mset_ni (by omega)).trans ?_)))) (fun t3103 => G_pc (pc' := 111) rfl ?_)
      have t3103 := tok_i t3103
      rw [show (mK W2 K) 84 0 = W2 84 0 from rfl]
      have hw84 := hwk.1
      refine G_iaload (o := 81) (n := 32) (i := W2 84 0) (v := (mK W2 K) 81 (W2 84 0)) d_Mo_go_111 rfl ⟨by decide, by decide⟩ (by omega) (rdw (gt_arr rfl _) (by first | rfl | (repeat (first | rfl | exact mset_eq (by omega) | refine (mset_ne (by omega)).trans ?_ | refine (mset_ni (by omega)).trans ?_)))) (fun t3104 => G_pc (pc' := 112) rfl ?_)
      have t3104 := tok_i t3104
      rw [show (mK W2 K) 81 (W2 84 0) = K (W2 84 0) from rfl]
      have hkr9 : -2147483648 ≤ K (W2 84 0) ∧ K (W2 84 0) < 2147483648 := by have e9 : mK W2 K 81 (W2 84 0) = K (W2 84 0) := rfl; omega
      refine G_iastore (o := 67) (n := 4) (i := e) (x := K (W2 84 0)) d_Mo_go_112 rfl ⟨by decide, by decide⟩ (by decide) (gt_arr rfl _) (by omega) (tokI (by omega)) (G_pc (pc' := 113) rfl ?_)
      refine G_aload (i := 0) (n := 1) (len := 1) (Or.inl ⟨0, rfl, rfl, d_Mo_go_113⟩) rfl (by decide) (G_pc (pc' := 114) rfl ?_)
      refine G_get (o := 55) (c := 9) (k := 15) (v := 66) d_Mo_go_114 fl_Mo_42 rfl (by decide) (by decide) rfl rfl (G_pc (pc' := 117) rfl ?_)
      refine G_iload (i := 1) (n := 2) (len := 1) (Or.inl ⟨1, rfl, rfl, d_Mo_go_117⟩) rfl (G_pc (pc' := 118) rfl ?_)
      refine G_aload (i := 0) (n := 1) (len := 1) (Or.inl ⟨0, rfl, rfl, d_Mo_go_118⟩) rfl (by decide) (G_pc (pc' := 119) rfl ?_)
      refine G_callV (K1 := KE) (d2 := 4) (o := 55) (cl := 9) (as := []) (rest := [vi e, vr 66]) d_Mo_go_119 mf_Mo_work ml_Mo_316 rfl rfl (by decide) rfl rfl (Nat.le_of_ble_eq_true rfl) (by omega) ⟨Nat.le_refl _, Nat.le_refl _⟩ (g_Mo_work (by omega) Iv (mset (mK W2 K) 67 e (K (W2 84 0))) hWI hIv (show 0 ≤ W2 55 28 ∧ W2 55 28 ≤ 32 by omega)) (fun r3105 M3106 kq3107 q3107 => ?_)
      obtain ⟨z, hz⟩ : ∃ z, r3105 = some (vi z) := ⟨_, q3107.1⟩
      subst hz
      have hzr : -2147483648 ≤ z ∧ z < 2147483648 := kq3107 _ rfl
      have hq47 : z = 1 → 0 ≤ M3106 55 47 ∧ M3106 55 47 < 423 := fun h => (q3107.2.2 ((Sum.inl.inj (Option.some.inj q3107.1)).symm.trans h)).2
      have hwq : workQ (gkM W2 e) (some (vi z)) M3106 := by unfold gkM; rw [h9]; exact q3107
      obtain ⟨h84, h21, h24⟩ := hwk.2.2 _ _ hwq
      refine G_ps (pc' := 122) (st' := [vi z, vi e, vr 66]) rfl rfl ?_
      refine G_iastore (o := 66) (n := 4) (i := e) (x := z) d_Mo_go_122 rfl ⟨by decide, by decide⟩ (by decide) (gt_arr rfl _) (by omega) (tokI (by omega)) (G_pc (pc' := 123) rfl ?_)
      refine G_aload (i := 0) (n := 1) (len := 1) (Or.inl ⟨0, rfl, rfl, d_Mo_go_123⟩) rfl (by decide) (G_pc (pc' := 124) rfl ?_)
      refine G_get (o := 55) (c := 9) (k := 17) (v := 68) d_Mo_go_124 fl_Mo_48 rfl (by decide) (by decide) rfl rfl (G_pc (pc' := 127) rfl ?_)
      refine G_iload (i := 1) (n := 2) (len := 1) (Or.inl ⟨1, rfl, rfl, d_Mo_go_127⟩) rfl (G_pc (pc' := 128) rfl ?_)
      refine G_aload (i := 0) (n := 1) (len := 1) (Or.inl ⟨0, rfl, rfl, d_Mo_go_128⟩) rfl (by decide) (G_pc (pc' := 129) rfl ?_)
      refine G_get (o := 55) (c := 9) (k := 46) (v := M3106 55 46) d_Mo_go_129 fl_Mo_280 rfl (by decide) (by decide) (rdw rfl (by first | rfl | (repeat (first | rfl | exact mset_eq (by omega) | refine (mset_ne (by omega)).trans ?_ | refine (mset_ni (by omega)).trans ?_)))) rfl (G_pc (pc' := 132) rfl ?_)
      refine G_mem (fun hmo _ => ?_)
      have t3108 := tok_i (Eq.mp (congrArg (tok .int) (show rd gt (mset M3106 66 e z) 55 ((46 : Nat) : Int) = M3106 55 46 from (rdw rfl (by first | rfl | (repeat (first | rfl | exact mset_eq (by omega) | refine (mset_ne (by omega)).trans ?_ | refine (mset_ni (by omega)).trans ?_)))))) (hmo 55 (by decide) (by decide) 9 rfl 46 (by decide)))
      clear hmo
      refine G_iastore (o := 68) (n := 4) (i := e) (x := M3106 55 46) d_Mo_go_132 rfl ⟨by decide, by decide⟩ (by decide) (gt_arr rfl _) (by omega) (tokI (by omega)) (G_pc (pc' := 133) rfl ?_)
      refine G_aload (i := 0) (n := 1) (len := 1) (Or.inl ⟨0, rfl, rfl, d_Mo_go_133⟩) rfl (by decide) (G_pc (pc' := 134) rfl ?_)
      refine G_get (o := 55) (c := 9) (k := 18) (v := 69) d_Mo_go_134 fl_Mo_51 rfl (by decide) (by decide) rfl rfl (G_pc (pc' := 137) rfl ?_)
      refine G_iload (i := 1) (n := 2) (len := 1) (Or.inl ⟨1, rfl, rfl, d_Mo_go_137⟩) rfl (G_pc (pc' := 138) rfl ?_)
      refine G_aload (i := 0) (n := 1) (len := 1) (Or.inl ⟨0, rfl, rfl, d_Mo_go_138⟩) rfl (by decide) (G_pc (pc' := 139) rfl ?_)
      refine G_get (o := 55) (c := 9) (k := 36) (v := 83) d_Mo_go_139 fl_Mo_93 rfl (by decide) (by decide) rfl rfl (G_pc (pc' := 142) rfl ?_)
      refine G_aload (i := 0) (n := 1) (len := 1) (Or.inl ⟨0, rfl, rfl, d_Mo_go_142⟩) rfl (by decide) (G_pc (pc' := 143) rfl ?_)
      refine G_get (o := 55) (c := 9) (k := 38) (v := 84) d_Mo_go_143 fl_Mo_96 rfl (by decide) (by decide) rfl rfl (G_pc (pc' := 146) rfl ?_)
      refine G_iconst (n := 0) d_Mo_go_146 (by decide) (G_pc (pc' := 147) rfl ?_)
      refine G_iaload (o := 84) (n := 32) (i := 0) (v := M3106 84 0) d_Mo_go_147 rfl ⟨by decide, by decide⟩ (by omega) (rdw (gt_arr rfl _) (by first | rfl | (repeat (first | rfl | exact mset_eq (by omega) | refine (mset_ne (by omega)).trans ?_ | refine (mset_ni (by omega)).trans ?_)))) (fun t3109 => G_pc (pc' := 148) rfl ?_)
      have t3109 := tok_i t3109
      refine G_laload (o := 83) (n := 32) (i := M3106 84 0) (v := M3106 83 (M3106 84 0)) d_Mo_go_148 rfl ⟨by decide, by decide⟩ (by omega) (rdw (gt_arr rfl _) (by first | rfl | (repeat (first | rfl | exact mset_eq (by omega) | refine (mset_ne (by omega)).trans ?_ | refine (mset_ni (by omega)).trans ?_)))) (fun t3110 => G_pc (pc' := 149) rfl ?_)
      have t3110 := tok_l t3110
      refine G_lastore (o := 69) (n := 4) (i := e) (x := M3106 83 (M3106 84 0)) d_Mo_go_149 rfl ⟨by decide, by decide⟩ (by decide) (gt_arr rfl _) (by omega) (tokJ (by omega)) (G_pc (pc' := 150) rfl ?_)
      refine G_aload (i := 0) (n := 1) (len := 1) (Or.inl ⟨0, rfl, rfl, d_Mo_go_150⟩) rfl (by decide) (G_pc (pc' := 151) rfl ?_)
      refine G_get (o := 55) (c := 9) (k := 15) (v := 66) d_Mo_go_151 fl_Mo_42 rfl (by decide) (by decide) rfl rfl (G_pc (pc' := 154) rfl ?_)
      refine G_iload (i := 1) (n := 2) (len := 1) (Or.inl ⟨1, rfl, rfl, d_Mo_go_154⟩) rfl (G_pc (pc' := 155) rfl ?_)
      refine G_iaload (o := 66) (n := 4) (i := e) (v := z) d_Mo_go_155 rfl ⟨by decide, by decide⟩ (by omega) (rdw (gt_arr rfl _) (by first | rfl | (repeat (first | rfl | exact mset_eq (by omega) | refine (mset_ne (by omega)).trans ?_ | refine (mset_ni (by omega)).trans ?_)))) (fun t3111 => G_pc (pc' := 156) rfl ?_)
      have t3111 := tok_i t3111
      refine G_iconst (n := 1) d_Mo_go_156 (by decide) (G_pc (pc' := 157) rfl ?_)
      refine G_icmp_ne (tgt := 175) d_Mo_go_157 (by decide) (fun h3112 => ?_) (fun h3112 => G_pc (pc' := 160) rfl ?_)
      · skip
        refine G_aload (i := 0) (n := 1) (len := 1) (Or.inl ⟨0, rfl, rfl, d_Mo_go_175⟩) rfl (by decide) (G_pc (pc' := 176) rfl ?_)
        refine G_get (o := 55) (c := 9) (k := 15) (v := 66) d_Mo_go_176 fl_Mo_42 rfl (by decide) (by decide) rfl rfl (G_pc (pc' := 179) rfl ?_)
        refine G_iload (i := 1) (n := 2) (len := 1) (Or.inl ⟨1, rfl, rfl, d_Mo_go_179⟩) rfl (G_pc (pc' := 180) rfl ?_)
        refine G_iaload (o := 66) (n := 4) (i := e) (v := z) d_Mo_go_180 rfl ⟨by decide, by decide⟩ (by omega) (rdw (gt_arr rfl _) (by first | rfl | (repeat (first | rfl | exact mset_eq (by omega) | refine (mset_ne (by omega)).trans ?_ | refine (mset_ni (by omega)).trans ?_)))) (fun t3113 => G_pc (pc' := 181) rfl ?_)
        have t3113 := tok_i t3113
        refine G_iconst (n := 1) d_Mo_go_181 (by decide) (G_pc (pc' := 182) rfl ?_)
        refine G_icmp_ne (tgt := 203) d_Mo_go_182 (by decide) (fun h3114 => ?_) (fun h3114 => G_pc (pc' := 185) rfl ?_)
        · skip
          refine G_vret d_Mo_go_203 rfl rfl ?_
          refine ⟨rfl, hQ _ (Or.inr ⟨by rw [h9], z, M3106, hwq, ?_⟩)⟩
          first | exact Or.inl ⟨by assumption, rfl⟩ | exact Or.inr (Or.inl ⟨by assumption, by omega, rfl⟩)
        · skip
          have hq48 := hq47 (by assumption)
          refine G_aload (i := 0) (n := 1) (len := 1) (Or.inl ⟨0, rfl, rfl, d_Mo_go_185⟩) rfl (by decide) (G_pc (pc' := 186) rfl ?_)
          refine G_get (o := 55) (c := 9) (k := 19) (v := 70) d_Mo_go_186 fl_Mo_54 rfl (by decide) (by decide) rfl rfl (G_pc (pc' := 189) rfl ?_)
          refine G_iload (i := 1) (n := 2) (len := 1) (Or.inl ⟨1, rfl, rfl, d_Mo_go_189⟩) rfl (G_pc (pc' := 190) rfl ?_)
          refine G_aload (i := 0) (n := 1) (len := 1) (Or.inl ⟨0, rfl, rfl, d_Mo_go_190⟩) rfl (by decide) (G_pc (pc' := 191) rfl ?_)
          refine G_get (o := 55) (c := 9) (k := 47) (v := M3106 55 47) d_Mo_go_191 fl_Mo_277 rfl (by decide) (by decide) (rdw rfl (by first | rfl | (repeat (first | rfl | exact mset_eq (by omega) | refine (mset_ne (by omega)).trans ?_ | refine (mset_ni (by omega)).trans ?_)))) rfl (G_pc (pc' := 194) rfl ?_)
          refine G_mem (fun hmo _ => ?_)
          have t3115 := tok_i (Eq.mp (congrArg (tok .int) (show rd gt (mset (mset (mset M3106 66 e z) 68 e (M3106 55 46)) 69 e (M3106 83 (M3106 84 0))) 55 ((47 : Nat) : Int) = M3106 55 47 from (rdw rfl (by first | rfl | (repeat (first | rfl | exact mset_eq (by omega) | refine (mset_ne (by omega)).trans ?_ | refine (mset_ni (by omega)).trans ?_)))))) (hmo 55 (by decide) (by decide) 9 rfl 47 (by decide)))
          clear hmo
          refine G_iastore (o := 70) (n := 4) (i := e) (x := M3106 55 47) d_Mo_go_194 rfl ⟨by decide, by decide⟩ (by decide) (gt_arr rfl _) (by omega) (tokI (by omega)) (G_pc (pc' := 195) rfl ?_)
          refine G_aload (i := 0) (n := 1) (len := 1) (Or.inl ⟨0, rfl, rfl, d_Mo_go_195⟩) rfl (by decide) (G_pc (pc' := 196) rfl ?_)
          refine G_aload (i := 0) (n := 1) (len := 1) (Or.inl ⟨0, rfl, rfl, d_Mo_go_196⟩) rfl (by decide) (G_pc (pc' := 197) rfl ?_)
          refine G_get (o := 55) (c := 9) (k := 47) (v := M3106 55 47) d_Mo_go_197 fl_Mo_277 rfl (by decide) (by decide) (rdw rfl (by first | rfl | (repeat (first | rfl | exact mset_eq (by omega) | refine (mset_ne (by omega)).trans ?_ | refine (mset_ni (by omega)).trans ?_)))) rfl (G_pc (pc' := 200) rfl ?_)
          refine G_mem (fun hmo _ => ?_)
          have t3116 := tok_i (Eq.mp (congrArg (tok .int) (show rd gt (mset (mset (mset (mset M3106 66 e z) 68 e (M3106 55 46)) 69 e (M3106 83 (M3106 84 0))) 70 e (M3106 55 47)) 55 ((47 : Nat) : Int) = M3106 55 47 from (rdw rfl (by first | rfl | (repeat (first | rfl | exact mset_eq (by omega) | refine (mset_ne (by omega)).trans ?_ | refine (mset_ni (by omega)).trans ?_)))))) (hmo 55 (by decide) (by decide) 9 rfl 47 (by decide)))
          clear hmo
          refine G_callV (K1 := KE) (d2 := 0) (o := 55) (cl := 9) (as := [vi (M3106 55 47)]) (rest := []) d_Mo_go_200 mf_Mo_send ml_Mo_319 rfl rfl (by decide) rfl rfl (Nat.le_of_ble_eq_true rfl) (by omega) ⟨Nat.le_refl _, Nat.le_refl _⟩ (g_Mo_send (by omega) (M3106 55 47) (mset (mset (mset (mset M3106 66 e z) 68 e (M3106 55 46)) 69 e (M3106 83 (M3106 84 0))) 70 e (M3106 55 47)) (by first | omega | exact h21) (by first | omega | exact h24)) (fun r3117 M3118 kq3119 q3119 => ?_)
          clear kq3119; obtain ⟨q3119a, hs1, hs2⟩ := q3119; subst r3117
          rcases Classical.em (hasReq (mset (mset (mset (mset M3106 66 e z) 68 e (M3106 55 46)) 69 e (M3106 83 (M3106 84 0))) 70 e (M3106 55 47)) (M3106 55 47)) with hrq | hrq
          · skip
            have hmm := hs1 hrq; subst hmm
            refine G_vret d_Mo_go_203 rfl rfl ?_
            refine ⟨rfl, hQ _ (Or.inr ⟨by rw [h9], z, M3106, hwq, ?_⟩)⟩
            exact Or.inr (Or.inr (Or.inl ⟨by assumption, by omega, hrq, rfl⟩))
          · skip
            have hmm := hs2 hrq; subst hmm
            refine G_vret d_Mo_go_203 rfl rfl ?_
            refine ⟨rfl, hQ _ (Or.inr ⟨by rw [h9], z, M3106, hwq, ?_⟩)⟩
            exact Or.inr (Or.inr (Or.inr ⟨by assumption, by omega, hrq, rfl⟩))
      · skip
        refine G_aload (i := 0) (n := 1) (len := 1) (Or.inl ⟨0, rfl, rfl, d_Mo_go_160⟩) rfl (by decide) (G_pc (pc' := 161) rfl ?_)
        refine G_get (o := 55) (c := 9) (k := 11) (v := M3106 55 11) d_Mo_go_161 fl_Mo_157 rfl (by decide) (by decide) (rdw rfl (by first | rfl | (repeat (first | rfl | exact mset_eq (by omega) | refine (mset_ne (by omega)).trans ?_ | refine (mset_ni (by omega)).trans ?_)))) rfl (G_pc (pc' := 164) rfl ?_)
        refine G_mem (fun hmo _ => ?_)
        have t3120 := tok_z (Eq.mp (congrArg (tok .boolean) (show rd gt (mset (mset (mset M3106 66 e z) 68 e (M3106 55 46)) 69 e (M3106 83 (M3106 84 0))) 55 ((11 : Nat) : Int) = M3106 55 11 from (rdw rfl (by first | rfl | (repeat (first | rfl | exact mset_eq (by omega) | refine (mset_ne (by omega)).trans ?_ | refine (mset_ni (by omega)).trans ?_)))))) (hmo 55 (by decide) (by decide) 9 rfl 11 (by decide)))
        clear hmo
        refine G_if_eq (tgt := 175) d_Mo_go_164 (by decide) (fun h3121 => ?_) (fun h3121 => G_pc (pc' := 167) rfl ?_)
        · skip
          refine G_aload (i := 0) (n := 1) (len := 1) (Or.inl ⟨0, rfl, rfl, d_Mo_go_175⟩) rfl (by decide) (G_pc (pc' := 176) rfl ?_)
          refine G_get (o := 55) (c := 9) (k := 15) (v := 66) d_Mo_go_176 fl_Mo_42 rfl (by decide) (by decide) rfl rfl (G_pc (pc' := 179) rfl ?_)
          refine G_iload (i := 1) (n := 2) (len := 1) (Or.inl ⟨1, rfl, rfl, d_Mo_go_179⟩) rfl (G_pc (pc' := 180) rfl ?_)
          refine G_iaload (o := 66) (n := 4) (i := e) (v := z) d_Mo_go_180 rfl ⟨by decide, by decide⟩ (by omega) (rdw (gt_arr rfl _) (by first | rfl | (repeat (first | rfl | exact mset_eq (by omega) | refine (mset_ne (by omega)).trans ?_ | refine (mset_ni (by omega)).trans ?_)))) (fun t3122 => G_pc (pc' := 181) rfl ?_)
          have t3122 := tok_i t3122
          refine G_iconst (n := 1) d_Mo_go_181 (by decide) (G_pc (pc' := 182) rfl ?_)
          refine G_icmp_ne (tgt := 203) d_Mo_go_182 (by decide) (fun h3123 => ?_) (fun h3123 => G_pc (pc' := 185) rfl ?_)
          · skip
            refine G_vret d_Mo_go_203 rfl rfl ?_
            refine ⟨rfl, hQ _ (Or.inr ⟨by rw [h9], z, M3106, hwq, ?_⟩)⟩
            first | exact Or.inl ⟨by assumption, rfl⟩ | exact Or.inr (Or.inl ⟨by assumption, by omega, rfl⟩)
          · skip
            have hq48 := hq47 (by assumption)
            refine G_aload (i := 0) (n := 1) (len := 1) (Or.inl ⟨0, rfl, rfl, d_Mo_go_185⟩) rfl (by decide) (G_pc (pc' := 186) rfl ?_)
            refine G_get (o := 55) (c := 9) (k := 19) (v := 70) d_Mo_go_186 fl_Mo_54 rfl (by decide) (by decide) rfl rfl (G_pc (pc' := 189) rfl ?_)
            refine G_iload (i := 1) (n := 2) (len := 1) (Or.inl ⟨1, rfl, rfl, d_Mo_go_189⟩) rfl (G_pc (pc' := 190) rfl ?_)
            refine G_aload (i := 0) (n := 1) (len := 1) (Or.inl ⟨0, rfl, rfl, d_Mo_go_190⟩) rfl (by decide) (G_pc (pc' := 191) rfl ?_)
            refine G_get (o := 55) (c := 9) (k := 47) (v := M3106 55 47) d_Mo_go_191 fl_Mo_277 rfl (by decide) (by decide) (rdw rfl (by first | rfl | (repeat (first | rfl | exact mset_eq (by omega) | refine (mset_ne (by omega)).trans ?_ | refine (mset_ni (by omega)).trans ?_)))) rfl (G_pc (pc' := 194) rfl ?_)
            refine G_mem (fun hmo _ => ?_)
            have t3124 := tok_i (Eq.mp (congrArg (tok .int) (show rd gt (mset (mset (mset M3106 66 e z) 68 e (M3106 55 46)) 69 e (M3106 83 (M3106 84 0))) 55 ((47 : Nat) : Int) = M3106 55 47 from (rdw rfl (by first | rfl | (repeat (first | rfl | exact mset_eq (by omega) | refine (mset_ne (by omega)).trans ?_ | refine (mset_ni (by omega)).trans ?_)))))) (hmo 55 (by decide) (by decide) 9 rfl 47 (by decide)))
            clear hmo
            refine G_iastore (o := 70) (n := 4) (i := e) (x := M3106 55 47) d_Mo_go_194 rfl ⟨by decide, by decide⟩ (by decide) (gt_arr rfl _) (by omega) (tokI (by omega)) (G_pc (pc' := 195) rfl ?_)
            refine G_aload (i := 0) (n := 1) (len := 1) (Or.inl ⟨0, rfl, rfl, d_Mo_go_195⟩) rfl (by decide) (G_pc (pc' := 196) rfl ?_)
            refine G_aload (i := 0) (n := 1) (len := 1) (Or.inl ⟨0, rfl, rfl, d_Mo_go_196⟩) rfl (by decide) (G_pc (pc' := 197) rfl ?_)
            refine G_get (o := 55) (c := 9) (k := 47) (v := M3106 55 47) d_Mo_go_197 fl_Mo_277 rfl (by decide) (by decide) (rdw rfl (by first | rfl | (repeat (first | rfl | exact mset_eq (by omega) | refine (mset_ne (by omega)).trans ?_ | refine (mset_ni (by omega)).trans ?_)))) rfl (G_pc (pc' := 200) rfl ?_)
            refine G_mem (fun hmo _ => ?_)
            have t3125 := tok_i (Eq.mp (congrArg (tok .int) (show rd gt (mset (mset (mset (mset M3106 66 e z) 68 e (M3106 55 46)) 69 e (M3106 83 (M3106 84 0))) 70 e (M3106 55 47)) 55 ((47 : Nat) : Int) = M3106 55 47 from (rdw rfl (by first | rfl | (repeat (first | rfl | exact mset_eq (by omega) | refine (mset_ne (by omega)).trans ?_ | refine (mset_ni (by omega)).trans ?_)))))) (hmo 55 (by decide) (by decide) 9 rfl 47 (by decide)))
            clear hmo
            refine G_callV (K1 := KE) (d2 := 0) (o := 55) (cl := 9) (as := [vi (M3106 55 47)]) (rest := []) d_Mo_go_200 mf_Mo_send ml_Mo_319 rfl rfl (by decide) rfl rfl (Nat.le_of_ble_eq_true rfl) (by omega) ⟨Nat.le_refl _, Nat.le_refl _⟩ (g_Mo_send (by omega) (M3106 55 47) (mset (mset (mset (mset M3106 66 e z) 68 e (M3106 55 46)) 69 e (M3106 83 (M3106 84 0))) 70 e (M3106 55 47)) (by first | omega | exact h21) (by first | omega | exact h24)) (fun r3126 M3127 kq3128 q3128 => ?_)
            clear kq3128; obtain ⟨q3128a, hs1, hs2⟩ := q3128; subst r3126
            rcases Classical.em (hasReq (mset (mset (mset (mset M3106 66 e z) 68 e (M3106 55 46)) 69 e (M3106 83 (M3106 84 0))) 70 e (M3106 55 47)) (M3106 55 47)) with hrq | hrq
            · skip
              have hmm := hs1 hrq; subst hmm
              refine G_vret d_Mo_go_203 rfl rfl ?_
              refine ⟨rfl, hQ _ (Or.inr ⟨by rw [h9], z, M3106, hwq, ?_⟩)⟩
              exact Or.inr (Or.inr (Or.inl ⟨by assumption, by omega, hrq, rfl⟩))
            · skip
              have hmm := hs2 hrq; subst hmm
              refine G_vret d_Mo_go_203 rfl rfl ?_
              refine ⟨rfl, hQ _ (Or.inr ⟨by rw [h9], z, M3106, hwq, ?_⟩)⟩
              exact Or.inr (Or.inr (Or.inr ⟨by assumption, by omega, hrq, rfl⟩))
        · skip
          refine G_aload (i := 0) (n := 1) (len := 1) (Or.inl ⟨0, rfl, rfl, d_Mo_go_167⟩) rfl (by decide) (G_pc (pc' := 168) rfl ?_)
          refine G_get (o := 55) (c := 9) (k := 15) (v := 66) d_Mo_go_168 fl_Mo_42 rfl (by decide) (by decide) rfl rfl (G_pc (pc' := 171) rfl ?_)
          refine G_iload (i := 1) (n := 2) (len := 1) (Or.inl ⟨1, rfl, rfl, d_Mo_go_171⟩) rfl (G_pc (pc' := 172) rfl ?_)
          refine G_bipush (n := 7) d_Mo_go_172 (by decide) (G_pc (pc' := 174) rfl ?_)
          refine G_iastore (o := 66) (n := 4) (i := e) (x := 7) d_Mo_go_174 rfl ⟨by decide, by decide⟩ (by decide) (gt_arr rfl _) (by omega) (tokI (by decide)) (G_pc (pc' := 175) rfl ?_)
          refine G_aload (i := 0) (n := 1) (len := 1) (Or.inl ⟨0, rfl, rfl, d_Mo_go_175⟩) rfl (by decide) (G_pc (pc' := 176) rfl ?_)
          refine G_get (o := 55) (c := 9) (k := 15) (v := 66) d_Mo_go_176 fl_Mo_42 rfl (by decide) (by decide) rfl rfl (G_pc (pc' := 179) rfl ?_)
          refine G_iload (i := 1) (n := 2) (len := 1) (Or.inl ⟨1, rfl, rfl, d_Mo_go_179⟩) rfl (G_pc (pc' := 180) rfl ?_)
          refine G_iaload (o := 66) (n := 4) (i := e) (v := 7) d_Mo_go_180 rfl ⟨by decide, by decide⟩ (by omega) (rdw (gt_arr rfl _) (by first | rfl | (repeat (first | rfl | exact mset_eq (by omega) | refine (mset_ne (by omega)).trans ?_ | refine (mset_ni (by omega)).trans ?_)))) (fun t3129 => G_pc (pc' := 181) rfl ?_)
          have t3129 := tok_i t3129
          refine G_iconst (n := 1) d_Mo_go_181 (by decide) (G_pc (pc' := 182) rfl ?_)
          refine G_icmp_ne (tgt := 203) d_Mo_go_182 (by decide) (fun h3130 => ?_) (fun h3130 => absurd h3130 (by decide))
          refine G_vret d_Mo_go_203 rfl rfl ?_
          refine ⟨rfl, hQ _ (Or.inr ⟨by rw [h9], z, M3106, hwq, ?_⟩)⟩
          first | exact Or.inl ⟨by assumption, rfl⟩ | exact Or.inr (Or.inl ⟨by assumption, by omega, rfl⟩)
    | succ n ih =>
      intro i K h1 h2 hA hC
      refine G_iload (i := 2) (n := 0) (len := 1) (Or.inl ⟨2, rfl, rfl, d_Mo_go_54⟩) rfl (G_pc (pc' := 55) rfl ?_)
      refine G_aload (i := 0) (n := 1) (len := 1) (Or.inl ⟨0, rfl, rfl, d_Mo_go_55⟩) rfl (by decide) (G_pc (pc' := 56) rfl ?_)
      refine G_get (o := 55) (c := 9) (k := 28) (v := (mK W2 K) 55 28) d_Mo_go_56 fl_Mo_207 rfl (by decide) (by decide) (rdw rfl (by first | rfl | (repeat (first | rfl | exact mset_eq (by omega) | refine (mset_ne (by omega)).trans ?_ | refine (mset_ni (by omega)).trans ?_)))) rfl (G_pc (pc' := 59) rfl ?_)
      refine G_mem (fun hmo _ => ?_)
      have t3201 := tok_i (Eq.mp (congrArg (tok .int) (show rd gt (mK W2 K) 55 ((28 : Nat) : Int) = (mK W2 K) 55 28 from (rdw rfl (by first | rfl | (repeat (first | rfl | exact mset_eq (by omega) | refine (mset_ne (by omega)).trans ?_ | refine (mset_ni (by omega)).trans ?_)))))) (hmo 55 (by decide) (by decide) 9 rfl 28 (by decide)))
      clear hmo
      rw [show (mK W2 K) 55 28 = W2 55 28 from rfl]
      refine G_icmp_ge (tgt := 96) d_Mo_go_59 (by decide) (fun h3202 => absurd h3202 (by omega)) (fun h3202 => G_pc (pc' := 62) rfl ?_)
      have hki := hch.2.2.2 i K (by omega) (by omega) hA
      refine G_aload (i := 0) (n := 1) (len := 1) (Or.inl ⟨0, rfl, rfl, d_Mo_go_62⟩) rfl (by decide) (G_pc (pc' := 63) rfl ?_)
      refine G_get (o := 55) (c := 9) (k := 34) (v := 81) d_Mo_go_63 fl_Mo_87 rfl (by decide) (by decide) rfl rfl (G_pc (pc' := 66) rfl ?_)
      refine G_iload (i := 2) (n := 0) (len := 1) (Or.inl ⟨2, rfl, rfl, d_Mo_go_66⟩) rfl (G_pc (pc' := 67) rfl ?_)
      refine G_aload (i := 0) (n := 1) (len := 1) (Or.inl ⟨0, rfl, rfl, d_Mo_go_67⟩) rfl (by decide) (G_pc (pc' := 68) rfl ?_)
      refine G_iload (i := 2) (n := 0) (len := 1) (Or.inl ⟨2, rfl, rfl, d_Mo_go_68⟩) rfl (G_pc (pc' := 69) rfl ?_)
      refine G_callV (K1 := KE) (d2 := 4) (o := 55) (cl := 9) (as := [vi i]) (rest := [vi i, vr 81]) d_Mo_go_69 mf_Mo_check ml_Mo_313 rfl rfl (by decide) rfl rfl (Nat.le_of_ble_eq_true rfl) (by omega) ⟨Nat.le_refl _, Nat.le_refl _⟩ (g_Mo_check (by omega) i (mK W2 K) hch.2.1 hch.2.2.1 (by omega) hki.1.1 hki.1.2.1 hki.1.2.2.1 hki.1.2.2.2.1 hki.1.2.2.2.2) (fun r3203 M3204 kq3205 q3205 => ?_)
      clear kq3205; obtain ⟨q3205a, q3205b⟩ := q3205; rw [mK_chk] at q3205a; subst r3203; subst M3204
      refine G_ps (pc' := 72) (st' := [vi (kcF W2 K i), vi i, vr 81]) rfl rfl ?_
      refine G_iastore (o := 81) (n := 32) (i := i) (x := kcF W2 K i) d_Mo_go_72 rfl ⟨by decide, by decide⟩ (by decide) (gt_arr rfl _) (by omega) (tokI (by omega)) (G_pc (pc' := 73) rfl ?_)
      rw [mK_s]
      refine G_aload (i := 0) (n := 1) (len := 1) (Or.inl ⟨0, rfl, rfl, d_Mo_go_73⟩) rfl (by decide) (G_pc (pc' := 74) rfl ?_)
      refine G_get (o := 55) (c := 9) (k := 34) (v := 81) d_Mo_go_74 fl_Mo_87 rfl (by decide) (by decide) rfl rfl (G_pc (pc' := 77) rfl ?_)
      refine G_iload (i := 2) (n := 0) (len := 1) (Or.inl ⟨2, rfl, rfl, d_Mo_go_77⟩) rfl (G_pc (pc' := 78) rfl ?_)
      refine G_iaload (o := 81) (n := 32) (i := i) (v := (mK W2 (kup K i (kcF W2 K i))) 81 i) d_Mo_go_78 rfl ⟨by decide, by decide⟩ (by omega) (rdw (gt_arr rfl _) (by first | rfl | (repeat (first | rfl | exact mset_eq (by omega) | refine (mset_ne (by omega)).trans ?_ | refine (mset_ni (by omega)).trans ?_)))) (fun t3206 => G_pc (pc' := 79) rfl ?_)
      have t3206 := tok_i t3206
      rw [show (mK W2 (kup K i (kcF W2 K i))) 81 i = kcF W2 K i from by show (if i = i then _ else _) = _; rw [if_pos rfl]]
      refine G_if_ge (tgt := 90) d_Mo_go_79 (by decide) (fun h3207 => ?_) (fun h3207 => G_pc (pc' := 82) rfl ?_)
      · skip
        refine G_iinc (i := 2) (n := 0) (z := 1) (ls' := [(2, vi (i + 1)), (0, vr 55), (1, vi e)]) d_Mo_go_90 rfl (by decide) (by omega) rfl (G_pc (pc' := 93) rfl ?_)
        refine G_goto (tgt := 54) d_Mo_go_93 (by decide) ?_
        exact ih (i + 1) (kup K i (kcF W2 K i)) (by omega) (by omega) (kup_r hA (by omega)) (hC.symm.trans (cmN_yes (by omega))).symm
      · skip
        refine G_aload (i := 0) (n := 1) (len := 1) (Or.inl ⟨0, rfl, rfl, d_Mo_go_82⟩) rfl (by decide) (G_pc (pc' := 83) rfl ?_)
        refine G_get (o := 55) (c := 9) (k := 15) (v := 66) d_Mo_go_83 fl_Mo_42 rfl (by decide) (by decide) rfl rfl (G_pc (pc' := 86) rfl ?_)
        refine G_iload (i := 1) (n := 2) (len := 1) (Or.inl ⟨1, rfl, rfl, d_Mo_go_86⟩) rfl (G_pc (pc' := 87) rfl ?_)
        refine G_iconst (n := 5) d_Mo_go_87 (by decide) (G_pc (pc' := 88) rfl ?_)
        refine G_iastore (o := 66) (n := 4) (i := e) (x := 5) d_Mo_go_88 rfl ⟨by decide, by decide⟩ (by decide) (gt_arr rfl _) (by omega) (tokI (by decide)) (G_pc (pc' := 89) rfl ?_)
        refine G_vret d_Mo_go_89 rfl rfl ?_
        have h9 : cmD W2 = (kup K i (kcF W2 K i), false) := hC.symm.trans (cmN_no (by omega))
        exact ⟨rfl, hQ _ (Or.inl ⟨by rw [h9], by rw [h9]⟩)⟩
  refine G_aload (i := 0) (n := 0) (len := 1) (Or.inl ⟨0, rfl, rfl, d_Mo_go_0⟩) rfl (by decide) (G_pc (pc' := 1) rfl ?_)
  refine G_get (o := 55) (c := 9) (k := 19) (v := 70) d_Mo_go_1 fl_Mo_54 rfl (by decide) (by decide) rfl rfl (G_pc (pc' := 4) rfl ?_)
  refine G_iload (i := 1) (n := 1) (len := 1) (Or.inl ⟨1, rfl, rfl, d_Mo_go_4⟩) rfl (G_pc (pc' := 5) rfl ?_)
  refine G_iconst (n := (-1)) d_Mo_go_5 (by decide) (G_pc (pc' := 6) rfl ?_)
  refine G_iastore (o := 70) (n := 4) (i := e) (x := (-1)) d_Mo_go_6 rfl ⟨by decide, by decide⟩ (by decide) (gt_arr rfl _) (by omega) (tokI (by decide)) (G_pc (pc' := 7) rfl ?_)
  refine G_aload (i := 0) (n := 0) (len := 1) (Or.inl ⟨0, rfl, rfl, d_Mo_go_7⟩) rfl (by decide) (G_pc (pc' := 8) rfl ?_)
  refine G_get (o := 55) (c := 9) (k := 17) (v := 68) d_Mo_go_8 fl_Mo_48 rfl (by decide) (by decide) rfl rfl (G_pc (pc' := 11) rfl ?_)
  refine G_iload (i := 1) (n := 1) (len := 1) (Or.inl ⟨1, rfl, rfl, d_Mo_go_11⟩) rfl (G_pc (pc' := 12) rfl ?_)
  refine G_iconst (n := 0) d_Mo_go_12 (by decide) (G_pc (pc' := 13) rfl ?_)
  refine G_iastore (o := 68) (n := 4) (i := e) (x := 0) d_Mo_go_13 rfl ⟨by decide, by decide⟩ (by decide) (gt_arr rfl _) (by omega) (tokI (by decide)) (G_pc (pc' := 14) rfl ?_)
  refine G_aload (i := 0) (n := 0) (len := 1) (Or.inl ⟨0, rfl, rfl, d_Mo_go_14⟩) rfl (by decide) (G_pc (pc' := 15) rfl ?_)
  refine G_get (o := 55) (c := 9) (k := 16) (v := 67) d_Mo_go_15 fl_Mo_45 rfl (by decide) (by decide) rfl rfl (G_pc (pc' := 18) rfl ?_)
  refine G_iload (i := 1) (n := 1) (len := 1) (Or.inl ⟨1, rfl, rfl, d_Mo_go_18⟩) rfl (G_pc (pc' := 19) rfl ?_)
  refine G_iconst (n := (-1)) d_Mo_go_19 (by decide) (G_pc (pc' := 20) rfl ?_)
  refine G_iastore (o := 67) (n := 4) (i := e) (x := (-1)) d_Mo_go_20 rfl ⟨by decide, by decide⟩ (by decide) (gt_arr rfl _) (by omega) (tokI (by decide)) (G_pc (pc' := 21) rfl ?_)
  refine G_aload (i := 0) (n := 0) (len := 1) (Or.inl ⟨0, rfl, rfl, d_Mo_go_21⟩) rfl (by decide) (G_pc (pc' := 22) rfl ?_)
  refine G_iload (i := 1) (n := 1) (len := 1) (Or.inl ⟨1, rfl, rfl, d_Mo_go_22⟩) rfl (G_pc (pc' := 23) rfl ?_)
  refine G_callV (K1 := KE) (d2 := 3) (o := 55) (cl := 9) (as := [vi e]) (rest := []) d_Mo_go_23 mf_Mo_split ml_Mo_307 rfl rfl (by decide) rfl rfl (Nat.le_of_ble_eq_true rfl) (by omega) ⟨Nat.le_refl _, Nat.le_refl _⟩ (g_Mo_split (by omega) e (mset (mset (mset M 70 e (-1)) 68 e 0) 67 e (-1)) hgm.1 hgm.2.1 (by omega)) (fun r1 M2 kq3 q3 => ?_)
  clear kq3; obtain ⟨q3a, hW1⟩ := q3; subst r1
  replace hW1 : M2 = splitM (go0 M e) e := hW1
  have hgp := hgm.2.2.1; have hgq := hgm.2.2.2; rw [← hW1] at hgp hgq
  refine G_ps (pc' := 26) (st' := []) rfl rfl ?_
  refine G_aload (i := 0) (n := 0) (len := 1) (Or.inl ⟨0, rfl, rfl, d_Mo_go_26⟩) rfl (by decide) (G_pc (pc' := 27) rfl ?_)
  refine G_get (o := 55) (c := 9) (k := 44) (v := M2 55 44) d_Mo_go_27 fl_Mo_166 rfl (by decide) (by decide) rfl rfl (G_pc (pc' := 30) rfl ?_)
  refine G_if_ne (tgt := 37) d_Mo_go_30 (by decide) (fun h4 => ?_) (fun h4 => G_pc (pc' := 33) rfl ?_)
  · skip
    refine G_aload (i := 0) (n := 0) (len := 1) (Or.inl ⟨0, rfl, rfl, d_Mo_go_37⟩) rfl (by decide) (G_pc (pc' := 38) rfl ?_)
    refine G_get (o := 55) (c := 9) (k := 44) (v := M2 55 44) d_Mo_go_38 fl_Mo_166 rfl (by decide) (by decide) rfl rfl (G_pc (pc' := 41) rfl ?_)
    refine G_if_eq (tgt := 52) d_Mo_go_41 (by decide) (fun h5 => ?_) (fun h5 => G_pc (pc' := 44) rfl ?_)
    · skip
      refine G_iconst (n := 0) d_Mo_go_52 (by decide) (G_pc (pc' := 53) rfl ?_)
      refine G_istore (i := 2) (len := 1) (ls' := [(2, vi 0), (0, vr 55), (1, vi e)]) (Or.inl ⟨2, rfl, rfl, d_Mo_go_53⟩) (by decide) rfl (G_pc (pc' := 54) rfl ?_)
      exfalso; omega
    · skip
      refine G_aload (i := 0) (n := 0) (len := 1) (Or.inl ⟨0, rfl, rfl, d_Mo_go_44⟩) rfl (by decide) (G_pc (pc' := 45) rfl ?_)
      refine G_get (o := 55) (c := 9) (k := 15) (v := 66) d_Mo_go_45 fl_Mo_42 rfl (by decide) (by decide) rfl rfl (G_pc (pc' := 48) rfl ?_)
      refine G_iload (i := 1) (n := 1) (len := 1) (Or.inl ⟨1, rfl, rfl, d_Mo_go_48⟩) rfl (G_pc (pc' := 49) rfl ?_)
      refine G_iconst (n := 4) d_Mo_go_49 (by decide) (G_pc (pc' := 50) rfl ?_)
      refine G_iastore (o := 66) (n := 4) (i := e) (x := 4) d_Mo_go_50 rfl ⟨by decide, by decide⟩ (by decide) (gt_arr rfl _) (by omega) (tokI (by decide)) (G_pc (pc' := 51) rfl ?_)
      refine G_vret d_Mo_go_51 rfl rfl ?_
      exact ⟨rfl, M2, hW1, Or.inl ⟨by omega, rfl⟩⟩
  · skip
    refine G_aload (i := 0) (n := 0) (len := 1) (Or.inl ⟨0, rfl, rfl, d_Mo_go_33⟩) rfl (by decide) (G_pc (pc' := 34) rfl ?_)
    refine G_callV (K1 := KE) (d2 := 3) (o := 55) (cl := 9) (as := []) (rest := []) d_Mo_go_34 mf_Mo_parse ml_Mo_310 rfl rfl (by decide) rfl rfl (Nat.le_of_ble_eq_true rfl) (by omega) ⟨Nat.le_refl _, Nat.le_refl _⟩ (g_Mo_parse (by omega) M2 (hgp (by omega)).1 (hgp (by omega)).2 (by omega)) (fun r6 M7 kq8 q8 => ?_)
    clear kq8; obtain ⟨q8a, hpq⟩ := q8; subst r6
    rcases hpq with ⟨hpn, hfr, h44⟩ | ⟨N, O, o, a, cl, hpn, hR⟩
    · skip
      refine G_ps (pc' := 37) (st' := []) rfl rfl ?_
      refine G_aload (i := 0) (n := 0) (len := 1) (Or.inl ⟨0, rfl, rfl, d_Mo_go_37⟩) rfl (by decide) (G_pc (pc' := 38) rfl ?_)
      refine G_get (o := 55) (c := 9) (k := 44) (v := M7 55 44) d_Mo_go_38 fl_Mo_166 rfl (by decide) (by decide) rfl rfl (G_pc (pc' := 41) rfl ?_)
      refine G_if_eq (tgt := 52) d_Mo_go_41 (by decide) (fun h9 => ?_) (fun h9 => G_pc (pc' := 44) rfl ?_)
      · skip
        refine G_iconst (n := 0) d_Mo_go_52 (by decide) (G_pc (pc' := 53) rfl ?_)
        refine G_istore (i := 2) (len := 1) (ls' := [(2, vi 0), (0, vr 55), (1, vi e)]) (Or.inl ⟨2, rfl, rfl, d_Mo_go_53⟩) (by decide) rfl (G_pc (pc' := 54) rfl ?_)
        exfalso; omega
      · skip
        refine G_aload (i := 0) (n := 0) (len := 1) (Or.inl ⟨0, rfl, rfl, d_Mo_go_44⟩) rfl (by decide) (G_pc (pc' := 45) rfl ?_)
        refine G_get (o := 55) (c := 9) (k := 15) (v := 66) d_Mo_go_45 fl_Mo_42 rfl (by decide) (by decide) rfl rfl (G_pc (pc' := 48) rfl ?_)
        refine G_iload (i := 1) (n := 1) (len := 1) (Or.inl ⟨1, rfl, rfl, d_Mo_go_48⟩) rfl (G_pc (pc' := 49) rfl ?_)
        refine G_iconst (n := 4) d_Mo_go_49 (by decide) (G_pc (pc' := 50) rfl ?_)
        refine G_iastore (o := 66) (n := 4) (i := e) (x := 4) d_Mo_go_50 rfl ⟨by decide, by decide⟩ (by decide) (gt_arr rfl _) (by omega) (tokI (by decide)) (G_pc (pc' := 51) rfl ?_)
        refine G_vret d_Mo_go_51 rfl rfl ?_
        first | (exfalso; omega) | exact ⟨rfl, M2, hW1, Or.inr (Or.inl ⟨by omega, hpn, M7, hfr, rfl⟩)⟩
    · skip
      have h44 : M7 55 44 = 0 := hR.2.2.2.2.2.2.2
      obtain ⟨hch, hwk⟩ := hgq N O o a cl M7 (by omega) hpn hR
      refine G_ps (pc' := 37) (st' := []) rfl rfl ?_
      refine G_aload (i := 0) (n := 0) (len := 1) (Or.inl ⟨0, rfl, rfl, d_Mo_go_37⟩) rfl (by decide) (G_pc (pc' := 38) rfl ?_)
      refine G_get (o := 55) (c := 9) (k := 44) (v := M7 55 44) d_Mo_go_38 fl_Mo_166 rfl (by decide) (by decide) rfl rfl (G_pc (pc' := 41) rfl ?_)
      refine G_if_eq (tgt := 52) d_Mo_go_41 (by decide) (fun h10 => ?_) (fun h10 => G_pc (pc' := 44) rfl ?_)
      · skip
        refine G_iconst (n := 0) d_Mo_go_52 (by decide) (G_pc (pc' := 53) rfl ?_)
        refine G_istore (i := 2) (len := 1) (ls' := [(2, vi 0), (0, vr 55), (1, vi e)]) (Or.inl ⟨2, rfl, rfl, d_Mo_go_53⟩) (by decide) rfl (G_pc (pc' := 54) rfl ?_)
        have hn28 := hch.1
        have h9 := loop M7 hch hwk (fun M' hg => ⟨M2, hW1, Or.inr (Or.inr ⟨by omega, N, O, o, a, cl, M7, hpn, hR, hg⟩)⟩) (M7 55 28).toNat 0 (fun j => M7 81 j) (by omega) (by omega) (fun j h7 h8 => absurd h8 (by omega)) rfl
        rw [← mK_0] at h9
        exact h9
      · skip
        refine G_aload (i := 0) (n := 0) (len := 1) (Or.inl ⟨0, rfl, rfl, d_Mo_go_44⟩) rfl (by decide) (G_pc (pc' := 45) rfl ?_)
        refine G_get (o := 55) (c := 9) (k := 15) (v := 66) d_Mo_go_45 fl_Mo_42 rfl (by decide) (by decide) rfl rfl (G_pc (pc' := 48) rfl ?_)
        refine G_iload (i := 1) (n := 1) (len := 1) (Or.inl ⟨1, rfl, rfl, d_Mo_go_48⟩) rfl (G_pc (pc' := 49) rfl ?_)
        refine G_iconst (n := 4) d_Mo_go_49 (by decide) (G_pc (pc' := 50) rfl ?_)
        refine G_iastore (o := 66) (n := 4) (i := e) (x := 4) d_Mo_go_50 rfl ⟨by decide, by decide⟩ (by decide) (gt_arr rfl _) (by omega) (tokI (by decide)) (G_pc (pc' := 51) rfl ?_)
        refine G_vret d_Mo_go_51 rfl rfl ?_
        exfalso; omega

