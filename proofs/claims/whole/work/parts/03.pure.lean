/-! THE PURE LAYER: values and memory by whole numbers; a judgement G over the machine whose rows are one an instruction -/
abbrev Mem : Type := Nat → Int → Int
abbrev PV : Type := Int ⊕ Int ⊕ Int
abbrev vi (x : Int) : PV := .inl x
abbrev vl (x : Int) : PV := .inr (.inl x)
abbrev vr (x : Int) : PV := .inr (.inr x)
abbrev SG : Type := Nat → Int → Option Int
def g0 : SG := fun _ _ => none
def rd (g : SG) (M : Mem) (k : Nat) (i : Int) : Int := match g k i with
  | some r => r
  | none => M k i
def mset (M : Mem) (k : Nat) (i v : Int) : Mem := fun k' i' => if k' = k ∧ i' = i then v else M k' i'
def w32 (x : Int) : Int := x.bmod 4294967296
def w64 (x : Int) : Int := x.bmod 18446744073709551616
/-- addresses, class numbers, slots, array classes, the first address of our own -/
abbrev WX : Type := (Nat → Nat) × (Nat → ClassId) × (Nat → Nat → Nat) × (FieldType → ClassId) × Nat
def conc (ad : Nat → Nat) : PV → Value
  | .inl x => .int (Int32.ofInt x)
  | .inr (.inl x) => .long (Int64.ofInt x)
  | .inr (.inr x) => if x = 0 then .null else .ref (ad x.toNat)
def mkv (ty : FieldType) (x : Int) : PV := match ty with
  | .long => vl x
  | .object _ => vr x
  | .array _ => vr x
  | _ => vi x
def tok (ty : FieldType) (x : Int) : Prop := match ty with
  | .boolean => 0 ≤ x ∧ x ≤ 1
  | .char => 0 ≤ x ∧ x < 65536
  | .byte => -128 ≤ x ∧ x < 128
  | .int => -2147483648 ≤ x ∧ x < 2147483648
  | .long => -9223372036854775808 ≤ x ∧ x < 9223372036854775808
  | .object _ => 0 ≤ x
  | .array _ => 0 ≤ x
  | _ => False
def vok : PV → Prop
  | .inl x => -2147483648 ≤ x ∧ x < 2147483648
  | .inr (.inl x) => -9223372036854775808 ≤ x ∧ x < 9223372036854775808
  | .inr (.inr x) => 0 ≤ x
theorem tok_vok {ty : FieldType} {x : Int} (h : tok ty x) : vok (mkv ty x) := by
  cases ty <;> simp only [tok, mkv, vok] at h ⊢ <;> omega
/-- the kinds of the cells: an object of a class, or an array of a type and length -/
def kdl : List (Nat ⊕ (FieldType × Nat)) := [.inr (.int, 0), .inl 8, .inr ((.object "MirrorDesk$Evaluation"), 4), .inr (.char, 40), .inl 6, .inr (.int, 6), .inr (.int, 156), .inr (.int, 27), .inr (.long, 364), .inl 3, .inr (.int, 13), .inr (.int, 364), .inr (.int, 364), .inl 4, .inl 7, .inr (.int, 24), .inr (.int, 24), .inr (.long, 24), .inl 0, .inl 1, .inl 5, .inr (.int, 48), .inr (.int, 48), .inr (.int, 48), .inr (.int, 48), .inr (.int, 48), .inr (.long, 48), .inr (.char, 40), .inl 1, .inl 5, .inr (.int, 48), .inr (.int, 48), .inr (.int, 48), .inr (.int, 48), .inr (.int, 48), .inr (.long, 48), .inr (.char, 40), .inl 1, .inl 5, .inr (.int, 48), .inr (.int, 48), .inr (.int, 48), .inr (.int, 48), .inr (.int, 48), .inr (.long, 48), .inr (.char, 40), .inl 1, .inl 5, .inr (.int, 48), .inr (.int, 48), .inr (.int, 48), .inr (.int, 48), .inr (.int, 48), .inr (.long, 48), .inr (.char, 40), .inl 9, .inr (.int, 6), .inr (.int, 156), .inr (.int, 27), .inr (.long, 27), .inr (.int, 13), .inr (.int, 13), .inr (.long, 338), .inr (.int, 200), .inr (.int, 5), .inr (.boolean, 4), .inr (.int, 4), .inr (.int, 4), .inr (.int, 4), .inr (.long, 4), .inr (.int, 4), .inr (.boolean, 423), .inr (.int, 423), .inr (.int, 423), .inr (.int, 25), .inr (.long, 25), .inr (.int, 32), .inr (.int, 32), .inr (.int, 32), .inr (.int, 32), .inr (.long, 32), .inr (.int, 32), .inr (.boolean, 32), .inr (.long, 32), .inr (.int, 32), .inr (.int, 32), .inr (.int, 32)]
def kd (k : Nat) : Nat ⊕ (FieldType × Nat) := kdl.getD k (.inr (.int, 0))
/-- the references that stay, behind the constructors -/
def gtl : List (List (Option Int)) := [[], [some 4, some 9, some 2, some 3], [some 19, some 28, some 37, some 46], [], [some 5, some 6, some 7, some 8], [], [], [], [], [some 10, some 11, some 12], [], [], [], [some 14], [some 15, some 16, some 17], [], [], [], [some 4], [some 4, some 9, some 13, some 18, some 20, some 27], [some 21, some 22, some 23, some 24, some 25, some 26], [], [], [], [], [], [], [], [some 4, some 9, some 13, some 18, some 29, some 36], [some 30, some 31, some 32, some 33, some 34, some 35], [], [], [], [], [], [], [], [some 4, some 9, some 13, some 18, some 38, some 45], [some 39, some 40, some 41, some 42, some 43, some 44], [], [], [], [], [], [], [], [some 4, some 9, some 13, some 18, some 47, some 54], [some 48, some 49, some 50, some 51, some 52, some 53], [], [], [], [], [], [], [], [none, some 56, some 57, some 58, some 59, none, some 60, some 61, some 62, none, none, none, some 63, some 64, some 65, some 66, some 67, some 68, some 69, some 70, some 71, none, some 72, some 73, none, none, some 74, some 75, none, some 76, some 77, some 78, some 79, some 80, some 81, some 82, some 83, none, some 84, none, some 85, some 86], [], [], [], [], [], [], [], [], [], [], [], [], [], [], [], [], [], [], [], [], [], [], [], [], [], [], [], [], [], [], []]
def gt : Nat → Int → Option Int := fun k i => match i with
  | .ofNat n => (gtl.getD k []).getD n none
  | .negSucc _ => none
def csz1 (k : Nat) : Nat := match kd k with
  | .inl c => cN c
  | .inr a => a.2
def csz : Nat → Nat
  | 0 => 0
  | k + 1 => csz k + csz1 k
def KE : Nat := 87
/-- one cell of the world -/
def cellOK (X : WX) (g : SG) (M : Mem) (H : Heap) (k : Nat) : Prop := match kd k with
  | .inl c => t_OB (X.1 k) (X.2.1 c) (cN c) (X.2.2.1 c) H (fun i => conc X.1 (mkv (cTy c i) (rd g M k i))) ∧ ∀ i : Nat, i < cN c → tok (cTy c i) (rd g M k i)
  | .inr a => H[X.1 k]? = some (arrV (X.2.2.2.1 a.1) a.2 (fun j => conc X.1 (mkv a.1 (rd g M k j)))) ∧ ∀ j : Nat, j < a.2 → tok a.1 (rd g M k j)
def HP (X : WX) (g : SG) (K : Nat) (M : Mem) (H : Heap) : Prop := H.size + 1 = X.2.2.2.2 + K ∧ ∀ k, 1 ≤ k → k < K → cellOK X g M H k
def arrTys : List FieldType := [.int, .long, .char, .boolean, .object "MirrorDesk$Evaluation"]
def adOK (X : WX) : Prop := ∀ k, 1 ≤ k → k < 1000 → X.1 k + 1 = X.2.2.2.2 + k
def nests : List (String × Nat × MethodName) := [(R_De, 24, y_Li_init), (R_De, 27, y_Re_init), (R_Re, 11, y_To_init), (R_Ev, 11, y_St_init), (R_Ta, 64, y_De_placeOf), (R_Ev, 127, y_De_placeOf)]
/-- what is known of the tables and of the cells that were there before: at any state of the run -/
def KT (X : WX) (U : State) : Prop := va_K (X.2.1, X.2.2.1) classes (arrTys.map fun ty => (X.2.2.2.1 ty, ty)) U ∧ (∀ q ∈ nests, va_Nw (.methodLinkNest q.1 q.2.1 q.2.2 R_De) U) ∧ va_Nw (.arrayOver (.object "MirrorDesk$Evaluation")) U
def nJS : Nat := 11
def poolS : List Nat := [68, 74, 76, 78, 80, 82, 84, 88, 92, 94, 115]
def txtS : List String := ["true", "false", "null", "this", "int", "long", "char", "boolean", "instanceof", "length", "()[].?:+-*/%~^"]
def bytS : List (List Int32) := [[116, 114, 117, 101], [102, 97, 108, 115, 101], [110, 117, 108, 108], [116, 104, 105, 115], [105, 110, 116], [108, 111, 110, 103], [99, 104, 97, 114], [98, 111, 111, 108, 101, 97, 110], [105, 110, 115, 116, 97, 110, 99, 101, 111, 102], [108, 101, 110, 103, 116, 104], [40, 41, 91, 93, 46, 63, 58, 43, 45, 42, 47, 37, 126, 94]]
def lenS : List Nat := [4, 5, 4, 4, 3, 4, 4, 7, 10, 6, 14]
abbrev own (X : WX) : Nat → Prop := fun q => X.2.2.2.2 ≤ q
/-- the String constants, and two static fields of the JDK -/
def KS (X : WX) (U : State) : Prop := vk_S 11 lenS bytS (fun i => X.1 (1000 + i)) (fun i => X.1 (2000 + i)) (own X) U U.heap ∧
  (∀ i, i < 11 → vk_R R_To (poolS.getD i 0) (txtS.getD i "") (X.1 (1000 + i)) U) ∧ va_Z "java/lang/String" "COMPACT_STRINGS" "Z" (.int 1) (own X) U U.heap ∧
  va_Z "jdk/internal/util/Preconditions" "SIOOBE_FORMATTER" "Ljava/util/function/BiFunction;" (conc X.1 (vr (X.1 3001 : Nat))) (own X) U U.heap
def KX (X : WX) (U : State) : Prop := KT X U ∧ adOK X ∧ KS X U
theorem nests_warm {X : WX} {s U : State} (hW : s.WarmedH U.vm) (h : KT X s) : KT X U := by
  obtain ⟨h1, h2, h3⟩ := h
  exact ⟨va_K.moved hW.alike h1, fun q hq => va_Nw.warmM hW (h2 q hq), va_AO.moved hW.alike h3⟩
theorem KX.warm {X : WX} {s U : State} (hW : s.WarmedH U.vm) (hq : ∀ a : Nat, a < s.heap.size → ¬ own X a → U.heap[a]? = s.heap[a]?) (h : KX X s) : KX X U := by
  obtain ⟨h1, h2, h3, h4, h5, h6⟩ := h
  exact ⟨nests_warm hW h1, h2, (vk_S.moved hW.alike h3).kept hq, fun i hi => vk_R.warm hW (h4 i hi), (va_Z.moved hW.alike h5).kept hq, (va_Z.moved hW.alike h6).kept hq⟩
theorem KX.calling {X : WX} {U : State} {g : JFrame} {mk : MethodId} {a : Array Value} (h : KX X U) : KX X (U.calling g mk a) := by
  obtain ⟨⟨h0, h1, h7⟩, h2, h3, h4, h5, h6⟩ := h
  have e : (U.calling g mk a).vm = U.vm := rfl
  exact ⟨⟨va_K.moved (Vm.Alike.refl U.vm) h0, fun q hq => va_Nw.same rfl e.symm (h1 q hq), va_AO.moved (Vm.Alike.refl U.vm) h7⟩, h2, vk_S.moved (Vm.Alike.refl U.vm) h3, fun i hi => vk_R.same e (h4 i hi), va_Z.moved (Vm.Alike.refl U.vm) h5, va_Z.moved (Vm.Alike.refl U.vm) h6⟩
/-- where a frame of a method stands -/
def Ctx (X : WX) (d k0 kE : Nat) (y : MethodName) (cc : ByteArray) (nL : Nat) (ret : Option FieldType) (p : Program) (R : Room) (s : State) (m : MethodId) (args : Array Value) (meth : Method) (c : Code) : Prop :=
  p.tables.exec = Jvm.exec ∧ c.code = cc ∧ meth.sig.returnType = ret ∧ c.maxLocals = nL ∧ s.vm.findClass y.cls = some m.cls ∧ (∀ w ∈ UW, w.before args s = true) ∧ meth.locks = false ∧ meth.name = y.name ∧ KX X s ∧
  d ≤ R.frames ∧ 64 * d ≤ R.locals ∧ kE - k0 ≤ R.cells ∧ csz kE - csz k0 ≤ R.slots ∧ s.heap.size + 1 = X.2.2.2.2 + k0 ∧ 1 ≤ k0
/-- the end of a method: the answer, of the method's type -/
def Rets (cc : ByteArray) (ret : Option FieldType) (pc : Nat) (r : Option PV) : Prop := match ret with
  | none => r = none ∧ decode cc pc = .ok (.return_, 1)
  | some .long => ∃ x, r = some (vl x) ∧ tok .long x ∧ decode cc pc = .ok (.lreturn, 1)
  | some ty => ∃ x, r = some (vi x) ∧ tok ty x ∧ mkv ty x = vi x ∧ decode cc pc = .ok (.ireturn, 1)
def pargs : Nat → List PV → List (Nat × PV)
  | _, [] => []
  | i, .inr (.inl x) :: vs => (i, vl x) :: pargs (i + 2) vs
  | i, v :: vs => (i, v) :: pargs (i + 1) vs
def lmap (X : WX) (ls : List (Nat × PV)) : List (Nat × Value) := ls.map fun q => (q.1, conc X.1 q.2)
/-- from this place in the method, with these locals, this stack, this memory, the machine comes to the method's end with Q -/
def G (X : WX) (g : SG) (d k0 kE : Nat) (y : MethodName) (cc : ByteArray) (nL : Nat) (ret : Option FieldType) (Q : Option PV → Mem → Prop) (pc : Nat) (ls : List (Nat × PV)) (st : List PV) (K : Nat) (M : Mem) : Prop :=
  ∀ (p : Program) (l : Launch) (e : Env) (R : Room) (s : State) (m : MethodId) (args : Array Value) (below : List Frame) (meth : Method) (c : Code) (H : Heap) (locs : List Loc) (arr : Array Slot) (cells slots : Nat) (Tg : State → Prop),
    Ctx X d k0 kE y cc nL ret p R s m args meth c → HP X g K M H → va_S (own X) s.heap H locs → lv_has arr nL (lmap X ls) → (∀ q ∈ ls, vok q.2) → (∀ v ∈ st, vok v) → cells + k0 = K → slots + csz k0 = csz K → K ≤ kE →
    (∀ (r : Option PV) (M' : Mem) (H' : Heap) (locs' : List Loc) (arr' : Array Slot) (pc' : Nat), Q r M' → HP X g kE M' H' → va_S (own X) s.heap H' locs' → Rets cc ret pc' r → W p l e R s m args below meth c H' locs' (kE - k0) (csz kE - csz k0) Tg (F0 m pc' arr' (r.toList.map (conc X.1)))) →
    W p l e R s m args below meth c H locs cells slots Tg (F0 m pc arr (st.map (conc X.1)))
/-- a method's contract, over the whole world -/
def MG (X : WX) (g : SG) (d k0 kE : Nat) (y : MethodName) (cc : ByteArray) (nL : Nat) (ret : Option FieldType) (as : List PV) (M : Mem) (Q : Option PV → Mem → Prop) : Prop :=
  (∀ v ∈ as, vok v) → ∀ l : Launch, Met l y (Cond.code y cc nL ret :: UW) ({ frames := d, cells := kE - k0, slots := csz kE - csz k0, locals := 64 * d } : Room)
    (fun a U => a = (as.map (conc X.1)).toArray ∧ HP X g k0 M U.heap ∧ KX X U)
    (fun _ st o t => ∃ (r : Option PV) (M' : Mem), o = .returned (r.map (conc X.1)) ∧ (∀ v ∈ r, vok v) ∧ Q r M' ∧ HP X g kE M' t.heap ∧ va_F (own X) st t)
    (kE - k0) (csz kE - csz k0) (own X)
theorem csz_mono {a b : Nat} (h : a ≤ b) : csz a ≤ csz b := by
  induction h with
  | refl => exact Nat.le_refl _
  | step _ ih => exact Nat.le_trans ih (Nat.le_add_right _ _)
theorem conc_cat_i (ad : Nat → Nat) (x : Int) : (conc ad (vi x)).category = 1 := rfl
theorem conc_cat_l (ad : Nat → Nat) (x : Int) : (conc ad (vl x)).category = 2 := rfl
theorem conc_cat_r (ad : Nat → Nat) (x : Int) : (conc ad (vr x)).category = 1 := by
  simp only [conc]
  split <;> rfl
theorem lmap_pargs (X : WX) (as : List PV) : ∀ i, lv_args i (as.map (conc X.1)) = lmap X (pargs i as) := by
  induction as with
  | nil => intro i; rfl
  | cons v vs ih =>
    intro i
    rcases v with x | x | x
    · show (i, conc X.1 (vi x)) :: lv_args (if (conc X.1 (vi x)).category = 2 then i + 2 else i + 1) (vs.map (conc X.1)) = (i, conc X.1 (vi x)) :: lmap X (pargs (i + 1) vs)
      rw [conc_cat_i, ← ih]; rfl
    · show (i, conc X.1 (vl x)) :: lv_args (if (conc X.1 (vl x)).category = 2 then i + 2 else i + 1) (vs.map (conc X.1)) = (i, conc X.1 (vl x)) :: lmap X (pargs (i + 2) vs)
      rw [conc_cat_l, ← ih]; rfl
    · show (i, conc X.1 (vr x)) :: lv_args (if (conc X.1 (vr x)).category = 2 then i + 2 else i + 1) (vs.map (conc X.1)) = (i, conc X.1 (vr x)) :: lmap X (pargs (i + 1) vs)
      rw [conc_cat_r, ← ih]; rfl
theorem pargs_mem {as : List PV} : ∀ {i : Nat} {q : Nat × PV}, q ∈ pargs i as → q.2 ∈ as := by
  induction as with
  | nil => intro i q h; cases h
  | cons v vs ih =>
    intro i q h
    rcases v with x | x | x
    · rcases List.mem_cons.mp (show q ∈ (i, vi x) :: pargs (i + 1) vs from h) with rfl | h
      · exact List.mem_cons_self
      · exact List.mem_cons_of_mem _ (ih h)
    · rcases List.mem_cons.mp (show q ∈ (i, vl x) :: pargs (i + 2) vs from h) with rfl | h
      · exact List.mem_cons_self
      · exact List.mem_cons_of_mem _ (ih h)
    · rcases List.mem_cons.mp (show q ∈ (i, vr x) :: pargs (i + 1) vs from h) with rfl | h
      · exact List.mem_cons_self
      · exact List.mem_cons_of_mem _ (ih h)
def psl : List PV → Nat
  | [] => 0
  | .inr (.inl _) :: vs => psl vs + 2
  | _ :: vs => psl vs + 1
theorem lg_len (X : WX) (as : List PV) : (lg_sl (as.map (conc X.1))).length = psl as := by
  induction as with
  | nil => rfl
  | cons v vs ih =>
    have e : ∀ w : PV, lg_sl ((w :: vs).map (conc X.1)) = (if (conc X.1 w).category = 2 then [Slot.val (conc X.1 w), .second] else [.val (conc X.1 w)]) ++ lg_sl (vs.map (conc X.1)) := fun w => rfl
    rcases v with x | x | x
    · rw [e, List.length_append, ih, conc_cat_i]; simp [psl]; omega
    · rw [e, List.length_append, ih, conc_cat_l]; simp [psl]; omega
    · rw [e, List.length_append, ih, conc_cat_r]; simp [psl]; omega
theorem own_size {X : WX} {k0 n : Nat} (h : n + 1 = X.2.2.2.2 + k0) (h1 : 1 ≤ k0) : ∀ q : Nat, n ≤ q → own X q := by
  intro q hq
  show X.2.2.2.2 ≤ q
  omega
