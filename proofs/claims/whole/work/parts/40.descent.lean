/-- a step of the desk: its code, its operands (or a name, a place), a constant's kind and value -/
abbrev SD := Int × Int × Int × Int × Int × Int
/-- where the descent stands: the token, nodes, steps, open brackets, choices, whether an instanceof stands just before -/
abbrev DS := Int × List ND × List SD × Int × Int × Int
def tcodeL : List Int := [0, 137, 137, 137, 137, 137, 139, 138, 140, 140, 140, 140, 140, 141, 142, 0, 0, 0, 0, 0, 40, 41, 91, 93, 46, 63, 58, 43, 45, 42, 47, 37, 126, 33, 60, 128, 62, 129, 130, 131, 132, 133, 134, 38, 135, 124, 136, 94]
def tcode (t : Int) : Int := tcodeL.getD t.toNat 0
def tkind (t : Int) : Int := if t = 1 then 0 else if t = 2 then 1 else if t = 3 then 2 else if t = 4 then 3 else if t = 5 then 17 else -1
def tnum (t v : Int) : Int := if t = 1 ∨ t = 2 ∨ t = 3 ∨ t = 4 ∨ t = 7 then v else if t = 8 then 4 + v else if 9 ≤ t ∧ t ≤ 12 then t - 9 else 0
def ucode (t : Int) : Int := if t = 27 then 147 else if t = 28 then 148 else if t = 32 then 126 else if t = 33 then 33 else 0
def bq (t : Int) : Int := if t = 13 then 7 else bdV t
def tp (N : List ND) : Int := (N.length : Int) - 1
def ts (S : List SD) : Int := (S.length : Int) - 1
def patchS (S : List SD) (i : Nat) (v : Int) : List SD := S.set i ((S.getD i (0, 0, 0, 0, 0, 0)).1, (S.getD i (0, 0, 0, 0, 0, 0)).2.1, v, (S.getD i (0, 0, 0, 0, 0, 0)).2.2.2)
section DD
variable (T W : Int → Int)
def enclD (R : DS → Option DS) (c : Int) : DS → Option DS
  | (k, N, S, o, a, _) => if 6 < o + 1 then none else match R (k, N, S, o + 1, a, 0) with
    | none => none
    | some (k2, N2, S2, o2, a2, _) => if T k2 = c then some (k2 + 1, N2, S2, o2 - 1, a2, 0) else none
def firstD (R : DS → Option DS) : DS → Option DS
  | (k, N, S, o, a, _) => if T k = 20 then enclD T R 21 (k + 1, N, S, o, a, 0)
    else if 1 ≤ T k ∧ T k ≤ 5 then (if T k = 1 ∧ W k = 2147483648 then none else some (k + 1, N ++ [(T k, -1, -1, -1, W k)], S ++ [(137, 0, 0, 0, tkind (T k), tnum (T k) (W k))], o, a, 0))
    else if T k = 7 then some (k + 1, N ++ [(7, -1, -1, -1, W k)], S ++ [(143, 0, W k, 0, 0, 0)], o, a, 0)
    else if T k = 6 then some (k + 1, N ++ [(6, -1, -1, -1, W k)], S ++ [(143, 0, 26, 0, 0, 0)], o, a, 0)
    else none
def partD : DS → Option DS
  | (k, N, S, o, a, _) => if T (k + 1) = 7 then some (k + 2, N ++ [(60, tp N, -1, -1, W (k + 1))], S ++ [(144, ts S, W (k + 1), 0, 0, 0)], o, a, 0)
    else if T (k + 1) = 14 then some (k + 2, N ++ [(61, tp N, -1, -1, W (k + 1))], S ++ [(142, ts S, 0, 0, 0, 0)], o, a, 0) else none
def indexD (N : List ND) (S : List SD) : DS → DS
  | (k2, N2, S2, o2, a2, _) => (k2, N2 ++ [(62, tp N, tp N2, -1, 0)], S2 ++ [(145, ts S, ts S2, 0, 0, 0)], o2, a2, 0)
def partsD (R L : DS → Option DS) : DS → Option DS
  | (k, N, S, o, a, c) => if T k = 24 then (partD T W (k, N, S, o, a, c)).bind L
    else if T k = 22 then (enclD T R 23 (k + 1, N, S, o, a, 0)).bind (fun σ => L (indexD N S σ))
    else some (k, N, S, o, a, 0)
def castD (k : Int) : Option (Int × Int) :=
  if T (k + 2) = 22 then (if T (k + 3) = 23 ∧ (T (k + 1) = 8 ∨ T (k + 1) = 9) ∧ T (k + 4) = 21 then some (k + 5, castK (T (k + 1)) (W (k + 1)) true) else none)
  else if T (k + 2) = 21 then some (k + 3, castK (T (k + 1)) (W (k + 1)) false) else none
def endUD (u c v : Int) : DS → Option DS
  | (k2, N2, S2, o2, a2, c2) => some (k2, N2 ++ [(u, tp N2, -1, -1, v)], S2 ++ [(c, ts S2, v, 0, 0, 0)], o2, a2, c2)
def unaryD (R F : DS → Option DS) : DS → Option DS
  | (k, N, S, o, a, c) => if T k = 20 ∧ 8 ≤ T (k + 1) ∧ T (k + 1) ≤ 12 then (match castD T W k with
      | none => none
      | some (k1, v) => (R (k1, N, S, o, a, 0)).bind (endUD 64 146 v))
    else if T k = 27 ∨ T k = 28 ∨ T k = 32 ∨ T k = 33 then (if T k = 28 ∧ T (k + 1) = 1 ∧ W (k + 1) = 2147483648 then
        endUD 128 148 0 (k + 2, N ++ [(1, -1, -1, -1, W (k + 1))], S ++ [(137, 0, 0, 0, 0, W (k + 1))], o, a, 0)
      else (R (k + 1, N, S, o, a, 0)).bind (endUD (100 + T k) (ucode (T k)) 0))
    else F (k, N, S, o, a, c)
def rightD (B : DS → Option DS) (t : Int) (N : List ND) (S : List SD) : DS → Option DS
  | (k, _, _, o, a, _) => if t = 44 ∨ t = 46 then (match B (k, N, S ++ [(if t = 44 then 151 else 152, ts S, 0, 0, 0, 0)], o, a, 0) with
      | none => none
      | some (k2, N2, S2, o2, a2, c2) => some (k2, N2 ++ [(t, tp N, tp N2, -1, 0)], patchS S2 S.length S2.length ++ [(tcode t, ts S, ts S2, 0, 0, 0)], o2, a2, c2))
    else (match B (k, N, S, o, a, 0) with
      | none => none
      | some (k2, N2, S2, o2, a2, c2) => some (k2, N2 ++ [(t, tp N, tp N2, -1, 0)], S2 ++ [(tcode t, ts S, ts S2, 0, 0, 0)], o2, a2, c2))
def loopD (lev : Int) (B : Int → DS → Option DS) (L : DS → Option DS) : DS → Option DS
  | (k, N, S, o, a, c) => if bq (T k) < lev ∨ (c = 1 ∧ 7 < bq (T k)) then some (k, N, S, o, a, c)
    else if T k = 13 then (if T (k + 1) = 8 then L (k + 2, N ++ [(63, tp N, -1, -1, W (k + 1))], S ++ [(141, ts S, 4 + W (k + 1), 0, 0, 0)], o, a, 1) else none)
    else (rightD (B (bdV (T k) + 1)) (T k) N S (k + 1, N, S, o, a, 0)).bind L
def choiceD (B R : DS → Option DS) (σ : DS) : Option DS := match B σ with
  | none => none
  | some (k, N, S, o, a, c) => if ¬ T k = 25 then some (k, N, S, o, a, c) else if 4 < a + 1 then none else
    match R (k + 1, N, S ++ [(151, ts S, 0, 0, 0, 0)], o, a + 1, 0) with
    | none => none
    | some (k2, N2, S2, o2, a2, _) => if ¬ T k2 = 26 then none else
      match R (k2 + 1, N2, patchS (S2 ++ [(150, ts S, 0, 0, 0, 0)]) S.length (S2.length + 1), o2, a2, 0) with
      | none => none
      | some (k3, N3, S3, o3, a3, c3) => some (k3, N3 ++ [(65, tp N, tp N2, tp N3, 0)], patchS S3 S2.length S3.length ++ [(149, ts S, ts S2, ts S3, 0, 0)], o3, a3, c3)
/-- the descent, by what is read: 0 a choice, 1 operands with signs of a level, 2 what stands behind the first of these, 3 an operand with what stands ahead, 4 an operand with its parts, 5 parts -/
def desc : Nat → Nat → Int → DS → Option DS
  | 0, _, _, _ => none
  | f + 1, 0, _, σ => choiceD T (desc f 1 1) (desc f 0 0) σ
  | f + 1, 1, lev, σ => (desc f 3 0 σ).bind (desc f 2 lev)
  | f + 1, 2, lev, σ => loopD T W lev (fun l => desc f 1 l) (desc f 2 lev) σ
  | f + 1, 3, _, σ => unaryD T W (desc f 3 0) (desc f 4 0) σ
  | f + 1, 4, _, σ => (firstD T W (desc f 0 0) σ).bind (desc f 5 0)
  | f + 1, _, _, σ => partsD T W (desc f 0 0) (desc f 5 0) σ
end DD
