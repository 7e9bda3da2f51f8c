/-! the state of the class as cells -/
abbrev tp_A : Type := Nat → Int32
abbrev tp_H : Type := Int32 × Int32 × Int32 × Nat × tp_A × tp_A × tp_A × tp_A × tp_A
def hC (h : tp_H) : Int32 := h.1
def hS (h : tp_H) : Int32 := h.2.1
def hN (h : tp_H) : Int32 := h.2.2.1
def hM (h : tp_H) : Nat := h.2.2.2.1
def hK (h : tp_H) : tp_A := h.2.2.2.2.1
def hF (h : tp_H) : tp_A := h.2.2.2.2.2.1
def hH (h : tp_H) : tp_A := h.2.2.2.2.2.2.1
def hT (h : tp_H) : tp_A := h.2.2.2.2.2.2.2.1
def hP (h : tp_H) : tp_A := h.2.2.2.2.2.2.2.2
def sC (h : tp_H) (v : Int32) : tp_H := (v, hS h, hN h, hM h, hK h, hF h, hH h, hT h, hP h)
def sS (h : tp_H) (v : Int32) : tp_H := (hC h, v, hN h, hM h, hK h, hF h, hH h, hT h, hP h)
def sN (h : tp_H) (v : Int32) : tp_H := (hC h, hS h, v, hM h, hK h, hF h, hH h, hT h, hP h)
def sM (h : tp_H) (v : Nat) : tp_H := (hC h, hS h, hN h, v, hK h, hF h, hH h, hT h, hP h)
def sK (h : tp_H) (v : tp_A) : tp_H := (hC h, hS h, hN h, hM h, v, hF h, hH h, hT h, hP h)
def sF (h : tp_H) (v : tp_A) : tp_H := (hC h, hS h, hN h, hM h, hK h, v, hH h, hT h, hP h)
def sH (h : tp_H) (v : tp_A) : tp_H := (hC h, hS h, hN h, hM h, hK h, hF h, v, hT h, hP h)
def sT (h : tp_H) (v : tp_A) : tp_H := (hC h, hS h, hN h, hM h, hK h, hF h, hH h, v, hP h)
def sP (h : tp_H) (v : tp_A) : tp_H := (hC h, hS h, hN h, hM h, hK h, hF h, hH h, hT h, v)
abbrev tp_X : Type := Bool × Nat × tp_A × tp_A × Nat × tp_A × Int32 × tp_A × tp_A × tp_A × tp_A
def xPd (x : tp_X) : Bool := x.1
def xTm (x : tp_X) : Nat := x.2.1
def xTo (x : tp_X) : tp_A := x.2.2.1
def xRe (x : tp_X) : tp_A := x.2.2.2.1
def xLm (x : tp_X) : Nat := x.2.2.2.2.1
def xLe (x : tp_X) : tp_A := x.2.2.2.2.2.1
def xSe (x : tp_X) : Int32 := x.2.2.2.2.2.2.1
def xFh (x : tp_X) : tp_A := x.2.2.2.2.2.2.2.1
def xOh (x : tp_X) : tp_A := x.2.2.2.2.2.2.2.2.1
def xSt (x : tp_X) : tp_A := x.2.2.2.2.2.2.2.2.2.1
def xRc (x : tp_X) : tp_A := x.2.2.2.2.2.2.2.2.2.2
def yPd (x : tp_X) (v : Bool) : tp_X := (v, xTm x, xTo x, xRe x, xLm x, xLe x, xSe x, xFh x, xOh x, xSt x, xRc x)
def yTm (x : tp_X) (v : Nat) : tp_X := (xPd x, v, xTo x, xRe x, xLm x, xLe x, xSe x, xFh x, xOh x, xSt x, xRc x)
def yTo (x : tp_X) (v : tp_A) : tp_X := (xPd x, xTm x, v, xRe x, xLm x, xLe x, xSe x, xFh x, xOh x, xSt x, xRc x)
def yRe (x : tp_X) (v : tp_A) : tp_X := (xPd x, xTm x, xTo x, v, xLm x, xLe x, xSe x, xFh x, xOh x, xSt x, xRc x)
def yLm (x : tp_X) (v : Nat) : tp_X := (xPd x, xTm x, xTo x, xRe x, v, xLe x, xSe x, xFh x, xOh x, xSt x, xRc x)
def yLe (x : tp_X) (v : tp_A) : tp_X := (xPd x, xTm x, xTo x, xRe x, xLm x, v, xSe x, xFh x, xOh x, xSt x, xRc x)
def ySe (x : tp_X) (v : Int32) : tp_X := (xPd x, xTm x, xTo x, xRe x, xLm x, xLe x, v, xFh x, xOh x, xSt x, xRc x)
def yFh (x : tp_X) (v : tp_A) : tp_X := (xPd x, xTm x, xTo x, xRe x, xLm x, xLe x, xSe x, v, xOh x, xSt x, xRc x)
def yOh (x : tp_X) (v : tp_A) : tp_X := (xPd x, xTm x, xTo x, xRe x, xLm x, xLe x, xSe x, xFh x, v, xSt x, xRc x)
def ySt (x : tp_X) (v : tp_A) : tp_X := (xPd x, xTm x, xTo x, xRe x, xLm x, xLe x, xSe x, xFh x, xOh x, v, xRc x)
def yRc (x : tp_X) (v : tp_A) : tp_X := (xPd x, xTm x, xTo x, xRe x, xLm x, xLe x, xSe x, xFh x, xOh x, xSt x, v)
def tp_cs (n p t : tp_H) (x : tp_X) : List tg_Cl := [.inl (10, [.ref 1, .ref 13, .int (tg_b (xPd x)), .ref 25, .ref 40, .ref 43, .ref 45, .int (nI (xTm x)), .ref 46]),
  .inl (1, [.int (hC n), .int (hS n), .int (hN n), .int (nI (hM n)), .ref 2, .ref 3, .ref 4, .ref 5, .ref 6, .ref 7, .ref 8, .ref 9, .ref 10, .ref 11, .ref 12]),
  .inr (7, hK n),
  .inr (7, hF n),
  .inr (7, hH n),
  .inr (7, hT n),
  .inr (7, hP n),
  .inl (8, []),
  .inl (2, []),
  .inl (0, []),
  .inl (7, []),
  .inl (9, []),
  .inl (5, []),
  .inl (1, [.int (hC p), .int (hS p), .int (hN p), .int (nI (hM p)), .ref 14, .ref 15, .ref 16, .ref 17, .ref 18, .ref 19, .ref 20, .ref 21, .ref 22, .ref 23, .ref 24]),
  .inr (7, hK p),
  .inr (7, hF p),
  .inr (7, hH p),
  .inr (7, hT p),
  .inr (7, hP p),
  .inl (8, []),
  .inl (2, []),
  .inl (0, []),
  .inl (7, []),
  .inl (9, []),
  .inl (5, []),
  .inl (4, [.ref 26, .ref 38, .ref 39, .int (xSe x)]),
  .inl (1, [.int (hC t), .int (hS t), .int (hN t), .int (nI (hM t)), .ref 27, .ref 28, .ref 29, .ref 30, .ref 31, .ref 32, .ref 33, .ref 34, .ref 35, .ref 36, .ref 37]),
  .inr (7, hK t),
  .inr (7, hF t),
  .inr (7, hH t),
  .inr (7, hT t),
  .inr (7, hP t),
  .inl (8, []),
  .inl (2, []),
  .inl (0, []),
  .inl (7, []),
  .inl (9, []),
  .inl (5, []),
  .inr (4, xFh x),
  .inr (4, xOh x),
  .inl (6, [.ref 41, .ref 42]),
  .inr (24, xSt x),
  .inr (24, xRc x),
  .inl (3, [.ref 44, .int (nI (xLm x))]),
  .inr (96, xLe x),
  .inr (16, xTo x),
  .inr (7, xRe x)]
theorem tc_abs : Jvm.Cond.code Lib.Math.abs.name Lib.Math.abs.code 1 (some .int) ∈ tg_GW := tg_is_mem (c := 3) (i := 169) (by decide +kernel)
def tg_pk (L : List (Nat × Value)) (ks : List Nat) : List (Nat × Value) := match ks with
  | [] => []
  | k :: r => match tg_get L k with
    | some u => (k, u) :: tg_pk L r
    | none => tg_pk L r
theorem tg_pk_mem {L : List (Nat × Value)} {ks : List Nat} {q : Nat × Value} (h : q ∈ tg_pk L ks) : q ∈ L := by
  induction ks with
  | nil => cases h
  | cons k r ih =>
    unfold tg_pk at h
    split at h
    · rename_i u hu
      rcases List.mem_cons.mp h with rfl | h
      · exact tg_get_mem hu
      · exact ih h
    · exact ih h
theorem tg_pkV {G : tg_G} {lv : Nat} {m : tg_M} {kc ks mc ms : Nat} {Q : Option Value → tg_W → Prop} {pc : Nat} {L : List (Nat × Value)} {st : List Value} {w : tg_W} (ps : List Nat) (h : tg_V G lv m kc ks mc ms Q pc (tg_pk L ps) st w) : tg_V G lv m kc ks mc ms Q pc L st w := by
  intro p l en R s mi args below meth c H locs ls C hS hR hl
  refine h p l en R s mi args below meth c H locs ls C hS hR (tg_has_sub hl fun q hq => ?_)
  obtain ⟨a, ha, rfl⟩ := List.mem_map.mp hq
  exact List.mem_map.mpr ⟨a, tg_pk_mem ha, rfl⟩
/-! counts, bits, firsts over numbers below a bound -/
def cI (p : Nat → Bool) : Nat → Int32
  | 0 => 0
  | i + 1 => bif p i then cI p i + 1 else cI p i
def bI (p : Nat → Bool) : Nat → Int32
  | 0 => 0
  | i + 1 => bif p i then bI p i ||| (1 <<< (nI i &&& 31)) else bI p i
theorem cI_succ (p : Nat → Bool) (i : Nat) : cI p (i + 1) = bif p i then cI p i + 1 else cI p i := rfl
theorem bI_succ (p : Nat → Bool) (i : Nat) : bI p (i + 1) = bif p i then bI p i ||| (1 <<< (nI i &&& 31)) else bI p i := rfl
/-- all of i .. i + d - 1 -/
def aI (p : Nat → Bool) : Nat → Nat → Bool
  | 0, _ => true
  | d + 1, i => bif p i then aI p d (i + 1) else false
theorem aI_succ (p : Nat → Bool) (d i : Nat) : aI p (d + 1) i = bif p i then aI p d (i + 1) else false := rfl
def hasB (h : tp_H) (k : Int32) : Bool := bif decide (k < 0) then false else bif decide (nI (hM h) ≤ k) then false else true
theorem has_j {h : tp_H} {k : Int32} (hm : hM h ≤ 7) (hb : hasB h k = true) : ∃ j : Nat, j < hM h ∧ k = nI j ∧ (nI j).toNatClampNeg = j := by
  unfold hasB at hb
  by_cases h1 : k < 0
  · simp [h1] at hb
  · by_cases h2 : nI (hM h) ≤ k
    · simp [h1, h2] at hb
    · obtain ⟨j, hj, rfl⟩ := nI_of h1
      refine ⟨j, ?_, rfl, nI_clamp hj⟩
      rcases Nat.lt_or_ge j (hM h) with q | q
      · exact q
      · exact absurd (nI_le q hj) h2
theorem has_nI {h : tp_H} {j : Nat} (hm : hM h ≤ 7) (hj : j < hM h) : hasB h (nI j) = true := by
  unfold hasB
  rw [decide_eq_false (nI_pos (by omega)), decide_eq_false (nI_ge hj (by omega))]
  rfl
def gO (f : tp_H → tp_A) (h : tp_H) (k : Int32) : Int32 := bif hasB h k then f h k.toNatClampNeg else -9
def abB (h : tp_H) (k : Int32) : Bool := decide (gO hT h k = hS h)
def crB (h : tp_H) (t : Int32) : Bool := decide ((hC h >>> (t &&& 31)) &&& 1 = 1)
def mAt (h : tp_H) (t : Int32) : Int32 := cI (fun i => decide (hT h i = t)) (hM h)
def oAt (h : tp_H) (t : Int32) : Int32 := bI (fun i => decide (hT h i = t)) (hM h)
def othB (h : tp_H) (k : Int32) : Bool := aI (fun i => bif decide (nI i = k) then true else decide (hT h i = hS h)) (hM h) 0
def isT (t : Int32) : Bool := bif decide (t < 0) then false else bif decide (24 ≤ t) then false else true
def upTo (k g : Int32) : Bool := bif decide (k < 0) then false else bif decide (g < k) then false else true
def bes (t k : Int32) : Int32 :=
  if k = 0 then (if t < 6 then -9 else t - 6) else if k = 1 then (if 5 ≤ t % 6 then -9 else t + 1) else if k = 2 then (if 18 ≤ t then -9 else t + 6) else if k = 3 then (if t % 6 ≤ 0 then -9 else t - 1) else -9
def abI (x : Int32) : Int32 := if 0 ≤ x then x else 0 - x
def rcD (a b : Int32) : Int32 := abI (a / 6 - b / 6) + abI (a % 6 - b % 6)
def wSk (t : Int32) : Int32 := if 5 ≤ t % 6 then 3 else 1
def wSa (s t : Int32) : Int32 := if s / 6 - t / 6 = 0 then (if s = t then -9 else if s ≤ t then 3 else 1) else (if s / 6 - t / 6 ≤ 0 then 0 else 2)

