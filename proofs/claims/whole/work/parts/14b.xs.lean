/-! the world behind a write outside the hearths -/
set_option maxRecDepth 100000 in
theorem w_Se {n p t : tp_H} {x : tp_X} {r : List tg_Cl} (z : Int32) : tg_up (tp_cs n p t x, r) 25 (.inl (4, [.ref 26, .ref 38, .ref 39, .int z])) = (tp_cs n p t (ySe x z), r) := rfl
set_option maxRecDepth 100000 in
theorem w_Pd {n p t : tp_H} {x : tp_X} {r : List tg_Cl} (z : Bool) : tg_up (tp_cs n p t x, r) 0 (.inl (10, [.ref 1, .ref 13, .int (tg_b z), .ref 25, .ref 40, .ref 43, .ref 45, .int (nI (xTm x)), .ref 46])) = (tp_cs n p t (yPd x z), r) := rfl
set_option maxRecDepth 100000 in
theorem w_Tm {n p t : tp_H} {x : tp_X} {r : List tg_Cl} (z : Nat) : tg_up (tp_cs n p t x, r) 0 (.inl (10, [.ref 1, .ref 13, .int (tg_b (xPd x)), .ref 25, .ref 40, .ref 43, .ref 45, .int (nI z), .ref 46])) = (tp_cs n p t (yTm x z), r) := rfl
set_option maxRecDepth 100000 in
theorem w_Lm {n p t : tp_H} {x : tp_X} {r : List tg_Cl} (z : Nat) : tg_up (tp_cs n p t x, r) 43 (.inl (3, [.ref 44, .int (nI z)])) = (tp_cs n p t (yLm x z), r) := rfl
set_option maxRecDepth 100000 in
theorem w_Fh {n p t : tp_H} {x : tp_X} {r : List tg_Cl} (z : tp_A) : tg_up (tp_cs n p t x, r) 38 (.inr (4, z)) = (tp_cs n p t (yFh x z), r) := rfl
set_option maxRecDepth 100000 in
theorem w_Oh {n p t : tp_H} {x : tp_X} {r : List tg_Cl} (z : tp_A) : tg_up (tp_cs n p t x, r) 39 (.inr (4, z)) = (tp_cs n p t (yOh x z), r) := rfl
set_option maxRecDepth 100000 in
theorem w_St {n p t : tp_H} {x : tp_X} {r : List tg_Cl} (z : tp_A) : tg_up (tp_cs n p t x, r) 41 (.inr (24, z)) = (tp_cs n p t (ySt x z), r) := rfl
set_option maxRecDepth 100000 in
theorem w_Rc {n p t : tp_H} {x : tp_X} {r : List tg_Cl} (z : tp_A) : tg_up (tp_cs n p t x, r) 42 (.inr (24, z)) = (tp_cs n p t (yRc x z), r) := rfl
set_option maxRecDepth 100000 in
theorem w_Le {n p t : tp_H} {x : tp_X} {r : List tg_Cl} (z : tp_A) : tg_up (tp_cs n p t x, r) 44 (.inr (96, z)) = (tp_cs n p t (yLe x z), r) := rfl
set_option maxRecDepth 100000 in
theorem w_To {n p t : tp_H} {x : tp_X} {r : List tg_Cl} (z : tp_A) : tg_up (tp_cs n p t x, r) 45 (.inr (16, z)) = (tp_cs n p t (yTo x z), r) := rfl
set_option maxRecDepth 100000 in
theorem w_Re {n p t : tp_H} {x : tp_X} {r : List tg_Cl} (z : tp_A) : tg_up (tp_cs n p t x, r) 46 (.inr (7, z)) = (tp_cs n p t (yRe x z), r) := rfl
theorem e_PdPd (x : tp_X) (z : Bool) : xPd (yPd x z) = z := rfl
theorem e_TmPd (x : tp_X) (z : Bool) : xTm (yPd x z) = xTm x := rfl
theorem e_ToPd (x : tp_X) (z : Bool) : xTo (yPd x z) = xTo x := rfl
theorem e_RePd (x : tp_X) (z : Bool) : xRe (yPd x z) = xRe x := rfl
theorem e_LmPd (x : tp_X) (z : Bool) : xLm (yPd x z) = xLm x := rfl
theorem e_LePd (x : tp_X) (z : Bool) : xLe (yPd x z) = xLe x := rfl
theorem e_SePd (x : tp_X) (z : Bool) : xSe (yPd x z) = xSe x := rfl
theorem e_FhPd (x : tp_X) (z : Bool) : xFh (yPd x z) = xFh x := rfl
theorem e_OhPd (x : tp_X) (z : Bool) : xOh (yPd x z) = xOh x := rfl
theorem e_StPd (x : tp_X) (z : Bool) : xSt (yPd x z) = xSt x := rfl
theorem e_RcPd (x : tp_X) (z : Bool) : xRc (yPd x z) = xRc x := rfl
theorem e_PdTm (x : tp_X) (z : Nat) : xPd (yTm x z) = xPd x := rfl
theorem e_TmTm (x : tp_X) (z : Nat) : xTm (yTm x z) = z := rfl
theorem e_ToTm (x : tp_X) (z : Nat) : xTo (yTm x z) = xTo x := rfl
theorem e_ReTm (x : tp_X) (z : Nat) : xRe (yTm x z) = xRe x := rfl
theorem e_LmTm (x : tp_X) (z : Nat) : xLm (yTm x z) = xLm x := rfl
theorem e_LeTm (x : tp_X) (z : Nat) : xLe (yTm x z) = xLe x := rfl
theorem e_SeTm (x : tp_X) (z : Nat) : xSe (yTm x z) = xSe x := rfl
theorem e_FhTm (x : tp_X) (z : Nat) : xFh (yTm x z) = xFh x := rfl
theorem e_OhTm (x : tp_X) (z : Nat) : xOh (yTm x z) = xOh x := rfl
theorem e_StTm (x : tp_X) (z : Nat) : xSt (yTm x z) = xSt x := rfl
theorem e_RcTm (x : tp_X) (z : Nat) : xRc (yTm x z) = xRc x := rfl
theorem e_PdTo (x : tp_X) (z : tp_A) : xPd (yTo x z) = xPd x := rfl
theorem e_TmTo (x : tp_X) (z : tp_A) : xTm (yTo x z) = xTm x := rfl
theorem e_ToTo (x : tp_X) (z : tp_A) : xTo (yTo x z) = z := rfl
theorem e_ReTo (x : tp_X) (z : tp_A) : xRe (yTo x z) = xRe x := rfl
theorem e_LmTo (x : tp_X) (z : tp_A) : xLm (yTo x z) = xLm x := rfl
theorem e_LeTo (x : tp_X) (z : tp_A) : xLe (yTo x z) = xLe x := rfl
theorem e_SeTo (x : tp_X) (z : tp_A) : xSe (yTo x z) = xSe x := rfl
theorem e_FhTo (x : tp_X) (z : tp_A) : xFh (yTo x z) = xFh x := rfl
theorem e_OhTo (x : tp_X) (z : tp_A) : xOh (yTo x z) = xOh x := rfl
theorem e_StTo (x : tp_X) (z : tp_A) : xSt (yTo x z) = xSt x := rfl
theorem e_RcTo (x : tp_X) (z : tp_A) : xRc (yTo x z) = xRc x := rfl
theorem e_PdRe (x : tp_X) (z : tp_A) : xPd (yRe x z) = xPd x := rfl
theorem e_TmRe (x : tp_X) (z : tp_A) : xTm (yRe x z) = xTm x := rfl
theorem e_ToRe (x : tp_X) (z : tp_A) : xTo (yRe x z) = xTo x := rfl
theorem e_ReRe (x : tp_X) (z : tp_A) : xRe (yRe x z) = z := rfl
theorem e_LmRe (x : tp_X) (z : tp_A) : xLm (yRe x z) = xLm x := rfl
theorem e_LeRe (x : tp_X) (z : tp_A) : xLe (yRe x z) = xLe x := rfl
theorem e_SeRe (x : tp_X) (z : tp_A) : xSe (yRe x z) = xSe x := rfl
theorem e_FhRe (x : tp_X) (z : tp_A) : xFh (yRe x z) = xFh x := rfl
theorem e_OhRe (x : tp_X) (z : tp_A) : xOh (yRe x z) = xOh x := rfl
theorem e_StRe (x : tp_X) (z : tp_A) : xSt (yRe x z) = xSt x := rfl
theorem e_RcRe (x : tp_X) (z : tp_A) : xRc (yRe x z) = xRc x := rfl
theorem e_PdLm (x : tp_X) (z : Nat) : xPd (yLm x z) = xPd x := rfl
theorem e_TmLm (x : tp_X) (z : Nat) : xTm (yLm x z) = xTm x := rfl
theorem e_ToLm (x : tp_X) (z : Nat) : xTo (yLm x z) = xTo x := rfl
theorem e_ReLm (x : tp_X) (z : Nat) : xRe (yLm x z) = xRe x := rfl
theorem e_LmLm (x : tp_X) (z : Nat) : xLm (yLm x z) = z := rfl
theorem e_LeLm (x : tp_X) (z : Nat) : xLe (yLm x z) = xLe x := rfl
theorem e_SeLm (x : tp_X) (z : Nat) : xSe (yLm x z) = xSe x := rfl
theorem e_FhLm (x : tp_X) (z : Nat) : xFh (yLm x z) = xFh x := rfl
theorem e_OhLm (x : tp_X) (z : Nat) : xOh (yLm x z) = xOh x := rfl
theorem e_StLm (x : tp_X) (z : Nat) : xSt (yLm x z) = xSt x := rfl
theorem e_RcLm (x : tp_X) (z : Nat) : xRc (yLm x z) = xRc x := rfl
theorem e_PdLe (x : tp_X) (z : tp_A) : xPd (yLe x z) = xPd x := rfl
theorem e_TmLe (x : tp_X) (z : tp_A) : xTm (yLe x z) = xTm x := rfl
theorem e_ToLe (x : tp_X) (z : tp_A) : xTo (yLe x z) = xTo x := rfl
theorem e_ReLe (x : tp_X) (z : tp_A) : xRe (yLe x z) = xRe x := rfl
theorem e_LmLe (x : tp_X) (z : tp_A) : xLm (yLe x z) = xLm x := rfl
theorem e_LeLe (x : tp_X) (z : tp_A) : xLe (yLe x z) = z := rfl
theorem e_SeLe (x : tp_X) (z : tp_A) : xSe (yLe x z) = xSe x := rfl
theorem e_FhLe (x : tp_X) (z : tp_A) : xFh (yLe x z) = xFh x := rfl
theorem e_OhLe (x : tp_X) (z : tp_A) : xOh (yLe x z) = xOh x := rfl
theorem e_StLe (x : tp_X) (z : tp_A) : xSt (yLe x z) = xSt x := rfl
theorem e_RcLe (x : tp_X) (z : tp_A) : xRc (yLe x z) = xRc x := rfl
theorem e_PdSe (x : tp_X) (z : Int32) : xPd (ySe x z) = xPd x := rfl
theorem e_TmSe (x : tp_X) (z : Int32) : xTm (ySe x z) = xTm x := rfl
theorem e_ToSe (x : tp_X) (z : Int32) : xTo (ySe x z) = xTo x := rfl
theorem e_ReSe (x : tp_X) (z : Int32) : xRe (ySe x z) = xRe x := rfl
theorem e_LmSe (x : tp_X) (z : Int32) : xLm (ySe x z) = xLm x := rfl
theorem e_LeSe (x : tp_X) (z : Int32) : xLe (ySe x z) = xLe x := rfl
theorem e_SeSe (x : tp_X) (z : Int32) : xSe (ySe x z) = z := rfl
theorem e_FhSe (x : tp_X) (z : Int32) : xFh (ySe x z) = xFh x := rfl
theorem e_OhSe (x : tp_X) (z : Int32) : xOh (ySe x z) = xOh x := rfl
theorem e_StSe (x : tp_X) (z : Int32) : xSt (ySe x z) = xSt x := rfl
theorem e_RcSe (x : tp_X) (z : Int32) : xRc (ySe x z) = xRc x := rfl
theorem e_PdFh (x : tp_X) (z : tp_A) : xPd (yFh x z) = xPd x := rfl
theorem e_TmFh (x : tp_X) (z : tp_A) : xTm (yFh x z) = xTm x := rfl
theorem e_ToFh (x : tp_X) (z : tp_A) : xTo (yFh x z) = xTo x := rfl
theorem e_ReFh (x : tp_X) (z : tp_A) : xRe (yFh x z) = xRe x := rfl
theorem e_LmFh (x : tp_X) (z : tp_A) : xLm (yFh x z) = xLm x := rfl
theorem e_LeFh (x : tp_X) (z : tp_A) : xLe (yFh x z) = xLe x := rfl
theorem e_SeFh (x : tp_X) (z : tp_A) : xSe (yFh x z) = xSe x := rfl
theorem e_FhFh (x : tp_X) (z : tp_A) : xFh (yFh x z) = z := rfl
theorem e_OhFh (x : tp_X) (z : tp_A) : xOh (yFh x z) = xOh x := rfl
theorem e_StFh (x : tp_X) (z : tp_A) : xSt (yFh x z) = xSt x := rfl
theorem e_RcFh (x : tp_X) (z : tp_A) : xRc (yFh x z) = xRc x := rfl
theorem e_PdOh (x : tp_X) (z : tp_A) : xPd (yOh x z) = xPd x := rfl
theorem e_TmOh (x : tp_X) (z : tp_A) : xTm (yOh x z) = xTm x := rfl
theorem e_ToOh (x : tp_X) (z : tp_A) : xTo (yOh x z) = xTo x := rfl
theorem e_ReOh (x : tp_X) (z : tp_A) : xRe (yOh x z) = xRe x := rfl
theorem e_LmOh (x : tp_X) (z : tp_A) : xLm (yOh x z) = xLm x := rfl
theorem e_LeOh (x : tp_X) (z : tp_A) : xLe (yOh x z) = xLe x := rfl
theorem e_SeOh (x : tp_X) (z : tp_A) : xSe (yOh x z) = xSe x := rfl
theorem e_FhOh (x : tp_X) (z : tp_A) : xFh (yOh x z) = xFh x := rfl
theorem e_OhOh (x : tp_X) (z : tp_A) : xOh (yOh x z) = z := rfl
theorem e_StOh (x : tp_X) (z : tp_A) : xSt (yOh x z) = xSt x := rfl
theorem e_RcOh (x : tp_X) (z : tp_A) : xRc (yOh x z) = xRc x := rfl
theorem e_PdSt (x : tp_X) (z : tp_A) : xPd (ySt x z) = xPd x := rfl
theorem e_TmSt (x : tp_X) (z : tp_A) : xTm (ySt x z) = xTm x := rfl
theorem e_ToSt (x : tp_X) (z : tp_A) : xTo (ySt x z) = xTo x := rfl
theorem e_ReSt (x : tp_X) (z : tp_A) : xRe (ySt x z) = xRe x := rfl
theorem e_LmSt (x : tp_X) (z : tp_A) : xLm (ySt x z) = xLm x := rfl
theorem e_LeSt (x : tp_X) (z : tp_A) : xLe (ySt x z) = xLe x := rfl
theorem e_SeSt (x : tp_X) (z : tp_A) : xSe (ySt x z) = xSe x := rfl
theorem e_FhSt (x : tp_X) (z : tp_A) : xFh (ySt x z) = xFh x := rfl
theorem e_OhSt (x : tp_X) (z : tp_A) : xOh (ySt x z) = xOh x := rfl
theorem e_StSt (x : tp_X) (z : tp_A) : xSt (ySt x z) = z := rfl
theorem e_RcSt (x : tp_X) (z : tp_A) : xRc (ySt x z) = xRc x := rfl
theorem e_PdRc (x : tp_X) (z : tp_A) : xPd (yRc x z) = xPd x := rfl
theorem e_TmRc (x : tp_X) (z : tp_A) : xTm (yRc x z) = xTm x := rfl
theorem e_ToRc (x : tp_X) (z : tp_A) : xTo (yRc x z) = xTo x := rfl
theorem e_ReRc (x : tp_X) (z : tp_A) : xRe (yRc x z) = xRe x := rfl
theorem e_LmRc (x : tp_X) (z : tp_A) : xLm (yRc x z) = xLm x := rfl
theorem e_LeRc (x : tp_X) (z : tp_A) : xLe (yRc x z) = xLe x := rfl
theorem e_SeRc (x : tp_X) (z : tp_A) : xSe (yRc x z) = xSe x := rfl
theorem e_FhRc (x : tp_X) (z : tp_A) : xFh (yRc x z) = xFh x := rfl
theorem e_OhRc (x : tp_X) (z : tp_A) : xOh (yRc x z) = xOh x := rfl
theorem e_StRc (x : tp_X) (z : tp_A) : xSt (yRc x z) = xSt x := rfl
theorem e_RcRc (x : tp_X) (z : tp_A) : xRc (yRc x z) = z := rfl
