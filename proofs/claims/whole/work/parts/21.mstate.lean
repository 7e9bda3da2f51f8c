/-! the state of the reference as cells -/
abbrev tp_Y : Type := tp_A × tp_A × tp_A × tp_A × tp_A × Nat × Nat × Nat × tp_A × Bool × Bool × Nat × Int32 × tp_A × tp_A × Nat × Int32
def yRf (y : tp_Y) : tp_A := y.1
def yTp (y : tp_Y) : tp_A := y.2.1
def yLa (y : tp_Y) : tp_A := y.2.2.1
def yLt (y : tp_Y) : tp_A := y.2.2.2.1
def yTl (y : tp_Y) : tp_A := y.2.2.2.2.1
def yTd (y : tp_Y) : Nat := y.2.2.2.2.2.1
def yRd (y : tp_Y) : Nat := y.2.2.2.2.2.2.1
def ySm (y : tp_Y) : Nat := y.2.2.2.2.2.2.2.1
def yKe (y : tp_Y) : tp_A := y.2.2.2.2.2.2.2.2.1
def yHi (y : tp_Y) : Bool := y.2.2.2.2.2.2.2.2.2.1
def yIk (y : tp_Y) : Bool := y.2.2.2.2.2.2.2.2.2.2.1
def yCu (y : tp_Y) : Nat := y.2.2.2.2.2.2.2.2.2.2.2.1
def yMo (y : tp_Y) : Int32 := y.2.2.2.2.2.2.2.2.2.2.2.2.1
def yEn (y : tp_Y) : tp_A := y.2.2.2.2.2.2.2.2.2.2.2.2.2.1
def yRo (y : tp_Y) : tp_A := y.2.2.2.2.2.2.2.2.2.2.2.2.2.2.1
def yRm (y : tp_Y) : Nat := y.2.2.2.2.2.2.2.2.2.2.2.2.2.2.2.1
def yLo (y : tp_Y) : Int32 := y.2.2.2.2.2.2.2.2.2.2.2.2.2.2.2.2
def zRf (y : tp_Y) (v : tp_A) : tp_Y := (v, yTp y, yLa y, yLt y, yTl y, yTd y, yRd y, ySm y, yKe y, yHi y, yIk y, yCu y, yMo y, yEn y, yRo y, yRm y, yLo y)
def zTp (y : tp_Y) (v : tp_A) : tp_Y := (yRf y, v, yLa y, yLt y, yTl y, yTd y, yRd y, ySm y, yKe y, yHi y, yIk y, yCu y, yMo y, yEn y, yRo y, yRm y, yLo y)
def zLa (y : tp_Y) (v : tp_A) : tp_Y := (yRf y, yTp y, v, yLt y, yTl y, yTd y, yRd y, ySm y, yKe y, yHi y, yIk y, yCu y, yMo y, yEn y, yRo y, yRm y, yLo y)
def zLt (y : tp_Y) (v : tp_A) : tp_Y := (yRf y, yTp y, yLa y, v, yTl y, yTd y, yRd y, ySm y, yKe y, yHi y, yIk y, yCu y, yMo y, yEn y, yRo y, yRm y, yLo y)
def zTl (y : tp_Y) (v : tp_A) : tp_Y := (yRf y, yTp y, yLa y, yLt y, v, yTd y, yRd y, ySm y, yKe y, yHi y, yIk y, yCu y, yMo y, yEn y, yRo y, yRm y, yLo y)
def zTd (y : tp_Y) (v : Nat) : tp_Y := (yRf y, yTp y, yLa y, yLt y, yTl y, v, yRd y, ySm y, yKe y, yHi y, yIk y, yCu y, yMo y, yEn y, yRo y, yRm y, yLo y)
def zRd (y : tp_Y) (v : Nat) : tp_Y := (yRf y, yTp y, yLa y, yLt y, yTl y, yTd y, v, ySm y, yKe y, yHi y, yIk y, yCu y, yMo y, yEn y, yRo y, yRm y, yLo y)
def zSm (y : tp_Y) (v : Nat) : tp_Y := (yRf y, yTp y, yLa y, yLt y, yTl y, yTd y, yRd y, v, yKe y, yHi y, yIk y, yCu y, yMo y, yEn y, yRo y, yRm y, yLo y)
def zKe (y : tp_Y) (v : tp_A) : tp_Y := (yRf y, yTp y, yLa y, yLt y, yTl y, yTd y, yRd y, ySm y, v, yHi y, yIk y, yCu y, yMo y, yEn y, yRo y, yRm y, yLo y)
def zHi (y : tp_Y) (v : Bool) : tp_Y := (yRf y, yTp y, yLa y, yLt y, yTl y, yTd y, yRd y, ySm y, yKe y, v, yIk y, yCu y, yMo y, yEn y, yRo y, yRm y, yLo y)
def zIk (y : tp_Y) (v : Bool) : tp_Y := (yRf y, yTp y, yLa y, yLt y, yTl y, yTd y, yRd y, ySm y, yKe y, yHi y, v, yCu y, yMo y, yEn y, yRo y, yRm y, yLo y)
def zCu (y : tp_Y) (v : Nat) : tp_Y := (yRf y, yTp y, yLa y, yLt y, yTl y, yTd y, yRd y, ySm y, yKe y, yHi y, yIk y, v, yMo y, yEn y, yRo y, yRm y, yLo y)
def zMo (y : tp_Y) (v : Int32) : tp_Y := (yRf y, yTp y, yLa y, yLt y, yTl y, yTd y, yRd y, ySm y, yKe y, yHi y, yIk y, yCu y, v, yEn y, yRo y, yRm y, yLo y)
def zEn (y : tp_Y) (v : tp_A) : tp_Y := (yRf y, yTp y, yLa y, yLt y, yTl y, yTd y, yRd y, ySm y, yKe y, yHi y, yIk y, yCu y, yMo y, v, yRo y, yRm y, yLo y)
def zRo (y : tp_Y) (v : tp_A) : tp_Y := (yRf y, yTp y, yLa y, yLt y, yTl y, yTd y, yRd y, ySm y, yKe y, yHi y, yIk y, yCu y, yMo y, yEn y, v, yRm y, yLo y)
def zRm (y : tp_Y) (v : Nat) : tp_Y := (yRf y, yTp y, yLa y, yLt y, yTl y, yTd y, yRd y, ySm y, yKe y, yHi y, yIk y, yCu y, yMo y, yEn y, yRo y, v, yLo y)
def zLo (y : tp_Y) (v : Int32) : tp_Y := (yRf y, yTp y, yLa y, yLt y, yTl y, yTd y, yRd y, ySm y, yKe y, yHi y, yIk y, yCu y, yMo y, yEn y, yRo y, yRm y, v)
def tm_cs (h : tp_H) (y : tp_Y) : List tg_Cl := [.inl (11, [.ref 65, .ref 66, .ref 67, .ref 68, .ref 69, .ref 70, .int (hC h), .int (hS h), .int (nI (hM h)), .int (hN h), .ref 71, .ref 72, .ref 73, .ref 74, .int (nI (yTd y)), .int (nI (yRd y)), .int (nI (ySm y)), .ref 75, .int (tg_b (yHi y)), .int (tg_b (yIk y)), .int (nI (yCu y)), .int (yMo y), .ref 76, .ref 77, .int (nI (yRm y)), .int (yLo y)]),
  .inr (7, yRf y),
  .inr (7, hK h),
  .inr (7, hF h),
  .inr (7, hH h),
  .inr (7, hT h),
  .inr (7, hP h),
  .inr (96, yTp y),
  .inr (48, yLa y),
  .inr (48, yLt y),
  .inr (144, yTl y),
  .inr (117, yKe y),
  .inr (8, yEn y),
  .inr (16, yRo y)]
theorem m_C {l : List tg_Cl} {h : tp_H} {y : tp_Y} (z : Int32) : tg_up (l, tm_cs h y) 64 (.inl (11, [.ref 65, .ref 66, .ref 67, .ref 68, .ref 69, .ref 70, .int z, .int (hS h), .int (nI (hM h)), .int (hN h), .ref 71, .ref 72, .ref 73, .ref 74, .int (nI (yTd y)), .int (nI (yRd y)), .int (nI (ySm y)), .ref 75, .int (tg_b (yHi y)), .int (tg_b (yIk y)), .int (nI (yCu y)), .int (yMo y), .ref 76, .ref 77, .int (nI (yRm y)), .int (yLo y)])) = (l, tm_cs (sC h z) y) := rfl
theorem m_S {l : List tg_Cl} {h : tp_H} {y : tp_Y} (z : Int32) : tg_up (l, tm_cs h y) 64 (.inl (11, [.ref 65, .ref 66, .ref 67, .ref 68, .ref 69, .ref 70, .int (hC h), .int z, .int (nI (hM h)), .int (hN h), .ref 71, .ref 72, .ref 73, .ref 74, .int (nI (yTd y)), .int (nI (yRd y)), .int (nI (ySm y)), .ref 75, .int (tg_b (yHi y)), .int (tg_b (yIk y)), .int (nI (yCu y)), .int (yMo y), .ref 76, .ref 77, .int (nI (yRm y)), .int (yLo y)])) = (l, tm_cs (sS h z) y) := rfl
theorem m_M {l : List tg_Cl} {h : tp_H} {y : tp_Y} (z : Nat) : tg_up (l, tm_cs h y) 64 (.inl (11, [.ref 65, .ref 66, .ref 67, .ref 68, .ref 69, .ref 70, .int (hC h), .int (hS h), .int (nI z), .int (hN h), .ref 71, .ref 72, .ref 73, .ref 74, .int (nI (yTd y)), .int (nI (yRd y)), .int (nI (ySm y)), .ref 75, .int (tg_b (yHi y)), .int (tg_b (yIk y)), .int (nI (yCu y)), .int (yMo y), .ref 76, .ref 77, .int (nI (yRm y)), .int (yLo y)])) = (l, tm_cs (sM h z) y) := rfl
theorem m_N {l : List tg_Cl} {h : tp_H} {y : tp_Y} (z : Int32) : tg_up (l, tm_cs h y) 64 (.inl (11, [.ref 65, .ref 66, .ref 67, .ref 68, .ref 69, .ref 70, .int (hC h), .int (hS h), .int (nI (hM h)), .int z, .ref 71, .ref 72, .ref 73, .ref 74, .int (nI (yTd y)), .int (nI (yRd y)), .int (nI (ySm y)), .ref 75, .int (tg_b (yHi y)), .int (tg_b (yIk y)), .int (nI (yCu y)), .int (yMo y), .ref 76, .ref 77, .int (nI (yRm y)), .int (yLo y)])) = (l, tm_cs (sN h z) y) := rfl
theorem m_K {l : List tg_Cl} {h : tp_H} {y : tp_Y} (z : tp_A) : tg_up (l, tm_cs h y) 66 (.inr (7, z)) = (l, tm_cs (sK h z) y) := rfl
theorem m_F {l : List tg_Cl} {h : tp_H} {y : tp_Y} (z : tp_A) : tg_up (l, tm_cs h y) 67 (.inr (7, z)) = (l, tm_cs (sF h z) y) := rfl
theorem m_H {l : List tg_Cl} {h : tp_H} {y : tp_Y} (z : tp_A) : tg_up (l, tm_cs h y) 68 (.inr (7, z)) = (l, tm_cs (sH h z) y) := rfl
theorem m_T {l : List tg_Cl} {h : tp_H} {y : tp_Y} (z : tp_A) : tg_up (l, tm_cs h y) 69 (.inr (7, z)) = (l, tm_cs (sT h z) y) := rfl
theorem m_P {l : List tg_Cl} {h : tp_H} {y : tp_Y} (z : tp_A) : tg_up (l, tm_cs h y) 70 (.inr (7, z)) = (l, tm_cs (sP h z) y) := rfl
theorem m_Rf {l : List tg_Cl} {h : tp_H} {y : tp_Y} (z : tp_A) : tg_up (l, tm_cs h y) 65 (.inr (7, z)) = (l, tm_cs h (zRf y z)) := rfl
theorem m_Tp {l : List tg_Cl} {h : tp_H} {y : tp_Y} (z : tp_A) : tg_up (l, tm_cs h y) 71 (.inr (96, z)) = (l, tm_cs h (zTp y z)) := rfl
theorem m_La {l : List tg_Cl} {h : tp_H} {y : tp_Y} (z : tp_A) : tg_up (l, tm_cs h y) 72 (.inr (48, z)) = (l, tm_cs h (zLa y z)) := rfl
theorem m_Lt {l : List tg_Cl} {h : tp_H} {y : tp_Y} (z : tp_A) : tg_up (l, tm_cs h y) 73 (.inr (48, z)) = (l, tm_cs h (zLt y z)) := rfl
theorem m_Tl {l : List tg_Cl} {h : tp_H} {y : tp_Y} (z : tp_A) : tg_up (l, tm_cs h y) 74 (.inr (144, z)) = (l, tm_cs h (zTl y z)) := rfl
theorem m_Td {l : List tg_Cl} {h : tp_H} {y : tp_Y} (z : Nat) : tg_up (l, tm_cs h y) 64 (.inl (11, [.ref 65, .ref 66, .ref 67, .ref 68, .ref 69, .ref 70, .int (hC h), .int (hS h), .int (nI (hM h)), .int (hN h), .ref 71, .ref 72, .ref 73, .ref 74, .int (nI z), .int (nI (yRd y)), .int (nI (ySm y)), .ref 75, .int (tg_b (yHi y)), .int (tg_b (yIk y)), .int (nI (yCu y)), .int (yMo y), .ref 76, .ref 77, .int (nI (yRm y)), .int (yLo y)])) = (l, tm_cs h (zTd y z)) := rfl
theorem m_Rd {l : List tg_Cl} {h : tp_H} {y : tp_Y} (z : Nat) : tg_up (l, tm_cs h y) 64 (.inl (11, [.ref 65, .ref 66, .ref 67, .ref 68, .ref 69, .ref 70, .int (hC h), .int (hS h), .int (nI (hM h)), .int (hN h), .ref 71, .ref 72, .ref 73, .ref 74, .int (nI (yTd y)), .int (nI z), .int (nI (ySm y)), .ref 75, .int (tg_b (yHi y)), .int (tg_b (yIk y)), .int (nI (yCu y)), .int (yMo y), .ref 76, .ref 77, .int (nI (yRm y)), .int (yLo y)])) = (l, tm_cs h (zRd y z)) := rfl
theorem m_Sm {l : List tg_Cl} {h : tp_H} {y : tp_Y} (z : Nat) : tg_up (l, tm_cs h y) 64 (.inl (11, [.ref 65, .ref 66, .ref 67, .ref 68, .ref 69, .ref 70, .int (hC h), .int (hS h), .int (nI (hM h)), .int (hN h), .ref 71, .ref 72, .ref 73, .ref 74, .int (nI (yTd y)), .int (nI (yRd y)), .int (nI z), .ref 75, .int (tg_b (yHi y)), .int (tg_b (yIk y)), .int (nI (yCu y)), .int (yMo y), .ref 76, .ref 77, .int (nI (yRm y)), .int (yLo y)])) = (l, tm_cs h (zSm y z)) := rfl
theorem m_Ke {l : List tg_Cl} {h : tp_H} {y : tp_Y} (z : tp_A) : tg_up (l, tm_cs h y) 75 (.inr (117, z)) = (l, tm_cs h (zKe y z)) := rfl
theorem m_Hi {l : List tg_Cl} {h : tp_H} {y : tp_Y} (z : Bool) : tg_up (l, tm_cs h y) 64 (.inl (11, [.ref 65, .ref 66, .ref 67, .ref 68, .ref 69, .ref 70, .int (hC h), .int (hS h), .int (nI (hM h)), .int (hN h), .ref 71, .ref 72, .ref 73, .ref 74, .int (nI (yTd y)), .int (nI (yRd y)), .int (nI (ySm y)), .ref 75, .int (tg_b z), .int (tg_b (yIk y)), .int (nI (yCu y)), .int (yMo y), .ref 76, .ref 77, .int (nI (yRm y)), .int (yLo y)])) = (l, tm_cs h (zHi y z)) := rfl
theorem m_Ik {l : List tg_Cl} {h : tp_H} {y : tp_Y} (z : Bool) : tg_up (l, tm_cs h y) 64 (.inl (11, [.ref 65, .ref 66, .ref 67, .ref 68, .ref 69, .ref 70, .int (hC h), .int (hS h), .int (nI (hM h)), .int (hN h), .ref 71, .ref 72, .ref 73, .ref 74, .int (nI (yTd y)), .int (nI (yRd y)), .int (nI (ySm y)), .ref 75, .int (tg_b (yHi y)), .int (tg_b z), .int (nI (yCu y)), .int (yMo y), .ref 76, .ref 77, .int (nI (yRm y)), .int (yLo y)])) = (l, tm_cs h (zIk y z)) := rfl
theorem m_Cu {l : List tg_Cl} {h : tp_H} {y : tp_Y} (z : Nat) : tg_up (l, tm_cs h y) 64 (.inl (11, [.ref 65, .ref 66, .ref 67, .ref 68, .ref 69, .ref 70, .int (hC h), .int (hS h), .int (nI (hM h)), .int (hN h), .ref 71, .ref 72, .ref 73, .ref 74, .int (nI (yTd y)), .int (nI (yRd y)), .int (nI (ySm y)), .ref 75, .int (tg_b (yHi y)), .int (tg_b (yIk y)), .int (nI z), .int (yMo y), .ref 76, .ref 77, .int (nI (yRm y)), .int (yLo y)])) = (l, tm_cs h (zCu y z)) := rfl
theorem m_Mo {l : List tg_Cl} {h : tp_H} {y : tp_Y} (z : Int32) : tg_up (l, tm_cs h y) 64 (.inl (11, [.ref 65, .ref 66, .ref 67, .ref 68, .ref 69, .ref 70, .int (hC h), .int (hS h), .int (nI (hM h)), .int (hN h), .ref 71, .ref 72, .ref 73, .ref 74, .int (nI (yTd y)), .int (nI (yRd y)), .int (nI (ySm y)), .ref 75, .int (tg_b (yHi y)), .int (tg_b (yIk y)), .int (nI (yCu y)), .int z, .ref 76, .ref 77, .int (nI (yRm y)), .int (yLo y)])) = (l, tm_cs h (zMo y z)) := rfl
theorem m_En {l : List tg_Cl} {h : tp_H} {y : tp_Y} (z : tp_A) : tg_up (l, tm_cs h y) 76 (.inr (8, z)) = (l, tm_cs h (zEn y z)) := rfl
theorem m_Ro {l : List tg_Cl} {h : tp_H} {y : tp_Y} (z : tp_A) : tg_up (l, tm_cs h y) 77 (.inr (16, z)) = (l, tm_cs h (zRo y z)) := rfl
theorem m_Rm {l : List tg_Cl} {h : tp_H} {y : tp_Y} (z : Nat) : tg_up (l, tm_cs h y) 64 (.inl (11, [.ref 65, .ref 66, .ref 67, .ref 68, .ref 69, .ref 70, .int (hC h), .int (hS h), .int (nI (hM h)), .int (hN h), .ref 71, .ref 72, .ref 73, .ref 74, .int (nI (yTd y)), .int (nI (yRd y)), .int (nI (ySm y)), .ref 75, .int (tg_b (yHi y)), .int (tg_b (yIk y)), .int (nI (yCu y)), .int (yMo y), .ref 76, .ref 77, .int (nI z), .int (yLo y)])) = (l, tm_cs h (zRm y z)) := rfl
theorem m_Lo {l : List tg_Cl} {h : tp_H} {y : tp_Y} (z : Int32) : tg_up (l, tm_cs h y) 64 (.inl (11, [.ref 65, .ref 66, .ref 67, .ref 68, .ref 69, .ref 70, .int (hC h), .int (hS h), .int (nI (hM h)), .int (hN h), .ref 71, .ref 72, .ref 73, .ref 74, .int (nI (yTd y)), .int (nI (yRd y)), .int (nI (ySm y)), .ref 75, .int (tg_b (yHi y)), .int (tg_b (yIk y)), .int (nI (yCu y)), .int (yMo y), .ref 76, .ref 77, .int (nI (yRm y)), .int z])) = (l, tm_cs h (zLo y z)) := rfl
theorem g_RfRf (y : tp_Y) (z : tp_A) : yRf (zRf y z) = z := rfl
theorem g_TpRf (y : tp_Y) (z : tp_A) : yTp (zRf y z) = yTp y := rfl
theorem g_LaRf (y : tp_Y) (z : tp_A) : yLa (zRf y z) = yLa y := rfl
theorem g_LtRf (y : tp_Y) (z : tp_A) : yLt (zRf y z) = yLt y := rfl
theorem g_TlRf (y : tp_Y) (z : tp_A) : yTl (zRf y z) = yTl y := rfl
theorem g_TdRf (y : tp_Y) (z : tp_A) : yTd (zRf y z) = yTd y := rfl
theorem g_RdRf (y : tp_Y) (z : tp_A) : yRd (zRf y z) = yRd y := rfl
theorem g_SmRf (y : tp_Y) (z : tp_A) : ySm (zRf y z) = ySm y := rfl
theorem g_KeRf (y : tp_Y) (z : tp_A) : yKe (zRf y z) = yKe y := rfl
theorem g_HiRf (y : tp_Y) (z : tp_A) : yHi (zRf y z) = yHi y := rfl
theorem g_IkRf (y : tp_Y) (z : tp_A) : yIk (zRf y z) = yIk y := rfl
theorem g_CuRf (y : tp_Y) (z : tp_A) : yCu (zRf y z) = yCu y := rfl
theorem g_MoRf (y : tp_Y) (z : tp_A) : yMo (zRf y z) = yMo y := rfl
theorem g_EnRf (y : tp_Y) (z : tp_A) : yEn (zRf y z) = yEn y := rfl
theorem g_RoRf (y : tp_Y) (z : tp_A) : yRo (zRf y z) = yRo y := rfl
theorem g_RmRf (y : tp_Y) (z : tp_A) : yRm (zRf y z) = yRm y := rfl
theorem g_LoRf (y : tp_Y) (z : tp_A) : yLo (zRf y z) = yLo y := rfl
theorem g_RfTp (y : tp_Y) (z : tp_A) : yRf (zTp y z) = yRf y := rfl
theorem g_TpTp (y : tp_Y) (z : tp_A) : yTp (zTp y z) = z := rfl
theorem g_LaTp (y : tp_Y) (z : tp_A) : yLa (zTp y z) = yLa y := rfl
theorem g_LtTp (y : tp_Y) (z : tp_A) : yLt (zTp y z) = yLt y := rfl
theorem g_TlTp (y : tp_Y) (z : tp_A) : yTl (zTp y z) = yTl y := rfl
theorem g_TdTp (y : tp_Y) (z : tp_A) : yTd (zTp y z) = yTd y := rfl
theorem g_RdTp (y : tp_Y) (z : tp_A) : yRd (zTp y z) = yRd y := rfl
theorem g_SmTp (y : tp_Y) (z : tp_A) : ySm (zTp y z) = ySm y := rfl
theorem g_KeTp (y : tp_Y) (z : tp_A) : yKe (zTp y z) = yKe y := rfl
theorem g_HiTp (y : tp_Y) (z : tp_A) : yHi (zTp y z) = yHi y := rfl
theorem g_IkTp (y : tp_Y) (z : tp_A) : yIk (zTp y z) = yIk y := rfl
theorem g_CuTp (y : tp_Y) (z : tp_A) : yCu (zTp y z) = yCu y := rfl
theorem g_MoTp (y : tp_Y) (z : tp_A) : yMo (zTp y z) = yMo y := rfl
theorem g_EnTp (y : tp_Y) (z : tp_A) : yEn (zTp y z) = yEn y := rfl
theorem g_RoTp (y : tp_Y) (z : tp_A) : yRo (zTp y z) = yRo y := rfl
theorem g_RmTp (y : tp_Y) (z : tp_A) : yRm (zTp y z) = yRm y := rfl
theorem g_LoTp (y : tp_Y) (z : tp_A) : yLo (zTp y z) = yLo y := rfl
theorem g_RfLa (y : tp_Y) (z : tp_A) : yRf (zLa y z) = yRf y := rfl
theorem g_TpLa (y : tp_Y) (z : tp_A) : yTp (zLa y z) = yTp y := rfl
theorem g_LaLa (y : tp_Y) (z : tp_A) : yLa (zLa y z) = z := rfl
theorem g_LtLa (y : tp_Y) (z : tp_A) : yLt (zLa y z) = yLt y := rfl
theorem g_TlLa (y : tp_Y) (z : tp_A) : yTl (zLa y z) = yTl y := rfl
theorem g_TdLa (y : tp_Y) (z : tp_A) : yTd (zLa y z) = yTd y := rfl
theorem g_RdLa (y : tp_Y) (z : tp_A) : yRd (zLa y z) = yRd y := rfl
theorem g_SmLa (y : tp_Y) (z : tp_A) : ySm (zLa y z) = ySm y := rfl
theorem g_KeLa (y : tp_Y) (z : tp_A) : yKe (zLa y z) = yKe y := rfl
theorem g_HiLa (y : tp_Y) (z : tp_A) : yHi (zLa y z) = yHi y := rfl
theorem g_IkLa (y : tp_Y) (z : tp_A) : yIk (zLa y z) = yIk y := rfl
theorem g_CuLa (y : tp_Y) (z : tp_A) : yCu (zLa y z) = yCu y := rfl
theorem g_MoLa (y : tp_Y) (z : tp_A) : yMo (zLa y z) = yMo y := rfl
theorem g_EnLa (y : tp_Y) (z : tp_A) : yEn (zLa y z) = yEn y := rfl
theorem g_RoLa (y : tp_Y) (z : tp_A) : yRo (zLa y z) = yRo y := rfl
theorem g_RmLa (y : tp_Y) (z : tp_A) : yRm (zLa y z) = yRm y := rfl
theorem g_LoLa (y : tp_Y) (z : tp_A) : yLo (zLa y z) = yLo y := rfl
theorem g_RfLt (y : tp_Y) (z : tp_A) : yRf (zLt y z) = yRf y := rfl
theorem g_TpLt (y : tp_Y) (z : tp_A) : yTp (zLt y z) = yTp y := rfl
theorem g_LaLt (y : tp_Y) (z : tp_A) : yLa (zLt y z) = yLa y := rfl
theorem g_LtLt (y : tp_Y) (z : tp_A) : yLt (zLt y z) = z := rfl
theorem g_TlLt (y : tp_Y) (z : tp_A) : yTl (zLt y z) = yTl y := rfl
theorem g_TdLt (y : tp_Y) (z : tp_A) : yTd (zLt y z) = yTd y := rfl
theorem g_RdLt (y : tp_Y) (z : tp_A) : yRd (zLt y z) = yRd y := rfl
theorem g_SmLt (y : tp_Y) (z : tp_A) : ySm (zLt y z) = ySm y := rfl
theorem g_KeLt (y : tp_Y) (z : tp_A) : yKe (zLt y z) = yKe y := rfl
theorem g_HiLt (y : tp_Y) (z : tp_A) : yHi (zLt y z) = yHi y := rfl
theorem g_IkLt (y : tp_Y) (z : tp_A) : yIk (zLt y z) = yIk y := rfl
theorem g_CuLt (y : tp_Y) (z : tp_A) : yCu (zLt y z) = yCu y := rfl
theorem g_MoLt (y : tp_Y) (z : tp_A) : yMo (zLt y z) = yMo y := rfl
theorem g_EnLt (y : tp_Y) (z : tp_A) : yEn (zLt y z) = yEn y := rfl
theorem g_RoLt (y : tp_Y) (z : tp_A) : yRo (zLt y z) = yRo y := rfl
theorem g_RmLt (y : tp_Y) (z : tp_A) : yRm (zLt y z) = yRm y := rfl
theorem g_LoLt (y : tp_Y) (z : tp_A) : yLo (zLt y z) = yLo y := rfl
theorem g_RfTl (y : tp_Y) (z : tp_A) : yRf (zTl y z) = yRf y := rfl
theorem g_TpTl (y : tp_Y) (z : tp_A) : yTp (zTl y z) = yTp y := rfl
theorem g_LaTl (y : tp_Y) (z : tp_A) : yLa (zTl y z) = yLa y := rfl
theorem g_LtTl (y : tp_Y) (z : tp_A) : yLt (zTl y z) = yLt y := rfl
theorem g_TlTl (y : tp_Y) (z : tp_A) : yTl (zTl y z) = z := rfl
theorem g_TdTl (y : tp_Y) (z : tp_A) : yTd (zTl y z) = yTd y := rfl
theorem g_RdTl (y : tp_Y) (z : tp_A) : yRd (zTl y z) = yRd y := rfl
theorem g_SmTl (y : tp_Y) (z : tp_A) : ySm (zTl y z) = ySm y := rfl
theorem g_KeTl (y : tp_Y) (z : tp_A) : yKe (zTl y z) = yKe y := rfl
theorem g_HiTl (y : tp_Y) (z : tp_A) : yHi (zTl y z) = yHi y := rfl
theorem g_IkTl (y : tp_Y) (z : tp_A) : yIk (zTl y z) = yIk y := rfl
theorem g_CuTl (y : tp_Y) (z : tp_A) : yCu (zTl y z) = yCu y := rfl
theorem g_MoTl (y : tp_Y) (z : tp_A) : yMo (zTl y z) = yMo y := rfl
theorem g_EnTl (y : tp_Y) (z : tp_A) : yEn (zTl y z) = yEn y := rfl
theorem g_RoTl (y : tp_Y) (z : tp_A) : yRo (zTl y z) = yRo y := rfl
theorem g_RmTl (y : tp_Y) (z : tp_A) : yRm (zTl y z) = yRm y := rfl
theorem g_LoTl (y : tp_Y) (z : tp_A) : yLo (zTl y z) = yLo y := rfl
theorem g_RfTd (y : tp_Y) (z : Nat) : yRf (zTd y z) = yRf y := rfl
theorem g_TpTd (y : tp_Y) (z : Nat) : yTp (zTd y z) = yTp y := rfl
theorem g_LaTd (y : tp_Y) (z : Nat) : yLa (zTd y z) = yLa y := rfl
theorem g_LtTd (y : tp_Y) (z : Nat) : yLt (zTd y z) = yLt y := rfl
theorem g_TlTd (y : tp_Y) (z : Nat) : yTl (zTd y z) = yTl y := rfl
theorem g_TdTd (y : tp_Y) (z : Nat) : yTd (zTd y z) = z := rfl
theorem g_RdTd (y : tp_Y) (z : Nat) : yRd (zTd y z) = yRd y := rfl
theorem g_SmTd (y : tp_Y) (z : Nat) : ySm (zTd y z) = ySm y := rfl
theorem g_KeTd (y : tp_Y) (z : Nat) : yKe (zTd y z) = yKe y := rfl
theorem g_HiTd (y : tp_Y) (z : Nat) : yHi (zTd y z) = yHi y := rfl
theorem g_IkTd (y : tp_Y) (z : Nat) : yIk (zTd y z) = yIk y := rfl
theorem g_CuTd (y : tp_Y) (z : Nat) : yCu (zTd y z) = yCu y := rfl
theorem g_MoTd (y : tp_Y) (z : Nat) : yMo (zTd y z) = yMo y := rfl
theorem g_EnTd (y : tp_Y) (z : Nat) : yEn (zTd y z) = yEn y := rfl
theorem g_RoTd (y : tp_Y) (z : Nat) : yRo (zTd y z) = yRo y := rfl
theorem g_RmTd (y : tp_Y) (z : Nat) : yRm (zTd y z) = yRm y := rfl
theorem g_LoTd (y : tp_Y) (z : Nat) : yLo (zTd y z) = yLo y := rfl
theorem g_RfRd (y : tp_Y) (z : Nat) : yRf (zRd y z) = yRf y := rfl
theorem g_TpRd (y : tp_Y) (z : Nat) : yTp (zRd y z) = yTp y := rfl
theorem g_LaRd (y : tp_Y) (z : Nat) : yLa (zRd y z) = yLa y := rfl
theorem g_LtRd (y : tp_Y) (z : Nat) : yLt (zRd y z) = yLt y := rfl
theorem g_TlRd (y : tp_Y) (z : Nat) : yTl (zRd y z) = yTl y := rfl
theorem g_TdRd (y : tp_Y) (z : Nat) : yTd (zRd y z) = yTd y := rfl
theorem g_RdRd (y : tp_Y) (z : Nat) : yRd (zRd y z) = z := rfl
theorem g_SmRd (y : tp_Y) (z : Nat) : ySm (zRd y z) = ySm y := rfl
theorem g_KeRd (y : tp_Y) (z : Nat) : yKe (zRd y z) = yKe y := rfl
theorem g_HiRd (y : tp_Y) (z : Nat) : yHi (zRd y z) = yHi y := rfl
theorem g_IkRd (y : tp_Y) (z : Nat) : yIk (zRd y z) = yIk y := rfl
theorem g_CuRd (y : tp_Y) (z : Nat) : yCu (zRd y z) = yCu y := rfl
theorem g_MoRd (y : tp_Y) (z : Nat) : yMo (zRd y z) = yMo y := rfl
theorem g_EnRd (y : tp_Y) (z : Nat) : yEn (zRd y z) = yEn y := rfl
theorem g_RoRd (y : tp_Y) (z : Nat) : yRo (zRd y z) = yRo y := rfl
theorem g_RmRd (y : tp_Y) (z : Nat) : yRm (zRd y z) = yRm y := rfl
theorem g_LoRd (y : tp_Y) (z : Nat) : yLo (zRd y z) = yLo y := rfl
theorem g_RfSm (y : tp_Y) (z : Nat) : yRf (zSm y z) = yRf y := rfl
theorem g_TpSm (y : tp_Y) (z : Nat) : yTp (zSm y z) = yTp y := rfl
theorem g_LaSm (y : tp_Y) (z : Nat) : yLa (zSm y z) = yLa y := rfl
theorem g_LtSm (y : tp_Y) (z : Nat) : yLt (zSm y z) = yLt y := rfl
theorem g_TlSm (y : tp_Y) (z : Nat) : yTl (zSm y z) = yTl y := rfl
theorem g_TdSm (y : tp_Y) (z : Nat) : yTd (zSm y z) = yTd y := rfl
theorem g_RdSm (y : tp_Y) (z : Nat) : yRd (zSm y z) = yRd y := rfl
theorem g_SmSm (y : tp_Y) (z : Nat) : ySm (zSm y z) = z := rfl
theorem g_KeSm (y : tp_Y) (z : Nat) : yKe (zSm y z) = yKe y := rfl
theorem g_HiSm (y : tp_Y) (z : Nat) : yHi (zSm y z) = yHi y := rfl
theorem g_IkSm (y : tp_Y) (z : Nat) : yIk (zSm y z) = yIk y := rfl
theorem g_CuSm (y : tp_Y) (z : Nat) : yCu (zSm y z) = yCu y := rfl
theorem g_MoSm (y : tp_Y) (z : Nat) : yMo (zSm y z) = yMo y := rfl
theorem g_EnSm (y : tp_Y) (z : Nat) : yEn (zSm y z) = yEn y := rfl
theorem g_RoSm (y : tp_Y) (z : Nat) : yRo (zSm y z) = yRo y := rfl
theorem g_RmSm (y : tp_Y) (z : Nat) : yRm (zSm y z) = yRm y := rfl
theorem g_LoSm (y : tp_Y) (z : Nat) : yLo (zSm y z) = yLo y := rfl
theorem g_RfKe (y : tp_Y) (z : tp_A) : yRf (zKe y z) = yRf y := rfl
theorem g_TpKe (y : tp_Y) (z : tp_A) : yTp (zKe y z) = yTp y := rfl
theorem g_LaKe (y : tp_Y) (z : tp_A) : yLa (zKe y z) = yLa y := rfl
theorem g_LtKe (y : tp_Y) (z : tp_A) : yLt (zKe y z) = yLt y := rfl
theorem g_TlKe (y : tp_Y) (z : tp_A) : yTl (zKe y z) = yTl y := rfl
theorem g_TdKe (y : tp_Y) (z : tp_A) : yTd (zKe y z) = yTd y := rfl
theorem g_RdKe (y : tp_Y) (z : tp_A) : yRd (zKe y z) = yRd y := rfl
theorem g_SmKe (y : tp_Y) (z : tp_A) : ySm (zKe y z) = ySm y := rfl
theorem g_KeKe (y : tp_Y) (z : tp_A) : yKe (zKe y z) = z := rfl
theorem g_HiKe (y : tp_Y) (z : tp_A) : yHi (zKe y z) = yHi y := rfl
theorem g_IkKe (y : tp_Y) (z : tp_A) : yIk (zKe y z) = yIk y := rfl
theorem g_CuKe (y : tp_Y) (z : tp_A) : yCu (zKe y z) = yCu y := rfl
theorem g_MoKe (y : tp_Y) (z : tp_A) : yMo (zKe y z) = yMo y := rfl
theorem g_EnKe (y : tp_Y) (z : tp_A) : yEn (zKe y z) = yEn y := rfl
theorem g_RoKe (y : tp_Y) (z : tp_A) : yRo (zKe y z) = yRo y := rfl
theorem g_RmKe (y : tp_Y) (z : tp_A) : yRm (zKe y z) = yRm y := rfl
theorem g_LoKe (y : tp_Y) (z : tp_A) : yLo (zKe y z) = yLo y := rfl
theorem g_RfHi (y : tp_Y) (z : Bool) : yRf (zHi y z) = yRf y := rfl
theorem g_TpHi (y : tp_Y) (z : Bool) : yTp (zHi y z) = yTp y := rfl
theorem g_LaHi (y : tp_Y) (z : Bool) : yLa (zHi y z) = yLa y := rfl
theorem g_LtHi (y : tp_Y) (z : Bool) : yLt (zHi y z) = yLt y := rfl
theorem g_TlHi (y : tp_Y) (z : Bool) : yTl (zHi y z) = yTl y := rfl
theorem g_TdHi (y : tp_Y) (z : Bool) : yTd (zHi y z) = yTd y := rfl
theorem g_RdHi (y : tp_Y) (z : Bool) : yRd (zHi y z) = yRd y := rfl
theorem g_SmHi (y : tp_Y) (z : Bool) : ySm (zHi y z) = ySm y := rfl
theorem g_KeHi (y : tp_Y) (z : Bool) : yKe (zHi y z) = yKe y := rfl
theorem g_HiHi (y : tp_Y) (z : Bool) : yHi (zHi y z) = z := rfl
theorem g_IkHi (y : tp_Y) (z : Bool) : yIk (zHi y z) = yIk y := rfl
theorem g_CuHi (y : tp_Y) (z : Bool) : yCu (zHi y z) = yCu y := rfl
theorem g_MoHi (y : tp_Y) (z : Bool) : yMo (zHi y z) = yMo y := rfl
theorem g_EnHi (y : tp_Y) (z : Bool) : yEn (zHi y z) = yEn y := rfl
theorem g_RoHi (y : tp_Y) (z : Bool) : yRo (zHi y z) = yRo y := rfl
theorem g_RmHi (y : tp_Y) (z : Bool) : yRm (zHi y z) = yRm y := rfl
theorem g_LoHi (y : tp_Y) (z : Bool) : yLo (zHi y z) = yLo y := rfl
theorem g_RfIk (y : tp_Y) (z : Bool) : yRf (zIk y z) = yRf y := rfl
theorem g_TpIk (y : tp_Y) (z : Bool) : yTp (zIk y z) = yTp y := rfl
theorem g_LaIk (y : tp_Y) (z : Bool) : yLa (zIk y z) = yLa y := rfl
theorem g_LtIk (y : tp_Y) (z : Bool) : yLt (zIk y z) = yLt y := rfl
theorem g_TlIk (y : tp_Y) (z : Bool) : yTl (zIk y z) = yTl y := rfl
theorem g_TdIk (y : tp_Y) (z : Bool) : yTd (zIk y z) = yTd y := rfl
theorem g_RdIk (y : tp_Y) (z : Bool) : yRd (zIk y z) = yRd y := rfl
theorem g_SmIk (y : tp_Y) (z : Bool) : ySm (zIk y z) = ySm y := rfl
theorem g_KeIk (y : tp_Y) (z : Bool) : yKe (zIk y z) = yKe y := rfl
theorem g_HiIk (y : tp_Y) (z : Bool) : yHi (zIk y z) = yHi y := rfl
theorem g_IkIk (y : tp_Y) (z : Bool) : yIk (zIk y z) = z := rfl
theorem g_CuIk (y : tp_Y) (z : Bool) : yCu (zIk y z) = yCu y := rfl
theorem g_MoIk (y : tp_Y) (z : Bool) : yMo (zIk y z) = yMo y := rfl
theorem g_EnIk (y : tp_Y) (z : Bool) : yEn (zIk y z) = yEn y := rfl
theorem g_RoIk (y : tp_Y) (z : Bool) : yRo (zIk y z) = yRo y := rfl
theorem g_RmIk (y : tp_Y) (z : Bool) : yRm (zIk y z) = yRm y := rfl
theorem g_LoIk (y : tp_Y) (z : Bool) : yLo (zIk y z) = yLo y := rfl
theorem g_RfCu (y : tp_Y) (z : Nat) : yRf (zCu y z) = yRf y := rfl
theorem g_TpCu (y : tp_Y) (z : Nat) : yTp (zCu y z) = yTp y := rfl
theorem g_LaCu (y : tp_Y) (z : Nat) : yLa (zCu y z) = yLa y := rfl
theorem g_LtCu (y : tp_Y) (z : Nat) : yLt (zCu y z) = yLt y := rfl
theorem g_TlCu (y : tp_Y) (z : Nat) : yTl (zCu y z) = yTl y := rfl
theorem g_TdCu (y : tp_Y) (z : Nat) : yTd (zCu y z) = yTd y := rfl
theorem g_RdCu (y : tp_Y) (z : Nat) : yRd (zCu y z) = yRd y := rfl
theorem g_SmCu (y : tp_Y) (z : Nat) : ySm (zCu y z) = ySm y := rfl
theorem g_KeCu (y : tp_Y) (z : Nat) : yKe (zCu y z) = yKe y := rfl
theorem g_HiCu (y : tp_Y) (z : Nat) : yHi (zCu y z) = yHi y := rfl
theorem g_IkCu (y : tp_Y) (z : Nat) : yIk (zCu y z) = yIk y := rfl
theorem g_CuCu (y : tp_Y) (z : Nat) : yCu (zCu y z) = z := rfl
theorem g_MoCu (y : tp_Y) (z : Nat) : yMo (zCu y z) = yMo y := rfl
theorem g_EnCu (y : tp_Y) (z : Nat) : yEn (zCu y z) = yEn y := rfl
theorem g_RoCu (y : tp_Y) (z : Nat) : yRo (zCu y z) = yRo y := rfl
theorem g_RmCu (y : tp_Y) (z : Nat) : yRm (zCu y z) = yRm y := rfl
theorem g_LoCu (y : tp_Y) (z : Nat) : yLo (zCu y z) = yLo y := rfl
theorem g_RfMo (y : tp_Y) (z : Int32) : yRf (zMo y z) = yRf y := rfl
theorem g_TpMo (y : tp_Y) (z : Int32) : yTp (zMo y z) = yTp y := rfl
theorem g_LaMo (y : tp_Y) (z : Int32) : yLa (zMo y z) = yLa y := rfl
theorem g_LtMo (y : tp_Y) (z : Int32) : yLt (zMo y z) = yLt y := rfl
theorem g_TlMo (y : tp_Y) (z : Int32) : yTl (zMo y z) = yTl y := rfl
theorem g_TdMo (y : tp_Y) (z : Int32) : yTd (zMo y z) = yTd y := rfl
theorem g_RdMo (y : tp_Y) (z : Int32) : yRd (zMo y z) = yRd y := rfl
theorem g_SmMo (y : tp_Y) (z : Int32) : ySm (zMo y z) = ySm y := rfl
theorem g_KeMo (y : tp_Y) (z : Int32) : yKe (zMo y z) = yKe y := rfl
theorem g_HiMo (y : tp_Y) (z : Int32) : yHi (zMo y z) = yHi y := rfl
theorem g_IkMo (y : tp_Y) (z : Int32) : yIk (zMo y z) = yIk y := rfl
theorem g_CuMo (y : tp_Y) (z : Int32) : yCu (zMo y z) = yCu y := rfl
theorem g_MoMo (y : tp_Y) (z : Int32) : yMo (zMo y z) = z := rfl
theorem g_EnMo (y : tp_Y) (z : Int32) : yEn (zMo y z) = yEn y := rfl
theorem g_RoMo (y : tp_Y) (z : Int32) : yRo (zMo y z) = yRo y := rfl
theorem g_RmMo (y : tp_Y) (z : Int32) : yRm (zMo y z) = yRm y := rfl
theorem g_LoMo (y : tp_Y) (z : Int32) : yLo (zMo y z) = yLo y := rfl
theorem g_RfEn (y : tp_Y) (z : tp_A) : yRf (zEn y z) = yRf y := rfl
theorem g_TpEn (y : tp_Y) (z : tp_A) : yTp (zEn y z) = yTp y := rfl
theorem g_LaEn (y : tp_Y) (z : tp_A) : yLa (zEn y z) = yLa y := rfl
theorem g_LtEn (y : tp_Y) (z : tp_A) : yLt (zEn y z) = yLt y := rfl
theorem g_TlEn (y : tp_Y) (z : tp_A) : yTl (zEn y z) = yTl y := rfl
theorem g_TdEn (y : tp_Y) (z : tp_A) : yTd (zEn y z) = yTd y := rfl
theorem g_RdEn (y : tp_Y) (z : tp_A) : yRd (zEn y z) = yRd y := rfl
theorem g_SmEn (y : tp_Y) (z : tp_A) : ySm (zEn y z) = ySm y := rfl
theorem g_KeEn (y : tp_Y) (z : tp_A) : yKe (zEn y z) = yKe y := rfl
theorem g_HiEn (y : tp_Y) (z : tp_A) : yHi (zEn y z) = yHi y := rfl
theorem g_IkEn (y : tp_Y) (z : tp_A) : yIk (zEn y z) = yIk y := rfl
theorem g_CuEn (y : tp_Y) (z : tp_A) : yCu (zEn y z) = yCu y := rfl
theorem g_MoEn (y : tp_Y) (z : tp_A) : yMo (zEn y z) = yMo y := rfl
theorem g_EnEn (y : tp_Y) (z : tp_A) : yEn (zEn y z) = z := rfl
theorem g_RoEn (y : tp_Y) (z : tp_A) : yRo (zEn y z) = yRo y := rfl
theorem g_RmEn (y : tp_Y) (z : tp_A) : yRm (zEn y z) = yRm y := rfl
theorem g_LoEn (y : tp_Y) (z : tp_A) : yLo (zEn y z) = yLo y := rfl
theorem g_RfRo (y : tp_Y) (z : tp_A) : yRf (zRo y z) = yRf y := rfl
theorem g_TpRo (y : tp_Y) (z : tp_A) : yTp (zRo y z) = yTp y := rfl
theorem g_LaRo (y : tp_Y) (z : tp_A) : yLa (zRo y z) = yLa y := rfl
theorem g_LtRo (y : tp_Y) (z : tp_A) : yLt (zRo y z) = yLt y := rfl
theorem g_TlRo (y : tp_Y) (z : tp_A) : yTl (zRo y z) = yTl y := rfl
theorem g_TdRo (y : tp_Y) (z : tp_A) : yTd (zRo y z) = yTd y := rfl
theorem g_RdRo (y : tp_Y) (z : tp_A) : yRd (zRo y z) = yRd y := rfl
theorem g_SmRo (y : tp_Y) (z : tp_A) : ySm (zRo y z) = ySm y := rfl
theorem g_KeRo (y : tp_Y) (z : tp_A) : yKe (zRo y z) = yKe y := rfl
theorem g_HiRo (y : tp_Y) (z : tp_A) : yHi (zRo y z) = yHi y := rfl
theorem g_IkRo (y : tp_Y) (z : tp_A) : yIk (zRo y z) = yIk y := rfl
theorem g_CuRo (y : tp_Y) (z : tp_A) : yCu (zRo y z) = yCu y := rfl
theorem g_MoRo (y : tp_Y) (z : tp_A) : yMo (zRo y z) = yMo y := rfl
theorem g_EnRo (y : tp_Y) (z : tp_A) : yEn (zRo y z) = yEn y := rfl
theorem g_RoRo (y : tp_Y) (z : tp_A) : yRo (zRo y z) = z := rfl
theorem g_RmRo (y : tp_Y) (z : tp_A) : yRm (zRo y z) = yRm y := rfl
theorem g_LoRo (y : tp_Y) (z : tp_A) : yLo (zRo y z) = yLo y := rfl
theorem g_RfRm (y : tp_Y) (z : Nat) : yRf (zRm y z) = yRf y := rfl
theorem g_TpRm (y : tp_Y) (z : Nat) : yTp (zRm y z) = yTp y := rfl
theorem g_LaRm (y : tp_Y) (z : Nat) : yLa (zRm y z) = yLa y := rfl
theorem g_LtRm (y : tp_Y) (z : Nat) : yLt (zRm y z) = yLt y := rfl
theorem g_TlRm (y : tp_Y) (z : Nat) : yTl (zRm y z) = yTl y := rfl
theorem g_TdRm (y : tp_Y) (z : Nat) : yTd (zRm y z) = yTd y := rfl
theorem g_RdRm (y : tp_Y) (z : Nat) : yRd (zRm y z) = yRd y := rfl
theorem g_SmRm (y : tp_Y) (z : Nat) : ySm (zRm y z) = ySm y := rfl
theorem g_KeRm (y : tp_Y) (z : Nat) : yKe (zRm y z) = yKe y := rfl
theorem g_HiRm (y : tp_Y) (z : Nat) : yHi (zRm y z) = yHi y := rfl
theorem g_IkRm (y : tp_Y) (z : Nat) : yIk (zRm y z) = yIk y := rfl
theorem g_CuRm (y : tp_Y) (z : Nat) : yCu (zRm y z) = yCu y := rfl
theorem g_MoRm (y : tp_Y) (z : Nat) : yMo (zRm y z) = yMo y := rfl
theorem g_EnRm (y : tp_Y) (z : Nat) : yEn (zRm y z) = yEn y := rfl
theorem g_RoRm (y : tp_Y) (z : Nat) : yRo (zRm y z) = yRo y := rfl
theorem g_RmRm (y : tp_Y) (z : Nat) : yRm (zRm y z) = z := rfl
theorem g_LoRm (y : tp_Y) (z : Nat) : yLo (zRm y z) = yLo y := rfl
theorem g_RfLo (y : tp_Y) (z : Int32) : yRf (zLo y z) = yRf y := rfl
theorem g_TpLo (y : tp_Y) (z : Int32) : yTp (zLo y z) = yTp y := rfl
theorem g_LaLo (y : tp_Y) (z : Int32) : yLa (zLo y z) = yLa y := rfl
theorem g_LtLo (y : tp_Y) (z : Int32) : yLt (zLo y z) = yLt y := rfl
theorem g_TlLo (y : tp_Y) (z : Int32) : yTl (zLo y z) = yTl y := rfl
theorem g_TdLo (y : tp_Y) (z : Int32) : yTd (zLo y z) = yTd y := rfl
theorem g_RdLo (y : tp_Y) (z : Int32) : yRd (zLo y z) = yRd y := rfl
theorem g_SmLo (y : tp_Y) (z : Int32) : ySm (zLo y z) = ySm y := rfl
theorem g_KeLo (y : tp_Y) (z : Int32) : yKe (zLo y z) = yKe y := rfl
theorem g_HiLo (y : tp_Y) (z : Int32) : yHi (zLo y z) = yHi y := rfl
theorem g_IkLo (y : tp_Y) (z : Int32) : yIk (zLo y z) = yIk y := rfl
theorem g_CuLo (y : tp_Y) (z : Int32) : yCu (zLo y z) = yCu y := rfl
theorem g_MoLo (y : tp_Y) (z : Int32) : yMo (zLo y z) = yMo y := rfl
theorem g_EnLo (y : tp_Y) (z : Int32) : yEn (zLo y z) = yEn y := rfl
theorem g_RoLo (y : tp_Y) (z : Int32) : yRo (zLo y z) = yRo y := rfl
theorem g_RmLo (y : tp_Y) (z : Int32) : yRm (zLo y z) = yRm y := rfl
theorem g_LoLo (y : tp_Y) (z : Int32) : yLo (zLo y z) = z := rfl
/-! rows that agree as far as they go are one row -/
theorem tg_simR {G : tg_G} {w : tg_W} {k n : Nat} {f g : Nat → Int32} (h : tg_lk w k = some (.inr (n, f))) (e : ∀ i, i < n → g i = f i) {H : Heap} (hR : tg_R G w H) : tg_R G (tg_up w k (.inr (n, g))) H := by
  obtain ⟨h1, h2, h3, h4, h5⟩ := hR
  have hl := tg_up_len w k (.inr (n, g))
  refine ⟨?_, by rw [hl.1, hl.2]; exact h2, by rw [hl.1]; exact h3, by rw [hl.2]; exact h4, ?_⟩
  · intro j q hq
    rw [tg_up_ws h] at hq
    by_cases ej : tg_pc w k = j
    · subst ej
      have hw := tg_lk_ws (G := G) h
      have hlt := (List.getElem?_eq_some_iff.mp hw).1
      rw [List.getElem?_set_self hlt] at hq
      have hq := Option.some.inj hq
      subst hq
      have h0 := h1 _ _ hw
      have ef : (fun j : Fin n => (Value.int (g j.val))) = fun j : Fin n => (Value.int (f j.val)) := funext fun j => by rw [e j.val j.isLt]
      show H[tg_ad G k]? = some (vp_cell _ (n, .inl g))
      have h0' : H[tg_ad G k]? = some (vp_cell G.2.2.2.2.2.2 (n, .inl f)) := h0
      rw [h0', vp_cell_i, vp_cell_i]
      unfold arrV
      rw [ef]
    · rw [List.getElem?_set_ne ej] at hq
      exact h1 j q hq
  · rcases h5 with h5 | h5
    · refine Or.inl ?_
      have := hl.2
      rw [h5] at this
      exact List.eq_nil_of_length_eq_zero this
    · exact Or.inr (by rw [hl.1]; exact h5)
theorem tg_sim {G : tg_G} {lv : Nat} {m : tg_M} {kc ks mc ms : Nat} {Q : Option Value → tg_W → Prop} {pc : Nat} {L : List (Nat × Value)} {st : List Value} {w : tg_W} {k n : Nat} {f g : Nat → Int32} (h : tg_lk w k = some (.inr (n, f))) (e : ∀ i, i < n → g i = f i) (hV : tg_V G lv m kc ks mc ms Q pc L st (tg_up w k (.inr (n, g)))) : tg_V G lv m kc ks mc ms Q pc L st w := by
  intro p l en R s mi args below meth c H locs ls C hS hR hl
  exact hV p l en R s mi args below meth c H locs ls C hS (tg_simR h e hR) hl
theorem tg_simH {G : tg_G} {lv : Nat} {m : tg_M} {kc ks mc ms : Nat} {Q : Option Value → tg_W → Prop} {pc : Nat} {L : List (Nat × Value)} {st : List Value} {l : List tg_Cl} {y : tp_Y} {g h : tp_H} (e1 : hC g = hC h) (e2 : hS g = hS h) (e3 : hN g = hN h) (e4 : hM g = hM h) (e5 : ∀ i, i < 7 → hK h i = hK g i ∧ hF h i = hF g i ∧ hH h i = hH g i ∧ hT h i = hT g i ∧ hP h i = hP g i)
    (hV : tg_V G lv m kc ks mc ms Q pc L st (l, tm_cs h y)) : tg_V G lv m kc ks mc ms Q pc L st (l, tm_cs g y) := by
  refine tg_sim (k := 66) (n := 7) (f := hK g) (g := hK h) rfl (fun i hi => (e5 i hi).1) ?_
  rw [m_K]
  refine tg_sim (k := 67) (n := 7) (f := hF g) (g := hF h) rfl (fun i hi => (e5 i hi).2.1) ?_
  rw [m_F]
  refine tg_sim (k := 68) (n := 7) (f := hH g) (g := hH h) rfl (fun i hi => (e5 i hi).2.2.1) ?_
  rw [m_H]
  refine tg_sim (k := 69) (n := 7) (f := hT g) (g := hT h) rfl (fun i hi => (e5 i hi).2.2.2.1) ?_
  rw [m_T]
  refine tg_sim (k := 70) (n := 7) (f := hP g) (g := hP h) rfl (fun i hi => (e5 i hi).2.2.2.2) ?_
  rw [m_P]
  have e : sP (sT (sH (sF (sK g (hK h)) (hF h)) (hH h)) (hT h)) (hP h) = h := by
    show (hC g, hS g, hN g, hM g, hK h, hF h, hH h, hT h, hP h) = h
    rw [e1, e2, e3, e4]
    rfl
  rw [e]
  exact hV
