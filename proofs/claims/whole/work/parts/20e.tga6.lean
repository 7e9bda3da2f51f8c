/-! the public methods, continued -/
set_option maxRecDepth 100000 in
set_option maxHeartbeats 2000000 in
theorem q_row {G : tg_G} {n p t : tp_H} {x : tp_X} {r : List tg_Cl} (ht : xTm x ≤ 16) (v : Int32) : tg_C G 2 mX10_row 0 0 [.ref 0, .int v] (tp_cs n p t x, r) (pQ (wRow x v) (.int (wRow x v)) (.int (nI (xTm x + 1))) n p x (n) (p) (XRow x v) r) := by
  refine tg_intro okX10_row (Nat.le_of_ble_eq_true rfl) ?_
  refine tg_steps 1 rfl ?_
  refine tg_ifge rfl rfl (fun h1 => ?_) (fun h1 => ?_)
  · refine tg_steps 2 rfl ?_
    refine tg_icgt rfl rfl (fun h14 => ?_) (fun h14 => ?_)
    · refine tg_steps 2 rfl ?_
      refine tg_callV rfl (c_refuse (-6) (by decide)) rfl rfl rfl rfl rfl (fun v29 w29 q29 => ?_)
      obtain ⟨rfl, rfl⟩ := q29
      exact tg_iret (st := []) rfl rfl ⟨Nat.le_of_ble_eq_true rfl, Nat.le_of_ble_eq_true rfl⟩ (pQ_refI (by first | (simp (decide := true) only [wRow, decide_true, decide_false, cond_true, cond_false, Bool.false_eq_true, if_true, if_false, ite_true, ite_false, h1, Int32.not_lt.mpr h1, h14, Int32.not_le.mpr h14]; done) | (simp (decide := true) only [wRow, decide_true, decide_false, cond_true, cond_false, Bool.false_eq_true, if_true, if_false, ite_true, ite_false, h1, Int32.not_lt.mpr h1, h14, Int32.not_le.mpr h14]; done) | (simp (decide := true) only [wRow, decide_true, decide_false, cond_true, cond_false, Bool.false_eq_true, if_true, if_false, ite_true, ite_false, h1, Int32.not_lt.mpr h1, h14, Int32.not_le.mpr h14]; rfl) | rfl) (by first | decide | exact rf_bor _))
    · refine tg_steps 3 rfl ?_
      refine tg_iclt rfl rfl (fun h23 => ?_) (fun h23 => ?_)
      · have hl2 : xTm x < 16 := by
          rcases Nat.lt_or_ge (xTm x) 16 with q | q
          · exact q
          · exact absurd h23 (nI_nlt (a := xTm x) (b := 16) q (by omega))
        refine tg_steps 5 rfl ?_
        refine tg_iastN rfl rfl (xTm x) rfl hl2 (by decide) ?_
        refine tg_eqW (w_To _) ?_
        refine tg_steps 6 rfl ?_
        rw [nI_p1, e_TmTo]
        refine tg_eqW (w_Tm _) ?_
        refine tg_steps 2 rfl ?_
        exact tg_iret (st := []) rfl rfl ⟨Nat.le_of_ble_eq_true rfl, Nat.le_of_ble_eq_true rfl⟩ (pQ_ok (by first | (simp (decide := true) only [wRow, decide_true, decide_false, cond_true, cond_false, Bool.false_eq_true, if_true, if_false, ite_true, ite_false, h1, Int32.not_lt.mpr h1, h14, Int32.not_lt.mp h14, h23, Int32.not_le.mpr h23]; done) | (simp (decide := true) only [wRow, decide_true, decide_false, cond_true, cond_false, Bool.false_eq_true, if_true, if_false, ite_true, ite_false, h1, Int32.not_lt.mpr h1, h14, Int32.not_lt.mp h14, h23, Int32.not_le.mpr h23]; done) | (simp (decide := true) only [wRow, decide_true, decide_false, cond_true, cond_false, Bool.false_eq_true, if_true, if_false, ite_true, ite_false, h1, Int32.not_lt.mpr h1, h14, Int32.not_lt.mp h14, h23, Int32.not_le.mpr h23]; rfl) | rfl) rfl (eqH_rf _) (eqH_rf _) ⟨rfl, rfl, rfl, rfl, rfl, rfl⟩)
      · refine tg_steps 2 rfl ?_
        refine tg_callV rfl (c_refuse (-6) (by decide)) rfl rfl rfl rfl rfl (fun v29 w29 q29 => ?_)
        obtain ⟨rfl, rfl⟩ := q29
        exact tg_iret (st := []) rfl rfl ⟨Nat.le_of_ble_eq_true rfl, Nat.le_of_ble_eq_true rfl⟩ (pQ_refI (by first | (simp (decide := true) only [wRow, decide_true, decide_false, cond_true, cond_false, Bool.false_eq_true, if_true, if_false, ite_true, ite_false, h1, Int32.not_lt.mpr h1, h14, Int32.not_lt.mp h14, h23, Int32.not_lt.mp h23]; done) | (simp (decide := true) only [wRow, decide_true, decide_false, cond_true, cond_false, Bool.false_eq_true, if_true, if_false, ite_true, ite_false, h1, Int32.not_lt.mpr h1, h14, Int32.not_lt.mp h14, h23, Int32.not_lt.mp h23]; done) | (simp (decide := true) only [wRow, decide_true, decide_false, cond_true, cond_false, Bool.false_eq_true, if_true, if_false, ite_true, ite_false, h1, Int32.not_lt.mpr h1, h14, Int32.not_lt.mp h14, h23, Int32.not_lt.mp h23]; rfl) | rfl) (by first | decide | exact rf_bor _))
  · refine tg_steps 2 rfl ?_
    refine tg_callV rfl (c_refuse (-4) (by decide)) rfl rfl rfl rfl rfl (fun v7 w7 q7 => ?_)
    obtain ⟨rfl, rfl⟩ := q7
    exact tg_iret (st := []) rfl rfl ⟨Nat.le_of_ble_eq_true rfl, Nat.le_of_ble_eq_true rfl⟩ (pQ_refI (by first | (simp (decide := true) only [wRow, decide_true, decide_false, cond_true, cond_false, Bool.false_eq_true, if_true, if_false, ite_true, ite_false, h1, Int32.not_le.mp h1]; done) | (simp (decide := true) only [wRow, decide_true, decide_false, cond_true, cond_false, Bool.false_eq_true, if_true, if_false, ite_true, ite_false, h1, Int32.not_le.mp h1]; done) | (simp (decide := true) only [wRow, decide_true, decide_false, cond_true, cond_false, Bool.false_eq_true, if_true, if_false, ite_true, ite_false, h1, Int32.not_le.mp h1]; rfl) | rfl) (by first | decide | exact rf_bor _))
set_option maxRecDepth 100000 in
set_option maxHeartbeats 2000000 in
theorem c_clear {G : tg_G} {n p t : tp_H} {x : tp_X} {r : List tg_Cl} : tg_C G 1 mX10_clear 0 0 [.ref 0] (tp_cs n p t x, r) (fun v w => v = some (.int (nI (xTm x))) ∧ w = (tp_cs n p t (yTm x 0), r)) := by
  refine tg_intro okX10_clear (Nat.le_of_ble_eq_true rfl) ?_
  refine tg_steps 6 rfl ?_
  refine tg_eqW (w_Tm 0) ?_
  refine tg_steps 1 rfl ?_
  exact tg_iret (st := []) rfl rfl ⟨Nat.le_of_ble_eq_true rfl, Nat.le_of_ble_eq_true rfl⟩ ⟨rfl, rfl⟩
theorem q_clear {G : tg_G} {n p t : tp_H} {x : tp_X} {r : List tg_Cl} : tg_C G 1 mX10_clear 0 0 [.ref 0] (tp_cs n p t x, r) (pQ (0 : Int32) (.int (0 : Int32)) (.int (nI (xTm x))) n p x n p (yTm x 0) r) :=
  tg_wk_C c_clear (fun y w' q => by obtain ⟨rfl, rfl⟩ := q; exact pQ_ok rfl rfl (eqH_rf _) (eqH_rf _) ⟨rfl, rfl, rfl, rfl, rfl, rfl⟩)
set_option maxRecDepth 100000 in
set_option maxHeartbeats 2000000 in
theorem q_judge {G : tg_G} {n p t : tp_H} {x : tp_X} {r : List tg_Cl} (hm : hM n ≤ 7) (ht : xTm x ≤ 16) : tg_C G 3 mX10_judge 0 0 [.ref 0] (tp_cs n p t x, r) (pQ ((0 : Int32)) (.int ((0 : Int32))) (.int (aJud n x)) n p x (n) (p) (yTm x 0) r) := by
  refine tg_intro okX10_judge (Nat.le_of_ble_eq_true rfl) ?_
  refine tg_steps 1 rfl ?_
  refine tg_callV rfl (c_clear) rfl rfl rfl rfl rfl (fun v1 w1 q1 => ?_)
  obtain ⟨rfl, rfl⟩ := q1
  refine tg_steps 3 rfl ?_
  refine tg_pkV [0, 1, 2] ?_
  refine tg_eqS (L2 := [(0, .ref 0), (1, .int (nI (xTm x))), (2, .int (nI (0)))]) (st2 := []) (w2 := (tp_cs n p t (yTm x 0), r)) rfl rfl rfl ?_
  refine tg_down (φ := fun i : Nat => (aJud n x = fiV (juP n x) nI (-9) (xTm x - (i)) (i)) → tg_V G 3 mX10_judge 0 0 0 0 (pQ ((0 : Int32)) (.int ((0 : Int32))) (.int (aJud n x)) n p x (n) (p) (yTm x 0) r) 7 [(0, .ref 0), (1, .int (nI (xTm x))), (2, .int (nI (i)))] [] (tp_cs n p t (yTm x 0), r)) (n := xTm x) ?_ ?_ 0 (Nat.zero_le _) (rfl)
  · intro hinv7
    refine tg_steps 2 rfl ?_
    refine tg_icge rfl rfl (fun h9 => ?_) (fun h9 => ?_)
    · refine tg_steps 1 rfl ?_
      exact tg_iret (st := []) rfl rfl ⟨Nat.le_of_ble_eq_true rfl, Nat.le_of_ble_eq_true rfl⟩ (pQ_ok rfl (by rw [hinv7, Nat.sub_self]; rfl) (eqH_rf _) (eqH_rf _) ⟨rfl, rfl, rfl, rfl, rfl, rfl⟩)
    · exact absurd (nI_le (Nat.le_refl _) (by omega)) h9
  · intro i hi7 ih7 hinv7
    rw [show xTm x - i = xTm x - (i + 1) + 1 by omega, fiV_succ _ _ _ (xTm x - (i + 1)) i] at hinv7
    refine tg_steps 2 rfl ?_
    refine tg_icge rfl rfl (fun h9 => ?_) (fun h9 => ?_)
    · exact absurd h9 (nI_ge hi7 (by omega))
    · refine tg_steps 3 rfl ?_
      refine tg_callV rfl (c_has_0 _) rfl rfl rfl rfl rfl (fun v17 w17 q17 => ?_)
      obtain ⟨rfl, rfl⟩ := q17
      refine tg_ifbeq rfl rfl (fun h20 => ?_) (fun h20 => ?_)
      · refine tg_steps 1 rfl ?_
        exact tg_iret (st := []) rfl rfl ⟨Nat.le_of_ble_eq_true rfl, Nat.le_of_ble_eq_true rfl⟩ (pQ_ok rfl (by simp (decide := true) only [juP, not_true, not_false_eq_true, decide_true, decide_false, cond_true, cond_false, Bool.false_eq_true, if_true, if_false, ite_true, ite_false, h20] at hinv7; rw [hinv7]) (eqH_rf _) (eqH_rf _) ⟨rfl, rfl, rfl, rfl, rfl, rfl⟩)
      · refine tg_steps 3 rfl ?_
        refine tg_callV rfl (c_homeOf_0 hm _) rfl rfl rfl rfl rfl (fun v28 w28 q28 => ?_)
        obtain ⟨rfl, rfl⟩ := q28
        refine tg_steps 3 rfl ?_
        refine tg_ialdN rfl rfl (i) rfl (by omega) (by decide) ?_
        rw [e_ToTm]
        refine tg_iceq rfl rfl (fun h37 => ?_) (fun h37 => ?_)
        · refine tg_steps 2 rfl ?_
          refine tg_pkV [0, 1, 2] ?_
          refine tg_eqS (L2 := [(0, .ref 0), (1, .int (nI (xTm x))), (2, .int (nI (i + 1)))]) (st2 := []) (w2 := (tp_cs n p t (yTm x 0), r)) (by first | rfl | (simp (decide := true) only [nI_succ, decide_true, decide_false, cond_true, cond_false, Bool.false_eq_true, if_true, if_false, ite_true, ite_false, h20, eq_true h37]; done) | (simp (decide := true) only [nI_succ, decide_true, decide_false, cond_true, cond_false, Bool.false_eq_true, if_true, if_false, ite_true, ite_false, h20, eq_true h37]; rfl)) rfl (by first | rfl | (simp (decide := true) only [nI_succ, decide_true, decide_false, cond_true, cond_false, Bool.false_eq_true, if_true, if_false, ite_true, ite_false, h20, eq_true h37]; done) | (simp (decide := true) only [nI_succ, decide_true, decide_false, cond_true, cond_false, Bool.false_eq_true, if_true, if_false, ite_true, ite_false, h20, eq_true h37]; rfl)) ?_
          exact ih7 (by simp (decide := true) only [juP, not_true, not_false_eq_true, decide_true, decide_false, cond_true, cond_false, Bool.false_eq_true, if_true, if_false, ite_true, ite_false, h20, eq_true h37] at hinv7; exact hinv7)
        · refine tg_steps 1 rfl ?_
          exact tg_iret (st := []) rfl rfl ⟨Nat.le_of_ble_eq_true rfl, Nat.le_of_ble_eq_true rfl⟩ (pQ_ok rfl (by simp (decide := true) only [juP, not_true, not_false_eq_true, decide_true, decide_false, cond_true, cond_false, Bool.false_eq_true, if_true, if_false, ite_true, ite_false, h20, h37] at hinv7; rw [hinv7]) (eqH_rf _) (eqH_rf _) ⟨rfl, rfl, rfl, rfl, rfl, rfl⟩)
set_option maxRecDepth 100000 in
set_option maxHeartbeats 2000000 in
theorem q_lots {G : tg_G} {n p t : tp_H} {x : tp_X} {r : List tg_Cl} (hm : hM n ≤ 7) (k : Int32) (z : Int32) (what : Int32) : tg_C G 7 mX10_lots 0 0 [.ref 0, .int k, .int z, .int what] (tp_cs n p t x, r) (pQ (wLot k what) (.int (wLot k what)) (.int (aLot n k z what)) n p x (n) (p) (x) r) := by
  refine tg_intro okX10_lots (Nat.le_of_ble_eq_true rfl) ?_
  refine tg_steps 2 rfl ?_
  refine tg_icge rfl rfl (fun h2 => ?_) (fun h2 => ?_)
  · refine tg_steps 2 rfl ?_
    refine tg_icle rfl rfl (fun h15 => ?_) (fun h15 => ?_)
    · obtain ⟨j, hj, rfl⟩ := nI_of2 (x := k) (M := 20) (n := 20) rfl (fun q => Int32.not_le.mpr (Int32.lt_trans q (by decide)) h2) h15
      have cj : nN (nI j) = j := nI_clamp (by omega)
      refine tg_steps 2 rfl ?_
      refine tg_call1 rfl (c_isUpTo _ _) rfl rfl rfl  (fun v27 w27 q27 => ?_)
      obtain ⟨rfl, rfl⟩ := q27
      refine tg_ifbne rfl rfl (fun h30 => ?_) (fun h30 => ?_)
      · refine tg_steps 7 rfl ?_
        refine tg_callV rfl (c_winters hm j (by omega) _ _) rfl rfl rfl rfl rfl (fun v51 w51 q51 => ?_)
        obtain ⟨rfl, t3, z3, rfl⟩ := q51
        exact tg_iret (st := []) rfl rfl ⟨Nat.le_of_ble_eq_true rfl, Nat.le_of_ble_eq_true rfl⟩ (pQ_ok (by first | (simp (decide := true) only [wLot, decide_true, decide_false, cond_true, cond_false, Bool.false_eq_true, if_true, if_false, ite_true, ite_false, h2, Int32.not_lt.mpr h2, h15, Int32.not_lt.mpr h15, h30]; done) | (simp (decide := true) only [wLot, decide_true, decide_false, cond_true, cond_false, Bool.false_eq_true, if_true, if_false, ite_true, ite_false, h2, Int32.not_lt.mpr h2, h15, Int32.not_lt.mpr h15, h30]; done) | (simp (decide := true) only [wLot, decide_true, decide_false, cond_true, cond_false, Bool.false_eq_true, if_true, if_false, ite_true, ite_false, h2, Int32.not_lt.mpr h2, h15, Int32.not_lt.mpr h15, h30]; rfl) | rfl) (by first | (simp (decide := true) only [aLot, cj, decide_true, decide_false, cond_true, cond_false, Bool.false_eq_true, if_true, if_false, ite_true, ite_false, h2, Int32.not_lt.mpr h2, h15, Int32.not_lt.mpr h15, h30]; done) | (simp (decide := true) only [aLot, cj, decide_true, decide_false, cond_true, cond_false, Bool.false_eq_true, if_true, if_false, ite_true, ite_false, h2, Int32.not_lt.mpr h2, h15, Int32.not_lt.mpr h15, h30]; done) | (simp (decide := true) only [aLot, cj, decide_true, decide_false, cond_true, cond_false, Bool.false_eq_true, if_true, if_false, ite_true, ite_false, h2, Int32.not_lt.mpr h2, h15, Int32.not_lt.mpr h15, h30]; rfl) | rfl) (eqH_rf _) (eqH_rf _) ⟨rfl, rfl, rfl, rfl, rfl, rfl⟩)
      · refine tg_steps 2 rfl ?_
        refine tg_callV rfl (c_refuse (-2) (by decide)) rfl rfl rfl rfl rfl (fun v36 w36 q36 => ?_)
        obtain ⟨rfl, rfl⟩ := q36
        exact tg_iret (st := []) rfl rfl ⟨Nat.le_of_ble_eq_true rfl, Nat.le_of_ble_eq_true rfl⟩ (pQ_refI (by first | (simp (decide := true) only [wLot, decide_true, decide_false, cond_true, cond_false, Bool.false_eq_true, if_true, if_false, ite_true, ite_false, h2, Int32.not_lt.mpr h2, h15, Int32.not_lt.mpr h15, h30]; done) | (simp (decide := true) only [wLot, decide_true, decide_false, cond_true, cond_false, Bool.false_eq_true, if_true, if_false, ite_true, ite_false, h2, Int32.not_lt.mpr h2, h15, Int32.not_lt.mpr h15, h30]; done) | (simp (decide := true) only [wLot, decide_true, decide_false, cond_true, cond_false, Bool.false_eq_true, if_true, if_false, ite_true, ite_false, h2, Int32.not_lt.mpr h2, h15, Int32.not_lt.mpr h15, h30]; rfl) | rfl) (by first | decide | exact rf_bor _))
    · refine tg_steps 2 rfl ?_
      refine tg_callV rfl (c_refuse (-6) (by decide)) rfl rfl rfl rfl rfl (fun v21 w21 q21 => ?_)
      obtain ⟨rfl, rfl⟩ := q21
      exact tg_iret (st := []) rfl rfl ⟨Nat.le_of_ble_eq_true rfl, Nat.le_of_ble_eq_true rfl⟩ (pQ_refI (by first | (simp (decide := true) only [wLot, decide_true, decide_false, cond_true, cond_false, Bool.false_eq_true, if_true, if_false, ite_true, ite_false, h2, Int32.not_lt.mpr h2, h15, Int32.not_le.mp h15]; done) | (simp (decide := true) only [wLot, decide_true, decide_false, cond_true, cond_false, Bool.false_eq_true, if_true, if_false, ite_true, ite_false, h2, Int32.not_lt.mpr h2, h15, Int32.not_le.mp h15]; done) | (simp (decide := true) only [wLot, decide_true, decide_false, cond_true, cond_false, Bool.false_eq_true, if_true, if_false, ite_true, ite_false, h2, Int32.not_lt.mpr h2, h15, Int32.not_le.mp h15]; rfl) | rfl) (by first | decide | exact rf_bor _))
  · refine tg_steps 2 rfl ?_
    refine tg_callV rfl (c_refuse (-4) (by decide)) rfl rfl rfl rfl rfl (fun v8 w8 q8 => ?_)
    obtain ⟨rfl, rfl⟩ := q8
    exact tg_iret (st := []) rfl rfl ⟨Nat.le_of_ble_eq_true rfl, Nat.le_of_ble_eq_true rfl⟩ (pQ_refI (by first | (simp (decide := true) only [wLot, decide_true, decide_false, cond_true, cond_false, Bool.false_eq_true, if_true, if_false, ite_true, ite_false, h2, Int32.not_le.mp h2]; done) | (simp (decide := true) only [wLot, decide_true, decide_false, cond_true, cond_false, Bool.false_eq_true, if_true, if_false, ite_true, ite_false, h2, Int32.not_le.mp h2]; done) | (simp (decide := true) only [wLot, decide_true, decide_false, cond_true, cond_false, Bool.false_eq_true, if_true, if_false, ite_true, ite_false, h2, Int32.not_le.mp h2]; rfl) | rfl) (by first | decide | exact rf_bor _))
set_option maxRecDepth 100000 in
set_option maxHeartbeats 2000000 in
theorem q_image {G : tg_G} {n p t : tp_H} {x : tp_X} {r : List tg_Cl} (hm : hM n ≤ 7) : tg_C G 2 mX10_image 0 0 [.ref 0] (tp_cs n p t x, r) (pQ ((0 : Int32)) (.int ((0 : Int32))) (.int (hN n)) n p x (n) (n) (yPd x true) r) := by
  refine tg_intro okX10_image (Nat.le_of_ble_eq_true rfl) ?_
  refine tg_steps 4 rfl ?_
  refine tg_callV rfl (c_copyFrom_10 hm) rfl rfl rfl rfl rfl (fun v8 w8 q8 => ?_)
  obtain ⟨rfl, rfl⟩ := q8
  refine tg_steps 2 rfl ?_
  refine tg_putz rfl rfl (by first | exact Or.inl rfl | exact Or.inr rfl | exact tg_b1 _) rfl ?_
  refine tg_eqW (w_Pd true) ?_
  refine tg_steps 3 rfl ?_
  exact tg_iret (st := []) rfl rfl ⟨Nat.le_of_ble_eq_true rfl, Nat.le_of_ble_eq_true rfl⟩ (pQ_ok rfl rfl (eqH_rf _) (eq_cpF _ _) ⟨rfl, rfl, rfl, rfl, rfl, rfl⟩)
set_option maxRecDepth 100000 in
set_option maxHeartbeats 2000000 in
theorem q_on {G : tg_G} {n p t : tp_H} {x : tp_X} {r : List tg_Cl} (hp : hM p ≤ 7) : tg_C G 2 mX10_on 0 0 [.ref 0] (tp_cs n p t x, r) (pQ (wOn x) (.int (wOn x)) (.int (hN p)) n p x (p) (p) (x) r) := by
  refine tg_intro okX10_on (Nat.le_of_ble_eq_true rfl) ?_
  refine tg_steps 2 rfl ?_
  refine tg_ifbne rfl rfl (fun h4 => ?_) (fun h4 => ?_)
  · refine tg_steps 4 rfl ?_
    refine tg_callV rfl (c_copyFrom_01 hp) rfl rfl rfl rfl rfl (fun v22 w22 q22 => ?_)
    obtain ⟨rfl, rfl⟩ := q22
    refine tg_steps 3 rfl ?_
    exact tg_iret (st := []) rfl rfl ⟨Nat.le_of_ble_eq_true rfl, Nat.le_of_ble_eq_true rfl⟩ (pQ_ok (by first | (simp (decide := true) only [wOn, decide_true, decide_false, cond_true, cond_false, Bool.false_eq_true, if_true, if_false, ite_true, ite_false, h4]; done) | (simp (decide := true) only [wOn, decide_true, decide_false, cond_true, cond_false, Bool.false_eq_true, if_true, if_false, ite_true, ite_false, h4]; done) | (simp (decide := true) only [wOn, decide_true, decide_false, cond_true, cond_false, Bool.false_eq_true, if_true, if_false, ite_true, ite_false, h4]; rfl) | rfl) rfl (eq_cpF _ _) (eqH_rf _) ⟨rfl, rfl, rfl, rfl, rfl, rfl⟩)
  · refine tg_steps 2 rfl ?_
    refine tg_callV rfl (c_refuse (-3) (by decide)) rfl rfl rfl rfl rfl (fun v10 w10 q10 => ?_)
    obtain ⟨rfl, rfl⟩ := q10
    exact tg_iret (st := []) rfl rfl ⟨Nat.le_of_ble_eq_true rfl, Nat.le_of_ble_eq_true rfl⟩ (pQ_refI (by first | (simp (decide := true) only [wOn, decide_true, decide_false, cond_true, cond_false, Bool.false_eq_true, if_true, if_false, ite_true, ite_false, h4]; done) | (simp (decide := true) only [wOn, decide_true, decide_false, cond_true, cond_false, Bool.false_eq_true, if_true, if_false, ite_true, ite_false, h4]; done) | (simp (decide := true) only [wOn, decide_true, decide_false, cond_true, cond_false, Bool.false_eq_true, if_true, if_false, ite_true, ite_false, h4]; rfl) | rfl) (by first | decide | exact rf_bor _))
set_option maxRecDepth 100000 in
set_option maxHeartbeats 2000000 in
theorem q_count {G : tg_G} {n p t : tp_H} {x : tp_X} {r : List tg_Cl} (hm : hM n ≤ 7) (what : Int32) : tg_C G 3 mX10_count 0 0 [.ref 0, .int what] (tp_cs n p t x, r) (pQ ((0 : Int32)) (.int ((0 : Int32))) (.int (aCou n x what)) n p x (n) (p) (x) r) := by
  refine tg_intro okX10_count (Nat.le_of_ble_eq_true rfl) ?_
  refine tg_steps 1 rfl ?_
  refine tg_tsw rfl ?_
  refine And.intro (fun h1_0 => ?_) (fun h1_0 => ?_)
  · refine tg_steps 3 rfl ?_
    exact tg_iret (st := []) rfl rfl ⟨Nat.le_of_ble_eq_true rfl, Nat.le_of_ble_eq_true rfl⟩ (pQ_ok rfl (by first | (simp (decide := true) only [aCou, decide_true, decide_false, cond_true, cond_false, Bool.false_eq_true, if_true, if_false, ite_true, ite_false, eq_true h1_0]; done) | (simp (decide := true) only [aCou, decide_true, decide_false, cond_true, cond_false, Bool.false_eq_true, if_true, if_false, ite_true, ite_false, h1_0]; done) | (simp (decide := true) only [aCou, decide_true, decide_false, cond_true, cond_false, Bool.false_eq_true, if_true, if_false, ite_true, ite_false, eq_true h1_0]; rfl) | rfl) (eqH_rf _) (eqH_rf _) ⟨rfl, rfl, rfl, rfl, rfl, rfl⟩)
  refine And.intro (fun h1_1 => ?_) (fun h1_1 => ?_)
  · refine tg_steps 3 rfl ?_
    exact tg_iret (st := []) rfl rfl ⟨Nat.le_of_ble_eq_true rfl, Nat.le_of_ble_eq_true rfl⟩ (pQ_ok rfl (by first | (simp (decide := true) only [aCou, decide_true, decide_false, cond_true, cond_false, Bool.false_eq_true, if_true, if_false, ite_true, ite_false, h1_0, eq_true h1_1]; done) | (simp (decide := true) only [aCou, decide_true, decide_false, cond_true, cond_false, Bool.false_eq_true, if_true, if_false, ite_true, ite_false, h1_0, h1_1]; done) | (simp (decide := true) only [aCou, decide_true, decide_false, cond_true, cond_false, Bool.false_eq_true, if_true, if_false, ite_true, ite_false, h1_0, eq_true h1_1]; rfl) | rfl) (eqH_rf _) (eqH_rf _) ⟨rfl, rfl, rfl, rfl, rfl, rfl⟩)
  refine And.intro (fun h1_2 => ?_) (fun h1_2 => ?_)
  · refine tg_steps 3 rfl ?_
    exact tg_iret (st := []) rfl rfl ⟨Nat.le_of_ble_eq_true rfl, Nat.le_of_ble_eq_true rfl⟩ (pQ_ok rfl (by first | (simp (decide := true) only [aCou, decide_true, decide_false, cond_true, cond_false, Bool.false_eq_true, if_true, if_false, ite_true, ite_false, h1_0, h1_1, eq_true h1_2]; done) | (simp (decide := true) only [aCou, decide_true, decide_false, cond_true, cond_false, Bool.false_eq_true, if_true, if_false, ite_true, ite_false, h1_0, h1_1, h1_2]; done) | (simp (decide := true) only [aCou, decide_true, decide_false, cond_true, cond_false, Bool.false_eq_true, if_true, if_false, ite_true, ite_false, h1_0, h1_1, eq_true h1_2]; rfl) | rfl) (eqH_rf _) (eqH_rf _) ⟨rfl, rfl, rfl, rfl, rfl, rfl⟩)
  refine And.intro (fun h1_3 => ?_) (fun h1_3 => ?_)
  · refine tg_steps 3 rfl ?_
    exact tg_iret (st := []) rfl rfl ⟨Nat.le_of_ble_eq_true rfl, Nat.le_of_ble_eq_true rfl⟩ (pQ_ok rfl (by first | (simp (decide := true) only [aCou, decide_true, decide_false, cond_true, cond_false, Bool.false_eq_true, if_true, if_false, ite_true, ite_false, h1_0, h1_1, h1_2, eq_true h1_3]; done) | (simp (decide := true) only [aCou, decide_true, decide_false, cond_true, cond_false, Bool.false_eq_true, if_true, if_false, ite_true, ite_false, h1_0, h1_1, h1_2, h1_3]; done) | (simp (decide := true) only [aCou, decide_true, decide_false, cond_true, cond_false, Bool.false_eq_true, if_true, if_false, ite_true, ite_false, h1_0, h1_1, h1_2, eq_true h1_3]; rfl) | rfl) (eqH_rf _) (eqH_rf _) ⟨rfl, rfl, rfl, rfl, rfl, rfl⟩)
  refine And.intro (fun h1_4 => ?_) (fun h1_4 => ?_)
  · refine tg_steps 2 rfl ?_
    refine tg_callV rfl (c_aboardOnes_0 hm) rfl rfl rfl rfl rfl (fun v84 w84 q84 => ?_)
    obtain ⟨rfl, rfl⟩ := q84
    exact tg_iret (st := []) rfl rfl ⟨Nat.le_of_ble_eq_true rfl, Nat.le_of_ble_eq_true rfl⟩ (pQ_ok rfl (by first | (simp (decide := true) only [aCou, decide_true, decide_false, cond_true, cond_false, Bool.false_eq_true, if_true, if_false, ite_true, ite_false, h1_0, h1_1, h1_2, h1_3, eq_true h1_4]; done) | (simp (decide := true) only [aCou, decide_true, decide_false, cond_true, cond_false, Bool.false_eq_true, if_true, if_false, ite_true, ite_false, h1_0, h1_1, h1_2, h1_3, h1_4]; done) | (simp (decide := true) only [aCou, decide_true, decide_false, cond_true, cond_false, Bool.false_eq_true, if_true, if_false, ite_true, ite_false, h1_0, h1_1, h1_2, h1_3, eq_true h1_4]; rfl) | rfl) (eqH_rf _) (eqH_rf _) ⟨rfl, rfl, rfl, rfl, rfl, rfl⟩)
  refine And.intro (fun h1_5 => ?_) (fun h1_5 => ?_)
  · refine tg_steps 2 rfl ?_
    refine tg_callV rfl (c_pinnedMany_0 hm) rfl rfl rfl rfl rfl (fun v92 w92 q92 => ?_)
    obtain ⟨rfl, rfl⟩ := q92
    exact tg_iret (st := []) rfl rfl ⟨Nat.le_of_ble_eq_true rfl, Nat.le_of_ble_eq_true rfl⟩ (pQ_ok rfl (by first | (simp (decide := true) only [aCou, decide_true, decide_false, cond_true, cond_false, Bool.false_eq_true, if_true, if_false, ite_true, ite_false, h1_0, h1_1, h1_2, h1_3, h1_4, eq_true h1_5]; done) | (simp (decide := true) only [aCou, decide_true, decide_false, cond_true, cond_false, Bool.false_eq_true, if_true, if_false, ite_true, ite_false, h1_0, h1_1, h1_2, h1_3, h1_4, h1_5]; done) | (simp (decide := true) only [aCou, decide_true, decide_false, cond_true, cond_false, Bool.false_eq_true, if_true, if_false, ite_true, ite_false, h1_0, h1_1, h1_2, h1_3, h1_4, eq_true h1_5]; rfl) | rfl) (eqH_rf _) (eqH_rf _) ⟨rfl, rfl, rfl, rfl, rfl, rfl⟩)
  refine And.intro (fun h1_6 => ?_) (fun h1_6 => ?_)
  · refine tg_steps 2 rfl ?_
    exact tg_iret (st := []) rfl rfl ⟨Nat.le_of_ble_eq_true rfl, Nat.le_of_ble_eq_true rfl⟩ (pQ_ok rfl (by first | (simp (decide := true) only [aCou, decide_true, decide_false, cond_true, cond_false, Bool.false_eq_true, if_true, if_false, ite_true, ite_false, h1_0, h1_1, h1_2, h1_3, h1_4, h1_5, eq_true h1_6]; done) | (simp (decide := true) only [aCou, decide_true, decide_false, cond_true, cond_false, Bool.false_eq_true, if_true, if_false, ite_true, ite_false, h1_0, h1_1, h1_2, h1_3, h1_4, h1_5, h1_6]; done) | (simp (decide := true) only [aCou, decide_true, decide_false, cond_true, cond_false, Bool.false_eq_true, if_true, if_false, ite_true, ite_false, h1_0, h1_1, h1_2, h1_3, h1_4, h1_5, eq_true h1_6]; rfl) | rfl) (eqH_rf _) (eqH_rf _) ⟨rfl, rfl, rfl, rfl, rfl, rfl⟩)
  refine And.intro (fun h1_7 => ?_) (fun h1_7 => ?_)
  · refine tg_steps 3 rfl ?_
    exact tg_iret (st := []) rfl rfl ⟨Nat.le_of_ble_eq_true rfl, Nat.le_of_ble_eq_true rfl⟩ (pQ_ok rfl (by first | (simp (decide := true) only [aCou, decide_true, decide_false, cond_true, cond_false, Bool.false_eq_true, if_true, if_false, ite_true, ite_false, h1_0, h1_1, h1_2, h1_3, h1_4, h1_5, h1_6, eq_true h1_7]; done) | (simp (decide := true) only [aCou, decide_true, decide_false, cond_true, cond_false, Bool.false_eq_true, if_true, if_false, ite_true, ite_false, h1_0, h1_1, h1_2, h1_3, h1_4, h1_5, h1_6, h1_7]; done) | (simp (decide := true) only [aCou, decide_true, decide_false, cond_true, cond_false, Bool.false_eq_true, if_true, if_false, ite_true, ite_false, h1_0, h1_1, h1_2, h1_3, h1_4, h1_5, h1_6, eq_true h1_7]; rfl) | rfl) (eqH_rf _) (eqH_rf _) ⟨rfl, rfl, rfl, rfl, rfl, rfl⟩)
  refine tg_steps 2 rfl ?_
  refine tg_icle rfl rfl (fun h112 => ?_) (fun h112 => ?_)
  · refine tg_steps 1 rfl ?_
    exact tg_iret (st := []) rfl rfl ⟨Nat.le_of_ble_eq_true rfl, Nat.le_of_ble_eq_true rfl⟩ (pQ_ok rfl (by first | (simp (decide := true) only [aCou, decide_true, decide_false, cond_true, cond_false, Bool.false_eq_true, if_true, if_false, ite_true, ite_false, h1_0, h1_1, h1_2, h1_3, h1_4, h1_5, h1_6, h1_7, h112, Int32.not_lt.mpr h112]; done) | (simp (decide := true) only [aCou, decide_true, decide_false, cond_true, cond_false, Bool.false_eq_true, if_true, if_false, ite_true, ite_false, h1_0, h1_1, h1_2, h1_3, h1_4, h1_5, h1_6, h1_7, h112, Int32.not_lt.mpr h112]; done) | (simp (decide := true) only [aCou, decide_true, decide_false, cond_true, cond_false, Bool.false_eq_true, if_true, if_false, ite_true, ite_false, h1_0, h1_1, h1_2, h1_3, h1_4, h1_5, h1_6, h1_7, h112, Int32.not_lt.mpr h112]; rfl) | rfl) (eqH_rf _) (eqH_rf _) ⟨rfl, rfl, rfl, rfl, rfl, rfl⟩)
  · refine tg_steps 2 rfl ?_
    refine tg_icgt rfl rfl (fun h118 => ?_) (fun h118 => ?_)
    · refine tg_steps 1 rfl ?_
      exact tg_iret (st := []) rfl rfl ⟨Nat.le_of_ble_eq_true rfl, Nat.le_of_ble_eq_true rfl⟩ (pQ_ok rfl (by first | (simp (decide := true) only [aCou, decide_true, decide_false, cond_true, cond_false, Bool.false_eq_true, if_true, if_false, ite_true, ite_false, h1_0, h1_1, h1_2, h1_3, h1_4, h1_5, h1_6, h1_7, h112, Int32.not_le.mp h112, h118, Int32.not_le.mpr h118]; done) | (simp (decide := true) only [aCou, decide_true, decide_false, cond_true, cond_false, Bool.false_eq_true, if_true, if_false, ite_true, ite_false, h1_0, h1_1, h1_2, h1_3, h1_4, h1_5, h1_6, h1_7, h112, Int32.not_le.mp h112, h118, Int32.not_le.mpr h118]; done) | (simp (decide := true) only [aCou, decide_true, decide_false, cond_true, cond_false, Bool.false_eq_true, if_true, if_false, ite_true, ite_false, h1_0, h1_1, h1_2, h1_3, h1_4, h1_5, h1_6, h1_7, h112, Int32.not_le.mp h112, h118, Int32.not_le.mpr h118]; rfl) | rfl) (eqH_rf _) (eqH_rf _) ⟨rfl, rfl, rfl, rfl, rfl, rfl⟩)
    · obtain ⟨j, hj, ej, cj⟩ := cou_j h112 h118
      refine tg_steps 5 rfl ?_
      refine tg_ialdN rfl rfl (j) ej hj (by decide) ?_
      refine tg_steps 1 rfl ?_
      exact tg_iret (st := []) rfl rfl ⟨Nat.le_of_ble_eq_true rfl, Nat.le_of_ble_eq_true rfl⟩ (pQ_ok rfl (by first | (simp (decide := true) only [aCou, decide_true, decide_false, cond_true, cond_false, Bool.false_eq_true, if_true, if_false, ite_true, ite_false, h1_0, h1_1, h1_2, h1_3, h1_4, h1_5, h1_6, h1_7, h112, Int32.not_le.mp h112, h118, Int32.not_lt.mp h118, cj]; done) | (simp (decide := true) only [aCou, decide_true, decide_false, cond_true, cond_false, Bool.false_eq_true, if_true, if_false, ite_true, ite_false, h1_0, h1_1, h1_2, h1_3, h1_4, h1_5, h1_6, h1_7, h112, Int32.not_le.mp h112, h118, Int32.not_lt.mp h118, cj]; done) | (simp (decide := true) only [aCou, decide_true, decide_false, cond_true, cond_false, Bool.false_eq_true, if_true, if_false, ite_true, ite_false, h1_0, h1_1, h1_2, h1_3, h1_4, h1_5, h1_6, h1_7, h112, Int32.not_le.mp h112, h118, Int32.not_lt.mp h118, cj]; rfl) | rfl) (eqH_rf _) (eqH_rf _) ⟨rfl, rfl, rfl, rfl, rfl, rfl⟩)
