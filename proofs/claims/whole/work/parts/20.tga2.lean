/-! the public methods, continued -/
theorem w_bt (x : tp_X) (a b c d : tp_A) : yRc (ySt (yRc (ySt x a) b) c) d = yRc (ySt x c) d := rfl
set_option maxRecDepth 100000 in
set_option maxHeartbeats 2000000 in
theorem q_cutOff {G : tg_G} {n p t : tp_H} {x : tp_X} {r : List tg_Cl} (hm : hM n ≤ 7) (hw : wfH n) : tg_C G 3 mX10_cutOff 0 0 [.ref 0] (tp_cs n p t x, r) (pQ ((0 : Int32)) (.int ((0 : Int32))) (.int (aCut n)) n p x (n) (p) (x) r) := by
  refine tg_intro okX10_cutOff (Nat.le_of_ble_eq_true rfl) ?_
  refine tg_steps 4 rfl ?_
  refine tg_pkV [0, 1, 2] ?_
  refine tg_eqS (L2 := [(0, .ref 0), (1, .int (bI (fun i => decide (farD n (hT n i) (hS n) = -9)) (0))), (2, .int (nI (0)))]) (st2 := []) (w2 := (tp_cs n p t (yRc (ySt x (xSt x)) (xRc x)), r)) rfl rfl rfl ?_
  refine tg_down (φ := fun i : Nat => ∀ (f2 : tp_A) (g2 : tp_A), tg_V G 3 mX10_cutOff 0 0 0 0 (pQ ((0 : Int32)) (.int ((0 : Int32))) (.int (aCut n)) n p x (n) (p) (x) r) 4 [(0, .ref 0), (1, .int (bI (fun i => decide (farD n (hT n i) (hS n) = -9)) (i))), (2, .int (nI (i)))] [] (tp_cs n p t (yRc (ySt x f2) g2), r)) (n := hM n) ?_ ?_ 0 (Nat.zero_le _) _ _ 
  · intro f2 g2
    refine tg_steps 4 rfl ?_
    refine tg_icge rfl rfl (fun h12 => ?_) (fun h12 => ?_)
    · refine tg_steps 1 rfl ?_
      exact tg_iret (st := []) rfl rfl ⟨Nat.le_of_ble_eq_true rfl, Nat.le_of_ble_eq_true rfl⟩ (pQ_ok rfl rfl (eqH_rf _) (eqH_rf _) ⟨rfl, rfl, rfl, rfl, rfl, rfl⟩)
    · exact absurd (nI_le (Nat.le_refl _) (by omega)) h12
  · intro i hi4 ih4 f2 g2
    have ht := (hw.2.2 i hi4).1
    have gT : gO hT n (nI i) = hT n i := gO_nI hm hi4
    refine tg_steps 4 rfl ?_
    refine tg_icge rfl rfl (fun h12 => ?_) (fun h12 => ?_)
    · exact absurd h12 (nI_ge hi4 (by omega))
    · refine tg_steps 7 rfl ?_
      refine tg_callV rfl (c_tileOf_0 hm _) rfl rfl rfl rfl rfl (fun v28 w28 q28 => ?_)
      obtain ⟨rfl, rfl⟩ := q28
      rw [gT]
      refine tg_steps 3 rfl ?_
      refine tg_callV rfl (c_far ht hw.2.1) rfl rfl rfl rfl rfl (fun v38 w38 q38 => ?_)
      obtain ⟨rfl, f3, g3, rfl⟩ := q38
      rw [w_bt]
      refine tg_steps 1 rfl ?_
      refine tg_icne rfl rfl (fun h43 => ?_) (fun h43 => ?_)
      · refine tg_steps 2 rfl ?_
        refine tg_pkV [0, 1, 2] ?_
        refine tg_eqS (L2 := [(0, .ref 0), (1, .int (bI (fun i => decide (farD n (hT n i) (hS n) = -9)) (i + 1))), (2, .int (nI (i + 1)))]) (st2 := []) (w2 := _) (by first | rfl | (simp (decide := true) only [nI_succ, bI_succ, decide_true, decide_false, cond_true, cond_false, Bool.false_eq_true, if_true, if_false, ite_true, ite_false, h43]; done) | (simp (decide := true) only [nI_succ, bI_succ, decide_true, decide_false, cond_true, cond_false, Bool.false_eq_true, if_true, if_false, ite_true, ite_false, h43]; rfl)) rfl rfl ?_
        exact ih4 _ _
      · refine tg_steps 8 rfl ?_
        refine tg_pkV [0, 1, 2] ?_
        refine tg_eqS (L2 := [(0, .ref 0), (1, .int (bI (fun i => decide (farD n (hT n i) (hS n) = -9)) (i + 1))), (2, .int (nI (i + 1)))]) (st2 := []) (w2 := _) (by first | rfl | (simp (decide := true) only [nI_succ, bI_succ, decide_true, decide_false, cond_true, cond_false, Bool.false_eq_true, if_true, if_false, ite_true, ite_false, eq_true h43]; done) | (simp (decide := true) only [nI_succ, bI_succ, decide_true, decide_false, cond_true, cond_false, Bool.false_eq_true, if_true, if_false, ite_true, ite_false, eq_true h43]; rfl)) rfl rfl ?_
        exact ih4 _ _
set_option maxRecDepth 100000 in
set_option maxHeartbeats 2000000 in
theorem q_shipBest {G : tg_G} {n p t : tp_H} {x : tp_X} {r : List tg_Cl} (hm : hM n ≤ 7) (k : Int32) (what : Int32) : tg_C G 8 mX10_shipBest 0 0 [.ref 0, .int k, .int what] (tp_cs n p t x, r) (pQ (wUpW k 20 what) (.int (wUpW k 20 what)) (.int (aShB n k what)) n p x (n) (p) (x) r) := by
  refine tg_intro okX10_shipBest (Nat.le_of_ble_eq_true rfl) ?_
  refine tg_steps 2 rfl ?_
  refine tg_call1 rfl (c_isUpTo _ _) rfl rfl rfl  (fun v3 w3 q3 => ?_)
  obtain ⟨rfl, rfl⟩ := q3
  refine tg_ifbne rfl rfl (fun h6 => ?_) (fun h6 => ?_)
  · obtain ⟨j, hj, rfl⟩ := up_j (m := 20) rfl h6
    have cj : nN (nI j) = j := nI_clamp (by omega)
    refine tg_steps 2 rfl ?_
    refine tg_call1 rfl (c_isUpTo _ _) rfl rfl rfl  (fun v20 w20 q20 => ?_)
    obtain ⟨rfl, rfl⟩ := q20
    refine tg_ifbne rfl rfl (fun h23 => ?_) (fun h23 => ?_)
    · refine tg_steps 5 rfl ?_
      refine tg_callV rfl (c_bestShip hm j (by omega)) rfl rfl rfl rfl rfl (fun v42 w42 q42 => ?_)
      obtain ⟨rfl, t3, rfl⟩ := q42
      refine tg_steps 2 rfl ?_
      refine tg_ifne rfl rfl (fun h47 => ?_) (fun h47 => ?_)
      · refine tg_steps 6 rfl ?_
        refine tg_callV rfl (c_aboardWithShip hm _ j (by omega)) rfl rfl rfl rfl rfl (fun v64 w64 q64 => ?_)
        obtain ⟨rfl, t4, rfl⟩ := q64
        exact tg_iret (st := []) rfl rfl ⟨Nat.le_of_ble_eq_true rfl, Nat.le_of_ble_eq_true rfl⟩ (pQ_ok (by first | rfl | (simp (decide := true) only [wUpW, decide_true, decide_false, cond_true, cond_false, Bool.false_eq_true, if_true, if_false, ite_true, ite_false, h6, h23, h47]; done) | (simp (decide := true) only [wUpW, decide_true, decide_false, cond_true, cond_false, Bool.false_eq_true, if_true, if_false, ite_true, ite_false, h6, h23, h47]; done) | (simp (decide := true) only [wUpW, decide_true, decide_false, cond_true, cond_false, Bool.false_eq_true, if_true, if_false, ite_true, ite_false, h6, h23, h47]; rfl)) (by first | rfl | (simp (decide := true) only [aShB, shB, cj, decide_true, decide_false, cond_true, cond_false, Bool.false_eq_true, if_true, if_false, ite_true, ite_false, h6, h23, h47]; done) | (simp (decide := true) only [aShB, shB, cj, decide_true, decide_false, cond_true, cond_false, Bool.false_eq_true, if_true, if_false, ite_true, ite_false, h6, h23, h47]; done) | (simp (decide := true) only [aShB, shB, cj, decide_true, decide_false, cond_true, cond_false, Bool.false_eq_true, if_true, if_false, ite_true, ite_false, h6, h23, h47]; rfl)) (eqH_rf _) (eqH_rf _) ⟨rfl, rfl, rfl, rfl, rfl, rfl⟩)
      · refine tg_steps 2 rfl ?_
        exact tg_iret (st := []) rfl rfl ⟨Nat.le_of_ble_eq_true rfl, Nat.le_of_ble_eq_true rfl⟩ (pQ_ok (by first | rfl | (simp (decide := true) only [wUpW, decide_true, decide_false, cond_true, cond_false, Bool.false_eq_true, if_true, if_false, ite_true, ite_false, h6, h23, eq_true h47]; done) | (simp (decide := true) only [wUpW, decide_true, decide_false, cond_true, cond_false, Bool.false_eq_true, if_true, if_false, ite_true, ite_false, h6, h23, h47]; done) | (simp (decide := true) only [wUpW, decide_true, decide_false, cond_true, cond_false, Bool.false_eq_true, if_true, if_false, ite_true, ite_false, h6, h23, eq_true h47]; rfl)) (by first | rfl | (simp (decide := true) only [aShB, shB, cj, decide_true, decide_false, cond_true, cond_false, Bool.false_eq_true, if_true, if_false, ite_true, ite_false, h6, h23, eq_true h47]; done) | (simp (decide := true) only [aShB, shB, cj, decide_true, decide_false, cond_true, cond_false, Bool.false_eq_true, if_true, if_false, ite_true, ite_false, h6, h23, h47]; done) | (simp (decide := true) only [aShB, shB, cj, decide_true, decide_false, cond_true, cond_false, Bool.false_eq_true, if_true, if_false, ite_true, ite_false, h6, h23, eq_true h47]; rfl)) (eqH_rf _) (eqH_rf _) ⟨rfl, rfl, rfl, rfl, rfl, rfl⟩)
    · refine tg_steps 2 rfl ?_
      refine tg_callV rfl (c_refuse (-2) (by decide)) rfl rfl rfl rfl rfl (fun v29 w29 q29 => ?_)
      obtain ⟨rfl, rfl⟩ := q29
      exact tg_iret (st := []) rfl rfl ⟨Nat.le_of_ble_eq_true rfl, Nat.le_of_ble_eq_true rfl⟩ (pQ_refI (by first | rfl | (simp (decide := true) only [wUpW, decide_true, decide_false, cond_true, cond_false, Bool.false_eq_true, if_true, if_false, ite_true, ite_false, h6, h23]; done) | (simp (decide := true) only [wUpW, decide_true, decide_false, cond_true, cond_false, Bool.false_eq_true, if_true, if_false, ite_true, ite_false, h6, h23]; done) | (simp (decide := true) only [wUpW, decide_true, decide_false, cond_true, cond_false, Bool.false_eq_true, if_true, if_false, ite_true, ite_false, h6, h23]; rfl)) (by first | decide | exact rf_bor _))
  · refine tg_steps 2 rfl ?_
    refine tg_call1 rfl (c_bor _) rfl rfl rfl  (fun v11 w11 q11 => ?_)
    obtain ⟨rfl, rfl⟩ := q11
    refine tg_callV rfl (c_refuse _ (rf_bor _)) rfl rfl rfl rfl rfl (fun v14 w14 q14 => ?_)
    obtain ⟨rfl, rfl⟩ := q14
    exact tg_iret (st := []) rfl rfl ⟨Nat.le_of_ble_eq_true rfl, Nat.le_of_ble_eq_true rfl⟩ (pQ_refI (by first | rfl | (simp (decide := true) only [wUpW, decide_true, decide_false, cond_true, cond_false, Bool.false_eq_true, if_true, if_false, ite_true, ite_false, h6]; done) | (simp (decide := true) only [wUpW, decide_true, decide_false, cond_true, cond_false, Bool.false_eq_true, if_true, if_false, ite_true, ite_false, h6]; done) | (simp (decide := true) only [wUpW, decide_true, decide_false, cond_true, cond_false, Bool.false_eq_true, if_true, if_false, ite_true, ite_false, h6]; rfl)) (by first | decide | exact rf_bor _))
set_option maxRecDepth 100000 in
set_option maxHeartbeats 2000000 in
theorem q_mend {G : tg_G} {n p t : tp_H} {x : tp_X} {r : List tg_Cl} (hm : hM n ≤ 7) (k : Int32) (what : Int32) : tg_C G 8 mX10_mend 0 0 [.ref 0, .int k, .int what] (tp_cs n p t x, r) (pQ (wUpW k 20 what) (.int (wUpW k 20 what)) (.int (aMen n k what)) n p x (n) (p) (x) r) := by
  refine tg_intro okX10_mend (Nat.le_of_ble_eq_true rfl) ?_
  refine tg_steps 2 rfl ?_
  refine tg_call1 rfl (c_isUpTo _ _) rfl rfl rfl  (fun v3 w3 q3 => ?_)
  obtain ⟨rfl, rfl⟩ := q3
  refine tg_ifbne rfl rfl (fun h6 => ?_) (fun h6 => ?_)
  · obtain ⟨j, hj, rfl⟩ := up_j (m := 20) rfl h6
    have cj : nN (nI j) = j := nI_clamp (by omega)
    refine tg_steps 2 rfl ?_
    refine tg_call1 rfl (c_isUpTo _ _) rfl rfl rfl  (fun v20 w20 q20 => ?_)
    obtain ⟨rfl, rfl⟩ := q20
    refine tg_ifbne rfl rfl (fun h23 => ?_) (fun h23 => ?_)
    · refine tg_steps 1 rfl ?_
      refine tg_ifne rfl rfl (fun h34 => ?_) (fun h34 => ?_)
      · refine tg_steps 5 rfl ?_
        refine tg_callV rfl (c_bestSpoilt hm j (by omega)) rfl rfl rfl rfl rfl (fun v61 w61 q61 => ?_)
        obtain ⟨rfl, t3, rfl⟩ := q61
        exact tg_iret (st := []) rfl rfl ⟨Nat.le_of_ble_eq_true rfl, Nat.le_of_ble_eq_true rfl⟩ (pQ_ok (by first | rfl | (simp (decide := true) only [wUpW, decide_true, decide_false, cond_true, cond_false, Bool.false_eq_true, if_true, if_false, ite_true, ite_false, h6, h23, h34]; done) | (simp (decide := true) only [wUpW, decide_true, decide_false, cond_true, cond_false, Bool.false_eq_true, if_true, if_false, ite_true, ite_false, h6, h23, h34]; done) | (simp (decide := true) only [wUpW, decide_true, decide_false, cond_true, cond_false, Bool.false_eq_true, if_true, if_false, ite_true, ite_false, h6, h23, h34]; rfl)) (by first | rfl | (simp (decide := true) only [aMen, meB, spB, cj, decide_true, decide_false, cond_true, cond_false, Bool.false_eq_true, if_true, if_false, ite_true, ite_false, h6, h23, h34]; done) | (simp (decide := true) only [aMen, meB, spB, cj, decide_true, decide_false, cond_true, cond_false, Bool.false_eq_true, if_true, if_false, ite_true, ite_false, h6, h23, h34]; done) | (simp (decide := true) only [aMen, meB, spB, cj, decide_true, decide_false, cond_true, cond_false, Bool.false_eq_true, if_true, if_false, ite_true, ite_false, h6, h23, h34]; rfl)) (eqH_rf _) (eqH_rf _) ⟨rfl, rfl, rfl, rfl, rfl, rfl⟩)
      · refine tg_steps 5 rfl ?_
        refine tg_callV rfl (c_bestMended hm j (by omega)) rfl rfl rfl rfl rfl (fun v46 w46 q46 => ?_)
        obtain ⟨rfl, t3, rfl⟩ := q46
        refine tg_steps 1 rfl ?_
        exact tg_iret (st := []) rfl rfl ⟨Nat.le_of_ble_eq_true rfl, Nat.le_of_ble_eq_true rfl⟩ (pQ_ok (by first | rfl | (simp (decide := true) only [wUpW, decide_true, decide_false, cond_true, cond_false, Bool.false_eq_true, if_true, if_false, ite_true, ite_false, h6, h23, eq_true h34]; done) | (simp (decide := true) only [wUpW, decide_true, decide_false, cond_true, cond_false, Bool.false_eq_true, if_true, if_false, ite_true, ite_false, h6, h23, h34]; done) | (simp (decide := true) only [wUpW, decide_true, decide_false, cond_true, cond_false, Bool.false_eq_true, if_true, if_false, ite_true, ite_false, h6, h23, eq_true h34]; rfl)) (by first | rfl | (simp (decide := true) only [aMen, meB, spB, cj, decide_true, decide_false, cond_true, cond_false, Bool.false_eq_true, if_true, if_false, ite_true, ite_false, h6, h23, eq_true h34]; done) | (simp (decide := true) only [aMen, meB, spB, cj, decide_true, decide_false, cond_true, cond_false, Bool.false_eq_true, if_true, if_false, ite_true, ite_false, h6, h23, h34]; done) | (simp (decide := true) only [aMen, meB, spB, cj, decide_true, decide_false, cond_true, cond_false, Bool.false_eq_true, if_true, if_false, ite_true, ite_false, h6, h23, eq_true h34]; rfl)) (eqH_rf _) (eqH_rf _) ⟨rfl, rfl, rfl, rfl, rfl, rfl⟩)
    · refine tg_steps 2 rfl ?_
      refine tg_callV rfl (c_refuse (-2) (by decide)) rfl rfl rfl rfl rfl (fun v29 w29 q29 => ?_)
      obtain ⟨rfl, rfl⟩ := q29
      exact tg_iret (st := []) rfl rfl ⟨Nat.le_of_ble_eq_true rfl, Nat.le_of_ble_eq_true rfl⟩ (pQ_refI (by first | rfl | (simp (decide := true) only [wUpW, decide_true, decide_false, cond_true, cond_false, Bool.false_eq_true, if_true, if_false, ite_true, ite_false, h6, h23]; done) | (simp (decide := true) only [wUpW, decide_true, decide_false, cond_true, cond_false, Bool.false_eq_true, if_true, if_false, ite_true, ite_false, h6, h23]; done) | (simp (decide := true) only [wUpW, decide_true, decide_false, cond_true, cond_false, Bool.false_eq_true, if_true, if_false, ite_true, ite_false, h6, h23]; rfl)) (by first | decide | exact rf_bor _))
  · refine tg_steps 2 rfl ?_
    refine tg_call1 rfl (c_bor _) rfl rfl rfl  (fun v11 w11 q11 => ?_)
    obtain ⟨rfl, rfl⟩ := q11
    refine tg_callV rfl (c_refuse _ (rf_bor _)) rfl rfl rfl rfl rfl (fun v14 w14 q14 => ?_)
    obtain ⟨rfl, rfl⟩ := q14
    exact tg_iret (st := []) rfl rfl ⟨Nat.le_of_ble_eq_true rfl, Nat.le_of_ble_eq_true rfl⟩ (pQ_refI (by first | rfl | (simp (decide := true) only [wUpW, decide_true, decide_false, cond_true, cond_false, Bool.false_eq_true, if_true, if_false, ite_true, ite_false, h6]; done) | (simp (decide := true) only [wUpW, decide_true, decide_false, cond_true, cond_false, Bool.false_eq_true, if_true, if_false, ite_true, ite_false, h6]; done) | (simp (decide := true) only [wUpW, decide_true, decide_false, cond_true, cond_false, Bool.false_eq_true, if_true, if_false, ite_true, ite_false, h6]; rfl)) (by first | decide | exact rf_bor _))
set_option maxRecDepth 100000 in
set_option maxHeartbeats 2000000 in
theorem q_pin {G : tg_G} {n p t : tp_H} {x : tp_X} {r : List tg_Cl} (hm : hM n ≤ 7) (k : Int32) : tg_C G 8 mX10_pin 0 0 [.ref 0, .int k] (tp_cs n p t x, r) (pQ (wUp k 20) (.int (wUp k 20)) (.int (aPin n k)) n p x (n) (p) (x) r) := by
  refine tg_intro okX10_pin (Nat.le_of_ble_eq_true rfl) ?_
  refine tg_steps 2 rfl ?_
  refine tg_call1 rfl (c_isUpTo _ _) rfl rfl rfl  (fun v3 w3 q3 => ?_)
  obtain ⟨rfl, rfl⟩ := q3
  refine tg_ifbne rfl rfl (fun h6 => ?_) (fun h6 => ?_)
  · obtain ⟨j, hj, rfl⟩ := up_j (m := 20) rfl h6
    have cj : nN (nI j) = j := nI_clamp (by omega)
    refine tg_steps 5 rfl ?_
    refine tg_callV rfl (c_bestPinned hm j (by omega)) rfl rfl rfl rfl rfl (fun v27 w27 q27 => ?_)
    obtain ⟨rfl, t3, rfl⟩ := q27
    exact tg_iret (st := []) rfl rfl ⟨Nat.le_of_ble_eq_true rfl, Nat.le_of_ble_eq_true rfl⟩ (pQ_ok (by first | rfl | (simp (decide := true) only [wUp, decide_true, decide_false, cond_true, cond_false, Bool.false_eq_true, if_true, if_false, ite_true, ite_false, h6]; done) | (simp (decide := true) only [wUp, decide_true, decide_false, cond_true, cond_false, Bool.false_eq_true, if_true, if_false, ite_true, ite_false, h6]; done) | (simp (decide := true) only [wUp, decide_true, decide_false, cond_true, cond_false, Bool.false_eq_true, if_true, if_false, ite_true, ite_false, h6]; rfl)) (by first | rfl | (simp (decide := true) only [aPin, cj, decide_true, decide_false, cond_true, cond_false, Bool.false_eq_true, if_true, if_false, ite_true, ite_false, h6]; done) | (simp (decide := true) only [aPin, cj, decide_true, decide_false, cond_true, cond_false, Bool.false_eq_true, if_true, if_false, ite_true, ite_false, h6]; done) | (simp (decide := true) only [aPin, cj, decide_true, decide_false, cond_true, cond_false, Bool.false_eq_true, if_true, if_false, ite_true, ite_false, h6]; rfl)) (eqH_rf _) (eqH_rf _) ⟨rfl, rfl, rfl, rfl, rfl, rfl⟩)
  · refine tg_steps 2 rfl ?_
    refine tg_call1 rfl (c_bor _) rfl rfl rfl  (fun v11 w11 q11 => ?_)
    obtain ⟨rfl, rfl⟩ := q11
    refine tg_callV rfl (c_refuse _ (rf_bor _)) rfl rfl rfl rfl rfl (fun v14 w14 q14 => ?_)
    obtain ⟨rfl, rfl⟩ := q14
    exact tg_iret (st := []) rfl rfl ⟨Nat.le_of_ble_eq_true rfl, Nat.le_of_ble_eq_true rfl⟩ (pQ_refI (by first | rfl | (simp (decide := true) only [wUp, decide_true, decide_false, cond_true, cond_false, Bool.false_eq_true, if_true, if_false, ite_true, ite_false, h6]; done) | (simp (decide := true) only [wUp, decide_true, decide_false, cond_true, cond_false, Bool.false_eq_true, if_true, if_false, ite_true, ite_false, h6]; done) | (simp (decide := true) only [wUp, decide_true, decide_false, cond_true, cond_false, Bool.false_eq_true, if_true, if_false, ite_true, ite_false, h6]; rfl)) (by first | decide | exact rf_bor _))
set_option maxRecDepth 100000 in
set_option maxHeartbeats 2000000 in
theorem q_fewest {G : tg_G} {n p t : tp_H} {x : tp_X} {r : List tg_Cl} (hm : hM n ≤ 7) (k : Int32) : tg_C G 8 mX10_fewest 0 0 [.ref 0, .int k] (tp_cs n p t x, r) (pQ (wUp k 9) (.int (wUp k 9)) (.int (aFew n k)) n p x (n) (p) (x) r) := by
  refine tg_intro okX10_fewest (Nat.le_of_ble_eq_true rfl) ?_
  refine tg_steps 2 rfl ?_
  refine tg_call1 rfl (c_isUpTo _ _) rfl rfl rfl  (fun v3 w3 q3 => ?_)
  obtain ⟨rfl, rfl⟩ := q3
  refine tg_ifbne rfl rfl (fun h6 => ?_) (fun h6 => ?_)
  · obtain ⟨j, hj, rfl⟩ := up_j (m := 9) rfl h6
    have cj : nN (nI j) = j := nI_clamp (by omega)
    refine tg_steps 5 rfl ?_
    refine tg_callV rfl (c_fewestPinned hm j (by omega)) rfl rfl rfl rfl rfl (fun v27 w27 q27 => ?_)
    obtain ⟨rfl, t3, rfl⟩ := q27
    exact tg_iret (st := []) rfl rfl ⟨Nat.le_of_ble_eq_true rfl, Nat.le_of_ble_eq_true rfl⟩ (pQ_ok (by first | rfl | (simp (decide := true) only [wUp, decide_true, decide_false, cond_true, cond_false, Bool.false_eq_true, if_true, if_false, ite_true, ite_false, h6]; done) | (simp (decide := true) only [wUp, decide_true, decide_false, cond_true, cond_false, Bool.false_eq_true, if_true, if_false, ite_true, ite_false, h6]; done) | (simp (decide := true) only [wUp, decide_true, decide_false, cond_true, cond_false, Bool.false_eq_true, if_true, if_false, ite_true, ite_false, h6]; rfl)) (by first | rfl | (simp (decide := true) only [aFew, cj, decide_true, decide_false, cond_true, cond_false, Bool.false_eq_true, if_true, if_false, ite_true, ite_false, h6]; done) | (simp (decide := true) only [aFew, cj, decide_true, decide_false, cond_true, cond_false, Bool.false_eq_true, if_true, if_false, ite_true, ite_false, h6]; done) | (simp (decide := true) only [aFew, cj, decide_true, decide_false, cond_true, cond_false, Bool.false_eq_true, if_true, if_false, ite_true, ite_false, h6]; rfl)) (eqH_rf _) (eqH_rf _) ⟨rfl, rfl, rfl, rfl, rfl, rfl⟩)
  · refine tg_steps 2 rfl ?_
    refine tg_call1 rfl (c_bor _) rfl rfl rfl  (fun v11 w11 q11 => ?_)
    obtain ⟨rfl, rfl⟩ := q11
    refine tg_callV rfl (c_refuse _ (rf_bor _)) rfl rfl rfl rfl rfl (fun v14 w14 q14 => ?_)
    obtain ⟨rfl, rfl⟩ := q14
    exact tg_iret (st := []) rfl rfl ⟨Nat.le_of_ble_eq_true rfl, Nat.le_of_ble_eq_true rfl⟩ (pQ_refI (by first | rfl | (simp (decide := true) only [wUp, decide_true, decide_false, cond_true, cond_false, Bool.false_eq_true, if_true, if_false, ite_true, ite_false, h6]; done) | (simp (decide := true) only [wUp, decide_true, decide_false, cond_true, cond_false, Bool.false_eq_true, if_true, if_false, ite_true, ite_false, h6]; done) | (simp (decide := true) only [wUp, decide_true, decide_false, cond_true, cond_false, Bool.false_eq_true, if_true, if_false, ite_true, ite_false, h6]; rfl)) (by first | decide | exact rf_bor _))
set_option maxRecDepth 100000 in
set_option maxHeartbeats 2000000 in
theorem q_bestKind {G : tg_G} {n p t : tp_H} {x : tp_X} {r : List tg_Cl} (hm : hM n ≤ 7) (one : Int32) (what : Int32) : tg_C G 7 mX10_bestKind 0 0 [.ref 0, .int one, .int what] (tp_cs n p t x, r) (pQ (wHaW n one what) (.int (wHaW n one what)) (.int (aBes n one what)) n p x (n) (p) (x) r) := by
  refine tg_intro okX10_bestKind (Nat.le_of_ble_eq_true rfl) ?_
  refine tg_steps 3 rfl ?_
  refine tg_callV rfl (c_has_0 _) rfl rfl rfl rfl rfl (fun v5 w5 q5 => ?_)
  obtain ⟨rfl, rfl⟩ := q5
  refine tg_ifbne rfl rfl (fun h8 => ?_) (fun h8 => ?_)
  · refine tg_steps 2 rfl ?_
    refine tg_call1 rfl (c_isUpTo _ _) rfl rfl rfl  (fun v19 w19 q19 => ?_)
    obtain ⟨rfl, rfl⟩ := q19
    refine tg_ifbne rfl rfl (fun h22 => ?_) (fun h22 => ?_)
    · refine tg_steps 5 rfl ?_
      refine tg_callV rfl (c_soonestKind hm _) rfl rfl rfl rfl rfl (fun v41 w41 q41 => ?_)
      obtain ⟨rfl, t3, rfl⟩ := q41
      refine tg_steps 2 rfl ?_
      refine tg_ifne rfl rfl (fun h46 => ?_) (fun h46 => ?_)
      · refine tg_steps 6 rfl ?_
        refine tg_callV rfl (c_soonestAs hm _ _) rfl rfl rfl rfl rfl (fun v61 w61 q61 => ?_)
        obtain ⟨rfl, t4, rfl⟩ := q61
        refine tg_steps 3 rfl ?_
        refine tg_icle rfl rfl (fun h70 => ?_) (fun h70 => ?_)
        · refine tg_steps 1 rfl ?_
          exact tg_iret (st := []) rfl rfl ⟨Nat.le_of_ble_eq_true rfl, Nat.le_of_ble_eq_true rfl⟩ (pQ_ok (by first | rfl | (simp (decide := true) only [wHaW, decide_true, decide_false, cond_true, cond_false, Bool.false_eq_true, if_true, if_false, ite_true, ite_false, h8, h22, h46, h70, Int32.not_lt.mpr h70]; done) | (simp (decide := true) only [wHaW, decide_true, decide_false, cond_true, cond_false, Bool.false_eq_true, if_true, if_false, ite_true, ite_false, h8, h22, h46, h70, Int32.not_lt.mpr h70]; done) | (simp (decide := true) only [wHaW, decide_true, decide_false, cond_true, cond_false, Bool.false_eq_true, if_true, if_false, ite_true, ite_false, h8, h22, h46, h70, Int32.not_lt.mpr h70]; rfl)) (by first | rfl | (simp (decide := true) only [aBes, soK, decide_true, decide_false, cond_true, cond_false, Bool.false_eq_true, if_true, if_false, ite_true, ite_false, h8, h22, h46, h70, Int32.not_lt.mpr h70]; done) | (simp (decide := true) only [aBes, soK, decide_true, decide_false, cond_true, cond_false, Bool.false_eq_true, if_true, if_false, ite_true, ite_false, h8, h22, h46, h70, Int32.not_lt.mpr h70]; done) | (simp (decide := true) only [aBes, soK, decide_true, decide_false, cond_true, cond_false, Bool.false_eq_true, if_true, if_false, ite_true, ite_false, h8, h22, h46, h70, Int32.not_lt.mpr h70]; rfl)) (eqH_rf _) (eqH_rf _) ⟨rfl, rfl, rfl, rfl, rfl, rfl⟩)
        · refine tg_steps 2 rfl ?_
          exact tg_iret (st := []) rfl rfl ⟨Nat.le_of_ble_eq_true rfl, Nat.le_of_ble_eq_true rfl⟩ (pQ_ok (by first | rfl | (simp (decide := true) only [wHaW, decide_true, decide_false, cond_true, cond_false, Bool.false_eq_true, if_true, if_false, ite_true, ite_false, h8, h22, h46, h70, Int32.not_le.mp h70]; done) | (simp (decide := true) only [wHaW, decide_true, decide_false, cond_true, cond_false, Bool.false_eq_true, if_true, if_false, ite_true, ite_false, h8, h22, h46, h70, Int32.not_le.mp h70]; done) | (simp (decide := true) only [wHaW, decide_true, decide_false, cond_true, cond_false, Bool.false_eq_true, if_true, if_false, ite_true, ite_false, h8, h22, h46, h70, Int32.not_le.mp h70]; rfl)) (by first | rfl | (simp (decide := true) only [aBes, soK, decide_true, decide_false, cond_true, cond_false, Bool.false_eq_true, if_true, if_false, ite_true, ite_false, h8, h22, h46, h70, Int32.not_le.mp h70]; done) | (simp (decide := true) only [aBes, soK, decide_true, decide_false, cond_true, cond_false, Bool.false_eq_true, if_true, if_false, ite_true, ite_false, h8, h22, h46, h70, Int32.not_le.mp h70]; done) | (simp (decide := true) only [aBes, soK, decide_true, decide_false, cond_true, cond_false, Bool.false_eq_true, if_true, if_false, ite_true, ite_false, h8, h22, h46, h70, Int32.not_le.mp h70]; rfl)) (eqH_rf _) (eqH_rf _) ⟨rfl, rfl, rfl, rfl, rfl, rfl⟩)
      · refine tg_steps 1 rfl ?_
        exact tg_iret (st := []) rfl rfl ⟨Nat.le_of_ble_eq_true rfl, Nat.le_of_ble_eq_true rfl⟩ (pQ_ok (by first | rfl | (simp (decide := true) only [wHaW, decide_true, decide_false, cond_true, cond_false, Bool.false_eq_true, if_true, if_false, ite_true, ite_false, h8, h22, eq_true h46]; done) | (simp (decide := true) only [wHaW, decide_true, decide_false, cond_true, cond_false, Bool.false_eq_true, if_true, if_false, ite_true, ite_false, h8, h22, h46]; done) | (simp (decide := true) only [wHaW, decide_true, decide_false, cond_true, cond_false, Bool.false_eq_true, if_true, if_false, ite_true, ite_false, h8, h22, eq_true h46]; rfl)) (by first | rfl | (simp (decide := true) only [aBes, soK, decide_true, decide_false, cond_true, cond_false, Bool.false_eq_true, if_true, if_false, ite_true, ite_false, h8, h22, eq_true h46]; done) | (simp (decide := true) only [aBes, soK, decide_true, decide_false, cond_true, cond_false, Bool.false_eq_true, if_true, if_false, ite_true, ite_false, h8, h22, h46]; done) | (simp (decide := true) only [aBes, soK, decide_true, decide_false, cond_true, cond_false, Bool.false_eq_true, if_true, if_false, ite_true, ite_false, h8, h22, eq_true h46]; rfl)) (eqH_rf _) (eqH_rf _) ⟨rfl, rfl, rfl, rfl, rfl, rfl⟩)
    · refine tg_steps 2 rfl ?_
      refine tg_callV rfl (c_refuse (-2) (by decide)) rfl rfl rfl rfl rfl (fun v28 w28 q28 => ?_)
      obtain ⟨rfl, rfl⟩ := q28
      exact tg_iret (st := []) rfl rfl ⟨Nat.le_of_ble_eq_true rfl, Nat.le_of_ble_eq_true rfl⟩ (pQ_refI (by first | rfl | (simp (decide := true) only [wHaW, decide_true, decide_false, cond_true, cond_false, Bool.false_eq_true, if_true, if_false, ite_true, ite_false, h8, h22]; done) | (simp (decide := true) only [wHaW, decide_true, decide_false, cond_true, cond_false, Bool.false_eq_true, if_true, if_false, ite_true, ite_false, h8, h22]; done) | (simp (decide := true) only [wHaW, decide_true, decide_false, cond_true, cond_false, Bool.false_eq_true, if_true, if_false, ite_true, ite_false, h8, h22]; rfl)) (by first | decide | exact rf_bor _))
  · refine tg_steps 2 rfl ?_
    refine tg_callV rfl (c_refuse (-1) (by decide)) rfl rfl rfl rfl rfl (fun v13 w13 q13 => ?_)
    obtain ⟨rfl, rfl⟩ := q13
    exact tg_iret (st := []) rfl rfl ⟨Nat.le_of_ble_eq_true rfl, Nat.le_of_ble_eq_true rfl⟩ (pQ_refI (by first | rfl | (simp (decide := true) only [wHaW, decide_true, decide_false, cond_true, cond_false, Bool.false_eq_true, if_true, if_false, ite_true, ite_false, h8]; done) | (simp (decide := true) only [wHaW, decide_true, decide_false, cond_true, cond_false, Bool.false_eq_true, if_true, if_false, ite_true, ite_false, h8]; done) | (simp (decide := true) only [wHaW, decide_true, decide_false, cond_true, cond_false, Bool.false_eq_true, if_true, if_false, ite_true, ite_false, h8]; rfl)) (by first | decide | exact rf_bor _))
set_option maxRecDepth 100000 in
set_option maxHeartbeats 2000000 in
theorem q_crowd {G : tg_G} {n p t : tp_H} {x : tp_X} {r : List tg_Cl} (hm : hM n ≤ 7) (what : Int32) : tg_C G 4 mX10_crowd 0 0 [.ref 0, .int what] (tp_cs n p t x, r) (pQ (wCro what) (.int (wCro what)) (.int (aCro n what)) n p x (n) (p) (x) r) := by
  refine tg_intro okX10_crowd (Nat.le_of_ble_eq_true rfl) ?_
  refine tg_steps 1 rfl ?_
  refine tg_tsw rfl ?_
  refine And.intro (fun h1_0 => ?_) (fun h1_0 => ?_)
  · refine tg_steps 2 rfl ?_
    refine tg_callV rfl (c_fullestTile_0 hm) rfl rfl rfl rfl rfl (fun v48 w48 q48 => ?_)
    obtain ⟨rfl, rfl⟩ := q48
    exact tg_iret (st := []) rfl rfl ⟨Nat.le_of_ble_eq_true rfl, Nat.le_of_ble_eq_true rfl⟩ (pQ_ok (by first | rfl | (simp (decide := true) only [wCro, decide_true, decide_false, cond_true, cond_false, Bool.false_eq_true, if_true, if_false, ite_true, ite_false, eq_true h1_0]; done) | (simp (decide := true) only [wCro, decide_true, decide_false, cond_true, cond_false, Bool.false_eq_true, if_true, if_false, ite_true, ite_false, h1_0]; done) | (simp (decide := true) only [wCro, decide_true, decide_false, cond_true, cond_false, Bool.false_eq_true, if_true, if_false, ite_true, ite_false, eq_true h1_0]; rfl)) (by first | rfl | (simp (decide := true) only [aCro, decide_true, decide_false, cond_true, cond_false, Bool.false_eq_true, if_true, if_false, ite_true, ite_false, eq_true h1_0]; done) | (simp (decide := true) only [aCro, decide_true, decide_false, cond_true, cond_false, Bool.false_eq_true, if_true, if_false, ite_true, ite_false, h1_0]; done) | (simp (decide := true) only [aCro, decide_true, decide_false, cond_true, cond_false, Bool.false_eq_true, if_true, if_false, ite_true, ite_false, eq_true h1_0]; rfl)) (eqH_rf _) (eqH_rf _) ⟨rfl, rfl, rfl, rfl, rfl, rfl⟩)
  refine And.intro (fun h1_1 => ?_) (fun h1_1 => ?_)
  · refine tg_steps 4 rfl ?_
    refine tg_callV rfl (c_fullestTile_0 hm) rfl rfl rfl rfl rfl (fun v60 w60 q60 => ?_)
    obtain ⟨rfl, rfl⟩ := q60
    refine tg_callV rfl (c_onesAt_0 hm _) rfl rfl rfl rfl rfl (fun v63 w63 q63 => ?_)
    obtain ⟨rfl, rfl⟩ := q63
    refine tg_call1 rfl (c_bitCount _) rfl rfl rfl  (fun v66 w66 q66 => ?_)
    obtain ⟨rfl, rfl⟩ := q66
    exact tg_iret (st := []) rfl rfl ⟨Nat.le_of_ble_eq_true rfl, Nat.le_of_ble_eq_true rfl⟩ (pQ_ok (by first | rfl | (simp (decide := true) only [wCro, decide_true, decide_false, cond_true, cond_false, Bool.false_eq_true, if_true, if_false, ite_true, ite_false, h1_0, eq_true h1_1]; done) | (simp (decide := true) only [wCro, decide_true, decide_false, cond_true, cond_false, Bool.false_eq_true, if_true, if_false, ite_true, ite_false, h1_0, h1_1]; done) | (simp (decide := true) only [wCro, decide_true, decide_false, cond_true, cond_false, Bool.false_eq_true, if_true, if_false, ite_true, ite_false, h1_0, eq_true h1_1]; rfl)) (by first | rfl | (simp (decide := true) only [aCro, decide_true, decide_false, cond_true, cond_false, Bool.false_eq_true, if_true, if_false, ite_true, ite_false, h1_0, eq_true h1_1]; done) | (simp (decide := true) only [aCro, decide_true, decide_false, cond_true, cond_false, Bool.false_eq_true, if_true, if_false, ite_true, ite_false, h1_0, h1_1]; done) | (simp (decide := true) only [aCro, decide_true, decide_false, cond_true, cond_false, Bool.false_eq_true, if_true, if_false, ite_true, ite_false, h1_0, eq_true h1_1]; rfl)) (eqH_rf _) (eqH_rf _) ⟨rfl, rfl, rfl, rfl, rfl, rfl⟩)
  refine And.intro (fun h1_2 => ?_) (fun h1_2 => ?_)
  · refine tg_steps 2 rfl ?_
    refine tg_callV rfl (c_homeMany_0 hm) rfl rfl rfl rfl rfl (fun v74 w74 q74 => ?_)
    obtain ⟨rfl, rfl⟩ := q74
    exact tg_iret (st := []) rfl rfl ⟨Nat.le_of_ble_eq_true rfl, Nat.le_of_ble_eq_true rfl⟩ (pQ_ok (by first | rfl | (simp (decide := true) only [wCro, decide_true, decide_false, cond_true, cond_false, Bool.false_eq_true, if_true, if_false, ite_true, ite_false, h1_0, h1_1, eq_true h1_2]; done) | (simp (decide := true) only [wCro, decide_true, decide_false, cond_true, cond_false, Bool.false_eq_true, if_true, if_false, ite_true, ite_false, h1_0, h1_1, h1_2]; done) | (simp (decide := true) only [wCro, decide_true, decide_false, cond_true, cond_false, Bool.false_eq_true, if_true, if_false, ite_true, ite_false, h1_0, h1_1, eq_true h1_2]; rfl)) (by first | rfl | (simp (decide := true) only [aCro, decide_true, decide_false, cond_true, cond_false, Bool.false_eq_true, if_true, if_false, ite_true, ite_false, h1_0, h1_1, eq_true h1_2]; done) | (simp (decide := true) only [aCro, decide_true, decide_false, cond_true, cond_false, Bool.false_eq_true, if_true, if_false, ite_true, ite_false, h1_0, h1_1, h1_2]; done) | (simp (decide := true) only [aCro, decide_true, decide_false, cond_true, cond_false, Bool.false_eq_true, if_true, if_false, ite_true, ite_false, h1_0, h1_1, eq_true h1_2]; rfl)) (eqH_rf _) (eqH_rf _) ⟨rfl, rfl, rfl, rfl, rfl, rfl⟩)
  refine And.intro (fun h1_3 => ?_) (fun h1_3 => ?_)
  · refine tg_steps 2 rfl ?_
    refine tg_callV rfl (c_lostMany_0 hm) rfl rfl rfl rfl rfl (fun v82 w82 q82 => ?_)
    obtain ⟨rfl, rfl⟩ := q82
    exact tg_iret (st := []) rfl rfl ⟨Nat.le_of_ble_eq_true rfl, Nat.le_of_ble_eq_true rfl⟩ (pQ_ok (by first | rfl | (simp (decide := true) only [wCro, decide_true, decide_false, cond_true, cond_false, Bool.false_eq_true, if_true, if_false, ite_true, ite_false, h1_0, h1_1, h1_2, eq_true h1_3]; done) | (simp (decide := true) only [wCro, decide_true, decide_false, cond_true, cond_false, Bool.false_eq_true, if_true, if_false, ite_true, ite_false, h1_0, h1_1, h1_2, h1_3]; done) | (simp (decide := true) only [wCro, decide_true, decide_false, cond_true, cond_false, Bool.false_eq_true, if_true, if_false, ite_true, ite_false, h1_0, h1_1, h1_2, eq_true h1_3]; rfl)) (by first | rfl | (simp (decide := true) only [aCro, decide_true, decide_false, cond_true, cond_false, Bool.false_eq_true, if_true, if_false, ite_true, ite_false, h1_0, h1_1, h1_2, eq_true h1_3]; done) | (simp (decide := true) only [aCro, decide_true, decide_false, cond_true, cond_false, Bool.false_eq_true, if_true, if_false, ite_true, ite_false, h1_0, h1_1, h1_2, h1_3]; done) | (simp (decide := true) only [aCro, decide_true, decide_false, cond_true, cond_false, Bool.false_eq_true, if_true, if_false, ite_true, ite_false, h1_0, h1_1, h1_2, eq_true h1_3]; rfl)) (eqH_rf _) (eqH_rf _) ⟨rfl, rfl, rfl, rfl, rfl, rfl⟩)
  refine And.intro (fun h1_4 => ?_) (fun h1_4 => ?_)
  · refine tg_steps 2 rfl ?_
    refine tg_callV rfl (c_pinnedMany_0 hm) rfl rfl rfl rfl rfl (fun v90 w90 q90 => ?_)
    obtain ⟨rfl, rfl⟩ := q90
    exact tg_iret (st := []) rfl rfl ⟨Nat.le_of_ble_eq_true rfl, Nat.le_of_ble_eq_true rfl⟩ (pQ_ok (by first | rfl | (simp (decide := true) only [wCro, decide_true, decide_false, cond_true, cond_false, Bool.false_eq_true, if_true, if_false, ite_true, ite_false, h1_0, h1_1, h1_2, h1_3, eq_true h1_4]; done) | (simp (decide := true) only [wCro, decide_true, decide_false, cond_true, cond_false, Bool.false_eq_true, if_true, if_false, ite_true, ite_false, h1_0, h1_1, h1_2, h1_3, h1_4]; done) | (simp (decide := true) only [wCro, decide_true, decide_false, cond_true, cond_false, Bool.false_eq_true, if_true, if_false, ite_true, ite_false, h1_0, h1_1, h1_2, h1_3, eq_true h1_4]; rfl)) (by first | rfl | (simp (decide := true) only [aCro, decide_true, decide_false, cond_true, cond_false, Bool.false_eq_true, if_true, if_false, ite_true, ite_false, h1_0, h1_1, h1_2, h1_3, eq_true h1_4]; done) | (simp (decide := true) only [aCro, decide_true, decide_false, cond_true, cond_false, Bool.false_eq_true, if_true, if_false, ite_true, ite_false, h1_0, h1_1, h1_2, h1_3, h1_4]; done) | (simp (decide := true) only [aCro, decide_true, decide_false, cond_true, cond_false, Bool.false_eq_true, if_true, if_false, ite_true, ite_false, h1_0, h1_1, h1_2, h1_3, eq_true h1_4]; rfl)) (eqH_rf _) (eqH_rf _) ⟨rfl, rfl, rfl, rfl, rfl, rfl⟩)
  refine And.intro (fun h1_5 => ?_) (fun h1_5 => ?_)
  · refine tg_steps 2 rfl ?_
    refine tg_callV rfl (c_besideMany_0 hm) rfl rfl rfl rfl rfl (fun v98 w98 q98 => ?_)
    obtain ⟨rfl, rfl⟩ := q98
    exact tg_iret (st := []) rfl rfl ⟨Nat.le_of_ble_eq_true rfl, Nat.le_of_ble_eq_true rfl⟩ (pQ_ok (by first | rfl | (simp (decide := true) only [wCro, decide_true, decide_false, cond_true, cond_false, Bool.false_eq_true, if_true, if_false, ite_true, ite_false, h1_0, h1_1, h1_2, h1_3, h1_4, eq_true h1_5]; done) | (simp (decide := true) only [wCro, decide_true, decide_false, cond_true, cond_false, Bool.false_eq_true, if_true, if_false, ite_true, ite_false, h1_0, h1_1, h1_2, h1_3, h1_4, h1_5]; done) | (simp (decide := true) only [wCro, decide_true, decide_false, cond_true, cond_false, Bool.false_eq_true, if_true, if_false, ite_true, ite_false, h1_0, h1_1, h1_2, h1_3, h1_4, eq_true h1_5]; rfl)) (by first | rfl | (simp (decide := true) only [aCro, decide_true, decide_false, cond_true, cond_false, Bool.false_eq_true, if_true, if_false, ite_true, ite_false, h1_0, h1_1, h1_2, h1_3, h1_4, eq_true h1_5]; done) | (simp (decide := true) only [aCro, decide_true, decide_false, cond_true, cond_false, Bool.false_eq_true, if_true, if_false, ite_true, ite_false, h1_0, h1_1, h1_2, h1_3, h1_4, h1_5]; done) | (simp (decide := true) only [aCro, decide_true, decide_false, cond_true, cond_false, Bool.false_eq_true, if_true, if_false, ite_true, ite_false, h1_0, h1_1, h1_2, h1_3, h1_4, eq_true h1_5]; rfl)) (eqH_rf _) (eqH_rf _) ⟨rfl, rfl, rfl, rfl, rfl, rfl⟩)
  refine And.intro (fun h1_6 => ?_) (fun h1_6 => ?_)
  · refine tg_steps 2 rfl ?_
    refine tg_callV rfl (c_emptyTiles_0 hm) rfl rfl rfl rfl rfl (fun v106 w106 q106 => ?_)
    obtain ⟨rfl, rfl⟩ := q106
    exact tg_iret (st := []) rfl rfl ⟨Nat.le_of_ble_eq_true rfl, Nat.le_of_ble_eq_true rfl⟩ (pQ_ok (by first | rfl | (simp (decide := true) only [wCro, decide_true, decide_false, cond_true, cond_false, Bool.false_eq_true, if_true, if_false, ite_true, ite_false, h1_0, h1_1, h1_2, h1_3, h1_4, h1_5, eq_true h1_6]; done) | (simp (decide := true) only [wCro, decide_true, decide_false, cond_true, cond_false, Bool.false_eq_true, if_true, if_false, ite_true, ite_false, h1_0, h1_1, h1_2, h1_3, h1_4, h1_5, h1_6]; done) | (simp (decide := true) only [wCro, decide_true, decide_false, cond_true, cond_false, Bool.false_eq_true, if_true, if_false, ite_true, ite_false, h1_0, h1_1, h1_2, h1_3, h1_4, h1_5, eq_true h1_6]; rfl)) (by first | rfl | (simp (decide := true) only [aCro, decide_true, decide_false, cond_true, cond_false, Bool.false_eq_true, if_true, if_false, ite_true, ite_false, h1_0, h1_1, h1_2, h1_3, h1_4, h1_5, eq_true h1_6]; done) | (simp (decide := true) only [aCro, decide_true, decide_false, cond_true, cond_false, Bool.false_eq_true, if_true, if_false, ite_true, ite_false, h1_0, h1_1, h1_2, h1_3, h1_4, h1_5, h1_6]; done) | (simp (decide := true) only [aCro, decide_true, decide_false, cond_true, cond_false, Bool.false_eq_true, if_true, if_false, ite_true, ite_false, h1_0, h1_1, h1_2, h1_3, h1_4, h1_5, eq_true h1_6]; rfl)) (eqH_rf _) (eqH_rf _) ⟨rfl, rfl, rfl, rfl, rfl, rfl⟩)
  refine tg_steps 2 rfl ?_
  refine tg_callV rfl (c_refuse (-2) (by decide)) rfl rfl rfl rfl rfl (fun v113 w113 q113 => ?_)
  obtain ⟨rfl, rfl⟩ := q113
  exact tg_iret (st := []) rfl rfl ⟨Nat.le_of_ble_eq_true rfl, Nat.le_of_ble_eq_true rfl⟩ (pQ_refI (by first | rfl | (simp (decide := true) only [wCro, decide_true, decide_false, cond_true, cond_false, Bool.false_eq_true, if_true, if_false, ite_true, ite_false, h1_0, h1_1, h1_2, h1_3, h1_4, h1_5, h1_6]; done) | (simp (decide := true) only [wCro, decide_true, decide_false, cond_true, cond_false, Bool.false_eq_true, if_true, if_false, ite_true, ite_false, h1_0, h1_1, h1_2, h1_3, h1_4, h1_5, h1_6]; done) | (simp (decide := true) only [wCro, decide_true, decide_false, cond_true, cond_false, Bool.false_eq_true, if_true, if_false, ite_true, ite_false, h1_0, h1_1, h1_2, h1_3, h1_4, h1_5, h1_6]; rfl)) (by first | decide | exact rf_bor _))
set_option maxRecDepth 100000 in
set_option maxHeartbeats 2000000 in
theorem q_farthest {G : tg_G} {n p t : tp_H} {x : tp_X} {r : List tg_Cl} (hm : hM n ≤ 7) (what : Int32) : tg_C G 5 mX10_farthest 0 0 [.ref 0, .int what] (tp_cs n p t x, r) (pQ (wWh what) (.int (wWh what)) (.int (aFaH n what)) n p x (n) (p) (x) r) := by
  refine tg_intro okX10_farthest (Nat.le_of_ble_eq_true rfl) ?_
  refine tg_steps 2 rfl ?_
  refine tg_call1 rfl (c_isUpTo _ _) rfl rfl rfl  (fun v2 w2 q2 => ?_)
  obtain ⟨rfl, rfl⟩ := q2
  refine tg_ifbne rfl rfl (fun h5 => ?_) (fun h5 => ?_)
  · refine tg_steps 2 rfl ?_
    refine tg_callV rfl (c_farthestFromHome_0 hm) rfl rfl rfl rfl rfl (fun v19 w19 q19 => ?_)
    obtain ⟨rfl, rfl⟩ := q19
    refine tg_steps 2 rfl ?_
    refine tg_ifeq rfl rfl (fun h24 => ?_) (fun h24 => ?_)
    · refine tg_steps 2 rfl ?_
      exact tg_iret (st := []) rfl rfl ⟨Nat.le_of_ble_eq_true rfl, Nat.le_of_ble_eq_true rfl⟩ (pQ_ok (by first | rfl | (simp (decide := true) only [wWh, decide_true, decide_false, cond_true, cond_false, Bool.false_eq_true, if_true, if_false, ite_true, ite_false, h5, eq_true h24]; done) | (simp (decide := true) only [wWh, decide_true, decide_false, cond_true, cond_false, Bool.false_eq_true, if_true, if_false, ite_true, ite_false, h5, h24]; done) | (simp (decide := true) only [wWh, decide_true, decide_false, cond_true, cond_false, Bool.false_eq_true, if_true, if_false, ite_true, ite_false, h5, eq_true h24]; rfl)) (by first | rfl | (simp (decide := true) only [aFaH, decide_true, decide_false, cond_true, cond_false, Bool.false_eq_true, if_true, if_false, ite_true, ite_false, h5, eq_true h24]; done) | (simp (decide := true) only [aFaH, decide_true, decide_false, cond_true, cond_false, Bool.false_eq_true, if_true, if_false, ite_true, ite_false, h5, h24]; done) | (simp (decide := true) only [aFaH, decide_true, decide_false, cond_true, cond_false, Bool.false_eq_true, if_true, if_false, ite_true, ite_false, h5, eq_true h24]; rfl)) (eqH_rf _) (eqH_rf _) ⟨rfl, rfl, rfl, rfl, rfl, rfl⟩)
    · refine tg_steps 2 rfl ?_
      refine tg_icne rfl rfl (fun h30 => ?_) (fun h30 => ?_)
      · refine tg_steps 3 rfl ?_
        refine tg_callV rfl (c_fromHome_0 hm _) rfl rfl rfl rfl rfl (fun v42 w42 q42 => ?_)
        obtain ⟨rfl, rfl⟩ := q42
        exact tg_iret (st := []) rfl rfl ⟨Nat.le_of_ble_eq_true rfl, Nat.le_of_ble_eq_true rfl⟩ (pQ_ok (by first | rfl | (simp (decide := true) only [wWh, decide_true, decide_false, cond_true, cond_false, Bool.false_eq_true, if_true, if_false, ite_true, ite_false, h5, h24, h30]; done) | (simp (decide := true) only [wWh, decide_true, decide_false, cond_true, cond_false, Bool.false_eq_true, if_true, if_false, ite_true, ite_false, h5, h24, h30]; done) | (simp (decide := true) only [wWh, decide_true, decide_false, cond_true, cond_false, Bool.false_eq_true, if_true, if_false, ite_true, ite_false, h5, h24, h30]; rfl)) (by first | rfl | (simp (decide := true) only [aFaH, decide_true, decide_false, cond_true, cond_false, Bool.false_eq_true, if_true, if_false, ite_true, ite_false, h5, h24, h30]; done) | (simp (decide := true) only [aFaH, decide_true, decide_false, cond_true, cond_false, Bool.false_eq_true, if_true, if_false, ite_true, ite_false, h5, h24, h30]; done) | (simp (decide := true) only [aFaH, decide_true, decide_false, cond_true, cond_false, Bool.false_eq_true, if_true, if_false, ite_true, ite_false, h5, h24, h30]; rfl)) (eqH_rf _) (eqH_rf _) ⟨rfl, rfl, rfl, rfl, rfl, rfl⟩)
      · refine tg_steps 2 rfl ?_
        exact tg_iret (st := []) rfl rfl ⟨Nat.le_of_ble_eq_true rfl, Nat.le_of_ble_eq_true rfl⟩ (pQ_ok (by first | rfl | (simp (decide := true) only [wWh, decide_true, decide_false, cond_true, cond_false, Bool.false_eq_true, if_true, if_false, ite_true, ite_false, h5, h24, eq_true h30]; done) | (simp (decide := true) only [wWh, decide_true, decide_false, cond_true, cond_false, Bool.false_eq_true, if_true, if_false, ite_true, ite_false, h5, h24, h30]; done) | (simp (decide := true) only [wWh, decide_true, decide_false, cond_true, cond_false, Bool.false_eq_true, if_true, if_false, ite_true, ite_false, h5, h24, eq_true h30]; rfl)) (by first | rfl | (simp (decide := true) only [aFaH, decide_true, decide_false, cond_true, cond_false, Bool.false_eq_true, if_true, if_false, ite_true, ite_false, h5, h24, eq_true h30]; done) | (simp (decide := true) only [aFaH, decide_true, decide_false, cond_true, cond_false, Bool.false_eq_true, if_true, if_false, ite_true, ite_false, h5, h24, h30]; done) | (simp (decide := true) only [aFaH, decide_true, decide_false, cond_true, cond_false, Bool.false_eq_true, if_true, if_false, ite_true, ite_false, h5, h24, eq_true h30]; rfl)) (eqH_rf _) (eqH_rf _) ⟨rfl, rfl, rfl, rfl, rfl, rfl⟩)
  · refine tg_steps 2 rfl ?_
    refine tg_callV rfl (c_refuse (-2) (by decide)) rfl rfl rfl rfl rfl (fun v11 w11 q11 => ?_)
    obtain ⟨rfl, rfl⟩ := q11
    exact tg_iret (st := []) rfl rfl ⟨Nat.le_of_ble_eq_true rfl, Nat.le_of_ble_eq_true rfl⟩ (pQ_refI (by first | rfl | (simp (decide := true) only [wWh, decide_true, decide_false, cond_true, cond_false, Bool.false_eq_true, if_true, if_false, ite_true, ite_false, h5]; done) | (simp (decide := true) only [wWh, decide_true, decide_false, cond_true, cond_false, Bool.false_eq_true, if_true, if_false, ite_true, ite_false, h5]; done) | (simp (decide := true) only [wWh, decide_true, decide_false, cond_true, cond_false, Bool.false_eq_true, if_true, if_false, ite_true, ite_false, h5]; rfl)) (by first | decide | exact rf_bor _))
set_option maxRecDepth 100000 in
set_option maxHeartbeats 2000000 in
theorem q_order {G : tg_G} {n p t : tp_H} {x : tp_X} {r : List tg_Cl} (hm : hM n ≤ 7) (i : Int32) : tg_C G 4 mX10_order 0 0 [.ref 0, .int i] (tp_cs n p t x, r) (pQ (wOrd i) (.int (wOrd i)) (.int (aOrd n i)) n p x (n) (p) (x) r) := by
  refine tg_intro okX10_order (Nat.le_of_ble_eq_true rfl) ?_
  refine tg_steps 1 rfl ?_
  refine tg_ifge rfl rfl (fun h1 => ?_) (fun h1 => ?_)
  · refine tg_steps 2 rfl ?_
    refine tg_pkV [0, 1, 2] ?_
    refine tg_eqS (L2 := [(0, .ref 0), (1, .int i), (2, .int (nI (0)))]) (st2 := []) (w2 := (tp_cs n p t x, r)) rfl rfl rfl ?_
    refine tg_down (φ := fun k : Nat => (aOrd n i = fiV (orP n i) nI (-9) (hM n - (k)) (k)) → tg_V G 4 mX10_order 0 0 0 0 (pQ (wOrd i) (.int (wOrd i)) (.int (aOrd n i)) n p x (n) (p) (x) r) 13 [(0, .ref 0), (1, .int i), (2, .int (nI (k)))] [] (tp_cs n p t x, r)) (n := hM n) ?_ ?_ 0 (Nat.zero_le _) (rfl)
    · intro hinv13
      refine tg_steps 4 rfl ?_
      refine tg_icge rfl rfl (fun h21 => ?_) (fun h21 => ?_)
      · refine tg_steps 1 rfl ?_
        exact tg_iret (st := []) rfl rfl ⟨Nat.le_of_ble_eq_true rfl, Nat.le_of_ble_eq_true rfl⟩ (pQ_ok (by first | rfl | (simp (decide := true) only [wOrd, decide_true, decide_false, cond_true, cond_false, Bool.false_eq_true, if_true, if_false, ite_true, ite_false, h1, Int32.not_lt.mpr h1]; done) | (simp (decide := true) only [wOrd, decide_true, decide_false, cond_true, cond_false, Bool.false_eq_true, if_true, if_false, ite_true, ite_false, h1, Int32.not_lt.mpr h1]; done) | (simp (decide := true) only [wOrd, decide_true, decide_false, cond_true, cond_false, Bool.false_eq_true, if_true, if_false, ite_true, ite_false, h1, Int32.not_lt.mpr h1]; rfl)) (by rw [hinv13, Nat.sub_self]; rfl) (eqH_rf _) (eqH_rf _) ⟨rfl, rfl, rfl, rfl, rfl, rfl⟩)
      · exact absurd (nI_le (Nat.le_refl _) (by omega)) h21
    · intro k hi13 ih13 hinv13
      rw [show hM n - k = hM n - (k + 1) + 1 by omega, fiV_succ _ _ _ (hM n - (k + 1)) k] at hinv13
      refine tg_steps 4 rfl ?_
      refine tg_icge rfl rfl (fun h21 => ?_) (fun h21 => ?_)
      · exact absurd h21 (nI_ge hi13 (by omega))
      · refine tg_steps 3 rfl ?_
        refine tg_callV rfl (c_isAboard_0 hm _) rfl rfl rfl rfl rfl (fun v29 w29 q29 => ?_)
        obtain ⟨rfl, rfl⟩ := q29
        refine tg_ifbne rfl rfl (fun h32 => ?_) (fun h32 => ?_)
        · refine tg_steps 2 rfl ?_
          refine tg_pkV [0, 1, 2] ?_
          refine tg_eqS (L2 := [(0, .ref 0), (1, .int i), (2, .int (nI (k + 1)))]) (st2 := []) (w2 := (tp_cs n p t x, r)) (by first | rfl | (simp (decide := true) only [nI_succ, decide_true, decide_false, cond_true, cond_false, Bool.false_eq_true, if_true, if_false, ite_true, ite_false, h1, Int32.not_lt.mpr h1, h32]; done) | (simp (decide := true) only [nI_succ, decide_true, decide_false, cond_true, cond_false, Bool.false_eq_true, if_true, if_false, ite_true, ite_false, h1, Int32.not_lt.mpr h1, h32]; rfl)) rfl (by first | rfl | (simp (decide := true) only [nI_succ, decide_true, decide_false, cond_true, cond_false, Bool.false_eq_true, if_true, if_false, ite_true, ite_false, h1, Int32.not_lt.mpr h1, h32]; done) | (simp (decide := true) only [nI_succ, decide_true, decide_false, cond_true, cond_false, Bool.false_eq_true, if_true, if_false, ite_true, ite_false, h1, Int32.not_lt.mpr h1, h32]; rfl)) ?_
          exact ih13 (by simp only [orP, decide_true, decide_false, cond_true, cond_false, Bool.false_eq_true, if_true, if_false, ite_true, ite_false, h1, Int32.not_lt.mpr h1, h32] at hinv13; exact hinv13)
        · refine tg_steps 3 rfl ?_
          refine tg_callV rfl (c_aheadOf_0 hm _) rfl rfl rfl rfl rfl (fun v40 w40 q40 => ?_)
          obtain ⟨rfl, rfl⟩ := q40
          refine tg_steps 1 rfl ?_
          refine tg_icne rfl rfl (fun h44 => ?_) (fun h44 => ?_)
          · refine tg_steps 2 rfl ?_
            refine tg_pkV [0, 1, 2] ?_
            refine tg_eqS (L2 := [(0, .ref 0), (1, .int i), (2, .int (nI (k + 1)))]) (st2 := []) (w2 := (tp_cs n p t x, r)) (by first | rfl | (simp (decide := true) only [nI_succ, decide_true, decide_false, cond_true, cond_false, Bool.false_eq_true, if_true, if_false, ite_true, ite_false, h1, Int32.not_lt.mpr h1, h32, h44]; done) | (simp (decide := true) only [nI_succ, decide_true, decide_false, cond_true, cond_false, Bool.false_eq_true, if_true, if_false, ite_true, ite_false, h1, Int32.not_lt.mpr h1, h32, h44]; rfl)) rfl (by first | rfl | (simp (decide := true) only [nI_succ, decide_true, decide_false, cond_true, cond_false, Bool.false_eq_true, if_true, if_false, ite_true, ite_false, h1, Int32.not_lt.mpr h1, h32, h44]; done) | (simp (decide := true) only [nI_succ, decide_true, decide_false, cond_true, cond_false, Bool.false_eq_true, if_true, if_false, ite_true, ite_false, h1, Int32.not_lt.mpr h1, h32, h44]; rfl)) ?_
            exact ih13 (by simp only [orP, decide_true, decide_false, cond_true, cond_false, Bool.false_eq_true, if_true, if_false, ite_true, ite_false, h1, Int32.not_lt.mpr h1, h32, h44] at hinv13; exact hinv13)
          · refine tg_steps 1 rfl ?_
            exact tg_iret (st := []) rfl rfl ⟨Nat.le_of_ble_eq_true rfl, Nat.le_of_ble_eq_true rfl⟩ (pQ_ok (by first | rfl | (simp (decide := true) only [wOrd, decide_true, decide_false, cond_true, cond_false, Bool.false_eq_true, if_true, if_false, ite_true, ite_false, h1, Int32.not_lt.mpr h1, h32, eq_true h44]; done) | (simp (decide := true) only [wOrd, decide_true, decide_false, cond_true, cond_false, Bool.false_eq_true, if_true, if_false, ite_true, ite_false, h1, Int32.not_lt.mpr h1, h32, h44]; done) | (simp (decide := true) only [wOrd, decide_true, decide_false, cond_true, cond_false, Bool.false_eq_true, if_true, if_false, ite_true, ite_false, h1, Int32.not_lt.mpr h1, h32, eq_true h44]; rfl)) (by simp only [orP, decide_true, decide_false, cond_true, cond_false, Bool.false_eq_true, if_true, if_false, ite_true, ite_false, h1, Int32.not_lt.mpr h1, h32, eq_true h44] at hinv13; rw [hinv13]) (eqH_rf _) (eqH_rf _) ⟨rfl, rfl, rfl, rfl, rfl, rfl⟩)
  · refine tg_steps 2 rfl ?_
    refine tg_callV rfl (c_refuse (-4) (by decide)) rfl rfl rfl rfl rfl (fun v7 w7 q7 => ?_)
    obtain ⟨rfl, rfl⟩ := q7
    exact tg_iret (st := []) rfl rfl ⟨Nat.le_of_ble_eq_true rfl, Nat.le_of_ble_eq_true rfl⟩ (pQ_refI (by first | rfl | (simp (decide := true) only [wOrd, decide_true, decide_false, cond_true, cond_false, Bool.false_eq_true, if_true, if_false, ite_true, ite_false, h1, Int32.not_le.mp h1]; done) | (simp (decide := true) only [wOrd, decide_true, decide_false, cond_true, cond_false, Bool.false_eq_true, if_true, if_false, ite_true, ite_false, h1, Int32.not_le.mp h1]; done) | (simp (decide := true) only [wOrd, decide_true, decide_false, cond_true, cond_false, Bool.false_eq_true, if_true, if_false, ite_true, ite_false, h1, Int32.not_le.mp h1]; rfl)) (by first | decide | exact rf_bor _))
set_option maxRecDepth 100000 in
set_option maxHeartbeats 2000000 in
theorem q_two {G : tg_G} {n p t : tp_H} {x : tp_X} {r : List tg_Cl} (hm : hM n ≤ 7) (a : Int32) (b : Int32) (k : Int32) : tg_C G 7 mX10_two 0 0 [.ref 0, .int a, .int b, .int k] (tp_cs n p t x, r) (pQ (wTwo n a b k) (.int (wTwo n a b k)) (.int (aTwo n a b k)) n p x (n) (p) (x) r) := by
  refine tg_intro okX10_two (Nat.le_of_ble_eq_true rfl) ?_
  refine tg_steps 3 rfl ?_
  refine tg_callV rfl (c_has_0 _) rfl rfl rfl rfl rfl (fun v5 w5 q5 => ?_)
  obtain ⟨rfl, rfl⟩ := q5
  refine tg_ifbeq rfl rfl (fun h8 => ?_) (fun h8 => ?_)
  · refine tg_steps 2 rfl ?_
    refine tg_callV rfl (c_refuse (-1) (by decide)) rfl rfl rfl rfl rfl (fun v29 w29 q29 => ?_)
    obtain ⟨rfl, rfl⟩ := q29
    exact tg_iret (st := []) rfl rfl ⟨Nat.le_of_ble_eq_true rfl, Nat.le_of_ble_eq_true rfl⟩ (pQ_refI (by first | rfl | (simp (decide := true) only [wTwo, decide_true, decide_false, cond_true, cond_false, Bool.false_eq_true, if_true, if_false, ite_true, ite_false, h8]; done) | (simp (decide := true) only [wTwo, decide_true, decide_false, cond_true, cond_false, Bool.false_eq_true, if_true, if_false, ite_true, ite_false, h8]; done) | (simp (decide := true) only [wTwo, decide_true, decide_false, cond_true, cond_false, Bool.false_eq_true, if_true, if_false, ite_true, ite_false, h8]; rfl)) (by first | decide | exact rf_bor _))
  · refine tg_steps 3 rfl ?_
    refine tg_callV rfl (c_has_0 _) rfl rfl rfl rfl rfl (fun v16 w16 q16 => ?_)
    obtain ⟨rfl, rfl⟩ := q16
    refine tg_ifbeq rfl rfl (fun h19 => ?_) (fun h19 => ?_)
    · refine tg_steps 2 rfl ?_
      refine tg_callV rfl (c_refuse (-1) (by decide)) rfl rfl rfl rfl rfl (fun v29 w29 q29 => ?_)
      obtain ⟨rfl, rfl⟩ := q29
      exact tg_iret (st := []) rfl rfl ⟨Nat.le_of_ble_eq_true rfl, Nat.le_of_ble_eq_true rfl⟩ (pQ_refI (by first | rfl | (simp (decide := true) only [wTwo, decide_true, decide_false, cond_true, cond_false, Bool.false_eq_true, if_true, if_false, ite_true, ite_false, h8, h19]; done) | (simp (decide := true) only [wTwo, decide_true, decide_false, cond_true, cond_false, Bool.false_eq_true, if_true, if_false, ite_true, ite_false, h8, h19]; done) | (simp (decide := true) only [wTwo, decide_true, decide_false, cond_true, cond_false, Bool.false_eq_true, if_true, if_false, ite_true, ite_false, h8, h19]; rfl)) (by first | decide | exact rf_bor _))
    · refine tg_steps 2 rfl ?_
      refine tg_icne rfl rfl (fun h24 => ?_) (fun h24 => ?_)
      · refine tg_steps 2 rfl ?_
        refine tg_call1 rfl (c_isUpTo _ _) rfl rfl rfl  (fun v36 w36 q36 => ?_)
        obtain ⟨rfl, rfl⟩ := q36
        refine tg_ifbne rfl rfl (fun h39 => ?_) (fun h39 => ?_)
        · obtain ⟨j, hj, rfl⟩ := up_j (m := 9) rfl h39
          have cj : nN (nI j) = j := nI_clamp (by omega)
          refine tg_steps 7 rfl ?_
          refine tg_callV rfl (c_firstSettledPair hm _ _ j (by omega)) rfl rfl rfl rfl rfl (fun v62 w62 q62 => ?_)
          obtain ⟨rfl, t3, f3, g3, rfl⟩ := q62
          exact tg_iret (st := []) rfl rfl ⟨Nat.le_of_ble_eq_true rfl, Nat.le_of_ble_eq_true rfl⟩ (pQ_ok (by first | rfl | (simp (decide := true) only [wTwo, decide_true, decide_false, cond_true, cond_false, Bool.false_eq_true, if_true, if_false, ite_true, ite_false, h8, h19, h24, h39]; done) | (simp (decide := true) only [wTwo, decide_true, decide_false, cond_true, cond_false, Bool.false_eq_true, if_true, if_false, ite_true, ite_false, h8, h19, h24, h39]; done) | (simp (decide := true) only [wTwo, decide_true, decide_false, cond_true, cond_false, Bool.false_eq_true, if_true, if_false, ite_true, ite_false, h8, h19, h24, h39]; rfl)) (by first | rfl | (simp (decide := true) only [aTwo, cj, decide_true, decide_false, cond_true, cond_false, Bool.false_eq_true, if_true, if_false, ite_true, ite_false, h8, h19, h24, h39]; done) | (simp (decide := true) only [aTwo, cj, decide_true, decide_false, cond_true, cond_false, Bool.false_eq_true, if_true, if_false, ite_true, ite_false, h8, h19, h24, h39]; done) | (simp (decide := true) only [aTwo, cj, decide_true, decide_false, cond_true, cond_false, Bool.false_eq_true, if_true, if_false, ite_true, ite_false, h8, h19, h24, h39]; rfl)) (eqH_rf _) (eqH_rf _) ⟨rfl, rfl, rfl, rfl, rfl, rfl⟩)
        · refine tg_steps 2 rfl ?_
          refine tg_call1 rfl (c_bor _) rfl rfl rfl  (fun v44 w44 q44 => ?_)
          obtain ⟨rfl, rfl⟩ := q44
          refine tg_callV rfl (c_refuse _ (rf_bor _)) rfl rfl rfl rfl rfl (fun v47 w47 q47 => ?_)
          obtain ⟨rfl, rfl⟩ := q47
          exact tg_iret (st := []) rfl rfl ⟨Nat.le_of_ble_eq_true rfl, Nat.le_of_ble_eq_true rfl⟩ (pQ_refI (by first | rfl | (simp (decide := true) only [wTwo, decide_true, decide_false, cond_true, cond_false, Bool.false_eq_true, if_true, if_false, ite_true, ite_false, h8, h19, h24, h39]; done) | (simp (decide := true) only [wTwo, decide_true, decide_false, cond_true, cond_false, Bool.false_eq_true, if_true, if_false, ite_true, ite_false, h8, h19, h24, h39]; done) | (simp (decide := true) only [wTwo, decide_true, decide_false, cond_true, cond_false, Bool.false_eq_true, if_true, if_false, ite_true, ite_false, h8, h19, h24, h39]; rfl)) (by first | decide | exact rf_bor _))
      · refine tg_steps 2 rfl ?_
        refine tg_callV rfl (c_refuse (-1) (by decide)) rfl rfl rfl rfl rfl (fun v29 w29 q29 => ?_)
        obtain ⟨rfl, rfl⟩ := q29
        exact tg_iret (st := []) rfl rfl ⟨Nat.le_of_ble_eq_true rfl, Nat.le_of_ble_eq_true rfl⟩ (pQ_refI (by first | rfl | (simp (decide := true) only [wTwo, decide_true, decide_false, cond_true, cond_false, Bool.false_eq_true, if_true, if_false, ite_true, ite_false, h8, h19, eq_true h24]; done) | (simp (decide := true) only [wTwo, decide_true, decide_false, cond_true, cond_false, Bool.false_eq_true, if_true, if_false, ite_true, ite_false, h8, h19, h24]; done) | (simp (decide := true) only [wTwo, decide_true, decide_false, cond_true, cond_false, Bool.false_eq_true, if_true, if_false, ite_true, ite_false, h8, h19, eq_true h24]; rfl)) (by first | decide | exact rf_bor _))
set_option maxRecDepth 100000 in
set_option maxHeartbeats 2000000 in
theorem c_commonDivisor {G : tg_G} {w : tg_W} (a b : Int64) : tg_C G 1 mX10_commonDivisor 0 0 [.long a, .long b] w (fun v w2 => v = some (.long (cdv a b)) ∧ w2 = w) := by
  refine tg_intro okX10_commonDivisor (Nat.le_of_ble_eq_true rfl) ?_
  refine tg_steps 6 rfl ?_
  refine tg_pkV [4, 6, 8] ?_
  refine tg_eqS (L2 := [(4, .long (eu a b (0)).1), (6, .long (eu a b (0)).2), (8, .int (nI (0)))]) (st2 := []) (w2 := w) rfl rfl rfl ?_
  refine tg_down (φ := fun i : Nat => tg_V G 1 mX10_commonDivisor 0 0 0 0 (fun v w2 => v = some (.long (cdv a b)) ∧ w2 = w) 9 [(4, .long (eu a b (i)).1), (6, .long (eu a b (i)).2), (8, .int (nI (i)))] [] w) (n := 128) ?_ ?_ 0 (Nat.zero_le _) 
  · refine tg_steps 2 rfl ?_
    refine tg_icge rfl rfl (fun h14 => ?_) (fun h14 => ?_)
    · refine tg_steps 3 rfl ?_
      refine tg_ifne rfl rfl (fun h49 => ?_) (fun h49 => ?_)
      · refine tg_steps 1 rfl ?_
        exact tg_lret (st := []) rfl rfl ⟨Nat.le_of_ble_eq_true rfl, Nat.le_of_ble_eq_true rfl⟩ ⟨by unfold cdv; first | rw [if_pos h49] | rw [if_neg h49], rfl⟩
      · refine tg_steps 2 rfl ?_
        exact tg_lret (st := []) rfl rfl ⟨Nat.le_of_ble_eq_true rfl, Nat.le_of_ble_eq_true rfl⟩ ⟨by unfold cdv; first | rw [if_pos h49] | rw [if_neg h49], rfl⟩
    · exact absurd (by decide) h14
  · intro i hi9 ih9
    refine tg_steps 2 rfl ?_
    refine tg_icge rfl rfl (fun h14 => ?_) (fun h14 => ?_)
    · exact absurd h14 (nI_ge (b := 128) hi9 (by decide))
    · refine tg_steps 3 rfl ?_
      refine tg_ifeq rfl rfl (fun h21 => ?_) (fun h21 => ?_)
      · have hend : eu a b 128 = eu a b i := by
          have := eu_stop h21 (128 - i)
          rw [show i + (128 - i) = 128 by omega] at this
          exact this
        refine tg_steps 3 rfl ?_
        refine tg_ifne rfl rfl (fun h49 => ?_) (fun h49 => ?_)
        · refine tg_steps 1 rfl ?_
          exact tg_lret (st := []) rfl rfl ⟨Nat.le_of_ble_eq_true rfl, Nat.le_of_ble_eq_true rfl⟩ ⟨by unfold cdv; rw [hend]; first | rw [if_pos h49] | rw [if_neg h49], rfl⟩
        · refine tg_steps 2 rfl ?_
          exact tg_lret (st := []) rfl rfl ⟨Nat.le_of_ble_eq_true rfl, Nat.le_of_ble_eq_true rfl⟩ ⟨by unfold cdv; rw [hend]; first | rw [if_pos h49] | rw [if_neg h49], rfl⟩
      · refine tg_steps 2 rfl ?_
        refine tg_lremv rfl (lc_ne h21) ?_
        refine tg_steps 7 rfl ?_
        refine tg_pkV [4, 6, 8] ?_
        refine tg_eqS (L2 := [(4, .long (eu a b (i + 1)).1), (6, .long (eu a b (i + 1)).2), (8, .int (nI (i + 1)))]) (st2 := []) (w2 := w) (by first | rfl | (simp (decide := true) only [nI_succ, eu_succ, decide_true, decide_false, cond_true, cond_false, Bool.false_eq_true, if_true, if_false, ite_true, ite_false, h21]; done) | (simp (decide := true) only [nI_succ, eu_succ, decide_true, decide_false, cond_true, cond_false, Bool.false_eq_true, if_true, if_false, ite_true, ite_false, h21]; rfl)) rfl (by first | rfl | (simp (decide := true) only [nI_succ, eu_succ, decide_true, decide_false, cond_true, cond_false, Bool.false_eq_true, if_true, if_false, ite_true, ite_false, h21]; done) | (simp (decide := true) only [nI_succ, eu_succ, decide_true, decide_false, cond_true, cond_false, Bool.false_eq_true, if_true, if_false, ite_true, ite_false, h21]; rfl)) ?_
        exact ih9
set_option maxRecDepth 100000 in
set_option maxHeartbeats 2000000 in
theorem c_partOf {G : tg_G} {w : tg_W} (a b : Int64) (part : Int32) : tg_C G 2 mX10_partOf 0 0 [.long a, .long b, .int part] w (fun v w2 => v = some (.long (ptO a b part)) ∧ w2 = w) := by
  refine tg_intro okX10_partOf (Nat.le_of_ble_eq_true rfl) ?_
  refine tg_steps 3 rfl ?_
  refine tg_ifeq rfl rfl (fun h3 => ?_) (fun h3 => ?_)
  · refine tg_steps 1 rfl ?_
    refine tg_ifne rfl rfl (fun h14 => ?_) (fun h14 => ?_)
    · refine tg_steps 1 rfl ?_
      exact tg_lret (st := []) rfl rfl ⟨Nat.le_of_ble_eq_true rfl, Nat.le_of_ble_eq_true rfl⟩ ⟨by first | rfl | (simp (decide := true) only [ptO, decide_true, decide_false, cond_true, cond_false, Bool.false_eq_true, if_true, if_false, ite_true, ite_false, eq_true h3, h14]; done) | (simp (decide := true) only [ptO, decide_true, decide_false, cond_true, cond_false, Bool.false_eq_true, if_true, if_false, ite_true, ite_false, h3, h14]; done), rfl⟩
    · refine tg_steps 2 rfl ?_
      exact tg_lret (st := []) rfl rfl ⟨Nat.le_of_ble_eq_true rfl, Nat.le_of_ble_eq_true rfl⟩ ⟨by first | rfl | (simp (decide := true) only [ptO, decide_true, decide_false, cond_true, cond_false, Bool.false_eq_true, if_true, if_false, ite_true, ite_false, eq_true h3, eq_true h14]; done) | (simp (decide := true) only [ptO, decide_true, decide_false, cond_true, cond_false, Bool.false_eq_true, if_true, if_false, ite_true, ite_false, h3, h14]; done), rfl⟩
  · refine tg_steps 3 rfl ?_
    refine tg_ifne rfl rfl (fun h9 => ?_) (fun h9 => ?_)
    · refine tg_steps 2 rfl ?_
      refine tg_call1 rfl (c_commonDivisor _ _) rfl rfl rfl  (fun v25 w25 q25 => ?_)
      obtain ⟨rfl, rfl⟩ := q25
      refine tg_steps 2 rfl ?_
      refine tg_ifne rfl rfl (fun h32 => ?_) (fun h32 => ?_)
      · refine tg_steps 2 rfl ?_
        refine tg_ldivv rfl (cdv_ne _ _) ?_
        exact tg_lret (st := []) rfl rfl ⟨Nat.le_of_ble_eq_true rfl, Nat.le_of_ble_eq_true rfl⟩ ⟨by first | rfl | (simp (decide := true) only [ptO, decide_true, decide_false, cond_true, cond_false, Bool.false_eq_true, if_true, if_false, ite_true, ite_false, h3, h9, h32]; done) | (simp (decide := true) only [ptO, decide_true, decide_false, cond_true, cond_false, Bool.false_eq_true, if_true, if_false, ite_true, ite_false, h3, h9, h32]; done), rfl⟩
      · refine tg_steps 3 rfl ?_
        refine tg_ldivv rfl (cdv_ne _ _) ?_
        exact tg_lret (st := []) rfl rfl ⟨Nat.le_of_ble_eq_true rfl, Nat.le_of_ble_eq_true rfl⟩ ⟨by first | rfl | (simp (decide := true) only [ptO, decide_true, decide_false, cond_true, cond_false, Bool.false_eq_true, if_true, if_false, ite_true, ite_false, h3, h9, eq_true h32]; done) | (simp (decide := true) only [ptO, decide_true, decide_false, cond_true, cond_false, Bool.false_eq_true, if_true, if_false, ite_true, ite_false, h3, h9, h32]; done), rfl⟩
    · refine tg_steps 1 rfl ?_
      refine tg_ifne rfl rfl (fun h14 => ?_) (fun h14 => ?_)
      · refine tg_steps 1 rfl ?_
        exact tg_lret (st := []) rfl rfl ⟨Nat.le_of_ble_eq_true rfl, Nat.le_of_ble_eq_true rfl⟩ ⟨by first | rfl | (simp (decide := true) only [ptO, decide_true, decide_false, cond_true, cond_false, Bool.false_eq_true, if_true, if_false, ite_true, ite_false, h3, eq_true h9, h14]; done) | (simp (decide := true) only [ptO, decide_true, decide_false, cond_true, cond_false, Bool.false_eq_true, if_true, if_false, ite_true, ite_false, h3, h9, h14]; done), rfl⟩
      · refine tg_steps 2 rfl ?_
        exact tg_lret (st := []) rfl rfl ⟨Nat.le_of_ble_eq_true rfl, Nat.le_of_ble_eq_true rfl⟩ ⟨by first | rfl | (simp (decide := true) only [ptO, decide_true, decide_false, cond_true, cond_false, Bool.false_eq_true, if_true, if_false, ite_true, ite_false, h3, eq_true h9, eq_true h14]; done) | (simp (decide := true) only [ptO, decide_true, decide_false, cond_true, cond_false, Bool.false_eq_true, if_true, if_false, ite_true, ite_false, h3, h9, h14]; done), rfl⟩
set_option maxRecDepth 100000 in
set_option maxHeartbeats 2000000 in
theorem q_coals {G : tg_G} {n p t : tp_H} {x : tp_X} {r : List tg_Cl} (hm : hM n ≤ 7) (one : Int32) (k : Int32) (td : Int32) (part : Int32) : tg_C G 6 mX10_coals 0 0 [.ref 0, .int one, .int k, .int td, .int part] (tp_cs n p t x, r) (pQ (wCoa n one k td part) (.long (lrf (wCoa n one k td part))) (.long (aCoa n one k td part)) n p x (n) (p) (x) r) := by
  refine tg_intro okX10_coals (Nat.le_of_ble_eq_true rfl) ?_
  refine tg_steps 3 rfl ?_
  refine tg_callV rfl (c_has_0 _) rfl rfl rfl rfl rfl (fun v5 w5 q5 => ?_)
  obtain ⟨rfl, rfl⟩ := q5
  refine tg_ifbne rfl rfl (fun h8 => ?_) (fun h8 => ?_)
  · refine tg_steps 1 rfl ?_
    refine tg_iflt rfl rfl (fun h18 => ?_) (fun h18 => ?_)
    · refine tg_steps 2 rfl ?_
      refine tg_callV rfl (c_refuseLong (-4) (by decide)) rfl rfl rfl rfl rfl (fun v29 w29 q29 => ?_)
      obtain ⟨rfl, rfl⟩ := q29
      exact tg_lret (st := []) rfl rfl ⟨Nat.le_of_ble_eq_true rfl, Nat.le_of_ble_eq_true rfl⟩ (pQ_refL (by first | rfl | (simp (decide := true) only [wCoa, decide_true, decide_false, cond_true, cond_false, Bool.false_eq_true, if_true, if_false, ite_true, ite_false, h8, h18, Int32.not_le.mpr h18]; done) | (simp (decide := true) only [wCoa, decide_true, decide_false, cond_true, cond_false, Bool.false_eq_true, if_true, if_false, ite_true, ite_false, h8, h18, Int32.not_le.mpr h18]; done) | (simp (decide := true) only [wCoa, decide_true, decide_false, cond_true, cond_false, Bool.false_eq_true, if_true, if_false, ite_true, ite_false, h8, h18, Int32.not_le.mpr h18]; rfl)) (by first | decide | exact rf_bor _))
    · refine tg_steps 2 rfl ?_
      refine tg_icge rfl rfl (fun h23 => ?_) (fun h23 => ?_)
      · refine tg_steps 2 rfl ?_
        refine tg_icgt rfl rfl (fun h36 => ?_) (fun h36 => ?_)
        · refine tg_steps 2 rfl ?_
          refine tg_callV rfl (c_refuseLong (-6) (by decide)) rfl rfl rfl rfl rfl (fun v48 w48 q48 => ?_)
          obtain ⟨rfl, rfl⟩ := q48
          exact tg_lret (st := []) rfl rfl ⟨Nat.le_of_ble_eq_true rfl, Nat.le_of_ble_eq_true rfl⟩ (pQ_refL (by first | rfl | (simp (decide := true) only [wCoa, decide_true, decide_false, cond_true, cond_false, Bool.false_eq_true, if_true, if_false, ite_true, ite_false, h8, h18, Int32.not_lt.mp h18, h23, Int32.not_lt.mpr h23, h36, Int32.not_le.mpr h36]; done) | (simp (decide := true) only [wCoa, decide_true, decide_false, cond_true, cond_false, Bool.false_eq_true, if_true, if_false, ite_true, ite_false, h8, h18, Int32.not_lt.mp h18, h23, Int32.not_lt.mpr h23, h36, Int32.not_le.mpr h36]; done) | (simp (decide := true) only [wCoa, decide_true, decide_false, cond_true, cond_false, Bool.false_eq_true, if_true, if_false, ite_true, ite_false, h8, h18, Int32.not_lt.mp h18, h23, Int32.not_lt.mpr h23, h36, Int32.not_le.mpr h36]; rfl)) (by first | decide | exact rf_bor _))
        · refine tg_steps 2 rfl ?_
          refine tg_icle rfl rfl (fun h42 => ?_) (fun h42 => ?_)
          · refine tg_steps 2 rfl ?_
            refine tg_call1 rfl (c_isUpTo _ _) rfl rfl rfl  (fun v55 w55 q55 => ?_)
            obtain ⟨rfl, rfl⟩ := q55
            refine tg_ifbne rfl rfl (fun h58 => ?_) (fun h58 => ?_)
            · obtain ⟨j, hj, rfl⟩ := nI_of2 (x := k) (M := 7) (n := 7) rfl h18 (Int32.not_lt.mp h36)
              have cj : nN (nI j) = j := nI_clamp (by omega)
              refine tg_steps 7 rfl ?_
              refine tg_callV rfl (c_coalsAbove hm _ j hj _) rfl rfl rfl rfl rfl (fun v79 w79 q79 => ?_)
              obtain ⟨rfl, t3, rfl⟩ := q79
              refine tg_steps 2 rfl ?_
              refine tg_call1 rfl (c_power _ j (by omega)) rfl rfl rfl  (fun v84 w84 q84 => ?_)
              obtain ⟨rfl, rfl⟩ := q84
              refine tg_steps 1 rfl ?_
              refine tg_call1 rfl (c_partOf _ _ _) rfl rfl rfl  (fun v89 w89 q89 => ?_)
              obtain ⟨rfl, rfl⟩ := q89
              exact tg_lret (st := []) rfl rfl ⟨Nat.le_of_ble_eq_true rfl, Nat.le_of_ble_eq_true rfl⟩ (pQ_ok (by first | rfl | (simp (decide := true) only [wCoa, decide_true, decide_false, cond_true, cond_false, Bool.false_eq_true, if_true, if_false, ite_true, ite_false, h8, h18, Int32.not_lt.mp h18, h23, Int32.not_lt.mpr h23, h36, Int32.not_lt.mp h36, h42, Int32.not_lt.mpr h42, h58]; done) | (simp (decide := true) only [wCoa, decide_true, decide_false, cond_true, cond_false, Bool.false_eq_true, if_true, if_false, ite_true, ite_false, h8, h18, Int32.not_lt.mp h18, h23, Int32.not_lt.mpr h23, h36, Int32.not_lt.mp h36, h42, Int32.not_lt.mpr h42, h58]; done) | (simp (decide := true) only [wCoa, decide_true, decide_false, cond_true, cond_false, Bool.false_eq_true, if_true, if_false, ite_true, ite_false, h8, h18, Int32.not_lt.mp h18, h23, Int32.not_lt.mpr h23, h36, Int32.not_lt.mp h36, h42, Int32.not_lt.mpr h42, h58]; rfl)) (by first | rfl | (simp (decide := true) only [aCoa, cj, decide_true, decide_false, cond_true, cond_false, Bool.false_eq_true, if_true, if_false, ite_true, ite_false, h8, h18, Int32.not_lt.mp h18, h23, Int32.not_lt.mpr h23, h36, Int32.not_lt.mp h36, h42, Int32.not_lt.mpr h42, h58]; done) | (simp (decide := true) only [aCoa, cj, decide_true, decide_false, cond_true, cond_false, Bool.false_eq_true, if_true, if_false, ite_true, ite_false, h8, h18, Int32.not_lt.mp h18, h23, Int32.not_lt.mpr h23, h36, Int32.not_lt.mp h36, h42, Int32.not_lt.mpr h42, h58]; done) | (simp (decide := true) only [aCoa, cj, decide_true, decide_false, cond_true, cond_false, Bool.false_eq_true, if_true, if_false, ite_true, ite_false, h8, h18, Int32.not_lt.mp h18, h23, Int32.not_lt.mpr h23, h36, Int32.not_lt.mp h36, h42, Int32.not_lt.mpr h42, h58]; rfl)) (eqH_rf _) (eqH_rf _) ⟨rfl, rfl, rfl, rfl, rfl, rfl⟩)
            · refine tg_steps 2 rfl ?_
              refine tg_callV rfl (c_refuseLong (-2) (by decide)) rfl rfl rfl rfl rfl (fun v64 w64 q64 => ?_)
              obtain ⟨rfl, rfl⟩ := q64
              exact tg_lret (st := []) rfl rfl ⟨Nat.le_of_ble_eq_true rfl, Nat.le_of_ble_eq_true rfl⟩ (pQ_refL (by first | rfl | (simp (decide := true) only [wCoa, decide_true, decide_false, cond_true, cond_false, Bool.false_eq_true, if_true, if_false, ite_true, ite_false, h8, h18, Int32.not_lt.mp h18, h23, Int32.not_lt.mpr h23, h36, Int32.not_lt.mp h36, h42, Int32.not_lt.mpr h42, h58]; done) | (simp (decide := true) only [wCoa, decide_true, decide_false, cond_true, cond_false, Bool.false_eq_true, if_true, if_false, ite_true, ite_false, h8, h18, Int32.not_lt.mp h18, h23, Int32.not_lt.mpr h23, h36, Int32.not_lt.mp h36, h42, Int32.not_lt.mpr h42, h58]; done) | (simp (decide := true) only [wCoa, decide_true, decide_false, cond_true, cond_false, Bool.false_eq_true, if_true, if_false, ite_true, ite_false, h8, h18, Int32.not_lt.mp h18, h23, Int32.not_lt.mpr h23, h36, Int32.not_lt.mp h36, h42, Int32.not_lt.mpr h42, h58]; rfl)) (by first | decide | exact rf_bor _))
          · refine tg_steps 2 rfl ?_
            refine tg_callV rfl (c_refuseLong (-6) (by decide)) rfl rfl rfl rfl rfl (fun v48 w48 q48 => ?_)
            obtain ⟨rfl, rfl⟩ := q48
            exact tg_lret (st := []) rfl rfl ⟨Nat.le_of_ble_eq_true rfl, Nat.le_of_ble_eq_true rfl⟩ (pQ_refL (by first | rfl | (simp (decide := true) only [wCoa, decide_true, decide_false, cond_true, cond_false, Bool.false_eq_true, if_true, if_false, ite_true, ite_false, h8, h18, Int32.not_lt.mp h18, h23, Int32.not_lt.mpr h23, h36, Int32.not_lt.mp h36, h42, Int32.not_le.mp h42]; done) | (simp (decide := true) only [wCoa, decide_true, decide_false, cond_true, cond_false, Bool.false_eq_true, if_true, if_false, ite_true, ite_false, h8, h18, Int32.not_lt.mp h18, h23, Int32.not_lt.mpr h23, h36, Int32.not_lt.mp h36, h42, Int32.not_le.mp h42]; done) | (simp (decide := true) only [wCoa, decide_true, decide_false, cond_true, cond_false, Bool.false_eq_true, if_true, if_false, ite_true, ite_false, h8, h18, Int32.not_lt.mp h18, h23, Int32.not_lt.mpr h23, h36, Int32.not_lt.mp h36, h42, Int32.not_le.mp h42]; rfl)) (by first | decide | exact rf_bor _))
      · refine tg_steps 2 rfl ?_
        refine tg_callV rfl (c_refuseLong (-4) (by decide)) rfl rfl rfl rfl rfl (fun v29 w29 q29 => ?_)
        obtain ⟨rfl, rfl⟩ := q29
        exact tg_lret (st := []) rfl rfl ⟨Nat.le_of_ble_eq_true rfl, Nat.le_of_ble_eq_true rfl⟩ (pQ_refL (by first | rfl | (simp (decide := true) only [wCoa, decide_true, decide_false, cond_true, cond_false, Bool.false_eq_true, if_true, if_false, ite_true, ite_false, h8, h18, Int32.not_lt.mp h18, h23, Int32.not_le.mp h23]; done) | (simp (decide := true) only [wCoa, decide_true, decide_false, cond_true, cond_false, Bool.false_eq_true, if_true, if_false, ite_true, ite_false, h8, h18, Int32.not_lt.mp h18, h23, Int32.not_le.mp h23]; done) | (simp (decide := true) only [wCoa, decide_true, decide_false, cond_true, cond_false, Bool.false_eq_true, if_true, if_false, ite_true, ite_false, h8, h18, Int32.not_lt.mp h18, h23, Int32.not_le.mp h23]; rfl)) (by first | decide | exact rf_bor _))
  · refine tg_steps 2 rfl ?_
    refine tg_callV rfl (c_refuseLong (-1) (by decide)) rfl rfl rfl rfl rfl (fun v13 w13 q13 => ?_)
    obtain ⟨rfl, rfl⟩ := q13
    exact tg_lret (st := []) rfl rfl ⟨Nat.le_of_ble_eq_true rfl, Nat.le_of_ble_eq_true rfl⟩ (pQ_refL (by first | rfl | (simp (decide := true) only [wCoa, decide_true, decide_false, cond_true, cond_false, Bool.false_eq_true, if_true, if_false, ite_true, ite_false, h8]; done) | (simp (decide := true) only [wCoa, decide_true, decide_false, cond_true, cond_false, Bool.false_eq_true, if_true, if_false, ite_true, ite_false, h8]; done) | (simp (decide := true) only [wCoa, decide_true, decide_false, cond_true, cond_false, Bool.false_eq_true, if_true, if_false, ite_true, ite_false, h8]; rfl)) (by first | decide | exact rf_bor _))
set_option maxRecDepth 100000 in
set_option maxHeartbeats 2000000 in
theorem q_mean {G : tg_G} {n p t : tp_H} {x : tp_X} {r : List tg_Cl} (hm : hM n ≤ 7) (part : Int32) : tg_C G 4 mX10_mean 0 0 [.ref 0, .int part] (tp_cs n p t x, r) (pQ (wWh part) (.long (lrf (wWh part))) (.long (aMea n part)) n p x (n) (p) (x) r) := by
  refine tg_intro okX10_mean (Nat.le_of_ble_eq_true rfl) ?_
  refine tg_steps 2 rfl ?_
  refine tg_call1 rfl (c_isUpTo _ _) rfl rfl rfl  (fun v2 w2 q2 => ?_)
  obtain ⟨rfl, rfl⟩ := q2
  refine tg_ifbne rfl rfl (fun h5 => ?_) (fun h5 => ?_)
  · refine tg_steps 4 rfl ?_
    refine tg_pkV [0, 1, 2, 4] ?_
    refine tg_eqS (L2 := [(0, .ref 0), (1, .int part), (2, .long (meS n (0))), (4, .int (nI (0)))]) (st2 := []) (w2 := (tp_cs n p t x, r)) rfl rfl rfl ?_
    refine tg_down (φ := fun i : Nat => tg_V G 4 mX10_mean 0 0 0 0 (pQ (wWh part) (.long (lrf (wWh part))) (.long (aMea n part)) n p x (n) (p) (x) r) 20 [(0, .ref 0), (1, .int part), (2, .long (meS n (i))), (4, .int (nI (i)))] [] (tp_cs n p t x, r)) (n := hM n) ?_ ?_ 0 (Nat.zero_le _) 
    · refine tg_steps 4 rfl ?_
      refine tg_icge rfl rfl (fun h29 => ?_) (fun h29 => ?_)
      · refine tg_steps 6 rfl ?_
        refine tg_call1 rfl (c_partOf _ _ _) rfl rfl rfl  (fun v61 w61 q61 => ?_)
        obtain ⟨rfl, rfl⟩ := q61
        exact tg_lret (st := []) rfl rfl ⟨Nat.le_of_ble_eq_true rfl, Nat.le_of_ble_eq_true rfl⟩ (pQ_ok (by first | rfl | (simp (decide := true) only [wWh, decide_true, decide_false, cond_true, cond_false, Bool.false_eq_true, if_true, if_false, ite_true, ite_false, h5]; done) | (simp (decide := true) only [wWh, decide_true, decide_false, cond_true, cond_false, Bool.false_eq_true, if_true, if_false, ite_true, ite_false, h5]; done) | (simp (decide := true) only [wWh, decide_true, decide_false, cond_true, cond_false, Bool.false_eq_true, if_true, if_false, ite_true, ite_false, h5]; rfl)) (by first | rfl | (simp (decide := true) only [aMea, decide_true, decide_false, cond_true, cond_false, Bool.false_eq_true, if_true, if_false, ite_true, ite_false, h5]; done) | (simp (decide := true) only [aMea, decide_true, decide_false, cond_true, cond_false, Bool.false_eq_true, if_true, if_false, ite_true, ite_false, h5]; done) | (simp (decide := true) only [aMea, decide_true, decide_false, cond_true, cond_false, Bool.false_eq_true, if_true, if_false, ite_true, ite_false, h5]; rfl)) (eqH_rf _) (eqH_rf _) ⟨rfl, rfl, rfl, rfl, rfl, rfl⟩)
      · exact absurd (nI_le (Nat.le_refl _) (by omega)) h29
    · intro i hi20 ih20
      refine tg_steps 4 rfl ?_
      refine tg_icge rfl rfl (fun h29 => ?_) (fun h29 => ?_)
      · exact absurd h29 (nI_ge hi20 (by omega))
      · refine tg_steps 4 rfl ?_
        refine tg_callV rfl (c_fromHome_0 hm _) rfl rfl rfl rfl rfl (fun v39 w39 q39 => ?_)
        obtain ⟨rfl, rfl⟩ := q39
        refine tg_steps 5 rfl ?_
        refine tg_pkV [0, 1, 2, 4] ?_
        refine tg_eqS (L2 := [(0, .ref 0), (1, .int part), (2, .long (meS n (i + 1))), (4, .int (nI (i + 1)))]) (st2 := []) (w2 := (tp_cs n p t x, r)) (by first | rfl | (simp (decide := true) only [nI_succ, meS_succ, decide_true, decide_false, cond_true, cond_false, Bool.false_eq_true, if_true, if_false, ite_true, ite_false, h5]; done) | (simp (decide := true) only [nI_succ, meS_succ, decide_true, decide_false, cond_true, cond_false, Bool.false_eq_true, if_true, if_false, ite_true, ite_false, h5]; rfl)) rfl (by first | rfl | (simp (decide := true) only [nI_succ, meS_succ, decide_true, decide_false, cond_true, cond_false, Bool.false_eq_true, if_true, if_false, ite_true, ite_false, h5]; done) | (simp (decide := true) only [nI_succ, meS_succ, decide_true, decide_false, cond_true, cond_false, Bool.false_eq_true, if_true, if_false, ite_true, ite_false, h5]; rfl)) ?_
        exact ih20
  · refine tg_steps 2 rfl ?_
    refine tg_callV rfl (c_refuseLong (-2) (by decide)) rfl rfl rfl rfl rfl (fun v11 w11 q11 => ?_)
    obtain ⟨rfl, rfl⟩ := q11
    exact tg_lret (st := []) rfl rfl ⟨Nat.le_of_ble_eq_true rfl, Nat.le_of_ble_eq_true rfl⟩ (pQ_refL (by first | rfl | (simp (decide := true) only [wWh, decide_true, decide_false, cond_true, cond_false, Bool.false_eq_true, if_true, if_false, ite_true, ite_false, h5]; done) | (simp (decide := true) only [wWh, decide_true, decide_false, cond_true, cond_false, Bool.false_eq_true, if_true, if_false, ite_true, ite_false, h5]; done) | (simp (decide := true) only [wWh, decide_true, decide_false, cond_true, cond_false, Bool.false_eq_true, if_true, if_false, ite_true, ite_false, h5]; rfl)) (by first | decide | exact rf_bor _))
theorem wi_T {t n : tp_H} (hm : hM n ≤ 7) (one kd f : Int32) (i : Nat) : gO hT (pNs i (becH (cpF t n) one kd f)) one = gO hT (pNs i (becH n one kd f)) one := eq_gT (by rw [pNs_M]; exact hm) (eq_pNs (a := becH (cpF t n) one kd f) hm (eq_becH (a := cpF t n) hm (eq_cpF t n) _ _ _) i) one
set_option maxRecDepth 100000 in
set_option maxHeartbeats 2000000 in
theorem c_goesAsTold {G : tg_G} {n p t : tp_H} {x : tp_X} {r : List tg_Cl} (hm : hM n ≤ 7) (ht : xTm x ≤ 16) (one kd f : Int32) : tg_C G 7 mX10_goesAsTold 0 0 [.ref 0, .int one, .int kd, .int f] (tp_cs n p t x, r) (fun v w => v = some (.int (tg_b (wiB n x one kd f))) ∧ ∃ t2, w = (tp_cs n p t2 x, r)) := by
  refine tg_intro okX10_goesAsTold (Nat.le_of_ble_eq_true rfl) ?_
  refine tg_steps 5 rfl ?_
  refine tg_callV rfl (c_think hm 0 (by decide)) rfl rfl rfl rfl rfl (fun v9 w9 q9 => ?_)
  obtain ⟨rfl, rfl⟩ := q9
  refine tg_steps 6 rfl ?_
  refine tg_callV rfl (c_become_2 (h := cpF t n) hm _ _ _) rfl rfl rfl rfl rfl (fun v22 w22 q22 => ?_)
  obtain ⟨rfl, rfl⟩ := q22
  refine tg_steps 2 rfl ?_
  refine tg_pkV [0, 1, 2, 3, 4] ?_
  refine tg_eqS (L2 := [(0, .ref 0), (1, .int one), (2, .int kd), (3, .int f), (4, .int (nI (0)))]) (st2 := []) (w2 := (tp_cs n p (pNs (0 - 1) (becH (cpF t n) one kd f)) x, r)) rfl rfl rfl ?_
  refine tg_down (φ := fun i : Nat => (wiB n x one kd f = aI (wiP n x one kd f) (xTm x - (i)) (i)) → tg_V G 7 mX10_goesAsTold 0 0 0 0 (fun v w => v = some (.int (tg_b (wiB n x one kd f))) ∧ ∃ t2, w = (tp_cs n p t2 x, r)) 28 [(0, .ref 0), (1, .int one), (2, .int kd), (3, .int f), (4, .int (nI (i)))] [] (tp_cs n p (pNs (i - 1) (becH (cpF t n) one kd f)) x, r)) (n := xTm x) ?_ ?_ 0 (Nat.zero_le _) (rfl)
  · intro hinv28
    refine tg_steps 3 rfl ?_
    refine tg_icge rfl rfl (fun h34 => ?_) (fun h34 => ?_)
    · refine tg_steps 1 rfl ?_
      exact tg_zret (st := []) rfl rfl ⟨Nat.le_of_ble_eq_true rfl, Nat.le_of_ble_eq_true rfl⟩ (by first | exact tg_b1 _ | exact Or.inl rfl | exact Or.inr rfl) ⟨by rw [hinv28, Nat.sub_self]; rfl, _, rfl⟩
    · exact absurd (nI_le (Nat.le_refl _) (by omega)) h34
  · intro i hi28 ih28 hinv28
    rw [show xTm x - i = xTm x - (i + 1) + 1 by omega, aI_succ] at hinv28
    refine tg_steps 3 rfl ?_
    refine tg_icge rfl rfl (fun h34 => ?_) (fun h34 => ?_)
    · exact absurd h34 (nI_ge hi28 (by omega))
    · refine tg_steps 1 rfl ?_
      refine tg_ifle rfl rfl (fun h39 => ?_) (fun h39 => ?_)
      · have hi0 : i = 0 := by
          rcases Nat.eq_zero_or_pos i with q | q
          · exact q
          · exact absurd h39 (nI_nle q (by omega))
        rw [show pNs (i - 1) (becH (cpF t n) one kd f) = pNs i (becH (cpF t n) one kd f) by rw [hi0]]
        refine tg_steps 4 rfl ?_
        refine tg_callV rfl (c_tileOf_2 (h := pNs i (becH (cpF t n) one kd f)) (pm7 (n := (becH (cpF t n) one kd f)) hm _) _) rfl rfl rfl rfl rfl (fun v61 w61 q61 => ?_)
        obtain ⟨rfl, rfl⟩ := q61
        rw [wi_T hm]
        refine tg_steps 3 rfl ?_
        refine tg_ialdN rfl rfl (i) rfl (by omega) (by decide) ?_
        refine tg_iceq rfl rfl (fun h71 => ?_) (fun h71 => ?_)
        · refine tg_steps 2 rfl ?_
          refine tg_pkV [0, 1, 2, 3, 4] ?_
          refine tg_eqS (L2 := [(0, .ref 0), (1, .int one), (2, .int kd), (3, .int f), (4, .int (nI (i + 1)))]) (st2 := []) (w2 := (tp_cs n p (pNs (i + 1 - 1) (becH (cpF t n) one kd f)) x, r)) (by first | rfl | (simp (decide := true) only [nI_succ, decide_true, decide_false, cond_true, cond_false, Bool.false_eq_true, if_true, if_false, ite_true, ite_false, eq_true h71]; done) | (simp (decide := true) only [nI_succ, decide_true, decide_false, cond_true, cond_false, Bool.false_eq_true, if_true, if_false, ite_true, ite_false, eq_true h71]; rfl)) rfl (by first | rfl | (simp (decide := true) only [nI_succ, decide_true, decide_false, cond_true, cond_false, Bool.false_eq_true, if_true, if_false, ite_true, ite_false, eq_true h71]; done) | (simp (decide := true) only [nI_succ, decide_true, decide_false, cond_true, cond_false, Bool.false_eq_true, if_true, if_false, ite_true, ite_false, eq_true h71]; rfl)) ?_
          exact ih28 (by simp only [wiP, decide_true, decide_false, cond_true, cond_false, Bool.false_eq_true, if_true, if_false, ite_true, ite_false, eq_true h71] at hinv28; exact hinv28)
        · refine tg_steps 1 rfl ?_
          exact tg_zret (st := []) rfl rfl ⟨Nat.le_of_ble_eq_true rfl, Nat.le_of_ble_eq_true rfl⟩ (by first | exact tg_b1 _ | exact Or.inl rfl | exact Or.inr rfl) ⟨by simp only [wiP, decide_true, decide_false, cond_true, cond_false, Bool.false_eq_true, if_true, if_false, ite_true, ite_false, h71] at hinv28; rw [hinv28]; rfl, _, rfl⟩
      · have hi0 : 0 < i := by
          rcases Nat.eq_zero_or_pos i with q | q
          · exact absurd (by rw [q]; decide) h39
          · exact q
        have hpn : pNt (pNs (i - 1) (becH (cpF t n) one kd f)) = pNs i (becH (cpF t n) one kd f) := by rw [← pNs_succ, show i - 1 + 1 = i by omega]
        refine tg_steps 3 rfl ?_
        refine tg_callV rfl (c_passNight_2 (h := pNs (i - 1) (becH (cpF t n) one kd f)) (pm7 (n := (becH (cpF t n) one kd f)) hm _)) rfl rfl rfl rfl rfl (fun v49 w49 q49 => ?_)
        obtain ⟨rfl, rfl⟩ := q49
        rw [hpn]
        refine tg_steps 5 rfl ?_
        refine tg_callV rfl (c_tileOf_2 (h := pNs i (becH (cpF t n) one kd f)) (pm7 (n := (becH (cpF t n) one kd f)) hm _) _) rfl rfl rfl rfl rfl (fun v61 w61 q61 => ?_)
        obtain ⟨rfl, rfl⟩ := q61
        rw [wi_T hm]
        refine tg_steps 3 rfl ?_
        refine tg_ialdN rfl rfl (i) rfl (by omega) (by decide) ?_
        refine tg_iceq rfl rfl (fun h71 => ?_) (fun h71 => ?_)
        · refine tg_steps 2 rfl ?_
          refine tg_pkV [0, 1, 2, 3, 4] ?_
          refine tg_eqS (L2 := [(0, .ref 0), (1, .int one), (2, .int kd), (3, .int f), (4, .int (nI (i + 1)))]) (st2 := []) (w2 := (tp_cs n p (pNs (i + 1 - 1) (becH (cpF t n) one kd f)) x, r)) (by first | rfl | (simp (decide := true) only [nI_succ, decide_true, decide_false, cond_true, cond_false, Bool.false_eq_true, if_true, if_false, ite_true, ite_false, eq_true h71]; done) | (simp (decide := true) only [nI_succ, decide_true, decide_false, cond_true, cond_false, Bool.false_eq_true, if_true, if_false, ite_true, ite_false, eq_true h71]; rfl)) rfl (by first | rfl | (simp (decide := true) only [nI_succ, decide_true, decide_false, cond_true, cond_false, Bool.false_eq_true, if_true, if_false, ite_true, ite_false, eq_true h71]; done) | (simp (decide := true) only [nI_succ, decide_true, decide_false, cond_true, cond_false, Bool.false_eq_true, if_true, if_false, ite_true, ite_false, eq_true h71]; rfl)) ?_
          exact ih28 (by simp only [wiP, decide_true, decide_false, cond_true, cond_false, Bool.false_eq_true, if_true, if_false, ite_true, ite_false, eq_true h71] at hinv28; exact hinv28)
        · refine tg_steps 1 rfl ?_
          exact tg_zret (st := []) rfl rfl ⟨Nat.le_of_ble_eq_true rfl, Nat.le_of_ble_eq_true rfl⟩ (by first | exact tg_b1 _ | exact Or.inl rfl | exact Or.inr rfl) ⟨by simp only [wiP, decide_true, decide_false, cond_true, cond_false, Bool.false_eq_true, if_true, if_false, ite_true, ite_false, h71] at hinv28; rw [hinv28]; rfl, _, rfl⟩
set_option maxRecDepth 100000 in
set_option maxHeartbeats 2000000 in
theorem q_whatIs {G : tg_G} {n p t : tp_H} {x : tp_X} {r : List tg_Cl} (hm : hM n ≤ 7) (ht : xTm x ≤ 16) (one : Int32) (what : Int32) : tg_C G 8 mX10_whatIs 0 0 [.ref 0, .int one, .int what] (tp_cs n p t x, r) (pQ (wHaW n one what) (.int (wHaW n one what)) (.int (aWha n x one what)) n p x (n) (p) (x) r) := by
  refine tg_intro okX10_whatIs (Nat.le_of_ble_eq_true rfl) ?_
  refine tg_steps 3 rfl ?_
  refine tg_callV rfl (c_has_0 _) rfl rfl rfl rfl rfl (fun v5 w5 q5 => ?_)
  obtain ⟨rfl, rfl⟩ := q5
  refine tg_ifbne rfl rfl (fun h8 => ?_) (fun h8 => ?_)
  · refine tg_steps 2 rfl ?_
    refine tg_call1 rfl (c_isUpTo _ _) rfl rfl rfl  (fun v19 w19 q19 => ?_)
    obtain ⟨rfl, rfl⟩ := q19
    refine tg_ifbne rfl rfl (fun h22 => ?_) (fun h22 => ?_)
    · refine tg_steps 3 rfl ?_
      refine tg_ifne rfl rfl (fun h35 => ?_) (fun h35 => ?_)
      · refine tg_steps 4 rfl ?_
        refine tg_pkV [0, 1, 2, 3, 4, 5] ?_
        refine tg_eqS (L2 := [(0, .ref 0), (1, .int one), (2, .int what), (3, .int (bI (whP n x one what) (0))), (4, .int (nI (laN what))), (5, .int (nI (0)))]) (st2 := []) (w2 := _) (by first | (rw [la_0 h35]; rfl) | (rw [la_1 h35]; rfl)) rfl rfl ?_
        refine tg_down (φ := fun g : Nat => ∀ (t2 : tp_H), tg_V G 8 mX10_whatIs 0 0 0 0 (pQ (wHaW n one what) (.int (wHaW n one what)) (.int (aWha n x one what)) n p x (n) (p) (x) r) 49 [(0, .ref 0), (1, .int one), (2, .int what), (3, .int (bI (whP n x one what) (g))), (4, .int (nI (laN what))), (5, .int (nI (g)))] [] (tp_cs n p (t2) x, r)) (n := laN what + 1) ?_ ?_ 0 (Nat.zero_le _) _ 
        · intro t2
          refine tg_steps 2 rfl ?_
          refine tg_icgt rfl rfl (fun h53 => ?_) (fun h53 => ?_)
          · refine tg_steps 1 rfl ?_
            exact tg_iret (st := []) rfl rfl ⟨Nat.le_of_ble_eq_true rfl, Nat.le_of_ble_eq_true rfl⟩ (pQ_ok (by first | rfl | (simp (decide := true) only [wHaW, decide_true, decide_false, cond_true, cond_false, Bool.false_eq_true, if_true, if_false, ite_true, ite_false, h8, h22, h35]; done) | (simp (decide := true) only [wHaW, decide_true, decide_false, cond_true, cond_false, Bool.false_eq_true, if_true, if_false, ite_true, ite_false, h8, h22, h35]; done) | (simp (decide := true) only [wHaW, decide_true, decide_false, cond_true, cond_false, Bool.false_eq_true, if_true, if_false, ite_true, ite_false, h8, h22, h35]; rfl)) rfl (eqH_rf _) (eqH_rf _) ⟨rfl, rfl, rfl, rfl, rfl, rfl⟩)
          · exact absurd (nI_lt (Nat.lt_succ_self _) (by have := laN_le what; omega)) h53
        · intro g hi49 ih49 t2
          refine tg_steps 2 rfl ?_
          refine tg_icgt rfl rfl (fun h53 => ?_) (fun h53 => ?_)
          · exact absurd h53 (nI_nlt (a := laN what) (b := g) (by omega) (by have := laN_le what; omega))
          · refine tg_steps 1 rfl ?_
            refine tg_ifne rfl rfl (fun h57 => ?_) (fun h57 => ?_)
            · refine tg_steps 3 rfl ?_
              refine tg_callV rfl (c_kindOf_0 hm _) rfl rfl rfl rfl rfl (fun v70 w70 q70 => ?_)
              obtain ⟨rfl, rfl⟩ := q70
              refine tg_steps 2 rfl ?_
              refine tg_ifne rfl rfl (fun h76 => ?_) (fun h76 => ?_)
              · refine tg_steps 6 rfl ?_
                refine tg_callV rfl (c_goesAsTold hm ht _ _ _) rfl rfl rfl rfl rfl (fun v100 w100 q100 => ?_)
                obtain ⟨rfl, t3, rfl⟩ := q100
                refine tg_ifbeq rfl rfl (fun h103 => ?_) (fun h103 => ?_)
                · refine tg_steps 2 rfl ?_
                  refine tg_pkV [0, 1, 2, 3, 4, 5] ?_
                  refine tg_eqS (L2 := [(0, .ref 0), (1, .int one), (2, .int what), (3, .int (bI (whP n x one what) (g + 1))), (4, .int (nI (laN what))), (5, .int (nI (g + 1)))]) (st2 := []) (w2 := _) (by first | rfl | (simp (decide := true) only [nI_succ, bI_succ, whP, decide_true, decide_false, cond_true, cond_false, Bool.false_eq_true, if_true, if_false, ite_true, ite_false, h8, h22, h35, h57, h76, h103]; done) | (simp (decide := true) only [nI_succ, bI_succ, whP, decide_true, decide_false, cond_true, cond_false, Bool.false_eq_true, if_true, if_false, ite_true, ite_false, h8, h22, h35, h57, h76, h103]; rfl)) rfl rfl ?_
                  exact ih49 _
                · refine tg_steps 8 rfl ?_
                  refine tg_pkV [0, 1, 2, 3, 4, 5] ?_
                  refine tg_eqS (L2 := [(0, .ref 0), (1, .int one), (2, .int what), (3, .int (bI (whP n x one what) (g + 1))), (4, .int (nI (laN what))), (5, .int (nI (g + 1)))]) (st2 := []) (w2 := _) (by first | rfl | (simp (decide := true) only [nI_succ, bI_succ, whP, decide_true, decide_false, cond_true, cond_false, Bool.false_eq_true, if_true, if_false, ite_true, ite_false, h8, h22, h35, h57, h76, h103]; done) | (simp (decide := true) only [nI_succ, bI_succ, whP, decide_true, decide_false, cond_true, cond_false, Bool.false_eq_true, if_true, if_false, ite_true, ite_false, h8, h22, h35, h57, h76, h103]; rfl)) rfl rfl ?_
                  exact ih49 _
              · refine tg_steps 3 rfl ?_
                refine tg_callV rfl (c_figureOf_0 hm _) rfl rfl rfl rfl rfl (fun v84 w84 q84 => ?_)
                obtain ⟨rfl, rfl⟩ := q84
                refine tg_steps 6 rfl ?_
                refine tg_callV rfl (c_goesAsTold hm ht _ _ _) rfl rfl rfl rfl rfl (fun v100 w100 q100 => ?_)
                obtain ⟨rfl, t3, rfl⟩ := q100
                refine tg_ifbeq rfl rfl (fun h103 => ?_) (fun h103 => ?_)
                · refine tg_steps 2 rfl ?_
                  refine tg_pkV [0, 1, 2, 3, 4, 5] ?_
                  refine tg_eqS (L2 := [(0, .ref 0), (1, .int one), (2, .int what), (3, .int (bI (whP n x one what) (g + 1))), (4, .int (nI (laN what))), (5, .int (nI (g + 1)))]) (st2 := []) (w2 := _) (by first | rfl | (simp (decide := true) only [nI_succ, bI_succ, whP, decide_true, decide_false, cond_true, cond_false, Bool.false_eq_true, if_true, if_false, ite_true, ite_false, h8, h22, h35, h57, eq_true h76, h103]; done) | (simp (decide := true) only [nI_succ, bI_succ, whP, decide_true, decide_false, cond_true, cond_false, Bool.false_eq_true, if_true, if_false, ite_true, ite_false, h8, h22, h35, h57, eq_true h76, h103]; rfl)) rfl rfl ?_
                  exact ih49 _
                · refine tg_steps 8 rfl ?_
                  refine tg_pkV [0, 1, 2, 3, 4, 5] ?_
                  refine tg_eqS (L2 := [(0, .ref 0), (1, .int one), (2, .int what), (3, .int (bI (whP n x one what) (g + 1))), (4, .int (nI (laN what))), (5, .int (nI (g + 1)))]) (st2 := []) (w2 := _) (by first | rfl | (simp (decide := true) only [nI_succ, bI_succ, whP, decide_true, decide_false, cond_true, cond_false, Bool.false_eq_true, if_true, if_false, ite_true, ite_false, h8, h22, h35, h57, eq_true h76, h103]; done) | (simp (decide := true) only [nI_succ, bI_succ, whP, decide_true, decide_false, cond_true, cond_false, Bool.false_eq_true, if_true, if_false, ite_true, ite_false, h8, h22, h35, h57, eq_true h76, h103]; rfl)) rfl rfl ?_
                  exact ih49 _
            · refine tg_steps 4 rfl ?_
              refine tg_ifne rfl rfl (fun h76 => ?_) (fun h76 => ?_)
              · refine tg_steps 6 rfl ?_
                refine tg_callV rfl (c_goesAsTold hm ht _ _ _) rfl rfl rfl rfl rfl (fun v100 w100 q100 => ?_)
                obtain ⟨rfl, t3, rfl⟩ := q100
                refine tg_ifbeq rfl rfl (fun h103 => ?_) (fun h103 => ?_)
                · refine tg_steps 2 rfl ?_
                  refine tg_pkV [0, 1, 2, 3, 4, 5] ?_
                  refine tg_eqS (L2 := [(0, .ref 0), (1, .int one), (2, .int what), (3, .int (bI (whP n x one what) (g + 1))), (4, .int (nI (laN what))), (5, .int (nI (g + 1)))]) (st2 := []) (w2 := _) (by first | rfl | (simp (decide := true) only [nI_succ, bI_succ, whP, decide_true, decide_false, cond_true, cond_false, Bool.false_eq_true, if_true, if_false, ite_true, ite_false, h8, h22, h35, eq_true h57, h76, h103]; done) | (simp (decide := true) only [nI_succ, bI_succ, whP, decide_true, decide_false, cond_true, cond_false, Bool.false_eq_true, if_true, if_false, ite_true, ite_false, h8, h22, h35, eq_true h57, h76, h103]; rfl)) rfl rfl ?_
                  exact ih49 _
                · refine tg_steps 8 rfl ?_
                  refine tg_pkV [0, 1, 2, 3, 4, 5] ?_
                  refine tg_eqS (L2 := [(0, .ref 0), (1, .int one), (2, .int what), (3, .int (bI (whP n x one what) (g + 1))), (4, .int (nI (laN what))), (5, .int (nI (g + 1)))]) (st2 := []) (w2 := _) (by first | rfl | (simp (decide := true) only [nI_succ, bI_succ, whP, decide_true, decide_false, cond_true, cond_false, Bool.false_eq_true, if_true, if_false, ite_true, ite_false, h8, h22, h35, eq_true h57, h76, h103]; done) | (simp (decide := true) only [nI_succ, bI_succ, whP, decide_true, decide_false, cond_true, cond_false, Bool.false_eq_true, if_true, if_false, ite_true, ite_false, h8, h22, h35, eq_true h57, h76, h103]; rfl)) rfl rfl ?_
                  exact ih49 _
              · refine tg_steps 3 rfl ?_
                refine tg_callV rfl (c_figureOf_0 hm _) rfl rfl rfl rfl rfl (fun v84 w84 q84 => ?_)
                obtain ⟨rfl, rfl⟩ := q84
                refine tg_steps 6 rfl ?_
                refine tg_callV rfl (c_goesAsTold hm ht _ _ _) rfl rfl rfl rfl rfl (fun v100 w100 q100 => ?_)
                obtain ⟨rfl, t3, rfl⟩ := q100
                refine tg_ifbeq rfl rfl (fun h103 => ?_) (fun h103 => ?_)
                · refine tg_steps 2 rfl ?_
                  refine tg_pkV [0, 1, 2, 3, 4, 5] ?_
                  refine tg_eqS (L2 := [(0, .ref 0), (1, .int one), (2, .int what), (3, .int (bI (whP n x one what) (g + 1))), (4, .int (nI (laN what))), (5, .int (nI (g + 1)))]) (st2 := []) (w2 := _) (by first | rfl | (simp (decide := true) only [nI_succ, bI_succ, whP, decide_true, decide_false, cond_true, cond_false, Bool.false_eq_true, if_true, if_false, ite_true, ite_false, h8, h22, h35, eq_true h57, eq_true h76, h103]; done) | (simp (decide := true) only [nI_succ, bI_succ, whP, decide_true, decide_false, cond_true, cond_false, Bool.false_eq_true, if_true, if_false, ite_true, ite_false, h8, h22, h35, eq_true h57, eq_true h76, h103]; rfl)) rfl rfl ?_
                  exact ih49 _
                · refine tg_steps 8 rfl ?_
                  refine tg_pkV [0, 1, 2, 3, 4, 5] ?_
                  refine tg_eqS (L2 := [(0, .ref 0), (1, .int one), (2, .int what), (3, .int (bI (whP n x one what) (g + 1))), (4, .int (nI (laN what))), (5, .int (nI (g + 1)))]) (st2 := []) (w2 := _) (by first | rfl | (simp (decide := true) only [nI_succ, bI_succ, whP, decide_true, decide_false, cond_true, cond_false, Bool.false_eq_true, if_true, if_false, ite_true, ite_false, h8, h22, h35, eq_true h57, eq_true h76, h103]; done) | (simp (decide := true) only [nI_succ, bI_succ, whP, decide_true, decide_false, cond_true, cond_false, Bool.false_eq_true, if_true, if_false, ite_true, ite_false, h8, h22, h35, eq_true h57, eq_true h76, h103]; rfl)) rfl rfl ?_
                  exact ih49 _
      · refine tg_steps 5 rfl ?_
        refine tg_pkV [0, 1, 2, 3, 4, 5] ?_
        refine tg_eqS (L2 := [(0, .ref 0), (1, .int one), (2, .int what), (3, .int (bI (whP n x one what) (0))), (4, .int (nI (laN what))), (5, .int (nI (0)))]) (st2 := []) (w2 := _) (by first | (rw [la_0 h35]; rfl) | (rw [la_1 h35]; rfl)) rfl rfl ?_
        refine tg_down (φ := fun g : Nat => ∀ (t2 : tp_H), tg_V G 8 mX10_whatIs 0 0 0 0 (pQ (wHaW n one what) (.int (wHaW n one what)) (.int (aWha n x one what)) n p x (n) (p) (x) r) 49 [(0, .ref 0), (1, .int one), (2, .int what), (3, .int (bI (whP n x one what) (g))), (4, .int (nI (laN what))), (5, .int (nI (g)))] [] (tp_cs n p (t2) x, r)) (n := laN what + 1) ?_ ?_ 0 (Nat.zero_le _) _ 
        · intro t2
          refine tg_steps 2 rfl ?_
          refine tg_icgt rfl rfl (fun h53 => ?_) (fun h53 => ?_)
          · refine tg_steps 1 rfl ?_
            exact tg_iret (st := []) rfl rfl ⟨Nat.le_of_ble_eq_true rfl, Nat.le_of_ble_eq_true rfl⟩ (pQ_ok (by first | rfl | (simp (decide := true) only [wHaW, decide_true, decide_false, cond_true, cond_false, Bool.false_eq_true, if_true, if_false, ite_true, ite_false, h8, h22, eq_true h35]; done) | (simp (decide := true) only [wHaW, decide_true, decide_false, cond_true, cond_false, Bool.false_eq_true, if_true, if_false, ite_true, ite_false, h8, h22, h35]; done) | (simp (decide := true) only [wHaW, decide_true, decide_false, cond_true, cond_false, Bool.false_eq_true, if_true, if_false, ite_true, ite_false, h8, h22, eq_true h35]; rfl)) rfl (eqH_rf _) (eqH_rf _) ⟨rfl, rfl, rfl, rfl, rfl, rfl⟩)
          · exact absurd (nI_lt (Nat.lt_succ_self _) (by have := laN_le what; omega)) h53
        · intro g hi49 ih49 t2
          refine tg_steps 2 rfl ?_
          refine tg_icgt rfl rfl (fun h53 => ?_) (fun h53 => ?_)
          · exact absurd h53 (nI_nlt (a := laN what) (b := g) (by omega) (by have := laN_le what; omega))
          · refine tg_steps 1 rfl ?_
            refine tg_ifne rfl rfl (fun h57 => ?_) (fun h57 => ?_)
            · refine tg_steps 3 rfl ?_
              refine tg_callV rfl (c_kindOf_0 hm _) rfl rfl rfl rfl rfl (fun v70 w70 q70 => ?_)
              obtain ⟨rfl, rfl⟩ := q70
              refine tg_steps 2 rfl ?_
              refine tg_ifne rfl rfl (fun h76 => ?_) (fun h76 => ?_)
              · refine tg_steps 6 rfl ?_
                refine tg_callV rfl (c_goesAsTold hm ht _ _ _) rfl rfl rfl rfl rfl (fun v100 w100 q100 => ?_)
                obtain ⟨rfl, t3, rfl⟩ := q100
                refine tg_ifbeq rfl rfl (fun h103 => ?_) (fun h103 => ?_)
                · refine tg_steps 2 rfl ?_
                  refine tg_pkV [0, 1, 2, 3, 4, 5] ?_
                  refine tg_eqS (L2 := [(0, .ref 0), (1, .int one), (2, .int what), (3, .int (bI (whP n x one what) (g + 1))), (4, .int (nI (laN what))), (5, .int (nI (g + 1)))]) (st2 := []) (w2 := _) (by first | rfl | (simp (decide := true) only [nI_succ, bI_succ, whP, decide_true, decide_false, cond_true, cond_false, Bool.false_eq_true, if_true, if_false, ite_true, ite_false, h8, h22, eq_true h35, h57, h76, h103]; done) | (simp (decide := true) only [nI_succ, bI_succ, whP, decide_true, decide_false, cond_true, cond_false, Bool.false_eq_true, if_true, if_false, ite_true, ite_false, h8, h22, eq_true h35, h57, h76, h103]; rfl)) rfl rfl ?_
                  exact ih49 _
                · refine tg_steps 8 rfl ?_
                  refine tg_pkV [0, 1, 2, 3, 4, 5] ?_
                  refine tg_eqS (L2 := [(0, .ref 0), (1, .int one), (2, .int what), (3, .int (bI (whP n x one what) (g + 1))), (4, .int (nI (laN what))), (5, .int (nI (g + 1)))]) (st2 := []) (w2 := _) (by first | rfl | (simp (decide := true) only [nI_succ, bI_succ, whP, decide_true, decide_false, cond_true, cond_false, Bool.false_eq_true, if_true, if_false, ite_true, ite_false, h8, h22, eq_true h35, h57, h76, h103]; done) | (simp (decide := true) only [nI_succ, bI_succ, whP, decide_true, decide_false, cond_true, cond_false, Bool.false_eq_true, if_true, if_false, ite_true, ite_false, h8, h22, eq_true h35, h57, h76, h103]; rfl)) rfl rfl ?_
                  exact ih49 _
              · refine tg_steps 3 rfl ?_
                refine tg_callV rfl (c_figureOf_0 hm _) rfl rfl rfl rfl rfl (fun v84 w84 q84 => ?_)
                obtain ⟨rfl, rfl⟩ := q84
                refine tg_steps 6 rfl ?_
                refine tg_callV rfl (c_goesAsTold hm ht _ _ _) rfl rfl rfl rfl rfl (fun v100 w100 q100 => ?_)
                obtain ⟨rfl, t3, rfl⟩ := q100
                refine tg_ifbeq rfl rfl (fun h103 => ?_) (fun h103 => ?_)
                · refine tg_steps 2 rfl ?_
                  refine tg_pkV [0, 1, 2, 3, 4, 5] ?_
                  refine tg_eqS (L2 := [(0, .ref 0), (1, .int one), (2, .int what), (3, .int (bI (whP n x one what) (g + 1))), (4, .int (nI (laN what))), (5, .int (nI (g + 1)))]) (st2 := []) (w2 := _) (by first | rfl | (simp (decide := true) only [nI_succ, bI_succ, whP, decide_true, decide_false, cond_true, cond_false, Bool.false_eq_true, if_true, if_false, ite_true, ite_false, h8, h22, eq_true h35, h57, eq_true h76, h103]; done) | (simp (decide := true) only [nI_succ, bI_succ, whP, decide_true, decide_false, cond_true, cond_false, Bool.false_eq_true, if_true, if_false, ite_true, ite_false, h8, h22, eq_true h35, h57, eq_true h76, h103]; rfl)) rfl rfl ?_
                  exact ih49 _
                · refine tg_steps 8 rfl ?_
                  refine tg_pkV [0, 1, 2, 3, 4, 5] ?_
                  refine tg_eqS (L2 := [(0, .ref 0), (1, .int one), (2, .int what), (3, .int (bI (whP n x one what) (g + 1))), (4, .int (nI (laN what))), (5, .int (nI (g + 1)))]) (st2 := []) (w2 := _) (by first | rfl | (simp (decide := true) only [nI_succ, bI_succ, whP, decide_true, decide_false, cond_true, cond_false, Bool.false_eq_true, if_true, if_false, ite_true, ite_false, h8, h22, eq_true h35, h57, eq_true h76, h103]; done) | (simp (decide := true) only [nI_succ, bI_succ, whP, decide_true, decide_false, cond_true, cond_false, Bool.false_eq_true, if_true, if_false, ite_true, ite_false, h8, h22, eq_true h35, h57, eq_true h76, h103]; rfl)) rfl rfl ?_
                  exact ih49 _
            · refine tg_steps 4 rfl ?_
              refine tg_ifne rfl rfl (fun h76 => ?_) (fun h76 => ?_)
              · refine tg_steps 6 rfl ?_
                refine tg_callV rfl (c_goesAsTold hm ht _ _ _) rfl rfl rfl rfl rfl (fun v100 w100 q100 => ?_)
                obtain ⟨rfl, t3, rfl⟩ := q100
                refine tg_ifbeq rfl rfl (fun h103 => ?_) (fun h103 => ?_)
                · refine tg_steps 2 rfl ?_
                  refine tg_pkV [0, 1, 2, 3, 4, 5] ?_
                  refine tg_eqS (L2 := [(0, .ref 0), (1, .int one), (2, .int what), (3, .int (bI (whP n x one what) (g + 1))), (4, .int (nI (laN what))), (5, .int (nI (g + 1)))]) (st2 := []) (w2 := _) (by first | rfl | (simp (decide := true) only [nI_succ, bI_succ, whP, decide_true, decide_false, cond_true, cond_false, Bool.false_eq_true, if_true, if_false, ite_true, ite_false, h8, h22, eq_true h35, eq_true h57, h76, h103]; done) | (simp (decide := true) only [nI_succ, bI_succ, whP, decide_true, decide_false, cond_true, cond_false, Bool.false_eq_true, if_true, if_false, ite_true, ite_false, h8, h22, eq_true h35, eq_true h57, h76, h103]; rfl)) rfl rfl ?_
                  exact ih49 _
                · refine tg_steps 8 rfl ?_
                  refine tg_pkV [0, 1, 2, 3, 4, 5] ?_
                  refine tg_eqS (L2 := [(0, .ref 0), (1, .int one), (2, .int what), (3, .int (bI (whP n x one what) (g + 1))), (4, .int (nI (laN what))), (5, .int (nI (g + 1)))]) (st2 := []) (w2 := _) (by first | rfl | (simp (decide := true) only [nI_succ, bI_succ, whP, decide_true, decide_false, cond_true, cond_false, Bool.false_eq_true, if_true, if_false, ite_true, ite_false, h8, h22, eq_true h35, eq_true h57, h76, h103]; done) | (simp (decide := true) only [nI_succ, bI_succ, whP, decide_true, decide_false, cond_true, cond_false, Bool.false_eq_true, if_true, if_false, ite_true, ite_false, h8, h22, eq_true h35, eq_true h57, h76, h103]; rfl)) rfl rfl ?_
                  exact ih49 _
              · refine tg_steps 3 rfl ?_
                refine tg_callV rfl (c_figureOf_0 hm _) rfl rfl rfl rfl rfl (fun v84 w84 q84 => ?_)
                obtain ⟨rfl, rfl⟩ := q84
                refine tg_steps 6 rfl ?_
                refine tg_callV rfl (c_goesAsTold hm ht _ _ _) rfl rfl rfl rfl rfl (fun v100 w100 q100 => ?_)
                obtain ⟨rfl, t3, rfl⟩ := q100
                refine tg_ifbeq rfl rfl (fun h103 => ?_) (fun h103 => ?_)
                · refine tg_steps 2 rfl ?_
                  refine tg_pkV [0, 1, 2, 3, 4, 5] ?_
                  refine tg_eqS (L2 := [(0, .ref 0), (1, .int one), (2, .int what), (3, .int (bI (whP n x one what) (g + 1))), (4, .int (nI (laN what))), (5, .int (nI (g + 1)))]) (st2 := []) (w2 := _) (by first | rfl | (simp (decide := true) only [nI_succ, bI_succ, whP, decide_true, decide_false, cond_true, cond_false, Bool.false_eq_true, if_true, if_false, ite_true, ite_false, h8, h22, eq_true h35, eq_true h57, eq_true h76, h103]; done) | (simp (decide := true) only [nI_succ, bI_succ, whP, decide_true, decide_false, cond_true, cond_false, Bool.false_eq_true, if_true, if_false, ite_true, ite_false, h8, h22, eq_true h35, eq_true h57, eq_true h76, h103]; rfl)) rfl rfl ?_
                  exact ih49 _
                · refine tg_steps 8 rfl ?_
                  refine tg_pkV [0, 1, 2, 3, 4, 5] ?_
                  refine tg_eqS (L2 := [(0, .ref 0), (1, .int one), (2, .int what), (3, .int (bI (whP n x one what) (g + 1))), (4, .int (nI (laN what))), (5, .int (nI (g + 1)))]) (st2 := []) (w2 := _) (by first | rfl | (simp (decide := true) only [nI_succ, bI_succ, whP, decide_true, decide_false, cond_true, cond_false, Bool.false_eq_true, if_true, if_false, ite_true, ite_false, h8, h22, eq_true h35, eq_true h57, eq_true h76, h103]; done) | (simp (decide := true) only [nI_succ, bI_succ, whP, decide_true, decide_false, cond_true, cond_false, Bool.false_eq_true, if_true, if_false, ite_true, ite_false, h8, h22, eq_true h35, eq_true h57, eq_true h76, h103]; rfl)) rfl rfl ?_
                  exact ih49 _
    · refine tg_steps 2 rfl ?_
      refine tg_callV rfl (c_refuse (-2) (by decide)) rfl rfl rfl rfl rfl (fun v28 w28 q28 => ?_)
      obtain ⟨rfl, rfl⟩ := q28
      exact tg_iret (st := []) rfl rfl ⟨Nat.le_of_ble_eq_true rfl, Nat.le_of_ble_eq_true rfl⟩ (pQ_refI (by first | rfl | (simp (decide := true) only [wHaW, decide_true, decide_false, cond_true, cond_false, Bool.false_eq_true, if_true, if_false, ite_true, ite_false, h8, h22]; done) | (simp (decide := true) only [wHaW, decide_true, decide_false, cond_true, cond_false, Bool.false_eq_true, if_true, if_false, ite_true, ite_false, h8, h22]; done) | (simp (decide := true) only [wHaW, decide_true, decide_false, cond_true, cond_false, Bool.false_eq_true, if_true, if_false, ite_true, ite_false, h8, h22]; rfl)) (by first | decide | exact rf_bor _))
  · refine tg_steps 2 rfl ?_
    refine tg_callV rfl (c_refuse (-1) (by decide)) rfl rfl rfl rfl rfl (fun v13 w13 q13 => ?_)
    obtain ⟨rfl, rfl⟩ := q13
    exact tg_iret (st := []) rfl rfl ⟨Nat.le_of_ble_eq_true rfl, Nat.le_of_ble_eq_true rfl⟩ (pQ_refI (by first | rfl | (simp (decide := true) only [wHaW, decide_true, decide_false, cond_true, cond_false, Bool.false_eq_true, if_true, if_false, ite_true, ite_false, h8]; done) | (simp (decide := true) only [wHaW, decide_true, decide_false, cond_true, cond_false, Bool.false_eq_true, if_true, if_false, ite_true, ite_false, h8]; done) | (simp (decide := true) only [wHaW, decide_true, decide_false, cond_true, cond_false, Bool.false_eq_true, if_true, if_false, ite_true, ite_false, h8]; rfl)) (by first | decide | exact rf_bor _))
set_option maxRecDepth 100000 in
set_option maxHeartbeats 2000000 in
theorem q_row {G : tg_G} {n p t : tp_H} {x : tp_X} {r : List tg_Cl} (ht : xTm x ≤ 16) (v : Int32) : tg_C G 2 mX10_row 0 0 [.ref 0, .int v] (tp_cs n p t x, r) (pQ (wRow x v) (.int (wRow x v)) (.int (nI (xTm x + 1))) n p x (n) (p) (XRow x v) r) := by
  refine tg_intro okX10_row (Nat.le_of_ble_eq_true rfl) ?_
  refine tg_steps 1 rfl ?_
  refine tg_ifge rfl rfl (fun h1 => ?_) (fun h1 => ?_)
  · refine tg_steps 2 rfl ?_
    refine tg_icgt rfl rfl (fun h14 => ?_) (fun h14 => ?_)
    · refine tg_steps 2 rfl ?_
      refine tg_callV rfl (c_refuse (-6) (by decide)) rfl rfl rfl rfl rfl (fun v29 w29 q29 => ?_)
      obtain ⟨rfl, rfl⟩ := q29
      exact tg_iret (st := []) rfl rfl ⟨Nat.le_of_ble_eq_true rfl, Nat.le_of_ble_eq_true rfl⟩ (pQ_refI (by first | rfl | (simp (decide := true) only [wRow, decide_true, decide_false, cond_true, cond_false, Bool.false_eq_true, if_true, if_false, ite_true, ite_false, h1, Int32.not_lt.mpr h1, h14, Int32.not_le.mpr h14]; done) | (simp (decide := true) only [wRow, decide_true, decide_false, cond_true, cond_false, Bool.false_eq_true, if_true, if_false, ite_true, ite_false, h1, Int32.not_lt.mpr h1, h14, Int32.not_le.mpr h14]; done) | (simp (decide := true) only [wRow, decide_true, decide_false, cond_true, cond_false, Bool.false_eq_true, if_true, if_false, ite_true, ite_false, h1, Int32.not_lt.mpr h1, h14, Int32.not_le.mpr h14]; rfl)) (by first | decide | exact rf_bor _))
    · refine tg_steps 3 rfl ?_
      refine tg_iclt rfl rfl (fun h23 => ?_) (fun h23 => ?_)
      · have hl2 : xTm x < 16 := by
          rcases Nat.lt_or_ge (xTm x) 16 with q | q
          · exact q
          · exact absurd h23 (nI_nlt (a := xTm x) (b := 16) q (by omega))
        refine tg_steps 5 rfl ?_
        refine tg_iastN rfl rfl (xTm x) rfl hl2 (by decide) ?_
        refine tg_eqW (w_To _) ?_
        refine tg_steps 6 rfl ?_
        rw [nI_p1, e_TmTo]
        refine tg_eqW (w_Tm _) ?_
        refine tg_steps 2 rfl ?_
        exact tg_iret (st := []) rfl rfl ⟨Nat.le_of_ble_eq_true rfl, Nat.le_of_ble_eq_true rfl⟩ (pQ_ok (by first | rfl | (simp (decide := true) only [wRow, decide_true, decide_false, cond_true, cond_false, Bool.false_eq_true, if_true, if_false, ite_true, ite_false, h1, Int32.not_lt.mpr h1, h14, Int32.not_lt.mp h14, h23, Int32.not_le.mpr h23]; done) | (simp (decide := true) only [wRow, decide_true, decide_false, cond_true, cond_false, Bool.false_eq_true, if_true, if_false, ite_true, ite_false, h1, Int32.not_lt.mpr h1, h14, Int32.not_lt.mp h14, h23, Int32.not_le.mpr h23]; done) | (simp (decide := true) only [wRow, decide_true, decide_false, cond_true, cond_false, Bool.false_eq_true, if_true, if_false, ite_true, ite_false, h1, Int32.not_lt.mpr h1, h14, Int32.not_lt.mp h14, h23, Int32.not_le.mpr h23]; rfl)) rfl (eqH_rf _) (eqH_rf _) ⟨rfl, rfl, rfl, rfl, rfl, rfl⟩)
      · refine tg_steps 2 rfl ?_
        refine tg_callV rfl (c_refuse (-6) (by decide)) rfl rfl rfl rfl rfl (fun v29 w29 q29 => ?_)
        obtain ⟨rfl, rfl⟩ := q29
        exact tg_iret (st := []) rfl rfl ⟨Nat.le_of_ble_eq_true rfl, Nat.le_of_ble_eq_true rfl⟩ (pQ_refI (by first | rfl | (simp (decide := true) only [wRow, decide_true, decide_false, cond_true, cond_false, Bool.false_eq_true, if_true, if_false, ite_true, ite_false, h1, Int32.not_lt.mpr h1, h14, Int32.not_lt.mp h14, h23, Int32.not_lt.mp h23]; done) | (simp (decide := true) only [wRow, decide_true, decide_false, cond_true, cond_false, Bool.false_eq_true, if_true, if_false, ite_true, ite_false, h1, Int32.not_lt.mpr h1, h14, Int32.not_lt.mp h14, h23, Int32.not_lt.mp h23]; done) | (simp (decide := true) only [wRow, decide_true, decide_false, cond_true, cond_false, Bool.false_eq_true, if_true, if_false, ite_true, ite_false, h1, Int32.not_lt.mpr h1, h14, Int32.not_lt.mp h14, h23, Int32.not_lt.mp h23]; rfl)) (by first | decide | exact rf_bor _))
  · refine tg_steps 2 rfl ?_
    refine tg_callV rfl (c_refuse (-4) (by decide)) rfl rfl rfl rfl rfl (fun v7 w7 q7 => ?_)
    obtain ⟨rfl, rfl⟩ := q7
    exact tg_iret (st := []) rfl rfl ⟨Nat.le_of_ble_eq_true rfl, Nat.le_of_ble_eq_true rfl⟩ (pQ_refI (by first | rfl | (simp (decide := true) only [wRow, decide_true, decide_false, cond_true, cond_false, Bool.false_eq_true, if_true, if_false, ite_true, ite_false, h1, Int32.not_le.mp h1]; done) | (simp (decide := true) only [wRow, decide_true, decide_false, cond_true, cond_false, Bool.false_eq_true, if_true, if_false, ite_true, ite_false, h1, Int32.not_le.mp h1]; done) | (simp (decide := true) only [wRow, decide_true, decide_false, cond_true, cond_false, Bool.false_eq_true, if_true, if_false, ite_true, ite_false, h1, Int32.not_le.mp h1]; rfl)) (by first | decide | exact rf_bor _))
set_option maxRecDepth 100000 in
set_option maxHeartbeats 2000000 in
theorem c_clear {G : tg_G} {n p t : tp_H} {x : tp_X} {r : List tg_Cl} : tg_C G 1 mX10_clear 0 0 [.ref 0] (tp_cs n p t x, r) (fun v w => v = some (.int (nI (xTm x))) ∧ w = (tp_cs n p t (yTm x 0), r)) := by
  refine tg_intro okX10_clear (Nat.le_of_ble_eq_true rfl) ?_
  refine tg_steps 6 rfl ?_
  refine tg_eqW (w_Tm 0) ?_
  refine tg_steps 1 rfl ?_
  exact tg_iret (st := []) rfl rfl ⟨Nat.le_of_ble_eq_true rfl, Nat.le_of_ble_eq_true rfl⟩ ⟨rfl, rfl⟩
theorem q_clear {G : tg_G} {n p t : tp_H} {x : tp_X} {r : List tg_Cl} : tg_C G 1 mX10_clear 0 0 [.ref 0] (tp_cs n p t x, r) (pQ (0 : Int32) (.int (0 : Int32)) (.int (nI (xTm x))) n p x n p (yTm x 0) r) :=
  tg_wk_C c_clear (fun y w' q => by obtain ⟨rfl, rfl⟩ := q; exact pQ_ok rfl rfl (eqH_rf _) (eqH_rf _) ⟨rfl, rfl, rfl, rfl, rfl, rfl⟩)
set_option maxRecDepth 100000 in
set_option maxHeartbeats 2000000 in
theorem q_judge {G : tg_G} {n p t : tp_H} {x : tp_X} {r : List tg_Cl} (hm : hM n ≤ 7) (ht : xTm x ≤ 16) : tg_C G 3 mX10_judge 0 0 [.ref 0] (tp_cs n p t x, r) (pQ ((0 : Int32)) (.int ((0 : Int32))) (.int (aJud n x)) n p x (n) (p) (yTm x 0) r) := by
  refine tg_intro okX10_judge (Nat.le_of_ble_eq_true rfl) ?_
  refine tg_steps 1 rfl ?_
  refine tg_callV rfl (c_clear) rfl rfl rfl rfl rfl (fun v1 w1 q1 => ?_)
  obtain ⟨rfl, rfl⟩ := q1
  refine tg_steps 3 rfl ?_
  refine tg_pkV [0, 1, 2] ?_
  refine tg_eqS (L2 := [(0, .ref 0), (1, .int (nI (xTm x))), (2, .int (nI (0)))]) (st2 := []) (w2 := (tp_cs n p t (yTm x 0), r)) rfl rfl rfl ?_
  refine tg_down (φ := fun i : Nat => (aJud n x = fiV (juP n x) nI (-9) (xTm x - (i)) (i)) → tg_V G 3 mX10_judge 0 0 0 0 (pQ ((0 : Int32)) (.int ((0 : Int32))) (.int (aJud n x)) n p x (n) (p) (yTm x 0) r) 7 [(0, .ref 0), (1, .int (nI (xTm x))), (2, .int (nI (i)))] [] (tp_cs n p t (yTm x 0), r)) (n := xTm x) ?_ ?_ 0 (Nat.zero_le _) (rfl)
  · intro hinv7
    refine tg_steps 2 rfl ?_
    refine tg_icge rfl rfl (fun h9 => ?_) (fun h9 => ?_)
    · refine tg_steps 1 rfl ?_
      exact tg_iret (st := []) rfl rfl ⟨Nat.le_of_ble_eq_true rfl, Nat.le_of_ble_eq_true rfl⟩ (pQ_ok rfl (by rw [hinv7, Nat.sub_self]; rfl) (eqH_rf _) (eqH_rf _) ⟨rfl, rfl, rfl, rfl, rfl, rfl⟩)
    · exact absurd (nI_le (Nat.le_refl _) (by omega)) h9
  · intro i hi7 ih7 hinv7
    rw [show xTm x - i = xTm x - (i + 1) + 1 by omega, fiV_succ _ _ _ (xTm x - (i + 1)) i] at hinv7
    refine tg_steps 2 rfl ?_
    refine tg_icge rfl rfl (fun h9 => ?_) (fun h9 => ?_)
    · exact absurd h9 (nI_ge hi7 (by omega))
    · refine tg_steps 3 rfl ?_
      refine tg_callV rfl (c_has_0 _) rfl rfl rfl rfl rfl (fun v17 w17 q17 => ?_)
      obtain ⟨rfl, rfl⟩ := q17
      refine tg_ifbeq rfl rfl (fun h20 => ?_) (fun h20 => ?_)
      · refine tg_steps 1 rfl ?_
        exact tg_iret (st := []) rfl rfl ⟨Nat.le_of_ble_eq_true rfl, Nat.le_of_ble_eq_true rfl⟩ (pQ_ok rfl (by simp (decide := true) only [juP, not_true, not_false_eq_true, decide_true, decide_false, cond_true, cond_false, Bool.false_eq_true, if_true, if_false, ite_true, ite_false, h20] at hinv7; rw [hinv7]) (eqH_rf _) (eqH_rf _) ⟨rfl, rfl, rfl, rfl, rfl, rfl⟩)
      · refine tg_steps 3 rfl ?_
        refine tg_callV rfl (c_homeOf_0 hm _) rfl rfl rfl rfl rfl (fun v28 w28 q28 => ?_)
        obtain ⟨rfl, rfl⟩ := q28
        refine tg_steps 3 rfl ?_
        refine tg_ialdN rfl rfl (i) rfl (by omega) (by decide) ?_
        rw [e_ToTm]
        refine tg_iceq rfl rfl (fun h37 => ?_) (fun h37 => ?_)
        · refine tg_steps 2 rfl ?_
          refine tg_pkV [0, 1, 2] ?_
          refine tg_eqS (L2 := [(0, .ref 0), (1, .int (nI (xTm x))), (2, .int (nI (i + 1)))]) (st2 := []) (w2 := (tp_cs n p t (yTm x 0), r)) (by first | rfl | (simp (decide := true) only [nI_succ, decide_true, decide_false, cond_true, cond_false, Bool.false_eq_true, if_true, if_false, ite_true, ite_false, h20, eq_true h37]; done) | (simp (decide := true) only [nI_succ, decide_true, decide_false, cond_true, cond_false, Bool.false_eq_true, if_true, if_false, ite_true, ite_false, h20, eq_true h37]; rfl)) rfl (by first | rfl | (simp (decide := true) only [nI_succ, decide_true, decide_false, cond_true, cond_false, Bool.false_eq_true, if_true, if_false, ite_true, ite_false, h20, eq_true h37]; done) | (simp (decide := true) only [nI_succ, decide_true, decide_false, cond_true, cond_false, Bool.false_eq_true, if_true, if_false, ite_true, ite_false, h20, eq_true h37]; rfl)) ?_
          exact ih7 (by simp (decide := true) only [juP, not_true, not_false_eq_true, decide_true, decide_false, cond_true, cond_false, Bool.false_eq_true, if_true, if_false, ite_true, ite_false, h20, eq_true h37] at hinv7; exact hinv7)
        · refine tg_steps 1 rfl ?_
          exact tg_iret (st := []) rfl rfl ⟨Nat.le_of_ble_eq_true rfl, Nat.le_of_ble_eq_true rfl⟩ (pQ_ok rfl (by simp (decide := true) only [juP, not_true, not_false_eq_true, decide_true, decide_false, cond_true, cond_false, Bool.false_eq_true, if_true, if_false, ite_true, ite_false, h20, h37] at hinv7; rw [hinv7]) (eqH_rf _) (eqH_rf _) ⟨rfl, rfl, rfl, rfl, rfl, rfl⟩)
set_option maxRecDepth 100000 in
set_option maxHeartbeats 2000000 in
theorem q_lots {G : tg_G} {n p t : tp_H} {x : tp_X} {r : List tg_Cl} (hm : hM n ≤ 7) (k : Int32) (z : Int32) (what : Int32) : tg_C G 7 mX10_lots 0 0 [.ref 0, .int k, .int z, .int what] (tp_cs n p t x, r) (pQ (wLot k what) (.int (wLot k what)) (.int (aLot n k z what)) n p x (n) (p) (x) r) := by
  refine tg_intro okX10_lots (Nat.le_of_ble_eq_true rfl) ?_
  refine tg_steps 2 rfl ?_
  refine tg_icge rfl rfl (fun h2 => ?_) (fun h2 => ?_)
  · refine tg_steps 2 rfl ?_
    refine tg_icle rfl rfl (fun h15 => ?_) (fun h15 => ?_)
    · obtain ⟨j, hj, rfl⟩ := nI_of2 (x := k) (M := 20) (n := 20) rfl (fun q => Int32.not_le.mpr (Int32.lt_trans q (by decide)) h2) (Int32.not_lt.mp h15)
      have cj : nN (nI j) = j := nI_clamp (by omega)
      refine tg_steps 2 rfl ?_
      refine tg_call1 rfl (c_isUpTo _ _) rfl rfl rfl  (fun v27 w27 q27 => ?_)
      obtain ⟨rfl, rfl⟩ := q27
      refine tg_ifbne rfl rfl (fun h30 => ?_) (fun h30 => ?_)
      · refine tg_steps 7 rfl ?_
        refine tg_callV rfl (c_winters hm j (by omega) _ _) rfl rfl rfl rfl rfl (fun v51 w51 q51 => ?_)
        obtain ⟨rfl, t3, z3, rfl⟩ := q51
        exact tg_iret (st := []) rfl rfl ⟨Nat.le_of_ble_eq_true rfl, Nat.le_of_ble_eq_true rfl⟩ (pQ_ok (by first | rfl | (simp (decide := true) only [wLot, decide_true, decide_false, cond_true, cond_false, Bool.false_eq_true, if_true, if_false, ite_true, ite_false, h2, Int32.not_lt.mpr h2, h15, Int32.not_lt.mpr h15, h30]; done) | (simp (decide := true) only [wLot, decide_true, decide_false, cond_true, cond_false, Bool.false_eq_true, if_true, if_false, ite_true, ite_false, h2, Int32.not_lt.mpr h2, h15, Int32.not_lt.mpr h15, h30]; done) | (simp (decide := true) only [wLot, decide_true, decide_false, cond_true, cond_false, Bool.false_eq_true, if_true, if_false, ite_true, ite_false, h2, Int32.not_lt.mpr h2, h15, Int32.not_lt.mpr h15, h30]; rfl)) (by first | rfl | (simp (decide := true) only [aLot, cj, decide_true, decide_false, cond_true, cond_false, Bool.false_eq_true, if_true, if_false, ite_true, ite_false, h2, Int32.not_lt.mpr h2, h15, Int32.not_lt.mpr h15, h30]; done) | (simp (decide := true) only [aLot, cj, decide_true, decide_false, cond_true, cond_false, Bool.false_eq_true, if_true, if_false, ite_true, ite_false, h2, Int32.not_lt.mpr h2, h15, Int32.not_lt.mpr h15, h30]; done) | (simp (decide := true) only [aLot, cj, decide_true, decide_false, cond_true, cond_false, Bool.false_eq_true, if_true, if_false, ite_true, ite_false, h2, Int32.not_lt.mpr h2, h15, Int32.not_lt.mpr h15, h30]; rfl)) (eqH_rf _) (eqH_rf _) ⟨rfl, rfl, rfl, rfl, rfl, rfl⟩)
      · refine tg_steps 2 rfl ?_
        refine tg_callV rfl (c_refuse (-2) (by decide)) rfl rfl rfl rfl rfl (fun v36 w36 q36 => ?_)
        obtain ⟨rfl, rfl⟩ := q36
        exact tg_iret (st := []) rfl rfl ⟨Nat.le_of_ble_eq_true rfl, Nat.le_of_ble_eq_true rfl⟩ (pQ_refI (by first | rfl | (simp (decide := true) only [wLot, decide_true, decide_false, cond_true, cond_false, Bool.false_eq_true, if_true, if_false, ite_true, ite_false, h2, Int32.not_lt.mpr h2, h15, Int32.not_lt.mpr h15, h30]; done) | (simp (decide := true) only [wLot, decide_true, decide_false, cond_true, cond_false, Bool.false_eq_true, if_true, if_false, ite_true, ite_false, h2, Int32.not_lt.mpr h2, h15, Int32.not_lt.mpr h15, h30]; done) | (simp (decide := true) only [wLot, decide_true, decide_false, cond_true, cond_false, Bool.false_eq_true, if_true, if_false, ite_true, ite_false, h2, Int32.not_lt.mpr h2, h15, Int32.not_lt.mpr h15, h30]; rfl)) (by first | decide | exact rf_bor _))
    · refine tg_steps 2 rfl ?_
      refine tg_callV rfl (c_refuse (-6) (by decide)) rfl rfl rfl rfl rfl (fun v21 w21 q21 => ?_)
      obtain ⟨rfl, rfl⟩ := q21
      exact tg_iret (st := []) rfl rfl ⟨Nat.le_of_ble_eq_true rfl, Nat.le_of_ble_eq_true rfl⟩ (pQ_refI (by first | rfl | (simp (decide := true) only [wLot, decide_true, decide_false, cond_true, cond_false, Bool.false_eq_true, if_true, if_false, ite_true, ite_false, h2, Int32.not_lt.mpr h2, h15, Int32.not_le.mp h15]; done) | (simp (decide := true) only [wLot, decide_true, decide_false, cond_true, cond_false, Bool.false_eq_true, if_true, if_false, ite_true, ite_false, h2, Int32.not_lt.mpr h2, h15, Int32.not_le.mp h15]; done) | (simp (decide := true) only [wLot, decide_true, decide_false, cond_true, cond_false, Bool.false_eq_true, if_true, if_false, ite_true, ite_false, h2, Int32.not_lt.mpr h2, h15, Int32.not_le.mp h15]; rfl)) (by first | decide | exact rf_bor _))
  · refine tg_steps 2 rfl ?_
    refine tg_callV rfl (c_refuse (-4) (by decide)) rfl rfl rfl rfl rfl (fun v8 w8 q8 => ?_)
    obtain ⟨rfl, rfl⟩ := q8
    exact tg_iret (st := []) rfl rfl ⟨Nat.le_of_ble_eq_true rfl, Nat.le_of_ble_eq_true rfl⟩ (pQ_refI (by first | rfl | (simp (decide := true) only [wLot, decide_true, decide_false, cond_true, cond_false, Bool.false_eq_true, if_true, if_false, ite_true, ite_false, h2, Int32.not_le.mp h2]; done) | (simp (decide := true) only [wLot, decide_true, decide_false, cond_true, cond_false, Bool.false_eq_true, if_true, if_false, ite_true, ite_false, h2, Int32.not_le.mp h2]; done) | (simp (decide := true) only [wLot, decide_true, decide_false, cond_true, cond_false, Bool.false_eq_true, if_true, if_false, ite_true, ite_false, h2, Int32.not_le.mp h2]; rfl)) (by first | decide | exact rf_bor _))
set_option maxRecDepth 100000 in
set_option maxHeartbeats 2000000 in
theorem q_image {G : tg_G} {n p t : tp_H} {x : tp_X} {r : List tg_Cl} (hm : hM n ≤ 7) : tg_C G 2 mX10_image 0 0 [.ref 0] (tp_cs n p t x, r) (pQ ((0 : Int32)) (.int ((0 : Int32))) (.int (hN n)) n p x (n) (n) (yPd x true) r) := by
  refine tg_intro okX10_image (Nat.le_of_ble_eq_true rfl) ?_
  refine tg_steps 4 rfl ?_
  refine tg_callV rfl (c_copyFrom_10 hm) rfl rfl rfl rfl rfl (fun v8 w8 q8 => ?_)
  obtain ⟨rfl, rfl⟩ := q8
  refine tg_steps 2 rfl ?_
  refine tg_putz rfl rfl (by first | exact Or.inl rfl | exact Or.inr rfl | exact tg_b1 _) rfl ?_
  refine tg_eqW (w_Pd true) ?_
  refine tg_steps 3 rfl ?_
  exact tg_iret (st := []) rfl rfl ⟨Nat.le_of_ble_eq_true rfl, Nat.le_of_ble_eq_true rfl⟩ (pQ_ok rfl rfl (eqH_rf _) (eq_cpF _ _) ⟨rfl, rfl, rfl, rfl, rfl, rfl⟩)
set_option maxRecDepth 100000 in
set_option maxHeartbeats 2000000 in
theorem q_on {G : tg_G} {n p t : tp_H} {x : tp_X} {r : List tg_Cl} (hp : hM p ≤ 7) : tg_C G 2 mX10_on 0 0 [.ref 0] (tp_cs n p t x, r) (pQ (wOn x) (.int (wOn x)) (.int (hN p)) n p x (p) (p) (x) r) := by
  refine tg_intro okX10_on (Nat.le_of_ble_eq_true rfl) ?_
  refine tg_steps 2 rfl ?_
  refine tg_ifbne rfl rfl (fun h4 => ?_) (fun h4 => ?_)
  · refine tg_steps 4 rfl ?_
    refine tg_callV rfl (c_copyFrom_01 hp) rfl rfl rfl rfl rfl (fun v22 w22 q22 => ?_)
    obtain ⟨rfl, rfl⟩ := q22
    refine tg_steps 3 rfl ?_
    exact tg_iret (st := []) rfl rfl ⟨Nat.le_of_ble_eq_true rfl, Nat.le_of_ble_eq_true rfl⟩ (pQ_ok (by first | rfl | (simp (decide := true) only [wOn, decide_true, decide_false, cond_true, cond_false, Bool.false_eq_true, if_true, if_false, ite_true, ite_false, h4]; done) | (simp (decide := true) only [wOn, decide_true, decide_false, cond_true, cond_false, Bool.false_eq_true, if_true, if_false, ite_true, ite_false, h4]; done) | (simp (decide := true) only [wOn, decide_true, decide_false, cond_true, cond_false, Bool.false_eq_true, if_true, if_false, ite_true, ite_false, h4]; rfl)) rfl (eq_cpF _ _) (eqH_rf _) ⟨rfl, rfl, rfl, rfl, rfl, rfl⟩)
  · refine tg_steps 2 rfl ?_
    refine tg_callV rfl (c_refuse (-3) (by decide)) rfl rfl rfl rfl rfl (fun v10 w10 q10 => ?_)
    obtain ⟨rfl, rfl⟩ := q10
    exact tg_iret (st := []) rfl rfl ⟨Nat.le_of_ble_eq_true rfl, Nat.le_of_ble_eq_true rfl⟩ (pQ_refI (by first | rfl | (simp (decide := true) only [wOn, decide_true, decide_false, cond_true, cond_false, Bool.false_eq_true, if_true, if_false, ite_true, ite_false, h4]; done) | (simp (decide := true) only [wOn, decide_true, decide_false, cond_true, cond_false, Bool.false_eq_true, if_true, if_false, ite_true, ite_false, h4]; done) | (simp (decide := true) only [wOn, decide_true, decide_false, cond_true, cond_false, Bool.false_eq_true, if_true, if_false, ite_true, ite_false, h4]; rfl)) (by first | decide | exact rf_bor _))
set_option maxRecDepth 100000 in
set_option maxHeartbeats 2000000 in
theorem q_count {G : tg_G} {n p t : tp_H} {x : tp_X} {r : List tg_Cl} (hm : hM n ≤ 7) (what : Int32) : tg_C G 3 mX10_count 0 0 [.ref 0, .int what] (tp_cs n p t x, r) (pQ ((0 : Int32)) (.int ((0 : Int32))) (.int (aCou n x what)) n p x (n) (p) (x) r) := by
  refine tg_intro okX10_count (Nat.le_of_ble_eq_true rfl) ?_
  refine tg_steps 1 rfl ?_
  refine tg_tsw rfl ?_
  refine And.intro (fun h1_0 => ?_) (fun h1_0 => ?_)
  · refine tg_steps 3 rfl ?_
    exact tg_iret (st := []) rfl rfl ⟨Nat.le_of_ble_eq_true rfl, Nat.le_of_ble_eq_true rfl⟩ (pQ_ok rfl (by first | rfl | (simp (decide := true) only [aCou, decide_true, decide_false, cond_true, cond_false, Bool.false_eq_true, if_true, if_false, ite_true, ite_false, eq_true h1_0]; done) | (simp (decide := true) only [aCou, decide_true, decide_false, cond_true, cond_false, Bool.false_eq_true, if_true, if_false, ite_true, ite_false, h1_0]; done) | (simp (decide := true) only [aCou, decide_true, decide_false, cond_true, cond_false, Bool.false_eq_true, if_true, if_false, ite_true, ite_false, eq_true h1_0]; rfl)) (eqH_rf _) (eqH_rf _) ⟨rfl, rfl, rfl, rfl, rfl, rfl⟩)
  refine And.intro (fun h1_1 => ?_) (fun h1_1 => ?_)
  · refine tg_steps 3 rfl ?_
    exact tg_iret (st := []) rfl rfl ⟨Nat.le_of_ble_eq_true rfl, Nat.le_of_ble_eq_true rfl⟩ (pQ_ok rfl (by first | rfl | (simp (decide := true) only [aCou, decide_true, decide_false, cond_true, cond_false, Bool.false_eq_true, if_true, if_false, ite_true, ite_false, h1_0, eq_true h1_1]; done) | (simp (decide := true) only [aCou, decide_true, decide_false, cond_true, cond_false, Bool.false_eq_true, if_true, if_false, ite_true, ite_false, h1_0, h1_1]; done) | (simp (decide := true) only [aCou, decide_true, decide_false, cond_true, cond_false, Bool.false_eq_true, if_true, if_false, ite_true, ite_false, h1_0, eq_true h1_1]; rfl)) (eqH_rf _) (eqH_rf _) ⟨rfl, rfl, rfl, rfl, rfl, rfl⟩)
  refine And.intro (fun h1_2 => ?_) (fun h1_2 => ?_)
  · refine tg_steps 3 rfl ?_
    exact tg_iret (st := []) rfl rfl ⟨Nat.le_of_ble_eq_true rfl, Nat.le_of_ble_eq_true rfl⟩ (pQ_ok rfl (by first | rfl | (simp (decide := true) only [aCou, decide_true, decide_false, cond_true, cond_false, Bool.false_eq_true, if_true, if_false, ite_true, ite_false, h1_0, h1_1, eq_true h1_2]; done) | (simp (decide := true) only [aCou, decide_true, decide_false, cond_true, cond_false, Bool.false_eq_true, if_true, if_false, ite_true, ite_false, h1_0, h1_1, h1_2]; done) | (simp (decide := true) only [aCou, decide_true, decide_false, cond_true, cond_false, Bool.false_eq_true, if_true, if_false, ite_true, ite_false, h1_0, h1_1, eq_true h1_2]; rfl)) (eqH_rf _) (eqH_rf _) ⟨rfl, rfl, rfl, rfl, rfl, rfl⟩)
  refine And.intro (fun h1_3 => ?_) (fun h1_3 => ?_)
  · refine tg_steps 3 rfl ?_
    exact tg_iret (st := []) rfl rfl ⟨Nat.le_of_ble_eq_true rfl, Nat.le_of_ble_eq_true rfl⟩ (pQ_ok rfl (by first | rfl | (simp (decide := true) only [aCou, decide_true, decide_false, cond_true, cond_false, Bool.false_eq_true, if_true, if_false, ite_true, ite_false, h1_0, h1_1, h1_2, eq_true h1_3]; done) | (simp (decide := true) only [aCou, decide_true, decide_false, cond_true, cond_false, Bool.false_eq_true, if_true, if_false, ite_true, ite_false, h1_0, h1_1, h1_2, h1_3]; done) | (simp (decide := true) only [aCou, decide_true, decide_false, cond_true, cond_false, Bool.false_eq_true, if_true, if_false, ite_true, ite_false, h1_0, h1_1, h1_2, eq_true h1_3]; rfl)) (eqH_rf _) (eqH_rf _) ⟨rfl, rfl, rfl, rfl, rfl, rfl⟩)
  refine And.intro (fun h1_4 => ?_) (fun h1_4 => ?_)
  · refine tg_steps 2 rfl ?_
    refine tg_callV rfl (c_aboardOnes_0 hm) rfl rfl rfl rfl rfl (fun v84 w84 q84 => ?_)
    obtain ⟨rfl, rfl⟩ := q84
    exact tg_iret (st := []) rfl rfl ⟨Nat.le_of_ble_eq_true rfl, Nat.le_of_ble_eq_true rfl⟩ (pQ_ok rfl (by first | rfl | (simp (decide := true) only [aCou, decide_true, decide_false, cond_true, cond_false, Bool.false_eq_true, if_true, if_false, ite_true, ite_false, h1_0, h1_1, h1_2, h1_3, eq_true h1_4]; done) | (simp (decide := true) only [aCou, decide_true, decide_false, cond_true, cond_false, Bool.false_eq_true, if_true, if_false, ite_true, ite_false, h1_0, h1_1, h1_2, h1_3, h1_4]; done) | (simp (decide := true) only [aCou, decide_true, decide_false, cond_true, cond_false, Bool.false_eq_true, if_true, if_false, ite_true, ite_false, h1_0, h1_1, h1_2, h1_3, eq_true h1_4]; rfl)) (eqH_rf _) (eqH_rf _) ⟨rfl, rfl, rfl, rfl, rfl, rfl⟩)
  refine And.intro (fun h1_5 => ?_) (fun h1_5 => ?_)
  · refine tg_steps 2 rfl ?_
    refine tg_callV rfl (c_pinnedMany_0 hm) rfl rfl rfl rfl rfl (fun v92 w92 q92 => ?_)
    obtain ⟨rfl, rfl⟩ := q92
    exact tg_iret (st := []) rfl rfl ⟨Nat.le_of_ble_eq_true rfl, Nat.le_of_ble_eq_true rfl⟩ (pQ_ok rfl (by first | rfl | (simp (decide := true) only [aCou, decide_true, decide_false, cond_true, cond_false, Bool.false_eq_true, if_true, if_false, ite_true, ite_false, h1_0, h1_1, h1_2, h1_3, h1_4, eq_true h1_5]; done) | (simp (decide := true) only [aCou, decide_true, decide_false, cond_true, cond_false, Bool.false_eq_true, if_true, if_false, ite_true, ite_false, h1_0, h1_1, h1_2, h1_3, h1_4, h1_5]; done) | (simp (decide := true) only [aCou, decide_true, decide_false, cond_true, cond_false, Bool.false_eq_true, if_true, if_false, ite_true, ite_false, h1_0, h1_1, h1_2, h1_3, h1_4, eq_true h1_5]; rfl)) (eqH_rf _) (eqH_rf _) ⟨rfl, rfl, rfl, rfl, rfl, rfl⟩)
  refine And.intro (fun h1_6 => ?_) (fun h1_6 => ?_)
  · refine tg_steps 2 rfl ?_
    exact tg_iret (st := []) rfl rfl ⟨Nat.le_of_ble_eq_true rfl, Nat.le_of_ble_eq_true rfl⟩ (pQ_ok rfl (by first | rfl | (simp (decide := true) only [aCou, decide_true, decide_false, cond_true, cond_false, Bool.false_eq_true, if_true, if_false, ite_true, ite_false, h1_0, h1_1, h1_2, h1_3, h1_4, h1_5, eq_true h1_6]; done) | (simp (decide := true) only [aCou, decide_true, decide_false, cond_true, cond_false, Bool.false_eq_true, if_true, if_false, ite_true, ite_false, h1_0, h1_1, h1_2, h1_3, h1_4, h1_5, h1_6]; done) | (simp (decide := true) only [aCou, decide_true, decide_false, cond_true, cond_false, Bool.false_eq_true, if_true, if_false, ite_true, ite_false, h1_0, h1_1, h1_2, h1_3, h1_4, h1_5, eq_true h1_6]; rfl)) (eqH_rf _) (eqH_rf _) ⟨rfl, rfl, rfl, rfl, rfl, rfl⟩)
  refine And.intro (fun h1_7 => ?_) (fun h1_7 => ?_)
  · refine tg_steps 3 rfl ?_
    exact tg_iret (st := []) rfl rfl ⟨Nat.le_of_ble_eq_true rfl, Nat.le_of_ble_eq_true rfl⟩ (pQ_ok rfl (by first | rfl | (simp (decide := true) only [aCou, decide_true, decide_false, cond_true, cond_false, Bool.false_eq_true, if_true, if_false, ite_true, ite_false, h1_0, h1_1, h1_2, h1_3, h1_4, h1_5, h1_6, eq_true h1_7]; done) | (simp (decide := true) only [aCou, decide_true, decide_false, cond_true, cond_false, Bool.false_eq_true, if_true, if_false, ite_true, ite_false, h1_0, h1_1, h1_2, h1_3, h1_4, h1_5, h1_6, h1_7]; done) | (simp (decide := true) only [aCou, decide_true, decide_false, cond_true, cond_false, Bool.false_eq_true, if_true, if_false, ite_true, ite_false, h1_0, h1_1, h1_2, h1_3, h1_4, h1_5, h1_6, eq_true h1_7]; rfl)) (eqH_rf _) (eqH_rf _) ⟨rfl, rfl, rfl, rfl, rfl, rfl⟩)
  refine tg_steps 2 rfl ?_
  refine tg_icle rfl rfl (fun h112 => ?_) (fun h112 => ?_)
  · refine tg_steps 1 rfl ?_
    exact tg_iret (st := []) rfl rfl ⟨Nat.le_of_ble_eq_true rfl, Nat.le_of_ble_eq_true rfl⟩ (pQ_ok rfl (by first | rfl | (simp (decide := true) only [aCou, decide_true, decide_false, cond_true, cond_false, Bool.false_eq_true, if_true, if_false, ite_true, ite_false, h1_0, h1_1, h1_2, h1_3, h1_4, h1_5, h1_6, h1_7, h112, Int32.not_lt.mpr h112]; done) | (simp (decide := true) only [aCou, decide_true, decide_false, cond_true, cond_false, Bool.false_eq_true, if_true, if_false, ite_true, ite_false, h1_0, h1_1, h1_2, h1_3, h1_4, h1_5, h1_6, h1_7, h112, Int32.not_lt.mpr h112]; done) | (simp (decide := true) only [aCou, decide_true, decide_false, cond_true, cond_false, Bool.false_eq_true, if_true, if_false, ite_true, ite_false, h1_0, h1_1, h1_2, h1_3, h1_4, h1_5, h1_6, h1_7, h112, Int32.not_lt.mpr h112]; rfl)) (eqH_rf _) (eqH_rf _) ⟨rfl, rfl, rfl, rfl, rfl, rfl⟩)
  · refine tg_steps 2 rfl ?_
    refine tg_icgt rfl rfl (fun h118 => ?_) (fun h118 => ?_)
    · refine tg_steps 1 rfl ?_
      exact tg_iret (st := []) rfl rfl ⟨Nat.le_of_ble_eq_true rfl, Nat.le_of_ble_eq_true rfl⟩ (pQ_ok rfl (by first | rfl | (simp (decide := true) only [aCou, decide_true, decide_false, cond_true, cond_false, Bool.false_eq_true, if_true, if_false, ite_true, ite_false, h1_0, h1_1, h1_2, h1_3, h1_4, h1_5, h1_6, h1_7, h112, Int32.not_le.mp h112, h118, Int32.not_le.mpr h118]; done) | (simp (decide := true) only [aCou, decide_true, decide_false, cond_true, cond_false, Bool.false_eq_true, if_true, if_false, ite_true, ite_false, h1_0, h1_1, h1_2, h1_3, h1_4, h1_5, h1_6, h1_7, h112, Int32.not_le.mp h112, h118, Int32.not_le.mpr h118]; done) | (simp (decide := true) only [aCou, decide_true, decide_false, cond_true, cond_false, Bool.false_eq_true, if_true, if_false, ite_true, ite_false, h1_0, h1_1, h1_2, h1_3, h1_4, h1_5, h1_6, h1_7, h112, Int32.not_le.mp h112, h118, Int32.not_le.mpr h118]; rfl)) (eqH_rf _) (eqH_rf _) ⟨rfl, rfl, rfl, rfl, rfl, rfl⟩)
    · obtain ⟨j, hj, ej, cj⟩ := cou_j h112 h118
      refine tg_steps 5 rfl ?_
      refine tg_ialdN rfl rfl (j) ej hj (by decide) ?_
      refine tg_steps 1 rfl ?_
      exact tg_iret (st := []) rfl rfl ⟨Nat.le_of_ble_eq_true rfl, Nat.le_of_ble_eq_true rfl⟩ (pQ_ok rfl (by first | rfl | (simp (decide := true) only [aCou, decide_true, decide_false, cond_true, cond_false, Bool.false_eq_true, if_true, if_false, ite_true, ite_false, h1_0, h1_1, h1_2, h1_3, h1_4, h1_5, h1_6, h1_7, h112, Int32.not_le.mp h112, h118, Int32.not_lt.mp h118, cj]; done) | (simp (decide := true) only [aCou, decide_true, decide_false, cond_true, cond_false, Bool.false_eq_true, if_true, if_false, ite_true, ite_false, h1_0, h1_1, h1_2, h1_3, h1_4, h1_5, h1_6, h1_7, h112, Int32.not_le.mp h112, h118, Int32.not_lt.mp h118, cj]; done) | (simp (decide := true) only [aCou, decide_true, decide_false, cond_true, cond_false, Bool.false_eq_true, if_true, if_false, ite_true, ite_false, h1_0, h1_1, h1_2, h1_3, h1_4, h1_5, h1_6, h1_7, h112, Int32.not_le.mp h112, h118, Int32.not_lt.mp h118, cj]; rfl)) (eqH_rf _) (eqH_rf _) ⟨rfl, rfl, rfl, rfl, rfl, rfl⟩)
