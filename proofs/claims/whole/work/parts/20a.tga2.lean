/-! the public methods, continued -/
theorem w_bt (x : tp_X) (a b c d : tp_A) : yRc (ySt (yRc (ySt x a) b) c) d = yRc (ySt x c) d := rfl
set_option maxRecDepth 100000 in
set_option maxHeartbeats 2000000 in
theorem q_cutOff {G : tg_G} {n p t : tp_H} {x : tp_X} {r : List tg_Cl} (hm : hM n ≤ 7) (hw : wfH n) : tg_C G 3 mX10_cutOff 0 0 [.ref 0] (tp_cs n p t x, r) (pQ ((0 : Int32)) (.int ((0 : Int32))) (.int (aCut n)) n p x (n) (p) (x) r) := by
  refine tg_intro okX10_cutOff (Nat.le_of_ble_eq_true rfl) ?_
  refine tg_steps 4 rfl ?_
  refine tg_pkV [0, 1, 2] ?_
  refine tg_eqS (L2 := [(0, .ref 0), (1, .int (bI (cuP n) (0))), (2, .int (nI (0)))]) (st2 := []) (w2 := (tp_cs n p t (yRc (ySt x (xSt x)) (xRc x)), r)) rfl rfl rfl ?_
  refine tg_down (φ := fun i : Nat => ∀ (f2 : tp_A) (g2 : tp_A), tg_V G 3 mX10_cutOff 0 0 0 0 (pQ ((0 : Int32)) (.int ((0 : Int32))) (.int (aCut n)) n p x (n) (p) (x) r) 4 [(0, .ref 0), (1, .int (bI (cuP n) (i))), (2, .int (nI (i)))] [] (tp_cs n p t (yRc (ySt x f2) g2), r)) (n := hM n) ?_ ?_ 0 (Nat.zero_le _) _ _ 
  · intro f2 g2
    refine tg_steps 4 rfl ?_
    refine tg_icge rfl rfl (fun h12 => ?_) (fun h12 => ?_)
    · refine tg_steps 1 rfl ?_
      exact tg_iret (st := []) rfl rfl ⟨Nat.le_of_ble_eq_true rfl, Nat.le_of_ble_eq_true rfl⟩ (pQ_ok rfl rfl (eqH_rf _) (eqH_rf _) ⟨rfl, rfl, rfl, rfl, rfl, rfl⟩)
    · exact absurd (nI_le (Nat.le_refl _) (by omega)) h12
  · intro i hi4 ih4 f2 g2
    have ht := (hw.2.2 i hi4).1
    have gT : gO hT n (nI i) = hT n i := gO_nI hm hi4
    refine tg_steps 4 rfl ?_
    refine tg_icge rfl rfl (fun h12 => ?_) (fun h12 => ?_)
    · exact absurd h12 (nI_ge hi4 (by omega))
    · refine tg_steps 7 rfl ?_
      refine tg_callV rfl (c_tileOf_0 hm _) rfl rfl rfl rfl rfl (fun v28 w28 q28 => ?_)
      obtain ⟨rfl, rfl⟩ := q28
      rw [gT]
      refine tg_steps 3 rfl ?_
      refine tg_callV rfl (c_far ht hw.2.1) rfl rfl rfl rfl rfl (fun v38 w38 q38 => ?_)
      obtain ⟨rfl, f3, g3, rfl⟩ := q38
      rw [w_bt]
      refine tg_steps 1 rfl ?_
      refine tg_icne rfl rfl (fun h43 => ?_) (fun h43 => ?_)
      · have hcu : cuP n i = false := decide_eq_false h43
        refine tg_steps 2 rfl ?_
        refine tg_pkV [0, 1, 2] ?_
        refine tg_eqS (L2 := [(0, .ref 0), (1, .int (bI (cuP n) (i + 1))), (2, .int (nI (i + 1)))]) (st2 := []) (w2 := _) (by first | (rw [bI_succ, nI_succ, hcu, cond_true]; rfl) | (rw [bI_succ, nI_succ, hcu, cond_false]; rfl)) rfl rfl ?_
        exact ih4 _ _
      · have hcu : cuP n i = true := decide_eq_true h43
        refine tg_steps 8 rfl ?_
        refine tg_pkV [0, 1, 2] ?_
        refine tg_eqS (L2 := [(0, .ref 0), (1, .int (bI (cuP n) (i + 1))), (2, .int (nI (i + 1)))]) (st2 := []) (w2 := _) (by first | (rw [bI_succ, nI_succ, hcu, cond_true]; rfl) | (rw [bI_succ, nI_succ, hcu, cond_false]; rfl)) rfl rfl ?_
        exact ih4 _ _
set_option maxRecDepth 100000 in
set_option maxHeartbeats 2000000 in
theorem q_shipBest {G : tg_G} {n p t : tp_H} {x : tp_X} {r : List tg_Cl} (hm : hM n ≤ 7) (k : Int32) (what : Int32) : tg_C G 8 mX10_shipBest 0 0 [.ref 0, .int k, .int what] (tp_cs n p t x, r) (pQ (wUpW k 20 what) (.int (wUpW k 20 what)) (.int (aShB n k what)) n p x (n) (p) (x) r) := by
  refine tg_intro okX10_shipBest (Nat.le_of_ble_eq_true rfl) ?_
  refine tg_steps 2 rfl ?_
  refine tg_call1 rfl (c_isUpTo _ _) rfl rfl rfl  (fun v3 w3 q3 => ?_)
  obtain ⟨rfl, rfl⟩ := q3
  refine tg_ifbne rfl rfl (fun h6 => ?_) (fun h6 => ?_)
  · obtain ⟨j, hj, rfl⟩ := up_j (m := 20) rfl h6
    have cj : nN (nI j) = j := nI_clamp (by omega)
    refine tg_steps 2 rfl ?_
    refine tg_call1 rfl (c_isUpTo _ _) rfl rfl rfl  (fun v20 w20 q20 => ?_)
    obtain ⟨rfl, rfl⟩ := q20
    refine tg_ifbne rfl rfl (fun h23 => ?_) (fun h23 => ?_)
    · refine tg_steps 5 rfl ?_
      refine tg_callV rfl (c_bestShip hm j (by omega)) rfl rfl rfl rfl rfl (fun v42 w42 q42 => ?_)
      obtain ⟨rfl, t3, rfl⟩ := q42
      refine tg_steps 2 rfl ?_
      refine tg_ifne rfl rfl (fun h47 => ?_) (fun h47 => ?_)
      · refine tg_steps 6 rfl ?_
        refine tg_callV rfl (c_aboardWithShip hm _ j (by omega)) rfl rfl rfl rfl rfl (fun v64 w64 q64 => ?_)
        obtain ⟨rfl, t4, rfl⟩ := q64
        exact tg_iret (st := []) rfl rfl ⟨Nat.le_of_ble_eq_true rfl, Nat.le_of_ble_eq_true rfl⟩ (pQ_ok (by first | (simp (decide := true) only [wUpW, decide_true, decide_false, cond_true, cond_false, Bool.false_eq_true, if_true, if_false, ite_true, ite_false, h6, h23, h47]; done) | (simp (decide := true) only [wUpW, decide_true, decide_false, cond_true, cond_false, Bool.false_eq_true, if_true, if_false, ite_true, ite_false, h6, h23, h47]; done) | (simp (decide := true) only [wUpW, decide_true, decide_false, cond_true, cond_false, Bool.false_eq_true, if_true, if_false, ite_true, ite_false, h6, h23, h47]; rfl) | rfl) (by first | (simp (decide := true) only [aShB, shB, cj, decide_true, decide_false, cond_true, cond_false, Bool.false_eq_true, if_true, if_false, ite_true, ite_false, h6, h23, h47]; done) | (simp (decide := true) only [aShB, shB, cj, decide_true, decide_false, cond_true, cond_false, Bool.false_eq_true, if_true, if_false, ite_true, ite_false, h6, h23, h47]; done) | (simp (decide := true) only [aShB, shB, cj, decide_true, decide_false, cond_true, cond_false, Bool.false_eq_true, if_true, if_false, ite_true, ite_false, h6, h23, h47]; rfl) | rfl) (eqH_rf _) (eqH_rf _) ⟨rfl, rfl, rfl, rfl, rfl, rfl⟩)
      · refine tg_steps 2 rfl ?_
        exact tg_iret (st := []) rfl rfl ⟨Nat.le_of_ble_eq_true rfl, Nat.le_of_ble_eq_true rfl⟩ (pQ_ok (by first | (simp (decide := true) only [wUpW, decide_true, decide_false, cond_true, cond_false, Bool.false_eq_true, if_true, if_false, ite_true, ite_false, h6, h23, eq_true h47]; done) | (simp (decide := true) only [wUpW, decide_true, decide_false, cond_true, cond_false, Bool.false_eq_true, if_true, if_false, ite_true, ite_false, h6, h23, h47]; done) | (simp (decide := true) only [wUpW, decide_true, decide_false, cond_true, cond_false, Bool.false_eq_true, if_true, if_false, ite_true, ite_false, h6, h23, eq_true h47]; rfl) | rfl) (by first | (simp (decide := true) only [aShB, shB, cj, decide_true, decide_false, cond_true, cond_false, Bool.false_eq_true, if_true, if_false, ite_true, ite_false, h6, h23, eq_true h47]; done) | (simp (decide := true) only [aShB, shB, cj, decide_true, decide_false, cond_true, cond_false, Bool.false_eq_true, if_true, if_false, ite_true, ite_false, h6, h23, h47]; done) | (simp (decide := true) only [aShB, shB, cj, decide_true, decide_false, cond_true, cond_false, Bool.false_eq_true, if_true, if_false, ite_true, ite_false, h6, h23, eq_true h47]; rfl) | rfl) (eqH_rf _) (eqH_rf _) ⟨rfl, rfl, rfl, rfl, rfl, rfl⟩)
    · refine tg_steps 2 rfl ?_
      refine tg_callV rfl (c_refuse (-2) (by decide)) rfl rfl rfl rfl rfl (fun v29 w29 q29 => ?_)
      obtain ⟨rfl, rfl⟩ := q29
      exact tg_iret (st := []) rfl rfl ⟨Nat.le_of_ble_eq_true rfl, Nat.le_of_ble_eq_true rfl⟩ (pQ_refI (by first | (simp (decide := true) only [wUpW, decide_true, decide_false, cond_true, cond_false, Bool.false_eq_true, if_true, if_false, ite_true, ite_false, h6, h23]; done) | (simp (decide := true) only [wUpW, decide_true, decide_false, cond_true, cond_false, Bool.false_eq_true, if_true, if_false, ite_true, ite_false, h6, h23]; done) | (simp (decide := true) only [wUpW, decide_true, decide_false, cond_true, cond_false, Bool.false_eq_true, if_true, if_false, ite_true, ite_false, h6, h23]; rfl) | rfl) (by first | decide | exact rf_bor _))
  · refine tg_steps 2 rfl ?_
    refine tg_call1 rfl (c_bor _) rfl rfl rfl  (fun v11 w11 q11 => ?_)
    obtain ⟨rfl, rfl⟩ := q11
    refine tg_callV rfl (c_refuse _ (rf_bor _)) rfl rfl rfl rfl rfl (fun v14 w14 q14 => ?_)
    obtain ⟨rfl, rfl⟩ := q14
    exact tg_iret (st := []) rfl rfl ⟨Nat.le_of_ble_eq_true rfl, Nat.le_of_ble_eq_true rfl⟩ (pQ_refI (by first | (simp (decide := true) only [wUpW, decide_true, decide_false, cond_true, cond_false, Bool.false_eq_true, if_true, if_false, ite_true, ite_false, h6]; done) | (simp (decide := true) only [wUpW, decide_true, decide_false, cond_true, cond_false, Bool.false_eq_true, if_true, if_false, ite_true, ite_false, h6]; done) | (simp (decide := true) only [wUpW, decide_true, decide_false, cond_true, cond_false, Bool.false_eq_true, if_true, if_false, ite_true, ite_false, h6]; rfl) | rfl) (by first | decide | exact rf_bor _))
set_option maxRecDepth 100000 in
set_option maxHeartbeats 2000000 in
theorem q_mend {G : tg_G} {n p t : tp_H} {x : tp_X} {r : List tg_Cl} (hm : hM n ≤ 7) (k : Int32) (what : Int32) : tg_C G 8 mX10_mend 0 0 [.ref 0, .int k, .int what] (tp_cs n p t x, r) (pQ (wUpW k 20 what) (.int (wUpW k 20 what)) (.int (aMen n k what)) n p x (n) (p) (x) r) := by
  refine tg_intro okX10_mend (Nat.le_of_ble_eq_true rfl) ?_
  refine tg_steps 2 rfl ?_
  refine tg_call1 rfl (c_isUpTo _ _) rfl rfl rfl  (fun v3 w3 q3 => ?_)
  obtain ⟨rfl, rfl⟩ := q3
  refine tg_ifbne rfl rfl (fun h6 => ?_) (fun h6 => ?_)
  · obtain ⟨j, hj, rfl⟩ := up_j (m := 20) rfl h6
    have cj : nN (nI j) = j := nI_clamp (by omega)
    refine tg_steps 2 rfl ?_
    refine tg_call1 rfl (c_isUpTo _ _) rfl rfl rfl  (fun v20 w20 q20 => ?_)
    obtain ⟨rfl, rfl⟩ := q20
    refine tg_ifbne rfl rfl (fun h23 => ?_) (fun h23 => ?_)
    · refine tg_steps 1 rfl ?_
      refine tg_ifne rfl rfl (fun h34 => ?_) (fun h34 => ?_)
      · refine tg_steps 5 rfl ?_
        refine tg_callV rfl (c_bestSpoilt hm j (by omega)) rfl rfl rfl rfl rfl (fun v61 w61 q61 => ?_)
        obtain ⟨rfl, t3, rfl⟩ := q61
        exact tg_iret (st := []) rfl rfl ⟨Nat.le_of_ble_eq_true rfl, Nat.le_of_ble_eq_true rfl⟩ (pQ_ok (by first | (simp (decide := true) only [wUpW, decide_true, decide_false, cond_true, cond_false, Bool.false_eq_true, if_true, if_false, ite_true, ite_false, h6, h23, h34]; done) | (simp (decide := true) only [wUpW, decide_true, decide_false, cond_true, cond_false, Bool.false_eq_true, if_true, if_false, ite_true, ite_false, h6, h23, h34]; done) | (simp (decide := true) only [wUpW, decide_true, decide_false, cond_true, cond_false, Bool.false_eq_true, if_true, if_false, ite_true, ite_false, h6, h23, h34]; rfl) | rfl) (by first | (simp (decide := true) only [aMen, meB, spB, cj, decide_true, decide_false, cond_true, cond_false, Bool.false_eq_true, if_true, if_false, ite_true, ite_false, h6, h23, h34]; done) | (simp (decide := true) only [aMen, meB, spB, cj, decide_true, decide_false, cond_true, cond_false, Bool.false_eq_true, if_true, if_false, ite_true, ite_false, h6, h23, h34]; done) | (simp (decide := true) only [aMen, meB, spB, cj, decide_true, decide_false, cond_true, cond_false, Bool.false_eq_true, if_true, if_false, ite_true, ite_false, h6, h23, h34]; rfl) | rfl) (eqH_rf _) (eqH_rf _) ⟨rfl, rfl, rfl, rfl, rfl, rfl⟩)
      · refine tg_steps 5 rfl ?_
        refine tg_callV rfl (c_bestMended hm j (by omega)) rfl rfl rfl rfl rfl (fun v46 w46 q46 => ?_)
        obtain ⟨rfl, t3, rfl⟩ := q46
        refine tg_steps 1 rfl ?_
        exact tg_iret (st := []) rfl rfl ⟨Nat.le_of_ble_eq_true rfl, Nat.le_of_ble_eq_true rfl⟩ (pQ_ok (by first | (simp (decide := true) only [wUpW, decide_true, decide_false, cond_true, cond_false, Bool.false_eq_true, if_true, if_false, ite_true, ite_false, h6, h23, eq_true h34]; done) | (simp (decide := true) only [wUpW, decide_true, decide_false, cond_true, cond_false, Bool.false_eq_true, if_true, if_false, ite_true, ite_false, h6, h23, h34]; done) | (simp (decide := true) only [wUpW, decide_true, decide_false, cond_true, cond_false, Bool.false_eq_true, if_true, if_false, ite_true, ite_false, h6, h23, eq_true h34]; rfl) | rfl) (by first | (simp (decide := true) only [aMen, meB, spB, cj, decide_true, decide_false, cond_true, cond_false, Bool.false_eq_true, if_true, if_false, ite_true, ite_false, h6, h23, eq_true h34]; done) | (simp (decide := true) only [aMen, meB, spB, cj, decide_true, decide_false, cond_true, cond_false, Bool.false_eq_true, if_true, if_false, ite_true, ite_false, h6, h23, h34]; done) | (simp (decide := true) only [aMen, meB, spB, cj, decide_true, decide_false, cond_true, cond_false, Bool.false_eq_true, if_true, if_false, ite_true, ite_false, h6, h23, eq_true h34]; rfl) | rfl) (eqH_rf _) (eqH_rf _) ⟨rfl, rfl, rfl, rfl, rfl, rfl⟩)
    · refine tg_steps 2 rfl ?_
      refine tg_callV rfl (c_refuse (-2) (by decide)) rfl rfl rfl rfl rfl (fun v29 w29 q29 => ?_)
      obtain ⟨rfl, rfl⟩ := q29
      exact tg_iret (st := []) rfl rfl ⟨Nat.le_of_ble_eq_true rfl, Nat.le_of_ble_eq_true rfl⟩ (pQ_refI (by first | (simp (decide := true) only [wUpW, decide_true, decide_false, cond_true, cond_false, Bool.false_eq_true, if_true, if_false, ite_true, ite_false, h6, h23]; done) | (simp (decide := true) only [wUpW, decide_true, decide_false, cond_true, cond_false, Bool.false_eq_true, if_true, if_false, ite_true, ite_false, h6, h23]; done) | (simp (decide := true) only [wUpW, decide_true, decide_false, cond_true, cond_false, Bool.false_eq_true, if_true, if_false, ite_true, ite_false, h6, h23]; rfl) | rfl) (by first | decide | exact rf_bor _))
  · refine tg_steps 2 rfl ?_
    refine tg_call1 rfl (c_bor _) rfl rfl rfl  (fun v11 w11 q11 => ?_)
    obtain ⟨rfl, rfl⟩ := q11
    refine tg_callV rfl (c_refuse _ (rf_bor _)) rfl rfl rfl rfl rfl (fun v14 w14 q14 => ?_)
    obtain ⟨rfl, rfl⟩ := q14
    exact tg_iret (st := []) rfl rfl ⟨Nat.le_of_ble_eq_true rfl, Nat.le_of_ble_eq_true rfl⟩ (pQ_refI (by first | (simp (decide := true) only [wUpW, decide_true, decide_false, cond_true, cond_false, Bool.false_eq_true, if_true, if_false, ite_true, ite_false, h6]; done) | (simp (decide := true) only [wUpW, decide_true, decide_false, cond_true, cond_false, Bool.false_eq_true, if_true, if_false, ite_true, ite_false, h6]; done) | (simp (decide := true) only [wUpW, decide_true, decide_false, cond_true, cond_false, Bool.false_eq_true, if_true, if_false, ite_true, ite_false, h6]; rfl) | rfl) (by first | decide | exact rf_bor _))
set_option maxRecDepth 100000 in
set_option maxHeartbeats 2000000 in
theorem q_pin {G : tg_G} {n p t : tp_H} {x : tp_X} {r : List tg_Cl} (hm : hM n ≤ 7) (k : Int32) : tg_C G 8 mX10_pin 0 0 [.ref 0, .int k] (tp_cs n p t x, r) (pQ (wUp k 20) (.int (wUp k 20)) (.int (aPin n k)) n p x (n) (p) (x) r) := by
  refine tg_intro okX10_pin (Nat.le_of_ble_eq_true rfl) ?_
  refine tg_steps 2 rfl ?_
  refine tg_call1 rfl (c_isUpTo _ _) rfl rfl rfl  (fun v3 w3 q3 => ?_)
  obtain ⟨rfl, rfl⟩ := q3
  refine tg_ifbne rfl rfl (fun h6 => ?_) (fun h6 => ?_)
  · obtain ⟨j, hj, rfl⟩ := up_j (m := 20) rfl h6
    have cj : nN (nI j) = j := nI_clamp (by omega)
    refine tg_steps 5 rfl ?_
    refine tg_callV rfl (c_bestPinned hm j (by omega)) rfl rfl rfl rfl rfl (fun v27 w27 q27 => ?_)
    obtain ⟨rfl, t3, rfl⟩ := q27
    exact tg_iret (st := []) rfl rfl ⟨Nat.le_of_ble_eq_true rfl, Nat.le_of_ble_eq_true rfl⟩ (pQ_ok (by first | (simp (decide := true) only [wUp, decide_true, decide_false, cond_true, cond_false, Bool.false_eq_true, if_true, if_false, ite_true, ite_false, h6]; done) | (simp (decide := true) only [wUp, decide_true, decide_false, cond_true, cond_false, Bool.false_eq_true, if_true, if_false, ite_true, ite_false, h6]; done) | (simp (decide := true) only [wUp, decide_true, decide_false, cond_true, cond_false, Bool.false_eq_true, if_true, if_false, ite_true, ite_false, h6]; rfl) | rfl) (by first | (simp (decide := true) only [aPin, cj, decide_true, decide_false, cond_true, cond_false, Bool.false_eq_true, if_true, if_false, ite_true, ite_false, h6]; done) | (simp (decide := true) only [aPin, cj, decide_true, decide_false, cond_true, cond_false, Bool.false_eq_true, if_true, if_false, ite_true, ite_false, h6]; done) | (simp (decide := true) only [aPin, cj, decide_true, decide_false, cond_true, cond_false, Bool.false_eq_true, if_true, if_false, ite_true, ite_false, h6]; rfl) | rfl) (eqH_rf _) (eqH_rf _) ⟨rfl, rfl, rfl, rfl, rfl, rfl⟩)
  · refine tg_steps 2 rfl ?_
    refine tg_call1 rfl (c_bor _) rfl rfl rfl  (fun v11 w11 q11 => ?_)
    obtain ⟨rfl, rfl⟩ := q11
    refine tg_callV rfl (c_refuse _ (rf_bor _)) rfl rfl rfl rfl rfl (fun v14 w14 q14 => ?_)
    obtain ⟨rfl, rfl⟩ := q14
    exact tg_iret (st := []) rfl rfl ⟨Nat.le_of_ble_eq_true rfl, Nat.le_of_ble_eq_true rfl⟩ (pQ_refI (by first | (simp (decide := true) only [wUp, decide_true, decide_false, cond_true, cond_false, Bool.false_eq_true, if_true, if_false, ite_true, ite_false, h6]; done) | (simp (decide := true) only [wUp, decide_true, decide_false, cond_true, cond_false, Bool.false_eq_true, if_true, if_false, ite_true, ite_false, h6]; done) | (simp (decide := true) only [wUp, decide_true, decide_false, cond_true, cond_false, Bool.false_eq_true, if_true, if_false, ite_true, ite_false, h6]; rfl) | rfl) (by first | decide | exact rf_bor _))
set_option maxRecDepth 100000 in
set_option maxHeartbeats 2000000 in
theorem q_fewest {G : tg_G} {n p t : tp_H} {x : tp_X} {r : List tg_Cl} (hm : hM n ≤ 7) (k : Int32) : tg_C G 8 mX10_fewest 0 0 [.ref 0, .int k] (tp_cs n p t x, r) (pQ (wUp k 9) (.int (wUp k 9)) (.int (aFew n k)) n p x (n) (p) (x) r) := by
  refine tg_intro okX10_fewest (Nat.le_of_ble_eq_true rfl) ?_
  refine tg_steps 2 rfl ?_
  refine tg_call1 rfl (c_isUpTo _ _) rfl rfl rfl  (fun v3 w3 q3 => ?_)
  obtain ⟨rfl, rfl⟩ := q3
  refine tg_ifbne rfl rfl (fun h6 => ?_) (fun h6 => ?_)
  · obtain ⟨j, hj, rfl⟩ := up_j (m := 9) rfl h6
    have cj : nN (nI j) = j := nI_clamp (by omega)
    refine tg_steps 5 rfl ?_
    refine tg_callV rfl (c_fewestPinned hm j (by omega)) rfl rfl rfl rfl rfl (fun v27 w27 q27 => ?_)
    obtain ⟨rfl, t3, rfl⟩ := q27
    exact tg_iret (st := []) rfl rfl ⟨Nat.le_of_ble_eq_true rfl, Nat.le_of_ble_eq_true rfl⟩ (pQ_ok (by first | (simp (decide := true) only [wUp, decide_true, decide_false, cond_true, cond_false, Bool.false_eq_true, if_true, if_false, ite_true, ite_false, h6]; done) | (simp (decide := true) only [wUp, decide_true, decide_false, cond_true, cond_false, Bool.false_eq_true, if_true, if_false, ite_true, ite_false, h6]; done) | (simp (decide := true) only [wUp, decide_true, decide_false, cond_true, cond_false, Bool.false_eq_true, if_true, if_false, ite_true, ite_false, h6]; rfl) | rfl) (by first | (simp (decide := true) only [aFew, cj, decide_true, decide_false, cond_true, cond_false, Bool.false_eq_true, if_true, if_false, ite_true, ite_false, h6]; done) | (simp (decide := true) only [aFew, cj, decide_true, decide_false, cond_true, cond_false, Bool.false_eq_true, if_true, if_false, ite_true, ite_false, h6]; done) | (simp (decide := true) only [aFew, cj, decide_true, decide_false, cond_true, cond_false, Bool.false_eq_true, if_true, if_false, ite_true, ite_false, h6]; rfl) | rfl) (eqH_rf _) (eqH_rf _) ⟨rfl, rfl, rfl, rfl, rfl, rfl⟩)
  · refine tg_steps 2 rfl ?_
    refine tg_call1 rfl (c_bor _) rfl rfl rfl  (fun v11 w11 q11 => ?_)
    obtain ⟨rfl, rfl⟩ := q11
    refine tg_callV rfl (c_refuse _ (rf_bor _)) rfl rfl rfl rfl rfl (fun v14 w14 q14 => ?_)
    obtain ⟨rfl, rfl⟩ := q14
    exact tg_iret (st := []) rfl rfl ⟨Nat.le_of_ble_eq_true rfl, Nat.le_of_ble_eq_true rfl⟩ (pQ_refI (by first | (simp (decide := true) only [wUp, decide_true, decide_false, cond_true, cond_false, Bool.false_eq_true, if_true, if_false, ite_true, ite_false, h6]; done) | (simp (decide := true) only [wUp, decide_true, decide_false, cond_true, cond_false, Bool.false_eq_true, if_true, if_false, ite_true, ite_false, h6]; done) | (simp (decide := true) only [wUp, decide_true, decide_false, cond_true, cond_false, Bool.false_eq_true, if_true, if_false, ite_true, ite_false, h6]; rfl) | rfl) (by first | decide | exact rf_bor _))
set_option maxRecDepth 100000 in
set_option maxHeartbeats 2000000 in
theorem q_bestKind {G : tg_G} {n p t : tp_H} {x : tp_X} {r : List tg_Cl} (hm : hM n ≤ 7) (one : Int32) (what : Int32) : tg_C G 7 mX10_bestKind 0 0 [.ref 0, .int one, .int what] (tp_cs n p t x, r) (pQ (wHaW n one what) (.int (wHaW n one what)) (.int (aBes n one what)) n p x (n) (p) (x) r) := by
  refine tg_intro okX10_bestKind (Nat.le_of_ble_eq_true rfl) ?_
  refine tg_steps 3 rfl ?_
  refine tg_callV rfl (c_has_0 _) rfl rfl rfl rfl rfl (fun v5 w5 q5 => ?_)
  obtain ⟨rfl, rfl⟩ := q5
  refine tg_ifbne rfl rfl (fun h8 => ?_) (fun h8 => ?_)
  · refine tg_steps 2 rfl ?_
    refine tg_call1 rfl (c_isUpTo _ _) rfl rfl rfl  (fun v19 w19 q19 => ?_)
    obtain ⟨rfl, rfl⟩ := q19
    refine tg_ifbne rfl rfl (fun h22 => ?_) (fun h22 => ?_)
    · refine tg_steps 5 rfl ?_
      refine tg_callV rfl (c_soonestKind hm _) rfl rfl rfl rfl rfl (fun v41 w41 q41 => ?_)
      obtain ⟨rfl, t3, rfl⟩ := q41
      refine tg_steps 2 rfl ?_
      refine tg_ifne rfl rfl (fun h46 => ?_) (fun h46 => ?_)
      · refine tg_steps 6 rfl ?_
        refine tg_callV rfl (c_soonestAs hm _ _) rfl rfl rfl rfl rfl (fun v61 w61 q61 => ?_)
        obtain ⟨rfl, t4, rfl⟩ := q61
        refine tg_steps 3 rfl ?_
        refine tg_icle rfl rfl (fun h70 => ?_) (fun h70 => ?_)
        · refine tg_steps 1 rfl ?_
          exact tg_iret (st := []) rfl rfl ⟨Nat.le_of_ble_eq_true rfl, Nat.le_of_ble_eq_true rfl⟩ (pQ_ok (by first | (simp (decide := true) only [wHaW, decide_true, decide_false, cond_true, cond_false, Bool.false_eq_true, if_true, if_false, ite_true, ite_false, h8, h22, h46, h70, Int32.not_lt.mpr h70]; done) | (simp (decide := true) only [wHaW, decide_true, decide_false, cond_true, cond_false, Bool.false_eq_true, if_true, if_false, ite_true, ite_false, h8, h22, h46, h70, Int32.not_lt.mpr h70]; done) | (simp (decide := true) only [wHaW, decide_true, decide_false, cond_true, cond_false, Bool.false_eq_true, if_true, if_false, ite_true, ite_false, h8, h22, h46, h70, Int32.not_lt.mpr h70]; rfl) | rfl) (by first | (simp (decide := true) only [aBes, soK, decide_true, decide_false, cond_true, cond_false, Bool.false_eq_true, if_true, if_false, ite_true, ite_false, h8, h22, h46, h70, Int32.not_lt.mpr h70]; done) | (simp (decide := true) only [aBes, soK, decide_true, decide_false, cond_true, cond_false, Bool.false_eq_true, if_true, if_false, ite_true, ite_false, h8, h22, h46, h70, Int32.not_lt.mpr h70]; done) | (simp (decide := true) only [aBes, soK, decide_true, decide_false, cond_true, cond_false, Bool.false_eq_true, if_true, if_false, ite_true, ite_false, h8, h22, h46, h70, Int32.not_lt.mpr h70]; rfl) | rfl) (eqH_rf _) (eqH_rf _) ⟨rfl, rfl, rfl, rfl, rfl, rfl⟩)
        · refine tg_steps 2 rfl ?_
          exact tg_iret (st := []) rfl rfl ⟨Nat.le_of_ble_eq_true rfl, Nat.le_of_ble_eq_true rfl⟩ (pQ_ok (by first | (simp (decide := true) only [wHaW, decide_true, decide_false, cond_true, cond_false, Bool.false_eq_true, if_true, if_false, ite_true, ite_false, h8, h22, h46, h70, Int32.not_le.mp h70]; done) | (simp (decide := true) only [wHaW, decide_true, decide_false, cond_true, cond_false, Bool.false_eq_true, if_true, if_false, ite_true, ite_false, h8, h22, h46, h70, Int32.not_le.mp h70]; done) | (simp (decide := true) only [wHaW, decide_true, decide_false, cond_true, cond_false, Bool.false_eq_true, if_true, if_false, ite_true, ite_false, h8, h22, h46, h70, Int32.not_le.mp h70]; rfl) | rfl) (by first | (simp (decide := true) only [aBes, soK, decide_true, decide_false, cond_true, cond_false, Bool.false_eq_true, if_true, if_false, ite_true, ite_false, h8, h22, h46, h70, Int32.not_le.mp h70]; done) | (simp (decide := true) only [aBes, soK, decide_true, decide_false, cond_true, cond_false, Bool.false_eq_true, if_true, if_false, ite_true, ite_false, h8, h22, h46, h70, Int32.not_le.mp h70]; done) | (simp (decide := true) only [aBes, soK, decide_true, decide_false, cond_true, cond_false, Bool.false_eq_true, if_true, if_false, ite_true, ite_false, h8, h22, h46, h70, Int32.not_le.mp h70]; rfl) | rfl) (eqH_rf _) (eqH_rf _) ⟨rfl, rfl, rfl, rfl, rfl, rfl⟩)
      · refine tg_steps 1 rfl ?_
        exact tg_iret (st := []) rfl rfl ⟨Nat.le_of_ble_eq_true rfl, Nat.le_of_ble_eq_true rfl⟩ (pQ_ok (by first | (simp (decide := true) only [wHaW, decide_true, decide_false, cond_true, cond_false, Bool.false_eq_true, if_true, if_false, ite_true, ite_false, h8, h22, eq_true h46]; done) | (simp (decide := true) only [wHaW, decide_true, decide_false, cond_true, cond_false, Bool.false_eq_true, if_true, if_false, ite_true, ite_false, h8, h22, h46]; done) | (simp (decide := true) only [wHaW, decide_true, decide_false, cond_true, cond_false, Bool.false_eq_true, if_true, if_false, ite_true, ite_false, h8, h22, eq_true h46]; rfl) | rfl) (by first | (simp (decide := true) only [aBes, soK, decide_true, decide_false, cond_true, cond_false, Bool.false_eq_true, if_true, if_false, ite_true, ite_false, h8, h22, eq_true h46]; done) | (simp (decide := true) only [aBes, soK, decide_true, decide_false, cond_true, cond_false, Bool.false_eq_true, if_true, if_false, ite_true, ite_false, h8, h22, h46]; done) | (simp (decide := true) only [aBes, soK, decide_true, decide_false, cond_true, cond_false, Bool.false_eq_true, if_true, if_false, ite_true, ite_false, h8, h22, eq_true h46]; rfl) | rfl) (eqH_rf _) (eqH_rf _) ⟨rfl, rfl, rfl, rfl, rfl, rfl⟩)
    · refine tg_steps 2 rfl ?_
      refine tg_callV rfl (c_refuse (-2) (by decide)) rfl rfl rfl rfl rfl (fun v28 w28 q28 => ?_)
      obtain ⟨rfl, rfl⟩ := q28
      exact tg_iret (st := []) rfl rfl ⟨Nat.le_of_ble_eq_true rfl, Nat.le_of_ble_eq_true rfl⟩ (pQ_refI (by first | (simp (decide := true) only [wHaW, decide_true, decide_false, cond_true, cond_false, Bool.false_eq_true, if_true, if_false, ite_true, ite_false, h8, h22]; done) | (simp (decide := true) only [wHaW, decide_true, decide_false, cond_true, cond_false, Bool.false_eq_true, if_true, if_false, ite_true, ite_false, h8, h22]; done) | (simp (decide := true) only [wHaW, decide_true, decide_false, cond_true, cond_false, Bool.false_eq_true, if_true, if_false, ite_true, ite_false, h8, h22]; rfl) | rfl) (by first | decide | exact rf_bor _))
  · refine tg_steps 2 rfl ?_
    refine tg_callV rfl (c_refuse (-1) (by decide)) rfl rfl rfl rfl rfl (fun v13 w13 q13 => ?_)
    obtain ⟨rfl, rfl⟩ := q13
    exact tg_iret (st := []) rfl rfl ⟨Nat.le_of_ble_eq_true rfl, Nat.le_of_ble_eq_true rfl⟩ (pQ_refI (by first | (simp (decide := true) only [wHaW, decide_true, decide_false, cond_true, cond_false, Bool.false_eq_true, if_true, if_false, ite_true, ite_false, h8]; done) | (simp (decide := true) only [wHaW, decide_true, decide_false, cond_true, cond_false, Bool.false_eq_true, if_true, if_false, ite_true, ite_false, h8]; done) | (simp (decide := true) only [wHaW, decide_true, decide_false, cond_true, cond_false, Bool.false_eq_true, if_true, if_false, ite_true, ite_false, h8]; rfl) | rfl) (by first | decide | exact rf_bor _))
set_option maxRecDepth 100000 in
set_option maxHeartbeats 2000000 in
theorem q_crowd {G : tg_G} {n p t : tp_H} {x : tp_X} {r : List tg_Cl} (hm : hM n ≤ 7) (what : Int32) : tg_C G 4 mX10_crowd 0 0 [.ref 0, .int what] (tp_cs n p t x, r) (pQ (wCro what) (.int (wCro what)) (.int (aCro n what)) n p x (n) (p) (x) r) := by
  refine tg_intro okX10_crowd (Nat.le_of_ble_eq_true rfl) ?_
  refine tg_steps 1 rfl ?_
  refine tg_tsw rfl ?_
  refine And.intro (fun h1_0 => ?_) (fun h1_0 => ?_)
  · refine tg_steps 2 rfl ?_
    refine tg_callV rfl (c_fullestTile_0 hm) rfl rfl rfl rfl rfl (fun v48 w48 q48 => ?_)
    obtain ⟨rfl, rfl⟩ := q48
    exact tg_iret (st := []) rfl rfl ⟨Nat.le_of_ble_eq_true rfl, Nat.le_of_ble_eq_true rfl⟩ (pQ_ok (by first | (simp (decide := true) only [wCro, decide_true, decide_false, cond_true, cond_false, Bool.false_eq_true, if_true, if_false, ite_true, ite_false, eq_true h1_0]; done) | (simp (decide := true) only [wCro, decide_true, decide_false, cond_true, cond_false, Bool.false_eq_true, if_true, if_false, ite_true, ite_false, h1_0]; done) | (simp (decide := true) only [wCro, decide_true, decide_false, cond_true, cond_false, Bool.false_eq_true, if_true, if_false, ite_true, ite_false, eq_true h1_0]; rfl) | rfl) (by first | (simp (decide := true) only [aCro, decide_true, decide_false, cond_true, cond_false, Bool.false_eq_true, if_true, if_false, ite_true, ite_false, eq_true h1_0]; done) | (simp (decide := true) only [aCro, decide_true, decide_false, cond_true, cond_false, Bool.false_eq_true, if_true, if_false, ite_true, ite_false, h1_0]; done) | (simp (decide := true) only [aCro, decide_true, decide_false, cond_true, cond_false, Bool.false_eq_true, if_true, if_false, ite_true, ite_false, eq_true h1_0]; rfl) | rfl) (eqH_rf _) (eqH_rf _) ⟨rfl, rfl, rfl, rfl, rfl, rfl⟩)
  refine And.intro (fun h1_1 => ?_) (fun h1_1 => ?_)
  · refine tg_steps 4 rfl ?_
    refine tg_callV rfl (c_fullestTile_0 hm) rfl rfl rfl rfl rfl (fun v60 w60 q60 => ?_)
    obtain ⟨rfl, rfl⟩ := q60
    refine tg_callV rfl (c_onesAt_0 hm _) rfl rfl rfl rfl rfl (fun v63 w63 q63 => ?_)
    obtain ⟨rfl, rfl⟩ := q63
    refine tg_call1 rfl (c_bitCount _) rfl rfl rfl  (fun v66 w66 q66 => ?_)
    obtain ⟨rfl, rfl⟩ := q66
    exact tg_iret (st := []) rfl rfl ⟨Nat.le_of_ble_eq_true rfl, Nat.le_of_ble_eq_true rfl⟩ (pQ_ok (by first | (simp (decide := true) only [wCro, decide_true, decide_false, cond_true, cond_false, Bool.false_eq_true, if_true, if_false, ite_true, ite_false, h1_0, eq_true h1_1]; done) | (simp (decide := true) only [wCro, decide_true, decide_false, cond_true, cond_false, Bool.false_eq_true, if_true, if_false, ite_true, ite_false, h1_0, h1_1]; done) | (simp (decide := true) only [wCro, decide_true, decide_false, cond_true, cond_false, Bool.false_eq_true, if_true, if_false, ite_true, ite_false, h1_0, eq_true h1_1]; rfl) | rfl) (by first | (simp (decide := true) only [aCro, decide_true, decide_false, cond_true, cond_false, Bool.false_eq_true, if_true, if_false, ite_true, ite_false, h1_0, eq_true h1_1]; done) | (simp (decide := true) only [aCro, decide_true, decide_false, cond_true, cond_false, Bool.false_eq_true, if_true, if_false, ite_true, ite_false, h1_0, h1_1]; done) | (simp (decide := true) only [aCro, decide_true, decide_false, cond_true, cond_false, Bool.false_eq_true, if_true, if_false, ite_true, ite_false, h1_0, eq_true h1_1]; rfl) | rfl) (eqH_rf _) (eqH_rf _) ⟨rfl, rfl, rfl, rfl, rfl, rfl⟩)
  refine And.intro (fun h1_2 => ?_) (fun h1_2 => ?_)
  · refine tg_steps 2 rfl ?_
    refine tg_callV rfl (c_homeMany_0 hm) rfl rfl rfl rfl rfl (fun v74 w74 q74 => ?_)
    obtain ⟨rfl, rfl⟩ := q74
    exact tg_iret (st := []) rfl rfl ⟨Nat.le_of_ble_eq_true rfl, Nat.le_of_ble_eq_true rfl⟩ (pQ_ok (by first | (simp (decide := true) only [wCro, decide_true, decide_false, cond_true, cond_false, Bool.false_eq_true, if_true, if_false, ite_true, ite_false, h1_0, h1_1, eq_true h1_2]; done) | (simp (decide := true) only [wCro, decide_true, decide_false, cond_true, cond_false, Bool.false_eq_true, if_true, if_false, ite_true, ite_false, h1_0, h1_1, h1_2]; done) | (simp (decide := true) only [wCro, decide_true, decide_false, cond_true, cond_false, Bool.false_eq_true, if_true, if_false, ite_true, ite_false, h1_0, h1_1, eq_true h1_2]; rfl) | rfl) (by first | (simp (decide := true) only [aCro, decide_true, decide_false, cond_true, cond_false, Bool.false_eq_true, if_true, if_false, ite_true, ite_false, h1_0, h1_1, eq_true h1_2]; done) | (simp (decide := true) only [aCro, decide_true, decide_false, cond_true, cond_false, Bool.false_eq_true, if_true, if_false, ite_true, ite_false, h1_0, h1_1, h1_2]; done) | (simp (decide := true) only [aCro, decide_true, decide_false, cond_true, cond_false, Bool.false_eq_true, if_true, if_false, ite_true, ite_false, h1_0, h1_1, eq_true h1_2]; rfl) | rfl) (eqH_rf _) (eqH_rf _) ⟨rfl, rfl, rfl, rfl, rfl, rfl⟩)
  refine And.intro (fun h1_3 => ?_) (fun h1_3 => ?_)
  · refine tg_steps 2 rfl ?_
    refine tg_callV rfl (c_lostMany_0 hm) rfl rfl rfl rfl rfl (fun v82 w82 q82 => ?_)
    obtain ⟨rfl, rfl⟩ := q82
    exact tg_iret (st := []) rfl rfl ⟨Nat.le_of_ble_eq_true rfl, Nat.le_of_ble_eq_true rfl⟩ (pQ_ok (by first | (simp (decide := true) only [wCro, decide_true, decide_false, cond_true, cond_false, Bool.false_eq_true, if_true, if_false, ite_true, ite_false, h1_0, h1_1, h1_2, eq_true h1_3]; done) | (simp (decide := true) only [wCro, decide_true, decide_false, cond_true, cond_false, Bool.false_eq_true, if_true, if_false, ite_true, ite_false, h1_0, h1_1, h1_2, h1_3]; done) | (simp (decide := true) only [wCro, decide_true, decide_false, cond_true, cond_false, Bool.false_eq_true, if_true, if_false, ite_true, ite_false, h1_0, h1_1, h1_2, eq_true h1_3]; rfl) | rfl) (by first | (simp (decide := true) only [aCro, decide_true, decide_false, cond_true, cond_false, Bool.false_eq_true, if_true, if_false, ite_true, ite_false, h1_0, h1_1, h1_2, eq_true h1_3]; done) | (simp (decide := true) only [aCro, decide_true, decide_false, cond_true, cond_false, Bool.false_eq_true, if_true, if_false, ite_true, ite_false, h1_0, h1_1, h1_2, h1_3]; done) | (simp (decide := true) only [aCro, decide_true, decide_false, cond_true, cond_false, Bool.false_eq_true, if_true, if_false, ite_true, ite_false, h1_0, h1_1, h1_2, eq_true h1_3]; rfl) | rfl) (eqH_rf _) (eqH_rf _) ⟨rfl, rfl, rfl, rfl, rfl, rfl⟩)
  refine And.intro (fun h1_4 => ?_) (fun h1_4 => ?_)
  · refine tg_steps 2 rfl ?_
    refine tg_callV rfl (c_pinnedMany_0 hm) rfl rfl rfl rfl rfl (fun v90 w90 q90 => ?_)
    obtain ⟨rfl, rfl⟩ := q90
    exact tg_iret (st := []) rfl rfl ⟨Nat.le_of_ble_eq_true rfl, Nat.le_of_ble_eq_true rfl⟩ (pQ_ok (by first | (simp (decide := true) only [wCro, decide_true, decide_false, cond_true, cond_false, Bool.false_eq_true, if_true, if_false, ite_true, ite_false, h1_0, h1_1, h1_2, h1_3, eq_true h1_4]; done) | (simp (decide := true) only [wCro, decide_true, decide_false, cond_true, cond_false, Bool.false_eq_true, if_true, if_false, ite_true, ite_false, h1_0, h1_1, h1_2, h1_3, h1_4]; done) | (simp (decide := true) only [wCro, decide_true, decide_false, cond_true, cond_false, Bool.false_eq_true, if_true, if_false, ite_true, ite_false, h1_0, h1_1, h1_2, h1_3, eq_true h1_4]; rfl) | rfl) (by first | (simp (decide := true) only [aCro, decide_true, decide_false, cond_true, cond_false, Bool.false_eq_true, if_true, if_false, ite_true, ite_false, h1_0, h1_1, h1_2, h1_3, eq_true h1_4]; done) | (simp (decide := true) only [aCro, decide_true, decide_false, cond_true, cond_false, Bool.false_eq_true, if_true, if_false, ite_true, ite_false, h1_0, h1_1, h1_2, h1_3, h1_4]; done) | (simp (decide := true) only [aCro, decide_true, decide_false, cond_true, cond_false, Bool.false_eq_true, if_true, if_false, ite_true, ite_false, h1_0, h1_1, h1_2, h1_3, eq_true h1_4]; rfl) | rfl) (eqH_rf _) (eqH_rf _) ⟨rfl, rfl, rfl, rfl, rfl, rfl⟩)
  refine And.intro (fun h1_5 => ?_) (fun h1_5 => ?_)
  · refine tg_steps 2 rfl ?_
    refine tg_callV rfl (c_besideMany_0 hm) rfl rfl rfl rfl rfl (fun v98 w98 q98 => ?_)
    obtain ⟨rfl, rfl⟩ := q98
    exact tg_iret (st := []) rfl rfl ⟨Nat.le_of_ble_eq_true rfl, Nat.le_of_ble_eq_true rfl⟩ (pQ_ok (by first | (simp (decide := true) only [wCro, decide_true, decide_false, cond_true, cond_false, Bool.false_eq_true, if_true, if_false, ite_true, ite_false, h1_0, h1_1, h1_2, h1_3, h1_4, eq_true h1_5]; done) | (simp (decide := true) only [wCro, decide_true, decide_false, cond_true, cond_false, Bool.false_eq_true, if_true, if_false, ite_true, ite_false, h1_0, h1_1, h1_2, h1_3, h1_4, h1_5]; done) | (simp (decide := true) only [wCro, decide_true, decide_false, cond_true, cond_false, Bool.false_eq_true, if_true, if_false, ite_true, ite_false, h1_0, h1_1, h1_2, h1_3, h1_4, eq_true h1_5]; rfl) | rfl) (by first | (simp (decide := true) only [aCro, decide_true, decide_false, cond_true, cond_false, Bool.false_eq_true, if_true, if_false, ite_true, ite_false, h1_0, h1_1, h1_2, h1_3, h1_4, eq_true h1_5]; done) | (simp (decide := true) only [aCro, decide_true, decide_false, cond_true, cond_false, Bool.false_eq_true, if_true, if_false, ite_true, ite_false, h1_0, h1_1, h1_2, h1_3, h1_4, h1_5]; done) | (simp (decide := true) only [aCro, decide_true, decide_false, cond_true, cond_false, Bool.false_eq_true, if_true, if_false, ite_true, ite_false, h1_0, h1_1, h1_2, h1_3, h1_4, eq_true h1_5]; rfl) | rfl) (eqH_rf _) (eqH_rf _) ⟨rfl, rfl, rfl, rfl, rfl, rfl⟩)
  refine And.intro (fun h1_6 => ?_) (fun h1_6 => ?_)
  · refine tg_steps 2 rfl ?_
    refine tg_callV rfl (c_emptyTiles_0 hm) rfl rfl rfl rfl rfl (fun v106 w106 q106 => ?_)
    obtain ⟨rfl, rfl⟩ := q106
    exact tg_iret (st := []) rfl rfl ⟨Nat.le_of_ble_eq_true rfl, Nat.le_of_ble_eq_true rfl⟩ (pQ_ok (by first | (simp (decide := true) only [wCro, decide_true, decide_false, cond_true, cond_false, Bool.false_eq_true, if_true, if_false, ite_true, ite_false, h1_0, h1_1, h1_2, h1_3, h1_4, h1_5, eq_true h1_6]; done) | (simp (decide := true) only [wCro, decide_true, decide_false, cond_true, cond_false, Bool.false_eq_true, if_true, if_false, ite_true, ite_false, h1_0, h1_1, h1_2, h1_3, h1_4, h1_5, h1_6]; done) | (simp (decide := true) only [wCro, decide_true, decide_false, cond_true, cond_false, Bool.false_eq_true, if_true, if_false, ite_true, ite_false, h1_0, h1_1, h1_2, h1_3, h1_4, h1_5, eq_true h1_6]; rfl) | rfl) (by first | (simp (decide := true) only [aCro, decide_true, decide_false, cond_true, cond_false, Bool.false_eq_true, if_true, if_false, ite_true, ite_false, h1_0, h1_1, h1_2, h1_3, h1_4, h1_5, eq_true h1_6]; done) | (simp (decide := true) only [aCro, decide_true, decide_false, cond_true, cond_false, Bool.false_eq_true, if_true, if_false, ite_true, ite_false, h1_0, h1_1, h1_2, h1_3, h1_4, h1_5, h1_6]; done) | (simp (decide := true) only [aCro, decide_true, decide_false, cond_true, cond_false, Bool.false_eq_true, if_true, if_false, ite_true, ite_false, h1_0, h1_1, h1_2, h1_3, h1_4, h1_5, eq_true h1_6]; rfl) | rfl) (eqH_rf _) (eqH_rf _) ⟨rfl, rfl, rfl, rfl, rfl, rfl⟩)
  refine tg_steps 2 rfl ?_
  refine tg_callV rfl (c_refuse (-2) (by decide)) rfl rfl rfl rfl rfl (fun v113 w113 q113 => ?_)
  obtain ⟨rfl, rfl⟩ := q113
  exact tg_iret (st := []) rfl rfl ⟨Nat.le_of_ble_eq_true rfl, Nat.le_of_ble_eq_true rfl⟩ (pQ_refI (by first | (simp (decide := true) only [wCro, decide_true, decide_false, cond_true, cond_false, Bool.false_eq_true, if_true, if_false, ite_true, ite_false, h1_0, h1_1, h1_2, h1_3, h1_4, h1_5, h1_6]; done) | (simp (decide := true) only [wCro, decide_true, decide_false, cond_true, cond_false, Bool.false_eq_true, if_true, if_false, ite_true, ite_false, h1_0, h1_1, h1_2, h1_3, h1_4, h1_5, h1_6]; done) | (simp (decide := true) only [wCro, decide_true, decide_false, cond_true, cond_false, Bool.false_eq_true, if_true, if_false, ite_true, ite_false, h1_0, h1_1, h1_2, h1_3, h1_4, h1_5, h1_6]; rfl) | rfl) (by first | decide | exact rf_bor _))
set_option maxRecDepth 100000 in
set_option maxHeartbeats 2000000 in
theorem q_farthest {G : tg_G} {n p t : tp_H} {x : tp_X} {r : List tg_Cl} (hm : hM n ≤ 7) (what : Int32) : tg_C G 5 mX10_farthest 0 0 [.ref 0, .int what] (tp_cs n p t x, r) (pQ (wWh what) (.int (wWh what)) (.int (aFaH n what)) n p x (n) (p) (x) r) := by
  refine tg_intro okX10_farthest (Nat.le_of_ble_eq_true rfl) ?_
  refine tg_steps 2 rfl ?_
  refine tg_call1 rfl (c_isUpTo _ _) rfl rfl rfl  (fun v2 w2 q2 => ?_)
  obtain ⟨rfl, rfl⟩ := q2
  refine tg_ifbne rfl rfl (fun h5 => ?_) (fun h5 => ?_)
  · refine tg_steps 2 rfl ?_
    refine tg_callV rfl (c_farthestFromHome_0 hm) rfl rfl rfl rfl rfl (fun v19 w19 q19 => ?_)
    obtain ⟨rfl, rfl⟩ := q19
    refine tg_steps 2 rfl ?_
    refine tg_ifeq rfl rfl (fun h24 => ?_) (fun h24 => ?_)
    · refine tg_steps 2 rfl ?_
      exact tg_iret (st := []) rfl rfl ⟨Nat.le_of_ble_eq_true rfl, Nat.le_of_ble_eq_true rfl⟩ (pQ_ok (by first | (simp (decide := true) only [wWh, decide_true, decide_false, cond_true, cond_false, Bool.false_eq_true, if_true, if_false, ite_true, ite_false, h5, eq_true h24]; done) | (simp (decide := true) only [wWh, decide_true, decide_false, cond_true, cond_false, Bool.false_eq_true, if_true, if_false, ite_true, ite_false, h5, h24]; done) | (simp (decide := true) only [wWh, decide_true, decide_false, cond_true, cond_false, Bool.false_eq_true, if_true, if_false, ite_true, ite_false, h5, eq_true h24]; rfl) | rfl) (by first | (simp (decide := true) only [aFaH, decide_true, decide_false, cond_true, cond_false, Bool.false_eq_true, if_true, if_false, ite_true, ite_false, h5, eq_true h24]; done) | (simp (decide := true) only [aFaH, decide_true, decide_false, cond_true, cond_false, Bool.false_eq_true, if_true, if_false, ite_true, ite_false, h5, h24]; done) | (simp (decide := true) only [aFaH, decide_true, decide_false, cond_true, cond_false, Bool.false_eq_true, if_true, if_false, ite_true, ite_false, h5, eq_true h24]; rfl) | rfl) (eqH_rf _) (eqH_rf _) ⟨rfl, rfl, rfl, rfl, rfl, rfl⟩)
    · refine tg_steps 2 rfl ?_
      refine tg_icne rfl rfl (fun h30 => ?_) (fun h30 => ?_)
      · refine tg_steps 3 rfl ?_
        refine tg_callV rfl (c_fromHome_0 hm _) rfl rfl rfl rfl rfl (fun v42 w42 q42 => ?_)
        obtain ⟨rfl, rfl⟩ := q42
        exact tg_iret (st := []) rfl rfl ⟨Nat.le_of_ble_eq_true rfl, Nat.le_of_ble_eq_true rfl⟩ (pQ_ok (by first | (simp (decide := true) only [wWh, decide_true, decide_false, cond_true, cond_false, Bool.false_eq_true, if_true, if_false, ite_true, ite_false, h5, h24, h30]; done) | (simp (decide := true) only [wWh, decide_true, decide_false, cond_true, cond_false, Bool.false_eq_true, if_true, if_false, ite_true, ite_false, h5, h24, h30]; done) | (simp (decide := true) only [wWh, decide_true, decide_false, cond_true, cond_false, Bool.false_eq_true, if_true, if_false, ite_true, ite_false, h5, h24, h30]; rfl) | rfl) (by first | (simp (decide := true) only [aFaH, decide_true, decide_false, cond_true, cond_false, Bool.false_eq_true, if_true, if_false, ite_true, ite_false, h5, h24, h30]; done) | (simp (decide := true) only [aFaH, decide_true, decide_false, cond_true, cond_false, Bool.false_eq_true, if_true, if_false, ite_true, ite_false, h5, h24, h30]; done) | (simp (decide := true) only [aFaH, decide_true, decide_false, cond_true, cond_false, Bool.false_eq_true, if_true, if_false, ite_true, ite_false, h5, h24, h30]; rfl) | rfl) (eqH_rf _) (eqH_rf _) ⟨rfl, rfl, rfl, rfl, rfl, rfl⟩)
      · refine tg_steps 2 rfl ?_
        exact tg_iret (st := []) rfl rfl ⟨Nat.le_of_ble_eq_true rfl, Nat.le_of_ble_eq_true rfl⟩ (pQ_ok (by first | (simp (decide := true) only [wWh, decide_true, decide_false, cond_true, cond_false, Bool.false_eq_true, if_true, if_false, ite_true, ite_false, h5, h24, eq_true h30]; done) | (simp (decide := true) only [wWh, decide_true, decide_false, cond_true, cond_false, Bool.false_eq_true, if_true, if_false, ite_true, ite_false, h5, h24, h30]; done) | (simp (decide := true) only [wWh, decide_true, decide_false, cond_true, cond_false, Bool.false_eq_true, if_true, if_false, ite_true, ite_false, h5, h24, eq_true h30]; rfl) | rfl) (by first | (simp (decide := true) only [aFaH, decide_true, decide_false, cond_true, cond_false, Bool.false_eq_true, if_true, if_false, ite_true, ite_false, h5, h24, eq_true h30]; done) | (simp (decide := true) only [aFaH, decide_true, decide_false, cond_true, cond_false, Bool.false_eq_true, if_true, if_false, ite_true, ite_false, h5, h24, h30]; done) | (simp (decide := true) only [aFaH, decide_true, decide_false, cond_true, cond_false, Bool.false_eq_true, if_true, if_false, ite_true, ite_false, h5, h24, eq_true h30]; rfl) | rfl) (eqH_rf _) (eqH_rf _) ⟨rfl, rfl, rfl, rfl, rfl, rfl⟩)
  · refine tg_steps 2 rfl ?_
    refine tg_callV rfl (c_refuse (-2) (by decide)) rfl rfl rfl rfl rfl (fun v11 w11 q11 => ?_)
    obtain ⟨rfl, rfl⟩ := q11
    exact tg_iret (st := []) rfl rfl ⟨Nat.le_of_ble_eq_true rfl, Nat.le_of_ble_eq_true rfl⟩ (pQ_refI (by first | (simp (decide := true) only [wWh, decide_true, decide_false, cond_true, cond_false, Bool.false_eq_true, if_true, if_false, ite_true, ite_false, h5]; done) | (simp (decide := true) only [wWh, decide_true, decide_false, cond_true, cond_false, Bool.false_eq_true, if_true, if_false, ite_true, ite_false, h5]; done) | (simp (decide := true) only [wWh, decide_true, decide_false, cond_true, cond_false, Bool.false_eq_true, if_true, if_false, ite_true, ite_false, h5]; rfl) | rfl) (by first | decide | exact rf_bor _))
set_option maxRecDepth 100000 in
set_option maxHeartbeats 2000000 in
theorem q_order {G : tg_G} {n p t : tp_H} {x : tp_X} {r : List tg_Cl} (hm : hM n ≤ 7) (i : Int32) : tg_C G 4 mX10_order 0 0 [.ref 0, .int i] (tp_cs n p t x, r) (pQ (wOrd i) (.int (wOrd i)) (.int (aOrd n i)) n p x (n) (p) (x) r) := by
  refine tg_intro okX10_order (Nat.le_of_ble_eq_true rfl) ?_
  refine tg_steps 1 rfl ?_
  refine tg_ifge rfl rfl (fun h1 => ?_) (fun h1 => ?_)
  · refine tg_steps 2 rfl ?_
    refine tg_pkV [0, 1, 2] ?_
    refine tg_eqS (L2 := [(0, .ref 0), (1, .int i), (2, .int (nI (0)))]) (st2 := []) (w2 := (tp_cs n p t x, r)) rfl rfl rfl ?_
    refine tg_down (φ := fun k : Nat => (aOrd n i = fiV (orP n i) nI (-9) (hM n - (k)) (k)) → tg_V G 4 mX10_order 0 0 0 0 (pQ (wOrd i) (.int (wOrd i)) (.int (aOrd n i)) n p x (n) (p) (x) r) 13 [(0, .ref 0), (1, .int i), (2, .int (nI (k)))] [] (tp_cs n p t x, r)) (n := hM n) ?_ ?_ 0 (Nat.zero_le _) (rfl)
    · intro hinv13
      refine tg_steps 4 rfl ?_
      refine tg_icge rfl rfl (fun h21 => ?_) (fun h21 => ?_)
      · refine tg_steps 1 rfl ?_
        exact tg_iret (st := []) rfl rfl ⟨Nat.le_of_ble_eq_true rfl, Nat.le_of_ble_eq_true rfl⟩ (pQ_ok (by first | (simp (decide := true) only [wOrd, decide_true, decide_false, cond_true, cond_false, Bool.false_eq_true, if_true, if_false, ite_true, ite_false, h1, Int32.not_lt.mpr h1]; done) | (simp (decide := true) only [wOrd, decide_true, decide_false, cond_true, cond_false, Bool.false_eq_true, if_true, if_false, ite_true, ite_false, h1, Int32.not_lt.mpr h1]; done) | (simp (decide := true) only [wOrd, decide_true, decide_false, cond_true, cond_false, Bool.false_eq_true, if_true, if_false, ite_true, ite_false, h1, Int32.not_lt.mpr h1]; rfl) | rfl) (by rw [hinv13, Nat.sub_self]; rfl) (eqH_rf _) (eqH_rf _) ⟨rfl, rfl, rfl, rfl, rfl, rfl⟩)
      · exact absurd (nI_le (Nat.le_refl _) (by omega)) h21
    · intro k hi13 ih13 hinv13
      rw [show hM n - k = hM n - (k + 1) + 1 by omega, fiV_succ _ _ _ (hM n - (k + 1)) k] at hinv13
      refine tg_steps 4 rfl ?_
      refine tg_icge rfl rfl (fun h21 => ?_) (fun h21 => ?_)
      · exact absurd h21 (nI_ge hi13 (by omega))
      · refine tg_steps 3 rfl ?_
        refine tg_callV rfl (c_isAboard_0 hm _) rfl rfl rfl rfl rfl (fun v29 w29 q29 => ?_)
        obtain ⟨rfl, rfl⟩ := q29
        refine tg_ifbne rfl rfl (fun h32 => ?_) (fun h32 => ?_)
        · refine tg_steps 2 rfl ?_
          refine tg_pkV [0, 1, 2] ?_
          refine tg_eqS (L2 := [(0, .ref 0), (1, .int i), (2, .int (nI (k + 1)))]) (st2 := []) (w2 := (tp_cs n p t x, r)) (by first | rfl | (simp (decide := true) only [nI_succ, decide_true, decide_false, cond_true, cond_false, Bool.false_eq_true, if_true, if_false, ite_true, ite_false, h1, Int32.not_lt.mpr h1, h32]; done) | (simp (decide := true) only [nI_succ, decide_true, decide_false, cond_true, cond_false, Bool.false_eq_true, if_true, if_false, ite_true, ite_false, h1, Int32.not_lt.mpr h1, h32]; rfl)) rfl (by first | rfl | (simp (decide := true) only [nI_succ, decide_true, decide_false, cond_true, cond_false, Bool.false_eq_true, if_true, if_false, ite_true, ite_false, h1, Int32.not_lt.mpr h1, h32]; done) | (simp (decide := true) only [nI_succ, decide_true, decide_false, cond_true, cond_false, Bool.false_eq_true, if_true, if_false, ite_true, ite_false, h1, Int32.not_lt.mpr h1, h32]; rfl)) ?_
          exact ih13 (by simp only [orP, decide_true, decide_false, cond_true, cond_false, Bool.false_eq_true, if_true, if_false, ite_true, ite_false, h1, Int32.not_lt.mpr h1, h32] at hinv13; exact hinv13)
        · refine tg_steps 3 rfl ?_
          refine tg_callV rfl (c_aheadOf_0 hm _) rfl rfl rfl rfl rfl (fun v40 w40 q40 => ?_)
          obtain ⟨rfl, rfl⟩ := q40
          refine tg_steps 1 rfl ?_
          refine tg_icne rfl rfl (fun h44 => ?_) (fun h44 => ?_)
          · refine tg_steps 2 rfl ?_
            refine tg_pkV [0, 1, 2] ?_
            refine tg_eqS (L2 := [(0, .ref 0), (1, .int i), (2, .int (nI (k + 1)))]) (st2 := []) (w2 := (tp_cs n p t x, r)) (by first | rfl | (simp (decide := true) only [nI_succ, decide_true, decide_false, cond_true, cond_false, Bool.false_eq_true, if_true, if_false, ite_true, ite_false, h1, Int32.not_lt.mpr h1, h32, h44]; done) | (simp (decide := true) only [nI_succ, decide_true, decide_false, cond_true, cond_false, Bool.false_eq_true, if_true, if_false, ite_true, ite_false, h1, Int32.not_lt.mpr h1, h32, h44]; rfl)) rfl (by first | rfl | (simp (decide := true) only [nI_succ, decide_true, decide_false, cond_true, cond_false, Bool.false_eq_true, if_true, if_false, ite_true, ite_false, h1, Int32.not_lt.mpr h1, h32, h44]; done) | (simp (decide := true) only [nI_succ, decide_true, decide_false, cond_true, cond_false, Bool.false_eq_true, if_true, if_false, ite_true, ite_false, h1, Int32.not_lt.mpr h1, h32, h44]; rfl)) ?_
            exact ih13 (by simp only [orP, decide_true, decide_false, cond_true, cond_false, Bool.false_eq_true, if_true, if_false, ite_true, ite_false, h1, Int32.not_lt.mpr h1, h32, h44] at hinv13; exact hinv13)
          · refine tg_steps 1 rfl ?_
            exact tg_iret (st := []) rfl rfl ⟨Nat.le_of_ble_eq_true rfl, Nat.le_of_ble_eq_true rfl⟩ (pQ_ok (by first | (simp (decide := true) only [wOrd, decide_true, decide_false, cond_true, cond_false, Bool.false_eq_true, if_true, if_false, ite_true, ite_false, h1, Int32.not_lt.mpr h1, h32, eq_true h44]; done) | (simp (decide := true) only [wOrd, decide_true, decide_false, cond_true, cond_false, Bool.false_eq_true, if_true, if_false, ite_true, ite_false, h1, Int32.not_lt.mpr h1, h32, h44]; done) | (simp (decide := true) only [wOrd, decide_true, decide_false, cond_true, cond_false, Bool.false_eq_true, if_true, if_false, ite_true, ite_false, h1, Int32.not_lt.mpr h1, h32, eq_true h44]; rfl) | rfl) (by simp only [orP, decide_true, decide_false, cond_true, cond_false, Bool.false_eq_true, if_true, if_false, ite_true, ite_false, h1, Int32.not_lt.mpr h1, h32, eq_true h44] at hinv13; rw [hinv13]) (eqH_rf _) (eqH_rf _) ⟨rfl, rfl, rfl, rfl, rfl, rfl⟩)
  · refine tg_steps 2 rfl ?_
    refine tg_callV rfl (c_refuse (-4) (by decide)) rfl rfl rfl rfl rfl (fun v7 w7 q7 => ?_)
    obtain ⟨rfl, rfl⟩ := q7
    exact tg_iret (st := []) rfl rfl ⟨Nat.le_of_ble_eq_true rfl, Nat.le_of_ble_eq_true rfl⟩ (pQ_refI (by first | (simp (decide := true) only [wOrd, decide_true, decide_false, cond_true, cond_false, Bool.false_eq_true, if_true, if_false, ite_true, ite_false, h1, Int32.not_le.mp h1]; done) | (simp (decide := true) only [wOrd, decide_true, decide_false, cond_true, cond_false, Bool.false_eq_true, if_true, if_false, ite_true, ite_false, h1, Int32.not_le.mp h1]; done) | (simp (decide := true) only [wOrd, decide_true, decide_false, cond_true, cond_false, Bool.false_eq_true, if_true, if_false, ite_true, ite_false, h1, Int32.not_le.mp h1]; rfl) | rfl) (by first | decide | exact rf_bor _))
set_option maxRecDepth 100000 in
set_option maxHeartbeats 2000000 in
theorem q_two {G : tg_G} {n p t : tp_H} {x : tp_X} {r : List tg_Cl} (hm : hM n ≤ 7) (a : Int32) (b : Int32) (k : Int32) : tg_C G 7 mX10_two 0 0 [.ref 0, .int a, .int b, .int k] (tp_cs n p t x, r) (pQ (wTwo n a b k) (.int (wTwo n a b k)) (.int (aTwo n a b k)) n p x (n) (p) (x) r) := by
  refine tg_intro okX10_two (Nat.le_of_ble_eq_true rfl) ?_
  refine tg_steps 3 rfl ?_
  refine tg_callV rfl (c_has_0 _) rfl rfl rfl rfl rfl (fun v5 w5 q5 => ?_)
  obtain ⟨rfl, rfl⟩ := q5
  refine tg_ifbeq rfl rfl (fun h8 => ?_) (fun h8 => ?_)
  · refine tg_steps 2 rfl ?_
    refine tg_callV rfl (c_refuse (-1) (by decide)) rfl rfl rfl rfl rfl (fun v29 w29 q29 => ?_)
    obtain ⟨rfl, rfl⟩ := q29
    exact tg_iret (st := []) rfl rfl ⟨Nat.le_of_ble_eq_true rfl, Nat.le_of_ble_eq_true rfl⟩ (pQ_refI (by first | (simp (decide := true) only [wTwo, decide_true, decide_false, cond_true, cond_false, Bool.false_eq_true, if_true, if_false, ite_true, ite_false, h8]; done) | (simp (decide := true) only [wTwo, decide_true, decide_false, cond_true, cond_false, Bool.false_eq_true, if_true, if_false, ite_true, ite_false, h8]; done) | (simp (decide := true) only [wTwo, decide_true, decide_false, cond_true, cond_false, Bool.false_eq_true, if_true, if_false, ite_true, ite_false, h8]; rfl) | rfl) (by first | decide | exact rf_bor _))
  · refine tg_steps 3 rfl ?_
    refine tg_callV rfl (c_has_0 _) rfl rfl rfl rfl rfl (fun v16 w16 q16 => ?_)
    obtain ⟨rfl, rfl⟩ := q16
    refine tg_ifbeq rfl rfl (fun h19 => ?_) (fun h19 => ?_)
    · refine tg_steps 2 rfl ?_
      refine tg_callV rfl (c_refuse (-1) (by decide)) rfl rfl rfl rfl rfl (fun v29 w29 q29 => ?_)
      obtain ⟨rfl, rfl⟩ := q29
      exact tg_iret (st := []) rfl rfl ⟨Nat.le_of_ble_eq_true rfl, Nat.le_of_ble_eq_true rfl⟩ (pQ_refI (by first | (simp (decide := true) only [wTwo, decide_true, decide_false, cond_true, cond_false, Bool.false_eq_true, if_true, if_false, ite_true, ite_false, h8, h19]; done) | (simp (decide := true) only [wTwo, decide_true, decide_false, cond_true, cond_false, Bool.false_eq_true, if_true, if_false, ite_true, ite_false, h8, h19]; done) | (simp (decide := true) only [wTwo, decide_true, decide_false, cond_true, cond_false, Bool.false_eq_true, if_true, if_false, ite_true, ite_false, h8, h19]; rfl) | rfl) (by first | decide | exact rf_bor _))
    · refine tg_steps 2 rfl ?_
      refine tg_icne rfl rfl (fun h24 => ?_) (fun h24 => ?_)
      · refine tg_steps 2 rfl ?_
        refine tg_call1 rfl (c_isUpTo _ _) rfl rfl rfl  (fun v36 w36 q36 => ?_)
        obtain ⟨rfl, rfl⟩ := q36
        refine tg_ifbne rfl rfl (fun h39 => ?_) (fun h39 => ?_)
        · obtain ⟨j, hj, rfl⟩ := up_j (m := 9) rfl h39
          have cj : nN (nI j) = j := nI_clamp (by omega)
          refine tg_steps 7 rfl ?_
          refine tg_callV rfl (c_firstSettledPair hm _ _ j (by omega)) rfl rfl rfl rfl rfl (fun v62 w62 q62 => ?_)
          obtain ⟨rfl, t3, f3, g3, rfl⟩ := q62
          exact tg_iret (st := []) rfl rfl ⟨Nat.le_of_ble_eq_true rfl, Nat.le_of_ble_eq_true rfl⟩ (pQ_ok (by first | (simp (decide := true) only [wTwo, decide_true, decide_false, cond_true, cond_false, Bool.false_eq_true, if_true, if_false, ite_true, ite_false, h8, h19, h24, h39]; done) | (simp (decide := true) only [wTwo, decide_true, decide_false, cond_true, cond_false, Bool.false_eq_true, if_true, if_false, ite_true, ite_false, h8, h19, h24, h39]; done) | (simp (decide := true) only [wTwo, decide_true, decide_false, cond_true, cond_false, Bool.false_eq_true, if_true, if_false, ite_true, ite_false, h8, h19, h24, h39]; rfl) | rfl) (by first | (simp (decide := true) only [aTwo, cj, decide_true, decide_false, cond_true, cond_false, Bool.false_eq_true, if_true, if_false, ite_true, ite_false, h8, h19, h24, h39]; done) | (simp (decide := true) only [aTwo, cj, decide_true, decide_false, cond_true, cond_false, Bool.false_eq_true, if_true, if_false, ite_true, ite_false, h8, h19, h24, h39]; done) | (simp (decide := true) only [aTwo, cj, decide_true, decide_false, cond_true, cond_false, Bool.false_eq_true, if_true, if_false, ite_true, ite_false, h8, h19, h24, h39]; rfl) | rfl) (eqH_rf _) (eqH_rf _) ⟨rfl, rfl, rfl, rfl, rfl, rfl⟩)
        · refine tg_steps 2 rfl ?_
          refine tg_call1 rfl (c_bor _) rfl rfl rfl  (fun v44 w44 q44 => ?_)
          obtain ⟨rfl, rfl⟩ := q44
          refine tg_callV rfl (c_refuse _ (rf_bor _)) rfl rfl rfl rfl rfl (fun v47 w47 q47 => ?_)
          obtain ⟨rfl, rfl⟩ := q47
          exact tg_iret (st := []) rfl rfl ⟨Nat.le_of_ble_eq_true rfl, Nat.le_of_ble_eq_true rfl⟩ (pQ_refI (by first | (simp (decide := true) only [wTwo, decide_true, decide_false, cond_true, cond_false, Bool.false_eq_true, if_true, if_false, ite_true, ite_false, h8, h19, h24, h39]; done) | (simp (decide := true) only [wTwo, decide_true, decide_false, cond_true, cond_false, Bool.false_eq_true, if_true, if_false, ite_true, ite_false, h8, h19, h24, h39]; done) | (simp (decide := true) only [wTwo, decide_true, decide_false, cond_true, cond_false, Bool.false_eq_true, if_true, if_false, ite_true, ite_false, h8, h19, h24, h39]; rfl) | rfl) (by first | decide | exact rf_bor _))
      · refine tg_steps 2 rfl ?_
        refine tg_callV rfl (c_refuse (-1) (by decide)) rfl rfl rfl rfl rfl (fun v29 w29 q29 => ?_)
        obtain ⟨rfl, rfl⟩ := q29
        exact tg_iret (st := []) rfl rfl ⟨Nat.le_of_ble_eq_true rfl, Nat.le_of_ble_eq_true rfl⟩ (pQ_refI (by first | (simp (decide := true) only [wTwo, decide_true, decide_false, cond_true, cond_false, Bool.false_eq_true, if_true, if_false, ite_true, ite_false, h8, h19, eq_true h24]; done) | (simp (decide := true) only [wTwo, decide_true, decide_false, cond_true, cond_false, Bool.false_eq_true, if_true, if_false, ite_true, ite_false, h8, h19, h24]; done) | (simp (decide := true) only [wTwo, decide_true, decide_false, cond_true, cond_false, Bool.false_eq_true, if_true, if_false, ite_true, ite_false, h8, h19, eq_true h24]; rfl) | rfl) (by first | decide | exact rf_bor _))
