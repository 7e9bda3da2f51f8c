/-! the public methods, continued -/
set_option maxRecDepth 100000 in
set_option maxHeartbeats 2000000 in
theorem c_partOf {G : tg_G} {w : tg_W} (a b : Int64) (part : Int32) : tg_C G 2 mX10_partOf 0 0 [.long a, .long b, .int part] w (fun v w2 => v = some (.long (ptO a b part)) ∧ w2 = w) := by
  refine tg_intro okX10_partOf (Nat.le_of_ble_eq_true rfl) ?_
  refine tg_steps 3 rfl ?_
  refine tg_ifeq rfl rfl (fun h3 => ?_) (fun h3 => ?_)
  · refine tg_steps 1 rfl ?_
    refine tg_ifne rfl rfl (fun h14 => ?_) (fun h14 => ?_)
    · refine tg_steps 1 rfl ?_
      exact tg_lret (st := []) rfl rfl ⟨Nat.le_of_ble_eq_true rfl, Nat.le_of_ble_eq_true rfl⟩ ⟨by first | rfl | (simp (decide := true) only [ptO, decide_true, decide_false, cond_true, cond_false, Bool.false_eq_true, if_true, if_false, ite_true, ite_false, eq_true h3, h14]; done) | (simp (decide := true) only [ptO, decide_true, decide_false, cond_true, cond_false, Bool.false_eq_true, if_true, if_false, ite_true, ite_false, h3, h14]; done), rfl⟩
    · refine tg_steps 2 rfl ?_
      exact tg_lret (st := []) rfl rfl ⟨Nat.le_of_ble_eq_true rfl, Nat.le_of_ble_eq_true rfl⟩ ⟨by first | rfl | (simp (decide := true) only [ptO, decide_true, decide_false, cond_true, cond_false, Bool.false_eq_true, if_true, if_false, ite_true, ite_false, eq_true h3, eq_true h14]; done) | (simp (decide := true) only [ptO, decide_true, decide_false, cond_true, cond_false, Bool.false_eq_true, if_true, if_false, ite_true, ite_false, h3, h14]; done), rfl⟩
  · refine tg_steps 3 rfl ?_
    refine tg_ifne rfl rfl (fun h9 => ?_) (fun h9 => ?_)
    · refine tg_steps 2 rfl ?_
      refine tg_call1 rfl (c_commonDivisor _ _) rfl rfl rfl  (fun v25 w25 q25 => ?_)
      obtain ⟨rfl, rfl⟩ := q25
      refine tg_steps 2 rfl ?_
      refine tg_ifne rfl rfl (fun h32 => ?_) (fun h32 => ?_)
      · refine tg_steps 2 rfl ?_
        refine tg_ldivv rfl (cdv_ne _ _) ?_
        exact tg_lret (st := []) rfl rfl ⟨Nat.le_of_ble_eq_true rfl, Nat.le_of_ble_eq_true rfl⟩ ⟨by first | rfl | (simp (decide := true) only [ptO, decide_true, decide_false, cond_true, cond_false, Bool.false_eq_true, if_true, if_false, ite_true, ite_false, h3, h9, h32]; done) | (simp (decide := true) only [ptO, decide_true, decide_false, cond_true, cond_false, Bool.false_eq_true, if_true, if_false, ite_true, ite_false, h3, h9, h32]; done), rfl⟩
      · refine tg_steps 3 rfl ?_
        refine tg_ldivv rfl (cdv_ne _ _) ?_
        exact tg_lret (st := []) rfl rfl ⟨Nat.le_of_ble_eq_true rfl, Nat.le_of_ble_eq_true rfl⟩ ⟨by first | rfl | (simp (decide := true) only [ptO, decide_true, decide_false, cond_true, cond_false, Bool.false_eq_true, if_true, if_false, ite_true, ite_false, h3, h9, eq_true h32]; done) | (simp (decide := true) only [ptO, decide_true, decide_false, cond_true, cond_false, Bool.false_eq_true, if_true, if_false, ite_true, ite_false, h3, h9, h32]; done), rfl⟩
    · refine tg_steps 1 rfl ?_
      refine tg_ifne rfl rfl (fun h14 => ?_) (fun h14 => ?_)
      · refine tg_steps 1 rfl ?_
        exact tg_lret (st := []) rfl rfl ⟨Nat.le_of_ble_eq_true rfl, Nat.le_of_ble_eq_true rfl⟩ ⟨by first | rfl | (simp (decide := true) only [ptO, decide_true, decide_false, cond_true, cond_false, Bool.false_eq_true, if_true, if_false, ite_true, ite_false, h3, eq_true h9, h14]; done) | (simp (decide := true) only [ptO, decide_true, decide_false, cond_true, cond_false, Bool.false_eq_true, if_true, if_false, ite_true, ite_false, h3, h9, h14]; done), rfl⟩
      · refine tg_steps 2 rfl ?_
        exact tg_lret (st := []) rfl rfl ⟨Nat.le_of_ble_eq_true rfl, Nat.le_of_ble_eq_true rfl⟩ ⟨by first | rfl | (simp (decide := true) only [ptO, decide_true, decide_false, cond_true, cond_false, Bool.false_eq_true, if_true, if_false, ite_true, ite_false, h3, eq_true h9, eq_true h14]; done) | (simp (decide := true) only [ptO, decide_true, decide_false, cond_true, cond_false, Bool.false_eq_true, if_true, if_false, ite_true, ite_false, h3, h9, h14]; done), rfl⟩
set_option maxRecDepth 100000 in
set_option maxHeartbeats 2000000 in
theorem q_coals {G : tg_G} {n p t : tp_H} {x : tp_X} {r : List tg_Cl} (hm : hM n ≤ 7) (one : Int32) (k : Int32) (td : Int32) (part : Int32) : tg_C G 6 mX10_coals 0 0 [.ref 0, .int one, .int k, .int td, .int part] (tp_cs n p t x, r) (pQ (wCoa n one k td part) (.long (lrf (wCoa n one k td part))) (.long (aCoa n one k td part)) n p x (n) (p) (x) r) := by
  refine tg_intro okX10_coals (Nat.le_of_ble_eq_true rfl) ?_
  refine tg_steps 3 rfl ?_
  refine tg_callV rfl (c_has_0 _) rfl rfl rfl rfl rfl (fun v5 w5 q5 => ?_)
  obtain ⟨rfl, rfl⟩ := q5
  refine tg_ifbne rfl rfl (fun h8 => ?_) (fun h8 => ?_)
  · refine tg_steps 1 rfl ?_
    refine tg_iflt rfl rfl (fun h18 => ?_) (fun h18 => ?_)
    · refine tg_steps 2 rfl ?_
      refine tg_callV rfl (c_refuseLong (-4) (by decide)) rfl rfl rfl rfl rfl (fun v29 w29 q29 => ?_)
      obtain ⟨rfl, rfl⟩ := q29
      exact tg_lret (st := []) rfl rfl ⟨Nat.le_of_ble_eq_true rfl, Nat.le_of_ble_eq_true rfl⟩ (pQ_refL (by first | (simp (decide := true) only [wCoa, decide_true, decide_false, cond_true, cond_false, Bool.false_eq_true, if_true, if_false, ite_true, ite_false, h8, h18, Int32.not_le.mpr h18]; done) | (simp (decide := true) only [wCoa, decide_true, decide_false, cond_true, cond_false, Bool.false_eq_true, if_true, if_false, ite_true, ite_false, h8, h18, Int32.not_le.mpr h18]; done) | (simp (decide := true) only [wCoa, decide_true, decide_false, cond_true, cond_false, Bool.false_eq_true, if_true, if_false, ite_true, ite_false, h8, h18, Int32.not_le.mpr h18]; rfl) | rfl) (by first | decide | exact rf_bor _))
    · refine tg_steps 2 rfl ?_
      refine tg_icge rfl rfl (fun h23 => ?_) (fun h23 => ?_)
      · refine tg_steps 2 rfl ?_
        refine tg_icgt rfl rfl (fun h36 => ?_) (fun h36 => ?_)
        · refine tg_steps 2 rfl ?_
          refine tg_callV rfl (c_refuseLong (-6) (by decide)) rfl rfl rfl rfl rfl (fun v48 w48 q48 => ?_)
          obtain ⟨rfl, rfl⟩ := q48
          exact tg_lret (st := []) rfl rfl ⟨Nat.le_of_ble_eq_true rfl, Nat.le_of_ble_eq_true rfl⟩ (pQ_refL (by first | (simp (decide := true) only [wCoa, decide_true, decide_false, cond_true, cond_false, Bool.false_eq_true, if_true, if_false, ite_true, ite_false, h8, h18, Int32.not_lt.mp h18, h23, Int32.not_lt.mpr h23, h36, Int32.not_le.mpr h36]; done) | (simp (decide := true) only [wCoa, decide_true, decide_false, cond_true, cond_false, Bool.false_eq_true, if_true, if_false, ite_true, ite_false, h8, h18, Int32.not_lt.mp h18, h23, Int32.not_lt.mpr h23, h36, Int32.not_le.mpr h36]; done) | (simp (decide := true) only [wCoa, decide_true, decide_false, cond_true, cond_false, Bool.false_eq_true, if_true, if_false, ite_true, ite_false, h8, h18, Int32.not_lt.mp h18, h23, Int32.not_lt.mpr h23, h36, Int32.not_le.mpr h36]; rfl) | rfl) (by first | decide | exact rf_bor _))
        · refine tg_steps 2 rfl ?_
          refine tg_icle rfl rfl (fun h42 => ?_) (fun h42 => ?_)
          · refine tg_steps 2 rfl ?_
            refine tg_call1 rfl (c_isUpTo _ _) rfl rfl rfl  (fun v55 w55 q55 => ?_)
            obtain ⟨rfl, rfl⟩ := q55
            refine tg_ifbne rfl rfl (fun h58 => ?_) (fun h58 => ?_)
            · obtain ⟨j, hj, rfl⟩ := nI_of2 (x := k) (M := 7) (n := 7) rfl h18 (Int32.not_lt.mp h36)
              have cj : nN (nI j) = j := nI_clamp (by omega)
              refine tg_steps 7 rfl ?_
              refine tg_callV rfl (c_coalsAbove hm _ j hj _) rfl rfl rfl rfl rfl (fun v79 w79 q79 => ?_)
              obtain ⟨rfl, t3, rfl⟩ := q79
              refine tg_steps 2 rfl ?_
              refine tg_call1 rfl (c_power _ j (by omega)) rfl rfl rfl  (fun v84 w84 q84 => ?_)
              obtain ⟨rfl, rfl⟩ := q84
              refine tg_steps 1 rfl ?_
              refine tg_call1 rfl (c_partOf _ _ _) rfl rfl rfl  (fun v89 w89 q89 => ?_)
              obtain ⟨rfl, rfl⟩ := q89
              exact tg_lret (st := []) rfl rfl ⟨Nat.le_of_ble_eq_true rfl, Nat.le_of_ble_eq_true rfl⟩ (pQ_ok (by first | (simp (decide := true) only [wCoa, decide_true, decide_false, cond_true, cond_false, Bool.false_eq_true, if_true, if_false, ite_true, ite_false, h8, h18, Int32.not_lt.mp h18, h23, Int32.not_lt.mpr h23, h36, Int32.not_lt.mp h36, h42, Int32.not_lt.mpr h42, h58]; done) | (simp (decide := true) only [wCoa, decide_true, decide_false, cond_true, cond_false, Bool.false_eq_true, if_true, if_false, ite_true, ite_false, h8, h18, Int32.not_lt.mp h18, h23, Int32.not_lt.mpr h23, h36, Int32.not_lt.mp h36, h42, Int32.not_lt.mpr h42, h58]; done) | (simp (decide := true) only [wCoa, decide_true, decide_false, cond_true, cond_false, Bool.false_eq_true, if_true, if_false, ite_true, ite_false, h8, h18, Int32.not_lt.mp h18, h23, Int32.not_lt.mpr h23, h36, Int32.not_lt.mp h36, h42, Int32.not_lt.mpr h42, h58]; rfl) | rfl) (by first | (simp (decide := true) only [aCoa, cj, decide_true, decide_false, cond_true, cond_false, Bool.false_eq_true, if_true, if_false, ite_true, ite_false, h8, h18, Int32.not_lt.mp h18, h23, Int32.not_lt.mpr h23, h36, Int32.not_lt.mp h36, h42, Int32.not_lt.mpr h42, h58]; done) | (simp (decide := true) only [aCoa, cj, decide_true, decide_false, cond_true, cond_false, Bool.false_eq_true, if_true, if_false, ite_true, ite_false, h8, h18, Int32.not_lt.mp h18, h23, Int32.not_lt.mpr h23, h36, Int32.not_lt.mp h36, h42, Int32.not_lt.mpr h42, h58]; done) | (simp (decide := true) only [aCoa, cj, decide_true, decide_false, cond_true, cond_false, Bool.false_eq_true, if_true, if_false, ite_true, ite_false, h8, h18, Int32.not_lt.mp h18, h23, Int32.not_lt.mpr h23, h36, Int32.not_lt.mp h36, h42, Int32.not_lt.mpr h42, h58]; rfl) | rfl) (eqH_rf _) (eqH_rf _) ⟨rfl, rfl, rfl, rfl, rfl, rfl⟩)
            · refine tg_steps 2 rfl ?_
              refine tg_callV rfl (c_refuseLong (-2) (by decide)) rfl rfl rfl rfl rfl (fun v64 w64 q64 => ?_)
              obtain ⟨rfl, rfl⟩ := q64
              exact tg_lret (st := []) rfl rfl ⟨Nat.le_of_ble_eq_true rfl, Nat.le_of_ble_eq_true rfl⟩ (pQ_refL (by first | (simp (decide := true) only [wCoa, decide_true, decide_false, cond_true, cond_false, Bool.false_eq_true, if_true, if_false, ite_true, ite_false, h8, h18, Int32.not_lt.mp h18, h23, Int32.not_lt.mpr h23, h36, Int32.not_lt.mp h36, h42, Int32.not_lt.mpr h42, h58]; done) | (simp (decide := true) only [wCoa, decide_true, decide_false, cond_true, cond_false, Bool.false_eq_true, if_true, if_false, ite_true, ite_false, h8, h18, Int32.not_lt.mp h18, h23, Int32.not_lt.mpr h23, h36, Int32.not_lt.mp h36, h42, Int32.not_lt.mpr h42, h58]; done) | (simp (decide := true) only [wCoa, decide_true, decide_false, cond_true, cond_false, Bool.false_eq_true, if_true, if_false, ite_true, ite_false, h8, h18, Int32.not_lt.mp h18, h23, Int32.not_lt.mpr h23, h36, Int32.not_lt.mp h36, h42, Int32.not_lt.mpr h42, h58]; rfl) | rfl) (by first | decide | exact rf_bor _))
          · refine tg_steps 2 rfl ?_
            refine tg_callV rfl (c_refuseLong (-6) (by decide)) rfl rfl rfl rfl rfl (fun v48 w48 q48 => ?_)
            obtain ⟨rfl, rfl⟩ := q48
            exact tg_lret (st := []) rfl rfl ⟨Nat.le_of_ble_eq_true rfl, Nat.le_of_ble_eq_true rfl⟩ (pQ_refL (by first | (simp (decide := true) only [wCoa, decide_true, decide_false, cond_true, cond_false, Bool.false_eq_true, if_true, if_false, ite_true, ite_false, h8, h18, Int32.not_lt.mp h18, h23, Int32.not_lt.mpr h23, h36, Int32.not_lt.mp h36, h42, Int32.not_le.mp h42]; done) | (simp (decide := true) only [wCoa, decide_true, decide_false, cond_true, cond_false, Bool.false_eq_true, if_true, if_false, ite_true, ite_false, h8, h18, Int32.not_lt.mp h18, h23, Int32.not_lt.mpr h23, h36, Int32.not_lt.mp h36, h42, Int32.not_le.mp h42]; done) | (simp (decide := true) only [wCoa, decide_true, decide_false, cond_true, cond_false, Bool.false_eq_true, if_true, if_false, ite_true, ite_false, h8, h18, Int32.not_lt.mp h18, h23, Int32.not_lt.mpr h23, h36, Int32.not_lt.mp h36, h42, Int32.not_le.mp h42]; rfl) | rfl) (by first | decide | exact rf_bor _))
      · refine tg_steps 2 rfl ?_
        refine tg_callV rfl (c_refuseLong (-4) (by decide)) rfl rfl rfl rfl rfl (fun v29 w29 q29 => ?_)
        obtain ⟨rfl, rfl⟩ := q29
        exact tg_lret (st := []) rfl rfl ⟨Nat.le_of_ble_eq_true rfl, Nat.le_of_ble_eq_true rfl⟩ (pQ_refL (by first | (simp (decide := true) only [wCoa, decide_true, decide_false, cond_true, cond_false, Bool.false_eq_true, if_true, if_false, ite_true, ite_false, h8, h18, Int32.not_lt.mp h18, h23, Int32.not_le.mp h23]; done) | (simp (decide := true) only [wCoa, decide_true, decide_false, cond_true, cond_false, Bool.false_eq_true, if_true, if_false, ite_true, ite_false, h8, h18, Int32.not_lt.mp h18, h23, Int32.not_le.mp h23]; done) | (simp (decide := true) only [wCoa, decide_true, decide_false, cond_true, cond_false, Bool.false_eq_true, if_true, if_false, ite_true, ite_false, h8, h18, Int32.not_lt.mp h18, h23, Int32.not_le.mp h23]; rfl) | rfl) (by first | decide | exact rf_bor _))
  · refine tg_steps 2 rfl ?_
    refine tg_callV rfl (c_refuseLong (-1) (by decide)) rfl rfl rfl rfl rfl (fun v13 w13 q13 => ?_)
    obtain ⟨rfl, rfl⟩ := q13
    exact tg_lret (st := []) rfl rfl ⟨Nat.le_of_ble_eq_true rfl, Nat.le_of_ble_eq_true rfl⟩ (pQ_refL (by first | (simp (decide := true) only [wCoa, decide_true, decide_false, cond_true, cond_false, Bool.false_eq_true, if_true, if_false, ite_true, ite_false, h8]; done) | (simp (decide := true) only [wCoa, decide_true, decide_false, cond_true, cond_false, Bool.false_eq_true, if_true, if_false, ite_true, ite_false, h8]; done) | (simp (decide := true) only [wCoa, decide_true, decide_false, cond_true, cond_false, Bool.false_eq_true, if_true, if_false, ite_true, ite_false, h8]; rfl) | rfl) (by first | decide | exact rf_bor _))
set_option maxRecDepth 100000 in
set_option maxHeartbeats 2000000 in
theorem q_mean {G : tg_G} {n p t : tp_H} {x : tp_X} {r : List tg_Cl} (hm : hM n ≤ 7) (part : Int32) : tg_C G 4 mX10_mean 0 0 [.ref 0, .int part] (tp_cs n p t x, r) (pQ (wWh part) (.long (lrf (wWh part))) (.long (aMea n part)) n p x (n) (p) (x) r) := by
  refine tg_intro okX10_mean (Nat.le_of_ble_eq_true rfl) ?_
  refine tg_steps 2 rfl ?_
  refine tg_call1 rfl (c_isUpTo _ _) rfl rfl rfl  (fun v2 w2 q2 => ?_)
  obtain ⟨rfl, rfl⟩ := q2
  refine tg_ifbne rfl rfl (fun h5 => ?_) (fun h5 => ?_)
  · refine tg_steps 4 rfl ?_
    refine tg_pkV [0, 1, 2, 4] ?_
    refine tg_eqS (L2 := [(0, .ref 0), (1, .int part), (2, .long (meS n (0))), (4, .int (nI (0)))]) (st2 := []) (w2 := (tp_cs n p t x, r)) rfl rfl rfl ?_
    refine tg_down (φ := fun i : Nat => tg_V G 4 mX10_mean 0 0 0 0 (pQ (wWh part) (.long (lrf (wWh part))) (.long (aMea n part)) n p x (n) (p) (x) r) 20 [(0, .ref 0), (1, .int part), (2, .long (meS n (i))), (4, .int (nI (i)))] [] (tp_cs n p t x, r)) (n := hM n) ?_ ?_ 0 (Nat.zero_le _) 
    · refine tg_steps 4 rfl ?_
      refine tg_icge rfl rfl (fun h29 => ?_) (fun h29 => ?_)
      · refine tg_steps 6 rfl ?_
        refine tg_call1 rfl (c_partOf _ _ _) rfl rfl rfl  (fun v61 w61 q61 => ?_)
        obtain ⟨rfl, rfl⟩ := q61
        exact tg_lret (st := []) rfl rfl ⟨Nat.le_of_ble_eq_true rfl, Nat.le_of_ble_eq_true rfl⟩ (pQ_ok (by first | (simp (decide := true) only [wWh, decide_true, decide_false, cond_true, cond_false, Bool.false_eq_true, if_true, if_false, ite_true, ite_false, h5]; done) | (simp (decide := true) only [wWh, decide_true, decide_false, cond_true, cond_false, Bool.false_eq_true, if_true, if_false, ite_true, ite_false, h5]; done) | (simp (decide := true) only [wWh, decide_true, decide_false, cond_true, cond_false, Bool.false_eq_true, if_true, if_false, ite_true, ite_false, h5]; rfl) | rfl) (by first | (simp (decide := true) only [aMea, decide_true, decide_false, cond_true, cond_false, Bool.false_eq_true, if_true, if_false, ite_true, ite_false, h5]; done) | (simp (decide := true) only [aMea, decide_true, decide_false, cond_true, cond_false, Bool.false_eq_true, if_true, if_false, ite_true, ite_false, h5]; done) | (simp (decide := true) only [aMea, decide_true, decide_false, cond_true, cond_false, Bool.false_eq_true, if_true, if_false, ite_true, ite_false, h5]; rfl) | rfl) (eqH_rf _) (eqH_rf _) ⟨rfl, rfl, rfl, rfl, rfl, rfl⟩)
      · exact absurd (nI_le (Nat.le_refl _) (by omega)) h29
    · intro i hi20 ih20
      refine tg_steps 4 rfl ?_
      refine tg_icge rfl rfl (fun h29 => ?_) (fun h29 => ?_)
      · exact absurd h29 (nI_ge hi20 (by omega))
      · refine tg_steps 4 rfl ?_
        refine tg_callV rfl (c_fromHome_0 hm _) rfl rfl rfl rfl rfl (fun v39 w39 q39 => ?_)
        obtain ⟨rfl, rfl⟩ := q39
        refine tg_steps 5 rfl ?_
        refine tg_pkV [0, 1, 2, 4] ?_
        refine tg_eqS (L2 := [(0, .ref 0), (1, .int part), (2, .long (meS n (i + 1))), (4, .int (nI (i + 1)))]) (st2 := []) (w2 := (tp_cs n p t x, r)) (by first | rfl | (simp (decide := true) only [nI_succ, meS_succ, decide_true, decide_false, cond_true, cond_false, Bool.false_eq_true, if_true, if_false, ite_true, ite_false, h5]; done) | (simp (decide := true) only [nI_succ, meS_succ, decide_true, decide_false, cond_true, cond_false, Bool.false_eq_true, if_true, if_false, ite_true, ite_false, h5]; rfl)) rfl (by first | rfl | (simp (decide := true) only [nI_succ, meS_succ, decide_true, decide_false, cond_true, cond_false, Bool.false_eq_true, if_true, if_false, ite_true, ite_false, h5]; done) | (simp (decide := true) only [nI_succ, meS_succ, decide_true, decide_false, cond_true, cond_false, Bool.false_eq_true, if_true, if_false, ite_true, ite_false, h5]; rfl)) ?_
        exact ih20
  · refine tg_steps 2 rfl ?_
    refine tg_callV rfl (c_refuseLong (-2) (by decide)) rfl rfl rfl rfl rfl (fun v11 w11 q11 => ?_)
    obtain ⟨rfl, rfl⟩ := q11
    exact tg_lret (st := []) rfl rfl ⟨Nat.le_of_ble_eq_true rfl, Nat.le_of_ble_eq_true rfl⟩ (pQ_refL (by first | (simp (decide := true) only [wWh, decide_true, decide_false, cond_true, cond_false, Bool.false_eq_true, if_true, if_false, ite_true, ite_false, h5]; done) | (simp (decide := true) only [wWh, decide_true, decide_false, cond_true, cond_false, Bool.false_eq_true, if_true, if_false, ite_true, ite_false, h5]; done) | (simp (decide := true) only [wWh, decide_true, decide_false, cond_true, cond_false, Bool.false_eq_true, if_true, if_false, ite_true, ite_false, h5]; rfl) | rfl) (by first | decide | exact rf_bor _))
