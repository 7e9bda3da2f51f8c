/-! contracts: statics, leaves of Hearth -/
set_option maxRecDepth 100000 in
set_option maxHeartbeats 2000000 in
theorem c_isTile {G : tg_G} {w : tg_W} (t : Int32) : tg_C G 1 mX10_isTile 0 0 [.int t] w (fun v w2 => v = some (.int (tg_b (isT t))) ∧ w2 = w) := by
  refine tg_intro okX10_isTile (Nat.le_of_ble_eq_true rfl) ?_
  refine tg_steps 1 rfl ?_
  refine tg_iflt rfl rfl (fun h1 => ?_) (fun h1 => ?_)
  · refine tg_steps 1 rfl ?_
    exact tg_zret (st := []) rfl rfl ⟨Nat.le_of_ble_eq_true rfl, Nat.le_of_ble_eq_true rfl⟩ (by first | exact Or.inl rfl | exact Or.inr rfl | exact tg_b1 _) ⟨by first | rfl | (simp (decide := true) only [isT, tg_b, decide_true, decide_false, cond_true, cond_false, Bool.false_eq_true, if_true, if_false, ite_true, ite_false, h1, Int32.not_le.mpr h1]; done) | (simp (decide := true) only [isT, tg_b, decide_true, decide_false, cond_true, cond_false, Bool.false_eq_true, if_true, if_false, ite_true, ite_false, h1, Int32.not_le.mpr h1]; done), rfl⟩
  · refine tg_steps 2 rfl ?_
    refine tg_icge rfl rfl (fun h7 => ?_) (fun h7 => ?_)
    · refine tg_steps 1 rfl ?_
      exact tg_zret (st := []) rfl rfl ⟨Nat.le_of_ble_eq_true rfl, Nat.le_of_ble_eq_true rfl⟩ (by first | exact Or.inl rfl | exact Or.inr rfl | exact tg_b1 _) ⟨by first | rfl | (simp (decide := true) only [isT, tg_b, decide_true, decide_false, cond_true, cond_false, Bool.false_eq_true, if_true, if_false, ite_true, ite_false, h1, Int32.not_lt.mp h1, h7, Int32.not_lt.mpr h7]; done) | (simp (decide := true) only [isT, tg_b, decide_true, decide_false, cond_true, cond_false, Bool.false_eq_true, if_true, if_false, ite_true, ite_false, h1, Int32.not_lt.mp h1, h7, Int32.not_lt.mpr h7]; done), rfl⟩
    · refine tg_steps 2 rfl ?_
      exact tg_zret (st := []) rfl rfl ⟨Nat.le_of_ble_eq_true rfl, Nat.le_of_ble_eq_true rfl⟩ (by first | exact Or.inl rfl | exact Or.inr rfl | exact tg_b1 _) ⟨by first | rfl | (simp (decide := true) only [isT, tg_b, decide_true, decide_false, cond_true, cond_false, Bool.false_eq_true, if_true, if_false, ite_true, ite_false, h1, Int32.not_lt.mp h1, h7, Int32.not_le.mp h7]; done) | (simp (decide := true) only [isT, tg_b, decide_true, decide_false, cond_true, cond_false, Bool.false_eq_true, if_true, if_false, ite_true, ite_false, h1, Int32.not_lt.mp h1, h7, Int32.not_le.mp h7]; done), rfl⟩
set_option maxRecDepth 100000 in
set_option maxHeartbeats 2000000 in
theorem c_isUpTo {G : tg_G} {w : tg_W} (k g : Int32) : tg_C G 1 mX10_isUpTo 0 0 [.int k, .int g] w (fun v w2 => v = some (.int (tg_b (upTo k g))) ∧ w2 = w) := by
  refine tg_intro okX10_isUpTo (Nat.le_of_ble_eq_true rfl) ?_
  refine tg_steps 1 rfl ?_
  refine tg_iflt rfl rfl (fun h1 => ?_) (fun h1 => ?_)
  · refine tg_steps 1 rfl ?_
    exact tg_zret (st := []) rfl rfl ⟨Nat.le_of_ble_eq_true rfl, Nat.le_of_ble_eq_true rfl⟩ (by first | exact Or.inl rfl | exact Or.inr rfl | exact tg_b1 _) ⟨by first | rfl | (simp (decide := true) only [upTo, tg_b, decide_true, decide_false, cond_true, cond_false, Bool.false_eq_true, if_true, if_false, ite_true, ite_false, h1, Int32.not_le.mpr h1]; done) | (simp (decide := true) only [upTo, tg_b, decide_true, decide_false, cond_true, cond_false, Bool.false_eq_true, if_true, if_false, ite_true, ite_false, h1, Int32.not_le.mpr h1]; done), rfl⟩
  · refine tg_steps 2 rfl ?_
    refine tg_icgt rfl rfl (fun h6 => ?_) (fun h6 => ?_)
    · refine tg_steps 1 rfl ?_
      exact tg_zret (st := []) rfl rfl ⟨Nat.le_of_ble_eq_true rfl, Nat.le_of_ble_eq_true rfl⟩ (by first | exact Or.inl rfl | exact Or.inr rfl | exact tg_b1 _) ⟨by first | rfl | (simp (decide := true) only [upTo, tg_b, decide_true, decide_false, cond_true, cond_false, Bool.false_eq_true, if_true, if_false, ite_true, ite_false, h1, Int32.not_lt.mp h1, h6, Int32.not_le.mpr h6]; done) | (simp (decide := true) only [upTo, tg_b, decide_true, decide_false, cond_true, cond_false, Bool.false_eq_true, if_true, if_false, ite_true, ite_false, h1, Int32.not_lt.mp h1, h6, Int32.not_le.mpr h6]; done), rfl⟩
    · refine tg_steps 2 rfl ?_
      exact tg_zret (st := []) rfl rfl ⟨Nat.le_of_ble_eq_true rfl, Nat.le_of_ble_eq_true rfl⟩ (by first | exact Or.inl rfl | exact Or.inr rfl | exact tg_b1 _) ⟨by first | rfl | (simp (decide := true) only [upTo, tg_b, decide_true, decide_false, cond_true, cond_false, Bool.false_eq_true, if_true, if_false, ite_true, ite_false, h1, Int32.not_lt.mp h1, h6, Int32.not_lt.mp h6]; done) | (simp (decide := true) only [upTo, tg_b, decide_true, decide_false, cond_true, cond_false, Bool.false_eq_true, if_true, if_false, ite_true, ite_false, h1, Int32.not_lt.mp h1, h6, Int32.not_lt.mp h6]; done), rfl⟩
set_option maxRecDepth 100000 in
set_option maxHeartbeats 2000000 in
theorem c_belowOrRoom {G : tg_G} {w : tg_W} (k : Int32) : tg_C G 1 mX10_belowOrRoom 0 0 [.int k] w (fun v w2 => v = some (.int ((if k < 0 then -4 else -6 : Int32))) ∧ w2 = w) := by
  refine tg_intro okX10_belowOrRoom (Nat.le_of_ble_eq_true rfl) ?_
  refine tg_steps 1 rfl ?_
  refine tg_ifge rfl rfl (fun h1 => ?_) (fun h1 => ?_)
  · refine tg_steps 1 rfl ?_
    exact tg_iret (st := []) rfl rfl ⟨Nat.le_of_ble_eq_true rfl, Nat.le_of_ble_eq_true rfl⟩ ⟨by first | rfl | (simp (decide := true) only [decide_true, decide_false, cond_true, cond_false, Bool.false_eq_true, if_true, if_false, ite_true, ite_false, h1, Int32.not_lt.mpr h1]; done) | (simp (decide := true) only [decide_true, decide_false, cond_true, cond_false, Bool.false_eq_true, if_true, if_false, ite_true, ite_false, h1, Int32.not_lt.mpr h1]; done), rfl⟩
  · refine tg_steps 2 rfl ?_
    exact tg_iret (st := []) rfl rfl ⟨Nat.le_of_ble_eq_true rfl, Nat.le_of_ble_eq_true rfl⟩ ⟨by first | rfl | (simp (decide := true) only [decide_true, decide_false, cond_true, cond_false, Bool.false_eq_true, if_true, if_false, ite_true, ite_false, h1, Int32.not_le.mp h1]; done) | (simp (decide := true) only [decide_true, decide_false, cond_true, cond_false, Bool.false_eq_true, if_true, if_false, ite_true, ite_false, h1, Int32.not_le.mp h1]; done), rfl⟩
set_option maxRecDepth 100000 in
set_option maxHeartbeats 2000000 in
theorem c_besideOf {G : tg_G} {w : tg_W} (t k : Int32) : tg_C G 1 mX10_besideOf 0 0 [.int t, .int k] w (fun v w2 => v = some (.int (bes t k)) ∧ w2 = w) := by
  refine tg_intro okX10_besideOf (Nat.le_of_ble_eq_true rfl) ?_
  refine tg_steps 5 rfl ?_
  refine tg_tsw rfl ?_
  refine And.intro (fun h6_0 => ?_) (fun h6_0 => ?_)
  · refine tg_steps 2 rfl ?_
    refine tg_iclt rfl rfl (fun h39 => ?_) (fun h39 => ?_)
    · refine tg_steps 1 rfl ?_
      exact tg_iret (st := []) rfl rfl ⟨Nat.le_of_ble_eq_true rfl, Nat.le_of_ble_eq_true rfl⟩ ⟨by first | rfl | (simp (decide := true) only [bes, decide_true, decide_false, cond_true, cond_false, Bool.false_eq_true, if_true, if_false, ite_true, ite_false, eq_true h6_0, h39, Int32.not_le.mpr h39]; done) | (simp (decide := true) only [bes, decide_true, decide_false, cond_true, cond_false, Bool.false_eq_true, if_true, if_false, ite_true, ite_false, h6_0, h39, Int32.not_le.mpr h39]; done), rfl⟩
    · refine tg_steps 4 rfl ?_
      exact tg_iret (st := []) rfl rfl ⟨Nat.le_of_ble_eq_true rfl, Nat.le_of_ble_eq_true rfl⟩ ⟨by first | rfl | (simp (decide := true) only [bes, decide_true, decide_false, cond_true, cond_false, Bool.false_eq_true, if_true, if_false, ite_true, ite_false, eq_true h6_0, h39, Int32.not_lt.mp h39]; done) | (simp (decide := true) only [bes, decide_true, decide_false, cond_true, cond_false, Bool.false_eq_true, if_true, if_false, ite_true, ite_false, h6_0, h39, Int32.not_lt.mp h39]; done), rfl⟩
  refine And.intro (fun h6_1 => ?_) (fun h6_1 => ?_)
  · refine tg_steps 2 rfl ?_
    refine tg_icge rfl rfl (fun h54 => ?_) (fun h54 => ?_)
    · refine tg_steps 1 rfl ?_
      exact tg_iret (st := []) rfl rfl ⟨Nat.le_of_ble_eq_true rfl, Nat.le_of_ble_eq_true rfl⟩ ⟨by first | rfl | (simp (decide := true) only [bes, decide_true, decide_false, cond_true, cond_false, Bool.false_eq_true, if_true, if_false, ite_true, ite_false, h6_0, eq_true h6_1, h54, Int32.not_lt.mpr h54]; done) | (simp (decide := true) only [bes, decide_true, decide_false, cond_true, cond_false, Bool.false_eq_true, if_true, if_false, ite_true, ite_false, h6_0, h6_1, h54, Int32.not_lt.mpr h54]; done), rfl⟩
    · refine tg_steps 4 rfl ?_
      exact tg_iret (st := []) rfl rfl ⟨Nat.le_of_ble_eq_true rfl, Nat.le_of_ble_eq_true rfl⟩ ⟨by first | rfl | (simp (decide := true) only [bes, decide_true, decide_false, cond_true, cond_false, Bool.false_eq_true, if_true, if_false, ite_true, ite_false, h6_0, eq_true h6_1, h54, Int32.not_le.mp h54]; done) | (simp (decide := true) only [bes, decide_true, decide_false, cond_true, cond_false, Bool.false_eq_true, if_true, if_false, ite_true, ite_false, h6_0, h6_1, h54, Int32.not_le.mp h54]; done), rfl⟩
  refine And.intro (fun h6_2 => ?_) (fun h6_2 => ?_)
  · refine tg_steps 2 rfl ?_
    refine tg_icge rfl rfl (fun h69 => ?_) (fun h69 => ?_)
    · refine tg_steps 1 rfl ?_
      exact tg_iret (st := []) rfl rfl ⟨Nat.le_of_ble_eq_true rfl, Nat.le_of_ble_eq_true rfl⟩ ⟨by first | rfl | (simp (decide := true) only [bes, decide_true, decide_false, cond_true, cond_false, Bool.false_eq_true, if_true, if_false, ite_true, ite_false, h6_0, h6_1, eq_true h6_2, h69, Int32.not_lt.mpr h69]; done) | (simp (decide := true) only [bes, decide_true, decide_false, cond_true, cond_false, Bool.false_eq_true, if_true, if_false, ite_true, ite_false, h6_0, h6_1, h6_2, h69, Int32.not_lt.mpr h69]; done), rfl⟩
    · refine tg_steps 4 rfl ?_
      exact tg_iret (st := []) rfl rfl ⟨Nat.le_of_ble_eq_true rfl, Nat.le_of_ble_eq_true rfl⟩ ⟨by first | rfl | (simp (decide := true) only [bes, decide_true, decide_false, cond_true, cond_false, Bool.false_eq_true, if_true, if_false, ite_true, ite_false, h6_0, h6_1, eq_true h6_2, h69, Int32.not_le.mp h69]; done) | (simp (decide := true) only [bes, decide_true, decide_false, cond_true, cond_false, Bool.false_eq_true, if_true, if_false, ite_true, ite_false, h6_0, h6_1, h6_2, h69, Int32.not_le.mp h69]; done), rfl⟩
  refine And.intro (fun h6_3 => ?_) (fun h6_3 => ?_)
  · refine tg_steps 1 rfl ?_
    refine tg_ifle rfl rfl (fun h83 => ?_) (fun h83 => ?_)
    · refine tg_steps 1 rfl ?_
      exact tg_iret (st := []) rfl rfl ⟨Nat.le_of_ble_eq_true rfl, Nat.le_of_ble_eq_true rfl⟩ ⟨by first | rfl | (simp (decide := true) only [bes, decide_true, decide_false, cond_true, cond_false, Bool.false_eq_true, if_true, if_false, ite_true, ite_false, h6_0, h6_1, h6_2, eq_true h6_3, h83, Int32.not_lt.mpr h83]; done) | (simp (decide := true) only [bes, decide_true, decide_false, cond_true, cond_false, Bool.false_eq_true, if_true, if_false, ite_true, ite_false, h6_0, h6_1, h6_2, h6_3, h83, Int32.not_lt.mpr h83]; done), rfl⟩
    · refine tg_steps 4 rfl ?_
      exact tg_iret (st := []) rfl rfl ⟨Nat.le_of_ble_eq_true rfl, Nat.le_of_ble_eq_true rfl⟩ ⟨by first | rfl | (simp (decide := true) only [bes, decide_true, decide_false, cond_true, cond_false, Bool.false_eq_true, if_true, if_false, ite_true, ite_false, h6_0, h6_1, h6_2, eq_true h6_3, h83, Int32.not_le.mp h83]; done) | (simp (decide := true) only [bes, decide_true, decide_false, cond_true, cond_false, Bool.false_eq_true, if_true, if_false, ite_true, ite_false, h6_0, h6_1, h6_2, h6_3, h83, Int32.not_le.mp h83]; done), rfl⟩
  refine tg_steps 1 rfl ?_
  exact tg_iret (st := []) rfl rfl ⟨Nat.le_of_ble_eq_true rfl, Nat.le_of_ble_eq_true rfl⟩ ⟨by first | rfl | (simp (decide := true) only [bes, decide_true, decide_false, cond_true, cond_false, Bool.false_eq_true, if_true, if_false, ite_true, ite_false, h6_0, h6_1, h6_2, h6_3]; done) | (simp (decide := true) only [bes, decide_true, decide_false, cond_true, cond_false, Bool.false_eq_true, if_true, if_false, ite_true, ite_false, h6_0, h6_1, h6_2, h6_3]; done), rfl⟩
set_option maxRecDepth 100000 in
set_option maxHeartbeats 2000000 in
theorem c_rowsAndColumns {G : tg_G} {w : tg_W} (a b : Int32) : tg_C G 2 mX10_rowsAndColumns 0 0 [.int a, .int b] w (fun v w2 => v = some (.int (rcD a b)) ∧ w2 = w) := by
  refine tg_intro okX10_rowsAndColumns (Nat.le_of_ble_eq_true rfl) ?_
  refine tg_steps 7 rfl ?_
  refine tg_mabs rfl rfl tc_abs rfl ?_
  refine tg_steps 7 rfl ?_
  refine tg_mabs rfl rfl tc_abs rfl ?_
  refine tg_steps 1 rfl ?_
  exact tg_iret (st := []) rfl rfl ⟨Nat.le_of_ble_eq_true rfl, Nat.le_of_ble_eq_true rfl⟩ ⟨rfl, rfl⟩
set_option maxRecDepth 100000 in
set_option maxHeartbeats 2000000 in
theorem c_has_0 {G : tg_G} {h p t : tp_H} {x : tp_X} {r : List tg_Cl} (k : Int32) : tg_C G 1 mX1_has 0 0 [.ref 1, .int k] (tp_cs h p t x, r) (fun v w => v = some (.int (tg_b (hasB h k))) ∧ w = (tp_cs h p t x, r)) := by
  refine tg_intro okX1_has (Nat.le_of_ble_eq_true rfl) ?_
  refine tg_steps 1 rfl ?_
  refine tg_iflt rfl rfl (fun h1 => ?_) (fun h1 => ?_)
  · refine tg_steps 1 rfl ?_
    exact tg_zret (st := []) rfl rfl ⟨Nat.le_of_ble_eq_true rfl, Nat.le_of_ble_eq_true rfl⟩ (by first | exact Or.inl rfl | exact Or.inr rfl | exact tg_b1 _) ⟨by first | rfl | (simp (decide := true) only [hasB, tg_b, decide_true, decide_false, cond_true, cond_false, Bool.false_eq_true, if_true, if_false, ite_true, ite_false, h1, Int32.not_le.mpr h1]; done) | (simp (decide := true) only [hasB, tg_b, decide_true, decide_false, cond_true, cond_false, Bool.false_eq_true, if_true, if_false, ite_true, ite_false, h1, Int32.not_le.mpr h1]; done), rfl⟩
  · refine tg_steps 3 rfl ?_
    refine tg_icge rfl rfl (fun h9 => ?_) (fun h9 => ?_)
    · refine tg_steps 1 rfl ?_
      exact tg_zret (st := []) rfl rfl ⟨Nat.le_of_ble_eq_true rfl, Nat.le_of_ble_eq_true rfl⟩ (by first | exact Or.inl rfl | exact Or.inr rfl | exact tg_b1 _) ⟨by first | rfl | (simp (decide := true) only [hasB, tg_b, decide_true, decide_false, cond_true, cond_false, Bool.false_eq_true, if_true, if_false, ite_true, ite_false, h1, Int32.not_lt.mp h1, h9, Int32.not_lt.mpr h9]; done) | (simp (decide := true) only [hasB, tg_b, decide_true, decide_false, cond_true, cond_false, Bool.false_eq_true, if_true, if_false, ite_true, ite_false, h1, Int32.not_lt.mp h1, h9, Int32.not_lt.mpr h9]; done), rfl⟩
    · refine tg_steps 2 rfl ?_
      exact tg_zret (st := []) rfl rfl ⟨Nat.le_of_ble_eq_true rfl, Nat.le_of_ble_eq_true rfl⟩ (by first | exact Or.inl rfl | exact Or.inr rfl | exact tg_b1 _) ⟨by first | rfl | (simp (decide := true) only [hasB, tg_b, decide_true, decide_false, cond_true, cond_false, Bool.false_eq_true, if_true, if_false, ite_true, ite_false, h1, Int32.not_lt.mp h1, h9, Int32.not_le.mp h9]; done) | (simp (decide := true) only [hasB, tg_b, decide_true, decide_false, cond_true, cond_false, Bool.false_eq_true, if_true, if_false, ite_true, ite_false, h1, Int32.not_lt.mp h1, h9, Int32.not_le.mp h9]; done), rfl⟩
set_option maxRecDepth 100000 in
set_option maxHeartbeats 2000000 in
theorem c_kindOf_0 {G : tg_G} {h p t : tp_H} {x : tp_X} {r : List tg_Cl} (hm : hM h ≤ 7) (k : Int32) : tg_C G 2 mX1_kindOf 0 0 [.ref 1, .int k] (tp_cs h p t x, r) (fun v w => v = some (.int (gO hK h k)) ∧ w = (tp_cs h p t x, r)) := by
  refine tg_intro okX1_kindOf (Nat.le_of_ble_eq_true rfl) ?_
  refine tg_steps 2 rfl ?_
  refine tg_callV rfl (c_has_0 k) rfl rfl rfl rfl rfl (fun v2 w2 q2 => ?_)
  obtain ⟨rfl, rfl⟩ := q2
  refine tg_ifbeq rfl rfl (fun h5 => ?_) (fun h5 => ?_)
  · refine tg_steps 1 rfl ?_
    exact tg_iret (st := []) rfl rfl ⟨Nat.le_of_ble_eq_true rfl, Nat.le_of_ble_eq_true rfl⟩ ⟨by first | rfl | (simp (decide := true) only [gO, decide_true, decide_false, cond_true, cond_false, Bool.false_eq_true, if_true, if_false, ite_true, ite_false, h5]; done) | (simp (decide := true) only [gO, decide_true, decide_false, cond_true, cond_false, Bool.false_eq_true, if_true, if_false, ite_true, ite_false, h5]; done), rfl⟩
  · obtain ⟨j, hj, rfl, hcl⟩ := has_j hm h5
    refine tg_steps 3 rfl ?_
    refine tg_ialdN rfl rfl (j) rfl (by omega) (by decide) ?_
    refine tg_steps 1 rfl ?_
    exact tg_iret (st := []) rfl rfl ⟨Nat.le_of_ble_eq_true rfl, Nat.le_of_ble_eq_true rfl⟩ ⟨by first | rfl | (simp (decide := true) only [gO, decide_true, decide_false, cond_true, cond_false, Bool.false_eq_true, if_true, if_false, ite_true, ite_false, h5, hcl]; done) | (simp (decide := true) only [gO, decide_true, decide_false, cond_true, cond_false, Bool.false_eq_true, if_true, if_false, ite_true, ite_false, h5, hcl]; done), rfl⟩
set_option maxRecDepth 100000 in
set_option maxHeartbeats 2000000 in
theorem c_figureOf_0 {G : tg_G} {h p t : tp_H} {x : tp_X} {r : List tg_Cl} (hm : hM h ≤ 7) (k : Int32) : tg_C G 2 mX1_figureOf 0 0 [.ref 1, .int k] (tp_cs h p t x, r) (fun v w => v = some (.int (gO hF h k)) ∧ w = (tp_cs h p t x, r)) := by
  refine tg_intro okX1_figureOf (Nat.le_of_ble_eq_true rfl) ?_
  refine tg_steps 2 rfl ?_
  refine tg_callV rfl (c_has_0 k) rfl rfl rfl rfl rfl (fun v2 w2 q2 => ?_)
  obtain ⟨rfl, rfl⟩ := q2
  refine tg_ifbeq rfl rfl (fun h5 => ?_) (fun h5 => ?_)
  · refine tg_steps 1 rfl ?_
    exact tg_iret (st := []) rfl rfl ⟨Nat.le_of_ble_eq_true rfl, Nat.le_of_ble_eq_true rfl⟩ ⟨by first | rfl | (simp (decide := true) only [gO, decide_true, decide_false, cond_true, cond_false, Bool.false_eq_true, if_true, if_false, ite_true, ite_false, h5]; done) | (simp (decide := true) only [gO, decide_true, decide_false, cond_true, cond_false, Bool.false_eq_true, if_true, if_false, ite_true, ite_false, h5]; done), rfl⟩
  · obtain ⟨j, hj, rfl, hcl⟩ := has_j hm h5
    refine tg_steps 3 rfl ?_
    refine tg_ialdN rfl rfl (j) rfl (by omega) (by decide) ?_
    refine tg_steps 1 rfl ?_
    exact tg_iret (st := []) rfl rfl ⟨Nat.le_of_ble_eq_true rfl, Nat.le_of_ble_eq_true rfl⟩ ⟨by first | rfl | (simp (decide := true) only [gO, decide_true, decide_false, cond_true, cond_false, Bool.false_eq_true, if_true, if_false, ite_true, ite_false, h5, hcl]; done) | (simp (decide := true) only [gO, decide_true, decide_false, cond_true, cond_false, Bool.false_eq_true, if_true, if_false, ite_true, ite_false, h5, hcl]; done), rfl⟩
set_option maxRecDepth 100000 in
set_option maxHeartbeats 2000000 in
theorem c_homeOf_0 {G : tg_G} {h p t : tp_H} {x : tp_X} {r : List tg_Cl} (hm : hM h ≤ 7) (k : Int32) : tg_C G 2 mX1_homeOf 0 0 [.ref 1, .int k] (tp_cs h p t x, r) (fun v w => v = some (.int (gO hH h k)) ∧ w = (tp_cs h p t x, r)) := by
  refine tg_intro okX1_homeOf (Nat.le_of_ble_eq_true rfl) ?_
  refine tg_steps 2 rfl ?_
  refine tg_callV rfl (c_has_0 k) rfl rfl rfl rfl rfl (fun v2 w2 q2 => ?_)
  obtain ⟨rfl, rfl⟩ := q2
  refine tg_ifbeq rfl rfl (fun h5 => ?_) (fun h5 => ?_)
  · refine tg_steps 1 rfl ?_
    exact tg_iret (st := []) rfl rfl ⟨Nat.le_of_ble_eq_true rfl, Nat.le_of_ble_eq_true rfl⟩ ⟨by first | rfl | (simp (decide := true) only [gO, decide_true, decide_false, cond_true, cond_false, Bool.false_eq_true, if_true, if_false, ite_true, ite_false, h5]; done) | (simp (decide := true) only [gO, decide_true, decide_false, cond_true, cond_false, Bool.false_eq_true, if_true, if_false, ite_true, ite_false, h5]; done), rfl⟩
  · obtain ⟨j, hj, rfl, hcl⟩ := has_j hm h5
    refine tg_steps 3 rfl ?_
    refine tg_ialdN rfl rfl (j) rfl (by omega) (by decide) ?_
    refine tg_steps 1 rfl ?_
    exact tg_iret (st := []) rfl rfl ⟨Nat.le_of_ble_eq_true rfl, Nat.le_of_ble_eq_true rfl⟩ ⟨by first | rfl | (simp (decide := true) only [gO, decide_true, decide_false, cond_true, cond_false, Bool.false_eq_true, if_true, if_false, ite_true, ite_false, h5, hcl]; done) | (simp (decide := true) only [gO, decide_true, decide_false, cond_true, cond_false, Bool.false_eq_true, if_true, if_false, ite_true, ite_false, h5, hcl]; done), rfl⟩
set_option maxRecDepth 100000 in
set_option maxHeartbeats 2000000 in
theorem c_tileOf_0 {G : tg_G} {h p t : tp_H} {x : tp_X} {r : List tg_Cl} (hm : hM h ≤ 7) (k : Int32) : tg_C G 2 mX1_tileOf 0 0 [.ref 1, .int k] (tp_cs h p t x, r) (fun v w => v = some (.int (gO hT h k)) ∧ w = (tp_cs h p t x, r)) := by
  refine tg_intro okX1_tileOf (Nat.le_of_ble_eq_true rfl) ?_
  refine tg_steps 2 rfl ?_
  refine tg_callV rfl (c_has_0 k) rfl rfl rfl rfl rfl (fun v2 w2 q2 => ?_)
  obtain ⟨rfl, rfl⟩ := q2
  refine tg_ifbeq rfl rfl (fun h5 => ?_) (fun h5 => ?_)
  · refine tg_steps 1 rfl ?_
    exact tg_iret (st := []) rfl rfl ⟨Nat.le_of_ble_eq_true rfl, Nat.le_of_ble_eq_true rfl⟩ ⟨by first | rfl | (simp (decide := true) only [gO, decide_true, decide_false, cond_true, cond_false, Bool.false_eq_true, if_true, if_false, ite_true, ite_false, h5]; done) | (simp (decide := true) only [gO, decide_true, decide_false, cond_true, cond_false, Bool.false_eq_true, if_true, if_false, ite_true, ite_false, h5]; done), rfl⟩
  · obtain ⟨j, hj, rfl, hcl⟩ := has_j hm h5
    refine tg_steps 3 rfl ?_
    refine tg_ialdN rfl rfl (j) rfl (by omega) (by decide) ?_
    refine tg_steps 1 rfl ?_
    exact tg_iret (st := []) rfl rfl ⟨Nat.le_of_ble_eq_true rfl, Nat.le_of_ble_eq_true rfl⟩ ⟨by first | rfl | (simp (decide := true) only [gO, decide_true, decide_false, cond_true, cond_false, Bool.false_eq_true, if_true, if_false, ite_true, ite_false, h5, hcl]; done) | (simp (decide := true) only [gO, decide_true, decide_false, cond_true, cond_false, Bool.false_eq_true, if_true, if_false, ite_true, ite_false, h5, hcl]; done), rfl⟩
set_option maxRecDepth 100000 in
set_option maxHeartbeats 2000000 in
theorem c_pinnedOf_0 {G : tg_G} {h p t : tp_H} {x : tp_X} {r : List tg_Cl} (hm : hM h ≤ 7) (k : Int32) : tg_C G 2 mX1_pinnedOf 0 0 [.ref 1, .int k] (tp_cs h p t x, r) (fun v w => v = some (.int (gO hP h k)) ∧ w = (tp_cs h p t x, r)) := by
  refine tg_intro okX1_pinnedOf (Nat.le_of_ble_eq_true rfl) ?_
  refine tg_steps 2 rfl ?_
  refine tg_callV rfl (c_has_0 k) rfl rfl rfl rfl rfl (fun v2 w2 q2 => ?_)
  obtain ⟨rfl, rfl⟩ := q2
  refine tg_ifbeq rfl rfl (fun h5 => ?_) (fun h5 => ?_)
  · refine tg_steps 1 rfl ?_
    exact tg_iret (st := []) rfl rfl ⟨Nat.le_of_ble_eq_true rfl, Nat.le_of_ble_eq_true rfl⟩ ⟨by first | rfl | (simp (decide := true) only [gO, decide_true, decide_false, cond_true, cond_false, Bool.false_eq_true, if_true, if_false, ite_true, ite_false, h5]; done) | (simp (decide := true) only [gO, decide_true, decide_false, cond_true, cond_false, Bool.false_eq_true, if_true, if_false, ite_true, ite_false, h5]; done), rfl⟩
  · obtain ⟨j, hj, rfl, hcl⟩ := has_j hm h5
    refine tg_steps 3 rfl ?_
    refine tg_ialdN rfl rfl (j) rfl (by omega) (by decide) ?_
    refine tg_steps 1 rfl ?_
    exact tg_iret (st := []) rfl rfl ⟨Nat.le_of_ble_eq_true rfl, Nat.le_of_ble_eq_true rfl⟩ ⟨by first | rfl | (simp (decide := true) only [gO, decide_true, decide_false, cond_true, cond_false, Bool.false_eq_true, if_true, if_false, ite_true, ite_false, h5, hcl]; done) | (simp (decide := true) only [gO, decide_true, decide_false, cond_true, cond_false, Bool.false_eq_true, if_true, if_false, ite_true, ite_false, h5, hcl]; done), rfl⟩
set_option maxRecDepth 100000 in
set_option maxHeartbeats 2000000 in
theorem c_isAboard_0 {G : tg_G} {h p t : tp_H} {x : tp_X} {r : List tg_Cl} (hm : hM h ≤ 7) (k : Int32) : tg_C G 3 mX1_isAboard 0 0 [.ref 1, .int k] (tp_cs h p t x, r) (fun v w => v = some (.int (tg_b (abB h k))) ∧ w = (tp_cs h p t x, r)) := by
  refine tg_intro okX1_isAboard (Nat.le_of_ble_eq_true rfl) ?_
  refine tg_steps 2 rfl ?_
  refine tg_callV rfl (c_tileOf_0 hm k) rfl rfl rfl rfl rfl (fun v2 w2 q2 => ?_)
  obtain ⟨rfl, rfl⟩ := q2
  refine tg_steps 2 rfl ?_
  refine tg_icne rfl rfl (fun h9 => ?_) (fun h9 => ?_)
  · refine tg_steps 1 rfl ?_
    exact tg_zret (st := []) rfl rfl ⟨Nat.le_of_ble_eq_true rfl, Nat.le_of_ble_eq_true rfl⟩ (by first | exact Or.inl rfl | exact Or.inr rfl | exact tg_b1 _) ⟨by first | rfl | (simp (decide := true) only [abB, tg_b, decide_true, decide_false, cond_true, cond_false, Bool.false_eq_true, if_true, if_false, ite_true, ite_false, h9]; done) | (simp (decide := true) only [abB, tg_b, decide_true, decide_false, cond_true, cond_false, Bool.false_eq_true, if_true, if_false, ite_true, ite_false, h9]; done), rfl⟩
  · refine tg_steps 2 rfl ?_
    exact tg_zret (st := []) rfl rfl ⟨Nat.le_of_ble_eq_true rfl, Nat.le_of_ble_eq_true rfl⟩ (by first | exact Or.inl rfl | exact Or.inr rfl | exact tg_b1 _) ⟨by first | rfl | (simp (decide := true) only [abB, tg_b, decide_true, decide_false, cond_true, cond_false, Bool.false_eq_true, if_true, if_false, ite_true, ite_false, eq_true h9]; done) | (simp (decide := true) only [abB, tg_b, decide_true, decide_false, cond_true, cond_false, Bool.false_eq_true, if_true, if_false, ite_true, ite_false, h9]; done), rfl⟩
set_option maxRecDepth 100000 in
set_option maxHeartbeats 2000000 in
theorem c_isCracked_0 {G : tg_G} {h p t : tp_H} {x : tp_X} {r : List tg_Cl} (k : Int32) : tg_C G 1 mX1_isCracked 0 0 [.ref 1, .int k] (tp_cs h p t x, r) (fun v w => v = some (.int (tg_b (crB h k))) ∧ w = (tp_cs h p t x, r)) := by
  refine tg_intro okX1_isCracked (Nat.le_of_ble_eq_true rfl) ?_
  refine tg_steps 7 rfl ?_
  refine tg_icne rfl rfl (fun h9 => ?_) (fun h9 => ?_)
  · refine tg_steps 1 rfl ?_
    exact tg_zret (st := []) rfl rfl ⟨Nat.le_of_ble_eq_true rfl, Nat.le_of_ble_eq_true rfl⟩ (by first | exact Or.inl rfl | exact Or.inr rfl | exact tg_b1 _) ⟨by first | rfl | (simp (decide := true) only [crB, tg_b, decide_true, decide_false, cond_true, cond_false, Bool.false_eq_true, if_true, if_false, ite_true, ite_false, h9]; done) | (simp (decide := true) only [crB, tg_b, decide_true, decide_false, cond_true, cond_false, Bool.false_eq_true, if_true, if_false, ite_true, ite_false, h9]; done), rfl⟩
  · refine tg_steps 2 rfl ?_
    exact tg_zret (st := []) rfl rfl ⟨Nat.le_of_ble_eq_true rfl, Nat.le_of_ble_eq_true rfl⟩ (by first | exact Or.inl rfl | exact Or.inr rfl | exact tg_b1 _) ⟨by first | rfl | (simp (decide := true) only [crB, tg_b, decide_true, decide_false, cond_true, cond_false, Bool.false_eq_true, if_true, if_false, ite_true, ite_false, eq_true h9]; done) | (simp (decide := true) only [crB, tg_b, decide_true, decide_false, cond_true, cond_false, Bool.false_eq_true, if_true, if_false, ite_true, ite_false, h9]; done), rfl⟩
set_option maxRecDepth 100000 in
set_option maxHeartbeats 2000000 in
theorem c_manyAt_0 {G : tg_G} {h p t : tp_H} {x : tp_X} {r : List tg_Cl} (hm : hM h ≤ 7) (k : Int32) : tg_C G 1 mX1_manyAt 0 0 [.ref 1, .int k] (tp_cs h p t x, r) (fun v w => v = some (.int (mAt h k)) ∧ w = (tp_cs h p t x, r)) := by
  refine tg_intro okX1_manyAt (Nat.le_of_ble_eq_true rfl) ?_
  refine tg_steps 4 rfl ?_
  refine tg_pkV [0, 1, 2, 3] ?_
  refine tg_eqS (L2 := [(0, .ref 1), (1, .int k), (2, .int (cI (fun i => decide (hT h i = k)) (0))), (3, .int (nI (0)))]) (st2 := []) (w2 := (tp_cs h p t x, r)) rfl rfl rfl ?_
  refine tg_down (φ := fun i : Nat => tg_V G 1 mX1_manyAt 0 0 0 0 (fun v w => v = some (.int (mAt h k)) ∧ w = (tp_cs h p t x, r)) 4 [(0, .ref 1), (1, .int k), (2, .int (cI (fun i => decide (hT h i = k)) (i))), (3, .int (nI (i)))] [] (tp_cs h p t x, r)) (n := hM h) ?_ ?_ 0 (Nat.zero_le _) 
  · refine tg_steps 3 rfl ?_
    refine tg_icge rfl rfl (fun h9 => ?_) (fun h9 => ?_)
    · refine tg_steps 1 rfl ?_
      exact tg_iret (st := []) rfl rfl ⟨Nat.le_of_ble_eq_true rfl, Nat.le_of_ble_eq_true rfl⟩ ⟨rfl, rfl⟩
    · exact absurd (nI_le (Nat.le_refl _) (by omega)) h9
  · intro i hi4 ih4
    refine tg_steps 3 rfl ?_
    refine tg_icge rfl rfl (fun h9 => ?_) (fun h9 => ?_)
    · exact absurd h9 (nI_ge hi4 (by omega))
    · refine tg_steps 3 rfl ?_
      refine tg_ialdN rfl rfl (i) rfl (by omega) (by decide) ?_
      refine tg_steps 1 rfl ?_
      refine tg_icne rfl rfl (fun h19 => ?_) (fun h19 => ?_)
      · refine tg_steps 2 rfl ?_
        refine tg_pkV [0, 1, 2, 3] ?_
        refine tg_eqS (L2 := [(0, .ref 1), (1, .int k), (2, .int (cI (fun i => decide (hT h i = k)) (i + 1))), (3, .int (nI (i + 1)))]) (st2 := []) (w2 := (tp_cs h p t x, r)) (by first | rfl | (simp (decide := true) only [nI_succ, cI_succ, decide_true, decide_false, cond_true, cond_false, Bool.false_eq_true, if_true, if_false, ite_true, ite_false, h19]; done) | (simp (decide := true) only [nI_succ, cI_succ, decide_true, decide_false, cond_true, cond_false, Bool.false_eq_true, if_true, if_false, ite_true, ite_false, h19]; rfl)) rfl (by first | rfl | (simp (decide := true) only [nI_succ, cI_succ, decide_true, decide_false, cond_true, cond_false, Bool.false_eq_true, if_true, if_false, ite_true, ite_false, h19]; done) | (simp (decide := true) only [nI_succ, cI_succ, decide_true, decide_false, cond_true, cond_false, Bool.false_eq_true, if_true, if_false, ite_true, ite_false, h19]; rfl)) ?_
        exact ih4
      · refine tg_steps 3 rfl ?_
        refine tg_pkV [0, 1, 2, 3] ?_
        refine tg_eqS (L2 := [(0, .ref 1), (1, .int k), (2, .int (cI (fun i => decide (hT h i = k)) (i + 1))), (3, .int (nI (i + 1)))]) (st2 := []) (w2 := (tp_cs h p t x, r)) (by first | rfl | (simp (decide := true) only [nI_succ, cI_succ, decide_true, decide_false, cond_true, cond_false, Bool.false_eq_true, if_true, if_false, ite_true, ite_false, eq_true h19]; done) | (simp (decide := true) only [nI_succ, cI_succ, decide_true, decide_false, cond_true, cond_false, Bool.false_eq_true, if_true, if_false, ite_true, ite_false, eq_true h19]; rfl)) rfl (by first | rfl | (simp (decide := true) only [nI_succ, cI_succ, decide_true, decide_false, cond_true, cond_false, Bool.false_eq_true, if_true, if_false, ite_true, ite_false, eq_true h19]; done) | (simp (decide := true) only [nI_succ, cI_succ, decide_true, decide_false, cond_true, cond_false, Bool.false_eq_true, if_true, if_false, ite_true, ite_false, eq_true h19]; rfl)) ?_
        exact ih4
set_option maxRecDepth 100000 in
set_option maxHeartbeats 2000000 in
theorem c_onesAt_0 {G : tg_G} {h p t : tp_H} {x : tp_X} {r : List tg_Cl} (hm : hM h ≤ 7) (k : Int32) : tg_C G 1 mX1_onesAt 0 0 [.ref 1, .int k] (tp_cs h p t x, r) (fun v w => v = some (.int (oAt h k)) ∧ w = (tp_cs h p t x, r)) := by
  refine tg_intro okX1_onesAt (Nat.le_of_ble_eq_true rfl) ?_
  refine tg_steps 4 rfl ?_
  refine tg_pkV [0, 1, 2, 3] ?_
  refine tg_eqS (L2 := [(0, .ref 1), (1, .int k), (2, .int (bI (fun i => decide (hT h i = k)) (0))), (3, .int (nI (0)))]) (st2 := []) (w2 := (tp_cs h p t x, r)) rfl rfl rfl ?_
  refine tg_down (φ := fun i : Nat => tg_V G 1 mX1_onesAt 0 0 0 0 (fun v w => v = some (.int (oAt h k)) ∧ w = (tp_cs h p t x, r)) 4 [(0, .ref 1), (1, .int k), (2, .int (bI (fun i => decide (hT h i = k)) (i))), (3, .int (nI (i)))] [] (tp_cs h p t x, r)) (n := hM h) ?_ ?_ 0 (Nat.zero_le _) 
  · refine tg_steps 3 rfl ?_
    refine tg_icge rfl rfl (fun h9 => ?_) (fun h9 => ?_)
    · refine tg_steps 1 rfl ?_
      exact tg_iret (st := []) rfl rfl ⟨Nat.le_of_ble_eq_true rfl, Nat.le_of_ble_eq_true rfl⟩ ⟨rfl, rfl⟩
    · exact absurd (nI_le (Nat.le_refl _) (by omega)) h9
  · intro i hi4 ih4
    refine tg_steps 3 rfl ?_
    refine tg_icge rfl rfl (fun h9 => ?_) (fun h9 => ?_)
    · exact absurd h9 (nI_ge hi4 (by omega))
    · refine tg_steps 3 rfl ?_
      refine tg_ialdN rfl rfl (i) rfl (by omega) (by decide) ?_
      refine tg_steps 1 rfl ?_
      refine tg_icne rfl rfl (fun h19 => ?_) (fun h19 => ?_)
      · refine tg_steps 2 rfl ?_
        refine tg_pkV [0, 1, 2, 3] ?_
        refine tg_eqS (L2 := [(0, .ref 1), (1, .int k), (2, .int (bI (fun i => decide (hT h i = k)) (i + 1))), (3, .int (nI (i + 1)))]) (st2 := []) (w2 := (tp_cs h p t x, r)) (by first | rfl | (simp (decide := true) only [nI_succ, bI_succ, decide_true, decide_false, cond_true, cond_false, Bool.false_eq_true, if_true, if_false, ite_true, ite_false, h19]; done) | (simp (decide := true) only [nI_succ, bI_succ, decide_true, decide_false, cond_true, cond_false, Bool.false_eq_true, if_true, if_false, ite_true, ite_false, h19]; rfl)) rfl (by first | rfl | (simp (decide := true) only [nI_succ, bI_succ, decide_true, decide_false, cond_true, cond_false, Bool.false_eq_true, if_true, if_false, ite_true, ite_false, h19]; done) | (simp (decide := true) only [nI_succ, bI_succ, decide_true, decide_false, cond_true, cond_false, Bool.false_eq_true, if_true, if_false, ite_true, ite_false, h19]; rfl)) ?_
        exact ih4
      · refine tg_steps 8 rfl ?_
        refine tg_pkV [0, 1, 2, 3] ?_
        refine tg_eqS (L2 := [(0, .ref 1), (1, .int k), (2, .int (bI (fun i => decide (hT h i = k)) (i + 1))), (3, .int (nI (i + 1)))]) (st2 := []) (w2 := (tp_cs h p t x, r)) (by first | rfl | (simp (decide := true) only [nI_succ, bI_succ, decide_true, decide_false, cond_true, cond_false, Bool.false_eq_true, if_true, if_false, ite_true, ite_false, eq_true h19]; done) | (simp (decide := true) only [nI_succ, bI_succ, decide_true, decide_false, cond_true, cond_false, Bool.false_eq_true, if_true, if_false, ite_true, ite_false, eq_true h19]; rfl)) rfl (by first | rfl | (simp (decide := true) only [nI_succ, bI_succ, decide_true, decide_false, cond_true, cond_false, Bool.false_eq_true, if_true, if_false, ite_true, ite_false, eq_true h19]; done) | (simp (decide := true) only [nI_succ, bI_succ, decide_true, decide_false, cond_true, cond_false, Bool.false_eq_true, if_true, if_false, ite_true, ite_false, eq_true h19]; rfl)) ?_
        exact ih4
set_option maxRecDepth 100000 in
set_option maxHeartbeats 2000000 in
theorem c_othersAboard_0 {G : tg_G} {h p t : tp_H} {x : tp_X} {r : List tg_Cl} (hm : hM h ≤ 7) (k : Int32) : tg_C G 1 mX1_othersAboard 0 0 [.ref 1, .int k] (tp_cs h p t x, r) (fun v w => v = some (.int (tg_b (othB h k))) ∧ w = (tp_cs h p t x, r)) := by
  refine tg_intro okX1_othersAboard (Nat.le_of_ble_eq_true rfl) ?_
  refine tg_steps 2 rfl ?_
  refine tg_pkV [0, 1, 2] ?_
  refine tg_eqS (L2 := [(0, .ref 1), (1, .int k), (2, .int (nI (0)))]) (st2 := []) (w2 := (tp_cs h p t x, r)) rfl rfl rfl ?_
  refine tg_down (φ := fun i : Nat => (othB h k = aI (fun i => bif decide (nI i = k) then true else decide (hT h i = hS h)) (hM h - i) i) → tg_V G 1 mX1_othersAboard 0 0 0 0 (fun v w => v = some (.int (tg_b (othB h k))) ∧ w = (tp_cs h p t x, r)) 2 [(0, .ref 1), (1, .int k), (2, .int (nI (i)))] [] (tp_cs h p t x, r)) (n := hM h) ?_ ?_ 0 (Nat.zero_le _) (rfl)
  · intro hinv2
    refine tg_steps 3 rfl ?_
    refine tg_icge rfl rfl (fun h7 => ?_) (fun h7 => ?_)
    · refine tg_steps 1 rfl ?_
      exact tg_zret (st := []) rfl rfl ⟨Nat.le_of_ble_eq_true rfl, Nat.le_of_ble_eq_true rfl⟩ (by first | exact Or.inl rfl | exact Or.inr rfl | exact tg_b1 _) ⟨by rw [hinv2, Nat.sub_self]; rfl, rfl⟩
    · exact absurd (nI_le (Nat.le_refl _) (by omega)) h7
  · intro i hi2 ih2 hinv2
    rw [show hM h - i = hM h - (i + 1) + 1 by omega, aI_succ] at hinv2
    refine tg_steps 3 rfl ?_
    refine tg_icge rfl rfl (fun h7 => ?_) (fun h7 => ?_)
    · exact absurd h7 (nI_ge hi2 (by omega))
    · refine tg_steps 2 rfl ?_
      refine tg_iceq rfl rfl (fun h12 => ?_) (fun h12 => ?_)
      · refine tg_steps 2 rfl ?_
        refine tg_pkV [0, 1, 2] ?_
        refine tg_eqS (L2 := [(0, .ref 1), (1, .int k), (2, .int (nI (i + 1)))]) (st2 := []) (w2 := (tp_cs h p t x, r)) (by first | rfl | (simp (decide := true) only [nI_succ, decide_true, decide_false, cond_true, cond_false, Bool.false_eq_true, if_true, if_false, ite_true, ite_false, eq_true h12]; done) | (simp (decide := true) only [nI_succ, decide_true, decide_false, cond_true, cond_false, Bool.false_eq_true, if_true, if_false, ite_true, ite_false, eq_true h12]; rfl)) rfl (by first | rfl | (simp (decide := true) only [nI_succ, decide_true, decide_false, cond_true, cond_false, Bool.false_eq_true, if_true, if_false, ite_true, ite_false, eq_true h12]; done) | (simp (decide := true) only [nI_succ, decide_true, decide_false, cond_true, cond_false, Bool.false_eq_true, if_true, if_false, ite_true, ite_false, eq_true h12]; rfl)) ?_
        exact ih2 (by simp only [decide_true, decide_false, cond_true, cond_false, Bool.false_eq_true, if_true, if_false, ite_true, ite_false, eq_true h12] at hinv2; exact hinv2)
      · refine tg_steps 3 rfl ?_
        refine tg_ialdN rfl rfl (i) rfl (by omega) (by decide) ?_
        refine tg_steps 2 rfl ?_
        refine tg_iceq rfl rfl (fun h25 => ?_) (fun h25 => ?_)
        · refine tg_steps 2 rfl ?_
          refine tg_pkV [0, 1, 2] ?_
          refine tg_eqS (L2 := [(0, .ref 1), (1, .int k), (2, .int (nI (i + 1)))]) (st2 := []) (w2 := (tp_cs h p t x, r)) (by first | rfl | (simp (decide := true) only [nI_succ, decide_true, decide_false, cond_true, cond_false, Bool.false_eq_true, if_true, if_false, ite_true, ite_false, h12, eq_true h25]; done) | (simp (decide := true) only [nI_succ, decide_true, decide_false, cond_true, cond_false, Bool.false_eq_true, if_true, if_false, ite_true, ite_false, h12, eq_true h25]; rfl)) rfl (by first | rfl | (simp (decide := true) only [nI_succ, decide_true, decide_false, cond_true, cond_false, Bool.false_eq_true, if_true, if_false, ite_true, ite_false, h12, eq_true h25]; done) | (simp (decide := true) only [nI_succ, decide_true, decide_false, cond_true, cond_false, Bool.false_eq_true, if_true, if_false, ite_true, ite_false, h12, eq_true h25]; rfl)) ?_
          exact ih2 (by simp only [decide_true, decide_false, cond_true, cond_false, Bool.false_eq_true, if_true, if_false, ite_true, ite_false, h12, eq_true h25] at hinv2; exact hinv2)
        · refine tg_steps 1 rfl ?_
          exact tg_zret (st := []) rfl rfl ⟨Nat.le_of_ble_eq_true rfl, Nat.le_of_ble_eq_true rfl⟩ (by first | exact Or.inl rfl | exact Or.inr rfl | exact tg_b1 _) ⟨by simp only [decide_true, decide_false, cond_true, cond_false, Bool.false_eq_true, if_true, if_false, ite_true, ite_false, h12, h25] at hinv2; rw [hinv2]; rfl, rfl⟩
set_option maxRecDepth 100000 in
set_option maxHeartbeats 2000000 in
theorem c_has_1 {G : tg_G} {n h t : tp_H} {x : tp_X} {r : List tg_Cl} (k : Int32) : tg_C G 1 mX1_has 0 0 [.ref 13, .int k] (tp_cs n h t x, r) (fun v w => v = some (.int (tg_b (hasB h k))) ∧ w = (tp_cs n h t x, r)) := by
  refine tg_intro okX1_has (Nat.le_of_ble_eq_true rfl) ?_
  refine tg_steps 1 rfl ?_
  refine tg_iflt rfl rfl (fun h1 => ?_) (fun h1 => ?_)
  · refine tg_steps 1 rfl ?_
    exact tg_zret (st := []) rfl rfl ⟨Nat.le_of_ble_eq_true rfl, Nat.le_of_ble_eq_true rfl⟩ (by first | exact Or.inl rfl | exact Or.inr rfl | exact tg_b1 _) ⟨by first | rfl | (simp (decide := true) only [hasB, tg_b, decide_true, decide_false, cond_true, cond_false, Bool.false_eq_true, if_true, if_false, ite_true, ite_false, h1, Int32.not_le.mpr h1]; done) | (simp (decide := true) only [hasB, tg_b, decide_true, decide_false, cond_true, cond_false, Bool.false_eq_true, if_true, if_false, ite_true, ite_false, h1, Int32.not_le.mpr h1]; done), rfl⟩
  · refine tg_steps 3 rfl ?_
    refine tg_icge rfl rfl (fun h9 => ?_) (fun h9 => ?_)
    · refine tg_steps 1 rfl ?_
      exact tg_zret (st := []) rfl rfl ⟨Nat.le_of_ble_eq_true rfl, Nat.le_of_ble_eq_true rfl⟩ (by first | exact Or.inl rfl | exact Or.inr rfl | exact tg_b1 _) ⟨by first | rfl | (simp (decide := true) only [hasB, tg_b, decide_true, decide_false, cond_true, cond_false, Bool.false_eq_true, if_true, if_false, ite_true, ite_false, h1, Int32.not_lt.mp h1, h9, Int32.not_lt.mpr h9]; done) | (simp (decide := true) only [hasB, tg_b, decide_true, decide_false, cond_true, cond_false, Bool.false_eq_true, if_true, if_false, ite_true, ite_false, h1, Int32.not_lt.mp h1, h9, Int32.not_lt.mpr h9]; done), rfl⟩
    · refine tg_steps 2 rfl ?_
      exact tg_zret (st := []) rfl rfl ⟨Nat.le_of_ble_eq_true rfl, Nat.le_of_ble_eq_true rfl⟩ (by first | exact Or.inl rfl | exact Or.inr rfl | exact tg_b1 _) ⟨by first | rfl | (simp (decide := true) only [hasB, tg_b, decide_true, decide_false, cond_true, cond_false, Bool.false_eq_true, if_true, if_false, ite_true, ite_false, h1, Int32.not_lt.mp h1, h9, Int32.not_le.mp h9]; done) | (simp (decide := true) only [hasB, tg_b, decide_true, decide_false, cond_true, cond_false, Bool.false_eq_true, if_true, if_false, ite_true, ite_false, h1, Int32.not_lt.mp h1, h9, Int32.not_le.mp h9]; done), rfl⟩
set_option maxRecDepth 100000 in
set_option maxHeartbeats 2000000 in
theorem c_has_2 {G : tg_G} {n p h : tp_H} {x : tp_X} {r : List tg_Cl} (k : Int32) : tg_C G 1 mX1_has 0 0 [.ref 26, .int k] (tp_cs n p h x, r) (fun v w => v = some (.int (tg_b (hasB h k))) ∧ w = (tp_cs n p h x, r)) := by
  refine tg_intro okX1_has (Nat.le_of_ble_eq_true rfl) ?_
  refine tg_steps 1 rfl ?_
  refine tg_iflt rfl rfl (fun h1 => ?_) (fun h1 => ?_)
  · refine tg_steps 1 rfl ?_
    exact tg_zret (st := []) rfl rfl ⟨Nat.le_of_ble_eq_true rfl, Nat.le_of_ble_eq_true rfl⟩ (by first | exact Or.inl rfl | exact Or.inr rfl | exact tg_b1 _) ⟨by first | rfl | (simp (decide := true) only [hasB, tg_b, decide_true, decide_false, cond_true, cond_false, Bool.false_eq_true, if_true, if_false, ite_true, ite_false, h1, Int32.not_le.mpr h1]; done) | (simp (decide := true) only [hasB, tg_b, decide_true, decide_false, cond_true, cond_false, Bool.false_eq_true, if_true, if_false, ite_true, ite_false, h1, Int32.not_le.mpr h1]; done), rfl⟩
  · refine tg_steps 3 rfl ?_
    refine tg_icge rfl rfl (fun h9 => ?_) (fun h9 => ?_)
    · refine tg_steps 1 rfl ?_
      exact tg_zret (st := []) rfl rfl ⟨Nat.le_of_ble_eq_true rfl, Nat.le_of_ble_eq_true rfl⟩ (by first | exact Or.inl rfl | exact Or.inr rfl | exact tg_b1 _) ⟨by first | rfl | (simp (decide := true) only [hasB, tg_b, decide_true, decide_false, cond_true, cond_false, Bool.false_eq_true, if_true, if_false, ite_true, ite_false, h1, Int32.not_lt.mp h1, h9, Int32.not_lt.mpr h9]; done) | (simp (decide := true) only [hasB, tg_b, decide_true, decide_false, cond_true, cond_false, Bool.false_eq_true, if_true, if_false, ite_true, ite_false, h1, Int32.not_lt.mp h1, h9, Int32.not_lt.mpr h9]; done), rfl⟩
    · refine tg_steps 2 rfl ?_
      exact tg_zret (st := []) rfl rfl ⟨Nat.le_of_ble_eq_true rfl, Nat.le_of_ble_eq_true rfl⟩ (by first | exact Or.inl rfl | exact Or.inr rfl | exact tg_b1 _) ⟨by first | rfl | (simp (decide := true) only [hasB, tg_b, decide_true, decide_false, cond_true, cond_false, Bool.false_eq_true, if_true, if_false, ite_true, ite_false, h1, Int32.not_lt.mp h1, h9, Int32.not_le.mp h9]; done) | (simp (decide := true) only [hasB, tg_b, decide_true, decide_false, cond_true, cond_false, Bool.false_eq_true, if_true, if_false, ite_true, ite_false, h1, Int32.not_lt.mp h1, h9, Int32.not_le.mp h9]; done), rfl⟩
set_option maxRecDepth 100000 in
set_option maxHeartbeats 2000000 in
theorem c_kindOf_2 {G : tg_G} {n p h : tp_H} {x : tp_X} {r : List tg_Cl} (hm : hM h ≤ 7) (k : Int32) : tg_C G 2 mX1_kindOf 0 0 [.ref 26, .int k] (tp_cs n p h x, r) (fun v w => v = some (.int (gO hK h k)) ∧ w = (tp_cs n p h x, r)) := by
  refine tg_intro okX1_kindOf (Nat.le_of_ble_eq_true rfl) ?_
  refine tg_steps 2 rfl ?_
  refine tg_callV rfl (c_has_2 k) rfl rfl rfl rfl rfl (fun v2 w2 q2 => ?_)
  obtain ⟨rfl, rfl⟩ := q2
  refine tg_ifbeq rfl rfl (fun h5 => ?_) (fun h5 => ?_)
  · refine tg_steps 1 rfl ?_
    exact tg_iret (st := []) rfl rfl ⟨Nat.le_of_ble_eq_true rfl, Nat.le_of_ble_eq_true rfl⟩ ⟨by first | rfl | (simp (decide := true) only [gO, decide_true, decide_false, cond_true, cond_false, Bool.false_eq_true, if_true, if_false, ite_true, ite_false, h5]; done) | (simp (decide := true) only [gO, decide_true, decide_false, cond_true, cond_false, Bool.false_eq_true, if_true, if_false, ite_true, ite_false, h5]; done), rfl⟩
  · obtain ⟨j, hj, rfl, hcl⟩ := has_j hm h5
    refine tg_steps 3 rfl ?_
    refine tg_ialdN rfl rfl (j) rfl (by omega) (by decide) ?_
    refine tg_steps 1 rfl ?_
    exact tg_iret (st := []) rfl rfl ⟨Nat.le_of_ble_eq_true rfl, Nat.le_of_ble_eq_true rfl⟩ ⟨by first | rfl | (simp (decide := true) only [gO, decide_true, decide_false, cond_true, cond_false, Bool.false_eq_true, if_true, if_false, ite_true, ite_false, h5, hcl]; done) | (simp (decide := true) only [gO, decide_true, decide_false, cond_true, cond_false, Bool.false_eq_true, if_true, if_false, ite_true, ite_false, h5, hcl]; done), rfl⟩
set_option maxRecDepth 100000 in
set_option maxHeartbeats 2000000 in
theorem c_figureOf_2 {G : tg_G} {n p h : tp_H} {x : tp_X} {r : List tg_Cl} (hm : hM h ≤ 7) (k : Int32) : tg_C G 2 mX1_figureOf 0 0 [.ref 26, .int k] (tp_cs n p h x, r) (fun v w => v = some (.int (gO hF h k)) ∧ w = (tp_cs n p h x, r)) := by
  refine tg_intro okX1_figureOf (Nat.le_of_ble_eq_true rfl) ?_
  refine tg_steps 2 rfl ?_
  refine tg_callV rfl (c_has_2 k) rfl rfl rfl rfl rfl (fun v2 w2 q2 => ?_)
  obtain ⟨rfl, rfl⟩ := q2
  refine tg_ifbeq rfl rfl (fun h5 => ?_) (fun h5 => ?_)
  · refine tg_steps 1 rfl ?_
    exact tg_iret (st := []) rfl rfl ⟨Nat.le_of_ble_eq_true rfl, Nat.le_of_ble_eq_true rfl⟩ ⟨by first | rfl | (simp (decide := true) only [gO, decide_true, decide_false, cond_true, cond_false, Bool.false_eq_true, if_true, if_false, ite_true, ite_false, h5]; done) | (simp (decide := true) only [gO, decide_true, decide_false, cond_true, cond_false, Bool.false_eq_true, if_true, if_false, ite_true, ite_false, h5]; done), rfl⟩
  · obtain ⟨j, hj, rfl, hcl⟩ := has_j hm h5
    refine tg_steps 3 rfl ?_
    refine tg_ialdN rfl rfl (j) rfl (by omega) (by decide) ?_
    refine tg_steps 1 rfl ?_
    exact tg_iret (st := []) rfl rfl ⟨Nat.le_of_ble_eq_true rfl, Nat.le_of_ble_eq_true rfl⟩ ⟨by first | rfl | (simp (decide := true) only [gO, decide_true, decide_false, cond_true, cond_false, Bool.false_eq_true, if_true, if_false, ite_true, ite_false, h5, hcl]; done) | (simp (decide := true) only [gO, decide_true, decide_false, cond_true, cond_false, Bool.false_eq_true, if_true, if_false, ite_true, ite_false, h5, hcl]; done), rfl⟩
set_option maxRecDepth 100000 in
set_option maxHeartbeats 2000000 in
theorem c_homeOf_2 {G : tg_G} {n p h : tp_H} {x : tp_X} {r : List tg_Cl} (hm : hM h ≤ 7) (k : Int32) : tg_C G 2 mX1_homeOf 0 0 [.ref 26, .int k] (tp_cs n p h x, r) (fun v w => v = some (.int (gO hH h k)) ∧ w = (tp_cs n p h x, r)) := by
  refine tg_intro okX1_homeOf (Nat.le_of_ble_eq_true rfl) ?_
  refine tg_steps 2 rfl ?_
  refine tg_callV rfl (c_has_2 k) rfl rfl rfl rfl rfl (fun v2 w2 q2 => ?_)
  obtain ⟨rfl, rfl⟩ := q2
  refine tg_ifbeq rfl rfl (fun h5 => ?_) (fun h5 => ?_)
  · refine tg_steps 1 rfl ?_
    exact tg_iret (st := []) rfl rfl ⟨Nat.le_of_ble_eq_true rfl, Nat.le_of_ble_eq_true rfl⟩ ⟨by first | rfl | (simp (decide := true) only [gO, decide_true, decide_false, cond_true, cond_false, Bool.false_eq_true, if_true, if_false, ite_true, ite_false, h5]; done) | (simp (decide := true) only [gO, decide_true, decide_false, cond_true, cond_false, Bool.false_eq_true, if_true, if_false, ite_true, ite_false, h5]; done), rfl⟩
  · obtain ⟨j, hj, rfl, hcl⟩ := has_j hm h5
    refine tg_steps 3 rfl ?_
    refine tg_ialdN rfl rfl (j) rfl (by omega) (by decide) ?_
    refine tg_steps 1 rfl ?_
    exact tg_iret (st := []) rfl rfl ⟨Nat.le_of_ble_eq_true rfl, Nat.le_of_ble_eq_true rfl⟩ ⟨by first | rfl | (simp (decide := true) only [gO, decide_true, decide_false, cond_true, cond_false, Bool.false_eq_true, if_true, if_false, ite_true, ite_false, h5, hcl]; done) | (simp (decide := true) only [gO, decide_true, decide_false, cond_true, cond_false, Bool.false_eq_true, if_true, if_false, ite_true, ite_false, h5, hcl]; done), rfl⟩
set_option maxRecDepth 100000 in
set_option maxHeartbeats 2000000 in
theorem c_tileOf_2 {G : tg_G} {n p h : tp_H} {x : tp_X} {r : List tg_Cl} (hm : hM h ≤ 7) (k : Int32) : tg_C G 2 mX1_tileOf 0 0 [.ref 26, .int k] (tp_cs n p h x, r) (fun v w => v = some (.int (gO hT h k)) ∧ w = (tp_cs n p h x, r)) := by
  refine tg_intro okX1_tileOf (Nat.le_of_ble_eq_true rfl) ?_
  refine tg_steps 2 rfl ?_
  refine tg_callV rfl (c_has_2 k) rfl rfl rfl rfl rfl (fun v2 w2 q2 => ?_)
  obtain ⟨rfl, rfl⟩ := q2
  refine tg_ifbeq rfl rfl (fun h5 => ?_) (fun h5 => ?_)
  · refine tg_steps 1 rfl ?_
    exact tg_iret (st := []) rfl rfl ⟨Nat.le_of_ble_eq_true rfl, Nat.le_of_ble_eq_true rfl⟩ ⟨by first | rfl | (simp (decide := true) only [gO, decide_true, decide_false, cond_true, cond_false, Bool.false_eq_true, if_true, if_false, ite_true, ite_false, h5]; done) | (simp (decide := true) only [gO, decide_true, decide_false, cond_true, cond_false, Bool.false_eq_true, if_true, if_false, ite_true, ite_false, h5]; done), rfl⟩
  · obtain ⟨j, hj, rfl, hcl⟩ := has_j hm h5
    refine tg_steps 3 rfl ?_
    refine tg_ialdN rfl rfl (j) rfl (by omega) (by decide) ?_
    refine tg_steps 1 rfl ?_
    exact tg_iret (st := []) rfl rfl ⟨Nat.le_of_ble_eq_true rfl, Nat.le_of_ble_eq_true rfl⟩ ⟨by first | rfl | (simp (decide := true) only [gO, decide_true, decide_false, cond_true, cond_false, Bool.false_eq_true, if_true, if_false, ite_true, ite_false, h5, hcl]; done) | (simp (decide := true) only [gO, decide_true, decide_false, cond_true, cond_false, Bool.false_eq_true, if_true, if_false, ite_true, ite_false, h5, hcl]; done), rfl⟩
set_option maxRecDepth 100000 in
set_option maxHeartbeats 2000000 in
theorem c_pinnedOf_2 {G : tg_G} {n p h : tp_H} {x : tp_X} {r : List tg_Cl} (hm : hM h ≤ 7) (k : Int32) : tg_C G 2 mX1_pinnedOf 0 0 [.ref 26, .int k] (tp_cs n p h x, r) (fun v w => v = some (.int (gO hP h k)) ∧ w = (tp_cs n p h x, r)) := by
  refine tg_intro okX1_pinnedOf (Nat.le_of_ble_eq_true rfl) ?_
  refine tg_steps 2 rfl ?_
  refine tg_callV rfl (c_has_2 k) rfl rfl rfl rfl rfl (fun v2 w2 q2 => ?_)
  obtain ⟨rfl, rfl⟩ := q2
  refine tg_ifbeq rfl rfl (fun h5 => ?_) (fun h5 => ?_)
  · refine tg_steps 1 rfl ?_
    exact tg_iret (st := []) rfl rfl ⟨Nat.le_of_ble_eq_true rfl, Nat.le_of_ble_eq_true rfl⟩ ⟨by first | rfl | (simp (decide := true) only [gO, decide_true, decide_false, cond_true, cond_false, Bool.false_eq_true, if_true, if_false, ite_true, ite_false, h5]; done) | (simp (decide := true) only [gO, decide_true, decide_false, cond_true, cond_false, Bool.false_eq_true, if_true, if_false, ite_true, ite_false, h5]; done), rfl⟩
  · obtain ⟨j, hj, rfl, hcl⟩ := has_j hm h5
    refine tg_steps 3 rfl ?_
    refine tg_ialdN rfl rfl (j) rfl (by omega) (by decide) ?_
    refine tg_steps 1 rfl ?_
    exact tg_iret (st := []) rfl rfl ⟨Nat.le_of_ble_eq_true rfl, Nat.le_of_ble_eq_true rfl⟩ ⟨by first | rfl | (simp (decide := true) only [gO, decide_true, decide_false, cond_true, cond_false, Bool.false_eq_true, if_true, if_false, ite_true, ite_false, h5, hcl]; done) | (simp (decide := true) only [gO, decide_true, decide_false, cond_true, cond_false, Bool.false_eq_true, if_true, if_false, ite_true, ite_false, h5, hcl]; done), rfl⟩
set_option maxRecDepth 100000 in
set_option maxHeartbeats 2000000 in
theorem c_isAboard_2 {G : tg_G} {n p h : tp_H} {x : tp_X} {r : List tg_Cl} (hm : hM h ≤ 7) (k : Int32) : tg_C G 3 mX1_isAboard 0 0 [.ref 26, .int k] (tp_cs n p h x, r) (fun v w => v = some (.int (tg_b (abB h k))) ∧ w = (tp_cs n p h x, r)) := by
  refine tg_intro okX1_isAboard (Nat.le_of_ble_eq_true rfl) ?_
  refine tg_steps 2 rfl ?_
  refine tg_callV rfl (c_tileOf_2 hm k) rfl rfl rfl rfl rfl (fun v2 w2 q2 => ?_)
  obtain ⟨rfl, rfl⟩ := q2
  refine tg_steps 2 rfl ?_
  refine tg_icne rfl rfl (fun h9 => ?_) (fun h9 => ?_)
  · refine tg_steps 1 rfl ?_
    exact tg_zret (st := []) rfl rfl ⟨Nat.le_of_ble_eq_true rfl, Nat.le_of_ble_eq_true rfl⟩ (by first | exact Or.inl rfl | exact Or.inr rfl | exact tg_b1 _) ⟨by first | rfl | (simp (decide := true) only [abB, tg_b, decide_true, decide_false, cond_true, cond_false, Bool.false_eq_true, if_true, if_false, ite_true, ite_false, h9]; done) | (simp (decide := true) only [abB, tg_b, decide_true, decide_false, cond_true, cond_false, Bool.false_eq_true, if_true, if_false, ite_true, ite_false, h9]; done), rfl⟩
  · refine tg_steps 2 rfl ?_
    exact tg_zret (st := []) rfl rfl ⟨Nat.le_of_ble_eq_true rfl, Nat.le_of_ble_eq_true rfl⟩ (by first | exact Or.inl rfl | exact Or.inr rfl | exact tg_b1 _) ⟨by first | rfl | (simp (decide := true) only [abB, tg_b, decide_true, decide_false, cond_true, cond_false, Bool.false_eq_true, if_true, if_false, ite_true, ite_false, eq_true h9]; done) | (simp (decide := true) only [abB, tg_b, decide_true, decide_false, cond_true, cond_false, Bool.false_eq_true, if_true, if_false, ite_true, ite_false, h9]; done), rfl⟩
set_option maxRecDepth 100000 in
set_option maxHeartbeats 2000000 in
theorem c_isCracked_2 {G : tg_G} {n p h : tp_H} {x : tp_X} {r : List tg_Cl} (k : Int32) : tg_C G 1 mX1_isCracked 0 0 [.ref 26, .int k] (tp_cs n p h x, r) (fun v w => v = some (.int (tg_b (crB h k))) ∧ w = (tp_cs n p h x, r)) := by
  refine tg_intro okX1_isCracked (Nat.le_of_ble_eq_true rfl) ?_
  refine tg_steps 7 rfl ?_
  refine tg_icne rfl rfl (fun h9 => ?_) (fun h9 => ?_)
  · refine tg_steps 1 rfl ?_
    exact tg_zret (st := []) rfl rfl ⟨Nat.le_of_ble_eq_true rfl, Nat.le_of_ble_eq_true rfl⟩ (by first | exact Or.inl rfl | exact Or.inr rfl | exact tg_b1 _) ⟨by first | rfl | (simp (decide := true) only [crB, tg_b, decide_true, decide_false, cond_true, cond_false, Bool.false_eq_true, if_true, if_false, ite_true, ite_false, h9]; done) | (simp (decide := true) only [crB, tg_b, decide_true, decide_false, cond_true, cond_false, Bool.false_eq_true, if_true, if_false, ite_true, ite_false, h9]; done), rfl⟩
  · refine tg_steps 2 rfl ?_
    exact tg_zret (st := []) rfl rfl ⟨Nat.le_of_ble_eq_true rfl, Nat.le_of_ble_eq_true rfl⟩ (by first | exact Or.inl rfl | exact Or.inr rfl | exact tg_b1 _) ⟨by first | rfl | (simp (decide := true) only [crB, tg_b, decide_true, decide_false, cond_true, cond_false, Bool.false_eq_true, if_true, if_false, ite_true, ite_false, eq_true h9]; done) | (simp (decide := true) only [crB, tg_b, decide_true, decide_false, cond_true, cond_false, Bool.false_eq_true, if_true, if_false, ite_true, ite_false, h9]; done), rfl⟩
set_option maxRecDepth 100000 in
set_option maxHeartbeats 2000000 in
theorem c_manyAt_2 {G : tg_G} {n p h : tp_H} {x : tp_X} {r : List tg_Cl} (hm : hM h ≤ 7) (k : Int32) : tg_C G 1 mX1_manyAt 0 0 [.ref 26, .int k] (tp_cs n p h x, r) (fun v w => v = some (.int (mAt h k)) ∧ w = (tp_cs n p h x, r)) := by
  refine tg_intro okX1_manyAt (Nat.le_of_ble_eq_true rfl) ?_
  refine tg_steps 4 rfl ?_
  refine tg_pkV [0, 1, 2, 3] ?_
  refine tg_eqS (L2 := [(0, .ref 26), (1, .int k), (2, .int (cI (fun i => decide (hT h i = k)) (0))), (3, .int (nI (0)))]) (st2 := []) (w2 := (tp_cs n p h x, r)) rfl rfl rfl ?_
  refine tg_down (φ := fun i : Nat => tg_V G 1 mX1_manyAt 0 0 0 0 (fun v w => v = some (.int (mAt h k)) ∧ w = (tp_cs n p h x, r)) 4 [(0, .ref 26), (1, .int k), (2, .int (cI (fun i => decide (hT h i = k)) (i))), (3, .int (nI (i)))] [] (tp_cs n p h x, r)) (n := hM h) ?_ ?_ 0 (Nat.zero_le _) 
  · refine tg_steps 3 rfl ?_
    refine tg_icge rfl rfl (fun h9 => ?_) (fun h9 => ?_)
    · refine tg_steps 1 rfl ?_
      exact tg_iret (st := []) rfl rfl ⟨Nat.le_of_ble_eq_true rfl, Nat.le_of_ble_eq_true rfl⟩ ⟨rfl, rfl⟩
    · exact absurd (nI_le (Nat.le_refl _) (by omega)) h9
  · intro i hi4 ih4
    refine tg_steps 3 rfl ?_
    refine tg_icge rfl rfl (fun h9 => ?_) (fun h9 => ?_)
    · exact absurd h9 (nI_ge hi4 (by omega))
    · refine tg_steps 3 rfl ?_
      refine tg_ialdN rfl rfl (i) rfl (by omega) (by decide) ?_
      refine tg_steps 1 rfl ?_
      refine tg_icne rfl rfl (fun h19 => ?_) (fun h19 => ?_)
      · refine tg_steps 2 rfl ?_
        refine tg_pkV [0, 1, 2, 3] ?_
        refine tg_eqS (L2 := [(0, .ref 26), (1, .int k), (2, .int (cI (fun i => decide (hT h i = k)) (i + 1))), (3, .int (nI (i + 1)))]) (st2 := []) (w2 := (tp_cs n p h x, r)) (by first | rfl | (simp (decide := true) only [nI_succ, cI_succ, decide_true, decide_false, cond_true, cond_false, Bool.false_eq_true, if_true, if_false, ite_true, ite_false, h19]; done) | (simp (decide := true) only [nI_succ, cI_succ, decide_true, decide_false, cond_true, cond_false, Bool.false_eq_true, if_true, if_false, ite_true, ite_false, h19]; rfl)) rfl (by first | rfl | (simp (decide := true) only [nI_succ, cI_succ, decide_true, decide_false, cond_true, cond_false, Bool.false_eq_true, if_true, if_false, ite_true, ite_false, h19]; done) | (simp (decide := true) only [nI_succ, cI_succ, decide_true, decide_false, cond_true, cond_false, Bool.false_eq_true, if_true, if_false, ite_true, ite_false, h19]; rfl)) ?_
        exact ih4
      · refine tg_steps 3 rfl ?_
        refine tg_pkV [0, 1, 2, 3] ?_
        refine tg_eqS (L2 := [(0, .ref 26), (1, .int k), (2, .int (cI (fun i => decide (hT h i = k)) (i + 1))), (3, .int (nI (i + 1)))]) (st2 := []) (w2 := (tp_cs n p h x, r)) (by first | rfl | (simp (decide := true) only [nI_succ, cI_succ, decide_true, decide_false, cond_true, cond_false, Bool.false_eq_true, if_true, if_false, ite_true, ite_false, eq_true h19]; done) | (simp (decide := true) only [nI_succ, cI_succ, decide_true, decide_false, cond_true, cond_false, Bool.false_eq_true, if_true, if_false, ite_true, ite_false, eq_true h19]; rfl)) rfl (by first | rfl | (simp (decide := true) only [nI_succ, cI_succ, decide_true, decide_false, cond_true, cond_false, Bool.false_eq_true, if_true, if_false, ite_true, ite_false, eq_true h19]; done) | (simp (decide := true) only [nI_succ, cI_succ, decide_true, decide_false, cond_true, cond_false, Bool.false_eq_true, if_true, if_false, ite_true, ite_false, eq_true h19]; rfl)) ?_
        exact ih4
set_option maxRecDepth 100000 in
set_option maxHeartbeats 2000000 in
theorem c_onesAt_2 {G : tg_G} {n p h : tp_H} {x : tp_X} {r : List tg_Cl} (hm : hM h ≤ 7) (k : Int32) : tg_C G 1 mX1_onesAt 0 0 [.ref 26, .int k] (tp_cs n p h x, r) (fun v w => v = some (.int (oAt h k)) ∧ w = (tp_cs n p h x, r)) := by
  refine tg_intro okX1_onesAt (Nat.le_of_ble_eq_true rfl) ?_
  refine tg_steps 4 rfl ?_
  refine tg_pkV [0, 1, 2, 3] ?_
  refine tg_eqS (L2 := [(0, .ref 26), (1, .int k), (2, .int (bI (fun i => decide (hT h i = k)) (0))), (3, .int (nI (0)))]) (st2 := []) (w2 := (tp_cs n p h x, r)) rfl rfl rfl ?_
  refine tg_down (φ := fun i : Nat => tg_V G 1 mX1_onesAt 0 0 0 0 (fun v w => v = some (.int (oAt h k)) ∧ w = (tp_cs n p h x, r)) 4 [(0, .ref 26), (1, .int k), (2, .int (bI (fun i => decide (hT h i = k)) (i))), (3, .int (nI (i)))] [] (tp_cs n p h x, r)) (n := hM h) ?_ ?_ 0 (Nat.zero_le _) 
  · refine tg_steps 3 rfl ?_
    refine tg_icge rfl rfl (fun h9 => ?_) (fun h9 => ?_)
    · refine tg_steps 1 rfl ?_
      exact tg_iret (st := []) rfl rfl ⟨Nat.le_of_ble_eq_true rfl, Nat.le_of_ble_eq_true rfl⟩ ⟨rfl, rfl⟩
    · exact absurd (nI_le (Nat.le_refl _) (by omega)) h9
  · intro i hi4 ih4
    refine tg_steps 3 rfl ?_
    refine tg_icge rfl rfl (fun h9 => ?_) (fun h9 => ?_)
    · exact absurd h9 (nI_ge hi4 (by omega))
    · refine tg_steps 3 rfl ?_
      refine tg_ialdN rfl rfl (i) rfl (by omega) (by decide) ?_
      refine tg_steps 1 rfl ?_
      refine tg_icne rfl rfl (fun h19 => ?_) (fun h19 => ?_)
      · refine tg_steps 2 rfl ?_
        refine tg_pkV [0, 1, 2, 3] ?_
        refine tg_eqS (L2 := [(0, .ref 26), (1, .int k), (2, .int (bI (fun i => decide (hT h i = k)) (i + 1))), (3, .int (nI (i + 1)))]) (st2 := []) (w2 := (tp_cs n p h x, r)) (by first | rfl | (simp (decide := true) only [nI_succ, bI_succ, decide_true, decide_false, cond_true, cond_false, Bool.false_eq_true, if_true, if_false, ite_true, ite_false, h19]; done) | (simp (decide := true) only [nI_succ, bI_succ, decide_true, decide_false, cond_true, cond_false, Bool.false_eq_true, if_true, if_false, ite_true, ite_false, h19]; rfl)) rfl (by first | rfl | (simp (decide := true) only [nI_succ, bI_succ, decide_true, decide_false, cond_true, cond_false, Bool.false_eq_true, if_true, if_false, ite_true, ite_false, h19]; done) | (simp (decide := true) only [nI_succ, bI_succ, decide_true, decide_false, cond_true, cond_false, Bool.false_eq_true, if_true, if_false, ite_true, ite_false, h19]; rfl)) ?_
        exact ih4
      · refine tg_steps 8 rfl ?_
        refine tg_pkV [0, 1, 2, 3] ?_
        refine tg_eqS (L2 := [(0, .ref 26), (1, .int k), (2, .int (bI (fun i => decide (hT h i = k)) (i + 1))), (3, .int (nI (i + 1)))]) (st2 := []) (w2 := (tp_cs n p h x, r)) (by first | rfl | (simp (decide := true) only [nI_succ, bI_succ, decide_true, decide_false, cond_true, cond_false, Bool.false_eq_true, if_true, if_false, ite_true, ite_false, eq_true h19]; done) | (simp (decide := true) only [nI_succ, bI_succ, decide_true, decide_false, cond_true, cond_false, Bool.false_eq_true, if_true, if_false, ite_true, ite_false, eq_true h19]; rfl)) rfl (by first | rfl | (simp (decide := true) only [nI_succ, bI_succ, decide_true, decide_false, cond_true, cond_false, Bool.false_eq_true, if_true, if_false, ite_true, ite_false, eq_true h19]; done) | (simp (decide := true) only [nI_succ, bI_succ, decide_true, decide_false, cond_true, cond_false, Bool.false_eq_true, if_true, if_false, ite_true, ite_false, eq_true h19]; rfl)) ?_
        exact ih4
set_option maxRecDepth 100000 in
set_option maxHeartbeats 2000000 in
theorem c_othersAboard_2 {G : tg_G} {n p h : tp_H} {x : tp_X} {r : List tg_Cl} (hm : hM h ≤ 7) (k : Int32) : tg_C G 1 mX1_othersAboard 0 0 [.ref 26, .int k] (tp_cs n p h x, r) (fun v w => v = some (.int (tg_b (othB h k))) ∧ w = (tp_cs n p h x, r)) := by
  refine tg_intro okX1_othersAboard (Nat.le_of_ble_eq_true rfl) ?_
  refine tg_steps 2 rfl ?_
  refine tg_pkV [0, 1, 2] ?_
  refine tg_eqS (L2 := [(0, .ref 26), (1, .int k), (2, .int (nI (0)))]) (st2 := []) (w2 := (tp_cs n p h x, r)) rfl rfl rfl ?_
  refine tg_down (φ := fun i : Nat => (othB h k = aI (fun i => bif decide (nI i = k) then true else decide (hT h i = hS h)) (hM h - i) i) → tg_V G 1 mX1_othersAboard 0 0 0 0 (fun v w => v = some (.int (tg_b (othB h k))) ∧ w = (tp_cs n p h x, r)) 2 [(0, .ref 26), (1, .int k), (2, .int (nI (i)))] [] (tp_cs n p h x, r)) (n := hM h) ?_ ?_ 0 (Nat.zero_le _) (rfl)
  · intro hinv2
    refine tg_steps 3 rfl ?_
    refine tg_icge rfl rfl (fun h7 => ?_) (fun h7 => ?_)
    · refine tg_steps 1 rfl ?_
      exact tg_zret (st := []) rfl rfl ⟨Nat.le_of_ble_eq_true rfl, Nat.le_of_ble_eq_true rfl⟩ (by first | exact Or.inl rfl | exact Or.inr rfl | exact tg_b1 _) ⟨by rw [hinv2, Nat.sub_self]; rfl, rfl⟩
    · exact absurd (nI_le (Nat.le_refl _) (by omega)) h7
  · intro i hi2 ih2 hinv2
    rw [show hM h - i = hM h - (i + 1) + 1 by omega, aI_succ] at hinv2
    refine tg_steps 3 rfl ?_
    refine tg_icge rfl rfl (fun h7 => ?_) (fun h7 => ?_)
    · exact absurd h7 (nI_ge hi2 (by omega))
    · refine tg_steps 2 rfl ?_
      refine tg_iceq rfl rfl (fun h12 => ?_) (fun h12 => ?_)
      · refine tg_steps 2 rfl ?_
        refine tg_pkV [0, 1, 2] ?_
        refine tg_eqS (L2 := [(0, .ref 26), (1, .int k), (2, .int (nI (i + 1)))]) (st2 := []) (w2 := (tp_cs n p h x, r)) (by first | rfl | (simp (decide := true) only [nI_succ, decide_true, decide_false, cond_true, cond_false, Bool.false_eq_true, if_true, if_false, ite_true, ite_false, eq_true h12]; done) | (simp (decide := true) only [nI_succ, decide_true, decide_false, cond_true, cond_false, Bool.false_eq_true, if_true, if_false, ite_true, ite_false, eq_true h12]; rfl)) rfl (by first | rfl | (simp (decide := true) only [nI_succ, decide_true, decide_false, cond_true, cond_false, Bool.false_eq_true, if_true, if_false, ite_true, ite_false, eq_true h12]; done) | (simp (decide := true) only [nI_succ, decide_true, decide_false, cond_true, cond_false, Bool.false_eq_true, if_true, if_false, ite_true, ite_false, eq_true h12]; rfl)) ?_
        exact ih2 (by simp only [decide_true, decide_false, cond_true, cond_false, Bool.false_eq_true, if_true, if_false, ite_true, ite_false, eq_true h12] at hinv2; exact hinv2)
      · refine tg_steps 3 rfl ?_
        refine tg_ialdN rfl rfl (i) rfl (by omega) (by decide) ?_
        refine tg_steps 2 rfl ?_
        refine tg_iceq rfl rfl (fun h25 => ?_) (fun h25 => ?_)
        · refine tg_steps 2 rfl ?_
          refine tg_pkV [0, 1, 2] ?_
          refine tg_eqS (L2 := [(0, .ref 26), (1, .int k), (2, .int (nI (i + 1)))]) (st2 := []) (w2 := (tp_cs n p h x, r)) (by first | rfl | (simp (decide := true) only [nI_succ, decide_true, decide_false, cond_true, cond_false, Bool.false_eq_true, if_true, if_false, ite_true, ite_false, h12, eq_true h25]; done) | (simp (decide := true) only [nI_succ, decide_true, decide_false, cond_true, cond_false, Bool.false_eq_true, if_true, if_false, ite_true, ite_false, h12, eq_true h25]; rfl)) rfl (by first | rfl | (simp (decide := true) only [nI_succ, decide_true, decide_false, cond_true, cond_false, Bool.false_eq_true, if_true, if_false, ite_true, ite_false, h12, eq_true h25]; done) | (simp (decide := true) only [nI_succ, decide_true, decide_false, cond_true, cond_false, Bool.false_eq_true, if_true, if_false, ite_true, ite_false, h12, eq_true h25]; rfl)) ?_
          exact ih2 (by simp only [decide_true, decide_false, cond_true, cond_false, Bool.false_eq_true, if_true, if_false, ite_true, ite_false, h12, eq_true h25] at hinv2; exact hinv2)
        · refine tg_steps 1 rfl ?_
          exact tg_zret (st := []) rfl rfl ⟨Nat.le_of_ble_eq_true rfl, Nat.le_of_ble_eq_true rfl⟩ (by first | exact Or.inl rfl | exact Or.inr rfl | exact tg_b1 _) ⟨by simp only [decide_true, decide_false, cond_true, cond_false, Bool.false_eq_true, if_true, if_false, ite_true, ite_false, h12, h25] at hinv2; rw [hinv2]; rfl, rfl⟩
