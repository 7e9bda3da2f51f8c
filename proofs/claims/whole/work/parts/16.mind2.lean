/-! Mind, continued -/
set_option maxRecDepth 100000 in
set_option maxHeartbeats 2000000 in
theorem c_nobodyAboard {G : tg_G} {n p t : tp_H} {x : tp_X} {r : List tg_Cl} (hm : hM n ≤ 7) (c : Int32) (k : Nat) (hk : k < 2 ^ 31) : tg_C G 6 mX4_nobodyAboard 0 0 [.ref 25, .ref 1, .int c, .int (nI k)] (tp_cs n p t x, r) (fun v w => v = some (.int (tg_b (nbB n c k))) ∧ ∃ t2, w = (tp_cs n p t2 x, r)) := by
  refine tg_intro okX4_nobodyAboard (Nat.le_of_ble_eq_true rfl) ?_
  refine tg_steps 3 rfl ?_
  refine tg_callV rfl (c_copyFrom_20 hm) rfl rfl rfl rfl rfl (fun v5 w5 q5 => ?_)
  obtain ⟨rfl, rfl⟩ := q5
  refine tg_steps 2 rfl ?_
  refine tg_pkV [0, 1, 2, 3, 4] ?_
  refine tg_eqS (L2 := [(0, .ref 25), (1, .ref 1), (2, .int c), (3, .int (nI k)), (4, .int (nI (0)))]) (st2 := []) (w2 := (tp_cs n p (nbS c (cpF t n) (0)) x, r)) rfl rfl rfl ?_
  refine tg_down (φ := fun i : Nat => tg_V G 6 mX4_nobodyAboard 0 0 0 0 (fun v w => v = some (.int (tg_b (nbB n c k))) ∧ ∃ t2, w = (tp_cs n p t2 x, r)) 11 [(0, .ref 25), (1, .ref 1), (2, .int c), (3, .int (nI k)), (4, .int (nI (i)))] [] (tp_cs n p (nbS c (cpF t n) (i)) x, r)) (n := hM n) ?_ ?_ 0 (Nat.zero_le _) 
  · refine tg_steps 4 rfl ?_
    refine tg_icge rfl rfl (fun h20 => ?_) (fun h20 => ?_)
    · refine tg_steps 3 rfl ?_
      refine tg_callV rfl (c_passNights_2 (h := nbS c (cpF t n) (hM n)) (by rw [nbS_M]; exact hm) k hk) rfl rfl rfl rfl rfl (fun v55 w55 q55 => ?_)
      obtain ⟨rfl, rfl⟩ := q55
      refine tg_steps 2 rfl ?_
      refine tg_callV rfl (c_aboardMany_2 (pm7 (n := nbS c (cpF t n) (hM n)) (by rw [nbS_M]; exact hm) k)) rfl rfl rfl rfl rfl (fun v62 w62 q62 => ?_)
      obtain ⟨rfl, rfl⟩ := q62
      refine tg_ifne rfl rfl (fun h65 => ?_) (fun h65 => ?_)
      · refine tg_steps 1 rfl ?_
        exact tg_zret (st := []) rfl rfl ⟨Nat.le_of_ble_eq_true rfl, Nat.le_of_ble_eq_true rfl⟩ (by first | exact Or.inl rfl | exact Or.inr rfl | exact tg_b1 _) ⟨by rw [← nbB_eq (t := t) hm, show nbB (cpF t n) c k = decide (mAt (pNs k (nbS c (cpF t n) (hM n))) (hS (pNs k (nbS c (cpF t n) (hM n)))) = 0) from rfl]; first | (simp (decide := true) only [tg_b, decide_true, decide_false, cond_true, cond_false, Bool.false_eq_true, if_true, if_false, ite_true, ite_false, h65]; done) | (simp (decide := true) only [tg_b, decide_true, decide_false, cond_true, cond_false, Bool.false_eq_true, if_true, if_false, ite_true, ite_false, h65]; rfl), _, rfl⟩
      · refine tg_steps 2 rfl ?_
        exact tg_zret (st := []) rfl rfl ⟨Nat.le_of_ble_eq_true rfl, Nat.le_of_ble_eq_true rfl⟩ (by first | exact Or.inl rfl | exact Or.inr rfl | exact tg_b1 _) ⟨by rw [← nbB_eq (t := t) hm, show nbB (cpF t n) c k = decide (mAt (pNs k (nbS c (cpF t n) (hM n))) (hS (pNs k (nbS c (cpF t n) (hM n)))) = 0) from rfl]; first | (simp (decide := true) only [tg_b, decide_true, decide_false, cond_true, cond_false, Bool.false_eq_true, if_true, if_false, ite_true, ite_false, eq_true h65]; done) | (simp (decide := true) only [tg_b, decide_true, decide_false, cond_true, cond_false, Bool.false_eq_true, if_true, if_false, ite_true, ite_false, eq_true h65]; rfl), _, rfl⟩
    · exact absurd (by rw [nbS_M]; exact nI_le (Nat.le_refl _) (by show hM n < _; omega)) h20
  · intro i hi11 ih11
    refine tg_steps 4 rfl ?_
    refine tg_icge rfl rfl (fun h20 => ?_) (fun h20 => ?_)
    · exact absurd h20 (by rw [nbS_M]; exact nI_ge hi11 (by show hM n < _; omega))
    · refine tg_steps 6 rfl ?_
      refine tg_icne rfl rfl (fun h30 => ?_) (fun h30 => ?_)
      · refine tg_steps 2 rfl ?_
        refine tg_pkV [0, 1, 2, 3, 4] ?_
        refine tg_eqS (L2 := [(0, .ref 25), (1, .ref 1), (2, .int c), (3, .int (nI k)), (4, .int (nI (i + 1)))]) (st2 := []) (w2 := (tp_cs n p (nbS c (cpF t n) (i + 1)) x, r)) (by first | rfl | (simp (decide := true) only [nI_succ, nbS_succ, bit, decide_true, decide_false, cond_true, cond_false, Bool.false_eq_true, if_true, if_false, ite_true, ite_false, h30]; done) | (simp (decide := true) only [nI_succ, nbS_succ, bit, decide_true, decide_false, cond_true, cond_false, Bool.false_eq_true, if_true, if_false, ite_true, ite_false, h30]; rfl)) rfl (by first | rfl | (simp (decide := true) only [nI_succ, nbS_succ, bit, decide_true, decide_false, cond_true, cond_false, Bool.false_eq_true, if_true, if_false, ite_true, ite_false, h30]; done) | (simp (decide := true) only [nI_succ, nbS_succ, bit, decide_true, decide_false, cond_true, cond_false, Bool.false_eq_true, if_true, if_false, ite_true, ite_false, h30]; rfl)) ?_
        exact ih11
      · refine tg_steps 4 rfl ?_
        refine tg_callV rfl (c_sendHome_2 (h := nbS c (cpF t n) i) (by rw [nbS_M]; exact hm) _ 9) rfl rfl rfl rfl rfl (fun v41 w41 q41 => ?_)
        obtain ⟨rfl, rfl⟩ := q41
        refine tg_steps 2 rfl ?_
        refine tg_pkV [0, 1, 2, 3, 4] ?_
        refine tg_eqS (L2 := [(0, .ref 25), (1, .ref 1), (2, .int c), (3, .int (nI k)), (4, .int (nI (i + 1)))]) (st2 := []) (w2 := (tp_cs n p (nbS c (cpF t n) (i + 1)) x, r)) (by first | rfl | (simp (decide := true) only [nI_succ, nbS_succ, bit, decide_true, decide_false, cond_true, cond_false, Bool.false_eq_true, if_true, if_false, ite_true, ite_false, eq_true h30]; done) | (simp (decide := true) only [nI_succ, nbS_succ, bit, decide_true, decide_false, cond_true, cond_false, Bool.false_eq_true, if_true, if_false, ite_true, ite_false, eq_true h30]; rfl)) rfl (by first | rfl | (simp (decide := true) only [nI_succ, nbS_succ, bit, decide_true, decide_false, cond_true, cond_false, Bool.false_eq_true, if_true, if_false, ite_true, ite_false, eq_true h30]; done) | (simp (decide := true) only [nI_succ, nbS_succ, bit, decide_true, decide_false, cond_true, cond_false, Bool.false_eq_true, if_true, if_false, ite_true, ite_false, eq_true h30]; rfl)) ?_
        exact ih11
set_option maxRecDepth 100000 in
set_option maxHeartbeats 2000000 in
theorem c_fewestPinned {G : tg_G} {n p t : tp_H} {x : tp_X} {r : List tg_Cl} (hm : hM n ≤ 7) (k : Nat) (hk : k < 2 ^ 31) : tg_C G 7 mX4_fewestPinned 0 0 [.ref 25, .ref 1, .int (nI k)] (tp_cs n p t x, r) (fun v w => v = some (.int ((fwS n k (2 ^ hM n)).1)) ∧ ∃ t2, w = (tp_cs n p t2 x, r)) := by
  refine tg_intro okX4_fewestPinned (Nat.le_of_ble_eq_true rfl) ?_
  refine tg_steps 9 rfl ?_
  refine tg_pkV [0, 1, 2, 3, 4, 5] ?_
  refine tg_eqS (L2 := [(0, .ref 25), (1, .ref 1), (2, .int (nI k)), (3, .int (fwS n k (0)).1), (4, .int (fwS n k (0)).2), (5, .int (nI (0)))]) (st2 := []) (w2 := _) rfl rfl rfl ?_
  refine tg_down (φ := fun i : Nat => ∀ (t2 : tp_H), tg_V G 7 mX4_fewestPinned 0 0 0 0 (fun v w => v = some (.int ((fwS n k (2 ^ hM n)).1)) ∧ ∃ t2, w = (tp_cs n p t2 x, r)) 14 [(0, .ref 25), (1, .ref 1), (2, .int (nI k)), (3, .int (fwS n k (i)).1), (4, .int (fwS n k (i)).2), (5, .int (nI (i)))] [] (tp_cs n p t2 x, r)) (n := 2 ^ hM n) ?_ ?_ 0 (Nat.zero_le _) _ 
  · intro t2
    refine tg_steps 5 rfl ?_
    rw [(shl7 _ hm).1]
    refine tg_icge rfl rfl (fun h22 => ?_) (fun h22 => ?_)
    · refine tg_steps 1 rfl ?_
      exact tg_iret (st := []) rfl rfl ⟨Nat.le_of_ble_eq_true rfl, Nat.le_of_ble_eq_true rfl⟩ ⟨rfl, _, rfl⟩
    · exact absurd (nI_le (Nat.le_refl _) (by have := (shl7 _ hm).2; omega)) h22
  · intro i hi14 ih14 t2
    refine tg_steps 5 rfl ?_
    rw [(shl7 _ hm).1]
    refine tg_icge rfl rfl (fun h22 => ?_) (fun h22 => ?_)
    · exact absurd h22 (nI_ge hi14 (by have := (shl7 _ hm).2; omega))
    · refine tg_steps 1 rfl ?_
      refine tg_call1 rfl (c_bitCount _) rfl rfl rfl  (fun v27 w27 q27 => ?_)
      obtain ⟨rfl, rfl⟩ := q27
      refine tg_steps 3 rfl ?_
      refine tg_icge rfl rfl (fun h36 => ?_) (fun h36 => ?_)
      · refine tg_steps 2 rfl ?_
        refine tg_pkV [0, 1, 2, 3, 4, 5] ?_
        refine tg_eqS (L2 := [(0, .ref 25), (1, .ref 1), (2, .int (nI k)), (3, .int (fwS n k (i + 1)).1), (4, .int (fwS n k (i + 1)).2), (5, .int (nI (i + 1)))]) (st2 := []) (w2 := _) (by first | rfl | (simp (decide := true) only [nI_succ, fwS_succ, decide_true, decide_false, cond_true, cond_false, Bool.false_eq_true, if_true, if_false, ite_true, ite_false, h36, Int32.not_lt.mpr h36]; done) | (simp (decide := true) only [nI_succ, fwS_succ, decide_true, decide_false, cond_true, cond_false, Bool.false_eq_true, if_true, if_false, ite_true, ite_false, h36, Int32.not_lt.mpr h36]; rfl)) rfl rfl ?_
        exact ih14 _
      · refine tg_steps 4 rfl ?_
        refine tg_callV rfl (c_nobodyAboard hm _ k hk) rfl rfl rfl rfl rfl (fun v44 w44 q44 => ?_)
        obtain ⟨rfl, t3, rfl⟩ := q44
        refine tg_ifbeq rfl rfl (fun h47 => ?_) (fun h47 => ?_)
        · refine tg_steps 2 rfl ?_
          refine tg_pkV [0, 1, 2, 3, 4, 5] ?_
          refine tg_eqS (L2 := [(0, .ref 25), (1, .ref 1), (2, .int (nI k)), (3, .int (fwS n k (i + 1)).1), (4, .int (fwS n k (i + 1)).2), (5, .int (nI (i + 1)))]) (st2 := []) (w2 := _) (by first | rfl | (simp (decide := true) only [nI_succ, fwS_succ, decide_true, decide_false, cond_true, cond_false, Bool.false_eq_true, if_true, if_false, ite_true, ite_false, h36, Int32.not_le.mp h36, h47]; done) | (simp (decide := true) only [nI_succ, fwS_succ, decide_true, decide_false, cond_true, cond_false, Bool.false_eq_true, if_true, if_false, ite_true, ite_false, h36, Int32.not_le.mp h36, h47]; rfl)) rfl rfl ?_
          exact ih14 _
        · refine tg_steps 6 rfl ?_
          refine tg_pkV [0, 1, 2, 3, 4, 5] ?_
          refine tg_eqS (L2 := [(0, .ref 25), (1, .ref 1), (2, .int (nI k)), (3, .int (fwS n k (i + 1)).1), (4, .int (fwS n k (i + 1)).2), (5, .int (nI (i + 1)))]) (st2 := []) (w2 := _) (by first | rfl | (simp (decide := true) only [nI_succ, fwS_succ, decide_true, decide_false, cond_true, cond_false, Bool.false_eq_true, if_true, if_false, ite_true, ite_false, h36, Int32.not_le.mp h36, h47]; done) | (simp (decide := true) only [nI_succ, fwS_succ, decide_true, decide_false, cond_true, cond_false, Bool.false_eq_true, if_true, if_false, ite_true, ite_false, h36, Int32.not_le.mp h36, h47]; rfl)) rfl rfl ?_
          exact ih14 _
set_option maxRecDepth 100000 in
set_option maxHeartbeats 2000000 in
theorem c_soonestAs {G : tg_G} {n p t : tp_H} {x : tp_X} {r : List tg_Cl} (hm : hM n ≤ 7) (one kd : Int32) : tg_C G 5 mX4_soonestAs 0 0 [.ref 25, .ref 1, .int one, .int kd] (tp_cs n p t x, r) (fun v w => v = some (.int (soA n one kd)) ∧ ∃ t2, w = (tp_cs n p t2 x, r)) := by
  refine tg_intro okX4_soonestAs (Nat.le_of_ble_eq_true rfl) ?_
  refine tg_steps 3 rfl ?_
  refine tg_callV rfl (c_copyFrom_20 hm) rfl rfl rfl rfl rfl (fun v5 w5 q5 => ?_)
  obtain ⟨rfl, rfl⟩ := q5
  refine tg_steps 6 rfl ?_
  refine tg_callV rfl (c_figureOf_0 hm one) rfl rfl rfl rfl rfl (fun v16 w16 q16 => ?_)
  obtain ⟨rfl, rfl⟩ := q16
  refine tg_callV rfl (c_become_2 (h := cpF t n) hm one kd _) rfl rfl rfl rfl rfl (fun v19 w19 q19 => ?_)
  obtain ⟨rfl, rfl⟩ := q19
  refine tg_steps 2 rfl ?_
  refine tg_pkV [0, 1, 2, 3, 4] ?_
  refine tg_eqS (L2 := [(0, .ref 25), (1, .ref 1), (2, .int one), (3, .int kd), (4, .int (nI (0)))]) (st2 := []) (w2 := (tp_cs n p (pNs (0) (becH (cpF t n) one kd (gO hF n one))) x, r)) rfl rfl rfl ?_
  refine tg_down (φ := fun i : Nat => (fiV (soP n one kd) nI 61 61 0 = fiV (soP n one kd) nI 61 (61 - (i)) (i)) → tg_V G 5 mX4_soonestAs 0 0 0 0 (fun v w => v = some (.int (soA n one kd)) ∧ ∃ t2, w = (tp_cs n p t2 x, r)) 25 [(0, .ref 25), (1, .ref 1), (2, .int one), (3, .int kd), (4, .int (nI (i)))] [] (tp_cs n p (pNs (i) (becH (cpF t n) one kd (gO hF n one))) x, r)) (n := 61) ?_ ?_ 0 (Nat.zero_le _) (rfl)
  · intro hinv25
    refine tg_steps 2 rfl ?_
    refine tg_icgt rfl rfl (fun h29 => ?_) (fun h29 => ?_)
    · refine tg_steps 1 rfl ?_
      exact tg_iret (st := []) rfl rfl ⟨Nat.le_of_ble_eq_true rfl, Nat.le_of_ble_eq_true rfl⟩ ⟨by unfold soA; rw [hinv25]; rfl, _, rfl⟩
    · exact absurd (by decide) h29
  · intro i hi25 ih25 hinv25
    rw [show 61 - i = 61 - (i + 1) + 1 by omega, fiV_succ _ _ _ (61 - (i + 1)) i] at hinv25
    refine tg_steps 2 rfl ?_
    refine tg_icgt rfl rfl (fun h29 => ?_) (fun h29 => ?_)
    · exact absurd h29 (nI_nlt (a := 60) (b := i) (by omega) (by decide))
    · refine tg_steps 3 rfl ?_
      refine tg_callV rfl (c_isAboard_2 (pm7 (n := becH (cpF t n) one kd (gO hF n one)) hm i) one) rfl rfl rfl rfl rfl (fun v37 w37 q37 => ?_)
      obtain ⟨rfl, rfl⟩ := q37
      rw [soP_eq hm]
      refine tg_ifbeq rfl rfl (fun h40 => ?_) (fun h40 => ?_)
      · refine tg_steps 2 rfl ?_
        refine tg_callV rfl (c_passNight_2 (pm7 (n := becH (cpF t n) one kd (gO hF n one)) hm i)) rfl rfl rfl rfl rfl (fun v50 w50 q50 => ?_)
        obtain ⟨rfl, rfl⟩ := q50
        refine tg_steps 3 rfl ?_
        refine tg_pkV [0, 1, 2, 3, 4] ?_
        refine tg_eqS (L2 := [(0, .ref 25), (1, .ref 1), (2, .int one), (3, .int kd), (4, .int (nI (i + 1)))]) (st2 := []) (w2 := (tp_cs n p (pNs (i + 1) (becH (cpF t n) one kd (gO hF n one))) x, r)) (by first | rfl | (simp (decide := true) only [nI_succ, decide_true, decide_false, cond_true, cond_false, Bool.false_eq_true, if_true, if_false, ite_true, ite_false, h40]; done) | (simp (decide := true) only [nI_succ, decide_true, decide_false, cond_true, cond_false, Bool.false_eq_true, if_true, if_false, ite_true, ite_false, h40]; rfl)) rfl (by first | rfl | (simp (decide := true) only [nI_succ, decide_true, decide_false, cond_true, cond_false, Bool.false_eq_true, if_true, if_false, ite_true, ite_false, h40]; done) | (simp (decide := true) only [nI_succ, decide_true, decide_false, cond_true, cond_false, Bool.false_eq_true, if_true, if_false, ite_true, ite_false, h40]; rfl)) ?_
        exact ih25 (by simp only [decide_true, decide_false, cond_true, cond_false, Bool.false_eq_true, if_true, if_false, ite_true, ite_false, h40] at hinv25; exact hinv25)
      · refine tg_steps 1 rfl ?_
        exact tg_iret (st := []) rfl rfl ⟨Nat.le_of_ble_eq_true rfl, Nat.le_of_ble_eq_true rfl⟩ ⟨by simp only [decide_true, decide_false, cond_true, cond_false, Bool.false_eq_true, if_true, if_false, ite_true, ite_false, h40] at hinv25; unfold soA; rw [hinv25], _, rfl⟩
set_option maxRecDepth 100000 in
set_option maxHeartbeats 2000000 in
theorem c_soonestKind {G : tg_G} {n p t : tp_H} {x : tp_X} {r : List tg_Cl} (hm : hM n ≤ 7) (one : Int32) : tg_C G 6 mX4_soonestKind 0 0 [.ref 25, .ref 1, .int one] (tp_cs n p t x, r) (fun v w => v = some (.int ((mnQ (fun _ => true) (fun i => soA n one (nI i)) 0 61 6).1)) ∧ ∃ t2, w = (tp_cs n p t2 x, r)) := by
  refine tg_intro okX4_soonestKind (Nat.le_of_ble_eq_true rfl) ?_
  refine tg_steps 6 rfl ?_
  refine tg_pkV [0, 1, 2, 3, 4, 5] ?_
  refine tg_eqS (L2 := [(0, .ref 25), (1, .ref 1), (2, .int one), (3, .int (mnQ (fun _ => true) (fun i => soA n one (nI i)) 0 61 (0)).1), (4, .int (mnQ (fun _ => true) (fun i => soA n one (nI i)) 0 61 (0)).2), (5, .int (nI (0)))]) (st2 := []) (w2 := _) rfl rfl rfl ?_
  refine tg_down (φ := fun i : Nat => ∀ (t2 : tp_H), tg_V G 6 mX4_soonestKind 0 0 0 0 (fun v w => v = some (.int ((mnQ (fun _ => true) (fun i => soA n one (nI i)) 0 61 6).1)) ∧ ∃ t2, w = (tp_cs n p t2 x, r)) 9 [(0, .ref 25), (1, .ref 1), (2, .int one), (3, .int (mnQ (fun _ => true) (fun i => soA n one (nI i)) 0 61 (i)).1), (4, .int (mnQ (fun _ => true) (fun i => soA n one (nI i)) 0 61 (i)).2), (5, .int (nI (i)))] [] (tp_cs n p t2 x, r)) (n := 6) ?_ ?_ 0 (Nat.zero_le _) _ 
  · intro t2
    refine tg_steps 2 rfl ?_
    refine tg_icge rfl rfl (fun h13 => ?_) (fun h13 => ?_)
    · refine tg_steps 1 rfl ?_
      exact tg_iret (st := []) rfl rfl ⟨Nat.le_of_ble_eq_true rfl, Nat.le_of_ble_eq_true rfl⟩ ⟨rfl, _, rfl⟩
    · exact absurd (by decide) h13
  · intro i hi9 ih9 t2
    refine tg_steps 2 rfl ?_
    refine tg_icge rfl rfl (fun h13 => ?_) (fun h13 => ?_)
    · exact absurd h13 (nI_ge (b := 6) hi9 (by decide))
    · refine tg_steps 4 rfl ?_
      refine tg_callV rfl (c_soonestAs hm one _) rfl rfl rfl rfl rfl (fun v21 w21 q21 => ?_)
      obtain ⟨rfl, t3, rfl⟩ := q21
      refine tg_steps 3 rfl ?_
      refine tg_icge rfl rfl (fun h30 => ?_) (fun h30 => ?_)
      · refine tg_steps 2 rfl ?_
        refine tg_pkV [0, 1, 2, 3, 4, 5] ?_
        refine tg_eqS (L2 := [(0, .ref 25), (1, .ref 1), (2, .int one), (3, .int (mnQ (fun _ => true) (fun i => soA n one (nI i)) 0 61 (i + 1)).1), (4, .int (mnQ (fun _ => true) (fun i => soA n one (nI i)) 0 61 (i + 1)).2), (5, .int (nI (i + 1)))]) (st2 := []) (w2 := _) (by first | rfl | (simp (decide := true) only [nI_succ, mnQ_succ, decide_true, decide_false, cond_true, cond_false, Bool.false_eq_true, if_true, if_false, ite_true, ite_false, h30, Int32.not_lt.mpr h30]; done) | (simp (decide := true) only [nI_succ, mnQ_succ, decide_true, decide_false, cond_true, cond_false, Bool.false_eq_true, if_true, if_false, ite_true, ite_false, h30, Int32.not_lt.mpr h30]; rfl)) rfl rfl ?_
        exact ih9 _
      · refine tg_steps 6 rfl ?_
        refine tg_pkV [0, 1, 2, 3, 4, 5] ?_
        refine tg_eqS (L2 := [(0, .ref 25), (1, .ref 1), (2, .int one), (3, .int (mnQ (fun _ => true) (fun i => soA n one (nI i)) 0 61 (i + 1)).1), (4, .int (mnQ (fun _ => true) (fun i => soA n one (nI i)) 0 61 (i + 1)).2), (5, .int (nI (i + 1)))]) (st2 := []) (w2 := _) (by first | rfl | (simp (decide := true) only [nI_succ, mnQ_succ, decide_true, decide_false, cond_true, cond_false, Bool.false_eq_true, if_true, if_false, ite_true, ite_false, h30, Int32.not_le.mp h30]; done) | (simp (decide := true) only [nI_succ, mnQ_succ, decide_true, decide_false, cond_true, cond_false, Bool.false_eq_true, if_true, if_false, ite_true, ite_false, h30, Int32.not_le.mp h30]; rfl)) rfl rfl ?_
        exact ih9 _
set_option maxRecDepth 100000 in
set_option maxHeartbeats 2000000 in
theorem c_worthOf {G : tg_G} {n p h : tp_H} {x : tp_X} {r : List tg_Cl} (hm : hM h ≤ 7) (one : Int32) : tg_C G 4 mX4_worthOf 0 0 [.ref 25, .int one] (tp_cs n p h x, r) (fun v w => v = some (.int (woH h one)) ∧ w = (tp_cs n p h x, r)) := by
  refine tg_intro okX4_worthOf (Nat.le_of_ble_eq_true rfl) ?_
  refine tg_steps 2 rfl ?_
  refine tg_callV rfl (c_aboardMany_2 hm) rfl rfl rfl rfl rfl (fun v4 w4 q4 => ?_)
  obtain ⟨rfl, rfl⟩ := q4
  refine tg_steps 4 rfl ?_
  refine tg_callV rfl (c_isAboard_2 hm one) rfl rfl rfl rfl rfl (fun v13 w13 q13 => ?_)
  obtain ⟨rfl, rfl⟩ := q13
  refine tg_ifbeq rfl rfl (fun h16 => ?_) (fun h16 => ?_)
  · refine tg_steps 3 rfl ?_
    exact tg_iret (st := []) rfl rfl ⟨Nat.le_of_ble_eq_true rfl, Nat.le_of_ble_eq_true rfl⟩ ⟨by first | (simp (decide := true) only [woH, decide_true, decide_false, cond_true, cond_false, Bool.false_eq_true, if_true, if_false, ite_true, ite_false, h16]; done) | (simp (decide := true) only [woH, decide_true, decide_false, cond_true, cond_false, Bool.false_eq_true, if_true, if_false, ite_true, ite_false, h16]; rfl), rfl⟩
  · refine tg_steps 8 rfl ?_
    exact tg_iret (st := []) rfl rfl ⟨Nat.le_of_ble_eq_true rfl, Nat.le_of_ble_eq_true rfl⟩ ⟨by first | (simp (decide := true) only [woH, decide_true, decide_false, cond_true, cond_false, Bool.false_eq_true, if_true, if_false, ite_true, ite_false, h16]; done) | (simp (decide := true) only [woH, decide_true, decide_false, cond_true, cond_false, Bool.false_eq_true, if_true, if_false, ite_true, ite_false, h16]; rfl), rfl⟩
theorem w_pair (x : tp_X) (A B A' B' : tp_A) : yOh (yFh (yOh (yFh x A) B) A') B' = yOh (yFh x A') B' := rfl
theorem w_SeSe (x : tp_X) (a b : Int32) : ySe (ySe x a) b = ySe x b := rfl
/-- behind the choice of pair i: the rest of its walk -/
theorem prS_00 {h : tp_H} {a b : Int32} {k i : Nat} (h1 : nI i &&& 2 = 0) (h2 : nI i &&& 1 = 0) : prS h a b k i = pinH (pinH h a (nI k)) b (nI k) := by unfold prS; simp only [h1, h2, if_true]
theorem prS_01 {h : tp_H} {a b : Int32} {k i : Nat} (h1 : nI i &&& 2 = 0) (h2 : ¬ nI i &&& 1 = 0) : prS h a b k i = pinH h a (nI k) := by unfold prS; simp only [h1, h2, if_true, if_false]
theorem prS_10 {h : tp_H} {a b : Int32} {k i : Nat} (h1 : ¬ nI i &&& 2 = 0) (h2 : nI i &&& 1 = 0) : prS h a b k i = pinH h b (nI k) := by unfold prS; simp only [h1, h2, if_true, if_false]
theorem prS_11 {h : tp_H} {a b : Int32} {k i : Nat} (h1 : ¬ nI i &&& 2 = 0) (h2 : ¬ nI i &&& 1 = 0) : prS h a b k i = h := by unfold prS; simp only [h1, h2, if_false]
set_option maxRecDepth 100000 in
set_option maxHeartbeats 2000000 in
theorem c_firstSettledPair {G : tg_G} {n p t : tp_H} {x : tp_X} {r : List tg_Cl} (hm : hM n ≤ 7) (a b : Int32) (k : Nat) (hk : k < 2 ^ 31) : tg_C G 6 mX4_firstSettledPair 0 0 [.ref 25, .ref 1, .int a, .int b, .int (nI k)] (tp_cs n p t x, r) (fun v w => v = some (.int (fiV (fsP n a b k) fsV (-9) 4 0)) ∧ ∃ t2 f2 g2, w = (tp_cs n p t2 (yOh (yFh x f2) g2), r)) := by
  refine tg_intro okX4_firstSettledPair (Nat.le_of_ble_eq_true rfl) ?_
  refine tg_steps 2 rfl ?_
  refine tg_pkV [0, 1, 2, 3, 4, 5] ?_
  refine tg_eqS (L2 := [(0, .ref 25), (1, .ref 1), (2, .int a), (3, .int b), (4, .int (nI k)), (5, .int (nI (0)))]) (st2 := []) (w2 := (tp_cs n p t (yOh (yFh x (mix (0) (xFh x) (wAB n a b a k))) (mix (0) (xOh x) (wAB n a b b k))), r)) rfl rfl rfl ?_
  refine tg_down (φ := fun i : Nat => ∀ (t2 : tp_H), tg_V G 6 mX4_firstSettledPair 0 0 0 0 (fun v w => v = some (.int (fiV (fsP n a b k) fsV (-9) 4 0)) ∧ ∃ t2 f2 g2, w = (tp_cs n p t2 (yOh (yFh x f2) g2), r)) 3 [(0, .ref 25), (1, .ref 1), (2, .int a), (3, .int b), (4, .int (nI k)), (5, .int (nI (i)))] [] (tp_cs n p t2 (yOh (yFh x (mix (i) (xFh x) (wAB n a b a k))) (mix (i) (xOh x) (wAB n a b b k))), r)) (n := 4) ?_ ?_ 0 (Nat.zero_le _) _ 
  · intro t2
    refine tg_steps 2 rfl ?_
    refine tg_icge rfl rfl (fun h6 => ?_) (fun h6 => ?_)
    · refine tg_steps 2 rfl ?_
      refine tg_pkV [0, 1, 2, 3, 4, 5] ?_
      refine tg_eqS (L2 := [(0, .ref 25), (1, .ref 1), (2, .int a), (3, .int b), (4, .int (nI k)), (5, .int (nI (0)))]) (st2 := []) (w2 := (tp_cs n p t2 (yOh (yFh x (mix (4) (xFh x) (wAB n a b a k))) (mix (4) (xOh x) (wAB n a b b k))), r)) rfl rfl rfl ?_
      refine tg_down (φ := fun i : Nat => (fiV (fsP n a b k) fsV (-9) 4 0 = fiV (fsP n a b k) fsV (-9) (4 - (i)) (i)) → tg_V G 6 mX4_firstSettledPair 0 0 0 0 (fun v w => v = some (.int (fiV (fsP n a b k) fsV (-9) 4 0)) ∧ ∃ t2 f2 g2, w = (tp_cs n p t2 (yOh (yFh x f2) g2), r)) 93 [(0, .ref 25), (1, .ref 1), (2, .int a), (3, .int b), (4, .int (nI k)), (5, .int (nI (i)))] [] (tp_cs n p t2 (yOh (yFh x (mix (4) (xFh x) (wAB n a b a k))) (mix (4) (xOh x) (wAB n a b b k))), r)) (n := 4) ?_ ?_ 0 (Nat.zero_le _) (rfl)
      · intro hinv93
        refine tg_steps 2 rfl ?_
        refine tg_icge rfl rfl (fun h96 => ?_) (fun h96 => ?_)
        · refine tg_steps 1 rfl ?_
          exact tg_iret (st := []) rfl rfl ⟨Nat.le_of_ble_eq_true rfl, Nat.le_of_ble_eq_true rfl⟩ ⟨by rw [hinv93]; rfl, _, _, _, rfl⟩
        · exact absurd (by decide) h96
      · intro i hi93 ih93 hinv93
        rw [show 4 - i = 4 - (i + 1) + 1 by omega, fiV_succ _ _ _ (4 - (i + 1)) i] at hinv93
        refine tg_steps 2 rfl ?_
        refine tg_icge rfl rfl (fun h96 => ?_) (fun h96 => ?_)
        · exact absurd h96 (nI_ge (b := 4) hi93 (by decide))
        · refine tg_steps 5 rfl ?_
          refine tg_ialdN rfl rfl (i ^^^ 2) (xor4 i hi93).1 (xor4 i hi93).2.2.1 (by decide) ?_
          refine tg_steps 3 rfl ?_
          refine tg_ialdN rfl rfl (i) rfl (by omega) (by decide) ?_
          rw [show xFh (yOh (yFh x (mix (4) (xFh x) (wAB n a b a k))) (mix (4) (xOh x) (wAB n a b b k))) = mix 4 (xFh x) (wAB n a b a k) from rfl, mix_lt _ _ (xor4 i hi93).2.2.1, mix_lt _ _ hi93]
          refine tg_icgt rfl rfl (fun h115 => ?_) (fun h115 => ?_)
          · refine tg_steps 2 rfl ?_
            refine tg_pkV [0, 1, 2, 3, 4, 5] ?_
            refine tg_eqS (L2 := [(0, .ref 25), (1, .ref 1), (2, .int a), (3, .int b), (4, .int (nI k)), (5, .int (nI (i + 1)))]) (st2 := []) (w2 := (tp_cs n p t2 (yOh (yFh x (mix (4) (xFh x) (wAB n a b a k))) (mix (4) (xOh x) (wAB n a b b k))), r)) (by first | rfl | (simp (decide := true) only [nI_succ, decide_true, decide_false, cond_true, cond_false, Bool.false_eq_true, if_true, if_false, ite_true, ite_false, h115, Int32.not_le.mpr h115]; done) | (simp (decide := true) only [nI_succ, decide_true, decide_false, cond_true, cond_false, Bool.false_eq_true, if_true, if_false, ite_true, ite_false, h115, Int32.not_le.mpr h115]; rfl)) rfl (by first | rfl | (simp (decide := true) only [nI_succ, decide_true, decide_false, cond_true, cond_false, Bool.false_eq_true, if_true, if_false, ite_true, ite_false, h115, Int32.not_le.mpr h115]; done) | (simp (decide := true) only [nI_succ, decide_true, decide_false, cond_true, cond_false, Bool.false_eq_true, if_true, if_false, ite_true, ite_false, h115, Int32.not_le.mpr h115]; rfl)) ?_
            exact ih93 (by simp only [fsP, decide_true, decide_false, cond_true, cond_false, Bool.false_eq_true, if_true, if_false, ite_true, ite_false, h115, Int32.not_le.mpr h115] at hinv93; exact hinv93)
          · refine tg_steps 5 rfl ?_
            refine tg_ialdN rfl rfl (i ^^^ 1) (xor4 i hi93).2.1 (xor4 i hi93).2.2.2 (by decide) ?_
            refine tg_steps 3 rfl ?_
            refine tg_ialdN rfl rfl (i) rfl (by omega) (by decide) ?_
            rw [show xOh (yOh (yFh x (mix (4) (xFh x) (wAB n a b a k))) (mix (4) (xOh x) (wAB n a b b k))) = mix 4 (xOh x) (wAB n a b b k) from rfl, mix_lt _ _ (xor4 i hi93).2.2.2, mix_lt _ _ hi93]
            refine tg_icgt rfl rfl (fun h134 => ?_) (fun h134 => ?_)
            · refine tg_steps 2 rfl ?_
              refine tg_pkV [0, 1, 2, 3, 4, 5] ?_
              refine tg_eqS (L2 := [(0, .ref 25), (1, .ref 1), (2, .int a), (3, .int b), (4, .int (nI k)), (5, .int (nI (i + 1)))]) (st2 := []) (w2 := (tp_cs n p t2 (yOh (yFh x (mix (4) (xFh x) (wAB n a b a k))) (mix (4) (xOh x) (wAB n a b b k))), r)) (by first | rfl | (simp (decide := true) only [nI_succ, decide_true, decide_false, cond_true, cond_false, Bool.false_eq_true, if_true, if_false, ite_true, ite_false, h115, Int32.not_lt.mp h115, h134, Int32.not_le.mpr h134]; done) | (simp (decide := true) only [nI_succ, decide_true, decide_false, cond_true, cond_false, Bool.false_eq_true, if_true, if_false, ite_true, ite_false, h115, Int32.not_lt.mp h115, h134, Int32.not_le.mpr h134]; rfl)) rfl (by first | rfl | (simp (decide := true) only [nI_succ, decide_true, decide_false, cond_true, cond_false, Bool.false_eq_true, if_true, if_false, ite_true, ite_false, h115, Int32.not_lt.mp h115, h134, Int32.not_le.mpr h134]; done) | (simp (decide := true) only [nI_succ, decide_true, decide_false, cond_true, cond_false, Bool.false_eq_true, if_true, if_false, ite_true, ite_false, h115, Int32.not_lt.mp h115, h134, Int32.not_le.mpr h134]; rfl)) ?_
              exact ih93 (by simp only [fsP, decide_true, decide_false, cond_true, cond_false, Bool.false_eq_true, if_true, if_false, ite_true, ite_false, h115, Int32.not_lt.mp h115, h134, Int32.not_le.mpr h134] at hinv93; exact hinv93)
            · refine tg_steps 9 rfl ?_
              exact tg_iret (st := []) rfl rfl ⟨Nat.le_of_ble_eq_true rfl, Nat.le_of_ble_eq_true rfl⟩ ⟨by simp only [fsP, decide_true, decide_false, cond_true, cond_false, Bool.false_eq_true, if_true, if_false, ite_true, ite_false, h115, Int32.not_lt.mp h115, h134, Int32.not_lt.mp h134] at hinv93; rw [hinv93]; rfl, _, _, _, rfl⟩
    · exact absurd (by decide) h6
  · intro i hi3 ih3 t2
    refine tg_steps 2 rfl ?_
    refine tg_icge rfl rfl (fun h6 => ?_) (fun h6 => ?_)
    · exact absurd h6 (nI_ge (b := 4) hi3 (by decide))
    · refine tg_steps 3 rfl ?_
      refine tg_callV rfl (c_copyFrom_20 hm) rfl rfl rfl rfl rfl (fun v14 w14 q14 => ?_)
      obtain ⟨rfl, rfl⟩ := q14
      refine tg_steps 3 rfl ?_
      refine tg_ifne rfl rfl (fun h21 => ?_) (fun h21 => ?_)
      · refine tg_steps 3 rfl ?_
        refine tg_ifne rfl rfl (fun h38 => ?_) (fun h38 => ?_)
        · first | rw [← prS_00 (h := cpF t2 n) h21 h38] | rw [← prS_01 (h := cpF t2 n) h21 h38] | rw [← prS_10 (h := cpF t2 n) h21 h38] | rw [show cpF t2 n = prS (cpF t2 n) a b k i from (prS_11 h21 h38).symm]
          refine tg_steps 3 rfl ?_
          refine tg_callV rfl (c_passNights_2 (h := (prS (cpF t2 n) a b k i)) (by rw [prS_M]; exact hm) k hk) rfl rfl rfl rfl rfl (fun v57 w57 q57 => ?_)
          obtain ⟨rfl, rfl⟩ := q57
          refine tg_steps 5 rfl ?_
          refine tg_callV rfl (c_worthOf (pm7 (n := (prS (cpF t2 n) a b k i)) (by rw [prS_M]; exact hm) k) a) rfl rfl rfl rfl rfl (fun v68 w68 q68 => ?_)
          obtain ⟨rfl, rfl⟩ := q68
          rw [wAB_eq hm]
          refine tg_iastN rfl rfl (i) rfl (by omega) (by decide) ?_
          refine tg_eqW (w_Fh _) ?_
          refine tg_steps 5 rfl ?_
          refine tg_callV rfl (c_worthOf (pm7 (n := (prS (cpF t2 n) a b k i)) (by rw [prS_M]; exact hm) k) b) rfl rfl rfl rfl rfl (fun v80 w80 q80 => ?_)
          obtain ⟨rfl, rfl⟩ := q80
          rw [wAB_eq hm]
          refine tg_iastN rfl rfl (i) rfl (by omega) (by decide) ?_
          refine tg_eqW (w_Oh _) ?_
          refine tg_steps 2 rfl ?_
          refine tg_pkV [0, 1, 2, 3, 4, 5] ?_
          refine tg_eqS (L2 := [(0, .ref 25), (1, .ref 1), (2, .int a), (3, .int b), (4, .int (nI k)), (5, .int (nI (i + 1)))]) (st2 := []) (w2 := (tp_cs n p _ (yOh (yFh x (mix (i + 1) (xFh x) (wAB n a b a k))) (mix (i + 1) (xOh x) (wAB n a b b k))), r)) (by first | rfl | (simp (decide := true) only [nI_succ, decide_true, decide_false, cond_true, cond_false, Bool.false_eq_true, if_true, if_false, ite_true, ite_false, h21, h38]; done) | (simp (decide := true) only [nI_succ, decide_true, decide_false, cond_true, cond_false, Bool.false_eq_true, if_true, if_false, ite_true, ite_false, h21, h38]; rfl)) rfl (by simp only [e_FhOh, e_FhFh, e_OhFh, e_OhOh, w_pair, mix_succ]; rfl) ?_
          exact ih3 _
        · refine tg_steps 4 rfl ?_
          refine tg_callV rfl (c_pinWhereHeIs_2 (by exact hm) b (nI k)) rfl rfl rfl rfl rfl (fun v48 w48 q48 => ?_)
          obtain ⟨rfl, rfl⟩ := q48
          first | rw [← prS_00 (h := cpF t2 n) h21 h38] | rw [← prS_01 (h := cpF t2 n) h21 h38] | rw [← prS_10 (h := cpF t2 n) h21 h38] | rw [show cpF t2 n = prS (cpF t2 n) a b k i from (prS_11 h21 h38).symm]
          refine tg_steps 3 rfl ?_
          refine tg_callV rfl (c_passNights_2 (h := (prS (cpF t2 n) a b k i)) (by rw [prS_M]; exact hm) k hk) rfl rfl rfl rfl rfl (fun v57 w57 q57 => ?_)
          obtain ⟨rfl, rfl⟩ := q57
          refine tg_steps 5 rfl ?_
          refine tg_callV rfl (c_worthOf (pm7 (n := (prS (cpF t2 n) a b k i)) (by rw [prS_M]; exact hm) k) a) rfl rfl rfl rfl rfl (fun v68 w68 q68 => ?_)
          obtain ⟨rfl, rfl⟩ := q68
          rw [wAB_eq hm]
          refine tg_iastN rfl rfl (i) rfl (by omega) (by decide) ?_
          refine tg_eqW (w_Fh _) ?_
          refine tg_steps 5 rfl ?_
          refine tg_callV rfl (c_worthOf (pm7 (n := (prS (cpF t2 n) a b k i)) (by rw [prS_M]; exact hm) k) b) rfl rfl rfl rfl rfl (fun v80 w80 q80 => ?_)
          obtain ⟨rfl, rfl⟩ := q80
          rw [wAB_eq hm]
          refine tg_iastN rfl rfl (i) rfl (by omega) (by decide) ?_
          refine tg_eqW (w_Oh _) ?_
          refine tg_steps 2 rfl ?_
          refine tg_pkV [0, 1, 2, 3, 4, 5] ?_
          refine tg_eqS (L2 := [(0, .ref 25), (1, .ref 1), (2, .int a), (3, .int b), (4, .int (nI k)), (5, .int (nI (i + 1)))]) (st2 := []) (w2 := (tp_cs n p _ (yOh (yFh x (mix (i + 1) (xFh x) (wAB n a b a k))) (mix (i + 1) (xOh x) (wAB n a b b k))), r)) (by first | rfl | (simp (decide := true) only [nI_succ, decide_true, decide_false, cond_true, cond_false, Bool.false_eq_true, if_true, if_false, ite_true, ite_false, h21, eq_true h38]; done) | (simp (decide := true) only [nI_succ, decide_true, decide_false, cond_true, cond_false, Bool.false_eq_true, if_true, if_false, ite_true, ite_false, h21, eq_true h38]; rfl)) rfl (by simp only [e_FhOh, e_FhFh, e_OhFh, e_OhOh, w_pair, mix_succ]; rfl) ?_
          exact ih3 _
      · refine tg_steps 4 rfl ?_
        refine tg_callV rfl (c_pinWhereHeIs_2 (h := cpF t2 n) hm a (nI k)) rfl rfl rfl rfl rfl (fun v31 w31 q31 => ?_)
        obtain ⟨rfl, rfl⟩ := q31
        refine tg_steps 3 rfl ?_
        refine tg_ifne rfl rfl (fun h38 => ?_) (fun h38 => ?_)
        · first | rw [← prS_00 (h := cpF t2 n) h21 h38] | rw [← prS_01 (h := cpF t2 n) h21 h38] | rw [← prS_10 (h := cpF t2 n) h21 h38] | rw [show cpF t2 n = prS (cpF t2 n) a b k i from (prS_11 h21 h38).symm]
          refine tg_steps 3 rfl ?_
          refine tg_callV rfl (c_passNights_2 (h := (prS (cpF t2 n) a b k i)) (by rw [prS_M]; exact hm) k hk) rfl rfl rfl rfl rfl (fun v57 w57 q57 => ?_)
          obtain ⟨rfl, rfl⟩ := q57
          refine tg_steps 5 rfl ?_
          refine tg_callV rfl (c_worthOf (pm7 (n := (prS (cpF t2 n) a b k i)) (by rw [prS_M]; exact hm) k) a) rfl rfl rfl rfl rfl (fun v68 w68 q68 => ?_)
          obtain ⟨rfl, rfl⟩ := q68
          rw [wAB_eq hm]
          refine tg_iastN rfl rfl (i) rfl (by omega) (by decide) ?_
          refine tg_eqW (w_Fh _) ?_
          refine tg_steps 5 rfl ?_
          refine tg_callV rfl (c_worthOf (pm7 (n := (prS (cpF t2 n) a b k i)) (by rw [prS_M]; exact hm) k) b) rfl rfl rfl rfl rfl (fun v80 w80 q80 => ?_)
          obtain ⟨rfl, rfl⟩ := q80
          rw [wAB_eq hm]
          refine tg_iastN rfl rfl (i) rfl (by omega) (by decide) ?_
          refine tg_eqW (w_Oh _) ?_
          refine tg_steps 2 rfl ?_
          refine tg_pkV [0, 1, 2, 3, 4, 5] ?_
          refine tg_eqS (L2 := [(0, .ref 25), (1, .ref 1), (2, .int a), (3, .int b), (4, .int (nI k)), (5, .int (nI (i + 1)))]) (st2 := []) (w2 := (tp_cs n p _ (yOh (yFh x (mix (i + 1) (xFh x) (wAB n a b a k))) (mix (i + 1) (xOh x) (wAB n a b b k))), r)) (by first | rfl | (simp (decide := true) only [nI_succ, decide_true, decide_false, cond_true, cond_false, Bool.false_eq_true, if_true, if_false, ite_true, ite_false, eq_true h21, h38]; done) | (simp (decide := true) only [nI_succ, decide_true, decide_false, cond_true, cond_false, Bool.false_eq_true, if_true, if_false, ite_true, ite_false, eq_true h21, h38]; rfl)) rfl (by simp only [e_FhOh, e_FhFh, e_OhFh, e_OhOh, w_pair, mix_succ]; rfl) ?_
          exact ih3 _
        · refine tg_steps 4 rfl ?_
          refine tg_callV rfl (c_pinWhereHeIs_2 (by exact hm) b (nI k)) rfl rfl rfl rfl rfl (fun v48 w48 q48 => ?_)
          obtain ⟨rfl, rfl⟩ := q48
          first | rw [← prS_00 (h := cpF t2 n) h21 h38] | rw [← prS_01 (h := cpF t2 n) h21 h38] | rw [← prS_10 (h := cpF t2 n) h21 h38] | rw [show cpF t2 n = prS (cpF t2 n) a b k i from (prS_11 h21 h38).symm]
          refine tg_steps 3 rfl ?_
          refine tg_callV rfl (c_passNights_2 (h := (prS (cpF t2 n) a b k i)) (by rw [prS_M]; exact hm) k hk) rfl rfl rfl rfl rfl (fun v57 w57 q57 => ?_)
          obtain ⟨rfl, rfl⟩ := q57
          refine tg_steps 5 rfl ?_
          refine tg_callV rfl (c_worthOf (pm7 (n := (prS (cpF t2 n) a b k i)) (by rw [prS_M]; exact hm) k) a) rfl rfl rfl rfl rfl (fun v68 w68 q68 => ?_)
          obtain ⟨rfl, rfl⟩ := q68
          rw [wAB_eq hm]
          refine tg_iastN rfl rfl (i) rfl (by omega) (by decide) ?_
          refine tg_eqW (w_Fh _) ?_
          refine tg_steps 5 rfl ?_
          refine tg_callV rfl (c_worthOf (pm7 (n := (prS (cpF t2 n) a b k i)) (by rw [prS_M]; exact hm) k) b) rfl rfl rfl rfl rfl (fun v80 w80 q80 => ?_)
          obtain ⟨rfl, rfl⟩ := q80
          rw [wAB_eq hm]
          refine tg_iastN rfl rfl (i) rfl (by omega) (by decide) ?_
          refine tg_eqW (w_Oh _) ?_
          refine tg_steps 2 rfl ?_
          refine tg_pkV [0, 1, 2, 3, 4, 5] ?_
          refine tg_eqS (L2 := [(0, .ref 25), (1, .ref 1), (2, .int a), (3, .int b), (4, .int (nI k)), (5, .int (nI (i + 1)))]) (st2 := []) (w2 := (tp_cs n p _ (yOh (yFh x (mix (i + 1) (xFh x) (wAB n a b a k))) (mix (i + 1) (xOh x) (wAB n a b b k))), r)) (by first | rfl | (simp (decide := true) only [nI_succ, decide_true, decide_false, cond_true, cond_false, Bool.false_eq_true, if_true, if_false, ite_true, ite_false, eq_true h21, eq_true h38]; done) | (simp (decide := true) only [nI_succ, decide_true, decide_false, cond_true, cond_false, Bool.false_eq_true, if_true, if_false, ite_true, ite_false, eq_true h21, eq_true h38]; rfl)) rfl (by simp only [e_FhOh, e_FhFh, e_OhFh, e_OhOh, w_pair, mix_succ]; rfl) ?_
          exact ih3 _
set_option maxRecDepth 100000 in
set_option maxHeartbeats 2000000 in
theorem c_coalsAbove {G : tg_G} {n p t : tp_H} {x : tp_X} {r : List tg_Cl} (hm : hM n ≤ 7) (one : Int32) (k : Nat) (hk : k ≤ 7) (td : Int32) : tg_C G 5 mX4_coalsAbove 0 0 [.ref 25, .ref 1, .int one, .int (nI k), .int td] (tp_cs n p t x, r) (fun v w => v = some (.long (coA n one k td (2 ^ k))) ∧ ∃ t2, w = (tp_cs n p t2 x, r)) := by
  refine tg_intro okX4_coalsAbove (Nat.le_of_ble_eq_true rfl) ?_
  refine tg_steps 4 rfl ?_
  refine tg_pkV [0, 1, 2, 3, 4, 5, 7] ?_
  refine tg_eqS (L2 := [(0, .ref 25), (1, .ref 1), (2, .int one), (3, .int (nI k)), (4, .int td), (5, .long (coA n one k td (0))), (7, .int (nI (0)))]) (st2 := []) (w2 := _) rfl rfl rfl ?_
  refine tg_down (φ := fun i : Nat => ∀ (t2 : tp_H), tg_V G 5 mX4_coalsAbove 0 0 0 0 (fun v w => v = some (.long (coA n one k td (2 ^ k))) ∧ ∃ t2, w = (tp_cs n p t2 x, r)) 6 [(0, .ref 25), (1, .ref 1), (2, .int one), (3, .int (nI k)), (4, .int td), (5, .long (coA n one k td (i))), (7, .int (nI (i)))] [] (tp_cs n p t2 x, r)) (n := 2 ^ k) ?_ ?_ 0 (Nat.zero_le _) _ 
  · intro t2
    refine tg_steps 4 rfl ?_
    rw [(shl7 _ hk).1]
    refine tg_icge rfl rfl (fun h11 => ?_) (fun h11 => ?_)
    · refine tg_steps 1 rfl ?_
      exact tg_lret (st := []) rfl rfl ⟨Nat.le_of_ble_eq_true rfl, Nat.le_of_ble_eq_true rfl⟩ ⟨rfl, _, rfl⟩
    · exact absurd (nI_le (Nat.le_refl _) (by have := (shl7 _ hk).2; omega)) h11
  · intro i hi6 ih6 t2
    refine tg_steps 4 rfl ?_
    rw [(shl7 _ hk).1]
    refine tg_icge rfl rfl (fun h11 => ?_) (fun h11 => ?_)
    · exact absurd h11 (nI_ge hi6 (by have := (shl7 _ hk).2; omega))
    · refine tg_steps 3 rfl ?_
      refine tg_callV rfl (c_copyFrom_20 hm) rfl rfl rfl rfl rfl (fun v19 w19 q19 => ?_)
      obtain ⟨rfl, rfl⟩ := q19
      refine tg_steps 2 rfl ?_
      refine tg_pkV [0, 1, 2, 3, 4, 5, 7, 8] ?_
      refine tg_eqS (L2 := [(0, .ref 25), (1, .ref 1), (2, .int one), (3, .int (nI k)), (4, .int td), (5, .long (coA n one k td i)), (7, .int (nI i)), (8, .int (nI (0)))]) (st2 := []) (w2 := (tp_cs n p (coN n (nI i) (cpF t2 n) (0)) x, r)) rfl rfl rfl ?_
      refine tg_down (φ := fun j : Nat => tg_V G 5 mX4_coalsAbove 0 0 0 0 (fun v w => v = some (.long (coA n one k td (2 ^ k))) ∧ ∃ t2, w = (tp_cs n p t2 x, r)) 25 [(0, .ref 25), (1, .ref 1), (2, .int one), (3, .int (nI k)), (4, .int td), (5, .long (coA n one k td i)), (7, .int (nI i)), (8, .int (nI (j)))] [] (tp_cs n p (coN n (nI i) (cpF t2 n) (j)) x, r)) (n := k) ?_ ?_ 0 (Nat.zero_le _) 
      · refine tg_steps 2 rfl ?_
        refine tg_icge rfl rfl (fun h28 => ?_) (fun h28 => ?_)
        · refine tg_steps 3 rfl ?_
          refine tg_callV rfl (c_isAboard_2 (h := coN n (nI i) (cpF t2 n) (k)) (by rw [coN_M]; exact hm) one) rfl rfl rfl rfl rfl (fun v74 w74 q74 => ?_)
          obtain ⟨rfl, rfl⟩ := q74
          rw [eq_abB (a := coN n (nI i) (cpF t2 n) (k)) (b := coN n (nI i) n k) (by rw [coN_M]; exact hm) (eq_coN (a := cpF t2 n) hm (eq_cpF t2 n) n (nI i) k) one]
          refine tg_ifbeq rfl rfl (fun h77 => ?_) (fun h77 => ?_)
          · refine tg_steps 2 rfl ?_
            refine tg_pkV [0, 1, 2, 3, 4, 5, 7] ?_
            refine tg_eqS (L2 := [(0, .ref 25), (1, .ref 1), (2, .int one), (3, .int (nI k)), (4, .int td), (5, .long (coA n one k td (i + 1))), (7, .int (nI (i + 1)))]) (st2 := []) (w2 := _) (by first | rfl | (simp (decide := true) only [nI_succ, coA_succ, decide_true, decide_false, cond_true, cond_false, Bool.false_eq_true, if_true, if_false, ite_true, ite_false, h77]; done) | (simp (decide := true) only [nI_succ, coA_succ, decide_true, decide_false, cond_true, cond_false, Bool.false_eq_true, if_true, if_false, ite_true, ite_false, h77]; rfl)) rfl rfl ?_
            exact ih6 _
          · refine tg_steps 6 rfl ?_
            refine tg_call1 rfl (c_bitCount _) rfl rfl rfl  (fun v89 w89 q89 => ?_)
            obtain ⟨rfl, rfl⟩ := q89
            refine tg_steps 1 rfl ?_
            rw [bc7 k hk i hi6]
            refine tg_call4 rfl (c_power (td - 1) (k - (bcJ (nI i)).toNatClampNeg) (by omega)) rfl rfl rfl  (fun v93 w93 q93 => ?_)
            obtain ⟨rfl, rfl⟩ := q93
            refine tg_steps 4 rfl ?_
            refine tg_pkV [0, 1, 2, 3, 4, 5, 7] ?_
            refine tg_eqS (L2 := [(0, .ref 25), (1, .ref 1), (2, .int one), (3, .int (nI k)), (4, .int td), (5, .long (coA n one k td (i + 1))), (7, .int (nI (i + 1)))]) (st2 := []) (w2 := _) (by first | rfl | (simp (decide := true) only [nI_succ, coA_succ, decide_true, decide_false, cond_true, cond_false, Bool.false_eq_true, if_true, if_false, ite_true, ite_false, h77]; done) | (simp (decide := true) only [nI_succ, coA_succ, decide_true, decide_false, cond_true, cond_false, Bool.false_eq_true, if_true, if_false, ite_true, ite_false, h77]; rfl)) rfl rfl ?_
            exact ih6 _
        · exact absurd (nI_le (Nat.le_refl _) (by omega)) h28
      · intro j hi25 ih25
        refine tg_steps 2 rfl ?_
        refine tg_icge rfl rfl (fun h28 => ?_) (fun h28 => ?_)
        · exact absurd h28 (nI_ge hi25 (by omega))
        · refine tg_steps 14 rfl ?_
          refine tg_eqW (w2 := (tp_cs n p (sC (coN n (nI i) (cpF t2 n) (j)) (coC n (nI i) j)) x, r)) rfl ?_
          refine tg_steps 2 rfl ?_
          refine tg_callV rfl (c_passNight_2 (h := sC (coN n (nI i) (cpF t2 n) (j)) (coC n (nI i) j)) (by show hM (coN n (nI i) (cpF t2 n) j) ≤ 7; rw [coN_M]; exact hm)) rfl rfl rfl rfl rfl (fun v59 w59 q59 => ?_)
          obtain ⟨rfl, rfl⟩ := q59
          refine tg_steps 3 rfl ?_
          refine tg_pkV [0, 1, 2, 3, 4, 5, 7, 8] ?_
          refine tg_eqS (L2 := [(0, .ref 25), (1, .ref 1), (2, .int one), (3, .int (nI k)), (4, .int td), (5, .long (coA n one k td i)), (7, .int (nI i)), (8, .int (nI (j + 1)))]) (st2 := []) (w2 := (tp_cs n p (coN n (nI i) (cpF t2 n) (j + 1)) x, r)) (by first | rfl | (simp (decide := true) only [nI_succ, coN_succ, decide_true, decide_false, cond_true, cond_false, Bool.false_eq_true, if_true, if_false, ite_true, ite_false]; done) | (simp (decide := true) only [nI_succ, coN_succ, decide_true, decide_false, cond_true, cond_false, Bool.false_eq_true, if_true, if_false, ite_true, ite_false]; rfl)) rfl (by first | rfl | (simp (decide := true) only [nI_succ, coN_succ, decide_true, decide_false, cond_true, cond_false, Bool.false_eq_true, if_true, if_false, ite_true, ite_false]; done) | (simp (decide := true) only [nI_succ, coN_succ, decide_true, decide_false, cond_true, cond_false, Bool.false_eq_true, if_true, if_false, ite_true, ite_false]; rfl)) ?_
          exact ih25
set_option maxRecDepth 100000 in
set_option maxHeartbeats 2000000 in
theorem c_winters {G : tg_G} {n p t : tp_H} {x : tp_X} {r : List tg_Cl} (hm : hM n ≤ 7) (k : Nat) (hk : k < 2 ^ 31) (z what : Int32) : tg_C G 6 mX4_winters 0 0 [.ref 25, .ref 1, .int (nI k), .int z, .int what] (tp_cs n p t x, r) (fun v w => v = some (.int (wiO n z what k).2) ∧ ∃ t2 z2, w = (tp_cs n p t2 (ySe x z2), r)) := by
  refine tg_intro okX4_winters (Nat.le_of_ble_eq_true rfl) ?_
  refine tg_steps 5 rfl ?_
  refine tg_eqW (w_Se z) ?_
  refine tg_steps 2 rfl ?_
  refine tg_pkV [0, 1, 2, 3, 4, 5, 6] ?_
  refine tg_eqS (L2 := [(0, .ref 25), (1, .ref 1), (2, .int (nI k)), (3, .int z), (4, .int what), (5, .int (wiO n z what (0)).2), (6, .int (nI (0)))]) (st2 := []) (w2 := (tp_cs n p t (ySe x (wiO n z what (0)).1), r)) rfl rfl rfl ?_
  refine tg_down (φ := fun i : Nat => ∀ (t2 : tp_H), tg_V G 6 mX4_winters 0 0 0 0 (fun v w => v = some (.int (wiO n z what k).2) ∧ ∃ t2 z2, w = (tp_cs n p t2 (ySe x z2), r)) 11 [(0, .ref 25), (1, .ref 1), (2, .int (nI k)), (3, .int z), (4, .int what), (5, .int (wiO n z what (i)).2), (6, .int (nI (i)))] [] (tp_cs n p t2 (ySe x (wiO n z what (i)).1), r)) (n := k) ?_ ?_ 0 (Nat.zero_le _) _ 
  · intro t2
    refine tg_steps 2 rfl ?_
    refine tg_icge rfl rfl (fun h14 => ?_) (fun h14 => ?_)
    · refine tg_steps 1 rfl ?_
      exact tg_iret (st := []) rfl rfl ⟨Nat.le_of_ble_eq_true rfl, Nat.le_of_ble_eq_true rfl⟩ ⟨rfl, _, _, rfl⟩
    · exact absurd (nI_le (Nat.le_refl _) (by omega)) h14
  · intro i hi11 ih11 t2
    refine tg_steps 2 rfl ?_
    refine tg_icge rfl rfl (fun h14 => ?_) (fun h14 => ?_)
    · exact absurd h14 (nI_ge hi11 (by omega))
    · refine tg_steps 3 rfl ?_
      refine tg_callV rfl (c_copyFrom_20 hm) rfl rfl rfl rfl rfl (fun v22 w22 q22 => ?_)
      obtain ⟨rfl, rfl⟩ := q22
      refine tg_steps 2 rfl ?_
      refine tg_pkV [0, 1, 2, 3, 4, 5, 6, 7] ?_
      refine tg_eqS (L2 := [(0, .ref 25), (1, .ref 1), (2, .int (nI k)), (3, .int z), (4, .int what), (5, .int (wiO n z what i).2), (6, .int (nI i)), (7, .int (nI (0)))]) (st2 := []) (w2 := (tp_cs n p (wiS (wiO n z what i).1 (cpF t2 n) (0)).2 (ySe x (wiS (wiO n z what i).1 (cpF t2 n) (0)).1), r)) rfl rfl rfl ?_
      refine tg_down (φ := fun j : Nat => tg_V G 6 mX4_winters 0 0 0 0 (fun v w => v = some (.int (wiO n z what k).2) ∧ ∃ t2 z2, w = (tp_cs n p t2 (ySe x z2), r)) 28 [(0, .ref 25), (1, .ref 1), (2, .int (nI k)), (3, .int z), (4, .int what), (5, .int (wiO n z what i).2), (6, .int (nI i)), (7, .int (nI (j)))] [] (tp_cs n p (wiS (wiO n z what i).1 (cpF t2 n) (j)).2 (ySe x (wiS (wiO n z what i).1 (cpF t2 n) (j)).1), r)) (n := hM n) ?_ ?_ 0 (Nat.zero_le _) 
      · refine tg_steps 4 rfl ?_
        refine tg_icge rfl rfl (fun h37 => ?_) (fun h37 => ?_)
        · refine tg_steps 3 rfl ?_
          refine tg_callV rfl (c_passNights_2 (h := (wiS (wiO n z what i).1 (cpF t2 n) (hM n)).2) (by rw [wiS_M]; exact hm) 10 (by decide)) rfl rfl rfl rfl rfl (fun v81 w81 q81 => ?_)
          obtain ⟨rfl, rfl⟩ := q81
          have ew := eq_wiS (a := cpF t2 n) (b := n) hm (eq_cpF t2 n) (wiO n z what i).1 (hM n)
          have e10 := eq_pNs (a := (wiS (wiO n z what i).1 (cpF t2 n) (hM n)).2) (by rw [wiS_M]; exact hm) ew.2 10
          rw [ew.1]
          refine tg_steps 2 rfl ?_
          refine tg_ifne rfl rfl (fun h88 => ?_) (fun h88 => ?_)
          · refine tg_steps 2 rfl ?_
            refine tg_callV rfl (c_homeMany_2 (pm7 (by rw [wiS_M]; exact hm) 10)) rfl rfl rfl rfl rfl (fun v105 w105 q105 => ?_)
            obtain ⟨rfl, rfl⟩ := q105
            rw [eq_hoM e10]
            refine tg_steps 4 rfl ?_
            refine tg_pkV [0, 1, 2, 3, 4, 5, 6] ?_
            refine tg_eqS (L2 := [(0, .ref 25), (1, .ref 1), (2, .int (nI k)), (3, .int z), (4, .int what), (5, .int (wiO n z what (i + 1)).2), (6, .int (nI (i + 1)))]) (st2 := []) (w2 := (tp_cs n p _ (ySe x (wiO n z what (i + 1)).1), r)) (by simp only [nI_succ, wiO_succ, wiV, wiE, decide_true, decide_false, cond_true, cond_false, Bool.false_eq_true, if_true, if_false, ite_true, ite_false, h88]; rfl) rfl (by simp only [wiO_succ]; rfl) ?_
            exact ih11 _
          · refine tg_steps 2 rfl ?_
            refine tg_callV rfl (c_aboardMany_2 (pm7 (by rw [wiS_M]; exact hm) 10)) rfl rfl rfl rfl rfl (fun v95 w95 q95 => ?_)
            obtain ⟨rfl, rfl⟩ := q95
            rw [ab_fold, eq_abM e10]
            refine tg_steps 5 rfl ?_
            refine tg_pkV [0, 1, 2, 3, 4, 5, 6] ?_
            refine tg_eqS (L2 := [(0, .ref 25), (1, .ref 1), (2, .int (nI k)), (3, .int z), (4, .int what), (5, .int (wiO n z what (i + 1)).2), (6, .int (nI (i + 1)))]) (st2 := []) (w2 := (tp_cs n p _ (ySe x (wiO n z what (i + 1)).1), r)) (by simp only [nI_succ, wiO_succ, wiV, wiE, decide_true, decide_false, cond_true, cond_false, Bool.false_eq_true, if_true, if_false, ite_true, ite_false, eq_true h88]; rfl) rfl (by simp only [wiO_succ]; rfl) ?_
            exact ih11 _
        · exact absurd (by rw [wiS_M]; exact nI_le (Nat.le_refl _) (by show hM n < _; omega)) h37
      · intro j hi28 ih28
        refine tg_steps 4 rfl ?_
        refine tg_icge rfl rfl (fun h37 => ?_) (fun h37 => ?_)
        · exact absurd h37 (by rw [wiS_M]; exact nI_ge hi28 (by show hM n < _; omega))
        · refine tg_steps 5 rfl ?_
          refine tg_callV rfl (c_draw 24) rfl rfl rfl rfl rfl (fun v49 w49 q49 => ?_)
          obtain ⟨rfl, rfl⟩ := q49
          rw [e_SeSe, w_SeSe]
          refine tg_callV rfl (c_put_2 (by rw [wiS_M]; exact hm) _ _) rfl rfl rfl rfl rfl (fun v52 w52 q52 => ?_)
          obtain ⟨rfl, rfl⟩ := q52
          refine tg_steps 5 rfl ?_
          refine tg_callV rfl (c_draw 3) rfl rfl rfl rfl rfl (fun v63 w63 q63 => ?_)
          obtain ⟨rfl, rfl⟩ := q63
          rw [e_SeSe, w_SeSe]
          refine tg_callV rfl (c_pinWhereHeIs_2 (h := putH (wiS (wiO n z what i).1 (cpF t2 n) (j)).2 (nI j) (drw 24 (nxS (wiS (wiO n z what i).1 (cpF t2 n) (j)).1))) (by show hM (wiS (wiO n z what i).1 (cpF t2 n) (j)).2 ≤ 7; rw [wiS_M]; exact hm) _ _) rfl rfl rfl rfl rfl (fun v66 w66 q66 => ?_)
          obtain ⟨rfl, rfl⟩ := q66
          refine tg_steps 2 rfl ?_
          refine tg_pkV [0, 1, 2, 3, 4, 5, 6, 7] ?_
          refine tg_eqS (L2 := [(0, .ref 25), (1, .ref 1), (2, .int (nI k)), (3, .int z), (4, .int what), (5, .int (wiO n z what i).2), (6, .int (nI i)), (7, .int (nI (j + 1)))]) (st2 := []) (w2 := (tp_cs n p (wiS (wiO n z what i).1 (cpF t2 n) (j + 1)).2 (ySe x (wiS (wiO n z what i).1 (cpF t2 n) (j + 1)).1), r)) (by first | rfl | (simp (decide := true) only [nI_succ, wiS_succ, decide_true, decide_false, cond_true, cond_false, Bool.false_eq_true, if_true, if_false, ite_true, ite_false]; done) | (simp (decide := true) only [nI_succ, wiS_succ, decide_true, decide_false, cond_true, cond_false, Bool.false_eq_true, if_true, if_false, ite_true, ite_false]; rfl)) rfl (by simp only [wiS_succ]) ?_
          exact ih28
