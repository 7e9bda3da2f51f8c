/-! the public methods of the reference, continued -/
set_option maxRecDepth 100000 in
set_option maxHeartbeats 2000000 in
theorem r_fewest {G : tg_G} {l : List tg_Cl} {h : tp_H} {y : tp_Y} (hw : wfH h) (k : Int32) : tg_C G 8 mX11_fewest 0 0 [.ref 64, .int k] (l, tm_cs h y) (pM l (wUp k 9) (.int (wUp k 9)) (.int (feS h (nN k) (2 ^ hM h))) h y (h) (y)) := by
  have hm := hw.1
  refine tg_intro okX11_fewest (Nat.le_of_ble_eq_true rfl) ?_
  refine tg_steps 3 rfl ?_
  refine tg_call1 rfl (m_bound _ _ _) rfl rfl rfl  (fun v4 w4 q4 => ?_)
  obtain ⟨rfl, rfl⟩ := q4
  refine tg_steps 2 rfl ?_
  refine tg_ifeq rfl rfl (fun h9 => ?_) (fun h9 => ?_)
  · have hu := bd_f h9
    obtain ⟨j, hj, rfl⟩ := up_j (k := k) (m := 9) rfl hu
    have cj : nN (nI j) = j := nI_clamp (by omega)
    refine tg_steps 4 rfl ?_
    refine tg_pkV [0, 1, 3, 4] ?_
    refine tg_eqS (L2 := [(0, .ref 64), (1, .int (nI j)), (3, .int (feS h j (0))), (4, .int (nI (0)))]) (st2 := []) (w2 := (l, tm_cs h y)) rfl rfl rfl ?_
    refine tg_down (φ := fun i : Nat => ∀ (y2 : tp_Y) (e2 : yk 39 y y2), tg_V G 8 mX11_fewest 0 0 0 0 (pM l (wUp (nI j) 9) (.int (wUp (nI j) 9)) (.int (feS h (nN (nI j)) (2 ^ hM h))) h y (h) (y)) 24 [(0, .ref 64), (1, .int (nI j)), (3, .int (feS h j (i))), (4, .int (nI (i)))] [] (l, tm_cs h y2)) (n := 2 ^ hM h) ?_ ?_ 0 (Nat.zero_le _) y (yk_rf 39 y) 
    · intro y2 e2
      refine tg_steps 5 rfl ?_
      rw [(shl7 _ hm).1]
      refine tg_icge rfl rfl (fun h32 => ?_) (fun h32 => ?_)
      · refine tg_steps 1 rfl ?_
        exact tg_iret (st := []) rfl rfl ⟨Nat.le_of_ble_eq_true rfl, Nat.le_of_ble_eq_true rfl⟩ (pM_ok (by first | (simp (decide := true) only [wUp, decide_true, decide_false, cond_true, cond_false, Bool.false_eq_true, if_true, if_false, ite_true, ite_false, hu]; done) | (simp (decide := true) only [wUp, decide_true, decide_false, cond_true, cond_false, Bool.false_eq_true, if_true, if_false, ite_true, ite_false, hu]; done) | (simp (decide := true) only [wUp, decide_true, decide_false, cond_true, cond_false, Bool.false_eq_true, if_true, if_false, ite_true, ite_false, hu]; rfl) | rfl) (by first | (simp (decide := true) only [cj, decide_true, decide_false, cond_true, cond_false, Bool.false_eq_true, if_true, if_false, ite_true, ite_false, hu]; done) | (simp (decide := true) only [cj, decide_true, decide_false, cond_true, cond_false, Bool.false_eq_true, if_true, if_false, ite_true, ite_false, hu]; done) | (simp (decide := true) only [cj, decide_true, decide_false, cond_true, cond_false, Bool.false_eq_true, if_true, if_false, ite_true, ite_false, hu]; rfl) | rfl) (e2))
      · exact absurd (nI_le (Nat.le_refl _) (by have := (shl7 _ hm).2; omega)) h32
    · intro i hi24 ih24 y2 e2
      refine tg_steps 5 rfl ?_
      rw [(shl7 _ hm).1]
      refine tg_icge rfl rfl (fun h32 => ?_) (fun h32 => ?_)
      · exact absurd h32 (nI_ge hi24 (by have := (shl7 _ hm).2; omega))
      · refine tg_steps 1 rfl ?_
        refine tg_iflt rfl rfl (fun h36 => ?_) (fun h36 => ?_)
        · refine tg_steps 3 rfl ?_
          refine tg_callV rfl (m_isEmptyBy (y := y2) hw _ j (by omega)) rfl rfl rfl rfl rfl (fun v58 w58 q58 => ?_)
          obtain ⟨rfl, y3, rfl, e3⟩ := q58
          refine tg_ifbeq rfl rfl (fun h61 => ?_) (fun h61 => ?_)
          · refine tg_steps 4 rfl ?_
            refine tg_pkV [0, 1, 3, 4] ?_
            refine tg_eqS (L2 := [(0, .ref 64), (1, .int (nI j)), (3, .int (feS h j (i + 1))), (4, .int (nI (i + 1)))]) (st2 := []) (w2 := _) (by first | (simp (decide := true) only [nI_succ, feS_succ, decide_true, decide_false, cond_true, cond_false, Bool.false_eq_true, if_true, if_false, ite_true, ite_false, hu, h36, Int32.not_le.mpr h36, h61]; done) | (simp (decide := true) only [nI_succ, feS_succ, decide_true, decide_false, cond_true, cond_false, Bool.false_eq_true, if_true, if_false, ite_true, ite_false, hu, h36, Int32.not_le.mpr h36, h61]; rfl) | rfl) rfl rfl ?_
            exact ih24 y3 (yk_tr e2 e3)
          · refine tg_steps 5 rfl ?_
            refine tg_pkV [0, 1, 3, 4] ?_
            refine tg_eqS (L2 := [(0, .ref 64), (1, .int (nI j)), (3, .int (feS h j (i + 1))), (4, .int (nI (i + 1)))]) (st2 := []) (w2 := _) (by first | (simp (decide := true) only [nI_succ, feS_succ, decide_true, decide_false, cond_true, cond_false, Bool.false_eq_true, if_true, if_false, ite_true, ite_false, hu, h36, Int32.not_le.mpr h36, h61]; done) | (simp (decide := true) only [nI_succ, feS_succ, decide_true, decide_false, cond_true, cond_false, Bool.false_eq_true, if_true, if_false, ite_true, ite_false, hu, h36, Int32.not_le.mpr h36, h61]; rfl) | rfl) rfl rfl ?_
            exact ih24 y3 (yk_tr e2 e3)
        · refine tg_steps 1 rfl ?_
          refine tg_call1 rfl (m_bits _) rfl rfl rfl  (fun v41 w41 q41 => ?_)
          obtain ⟨rfl, rfl⟩ := q41
          refine tg_steps 1 rfl ?_
          refine tg_call1 rfl (m_bits _) rfl rfl rfl  (fun v45 w45 q45 => ?_)
          obtain ⟨rfl, rfl⟩ := q45
          refine tg_iclt rfl rfl (fun h48 => ?_) (fun h48 => ?_)
          · refine tg_steps 3 rfl ?_
            refine tg_callV rfl (m_isEmptyBy (y := y2) hw _ j (by omega)) rfl rfl rfl rfl rfl (fun v58 w58 q58 => ?_)
            obtain ⟨rfl, y3, rfl, e3⟩ := q58
            refine tg_ifbeq rfl rfl (fun h61 => ?_) (fun h61 => ?_)
            · refine tg_steps 4 rfl ?_
              refine tg_pkV [0, 1, 3, 4] ?_
              refine tg_eqS (L2 := [(0, .ref 64), (1, .int (nI j)), (3, .int (feS h j (i + 1))), (4, .int (nI (i + 1)))]) (st2 := []) (w2 := _) (by first | (simp (decide := true) only [nI_succ, feS_succ, decide_true, decide_false, cond_true, cond_false, Bool.false_eq_true, if_true, if_false, ite_true, ite_false, hu, h36, Int32.not_lt.mp h36, h48, Int32.not_le.mpr h48, h61]; done) | (simp (decide := true) only [nI_succ, feS_succ, decide_true, decide_false, cond_true, cond_false, Bool.false_eq_true, if_true, if_false, ite_true, ite_false, hu, h36, Int32.not_lt.mp h36, h48, Int32.not_le.mpr h48, h61]; rfl) | rfl) rfl rfl ?_
              exact ih24 y3 (yk_tr e2 e3)
            · refine tg_steps 5 rfl ?_
              refine tg_pkV [0, 1, 3, 4] ?_
              refine tg_eqS (L2 := [(0, .ref 64), (1, .int (nI j)), (3, .int (feS h j (i + 1))), (4, .int (nI (i + 1)))]) (st2 := []) (w2 := _) (by first | (simp (decide := true) only [nI_succ, feS_succ, decide_true, decide_false, cond_true, cond_false, Bool.false_eq_true, if_true, if_false, ite_true, ite_false, hu, h36, Int32.not_lt.mp h36, h48, Int32.not_le.mpr h48, h61]; done) | (simp (decide := true) only [nI_succ, feS_succ, decide_true, decide_false, cond_true, cond_false, Bool.false_eq_true, if_true, if_false, ite_true, ite_false, hu, h36, Int32.not_lt.mp h36, h48, Int32.not_le.mpr h48, h61]; rfl) | rfl) rfl rfl ?_
              exact ih24 y3 (yk_tr e2 e3)
          · refine tg_steps 3 rfl ?_
            refine tg_pkV [0, 1, 3, 4] ?_
            refine tg_eqS (L2 := [(0, .ref 64), (1, .int (nI j)), (3, .int (feS h j (i + 1))), (4, .int (nI (i + 1)))]) (st2 := []) (w2 := _) (by first | (simp (decide := true) only [nI_succ, feS_succ, decide_true, decide_false, cond_true, cond_false, Bool.false_eq_true, if_true, if_false, ite_true, ite_false, hu, h36, Int32.not_lt.mp h36, h48, Int32.not_lt.mp h48]; done) | (simp (decide := true) only [nI_succ, feS_succ, decide_true, decide_false, cond_true, cond_false, Bool.false_eq_true, if_true, if_false, ite_true, ite_false, hu, h36, Int32.not_lt.mp h36, h48, Int32.not_lt.mp h48]; rfl) | rfl) rfl rfl ?_
            exact ih24 y2 e2
  · obtain ⟨hu, hb⟩ := bd_t h9
    refine tg_steps 2 rfl ?_
    refine tg_callV rfl (m_no _ (by first | decide | exact rf_bor _ | exact rf_bd (by assumption))) rfl rfl rfl rfl rfl (fun v14 w14 q14 => ?_)
    obtain ⟨rfl, rfl⟩ := q14
    exact tg_iret (st := []) rfl rfl ⟨Nat.le_of_ble_eq_true rfl, Nat.le_of_ble_eq_true rfl⟩ (pM_refI (by first | (simp (decide := true) only [wUp, decide_true, decide_false, cond_true, cond_false, Bool.false_eq_true, if_true, if_false, ite_true, ite_false, hu, hb]; done) | (simp (decide := true) only [wUp, decide_true, decide_false, cond_true, cond_false, Bool.false_eq_true, if_true, if_false, ite_true, ite_false, hu, hb]; done) | (simp (decide := true) only [wUp, decide_true, decide_false, cond_true, cond_false, Bool.false_eq_true, if_true, if_false, ite_true, ite_false, hu, hb]; rfl) | rfl) (by first | decide | exact rf_bor _ | exact rf_bd (by assumption)))
set_option maxRecDepth 100000 in
set_option maxHeartbeats 2000000 in
theorem r_bestKind {G : tg_G} {l : List tg_Cl} {h : tp_H} {y : tp_Y} (hw : wfH h) (one : Int32) (what : Int32) : tg_C G 7 mX11_bestKind 0 0 [.ref 64, .int one, .int what] (l, tm_cs h y) (pM l (wHaW h one what) (.int (wHaW h one what)) (.int (aBeM h one what)) h y (h) (y)) := by
  have hm := hw.1
  refine tg_intro okX11_bestKind (Nat.le_of_ble_eq_true rfl) ?_
  refine tg_steps 2 rfl ?_
  refine tg_callV rfl (m_isOne _) rfl rfl rfl rfl rfl (fun v2 w2 q2 => ?_)
  obtain ⟨rfl, rfl⟩ := q2
  refine tg_ifbne rfl rfl (fun h5 => ?_) (fun h5 => ?_)
  · obtain ⟨j, hj, rfl, cj⟩ := has_j hm h5
    have cn : nN (nI j) = j := cj
    refine tg_steps 3 rfl ?_
    refine tg_call1 rfl (m_isIn _ _ _) rfl rfl rfl  (fun v15 w15 q15 => ?_)
    obtain ⟨rfl, rfl⟩ := q15
    try rw [inB_up]
    refine tg_ifbne rfl rfl (fun h18 => ?_) (fun h18 => ?_)
    · refine tg_steps 3 rfl ?_
      refine tg_ifeq rfl rfl (fun h29 => ?_) (fun h29 => absurd h29 (by decide))
      refine tg_steps 3 rfl ?_
      refine tg_ialdN rfl rfl (j) rfl (by omega) (by decide) ?_
      refine tg_steps 7 rfl ?_
      refine tg_pkV [0, 1, 2, 4, 5, 6, 7] ?_
      refine tg_eqS (L2 := [(0, .ref 64), (1, .int (nI j)), (2, .int what), (4, .int (hK h j)), (5, .int (bkQ h j (0)).1), (6, .int (bkQ h j (0)).2), (7, .int (nI (0)))]) (st2 := []) (w2 := (l, tm_cs (sK h (tg_u (hK h) j (hK h j))) y)) rfl rfl (by rw [sKu_id]) ?_
      refine tg_down (φ := fun i : Nat => ∀ (c : Int32) (y2 : tp_Y) (e2 : yk 78 y y2), tg_V G 7 mX11_bestKind 0 0 0 0 (pM l (wHaW h (nI j) what) (.int (wHaW h (nI j) what)) (.int (aBeM h (nI j) what)) h y (h) (y)) 57 [(0, .ref 64), (1, .int (nI j)), (2, .int what), (4, .int (hK h j)), (5, .int (bkQ h j (i)).1), (6, .int (bkQ h j (i)).2), (7, .int (nI (i)))] [] (l, tm_cs (sK h (tg_u (hK h) j c)) y2)) (n := 6) ?_ ?_ 0 (Nat.zero_le _) (hK h j) y (yk_rf 78 y) 
      · intro c y2 e2
        refine tg_steps 2 rfl ?_
        refine tg_icge rfl rfl (fun h61 => ?_) (fun h61 => ?_)
        · refine tg_steps 4 rfl ?_
          refine tg_iastN rfl rfl (j) rfl (by omega) (by decide) ?_
          refine tg_eqW (m_K _) ?_
          rw [sKK, sKu_id]
          refine tg_steps 1 rfl ?_
          refine tg_ifne rfl rfl (fun h130 => ?_) (fun h130 => ?_)
          · refine tg_steps 2 rfl ?_
            refine tg_icle rfl rfl (fun h142 => ?_) (fun h142 => ?_)
            · refine tg_steps 1 rfl ?_
              exact tg_iret (st := []) rfl rfl ⟨Nat.le_of_ble_eq_true rfl, Nat.le_of_ble_eq_true rfl⟩ (pM_ok (by first | (simp (decide := true) only [wHaW, decide_true, decide_false, cond_true, cond_false, Bool.false_eq_true, if_true, if_false, ite_true, ite_false, h5, h18, h130, h142, Int32.not_lt.mpr h142]; done) | (simp (decide := true) only [wHaW, decide_true, decide_false, cond_true, cond_false, Bool.false_eq_true, if_true, if_false, ite_true, ite_false, h5, h18, h130, h142, Int32.not_lt.mpr h142]; done) | (simp (decide := true) only [wHaW, decide_true, decide_false, cond_true, cond_false, Bool.false_eq_true, if_true, if_false, ite_true, ite_false, h5, h18, h130, h142, Int32.not_lt.mpr h142]; rfl) | rfl) (by first | (simp (decide := true) only [aBeM, cn, decide_true, decide_false, cond_true, cond_false, Bool.false_eq_true, if_true, if_false, ite_true, ite_false, h5, h18, h130, h142, Int32.not_lt.mpr h142]; done) | (simp (decide := true) only [aBeM, cn, decide_true, decide_false, cond_true, cond_false, Bool.false_eq_true, if_true, if_false, ite_true, ite_false, h5, h18, h130, h142, Int32.not_lt.mpr h142]; done) | (simp (decide := true) only [aBeM, cn, decide_true, decide_false, cond_true, cond_false, Bool.false_eq_true, if_true, if_false, ite_true, ite_false, h5, h18, h130, h142, Int32.not_lt.mpr h142]; rfl) | rfl) (yk_le (by decide) e2))
            · refine tg_steps 2 rfl ?_
              exact tg_iret (st := []) rfl rfl ⟨Nat.le_of_ble_eq_true rfl, Nat.le_of_ble_eq_true rfl⟩ (pM_ok (by first | (simp (decide := true) only [wHaW, decide_true, decide_false, cond_true, cond_false, Bool.false_eq_true, if_true, if_false, ite_true, ite_false, h5, h18, h130, h142, Int32.not_le.mp h142]; done) | (simp (decide := true) only [wHaW, decide_true, decide_false, cond_true, cond_false, Bool.false_eq_true, if_true, if_false, ite_true, ite_false, h5, h18, h130, h142, Int32.not_le.mp h142]; done) | (simp (decide := true) only [wHaW, decide_true, decide_false, cond_true, cond_false, Bool.false_eq_true, if_true, if_false, ite_true, ite_false, h5, h18, h130, h142, Int32.not_le.mp h142]; rfl) | rfl) (by first | (simp (decide := true) only [aBeM, cn, decide_true, decide_false, cond_true, cond_false, Bool.false_eq_true, if_true, if_false, ite_true, ite_false, h5, h18, h130, h142, Int32.not_le.mp h142]; done) | (simp (decide := true) only [aBeM, cn, decide_true, decide_false, cond_true, cond_false, Bool.false_eq_true, if_true, if_false, ite_true, ite_false, h5, h18, h130, h142, Int32.not_le.mp h142]; done) | (simp (decide := true) only [aBeM, cn, decide_true, decide_false, cond_true, cond_false, Bool.false_eq_true, if_true, if_false, ite_true, ite_false, h5, h18, h130, h142, Int32.not_le.mp h142]; rfl) | rfl) (yk_le (by decide) e2))
          · refine tg_steps 2 rfl ?_
            exact tg_iret (st := []) rfl rfl ⟨Nat.le_of_ble_eq_true rfl, Nat.le_of_ble_eq_true rfl⟩ (pM_ok (by first | (simp (decide := true) only [wHaW, decide_true, decide_false, cond_true, cond_false, Bool.false_eq_true, if_true, if_false, ite_true, ite_false, h5, h18, eq_true h130]; done) | (simp (decide := true) only [wHaW, decide_true, decide_false, cond_true, cond_false, Bool.false_eq_true, if_true, if_false, ite_true, ite_false, h5, h18, h130]; done) | (simp (decide := true) only [wHaW, decide_true, decide_false, cond_true, cond_false, Bool.false_eq_true, if_true, if_false, ite_true, ite_false, h5, h18, eq_true h130]; rfl) | rfl) (by first | (simp (decide := true) only [aBeM, cn, decide_true, decide_false, cond_true, cond_false, Bool.false_eq_true, if_true, if_false, ite_true, ite_false, h5, h18, eq_true h130]; done) | (simp (decide := true) only [aBeM, cn, decide_true, decide_false, cond_true, cond_false, Bool.false_eq_true, if_true, if_false, ite_true, ite_false, h5, h18, h130]; done) | (simp (decide := true) only [aBeM, cn, decide_true, decide_false, cond_true, cond_false, Bool.false_eq_true, if_true, if_false, ite_true, ite_false, h5, h18, eq_true h130]; rfl) | rfl) (yk_le (by decide) e2))
        · exact absurd (by decide) h61
      · intro i hi57 ih57 c y2 e2
        refine tg_steps 2 rfl ?_
        refine tg_icge rfl rfl (fun h61 => ?_) (fun h61 => ?_)
        · exact absurd h61 (nI_ge (b := 6) hi57 (by decide))
        · refine tg_steps 4 rfl ?_
          refine tg_iastN rfl rfl (j) rfl (by omega) (by decide) ?_
          refine tg_eqW (m_K _) ?_
          rw [sKK]
          refine tg_steps 4 rfl ?_
          refine tg_callV rfl (m_comesWhen (h := sK h (tg_u (hK h) j (nI i))) (y := y2) (wf_sK hw _) j hj (hS h)) rfl rfl rfl rfl rfl (fun v78 w78 q78 => ?_)
          obtain ⟨rfl, y3, rfl, e3⟩ := q78
          refine tg_steps 2 rfl ?_
          refine tg_ifge rfl rfl (fun h85 => ?_) (fun h85 => ?_)
          · refine tg_steps 4 rfl ?_
            refine tg_iclt rfl rfl (fun h101 => ?_) (fun h101 => ?_)
            · refine tg_steps 6 rfl ?_
              refine tg_pkV [0, 1, 2, 4, 5, 6, 7] ?_
              refine tg_eqS (L2 := [(0, .ref 64), (1, .int (nI j)), (2, .int what), (4, .int (hK h j)), (5, .int (bkQ h j (i + 1)).1), (6, .int (bkQ h j (i + 1)).2), (7, .int (nI (i + 1)))]) (st2 := []) (w2 := _) (by first | (simp (decide := true) only [nI_succ, bkQ_succ, bkV, decide_true, decide_false, cond_true, cond_false, Bool.false_eq_true, if_true, if_false, ite_true, ite_false, h5, h18, h85, Int32.not_lt.mpr h85, h101, Int32.not_le.mpr h101]; done) | (simp (decide := true) only [nI_succ, bkQ_succ, bkV, decide_true, decide_false, cond_true, cond_false, Bool.false_eq_true, if_true, if_false, ite_true, ite_false, h5, h18, h85, Int32.not_lt.mpr h85, h101, Int32.not_le.mpr h101]; rfl) | rfl) rfl rfl ?_
              exact ih57 (nI i) y3 (yk_tr e2 e3)
            · refine tg_steps 3 rfl ?_
              refine tg_pkV [0, 1, 2, 4, 5, 6, 7] ?_
              refine tg_eqS (L2 := [(0, .ref 64), (1, .int (nI j)), (2, .int what), (4, .int (hK h j)), (5, .int (bkQ h j (i + 1)).1), (6, .int (bkQ h j (i + 1)).2), (7, .int (nI (i + 1)))]) (st2 := []) (w2 := _) (by first | (simp (decide := true) only [nI_succ, bkQ_succ, bkV, decide_true, decide_false, cond_true, cond_false, Bool.false_eq_true, if_true, if_false, ite_true, ite_false, h5, h18, h85, Int32.not_lt.mpr h85, h101, Int32.not_lt.mp h101]; done) | (simp (decide := true) only [nI_succ, bkQ_succ, bkV, decide_true, decide_false, cond_true, cond_false, Bool.false_eq_true, if_true, if_false, ite_true, ite_false, h5, h18, h85, Int32.not_lt.mpr h85, h101, Int32.not_lt.mp h101]; rfl) | rfl) rfl rfl ?_
              exact ih57 (nI i) y3 (yk_tr e2 e3)
          · refine tg_steps 5 rfl ?_
            refine tg_iclt rfl rfl (fun h101 => ?_) (fun h101 => ?_)
            · refine tg_steps 6 rfl ?_
              refine tg_pkV [0, 1, 2, 4, 5, 6, 7] ?_
              refine tg_eqS (L2 := [(0, .ref 64), (1, .int (nI j)), (2, .int what), (4, .int (hK h j)), (5, .int (bkQ h j (i + 1)).1), (6, .int (bkQ h j (i + 1)).2), (7, .int (nI (i + 1)))]) (st2 := []) (w2 := _) (by first | (simp (decide := true) only [nI_succ, bkQ_succ, bkV, decide_true, decide_false, cond_true, cond_false, Bool.false_eq_true, if_true, if_false, ite_true, ite_false, h5, h18, h85, Int32.not_le.mp h85, h101, Int32.not_le.mpr h101]; done) | (simp (decide := true) only [nI_succ, bkQ_succ, bkV, decide_true, decide_false, cond_true, cond_false, Bool.false_eq_true, if_true, if_false, ite_true, ite_false, h5, h18, h85, Int32.not_le.mp h85, h101, Int32.not_le.mpr h101]; rfl) | rfl) rfl rfl ?_
              exact ih57 (nI i) y3 (yk_tr e2 e3)
            · refine tg_steps 3 rfl ?_
              refine tg_pkV [0, 1, 2, 4, 5, 6, 7] ?_
              refine tg_eqS (L2 := [(0, .ref 64), (1, .int (nI j)), (2, .int what), (4, .int (hK h j)), (5, .int (bkQ h j (i + 1)).1), (6, .int (bkQ h j (i + 1)).2), (7, .int (nI (i + 1)))]) (st2 := []) (w2 := _) (by first | (simp (decide := true) only [nI_succ, bkQ_succ, bkV, decide_true, decide_false, cond_true, cond_false, Bool.false_eq_true, if_true, if_false, ite_true, ite_false, h5, h18, h85, Int32.not_le.mp h85, h101, Int32.not_lt.mp h101]; done) | (simp (decide := true) only [nI_succ, bkQ_succ, bkV, decide_true, decide_false, cond_true, cond_false, Bool.false_eq_true, if_true, if_false, ite_true, ite_false, h5, h18, h85, Int32.not_le.mp h85, h101, Int32.not_lt.mp h101]; rfl) | rfl) rfl rfl ?_
              exact ih57 (nI i) y3 (yk_tr e2 e3)
    · refine tg_steps 4 rfl ?_
      refine tg_ifeq rfl rfl (fun h29 => absurd h29 (by decide)) (fun _ => ?_)
      refine tg_steps 2 rfl ?_
      refine tg_callV rfl (m_no _ (by first | decide | exact rf_bor _ | exact rf_bd (by assumption))) rfl rfl rfl rfl rfl (fun v34 w34 q34 => ?_)
      obtain ⟨rfl, rfl⟩ := q34
      exact tg_iret (st := []) rfl rfl ⟨Nat.le_of_ble_eq_true rfl, Nat.le_of_ble_eq_true rfl⟩ (pM_refI (by first | (simp (decide := true) only [wHaW, decide_true, decide_false, cond_true, cond_false, Bool.false_eq_true, if_true, if_false, ite_true, ite_false, h5, h18]; done) | (simp (decide := true) only [wHaW, decide_true, decide_false, cond_true, cond_false, Bool.false_eq_true, if_true, if_false, ite_true, ite_false, h5, h18]; done) | (simp (decide := true) only [wHaW, decide_true, decide_false, cond_true, cond_false, Bool.false_eq_true, if_true, if_false, ite_true, ite_false, h5, h18]; rfl) | rfl) (by first | decide | exact rf_bor _ | exact rf_bd (by assumption)))
  · refine tg_steps 4 rfl ?_
    refine tg_ifeq rfl rfl (fun h29 => absurd h29 (by decide)) (fun _ => ?_)
    refine tg_steps 2 rfl ?_
    refine tg_callV rfl (m_no _ (by first | decide | exact rf_bor _ | exact rf_bd (by assumption))) rfl rfl rfl rfl rfl (fun v34 w34 q34 => ?_)
    obtain ⟨rfl, rfl⟩ := q34
    exact tg_iret (st := []) rfl rfl ⟨Nat.le_of_ble_eq_true rfl, Nat.le_of_ble_eq_true rfl⟩ (pM_refI (by first | (simp (decide := true) only [wHaW, decide_true, decide_false, cond_true, cond_false, Bool.false_eq_true, if_true, if_false, ite_true, ite_false, h5]; done) | (simp (decide := true) only [wHaW, decide_true, decide_false, cond_true, cond_false, Bool.false_eq_true, if_true, if_false, ite_true, ite_false, h5]; done) | (simp (decide := true) only [wHaW, decide_true, decide_false, cond_true, cond_false, Bool.false_eq_true, if_true, if_false, ite_true, ite_false, h5]; rfl) | rfl) (by first | decide | exact rf_bor _ | exact rf_bd (by assumption)))
set_option maxRecDepth 100000 in
set_option maxHeartbeats 2000000 in
theorem r_crowd {G : tg_G} {l : List tg_Cl} {h : tp_H} {y : tp_Y} (hw : wfH h) (what : Int32) : tg_C G 4 mX11_crowd 0 0 [.ref 64, .int what] (l, tm_cs h y) (pM l (wCro what) (.int (wCro what)) (.int ((if what = 0 then fuT h 24 else if what = 1 then mAt h (fuT h 24) else if what = 2 then hoM h else if what = 3 then loM h else if what = 4 then piM h else if what = 5 then bsO h (hM h) else bI (fun t => decide (mAt h (nI t) = 0)) 24 : Int32))) h y (h) (y)) := by
  have hm := hw.1
  refine tg_intro okX11_crowd (Nat.le_of_ble_eq_true rfl) ?_
  refine tg_steps 1 rfl ?_
  refine tg_tsw rfl ?_
  refine And.intro (fun h1_0 => ?_) (fun h1_0 => ?_)
  · refine tg_steps 1 rfl ?_
    refine tg_callV rfl (m_crowded hm) rfl rfl rfl rfl rfl (fun v45 w45 q45 => ?_)
    obtain ⟨rfl, rfl⟩ := q45
    exact tg_iret (st := []) rfl rfl ⟨Nat.le_of_ble_eq_true rfl, Nat.le_of_ble_eq_true rfl⟩ (pM_ok (by first | (simp (decide := true) only [wCro, decide_true, decide_false, cond_true, cond_false, Bool.false_eq_true, if_true, if_false, ite_true, ite_false, eq_true h1_0]; done) | (simp (decide := true) only [wCro, decide_true, decide_false, cond_true, cond_false, Bool.false_eq_true, if_true, if_false, ite_true, ite_false, h1_0]; done) | (simp (decide := true) only [wCro, decide_true, decide_false, cond_true, cond_false, Bool.false_eq_true, if_true, if_false, ite_true, ite_false, eq_true h1_0]; rfl) | rfl) (by first | (simp (decide := true) only [id, decide_true, decide_false, cond_true, cond_false, Bool.false_eq_true, if_true, if_false, ite_true, ite_false, eq_true h1_0]; done) | (simp (decide := true) only [id, decide_true, decide_false, cond_true, cond_false, Bool.false_eq_true, if_true, if_false, ite_true, ite_false, h1_0]; done) | (simp (decide := true) only [id, decide_true, decide_false, cond_true, cond_false, Bool.false_eq_true, if_true, if_false, ite_true, ite_false, eq_true h1_0]; rfl) | rfl) (yk_rf 39 _))
  refine And.intro (fun h1_1 => ?_) (fun h1_1 => ?_)
  · refine tg_steps 2 rfl ?_
    refine tg_callV rfl (m_crowded hm) rfl rfl rfl rfl rfl (fun v51 w51 q51 => ?_)
    obtain ⟨rfl, rfl⟩ := q51
    refine tg_callV rfl (m_manyOn hm _) rfl rfl rfl rfl rfl (fun v54 w54 q54 => ?_)
    obtain ⟨rfl, rfl⟩ := q54
    exact tg_iret (st := []) rfl rfl ⟨Nat.le_of_ble_eq_true rfl, Nat.le_of_ble_eq_true rfl⟩ (pM_ok (by first | (simp (decide := true) only [wCro, decide_true, decide_false, cond_true, cond_false, Bool.false_eq_true, if_true, if_false, ite_true, ite_false, h1_0, eq_true h1_1]; done) | (simp (decide := true) only [wCro, decide_true, decide_false, cond_true, cond_false, Bool.false_eq_true, if_true, if_false, ite_true, ite_false, h1_0, h1_1]; done) | (simp (decide := true) only [wCro, decide_true, decide_false, cond_true, cond_false, Bool.false_eq_true, if_true, if_false, ite_true, ite_false, h1_0, eq_true h1_1]; rfl) | rfl) (by first | (simp (decide := true) only [id, decide_true, decide_false, cond_true, cond_false, Bool.false_eq_true, if_true, if_false, ite_true, ite_false, h1_0, eq_true h1_1]; done) | (simp (decide := true) only [id, decide_true, decide_false, cond_true, cond_false, Bool.false_eq_true, if_true, if_false, ite_true, ite_false, h1_0, h1_1]; done) | (simp (decide := true) only [id, decide_true, decide_false, cond_true, cond_false, Bool.false_eq_true, if_true, if_false, ite_true, ite_false, h1_0, eq_true h1_1]; rfl) | rfl) (yk_rf 39 _))
  refine And.intro (fun h1_2 => ?_) (fun h1_2 => ?_)
  · refine tg_steps 1 rfl ?_
    refine tg_callV rfl (m_homesNow hm) rfl rfl rfl rfl rfl (fun v59 w59 q59 => ?_)
    obtain ⟨rfl, rfl⟩ := q59
    exact tg_iret (st := []) rfl rfl ⟨Nat.le_of_ble_eq_true rfl, Nat.le_of_ble_eq_true rfl⟩ (pM_ok (by first | (simp (decide := true) only [wCro, decide_true, decide_false, cond_true, cond_false, Bool.false_eq_true, if_true, if_false, ite_true, ite_false, h1_0, h1_1, eq_true h1_2]; done) | (simp (decide := true) only [wCro, decide_true, decide_false, cond_true, cond_false, Bool.false_eq_true, if_true, if_false, ite_true, ite_false, h1_0, h1_1, h1_2]; done) | (simp (decide := true) only [wCro, decide_true, decide_false, cond_true, cond_false, Bool.false_eq_true, if_true, if_false, ite_true, ite_false, h1_0, h1_1, eq_true h1_2]; rfl) | rfl) (by first | (simp (decide := true) only [id, decide_true, decide_false, cond_true, cond_false, Bool.false_eq_true, if_true, if_false, ite_true, ite_false, h1_0, h1_1, eq_true h1_2]; done) | (simp (decide := true) only [id, decide_true, decide_false, cond_true, cond_false, Bool.false_eq_true, if_true, if_false, ite_true, ite_false, h1_0, h1_1, h1_2]; done) | (simp (decide := true) only [id, decide_true, decide_false, cond_true, cond_false, Bool.false_eq_true, if_true, if_false, ite_true, ite_false, h1_0, h1_1, eq_true h1_2]; rfl) | rfl) (yk_rf 39 _))
  refine And.intro (fun h1_3 => ?_) (fun h1_3 => ?_)
  · refine tg_steps 1 rfl ?_
    refine tg_callV rfl (m_lostHomes hm) rfl rfl rfl rfl rfl (fun v64 w64 q64 => ?_)
    obtain ⟨rfl, rfl⟩ := q64
    exact tg_iret (st := []) rfl rfl ⟨Nat.le_of_ble_eq_true rfl, Nat.le_of_ble_eq_true rfl⟩ (pM_ok (by first | (simp (decide := true) only [wCro, decide_true, decide_false, cond_true, cond_false, Bool.false_eq_true, if_true, if_false, ite_true, ite_false, h1_0, h1_1, h1_2, eq_true h1_3]; done) | (simp (decide := true) only [wCro, decide_true, decide_false, cond_true, cond_false, Bool.false_eq_true, if_true, if_false, ite_true, ite_false, h1_0, h1_1, h1_2, h1_3]; done) | (simp (decide := true) only [wCro, decide_true, decide_false, cond_true, cond_false, Bool.false_eq_true, if_true, if_false, ite_true, ite_false, h1_0, h1_1, h1_2, eq_true h1_3]; rfl) | rfl) (by first | (simp (decide := true) only [id, decide_true, decide_false, cond_true, cond_false, Bool.false_eq_true, if_true, if_false, ite_true, ite_false, h1_0, h1_1, h1_2, eq_true h1_3]; done) | (simp (decide := true) only [id, decide_true, decide_false, cond_true, cond_false, Bool.false_eq_true, if_true, if_false, ite_true, ite_false, h1_0, h1_1, h1_2, h1_3]; done) | (simp (decide := true) only [id, decide_true, decide_false, cond_true, cond_false, Bool.false_eq_true, if_true, if_false, ite_true, ite_false, h1_0, h1_1, h1_2, eq_true h1_3]; rfl) | rfl) (yk_rf 39 _))
  refine And.intro (fun h1_4 => ?_) (fun h1_4 => ?_)
  · refine tg_steps 1 rfl ?_
    refine tg_callV rfl (m_pinnedNow hm) rfl rfl rfl rfl rfl (fun v69 w69 q69 => ?_)
    obtain ⟨rfl, rfl⟩ := q69
    exact tg_iret (st := []) rfl rfl ⟨Nat.le_of_ble_eq_true rfl, Nat.le_of_ble_eq_true rfl⟩ (pM_ok (by first | (simp (decide := true) only [wCro, decide_true, decide_false, cond_true, cond_false, Bool.false_eq_true, if_true, if_false, ite_true, ite_false, h1_0, h1_1, h1_2, h1_3, eq_true h1_4]; done) | (simp (decide := true) only [wCro, decide_true, decide_false, cond_true, cond_false, Bool.false_eq_true, if_true, if_false, ite_true, ite_false, h1_0, h1_1, h1_2, h1_3, h1_4]; done) | (simp (decide := true) only [wCro, decide_true, decide_false, cond_true, cond_false, Bool.false_eq_true, if_true, if_false, ite_true, ite_false, h1_0, h1_1, h1_2, h1_3, eq_true h1_4]; rfl) | rfl) (by first | (simp (decide := true) only [id, decide_true, decide_false, cond_true, cond_false, Bool.false_eq_true, if_true, if_false, ite_true, ite_false, h1_0, h1_1, h1_2, h1_3, eq_true h1_4]; done) | (simp (decide := true) only [id, decide_true, decide_false, cond_true, cond_false, Bool.false_eq_true, if_true, if_false, ite_true, ite_false, h1_0, h1_1, h1_2, h1_3, h1_4]; done) | (simp (decide := true) only [id, decide_true, decide_false, cond_true, cond_false, Bool.false_eq_true, if_true, if_false, ite_true, ite_false, h1_0, h1_1, h1_2, h1_3, eq_true h1_4]; rfl) | rfl) (yk_rf 39 _))
  refine And.intro (fun h1_5 => ?_) (fun h1_5 => ?_)
  · refine tg_steps 1 rfl ?_
    refine tg_callV rfl (m_besideNow hm) rfl rfl rfl rfl rfl (fun v74 w74 q74 => ?_)
    obtain ⟨rfl, rfl⟩ := q74
    exact tg_iret (st := []) rfl rfl ⟨Nat.le_of_ble_eq_true rfl, Nat.le_of_ble_eq_true rfl⟩ (pM_ok (by first | (simp (decide := true) only [wCro, decide_true, decide_false, cond_true, cond_false, Bool.false_eq_true, if_true, if_false, ite_true, ite_false, h1_0, h1_1, h1_2, h1_3, h1_4, eq_true h1_5]; done) | (simp (decide := true) only [wCro, decide_true, decide_false, cond_true, cond_false, Bool.false_eq_true, if_true, if_false, ite_true, ite_false, h1_0, h1_1, h1_2, h1_3, h1_4, h1_5]; done) | (simp (decide := true) only [wCro, decide_true, decide_false, cond_true, cond_false, Bool.false_eq_true, if_true, if_false, ite_true, ite_false, h1_0, h1_1, h1_2, h1_3, h1_4, eq_true h1_5]; rfl) | rfl) (by first | (simp (decide := true) only [id, decide_true, decide_false, cond_true, cond_false, Bool.false_eq_true, if_true, if_false, ite_true, ite_false, h1_0, h1_1, h1_2, h1_3, h1_4, eq_true h1_5]; done) | (simp (decide := true) only [id, decide_true, decide_false, cond_true, cond_false, Bool.false_eq_true, if_true, if_false, ite_true, ite_false, h1_0, h1_1, h1_2, h1_3, h1_4, h1_5]; done) | (simp (decide := true) only [id, decide_true, decide_false, cond_true, cond_false, Bool.false_eq_true, if_true, if_false, ite_true, ite_false, h1_0, h1_1, h1_2, h1_3, h1_4, eq_true h1_5]; rfl) | rfl) (yk_rf 39 _))
  refine And.intro (fun h1_6 => ?_) (fun h1_6 => ?_)
  · refine tg_steps 1 rfl ?_
    refine tg_callV rfl (m_emptyTiles hm) rfl rfl rfl rfl rfl (fun v79 w79 q79 => ?_)
    obtain ⟨rfl, rfl⟩ := q79
    exact tg_iret (st := []) rfl rfl ⟨Nat.le_of_ble_eq_true rfl, Nat.le_of_ble_eq_true rfl⟩ (pM_ok (by first | (simp (decide := true) only [wCro, decide_true, decide_false, cond_true, cond_false, Bool.false_eq_true, if_true, if_false, ite_true, ite_false, h1_0, h1_1, h1_2, h1_3, h1_4, h1_5, eq_true h1_6]; done) | (simp (decide := true) only [wCro, decide_true, decide_false, cond_true, cond_false, Bool.false_eq_true, if_true, if_false, ite_true, ite_false, h1_0, h1_1, h1_2, h1_3, h1_4, h1_5, h1_6]; done) | (simp (decide := true) only [wCro, decide_true, decide_false, cond_true, cond_false, Bool.false_eq_true, if_true, if_false, ite_true, ite_false, h1_0, h1_1, h1_2, h1_3, h1_4, h1_5, eq_true h1_6]; rfl) | rfl) (by first | (simp (decide := true) only [id, decide_true, decide_false, cond_true, cond_false, Bool.false_eq_true, if_true, if_false, ite_true, ite_false, h1_0, h1_1, h1_2, h1_3, h1_4, h1_5, eq_true h1_6]; done) | (simp (decide := true) only [id, decide_true, decide_false, cond_true, cond_false, Bool.false_eq_true, if_true, if_false, ite_true, ite_false, h1_0, h1_1, h1_2, h1_3, h1_4, h1_5, h1_6]; done) | (simp (decide := true) only [id, decide_true, decide_false, cond_true, cond_false, Bool.false_eq_true, if_true, if_false, ite_true, ite_false, h1_0, h1_1, h1_2, h1_3, h1_4, h1_5, eq_true h1_6]; rfl) | rfl) (yk_rf 39 _))
  refine tg_steps 2 rfl ?_
  refine tg_callV rfl (m_no _ (by first | decide | exact rf_bor _ | exact rf_bd (by assumption))) rfl rfl rfl rfl rfl (fun v86 w86 q86 => ?_)
  obtain ⟨rfl, rfl⟩ := q86
  exact tg_iret (st := []) rfl rfl ⟨Nat.le_of_ble_eq_true rfl, Nat.le_of_ble_eq_true rfl⟩ (pM_refI (by first | (simp (decide := true) only [wCro, decide_true, decide_false, cond_true, cond_false, Bool.false_eq_true, if_true, if_false, ite_true, ite_false, h1_0, h1_1, h1_2, h1_3, h1_4, h1_5, h1_6]; done) | (simp (decide := true) only [wCro, decide_true, decide_false, cond_true, cond_false, Bool.false_eq_true, if_true, if_false, ite_true, ite_false, h1_0, h1_1, h1_2, h1_3, h1_4, h1_5, h1_6]; done) | (simp (decide := true) only [wCro, decide_true, decide_false, cond_true, cond_false, Bool.false_eq_true, if_true, if_false, ite_true, ite_false, h1_0, h1_1, h1_2, h1_3, h1_4, h1_5, h1_6]; rfl) | rfl) (by first | decide | exact rf_bor _ | exact rf_bd (by assumption)))
set_option maxRecDepth 100000 in
set_option maxHeartbeats 2000000 in
theorem r_farthest {G : tg_G} {l : List tg_Cl} {h : tp_H} {y : tp_Y} (hw : wfH h) (what : Int32) : tg_C G 4 mX11_farthest 0 0 [.ref 64, .int what] (l, tm_cs h y) (pM l (wWh what) (.int (wWh what)) (.int (aFaH h what)) h y (h) (y)) := by
  have hm := hw.1
  refine tg_intro okX11_farthest (Nat.le_of_ble_eq_true rfl) ?_
  refine tg_steps 3 rfl ?_
  refine tg_call1 rfl (m_isIn _ _ _) rfl rfl rfl  (fun v3 w3 q3 => ?_)
  obtain ⟨rfl, rfl⟩ := q3
  try rw [inB_up]
  refine tg_ifbne rfl rfl (fun h6 => ?_) (fun h6 => ?_)
  · refine tg_steps 4 rfl ?_
    refine tg_pkV [0, 1, 2, 3] ?_
    refine tg_eqS (L2 := [(0, .ref 64), (1, .int what), (2, .int (faT h (0))), (3, .int (nI (0)))]) (st2 := []) (w2 := (l, tm_cs h y)) rfl rfl rfl ?_
    refine tg_down (φ := fun i : Nat => tg_V G 4 mX11_farthest 0 0 0 0 (pM l (wWh what) (.int (wWh what)) (.int (aFaH h what)) h y (h) (y)) 21 [(0, .ref 64), (1, .int what), (2, .int (faT h (i))), (3, .int (nI (i)))] [] (l, tm_cs h y)) (n := hM h) ?_ ?_ 0 (Nat.zero_le _) 
    · refine tg_steps 3 rfl ?_
      refine tg_icge rfl rfl (fun h26 => ?_) (fun h26 => ?_)
      · refine tg_steps 1 rfl ?_
        refine tg_ifeq rfl rfl (fun h59 => ?_) (fun h59 => ?_)
        · refine tg_steps 2 rfl ?_
          exact tg_iret (st := []) rfl rfl ⟨Nat.le_of_ble_eq_true rfl, Nat.le_of_ble_eq_true rfl⟩ (pM_ok (by first | (simp (decide := true) only [wWh, decide_true, decide_false, cond_true, cond_false, Bool.false_eq_true, if_true, if_false, ite_true, ite_false, h6, eq_true h59]; done) | (simp (decide := true) only [wWh, decide_true, decide_false, cond_true, cond_false, Bool.false_eq_true, if_true, if_false, ite_true, ite_false, h6, h59]; done) | (simp (decide := true) only [wWh, decide_true, decide_false, cond_true, cond_false, Bool.false_eq_true, if_true, if_false, ite_true, ite_false, h6, eq_true h59]; rfl) | rfl) (by first | (simp (decide := true) only [aFaH, decide_true, decide_false, cond_true, cond_false, Bool.false_eq_true, if_true, if_false, ite_true, ite_false, h6, eq_true h59]; done) | (simp (decide := true) only [aFaH, decide_true, decide_false, cond_true, cond_false, Bool.false_eq_true, if_true, if_false, ite_true, ite_false, h6, h59]; done) | (simp (decide := true) only [aFaH, decide_true, decide_false, cond_true, cond_false, Bool.false_eq_true, if_true, if_false, ite_true, ite_false, h6, eq_true h59]; rfl) | rfl) (yk_rf 39 _))
        · refine tg_steps 1 rfl ?_
          refine tg_ifge rfl rfl (fun h63 => ?_) (fun h63 => ?_)
          · have hl9 : ¬ faT h (hM h) < 0 := Int32.not_lt.mpr h63
            have n9 := ge_n9 hl9
            refine tg_steps 2 rfl ?_
            refine tg_callV rfl (m_fromHomeB hm (faT_has hm (Nat.le_refl _) hl9)) rfl rfl rfl rfl rfl (fun v72 w72 q72 => ?_)
            obtain ⟨rfl, rfl⟩ := q72
            exact tg_iret (st := []) rfl rfl ⟨Nat.le_of_ble_eq_true rfl, Nat.le_of_ble_eq_true rfl⟩ (pM_ok (by first | (simp (decide := true) only [wWh, decide_true, decide_false, cond_true, cond_false, Bool.false_eq_true, if_true, if_false, ite_true, ite_false, h6, h59, n9]; done) | (simp (decide := true) only [wWh, decide_true, decide_false, cond_true, cond_false, Bool.false_eq_true, if_true, if_false, ite_true, ite_false, h6, h59, n9]; done) | (simp (decide := true) only [wWh, decide_true, decide_false, cond_true, cond_false, Bool.false_eq_true, if_true, if_false, ite_true, ite_false, h6, h59, n9]; rfl) | rfl) (by first | (simp (decide := true) only [aFaH, decide_true, decide_false, cond_true, cond_false, Bool.false_eq_true, if_true, if_false, ite_true, ite_false, h6, h59, n9]; done) | (simp (decide := true) only [aFaH, decide_true, decide_false, cond_true, cond_false, Bool.false_eq_true, if_true, if_false, ite_true, ite_false, h6, h59, n9]; done) | (simp (decide := true) only [aFaH, decide_true, decide_false, cond_true, cond_false, Bool.false_eq_true, if_true, if_false, ite_true, ite_false, h6, h59, n9]; rfl) | rfl) (yk_rf 39 _))
          · have e9 : faT h (hM h) = -9 := faT_lt hm (Nat.le_refl _) (Int32.not_le.mp h63)
            refine tg_steps 2 rfl ?_
            exact tg_iret (st := []) rfl rfl ⟨Nat.le_of_ble_eq_true rfl, Nat.le_of_ble_eq_true rfl⟩ (pM_ok (by first | (simp (decide := true) only [wWh, decide_true, decide_false, cond_true, cond_false, Bool.false_eq_true, if_true, if_false, ite_true, ite_false, h6, h59, e9]; done) | (simp (decide := true) only [wWh, decide_true, decide_false, cond_true, cond_false, Bool.false_eq_true, if_true, if_false, ite_true, ite_false, h6, h59, e9]; done) | (simp (decide := true) only [wWh, decide_true, decide_false, cond_true, cond_false, Bool.false_eq_true, if_true, if_false, ite_true, ite_false, h6, h59, e9]; rfl) | rfl) (by first | (simp (decide := true) only [aFaH, decide_true, decide_false, cond_true, cond_false, Bool.false_eq_true, if_true, if_false, ite_true, ite_false, h6, h59, e9]; done) | (simp (decide := true) only [aFaH, decide_true, decide_false, cond_true, cond_false, Bool.false_eq_true, if_true, if_false, ite_true, ite_false, h6, h59, e9]; done) | (simp (decide := true) only [aFaH, decide_true, decide_false, cond_true, cond_false, Bool.false_eq_true, if_true, if_false, ite_true, ite_false, h6, h59, e9]; rfl) | rfl) (yk_rf 39 _))
      · exact absurd (nI_le (Nat.le_refl _) (by omega)) h26
    · intro i hi21 ih21
      refine tg_steps 3 rfl ?_
      refine tg_icge rfl rfl (fun h26 => ?_) (fun h26 => ?_)
      · exact absurd h26 (nI_ge hi21 (by omega))
      · refine tg_steps 1 rfl ?_
        refine tg_iflt rfl rfl (fun h30 => ?_) (fun h30 => ?_)
        · have e9 : faT h i = -9 := faT_lt hm (Nat.le_of_lt hi21) h30
          refine tg_steps 5 rfl ?_
          refine tg_pkV [0, 1, 2, 3] ?_
          refine tg_eqS (L2 := [(0, .ref 64), (1, .int what), (2, .int (faT h (i + 1))), (3, .int (nI (i + 1)))]) (st2 := []) (w2 := (l, tm_cs h y)) (by first | (simp (decide := true) only [nI_succ, faT_succ, decide_true, decide_false, cond_true, cond_false, Bool.false_eq_true, if_true, if_false, ite_true, ite_false, h6, e9]; done) | (simp (decide := true) only [nI_succ, faT_succ, decide_true, decide_false, cond_true, cond_false, Bool.false_eq_true, if_true, if_false, ite_true, ite_false, h6, e9]; rfl) | rfl) rfl (by first | (simp (decide := true) only [nI_succ, faT_succ, decide_true, decide_false, cond_true, cond_false, Bool.false_eq_true, if_true, if_false, ite_true, ite_false, h6, e9]; done) | (simp (decide := true) only [nI_succ, faT_succ, decide_true, decide_false, cond_true, cond_false, Bool.false_eq_true, if_true, if_false, ite_true, ite_false, h6, e9]; rfl) | rfl) ?_
          exact ih21
        · have n9 := ge_n9 h30
          refine tg_steps 2 rfl ?_
          refine tg_callV rfl (m_fromHome hm i hi21) rfl rfl rfl rfl rfl (fun v35 w35 q35 => ?_)
          obtain ⟨rfl, rfl⟩ := q35
          refine tg_steps 2 rfl ?_
          refine tg_callV rfl (m_fromHomeB hm (faT_has hm (Nat.le_of_lt hi21) h30)) rfl rfl rfl rfl rfl (fun v40 w40 q40 => ?_)
          obtain ⟨rfl, rfl⟩ := q40
          refine tg_icle rfl rfl (fun h43 => ?_) (fun h43 => ?_)
          · refine tg_steps 4 rfl ?_
            refine tg_pkV [0, 1, 2, 3] ?_
            refine tg_eqS (L2 := [(0, .ref 64), (1, .int what), (2, .int (faT h (i + 1))), (3, .int (nI (i + 1)))]) (st2 := []) (w2 := (l, tm_cs h y)) (by first | (simp (decide := true) only [nI_succ, faT_succ, decide_true, decide_false, cond_true, cond_false, Bool.false_eq_true, if_true, if_false, ite_true, ite_false, h6, n9, h43, Int32.not_lt.mpr h43]; done) | (simp (decide := true) only [nI_succ, faT_succ, decide_true, decide_false, cond_true, cond_false, Bool.false_eq_true, if_true, if_false, ite_true, ite_false, h6, n9, h43, Int32.not_lt.mpr h43]; rfl) | rfl) rfl (by first | (simp (decide := true) only [nI_succ, faT_succ, decide_true, decide_false, cond_true, cond_false, Bool.false_eq_true, if_true, if_false, ite_true, ite_false, h6, n9, h43, Int32.not_lt.mpr h43]; done) | (simp (decide := true) only [nI_succ, faT_succ, decide_true, decide_false, cond_true, cond_false, Bool.false_eq_true, if_true, if_false, ite_true, ite_false, h6, n9, h43, Int32.not_lt.mpr h43]; rfl) | rfl) ?_
            exact ih21
          · refine tg_steps 5 rfl ?_
            refine tg_pkV [0, 1, 2, 3] ?_
            refine tg_eqS (L2 := [(0, .ref 64), (1, .int what), (2, .int (faT h (i + 1))), (3, .int (nI (i + 1)))]) (st2 := []) (w2 := (l, tm_cs h y)) (by first | (simp (decide := true) only [nI_succ, faT_succ, decide_true, decide_false, cond_true, cond_false, Bool.false_eq_true, if_true, if_false, ite_true, ite_false, h6, n9, h43, Int32.not_le.mp h43]; done) | (simp (decide := true) only [nI_succ, faT_succ, decide_true, decide_false, cond_true, cond_false, Bool.false_eq_true, if_true, if_false, ite_true, ite_false, h6, n9, h43, Int32.not_le.mp h43]; rfl) | rfl) rfl (by first | (simp (decide := true) only [nI_succ, faT_succ, decide_true, decide_false, cond_true, cond_false, Bool.false_eq_true, if_true, if_false, ite_true, ite_false, h6, n9, h43, Int32.not_le.mp h43]; done) | (simp (decide := true) only [nI_succ, faT_succ, decide_true, decide_false, cond_true, cond_false, Bool.false_eq_true, if_true, if_false, ite_true, ite_false, h6, n9, h43, Int32.not_le.mp h43]; rfl) | rfl) ?_
            exact ih21
  · refine tg_steps 2 rfl ?_
    refine tg_callV rfl (m_no _ (by first | decide | exact rf_bor _ | exact rf_bd (by assumption))) rfl rfl rfl rfl rfl (fun v12 w12 q12 => ?_)
    obtain ⟨rfl, rfl⟩ := q12
    exact tg_iret (st := []) rfl rfl ⟨Nat.le_of_ble_eq_true rfl, Nat.le_of_ble_eq_true rfl⟩ (pM_refI (by first | (simp (decide := true) only [wWh, decide_true, decide_false, cond_true, cond_false, Bool.false_eq_true, if_true, if_false, ite_true, ite_false, h6]; done) | (simp (decide := true) only [wWh, decide_true, decide_false, cond_true, cond_false, Bool.false_eq_true, if_true, if_false, ite_true, ite_false, h6]; done) | (simp (decide := true) only [wWh, decide_true, decide_false, cond_true, cond_false, Bool.false_eq_true, if_true, if_false, ite_true, ite_false, h6]; rfl) | rfl) (by first | decide | exact rf_bor _ | exact rf_bd (by assumption)))
set_option maxRecDepth 100000 in
set_option maxHeartbeats 2000000 in
theorem r_order {G : tg_G} {l : List tg_Cl} {h : tp_H} {y : tp_Y} (hw : wfH h) (i : Int32) : tg_C G 4 mX11_order 0 0 [.ref 64, .int i] (l, tm_cs h y) (pM l (wOrd i) (.int (wOrd i)) (.int (aOrd h i)) h y (h) (y)) := by
  have hm := hw.1
  refine tg_intro okX11_order (Nat.le_of_ble_eq_true rfl) ?_
  refine tg_steps 1 rfl ?_
  refine tg_ifge rfl rfl (fun h1 => ?_) (fun h1 => ?_)
  · refine tg_steps 2 rfl ?_
    refine tg_pkV [0, 1, 2] ?_
    refine tg_eqS (L2 := [(0, .ref 64), (1, .int i), (2, .int (nI (0)))]) (st2 := []) (w2 := (l, tm_cs h y)) rfl rfl rfl ?_
    refine tg_down (φ := fun k : Nat => (aOrd h i = fiV (orP h i) nI (-9) (hM h - (k)) (k)) → tg_V G 4 mX11_order 0 0 0 0 (pM l (wOrd i) (.int (wOrd i)) (.int (aOrd h i)) h y (h) (y)) 13 [(0, .ref 64), (1, .int i), (2, .int (nI (k)))] [] (l, tm_cs h y)) (n := hM h) ?_ ?_ 0 (Nat.zero_le _) (rfl)
    · intro hinv13
      refine tg_steps 3 rfl ?_
      refine tg_icge rfl rfl (fun h18 => ?_) (fun h18 => ?_)
      · refine tg_steps 1 rfl ?_
        exact tg_iret (st := []) rfl rfl ⟨Nat.le_of_ble_eq_true rfl, Nat.le_of_ble_eq_true rfl⟩ (pM_ok (by first | (simp (decide := true) only [wOrd, decide_true, decide_false, cond_true, cond_false, Bool.false_eq_true, if_true, if_false, ite_true, ite_false, h1, Int32.not_lt.mpr h1]; done) | (simp (decide := true) only [wOrd, decide_true, decide_false, cond_true, cond_false, Bool.false_eq_true, if_true, if_false, ite_true, ite_false, h1, Int32.not_lt.mpr h1]; done) | (simp (decide := true) only [wOrd, decide_true, decide_false, cond_true, cond_false, Bool.false_eq_true, if_true, if_false, ite_true, ite_false, h1, Int32.not_lt.mpr h1]; rfl) | rfl) (by rw [hinv13, Nat.sub_self]; rfl) (yk_rf 39 _))
      · exact absurd (nI_le (Nat.le_refl _) (by omega)) h18
    · intro k hi13 ih13 hinv13
      rw [show hM h - k = hM h - (k + 1) + 1 by omega, fiV_succ _ _ _ (hM h - (k + 1)) k] at hinv13
      refine tg_steps 3 rfl ?_
      refine tg_icge rfl rfl (fun h18 => ?_) (fun h18 => ?_)
      · exact absurd h18 (nI_ge hi13 (by omega))
      · refine tg_steps 2 rfl ?_
        refine tg_callV rfl (m_isAboard hm k hi13) rfl rfl rfl rfl rfl (fun v23 w23 q23 => ?_)
        obtain ⟨rfl, rfl⟩ := q23
        refine tg_ifbne rfl rfl (fun h26 => ?_) (fun h26 => ?_)
        · refine tg_steps 2 rfl ?_
          refine tg_pkV [0, 1, 2] ?_
          refine tg_eqS (L2 := [(0, .ref 64), (1, .int i), (2, .int (nI (k + 1)))]) (st2 := []) (w2 := (l, tm_cs h y)) (by first | (simp (decide := true) only [nI_succ, decide_true, decide_false, cond_true, cond_false, Bool.false_eq_true, if_true, if_false, ite_true, ite_false, h1, Int32.not_lt.mpr h1, h26]; done) | (simp (decide := true) only [nI_succ, decide_true, decide_false, cond_true, cond_false, Bool.false_eq_true, if_true, if_false, ite_true, ite_false, h1, Int32.not_lt.mpr h1, h26]; rfl) | rfl) rfl (by first | (simp (decide := true) only [nI_succ, decide_true, decide_false, cond_true, cond_false, Bool.false_eq_true, if_true, if_false, ite_true, ite_false, h1, Int32.not_lt.mpr h1, h26]; done) | (simp (decide := true) only [nI_succ, decide_true, decide_false, cond_true, cond_false, Bool.false_eq_true, if_true, if_false, ite_true, ite_false, h1, Int32.not_lt.mpr h1, h26]; rfl) | rfl) ?_
          exact ih13 (by simp only [orP, decide_true, decide_false, cond_true, cond_false, Bool.false_eq_true, if_true, if_false, ite_true, ite_false, h1, Int32.not_lt.mpr h1, h26] at hinv13; exact hinv13)
        · refine tg_steps 2 rfl ?_
          refine tg_callV rfl (m_aheadOf hw k hi13) rfl rfl rfl rfl rfl (fun v31 w31 q31 => ?_)
          obtain ⟨rfl, rfl⟩ := q31
          refine tg_steps 1 rfl ?_
          refine tg_icne rfl rfl (fun h35 => ?_) (fun h35 => ?_)
          · refine tg_steps 2 rfl ?_
            refine tg_pkV [0, 1, 2] ?_
            refine tg_eqS (L2 := [(0, .ref 64), (1, .int i), (2, .int (nI (k + 1)))]) (st2 := []) (w2 := (l, tm_cs h y)) (by first | (simp (decide := true) only [nI_succ, decide_true, decide_false, cond_true, cond_false, Bool.false_eq_true, if_true, if_false, ite_true, ite_false, h1, Int32.not_lt.mpr h1, h26, h35]; done) | (simp (decide := true) only [nI_succ, decide_true, decide_false, cond_true, cond_false, Bool.false_eq_true, if_true, if_false, ite_true, ite_false, h1, Int32.not_lt.mpr h1, h26, h35]; rfl) | rfl) rfl (by first | (simp (decide := true) only [nI_succ, decide_true, decide_false, cond_true, cond_false, Bool.false_eq_true, if_true, if_false, ite_true, ite_false, h1, Int32.not_lt.mpr h1, h26, h35]; done) | (simp (decide := true) only [nI_succ, decide_true, decide_false, cond_true, cond_false, Bool.false_eq_true, if_true, if_false, ite_true, ite_false, h1, Int32.not_lt.mpr h1, h26, h35]; rfl) | rfl) ?_
            exact ih13 (by simp only [orP, decide_true, decide_false, cond_true, cond_false, Bool.false_eq_true, if_true, if_false, ite_true, ite_false, h1, Int32.not_lt.mpr h1, h26, h35] at hinv13; exact hinv13)
          · refine tg_steps 1 rfl ?_
            exact tg_iret (st := []) rfl rfl ⟨Nat.le_of_ble_eq_true rfl, Nat.le_of_ble_eq_true rfl⟩ (pM_ok (by first | (simp (decide := true) only [wOrd, decide_true, decide_false, cond_true, cond_false, Bool.false_eq_true, if_true, if_false, ite_true, ite_false, h1, Int32.not_lt.mpr h1, h26, eq_true h35]; done) | (simp (decide := true) only [wOrd, decide_true, decide_false, cond_true, cond_false, Bool.false_eq_true, if_true, if_false, ite_true, ite_false, h1, Int32.not_lt.mpr h1, h26, h35]; done) | (simp (decide := true) only [wOrd, decide_true, decide_false, cond_true, cond_false, Bool.false_eq_true, if_true, if_false, ite_true, ite_false, h1, Int32.not_lt.mpr h1, h26, eq_true h35]; rfl) | rfl) (by simp only [orP, decide_true, decide_false, cond_true, cond_false, Bool.false_eq_true, if_true, if_false, ite_true, ite_false, h1, Int32.not_lt.mpr h1, h26, eq_true h35] at hinv13; rw [hinv13]) (yk_rf 39 _))
  · refine tg_steps 2 rfl ?_
    refine tg_callV rfl (m_no _ (by first | decide | exact rf_bor _ | exact rf_bd (by assumption))) rfl rfl rfl rfl rfl (fun v7 w7 q7 => ?_)
    obtain ⟨rfl, rfl⟩ := q7
    exact tg_iret (st := []) rfl rfl ⟨Nat.le_of_ble_eq_true rfl, Nat.le_of_ble_eq_true rfl⟩ (pM_refI (by first | (simp (decide := true) only [wOrd, decide_true, decide_false, cond_true, cond_false, Bool.false_eq_true, if_true, if_false, ite_true, ite_false, h1, Int32.not_le.mp h1]; done) | (simp (decide := true) only [wOrd, decide_true, decide_false, cond_true, cond_false, Bool.false_eq_true, if_true, if_false, ite_true, ite_false, h1, Int32.not_le.mp h1]; done) | (simp (decide := true) only [wOrd, decide_true, decide_false, cond_true, cond_false, Bool.false_eq_true, if_true, if_false, ite_true, ite_false, h1, Int32.not_le.mp h1]; rfl) | rfl) (by first | decide | exact rf_bor _ | exact rf_bd (by assumption)))
