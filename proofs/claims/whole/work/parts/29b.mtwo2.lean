/-! the public methods of the reference, continued -/
set_option maxRecDepth 100000 in
set_option maxHeartbeats 2000000 in
theorem r_two {G : tg_G} {l : List tg_Cl} {h : tp_H} {y : tp_Y} (hw : wfH h) (p : Int32) (q : Int32) (k : Int32) : tg_C G 8 mX11_two 0 0 [.ref 64, .int p, .int q, .int k] (l, tm_cs h y) (pM l (wTwo h p q k) (.int (wTwo h p q k)) (.int (fiV (twM h (yEn y) (nN p) (nN q) (nN k)) twV (-9) 4 0)) h y (h) (y)) := by
  have hm := hw.1
  refine tg_intro okX11_two (Nat.le_of_ble_eq_true rfl) ?_
  refine tg_steps 2 rfl ?_
  refine tg_callV rfl (m_isOne _) rfl rfl rfl rfl rfl (fun v2 w2 q2 => ?_)
  obtain ⟨rfl, rfl⟩ := q2
  refine tg_ifbeq rfl rfl (fun h5 => ?_) (fun h5 => ?_)
  · refine tg_steps 4 rfl ?_
    refine tg_ifeq rfl rfl (fun h36 => absurd h36 (by decide)) (fun _ => ?_)
    refine tg_steps 2 rfl ?_
    refine tg_callV rfl (m_no _ (by first | decide | exact rf_bor _ | exact rf_bd (by assumption))) rfl rfl rfl rfl rfl (fun v42 w42 q42 => ?_)
    obtain ⟨rfl, rfl⟩ := q42
    exact tg_iret (st := []) rfl rfl ⟨Nat.le_of_ble_eq_true rfl, Nat.le_of_ble_eq_true rfl⟩ (pM_refI (by first | (simp (decide := true) only [wTwo, decide_true, decide_false, cond_true, cond_false, Bool.false_eq_true, if_true, if_false, ite_true, ite_false, h5]; done) | (simp (decide := true) only [wTwo, decide_true, decide_false, cond_true, cond_false, Bool.false_eq_true, if_true, if_false, ite_true, ite_false, h5]; done) | (simp (decide := true) only [wTwo, decide_true, decide_false, cond_true, cond_false, Bool.false_eq_true, if_true, if_false, ite_true, ite_false, h5]; rfl) | rfl) (by first | decide | exact rf_bor _ | exact rf_bd (by assumption)))
  · obtain ⟨a, ha, rfl, ca⟩ := has_j hm h5
    have ca2 : nN (nI a) = a := ca
    refine tg_steps 2 rfl ?_
    refine tg_callV rfl (m_isOne _) rfl rfl rfl rfl rfl (fun v10 w10 q10 => ?_)
    obtain ⟨rfl, rfl⟩ := q10
    refine tg_ifbeq rfl rfl (fun h13 => ?_) (fun h13 => ?_)
    · refine tg_steps 4 rfl ?_
      refine tg_ifeq rfl rfl (fun h36 => absurd h36 (by decide)) (fun _ => ?_)
      refine tg_steps 2 rfl ?_
      refine tg_callV rfl (m_no _ (by first | decide | exact rf_bor _ | exact rf_bd (by assumption))) rfl rfl rfl rfl rfl (fun v42 w42 q42 => ?_)
      obtain ⟨rfl, rfl⟩ := q42
      exact tg_iret (st := []) rfl rfl ⟨Nat.le_of_ble_eq_true rfl, Nat.le_of_ble_eq_true rfl⟩ (pM_refI (by first | (simp (decide := true) only [wTwo, decide_true, decide_false, cond_true, cond_false, Bool.false_eq_true, if_true, if_false, ite_true, ite_false, h5, h13]; done) | (simp (decide := true) only [wTwo, decide_true, decide_false, cond_true, cond_false, Bool.false_eq_true, if_true, if_false, ite_true, ite_false, h5, h13]; done) | (simp (decide := true) only [wTwo, decide_true, decide_false, cond_true, cond_false, Bool.false_eq_true, if_true, if_false, ite_true, ite_false, h5, h13]; rfl) | rfl) (by first | decide | exact rf_bor _ | exact rf_bd (by assumption)))
    · obtain ⟨b, hb2, rfl, cb⟩ := has_j hm h13
      have cb2 : nN (nI b) = b := cb
      refine tg_steps 2 rfl ?_
      refine tg_icne rfl rfl (fun h18 => ?_) (fun h18 => ?_)
      · refine tg_steps 3 rfl ?_
        refine tg_call1 rfl (m_bound _ _ _) rfl rfl rfl  (fun v29 w29 q29 => ?_)
        obtain ⟨rfl, rfl⟩ := q29
        refine tg_steps 2 rfl ?_
        refine tg_ifeq rfl rfl (fun h36 => ?_) (fun h36 => ?_)
        · have hu := bd_f h36
          obtain ⟨j, hj, rfl⟩ := up_j (k := k) (m := 9) rfl hu
          have cj : nN (nI j) = j := nI_clamp (by omega)
          rw [ca2, cb2, cj]
          refine tg_steps 4 rfl ?_
          refine tg_callV rfl (m_findEnds hw a b ha hb2 j (by omega)) rfl rfl rfl rfl rfl (fun v50 w50 q50 => ?_)
          obtain ⟨rfl, y2, rfl, e2, en⟩ := q50
          refine tg_steps 2 rfl ?_
          refine tg_pkV [0, 5] ?_
          refine tg_eqS (L2 := [(0, .ref 64), (5, .int (nI (0)))]) (st2 := []) (w2 := (l, tm_cs h y2)) rfl rfl rfl ?_
          refine tg_down (φ := fun i : Nat => (fiV (twM h (yEn y) a b j) twV (-9) 4 0 = fiV (twM h (yEn y) a b j) twV (-9) (4 - (i)) (i)) → tg_V G 8 mX11_two 0 0 0 0 (pM l (wTwo h (nI a) (nI b) (nI j)) (.int (wTwo h (nI a) (nI b) (nI j))) (.int (fiV (twM h (yEn y) (a) (b) (j)) twV (-9) 4 0)) h y (h) (y)) 56 [(0, .ref 64), (5, .int (nI (i)))] [] (l, tm_cs h y2)) (n := 4) ?_ ?_ 0 (Nat.zero_le _) (rfl)
          · intro hinv56
            refine tg_steps 2 rfl ?_
            refine tg_icge rfl rfl (fun h59 => ?_) (fun h59 => ?_)
            · refine tg_steps 1 rfl ?_
              exact tg_iret (st := []) rfl rfl ⟨Nat.le_of_ble_eq_true rfl, Nat.le_of_ble_eq_true rfl⟩ (pM_ok (by first | (simp (decide := true) only [wTwo, decide_true, decide_false, cond_true, cond_false, Bool.false_eq_true, if_true, if_false, ite_true, ite_false, h5, h13, h18, hu]; done) | (simp (decide := true) only [wTwo, decide_true, decide_false, cond_true, cond_false, Bool.false_eq_true, if_true, if_false, ite_true, ite_false, h5, h13, h18, hu]; done) | (simp (decide := true) only [wTwo, decide_true, decide_false, cond_true, cond_false, Bool.false_eq_true, if_true, if_false, ite_true, ite_false, h5, h13, h18, hu]; rfl) | rfl) (by rw [hinv56]; rfl) (yk_le (by decide) e2))
            · exact absurd (by decide) h59
          · intro i hi56 ih56 hinv56
            rw [show 4 - i = 4 - (i + 1) + 1 by omega, fiV_succ _ _ _ (4 - (i + 1)) i] at hinv56
            obtain ⟨m1, m2, m3, m4, m5, m6⟩ := two_m i hi56
            have E0 : twE h (yEn y) a b j = yEn y2 := en.symm
            refine tg_steps 2 rfl ?_
            refine tg_icge rfl rfl (fun h59 => ?_) (fun h59 => ?_)
            · exact absurd h59 (nI_ge (b := 4) hi56 (by decide))
            · refine tg_steps 7 rfl ?_
              refine tg_ialdN rfl rfl (2 * (i ^^^ 2)) m3 m5 (by decide) ?_
              refine tg_steps 5 rfl ?_
              refine tg_ialdN rfl rfl (2 * i) m1 (by omega) (by decide) ?_
              refine tg_icgt rfl rfl (fun h82 => ?_) (fun h82 => ?_)
              · refine tg_steps 2 rfl ?_
                refine tg_pkV [0, 5] ?_
                refine tg_eqS (L2 := [(0, .ref 64), (5, .int (nI (i + 1)))]) (st2 := []) (w2 := (l, tm_cs h y2)) (by first | (simp (decide := true) only [nI_succ, decide_true, decide_false, cond_true, cond_false, Bool.false_eq_true, if_true, if_false, ite_true, ite_false, h5, h13, h18, hu, h82, Int32.not_le.mpr h82]; done) | (simp (decide := true) only [nI_succ, decide_true, decide_false, cond_true, cond_false, Bool.false_eq_true, if_true, if_false, ite_true, ite_false, h5, h13, h18, hu, h82, Int32.not_le.mpr h82]; rfl) | rfl) rfl (by first | (simp (decide := true) only [nI_succ, decide_true, decide_false, cond_true, cond_false, Bool.false_eq_true, if_true, if_false, ite_true, ite_false, h5, h13, h18, hu, h82, Int32.not_le.mpr h82]; done) | (simp (decide := true) only [nI_succ, decide_true, decide_false, cond_true, cond_false, Bool.false_eq_true, if_true, if_false, ite_true, ite_false, h5, h13, h18, hu, h82, Int32.not_le.mpr h82]; rfl) | rfl) ?_
                exact ih56 (by simp only [twM, E0, decide_true, decide_false, cond_true, cond_false, Bool.false_eq_true, if_true, if_false, ite_true, ite_false, h5, h13, h18, hu, h82, Int32.not_le.mpr h82] at hinv56; exact hinv56)
              · refine tg_steps 9 rfl ?_
                refine tg_ialdN rfl rfl (2 * (i ^^^ 1) + 1) m4 m6 (by decide) ?_
                refine tg_steps 7 rfl ?_
                refine tg_ialdN rfl rfl (2 * i + 1) m2 (by omega) (by decide) ?_
                refine tg_icgt rfl rfl (fun h109 => ?_) (fun h109 => ?_)
                · refine tg_steps 2 rfl ?_
                  refine tg_pkV [0, 5] ?_
                  refine tg_eqS (L2 := [(0, .ref 64), (5, .int (nI (i + 1)))]) (st2 := []) (w2 := (l, tm_cs h y2)) (by first | (simp (decide := true) only [nI_succ, decide_true, decide_false, cond_true, cond_false, Bool.false_eq_true, if_true, if_false, ite_true, ite_false, h5, h13, h18, hu, h82, Int32.not_lt.mp h82, h109, Int32.not_le.mpr h109]; done) | (simp (decide := true) only [nI_succ, decide_true, decide_false, cond_true, cond_false, Bool.false_eq_true, if_true, if_false, ite_true, ite_false, h5, h13, h18, hu, h82, Int32.not_lt.mp h82, h109, Int32.not_le.mpr h109]; rfl) | rfl) rfl (by first | (simp (decide := true) only [nI_succ, decide_true, decide_false, cond_true, cond_false, Bool.false_eq_true, if_true, if_false, ite_true, ite_false, h5, h13, h18, hu, h82, Int32.not_lt.mp h82, h109, Int32.not_le.mpr h109]; done) | (simp (decide := true) only [nI_succ, decide_true, decide_false, cond_true, cond_false, Bool.false_eq_true, if_true, if_false, ite_true, ite_false, h5, h13, h18, hu, h82, Int32.not_lt.mp h82, h109, Int32.not_le.mpr h109]; rfl) | rfl) ?_
                  exact ih56 (by simp only [twM, E0, decide_true, decide_false, cond_true, cond_false, Bool.false_eq_true, if_true, if_false, ite_true, ite_false, h5, h13, h18, hu, h82, Int32.not_lt.mp h82, h109, Int32.not_le.mpr h109] at hinv56; exact hinv56)
                · refine tg_steps 9 rfl ?_
                  exact tg_iret (st := []) rfl rfl ⟨Nat.le_of_ble_eq_true rfl, Nat.le_of_ble_eq_true rfl⟩ (pM_ok (by first | (simp (decide := true) only [wTwo, decide_true, decide_false, cond_true, cond_false, Bool.false_eq_true, if_true, if_false, ite_true, ite_false, h5, h13, h18, hu, h82, Int32.not_lt.mp h82, h109, Int32.not_lt.mp h109]; done) | (simp (decide := true) only [wTwo, decide_true, decide_false, cond_true, cond_false, Bool.false_eq_true, if_true, if_false, ite_true, ite_false, h5, h13, h18, hu, h82, Int32.not_lt.mp h82, h109, Int32.not_lt.mp h109]; done) | (simp (decide := true) only [wTwo, decide_true, decide_false, cond_true, cond_false, Bool.false_eq_true, if_true, if_false, ite_true, ite_false, h5, h13, h18, hu, h82, Int32.not_lt.mp h82, h109, Int32.not_lt.mp h109]; rfl) | rfl) (by simp only [twM, E0, decide_true, decide_false, cond_true, cond_false, Bool.false_eq_true, if_true, if_false, ite_true, ite_false, h5, h13, h18, hu, h82, Int32.not_lt.mp h82, h109, Int32.not_lt.mp h109] at hinv56; rw [hinv56]; rfl) (yk_le (by decide) e2))
        · obtain ⟨hu, hb⟩ := bd_t h36
          refine tg_steps 2 rfl ?_
          refine tg_callV rfl (m_no _ (by first | decide | exact rf_bor _ | exact rf_bd (by assumption))) rfl rfl rfl rfl rfl (fun v42 w42 q42 => ?_)
          obtain ⟨rfl, rfl⟩ := q42
          exact tg_iret (st := []) rfl rfl ⟨Nat.le_of_ble_eq_true rfl, Nat.le_of_ble_eq_true rfl⟩ (pM_refI (by first | (simp (decide := true) only [wTwo, decide_true, decide_false, cond_true, cond_false, Bool.false_eq_true, if_true, if_false, ite_true, ite_false, h5, h13, h18, hu, hb]; done) | (simp (decide := true) only [wTwo, decide_true, decide_false, cond_true, cond_false, Bool.false_eq_true, if_true, if_false, ite_true, ite_false, h5, h13, h18, hu, hb]; done) | (simp (decide := true) only [wTwo, decide_true, decide_false, cond_true, cond_false, Bool.false_eq_true, if_true, if_false, ite_true, ite_false, h5, h13, h18, hu, hb]; rfl) | rfl) (by first | decide | exact rf_bor _ | exact rf_bd (by assumption)))
      · refine tg_steps 4 rfl ?_
        refine tg_ifeq rfl rfl (fun h36 => absurd h36 (by decide)) (fun _ => ?_)
        refine tg_steps 2 rfl ?_
        refine tg_callV rfl (m_no _ (by first | decide | exact rf_bor _ | exact rf_bd (by assumption))) rfl rfl rfl rfl rfl (fun v42 w42 q42 => ?_)
        obtain ⟨rfl, rfl⟩ := q42
        exact tg_iret (st := []) rfl rfl ⟨Nat.le_of_ble_eq_true rfl, Nat.le_of_ble_eq_true rfl⟩ (pM_refI (by first | (simp (decide := true) only [wTwo, decide_true, decide_false, cond_true, cond_false, Bool.false_eq_true, if_true, if_false, ite_true, ite_false, h5, h13, eq_true h18]; done) | (simp (decide := true) only [wTwo, decide_true, decide_false, cond_true, cond_false, Bool.false_eq_true, if_true, if_false, ite_true, ite_false, h5, h13, h18]; done) | (simp (decide := true) only [wTwo, decide_true, decide_false, cond_true, cond_false, Bool.false_eq_true, if_true, if_false, ite_true, ite_false, h5, h13, eq_true h18]; rfl) | rfl) (by first | decide | exact rf_bor _ | exact rf_bd (by assumption)))
