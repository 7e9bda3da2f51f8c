/-! the public methods, continued -/
theorem wi_T {t n : tp_H} (hm : hM n ≤ 7) (one kd f : Int32) (i : Nat) : gO hT (pNs i (becH (cpF t n) one kd f)) one = gO hT (pNs i (becH n one kd f)) one := eq_gT (by rw [pNs_M]; exact hm) (eq_pNs (a := becH (cpF t n) one kd f) hm (eq_becH (a := cpF t n) hm (eq_cpF t n) _ _ _) i) one
set_option maxRecDepth 100000 in
set_option maxHeartbeats 2000000 in
theorem c_goesAsTold {G : tg_G} {n p t : tp_H} {x : tp_X} {r : List tg_Cl} (hm : hM n ≤ 7) (ht : xTm x ≤ 16) (one kd f : Int32) : tg_C G 7 mX10_goesAsTold 0 0 [.ref 0, .int one, .int kd, .int f] (tp_cs n p t x, r) (fun v w => v = some (.int (tg_b (wiB n x one kd f))) ∧ ∃ t2, w = (tp_cs n p t2 x, r)) := by
  refine tg_intro okX10_goesAsTold (Nat.le_of_ble_eq_true rfl) ?_
  refine tg_steps 5 rfl ?_
  refine tg_callV rfl (c_think hm 0 (by decide)) rfl rfl rfl rfl rfl (fun v9 w9 q9 => ?_)
  obtain ⟨rfl, rfl⟩ := q9
  refine tg_steps 6 rfl ?_
  refine tg_callV rfl (c_become_2 (h := cpF t n) hm _ _ _) rfl rfl rfl rfl rfl (fun v22 w22 q22 => ?_)
  obtain ⟨rfl, rfl⟩ := q22
  refine tg_steps 2 rfl ?_
  refine tg_pkV [0, 1, 2, 3, 4] ?_
  refine tg_eqS (L2 := [(0, .ref 0), (1, .int one), (2, .int kd), (3, .int f), (4, .int (nI (0)))]) (st2 := []) (w2 := (tp_cs n p (pNs (0 - 1) (becH (cpF t n) one kd f)) x, r)) rfl rfl rfl ?_
  refine tg_down (φ := fun i : Nat => (wiB n x one kd f = aI (wiP n x one kd f) (xTm x - (i)) (i)) → tg_V G 7 mX10_goesAsTold 0 0 0 0 (fun v w => v = some (.int (tg_b (wiB n x one kd f))) ∧ ∃ t2, w = (tp_cs n p t2 x, r)) 28 [(0, .ref 0), (1, .int one), (2, .int kd), (3, .int f), (4, .int (nI (i)))] [] (tp_cs n p (pNs (i - 1) (becH (cpF t n) one kd f)) x, r)) (n := xTm x) ?_ ?_ 0 (Nat.zero_le _) (rfl)
  · intro hinv28
    refine tg_steps 3 rfl ?_
    refine tg_icge rfl rfl (fun h34 => ?_) (fun h34 => ?_)
    · refine tg_steps 1 rfl ?_
      exact tg_zret (st := []) rfl rfl ⟨Nat.le_of_ble_eq_true rfl, Nat.le_of_ble_eq_true rfl⟩ (by first | exact tg_b1 _ | exact Or.inl rfl | exact Or.inr rfl) ⟨by rw [hinv28, Nat.sub_self]; rfl, _, rfl⟩
    · exact absurd (nI_le (Nat.le_refl _) (by omega)) h34
  · intro i hi28 ih28 hinv28
    rw [show xTm x - i = xTm x - (i + 1) + 1 by omega, aI_succ] at hinv28
    refine tg_steps 3 rfl ?_
    refine tg_icge rfl rfl (fun h34 => ?_) (fun h34 => ?_)
    · exact absurd h34 (nI_ge hi28 (by omega))
    · refine tg_steps 1 rfl ?_
      refine tg_ifle rfl rfl (fun h39 => ?_) (fun h39 => ?_)
      · have hi0 : i = 0 := by
          rcases Nat.eq_zero_or_pos i with q | q
          · exact q
          · exact absurd h39 (nI_nle q (by omega))
        rw [show pNs (i - 1) (becH (cpF t n) one kd f) = pNs i (becH (cpF t n) one kd f) by rw [hi0]]
        refine tg_steps 4 rfl ?_
        refine tg_callV rfl (c_tileOf_2 (h := pNs i (becH (cpF t n) one kd f)) (pm7 (n := (becH (cpF t n) one kd f)) hm _) _) rfl rfl rfl rfl rfl (fun v61 w61 q61 => ?_)
        obtain ⟨rfl, rfl⟩ := q61
        rw [wi_T hm]
        refine tg_steps 3 rfl ?_
        refine tg_ialdN rfl rfl (i) rfl (by omega) (by decide) ?_
        refine tg_iceq rfl rfl (fun h71 => ?_) (fun h71 => ?_)
        · refine tg_steps 2 rfl ?_
          refine tg_pkV [0, 1, 2, 3, 4] ?_
          refine tg_eqS (L2 := [(0, .ref 0), (1, .int one), (2, .int kd), (3, .int f), (4, .int (nI (i + 1)))]) (st2 := []) (w2 := (tp_cs n p (pNs (i + 1 - 1) (becH (cpF t n) one kd f)) x, r)) (by first | rfl | (simp (decide := true) only [nI_succ, decide_true, decide_false, cond_true, cond_false, Bool.false_eq_true, if_true, if_false, ite_true, ite_false, eq_true h71]; done) | (simp (decide := true) only [nI_succ, decide_true, decide_false, cond_true, cond_false, Bool.false_eq_true, if_true, if_false, ite_true, ite_false, eq_true h71]; rfl)) rfl (by first | rfl | (simp (decide := true) only [nI_succ, decide_true, decide_false, cond_true, cond_false, Bool.false_eq_true, if_true, if_false, ite_true, ite_false, eq_true h71]; done) | (simp (decide := true) only [nI_succ, decide_true, decide_false, cond_true, cond_false, Bool.false_eq_true, if_true, if_false, ite_true, ite_false, eq_true h71]; rfl)) ?_
          exact ih28 (by simp only [wiP, decide_true, decide_false, cond_true, cond_false, Bool.false_eq_true, if_true, if_false, ite_true, ite_false, eq_true h71] at hinv28; exact hinv28)
        · refine tg_steps 1 rfl ?_
          exact tg_zret (st := []) rfl rfl ⟨Nat.le_of_ble_eq_true rfl, Nat.le_of_ble_eq_true rfl⟩ (by first | exact tg_b1 _ | exact Or.inl rfl | exact Or.inr rfl) ⟨by simp only [wiP, decide_true, decide_false, cond_true, cond_false, Bool.false_eq_true, if_true, if_false, ite_true, ite_false, h71] at hinv28; rw [hinv28]; rfl, _, rfl⟩
      · have hi0 : 0 < i := by
          rcases Nat.eq_zero_or_pos i with q | q
          · exact absurd (by rw [q]; decide) h39
          · exact q
        have hpn : pNt (pNs (i - 1) (becH (cpF t n) one kd f)) = pNs i (becH (cpF t n) one kd f) := by rw [← pNs_succ, show i - 1 + 1 = i by omega]
        refine tg_steps 3 rfl ?_
        refine tg_callV rfl (c_passNight_2 (h := pNs (i - 1) (becH (cpF t n) one kd f)) (pm7 (n := (becH (cpF t n) one kd f)) hm _)) rfl rfl rfl rfl rfl (fun v49 w49 q49 => ?_)
        obtain ⟨rfl, rfl⟩ := q49
        rw [hpn]
        refine tg_steps 5 rfl ?_
        refine tg_callV rfl (c_tileOf_2 (h := pNs i (becH (cpF t n) one kd f)) (pm7 (n := (becH (cpF t n) one kd f)) hm _) _) rfl rfl rfl rfl rfl (fun v61 w61 q61 => ?_)
        obtain ⟨rfl, rfl⟩ := q61
        rw [wi_T hm]
        refine tg_steps 3 rfl ?_
        refine tg_ialdN rfl rfl (i) rfl (by omega) (by decide) ?_
        refine tg_iceq rfl rfl (fun h71 => ?_) (fun h71 => ?_)
        · refine tg_steps 2 rfl ?_
          refine tg_pkV [0, 1, 2, 3, 4] ?_
          refine tg_eqS (L2 := [(0, .ref 0), (1, .int one), (2, .int kd), (3, .int f), (4, .int (nI (i + 1)))]) (st2 := []) (w2 := (tp_cs n p (pNs (i + 1 - 1) (becH (cpF t n) one kd f)) x, r)) (by first | rfl | (simp (decide := true) only [nI_succ, decide_true, decide_false, cond_true, cond_false, Bool.false_eq_true, if_true, if_false, ite_true, ite_false, eq_true h71]; done) | (simp (decide := true) only [nI_succ, decide_true, decide_false, cond_true, cond_false, Bool.false_eq_true, if_true, if_false, ite_true, ite_false, eq_true h71]; rfl)) rfl (by first | rfl | (simp (decide := true) only [nI_succ, decide_true, decide_false, cond_true, cond_false, Bool.false_eq_true, if_true, if_false, ite_true, ite_false, eq_true h71]; done) | (simp (decide := true) only [nI_succ, decide_true, decide_false, cond_true, cond_false, Bool.false_eq_true, if_true, if_false, ite_true, ite_false, eq_true h71]; rfl)) ?_
          exact ih28 (by simp only [wiP, decide_true, decide_false, cond_true, cond_false, Bool.false_eq_true, if_true, if_false, ite_true, ite_false, eq_true h71] at hinv28; exact hinv28)
        · refine tg_steps 1 rfl ?_
          exact tg_zret (st := []) rfl rfl ⟨Nat.le_of_ble_eq_true rfl, Nat.le_of_ble_eq_true rfl⟩ (by first | exact tg_b1 _ | exact Or.inl rfl | exact Or.inr rfl) ⟨by simp only [wiP, decide_true, decide_false, cond_true, cond_false, Bool.false_eq_true, if_true, if_false, ite_true, ite_false, h71] at hinv28; rw [hinv28]; rfl, _, rfl⟩
set_option maxRecDepth 100000 in
set_option maxHeartbeats 2000000 in
theorem q_whatIs {G : tg_G} {n p t : tp_H} {x : tp_X} {r : List tg_Cl} (hm : hM n ≤ 7) (ht : xTm x ≤ 16) (one : Int32) (what : Int32) : tg_C G 8 mX10_whatIs 0 0 [.ref 0, .int one, .int what] (tp_cs n p t x, r) (pQ (wHaW n one what) (.int (wHaW n one what)) (.int (aWha n x one what)) n p x (n) (p) (x) r) := by
  refine tg_intro okX10_whatIs (Nat.le_of_ble_eq_true rfl) ?_
  refine tg_steps 3 rfl ?_
  refine tg_callV rfl (c_has_0 _) rfl rfl rfl rfl rfl (fun v5 w5 q5 => ?_)
  obtain ⟨rfl, rfl⟩ := q5
  refine tg_ifbne rfl rfl (fun h8 => ?_) (fun h8 => ?_)
  · refine tg_steps 2 rfl ?_
    refine tg_call1 rfl (c_isUpTo _ _) rfl rfl rfl  (fun v19 w19 q19 => ?_)
    obtain ⟨rfl, rfl⟩ := q19
    refine tg_ifbne rfl rfl (fun h22 => ?_) (fun h22 => ?_)
    · refine tg_steps 3 rfl ?_
      refine tg_ifne rfl rfl (fun h35 => ?_) (fun h35 => ?_)
      · refine tg_steps 4 rfl ?_
        refine tg_pkV [0, 1, 2, 3, 4, 5] ?_
        refine tg_eqS (L2 := [(0, .ref 0), (1, .int one), (2, .int what), (3, .int (bI (whP n x one what) (0))), (4, .int (nI (laN what))), (5, .int (nI (0)))]) (st2 := []) (w2 := _) (by first | (rw [la_0 h35]; rfl) | (rw [la_1 h35]; rfl)) rfl rfl ?_
        refine tg_down (φ := fun g : Nat => ∀ (t2 : tp_H), tg_V G 8 mX10_whatIs 0 0 0 0 (pQ (wHaW n one what) (.int (wHaW n one what)) (.int (aWha n x one what)) n p x (n) (p) (x) r) 49 [(0, .ref 0), (1, .int one), (2, .int what), (3, .int (bI (whP n x one what) (g))), (4, .int (nI (laN what))), (5, .int (nI (g)))] [] (tp_cs n p (t2) x, r)) (n := laN what + 1) ?_ ?_ 0 (Nat.zero_le _) _ 
        · intro t2
          refine tg_steps 2 rfl ?_
          refine tg_icgt rfl rfl (fun h53 => ?_) (fun h53 => ?_)
          · refine tg_steps 1 rfl ?_
            exact tg_iret (st := []) rfl rfl ⟨Nat.le_of_ble_eq_true rfl, Nat.le_of_ble_eq_true rfl⟩ (pQ_ok (by first | (simp (decide := true) only [wHaW, decide_true, decide_false, cond_true, cond_false, Bool.false_eq_true, if_true, if_false, ite_true, ite_false, h8, h22, h35]; done) | (simp (decide := true) only [wHaW, decide_true, decide_false, cond_true, cond_false, Bool.false_eq_true, if_true, if_false, ite_true, ite_false, h8, h22, h35]; done) | (simp (decide := true) only [wHaW, decide_true, decide_false, cond_true, cond_false, Bool.false_eq_true, if_true, if_false, ite_true, ite_false, h8, h22, h35]; rfl) | rfl) rfl (eqH_rf _) (eqH_rf _) ⟨rfl, rfl, rfl, rfl, rfl, rfl⟩)
          · exact absurd (nI_lt (Nat.lt_succ_self _) (by have := laN_le what; omega)) h53
        · intro g hi49 ih49 t2
          refine tg_steps 2 rfl ?_
          refine tg_icgt rfl rfl (fun h53 => ?_) (fun h53 => ?_)
          · exact absurd h53 (nI_nlt (a := laN what) (b := g) (by omega) (by have := laN_le what; omega))
          · refine tg_steps 1 rfl ?_
            refine tg_ifne rfl rfl (fun h57 => ?_) (fun h57 => ?_)
            · refine tg_steps 3 rfl ?_
              refine tg_callV rfl (c_kindOf_0 hm _) rfl rfl rfl rfl rfl (fun v70 w70 q70 => ?_)
              obtain ⟨rfl, rfl⟩ := q70
              refine tg_steps 2 rfl ?_
              refine tg_ifne rfl rfl (fun h76 => ?_) (fun h76 => ?_)
              · refine tg_steps 6 rfl ?_
                refine tg_callV rfl (c_goesAsTold hm ht _ _ _) rfl rfl rfl rfl rfl (fun v100 w100 q100 => ?_)
                obtain ⟨rfl, t3, rfl⟩ := q100
                refine tg_ifbeq rfl rfl (fun h103 => ?_) (fun h103 => ?_)
                · refine tg_steps 2 rfl ?_
                  refine tg_pkV [0, 1, 2, 3, 4, 5] ?_
                  refine tg_eqS (L2 := [(0, .ref 0), (1, .int one), (2, .int what), (3, .int (bI (whP n x one what) (g + 1))), (4, .int (nI (laN what))), (5, .int (nI (g + 1)))]) (st2 := []) (w2 := _) (by first | exact absurd h35 h57 | exact absurd h57 h35 | exact absurd h57 h76 | exact absurd h76 h57 | (simp (decide := true) only [nI_succ, bI_succ, whP, decide_true, decide_false, cond_true, cond_false, Bool.false_eq_true, if_true, if_false, ite_true, ite_false, h8, h22, h35, h57, h76, h103]; done) | (simp (decide := true) only [nI_succ, bI_succ, whP, decide_true, decide_false, cond_true, cond_false, Bool.false_eq_true, if_true, if_false, ite_true, ite_false, h8, h22, h35, h57, h76, h103]; rfl)) rfl rfl ?_
                  exact ih49 _
                · refine tg_steps 8 rfl ?_
                  refine tg_pkV [0, 1, 2, 3, 4, 5] ?_
                  refine tg_eqS (L2 := [(0, .ref 0), (1, .int one), (2, .int what), (3, .int (bI (whP n x one what) (g + 1))), (4, .int (nI (laN what))), (5, .int (nI (g + 1)))]) (st2 := []) (w2 := _) (by first | exact absurd h35 h57 | exact absurd h57 h35 | exact absurd h57 h76 | exact absurd h76 h57 | (simp (decide := true) only [nI_succ, bI_succ, whP, decide_true, decide_false, cond_true, cond_false, Bool.false_eq_true, if_true, if_false, ite_true, ite_false, h8, h22, h35, h57, h76, h103]; done) | (simp (decide := true) only [nI_succ, bI_succ, whP, decide_true, decide_false, cond_true, cond_false, Bool.false_eq_true, if_true, if_false, ite_true, ite_false, h8, h22, h35, h57, h76, h103]; rfl)) rfl rfl ?_
                  exact ih49 _
              · refine tg_steps 3 rfl ?_
                refine tg_callV rfl (c_figureOf_0 hm _) rfl rfl rfl rfl rfl (fun v84 w84 q84 => ?_)
                obtain ⟨rfl, rfl⟩ := q84
                refine tg_steps 6 rfl ?_
                refine tg_callV rfl (c_goesAsTold hm ht _ _ _) rfl rfl rfl rfl rfl (fun v100 w100 q100 => ?_)
                obtain ⟨rfl, t3, rfl⟩ := q100
                refine tg_ifbeq rfl rfl (fun h103 => ?_) (fun h103 => ?_)
                · refine tg_steps 2 rfl ?_
                  refine tg_pkV [0, 1, 2, 3, 4, 5] ?_
                  refine tg_eqS (L2 := [(0, .ref 0), (1, .int one), (2, .int what), (3, .int (bI (whP n x one what) (g + 1))), (4, .int (nI (laN what))), (5, .int (nI (g + 1)))]) (st2 := []) (w2 := _) (by first | exact absurd h35 h57 | exact absurd h57 h35 | exact absurd h57 h76 | exact absurd h76 h57 | (simp (decide := true) only [nI_succ, bI_succ, whP, decide_true, decide_false, cond_true, cond_false, Bool.false_eq_true, if_true, if_false, ite_true, ite_false, h8, h22, h35, h57, eq_true h76, h103]; done) | (simp (decide := true) only [nI_succ, bI_succ, whP, decide_true, decide_false, cond_true, cond_false, Bool.false_eq_true, if_true, if_false, ite_true, ite_false, h8, h22, h35, h57, eq_true h76, h103]; rfl)) rfl rfl ?_
                  exact ih49 _
                · refine tg_steps 8 rfl ?_
                  refine tg_pkV [0, 1, 2, 3, 4, 5] ?_
                  refine tg_eqS (L2 := [(0, .ref 0), (1, .int one), (2, .int what), (3, .int (bI (whP n x one what) (g + 1))), (4, .int (nI (laN what))), (5, .int (nI (g + 1)))]) (st2 := []) (w2 := _) (by first | exact absurd h35 h57 | exact absurd h57 h35 | exact absurd h57 h76 | exact absurd h76 h57 | (simp (decide := true) only [nI_succ, bI_succ, whP, decide_true, decide_false, cond_true, cond_false, Bool.false_eq_true, if_true, if_false, ite_true, ite_false, h8, h22, h35, h57, eq_true h76, h103]; done) | (simp (decide := true) only [nI_succ, bI_succ, whP, decide_true, decide_false, cond_true, cond_false, Bool.false_eq_true, if_true, if_false, ite_true, ite_false, h8, h22, h35, h57, eq_true h76, h103]; rfl)) rfl rfl ?_
                  exact ih49 _
            · refine tg_steps 4 rfl ?_
              refine tg_ifne rfl rfl (fun h76 => ?_) (fun h76 => ?_)
              · refine tg_steps 6 rfl ?_
                refine tg_callV rfl (c_goesAsTold hm ht _ _ _) rfl rfl rfl rfl rfl (fun v100 w100 q100 => ?_)
                obtain ⟨rfl, t3, rfl⟩ := q100
                refine tg_ifbeq rfl rfl (fun h103 => ?_) (fun h103 => ?_)
                · refine tg_steps 2 rfl ?_
                  refine tg_pkV [0, 1, 2, 3, 4, 5] ?_
                  refine tg_eqS (L2 := [(0, .ref 0), (1, .int one), (2, .int what), (3, .int (bI (whP n x one what) (g + 1))), (4, .int (nI (laN what))), (5, .int (nI (g + 1)))]) (st2 := []) (w2 := _) (by first | exact absurd h35 h57 | exact absurd h57 h35 | exact absurd h57 h76 | exact absurd h76 h57 | (simp (decide := true) only [nI_succ, bI_succ, whP, decide_true, decide_false, cond_true, cond_false, Bool.false_eq_true, if_true, if_false, ite_true, ite_false, h8, h22, h35, eq_true h57, h76, h103]; done) | (simp (decide := true) only [nI_succ, bI_succ, whP, decide_true, decide_false, cond_true, cond_false, Bool.false_eq_true, if_true, if_false, ite_true, ite_false, h8, h22, h35, eq_true h57, h76, h103]; rfl)) rfl rfl ?_
                  exact ih49 _
                · refine tg_steps 8 rfl ?_
                  refine tg_pkV [0, 1, 2, 3, 4, 5] ?_
                  refine tg_eqS (L2 := [(0, .ref 0), (1, .int one), (2, .int what), (3, .int (bI (whP n x one what) (g + 1))), (4, .int (nI (laN what))), (5, .int (nI (g + 1)))]) (st2 := []) (w2 := _) (by first | exact absurd h35 h57 | exact absurd h57 h35 | exact absurd h57 h76 | exact absurd h76 h57 | (simp (decide := true) only [nI_succ, bI_succ, whP, decide_true, decide_false, cond_true, cond_false, Bool.false_eq_true, if_true, if_false, ite_true, ite_false, h8, h22, h35, eq_true h57, h76, h103]; done) | (simp (decide := true) only [nI_succ, bI_succ, whP, decide_true, decide_false, cond_true, cond_false, Bool.false_eq_true, if_true, if_false, ite_true, ite_false, h8, h22, h35, eq_true h57, h76, h103]; rfl)) rfl rfl ?_
                  exact ih49 _
              · refine tg_steps 3 rfl ?_
                refine tg_callV rfl (c_figureOf_0 hm _) rfl rfl rfl rfl rfl (fun v84 w84 q84 => ?_)
                obtain ⟨rfl, rfl⟩ := q84
                refine tg_steps 6 rfl ?_
                refine tg_callV rfl (c_goesAsTold hm ht _ _ _) rfl rfl rfl rfl rfl (fun v100 w100 q100 => ?_)
                obtain ⟨rfl, t3, rfl⟩ := q100
                refine tg_ifbeq rfl rfl (fun h103 => ?_) (fun h103 => ?_)
                · refine tg_steps 2 rfl ?_
                  refine tg_pkV [0, 1, 2, 3, 4, 5] ?_
                  refine tg_eqS (L2 := [(0, .ref 0), (1, .int one), (2, .int what), (3, .int (bI (whP n x one what) (g + 1))), (4, .int (nI (laN what))), (5, .int (nI (g + 1)))]) (st2 := []) (w2 := _) (by first | exact absurd h35 h57 | exact absurd h57 h35 | exact absurd h57 h76 | exact absurd h76 h57 | (simp (decide := true) only [nI_succ, bI_succ, whP, decide_true, decide_false, cond_true, cond_false, Bool.false_eq_true, if_true, if_false, ite_true, ite_false, h8, h22, h35, eq_true h57, eq_true h76, h103]; done) | (simp (decide := true) only [nI_succ, bI_succ, whP, decide_true, decide_false, cond_true, cond_false, Bool.false_eq_true, if_true, if_false, ite_true, ite_false, h8, h22, h35, eq_true h57, eq_true h76, h103]; rfl)) rfl rfl ?_
                  exact ih49 _
                · refine tg_steps 8 rfl ?_
                  refine tg_pkV [0, 1, 2, 3, 4, 5] ?_
                  refine tg_eqS (L2 := [(0, .ref 0), (1, .int one), (2, .int what), (3, .int (bI (whP n x one what) (g + 1))), (4, .int (nI (laN what))), (5, .int (nI (g + 1)))]) (st2 := []) (w2 := _) (by first | exact absurd h35 h57 | exact absurd h57 h35 | exact absurd h57 h76 | exact absurd h76 h57 | (simp (decide := true) only [nI_succ, bI_succ, whP, decide_true, decide_false, cond_true, cond_false, Bool.false_eq_true, if_true, if_false, ite_true, ite_false, h8, h22, h35, eq_true h57, eq_true h76, h103]; done) | (simp (decide := true) only [nI_succ, bI_succ, whP, decide_true, decide_false, cond_true, cond_false, Bool.false_eq_true, if_true, if_false, ite_true, ite_false, h8, h22, h35, eq_true h57, eq_true h76, h103]; rfl)) rfl rfl ?_
                  exact ih49 _
      · refine tg_steps 5 rfl ?_
        refine tg_pkV [0, 1, 2, 3, 4, 5] ?_
        refine tg_eqS (L2 := [(0, .ref 0), (1, .int one), (2, .int what), (3, .int (bI (whP n x one what) (0))), (4, .int (nI (laN what))), (5, .int (nI (0)))]) (st2 := []) (w2 := _) (by first | (rw [la_0 h35]; rfl) | (rw [la_1 h35]; rfl)) rfl rfl ?_
        refine tg_down (φ := fun g : Nat => ∀ (t2 : tp_H), tg_V G 8 mX10_whatIs 0 0 0 0 (pQ (wHaW n one what) (.int (wHaW n one what)) (.int (aWha n x one what)) n p x (n) (p) (x) r) 49 [(0, .ref 0), (1, .int one), (2, .int what), (3, .int (bI (whP n x one what) (g))), (4, .int (nI (laN what))), (5, .int (nI (g)))] [] (tp_cs n p (t2) x, r)) (n := laN what + 1) ?_ ?_ 0 (Nat.zero_le _) _ 
        · intro t2
          refine tg_steps 2 rfl ?_
          refine tg_icgt rfl rfl (fun h53 => ?_) (fun h53 => ?_)
          · refine tg_steps 1 rfl ?_
            exact tg_iret (st := []) rfl rfl ⟨Nat.le_of_ble_eq_true rfl, Nat.le_of_ble_eq_true rfl⟩ (pQ_ok (by first | (simp (decide := true) only [wHaW, decide_true, decide_false, cond_true, cond_false, Bool.false_eq_true, if_true, if_false, ite_true, ite_false, h8, h22, eq_true h35]; done) | (simp (decide := true) only [wHaW, decide_true, decide_false, cond_true, cond_false, Bool.false_eq_true, if_true, if_false, ite_true, ite_false, h8, h22, h35]; done) | (simp (decide := true) only [wHaW, decide_true, decide_false, cond_true, cond_false, Bool.false_eq_true, if_true, if_false, ite_true, ite_false, h8, h22, eq_true h35]; rfl) | rfl) rfl (eqH_rf _) (eqH_rf _) ⟨rfl, rfl, rfl, rfl, rfl, rfl⟩)
          · exact absurd (nI_lt (Nat.lt_succ_self _) (by have := laN_le what; omega)) h53
        · intro g hi49 ih49 t2
          refine tg_steps 2 rfl ?_
          refine tg_icgt rfl rfl (fun h53 => ?_) (fun h53 => ?_)
          · exact absurd h53 (nI_nlt (a := laN what) (b := g) (by omega) (by have := laN_le what; omega))
          · refine tg_steps 1 rfl ?_
            refine tg_ifne rfl rfl (fun h57 => ?_) (fun h57 => ?_)
            · refine tg_steps 3 rfl ?_
              refine tg_callV rfl (c_kindOf_0 hm _) rfl rfl rfl rfl rfl (fun v70 w70 q70 => ?_)
              obtain ⟨rfl, rfl⟩ := q70
              refine tg_steps 2 rfl ?_
              refine tg_ifne rfl rfl (fun h76 => ?_) (fun h76 => ?_)
              · refine tg_steps 6 rfl ?_
                refine tg_callV rfl (c_goesAsTold hm ht _ _ _) rfl rfl rfl rfl rfl (fun v100 w100 q100 => ?_)
                obtain ⟨rfl, t3, rfl⟩ := q100
                refine tg_ifbeq rfl rfl (fun h103 => ?_) (fun h103 => ?_)
                · refine tg_steps 2 rfl ?_
                  refine tg_pkV [0, 1, 2, 3, 4, 5] ?_
                  refine tg_eqS (L2 := [(0, .ref 0), (1, .int one), (2, .int what), (3, .int (bI (whP n x one what) (g + 1))), (4, .int (nI (laN what))), (5, .int (nI (g + 1)))]) (st2 := []) (w2 := _) (by first | exact absurd h35 h57 | exact absurd h57 h35 | exact absurd h57 h76 | exact absurd h76 h57 | (simp (decide := true) only [nI_succ, bI_succ, whP, decide_true, decide_false, cond_true, cond_false, Bool.false_eq_true, if_true, if_false, ite_true, ite_false, h8, h22, eq_true h35, h57, h76, h103]; done) | (simp (decide := true) only [nI_succ, bI_succ, whP, decide_true, decide_false, cond_true, cond_false, Bool.false_eq_true, if_true, if_false, ite_true, ite_false, h8, h22, eq_true h35, h57, h76, h103]; rfl)) rfl rfl ?_
                  exact ih49 _
                · refine tg_steps 8 rfl ?_
                  refine tg_pkV [0, 1, 2, 3, 4, 5] ?_
                  refine tg_eqS (L2 := [(0, .ref 0), (1, .int one), (2, .int what), (3, .int (bI (whP n x one what) (g + 1))), (4, .int (nI (laN what))), (5, .int (nI (g + 1)))]) (st2 := []) (w2 := _) (by first | exact absurd h35 h57 | exact absurd h57 h35 | exact absurd h57 h76 | exact absurd h76 h57 | (simp (decide := true) only [nI_succ, bI_succ, whP, decide_true, decide_false, cond_true, cond_false, Bool.false_eq_true, if_true, if_false, ite_true, ite_false, h8, h22, eq_true h35, h57, h76, h103]; done) | (simp (decide := true) only [nI_succ, bI_succ, whP, decide_true, decide_false, cond_true, cond_false, Bool.false_eq_true, if_true, if_false, ite_true, ite_false, h8, h22, eq_true h35, h57, h76, h103]; rfl)) rfl rfl ?_
                  exact ih49 _
              · refine tg_steps 3 rfl ?_
                refine tg_callV rfl (c_figureOf_0 hm _) rfl rfl rfl rfl rfl (fun v84 w84 q84 => ?_)
                obtain ⟨rfl, rfl⟩ := q84
                refine tg_steps 6 rfl ?_
                refine tg_callV rfl (c_goesAsTold hm ht _ _ _) rfl rfl rfl rfl rfl (fun v100 w100 q100 => ?_)
                obtain ⟨rfl, t3, rfl⟩ := q100
                refine tg_ifbeq rfl rfl (fun h103 => ?_) (fun h103 => ?_)
                · refine tg_steps 2 rfl ?_
                  refine tg_pkV [0, 1, 2, 3, 4, 5] ?_
                  refine tg_eqS (L2 := [(0, .ref 0), (1, .int one), (2, .int what), (3, .int (bI (whP n x one what) (g + 1))), (4, .int (nI (laN what))), (5, .int (nI (g + 1)))]) (st2 := []) (w2 := _) (by first | exact absurd h35 h57 | exact absurd h57 h35 | exact absurd h57 h76 | exact absurd h76 h57 | (simp (decide := true) only [nI_succ, bI_succ, whP, decide_true, decide_false, cond_true, cond_false, Bool.false_eq_true, if_true, if_false, ite_true, ite_false, h8, h22, eq_true h35, h57, eq_true h76, h103]; done) | (simp (decide := true) only [nI_succ, bI_succ, whP, decide_true, decide_false, cond_true, cond_false, Bool.false_eq_true, if_true, if_false, ite_true, ite_false, h8, h22, eq_true h35, h57, eq_true h76, h103]; rfl)) rfl rfl ?_
                  exact ih49 _
                · refine tg_steps 8 rfl ?_
                  refine tg_pkV [0, 1, 2, 3, 4, 5] ?_
                  refine tg_eqS (L2 := [(0, .ref 0), (1, .int one), (2, .int what), (3, .int (bI (whP n x one what) (g + 1))), (4, .int (nI (laN what))), (5, .int (nI (g + 1)))]) (st2 := []) (w2 := _) (by first | exact absurd h35 h57 | exact absurd h57 h35 | exact absurd h57 h76 | exact absurd h76 h57 | (simp (decide := true) only [nI_succ, bI_succ, whP, decide_true, decide_false, cond_true, cond_false, Bool.false_eq_true, if_true, if_false, ite_true, ite_false, h8, h22, eq_true h35, h57, eq_true h76, h103]; done) | (simp (decide := true) only [nI_succ, bI_succ, whP, decide_true, decide_false, cond_true, cond_false, Bool.false_eq_true, if_true, if_false, ite_true, ite_false, h8, h22, eq_true h35, h57, eq_true h76, h103]; rfl)) rfl rfl ?_
                  exact ih49 _
            · refine tg_steps 4 rfl ?_
              refine tg_ifne rfl rfl (fun h76 => ?_) (fun h76 => ?_)
              · refine tg_steps 6 rfl ?_
                refine tg_callV rfl (c_goesAsTold hm ht _ _ _) rfl rfl rfl rfl rfl (fun v100 w100 q100 => ?_)
                obtain ⟨rfl, t3, rfl⟩ := q100
                refine tg_ifbeq rfl rfl (fun h103 => ?_) (fun h103 => ?_)
                · refine tg_steps 2 rfl ?_
                  refine tg_pkV [0, 1, 2, 3, 4, 5] ?_
                  refine tg_eqS (L2 := [(0, .ref 0), (1, .int one), (2, .int what), (3, .int (bI (whP n x one what) (g + 1))), (4, .int (nI (laN what))), (5, .int (nI (g + 1)))]) (st2 := []) (w2 := _) (by first | exact absurd h35 h57 | exact absurd h57 h35 | exact absurd h57 h76 | exact absurd h76 h57 | (simp (decide := true) only [nI_succ, bI_succ, whP, decide_true, decide_false, cond_true, cond_false, Bool.false_eq_true, if_true, if_false, ite_true, ite_false, h8, h22, eq_true h35, eq_true h57, h76, h103]; done) | (simp (decide := true) only [nI_succ, bI_succ, whP, decide_true, decide_false, cond_true, cond_false, Bool.false_eq_true, if_true, if_false, ite_true, ite_false, h8, h22, eq_true h35, eq_true h57, h76, h103]; rfl)) rfl rfl ?_
                  exact ih49 _
                · refine tg_steps 8 rfl ?_
                  refine tg_pkV [0, 1, 2, 3, 4, 5] ?_
                  refine tg_eqS (L2 := [(0, .ref 0), (1, .int one), (2, .int what), (3, .int (bI (whP n x one what) (g + 1))), (4, .int (nI (laN what))), (5, .int (nI (g + 1)))]) (st2 := []) (w2 := _) (by first | exact absurd h35 h57 | exact absurd h57 h35 | exact absurd h57 h76 | exact absurd h76 h57 | (simp (decide := true) only [nI_succ, bI_succ, whP, decide_true, decide_false, cond_true, cond_false, Bool.false_eq_true, if_true, if_false, ite_true, ite_false, h8, h22, eq_true h35, eq_true h57, h76, h103]; done) | (simp (decide := true) only [nI_succ, bI_succ, whP, decide_true, decide_false, cond_true, cond_false, Bool.false_eq_true, if_true, if_false, ite_true, ite_false, h8, h22, eq_true h35, eq_true h57, h76, h103]; rfl)) rfl rfl ?_
                  exact ih49 _
              · refine tg_steps 3 rfl ?_
                refine tg_callV rfl (c_figureOf_0 hm _) rfl rfl rfl rfl rfl (fun v84 w84 q84 => ?_)
                obtain ⟨rfl, rfl⟩ := q84
                refine tg_steps 6 rfl ?_
                refine tg_callV rfl (c_goesAsTold hm ht _ _ _) rfl rfl rfl rfl rfl (fun v100 w100 q100 => ?_)
                obtain ⟨rfl, t3, rfl⟩ := q100
                refine tg_ifbeq rfl rfl (fun h103 => ?_) (fun h103 => ?_)
                · refine tg_steps 2 rfl ?_
                  refine tg_pkV [0, 1, 2, 3, 4, 5] ?_
                  refine tg_eqS (L2 := [(0, .ref 0), (1, .int one), (2, .int what), (3, .int (bI (whP n x one what) (g + 1))), (4, .int (nI (laN what))), (5, .int (nI (g + 1)))]) (st2 := []) (w2 := _) (by first | exact absurd h35 h57 | exact absurd h57 h35 | exact absurd h57 h76 | exact absurd h76 h57 | (simp (decide := true) only [nI_succ, bI_succ, whP, decide_true, decide_false, cond_true, cond_false, Bool.false_eq_true, if_true, if_false, ite_true, ite_false, h8, h22, eq_true h35, eq_true h57, eq_true h76, h103]; done) | (simp (decide := true) only [nI_succ, bI_succ, whP, decide_true, decide_false, cond_true, cond_false, Bool.false_eq_true, if_true, if_false, ite_true, ite_false, h8, h22, eq_true h35, eq_true h57, eq_true h76, h103]; rfl)) rfl rfl ?_
                  exact ih49 _
                · refine tg_steps 8 rfl ?_
                  refine tg_pkV [0, 1, 2, 3, 4, 5] ?_
                  refine tg_eqS (L2 := [(0, .ref 0), (1, .int one), (2, .int what), (3, .int (bI (whP n x one what) (g + 1))), (4, .int (nI (laN what))), (5, .int (nI (g + 1)))]) (st2 := []) (w2 := _) (by first | exact absurd h35 h57 | exact absurd h57 h35 | exact absurd h57 h76 | exact absurd h76 h57 | (simp (decide := true) only [nI_succ, bI_succ, whP, decide_true, decide_false, cond_true, cond_false, Bool.false_eq_true, if_true, if_false, ite_true, ite_false, h8, h22, eq_true h35, eq_true h57, eq_true h76, h103]; done) | (simp (decide := true) only [nI_succ, bI_succ, whP, decide_true, decide_false, cond_true, cond_false, Bool.false_eq_true, if_true, if_false, ite_true, ite_false, h8, h22, eq_true h35, eq_true h57, eq_true h76, h103]; rfl)) rfl rfl ?_
                  exact ih49 _
    · refine tg_steps 2 rfl ?_
      refine tg_callV rfl (c_refuse (-2) (by decide)) rfl rfl rfl rfl rfl (fun v28 w28 q28 => ?_)
      obtain ⟨rfl, rfl⟩ := q28
      exact tg_iret (st := []) rfl rfl ⟨Nat.le_of_ble_eq_true rfl, Nat.le_of_ble_eq_true rfl⟩ (pQ_refI (by first | (simp (decide := true) only [wHaW, decide_true, decide_false, cond_true, cond_false, Bool.false_eq_true, if_true, if_false, ite_true, ite_false, h8, h22]; done) | (simp (decide := true) only [wHaW, decide_true, decide_false, cond_true, cond_false, Bool.false_eq_true, if_true, if_false, ite_true, ite_false, h8, h22]; done) | (simp (decide := true) only [wHaW, decide_true, decide_false, cond_true, cond_false, Bool.false_eq_true, if_true, if_false, ite_true, ite_false, h8, h22]; rfl) | rfl) (by first | decide | exact rf_bor _))
  · refine tg_steps 2 rfl ?_
    refine tg_callV rfl (c_refuse (-1) (by decide)) rfl rfl rfl rfl rfl (fun v13 w13 q13 => ?_)
    obtain ⟨rfl, rfl⟩ := q13
    exact tg_iret (st := []) rfl rfl ⟨Nat.le_of_ble_eq_true rfl, Nat.le_of_ble_eq_true rfl⟩ (pQ_refI (by first | (simp (decide := true) only [wHaW, decide_true, decide_false, cond_true, cond_false, Bool.false_eq_true, if_true, if_false, ite_true, ite_false, h8]; done) | (simp (decide := true) only [wHaW, decide_true, decide_false, cond_true, cond_false, Bool.false_eq_true, if_true, if_false, ite_true, ite_false, h8]; done) | (simp (decide := true) only [wHaW, decide_true, decide_false, cond_true, cond_false, Bool.false_eq_true, if_true, if_false, ite_true, ite_false, h8]; rfl) | rfl) (by first | decide | exact rf_bor _))
