/-! the public methods of the reference, continued -/
def pdM (a b : Int64) (part : Int32) : Int64 := (if part = 0 then a else b) / (eu a b 128).1
theorem eu_lrem (a b : Int64) : True := trivial
set_option maxRecDepth 100000 in
set_option maxHeartbeats 2000000 in
theorem m_divisor {G : tg_G} {w : tg_W} (a b : Int64) (hE : lg_cmp (eu a b 128).2 0 = 0) : tg_C G 1 mX11_divisor 0 0 [.long a, .long b] w (fun v w2 => v = some (.long (eu a b 128).1) ∧ w2 = w) := by
  obtain ⟨N, hN⟩ : ∃ N : Nat, N = 128 := ⟨128, rfl⟩
  rw [← hN] at hE ⊢
  refine tg_intro okX11_divisor (Nat.le_of_ble_eq_true rfl) ?_
  refine tg_steps 4 rfl ?_
  refine tg_pkV [4, 6] ?_
  refine tg_eqS (L2 := [(4, .long (eu a b (0)).1), (6, .long (eu a b (0)).2)]) (st2 := []) (w2 := w) rfl rfl rfl ?_
  refine tg_down (φ := fun i : Nat => tg_V G 1 mX11_divisor 0 0 0 0 (fun v w2 => v = some (.long (eu a b N).1) ∧ w2 = w) 6 [(4, .long (eu a b (i)).1), (6, .long (eu a b (i)).2)] [] w) (n := N) ?_ ?_ 0 (Nat.zero_le _) 
  · refine tg_steps 3 rfl ?_
    refine tg_ifeq rfl rfl (fun h10 => ?_) (fun h10 => ?_)
    · refine tg_steps 1 rfl ?_
      exact tg_lret (st := []) rfl rfl ⟨Nat.le_of_ble_eq_true rfl, Nat.le_of_ble_eq_true rfl⟩ ⟨rfl, rfl⟩
    · exact absurd hE h10
  · intro i hi6 ih6
    refine tg_steps 3 rfl ?_
    refine tg_ifeq rfl rfl (fun h10 => ?_) (fun h10 => ?_)
    · have hend : eu a b N = eu a b i := by
        have := eu_stop h10 (N - i)
        rw [show i + (N - i) = N by omega] at this
        exact this
      refine tg_steps 1 rfl ?_
      exact tg_lret (st := []) rfl rfl ⟨Nat.le_of_ble_eq_true rfl, Nat.le_of_ble_eq_true rfl⟩ ⟨by rw [hend], rfl⟩
    · refine tg_steps 2 rfl ?_
      refine tg_lremv rfl (lc_ne h10) ?_
      refine tg_steps 6 rfl ?_
      refine tg_pkV [4, 6] ?_
      refine tg_eqS (L2 := [(4, .long (eu a b (i + 1)).1), (6, .long (eu a b (i + 1)).2)]) (st2 := []) (w2 := w) (by first | (simp (decide := true) only [nI_succ, eu_succ, decide_true, decide_false, cond_true, cond_false, Bool.false_eq_true, if_true, if_false, ite_true, ite_false, h10]; done) | (simp (decide := true) only [nI_succ, eu_succ, decide_true, decide_false, cond_true, cond_false, Bool.false_eq_true, if_true, if_false, ite_true, ite_false, h10]; rfl) | rfl) rfl (by first | (simp (decide := true) only [nI_succ, eu_succ, decide_true, decide_false, cond_true, cond_false, Bool.false_eq_true, if_true, if_false, ite_true, ite_false, h10]; done) | (simp (decide := true) only [nI_succ, eu_succ, decide_true, decide_false, cond_true, cond_false, Bool.false_eq_true, if_true, if_false, ite_true, ite_false, h10]; rfl) | rfl) ?_
      exact ih6
set_option maxRecDepth 100000 in
set_option maxHeartbeats 2000000 in
theorem m_partOf {G : tg_G} {w : tg_W} (a b : Int64) (part : Int32) (hE : lg_cmp (eu a b 128).2 0 = 0) (hd : ¬ (eu a b 128).1 = 0) : tg_C G 2 mX11_partOf 0 0 [.long a, .long b, .int part] w (fun v w2 => v = some (.long (pdM a b part)) ∧ w2 = w) := by
  refine tg_intro okX11_partOf (Nat.le_of_ble_eq_true rfl) ?_
  refine tg_steps 1 rfl ?_
  refine tg_ifne rfl rfl (fun h2 => ?_) (fun h2 => ?_)
  · refine tg_steps 3 rfl ?_
    refine tg_call1 rfl (m_divisor _ _ hE) rfl rfl rfl  (fun v12 w12 q12 => ?_)
    obtain ⟨rfl, rfl⟩ := q12
    refine tg_ldivv rfl hd ?_
    exact tg_lret (st := []) rfl rfl ⟨Nat.le_of_ble_eq_true rfl, Nat.le_of_ble_eq_true rfl⟩ ⟨by first | rfl | (simp (decide := true) only [pdM, decide_true, decide_false, cond_true, cond_false, Bool.false_eq_true, if_true, if_false, ite_true, ite_false, h2]; done) | (simp (decide := true) only [pdM, decide_true, decide_false, cond_true, cond_false, Bool.false_eq_true, if_true, if_false, ite_true, ite_false, h2]; done), rfl⟩
  · refine tg_steps 4 rfl ?_
    refine tg_call1 rfl (m_divisor _ _ hE) rfl rfl rfl  (fun v12 w12 q12 => ?_)
    obtain ⟨rfl, rfl⟩ := q12
    refine tg_ldivv rfl hd ?_
    exact tg_lret (st := []) rfl rfl ⟨Nat.le_of_ble_eq_true rfl, Nat.le_of_ble_eq_true rfl⟩ ⟨by first | rfl | (simp (decide := true) only [pdM, decide_true, decide_false, cond_true, cond_false, Bool.false_eq_true, if_true, if_false, ite_true, ite_false, eq_true h2]; done) | (simp (decide := true) only [pdM, decide_true, decide_false, cond_true, cond_false, Bool.false_eq_true, if_true, if_false, ite_true, ite_false, h2]; done), rfl⟩
set_option maxRecDepth 100000 in
set_option maxHeartbeats 2000000 in
theorem r_mean {G : tg_G} {l : List tg_Cl} {h : tp_H} {y : tp_Y} (hw : wfH h) (hE : ¬ hM h = 0 → lg_cmp (eu (meS h (hM h)) (nI (hM h)).toInt64 128).2 0 = 0 ∧ ¬ (eu (meS h (hM h)) (nI (hM h)).toInt64 128).1 = 0) (part : Int32) : tg_C G 4 mX11_mean 0 0 [.ref 64, .int part] (l, tm_cs h y) (pM l (wWh part) (.long (lrf (wWh part))) (.long ((if hM h = 0 then part.toInt64 else pdM (meS h (hM h)) (nI (hM h)).toInt64 part))) h y (h) (y)) := by
  have hm := hw.1
  refine tg_intro okX11_mean (Nat.le_of_ble_eq_true rfl) ?_
  refine tg_steps 3 rfl ?_
  refine tg_call1 rfl (m_isIn _ _ _) rfl rfl rfl  (fun v3 w3 q3 => ?_)
  obtain ⟨rfl, rfl⟩ := q3
  try rw [inB_up]
  refine tg_ifbne rfl rfl (fun h6 => ?_) (fun h6 => ?_)
  · refine tg_steps 4 rfl ?_
    refine tg_pkV [0, 1, 2, 4] ?_
    refine tg_eqS (L2 := [(0, .ref 64), (1, .int part), (2, .long (meS h (0))), (4, .int (nI (0)))]) (st2 := []) (w2 := (l, tm_cs h y)) rfl rfl rfl ?_
    refine tg_down (φ := fun i : Nat => tg_V G 4 mX11_mean 0 0 0 0 (pM l (wWh part) (.long (lrf (wWh part))) (.long ((if hM h = 0 then part.toInt64 else pdM (meS h (hM h)) (nI (hM h)).toInt64 part))) h y (h) (y)) 21 [(0, .ref 64), (1, .int part), (2, .long (meS h (i))), (4, .int (nI (i)))] [] (l, tm_cs h y)) (n := hM h) ?_ ?_ 0 (Nat.zero_le _) 
    · refine tg_steps 3 rfl ?_
      refine tg_icge rfl rfl (fun h27 => ?_) (fun h27 => ?_)
      · refine tg_steps 2 rfl ?_
        refine tg_ifne rfl rfl (fun h50 => ?_) (fun h50 => ?_)
        · have h0 : ¬ hM h = 0 := fun e => h50 (by rw [e]; rfl)
          refine tg_steps 5 rfl ?_
          refine tg_call1 rfl (m_partOf _ _ _ (hE h0).1 (hE h0).2) rfl rfl rfl  (fun v65 w65 q65 => ?_)
          obtain ⟨rfl, rfl⟩ := q65
          exact tg_lret (st := []) rfl rfl ⟨Nat.le_of_ble_eq_true rfl, Nat.le_of_ble_eq_true rfl⟩ (pM_ok (by first | (simp (decide := true) only [wWh, decide_true, decide_false, cond_true, cond_false, Bool.false_eq_true, if_true, if_false, ite_true, ite_false, h6, h0]; done) | (simp (decide := true) only [wWh, decide_true, decide_false, cond_true, cond_false, Bool.false_eq_true, if_true, if_false, ite_true, ite_false, h6, h0]; done) | (simp (decide := true) only [wWh, decide_true, decide_false, cond_true, cond_false, Bool.false_eq_true, if_true, if_false, ite_true, ite_false, h6, h0]; rfl) | rfl) (by first | (simp (decide := true) only [id, decide_true, decide_false, cond_true, cond_false, Bool.false_eq_true, if_true, if_false, ite_true, ite_false, h6, h0]; done) | (simp (decide := true) only [id, decide_true, decide_false, cond_true, cond_false, Bool.false_eq_true, if_true, if_false, ite_true, ite_false, h6, h0]; done) | (simp (decide := true) only [id, decide_true, decide_false, cond_true, cond_false, Bool.false_eq_true, if_true, if_false, ite_true, ite_false, h6, h0]; rfl) | rfl) (yk_rf 39 _))
        · have h0 : hM h = 0 := (nI_eq (b := 0) (by omega) (by decide)).mp h50
          refine tg_steps 3 rfl ?_
          exact tg_lret (st := []) rfl rfl ⟨Nat.le_of_ble_eq_true rfl, Nat.le_of_ble_eq_true rfl⟩ (pM_ok (by first | (simp (decide := true) only [wWh, decide_true, decide_false, cond_true, cond_false, Bool.false_eq_true, if_true, if_false, ite_true, ite_false, h6, eq_true h0]; done) | (simp (decide := true) only [wWh, decide_true, decide_false, cond_true, cond_false, Bool.false_eq_true, if_true, if_false, ite_true, ite_false, h6, h0]; done) | (simp (decide := true) only [wWh, decide_true, decide_false, cond_true, cond_false, Bool.false_eq_true, if_true, if_false, ite_true, ite_false, h6, eq_true h0]; rfl) | rfl) (by first | (simp (decide := true) only [id, decide_true, decide_false, cond_true, cond_false, Bool.false_eq_true, if_true, if_false, ite_true, ite_false, h6, eq_true h0]; done) | (simp (decide := true) only [id, decide_true, decide_false, cond_true, cond_false, Bool.false_eq_true, if_true, if_false, ite_true, ite_false, h6, h0]; done) | (simp (decide := true) only [id, decide_true, decide_false, cond_true, cond_false, Bool.false_eq_true, if_true, if_false, ite_true, ite_false, h6, eq_true h0]; rfl) | rfl) (yk_rf 39 _))
      · exact absurd (nI_le (Nat.le_refl _) (by omega)) h27
    · intro i hi21 ih21
      refine tg_steps 3 rfl ?_
      refine tg_icge rfl rfl (fun h27 => ?_) (fun h27 => ?_)
      · exact absurd h27 (nI_ge hi21 (by omega))
      · refine tg_steps 3 rfl ?_
        refine tg_callV rfl (m_fromHome hm i hi21) rfl rfl rfl rfl rfl (fun v34 w34 q34 => ?_)
        obtain ⟨rfl, rfl⟩ := q34
        refine tg_steps 5 rfl ?_
        refine tg_pkV [0, 1, 2, 4] ?_
        refine tg_eqS (L2 := [(0, .ref 64), (1, .int part), (2, .long (meS h (i + 1))), (4, .int (nI (i + 1)))]) (st2 := []) (w2 := (l, tm_cs h y)) (by first | (simp (decide := true) only [nI_succ, meS_succ, decide_true, decide_false, cond_true, cond_false, Bool.false_eq_true, if_true, if_false, ite_true, ite_false, h6]; done) | (simp (decide := true) only [nI_succ, meS_succ, decide_true, decide_false, cond_true, cond_false, Bool.false_eq_true, if_true, if_false, ite_true, ite_false, h6]; rfl) | rfl) rfl (by first | (simp (decide := true) only [nI_succ, meS_succ, decide_true, decide_false, cond_true, cond_false, Bool.false_eq_true, if_true, if_false, ite_true, ite_false, h6]; done) | (simp (decide := true) only [nI_succ, meS_succ, decide_true, decide_false, cond_true, cond_false, Bool.false_eq_true, if_true, if_false, ite_true, ite_false, h6]; rfl) | rfl) ?_
        exact ih21
  · refine tg_steps 2 rfl ?_
    refine tg_callV rfl (m_lowestOf _ (by first | decide | exact rf_bor _ | exact rf_bd (by assumption))) rfl rfl rfl rfl rfl (fun v12 w12 q12 => ?_)
    obtain ⟨rfl, rfl⟩ := q12
    exact tg_lret (st := []) rfl rfl ⟨Nat.le_of_ble_eq_true rfl, Nat.le_of_ble_eq_true rfl⟩ (pM_refL (by first | (simp (decide := true) only [wWh, decide_true, decide_false, cond_true, cond_false, Bool.false_eq_true, if_true, if_false, ite_true, ite_false, h6]; done) | (simp (decide := true) only [wWh, decide_true, decide_false, cond_true, cond_false, Bool.false_eq_true, if_true, if_false, ite_true, ite_false, h6]; done) | (simp (decide := true) only [wWh, decide_true, decide_false, cond_true, cond_false, Bool.false_eq_true, if_true, if_false, ite_true, ite_false, h6]; rfl) | rfl) (by first | decide | exact rf_bor _ | exact rf_bd (by assumption)))
def chM (h : tp_H) (s : Int32) : Nat → tp_H
  | 0 => h
  | i + 1 => cbS (chM h s i) (hsB s (nI i))
theorem chM_succ (h : tp_H) (s : Int32) (i : Nat) : chM h s (i + 1) = cbS (chM h s i) (hsB s (nI i)) := rfl
theorem chM_M (h : tp_H) (s : Int32) (i : Nat) : hM (chM h s i) = hM h := by
  induction i with
  | zero => rfl
  | succ i ih => rw [chM_succ]; show hM (pNt _) = _; rw [pNt_M]; exact ih
theorem wf_chM {h : tp_H} (hw : wfH h) (s : Int32) (i : Nat) : wfH (chM h s i) := by
  induction i with
  | zero => exact hw
  | succ i ih => rw [chM_succ]; exact wf_cbS ih _
def ptM (t s : Int32) : Nat → Int64
  | 0 => 1
  | i + 1 => ptM t s i * (bif hsB s (nI i) then 1 else (t - 1).toInt64)
theorem ptM_succ (t s : Int32) (i : Nat) : ptM t s (i + 1) = ptM t s i * (bif hsB s (nI i) then 1 else (t - 1).toInt64) := rfl
def upM (h : tp_H) (a k : Nat) (t : Int32) : Nat → Int64
  | 0 => 0
  | s + 1 => upM h a k t s + (bif abB (chM h (nI s) k) (nI a) then ptM t (nI s) k else 0)
theorem upM_succ (h : tp_H) (a k : Nat) (t : Int32) (s : Nat) : upM h a k t (s + 1) = upM h a k t s + (bif abB (chM h (nI s) k) (nI a) then ptM t (nI s) k else 0) := rfl
def okE (a b : Int64) : Prop := lg_cmp (eu a b 128).2 0 = 0 ∧ ¬ (eu a b 128).1 = 0
set_option maxRecDepth 100000 in
set_option maxHeartbeats 2000000 in
theorem r_coals {G : tg_G} {l : List tg_Cl} {h : tp_H} {y : tp_Y} (hw : wfH h) (hE : ∀ a j td, a < hM h → j ≤ 7 → ¬ td < 2 → ¬ 20 < td → okE (upM h a j td (2 ^ j)) (powL td j)) (p : Int32) (k : Int32) (td : Int32) (part : Int32) : tg_C G 7 mX11_coals 0 0 [.ref 64, .int p, .int k, .int td, .int part] (l, tm_cs h y) (pM l (wCoa h p k td part) (.long (lrf (wCoa h p k td part))) (.long (pdM (upM h (nN p) (nN k) td (2 ^ nN k)) (powL td (nN k)) part)) h y (h) (y)) := by
  have hm := hw.1
  refine tg_intro okX11_coals (Nat.le_of_ble_eq_true rfl) ?_
  refine tg_steps 2 rfl ?_
  refine tg_callV rfl (m_isOne _) rfl rfl rfl rfl rfl (fun v2 w2 q2 => ?_)
  obtain ⟨rfl, rfl⟩ := q2
  refine tg_ifbne rfl rfl (fun h5 => ?_) (fun h5 => ?_)
  · obtain ⟨a, ha, rfl, ca⟩ := has_j hm h5
    have ca2 : nN (nI a) = a := ca
    refine tg_steps 1 rfl ?_
    refine tg_iflt rfl rfl (fun h13 => ?_) (fun h13 => ?_)
    · refine tg_steps 4 rfl ?_
      refine tg_ifeq rfl rfl (fun h63 => absurd h63 (by decide)) (fun _ => ?_)
      refine tg_steps 2 rfl ?_
      refine tg_callV rfl (m_lowestOf _ (by first | decide | exact rf_bor _ | exact rf_bd (by assumption))) rfl rfl rfl rfl rfl (fun v69 w69 q69 => ?_)
      obtain ⟨rfl, rfl⟩ := q69
      exact tg_lret (st := []) rfl rfl ⟨Nat.le_of_ble_eq_true rfl, Nat.le_of_ble_eq_true rfl⟩ (pM_refL (by first | (simp (decide := true) only [wCoa, decide_true, decide_false, cond_true, cond_false, Bool.false_eq_true, if_true, if_false, ite_true, ite_false, h5, h13, Int32.not_le.mpr h13]; done) | (simp (decide := true) only [wCoa, decide_true, decide_false, cond_true, cond_false, Bool.false_eq_true, if_true, if_false, ite_true, ite_false, h5, h13, Int32.not_le.mpr h13]; done) | (simp (decide := true) only [wCoa, decide_true, decide_false, cond_true, cond_false, Bool.false_eq_true, if_true, if_false, ite_true, ite_false, h5, h13, Int32.not_le.mpr h13]; rfl) | rfl) (by first | decide | exact rf_bor _ | exact rf_bd (by assumption)))
    · refine tg_steps 2 rfl ?_
      refine tg_icge rfl rfl (fun h18 => ?_) (fun h18 => ?_)
      · refine tg_steps 2 rfl ?_
        refine tg_icgt rfl rfl (fun h29 => ?_) (fun h29 => ?_)
        · refine tg_steps 4 rfl ?_
          refine tg_ifeq rfl rfl (fun h63 => absurd h63 (by decide)) (fun _ => ?_)
          refine tg_steps 2 rfl ?_
          refine tg_callV rfl (m_lowestOf _ (by first | decide | exact rf_bor _ | exact rf_bd (by assumption))) rfl rfl rfl rfl rfl (fun v69 w69 q69 => ?_)
          obtain ⟨rfl, rfl⟩ := q69
          exact tg_lret (st := []) rfl rfl ⟨Nat.le_of_ble_eq_true rfl, Nat.le_of_ble_eq_true rfl⟩ (pM_refL (by first | (simp (decide := true) only [wCoa, decide_true, decide_false, cond_true, cond_false, Bool.false_eq_true, if_true, if_false, ite_true, ite_false, h5, h13, Int32.not_lt.mp h13, h18, Int32.not_lt.mpr h18, h29, Int32.not_le.mpr h29]; done) | (simp (decide := true) only [wCoa, decide_true, decide_false, cond_true, cond_false, Bool.false_eq_true, if_true, if_false, ite_true, ite_false, h5, h13, Int32.not_lt.mp h13, h18, Int32.not_lt.mpr h18, h29, Int32.not_le.mpr h29]; done) | (simp (decide := true) only [wCoa, decide_true, decide_false, cond_true, cond_false, Bool.false_eq_true, if_true, if_false, ite_true, ite_false, h5, h13, Int32.not_lt.mp h13, h18, Int32.not_lt.mpr h18, h29, Int32.not_le.mpr h29]; rfl) | rfl) (by first | decide | exact rf_bor _ | exact rf_bd (by assumption)))
        · refine tg_steps 2 rfl ?_
          refine tg_icle rfl rfl (fun h35 => ?_) (fun h35 => ?_)
          · refine tg_steps 3 rfl ?_
            refine tg_call1 rfl (m_isIn _ _ _) rfl rfl rfl  (fun v47 w47 q47 => ?_)
            obtain ⟨rfl, rfl⟩ := q47
            try rw [inB_up]
            refine tg_ifbne rfl rfl (fun h50 => ?_) (fun h50 => ?_)
            · refine tg_steps 3 rfl ?_
              refine tg_ifeq rfl rfl (fun h63 => ?_) (fun h63 => absurd h63 (by decide))
              obtain ⟨j, hj, rfl⟩ := nI_of2 (x := k) (M := 7) (n := 7) rfl h13 (Int32.not_lt.mp h29)
              have cj : nN (nI j) = j := nI_clamp (by omega)
              rw [ca2, cj]
              have hEE := hE a j td ha hj (Int32.not_lt.mpr h18) (Int32.not_lt.mpr h35)
              refine tg_steps 6 rfl ?_
              refine tg_pkV [0, 1, 2, 3, 4, 6, 8, 10] ?_
              refine tg_eqS (L2 := [(0, .ref 64), (1, .int (nI a)), (2, .int (nI j)), (3, .int td), (4, .int part), (6, .long 0), (8, .long (powL td (0))), (10, .int (nI (0)))]) (st2 := []) (w2 := (l, tm_cs h y)) rfl rfl rfl ?_
              refine tg_down (φ := fun i : Nat => tg_V G 7 mX11_coals 0 0 0 0 (pM l (wCoa h (nI a) (nI j) td part) (.long (lrf (wCoa h (nI a) (nI j) td part))) (.long (pdM (upM h (a) (j) td (2 ^ j)) (powL td (j)) part)) h y (h) (y)) 82 [(0, .ref 64), (1, .int (nI a)), (2, .int (nI j)), (3, .int td), (4, .int part), (6, .long 0), (8, .long (powL td (i))), (10, .int (nI (i)))] [] (l, tm_cs h y)) (n := j) ?_ ?_ 0 (Nat.zero_le _) 
              · refine tg_steps 2 rfl ?_
                refine tg_icge rfl rfl (fun h85 => ?_) (fun h85 => ?_)
                · refine tg_steps 2 rfl ?_
                  refine tg_pkV [0, 1, 2, 3, 4, 6, 8, 10] ?_
                  refine tg_eqS (L2 := [(0, .ref 64), (1, .int (nI a)), (2, .int (nI j)), (3, .int td), (4, .int part), (6, .long (upM h a j td (0))), (8, .long (powL td j)), (10, .int (nI (0)))]) (st2 := []) (w2 := (l, tm_cs h y)) rfl rfl rfl ?_
                  refine tg_down (φ := fun s : Nat => ∀ (y2 : tp_Y) (e2 : yk 78 y y2), tg_V G 7 mX11_coals 0 0 0 0 (pM l (wCoa h (nI a) (nI j) td part) (.long (lrf (wCoa h (nI a) (nI j) td part))) (.long (pdM (upM h (a) (j) td (2 ^ j)) (powL td (j)) part)) h y (h) (y)) 104 [(0, .ref 64), (1, .int (nI a)), (2, .int (nI j)), (3, .int td), (4, .int part), (6, .long (upM h a j td (s))), (8, .long (powL td j)), (10, .int (nI (s)))] [] (l, tm_cs h y2)) (n := 2 ^ j) ?_ ?_ 0 (Nat.zero_le _) y (yk_rf 78 y) 
                  · intro y2 e2
                    refine tg_steps 4 rfl ?_
                    rw [(shl7 _ hj).1]
                    refine tg_icge rfl rfl (fun h109 => ?_) (fun h109 => ?_)
                    · refine tg_steps 3 rfl ?_
                      refine tg_call1 rfl (m_partOf _ _ _ hEE.1 hEE.2) rfl rfl rfl  (fun v203 w203 q203 => ?_)
                      obtain ⟨rfl, rfl⟩ := q203
                      exact tg_lret (st := []) rfl rfl ⟨Nat.le_of_ble_eq_true rfl, Nat.le_of_ble_eq_true rfl⟩ (pM_ok (by first | (simp (decide := true) only [wCoa, decide_true, decide_false, cond_true, cond_false, Bool.false_eq_true, if_true, if_false, ite_true, ite_false, h5, h13, Int32.not_lt.mp h13, h18, Int32.not_lt.mpr h18, h29, Int32.not_lt.mp h29, h35, Int32.not_lt.mpr h35, h50]; done) | (simp (decide := true) only [wCoa, decide_true, decide_false, cond_true, cond_false, Bool.false_eq_true, if_true, if_false, ite_true, ite_false, h5, h13, Int32.not_lt.mp h13, h18, Int32.not_lt.mpr h18, h29, Int32.not_lt.mp h29, h35, Int32.not_lt.mpr h35, h50]; done) | (simp (decide := true) only [wCoa, decide_true, decide_false, cond_true, cond_false, Bool.false_eq_true, if_true, if_false, ite_true, ite_false, h5, h13, Int32.not_lt.mp h13, h18, Int32.not_lt.mpr h18, h29, Int32.not_lt.mp h29, h35, Int32.not_lt.mpr h35, h50]; rfl) | rfl) (by first | (simp (decide := true) only [id, decide_true, decide_false, cond_true, cond_false, Bool.false_eq_true, if_true, if_false, ite_true, ite_false, h5, h13, Int32.not_lt.mp h13, h18, Int32.not_lt.mpr h18, h29, Int32.not_lt.mp h29, h35, Int32.not_lt.mpr h35, h50]; done) | (simp (decide := true) only [id, decide_true, decide_false, cond_true, cond_false, Bool.false_eq_true, if_true, if_false, ite_true, ite_false, h5, h13, Int32.not_lt.mp h13, h18, Int32.not_lt.mpr h18, h29, Int32.not_lt.mp h29, h35, Int32.not_lt.mpr h35, h50]; done) | (simp (decide := true) only [id, decide_true, decide_false, cond_true, cond_false, Bool.false_eq_true, if_true, if_false, ite_true, ite_false, h5, h13, Int32.not_lt.mp h13, h18, Int32.not_lt.mpr h18, h29, Int32.not_lt.mp h29, h35, Int32.not_lt.mpr h35, h50]; rfl) | rfl) (yk_le (by decide) e2))
                    · exact absurd (nI_le (Nat.le_refl _) (by have := (shl7 _ hj).2; omega)) h109
                  · intro s hi104 ih104 y2 e2
                    refine tg_steps 4 rfl ?_
                    rw [(shl7 _ hj).1]
                    refine tg_icge rfl rfl (fun h109 => ?_) (fun h109 => ?_)
                    · exact absurd h109 (nI_ge hi104 (by have := (shl7 _ hj).2; omega))
                    · refine tg_steps 1 rfl ?_
                      refine tg_callV rfl (m_thinks) rfl rfl rfl rfl rfl (fun v113 w113 q113 => ?_)
                      obtain ⟨rfl, rfl⟩ := q113
                      refine tg_steps 4 rfl ?_
                      refine tg_pkV [0, 1, 2, 3, 4, 6, 8, 10, 11, 13] ?_
                      refine tg_eqS (L2 := [(0, .ref 64), (1, .int (nI a)), (2, .int (nI j)), (3, .int td), (4, .int part), (6, .long (upM h a j td s)), (8, .long (powL td j)), (10, .int (nI s)), (11, .long (ptM td (nI s) (0))), (13, .int (nI (0)))]) (st2 := []) (w2 := (l, tm_cs h (zMo (thY h y2) (yMo (thY h y2))))) rfl rfl (by rw [w_Mo0]; rfl) ?_
                      refine tg_down (φ := fun i : Nat => ∀ (mo : Int32), tg_V G 7 mX11_coals 0 0 0 0 (pM l (wCoa h (nI a) (nI j) td part) (.long (lrf (wCoa h (nI a) (nI j) td part))) (.long (pdM (upM h (a) (j) td (2 ^ j)) (powL td (j)) part)) h y (h) (y)) 122 [(0, .ref 64), (1, .int (nI a)), (2, .int (nI j)), (3, .int td), (4, .int part), (6, .long (upM h a j td s)), (8, .long (powL td j)), (10, .int (nI s)), (11, .long (ptM td (nI s) (i))), (13, .int (nI (i)))] [] (l, tm_cs (chM h (nI s) (i)) (zMo (thY h y2) mo))) (n := j) ?_ ?_ 0 (Nat.zero_le _) (yMo (thY h y2)) 
                      · intro mo
                        refine tg_steps 2 rfl ?_
                        refine tg_icge rfl rfl (fun h125 => ?_) (fun h125 => ?_)
                        · refine tg_steps 3 rfl ?_
                          refine tg_callV rfl (m_isAboard (by rw [chM_M]; exact hm) a (by rw [chM_M]; exact ha)) rfl rfl rfl rfl rfl (fun v172 w172 q172 => ?_)
                          obtain ⟨rfl, rfl⟩ := q172
                          refine tg_ifbeq rfl rfl (fun h175 => ?_) (fun h175 => ?_)
                          · refine tg_steps 4 rfl ?_
                            refine tg_callV rfl (m_forgets (g := h) (hld_thm h y2 mo)) rfl rfl rfl rfl rfl (fun v188 w188 q188 => ?_)
                            obtain ⟨rfl, rfl⟩ := q188
                            refine tg_steps 2 rfl ?_
                            refine tg_pkV [0, 1, 2, 3, 4, 6, 8, 10] ?_
                            refine tg_eqS (L2 := [(0, .ref 64), (1, .int (nI a)), (2, .int (nI j)), (3, .int td), (4, .int part), (6, .long (upM h a j td (s + 1))), (8, .long (powL td j)), (10, .int (nI (s + 1)))]) (st2 := []) (w2 := _) (by first | (simp (decide := true) only [nI_succ, upM_succ, decide_true, decide_false, cond_true, cond_false, Bool.false_eq_true, if_true, if_false, ite_true, ite_false, h5, h13, Int32.not_lt.mp h13, h18, Int32.not_lt.mpr h18, h29, Int32.not_lt.mp h29, h35, Int32.not_lt.mpr h35, h50, h175]; done) | (simp (decide := true) only [nI_succ, upM_succ, decide_true, decide_false, cond_true, cond_false, Bool.false_eq_true, if_true, if_false, ite_true, ite_false, h5, h13, Int32.not_lt.mp h13, h18, Int32.not_lt.mpr h18, h29, Int32.not_lt.mp h29, h35, Int32.not_lt.mpr h35, h50, h175]; rfl) | rfl) rfl rfl ?_
                            exact ih104 _ (yk_tr e2 (t_fg h y2 mo))
                          · refine tg_steps 5 rfl ?_
                            refine tg_callV rfl (m_forgets (g := h) (hld_thm h y2 mo)) rfl rfl rfl rfl rfl (fun v188 w188 q188 => ?_)
                            obtain ⟨rfl, rfl⟩ := q188
                            refine tg_steps 2 rfl ?_
                            refine tg_pkV [0, 1, 2, 3, 4, 6, 8, 10] ?_
                            refine tg_eqS (L2 := [(0, .ref 64), (1, .int (nI a)), (2, .int (nI j)), (3, .int td), (4, .int part), (6, .long (upM h a j td (s + 1))), (8, .long (powL td j)), (10, .int (nI (s + 1)))]) (st2 := []) (w2 := _) (by first | (simp (decide := true) only [nI_succ, upM_succ, decide_true, decide_false, cond_true, cond_false, Bool.false_eq_true, if_true, if_false, ite_true, ite_false, h5, h13, Int32.not_lt.mp h13, h18, Int32.not_lt.mpr h18, h29, Int32.not_lt.mp h29, h35, Int32.not_lt.mpr h35, h50, h175]; done) | (simp (decide := true) only [nI_succ, upM_succ, decide_true, decide_false, cond_true, cond_false, Bool.false_eq_true, if_true, if_false, ite_true, ite_false, h5, h13, Int32.not_lt.mp h13, h18, Int32.not_lt.mpr h18, h29, Int32.not_lt.mp h29, h35, Int32.not_lt.mpr h35, h50, h175]; rfl) | rfl) rfl rfl ?_
                            exact ih104 _ (yk_tr e2 (t_fg h y2 mo))
                        · exact absurd (nI_le (Nat.le_refl _) (by omega)) h125
                      · intro i hi122 ih122 mo
                        refine tg_steps 2 rfl ?_
                        refine tg_icge rfl rfl (fun h125 => ?_) (fun h125 => ?_)
                        · exact absurd h125 (nI_ge hi122 (by omega))
                        · refine tg_steps 3 rfl ?_
                          refine tg_call1 rfl (m_has _ _) rfl rfl rfl  (fun v134 w134 q134 => ?_)
                          obtain ⟨rfl, rfl⟩ := q134
                          refine tg_ifbeq rfl rfl (fun h137 => ?_) (fun h137 => ?_)
                          · refine tg_steps 9 rfl ?_
                            refine tg_call1 rfl (m_has _ _) rfl rfl rfl  (fun v156 w156 q156 => ?_)
                            obtain ⟨rfl, rfl⟩ := q156
                            refine tg_callV rfl (m_goesByCoals (h := chM h (nI s) i) (y := (zMo (thY h y2) mo)) (wf_chM hw _ _) _) rfl rfl rfl rfl rfl (fun v159 w159 q159 => ?_)
                            obtain ⟨rfl, mo2, rfl⟩ := q159
                            rw [w_MoMo]
                            refine tg_steps 2 rfl ?_
                            refine tg_pkV [0, 1, 2, 3, 4, 6, 8, 10, 11, 13] ?_
                            refine tg_eqS (L2 := [(0, .ref 64), (1, .int (nI a)), (2, .int (nI j)), (3, .int td), (4, .int part), (6, .long (upM h a j td s)), (8, .long (powL td j)), (10, .int (nI s)), (11, .long (ptM td (nI s) (i + 1))), (13, .int (nI (i + 1)))]) (st2 := []) (w2 := _) (by first | (simp (decide := true) only [nI_succ, ptM_succ, chM_succ, decide_true, decide_false, cond_true, cond_false, Bool.false_eq_true, if_true, if_false, ite_true, ite_false, h5, h13, Int32.not_lt.mp h13, h18, Int32.not_lt.mpr h18, h29, Int32.not_lt.mp h29, h35, Int32.not_lt.mpr h35, h50, h137]; done) | (simp (decide := true) only [nI_succ, ptM_succ, chM_succ, decide_true, decide_false, cond_true, cond_false, Bool.false_eq_true, if_true, if_false, ite_true, ite_false, h5, h13, Int32.not_lt.mp h13, h18, Int32.not_lt.mpr h18, h29, Int32.not_lt.mp h29, h35, Int32.not_lt.mpr h35, h50, h137]; rfl) | rfl) rfl rfl ?_
                            exact ih122 _
                          · refine tg_steps 7 rfl ?_
                            refine tg_call1 rfl (m_has _ _) rfl rfl rfl  (fun v156 w156 q156 => ?_)
                            obtain ⟨rfl, rfl⟩ := q156
                            refine tg_callV rfl (m_goesByCoals (h := chM h (nI s) i) (y := (zMo (thY h y2) mo)) (wf_chM hw _ _) _) rfl rfl rfl rfl rfl (fun v159 w159 q159 => ?_)
                            obtain ⟨rfl, mo2, rfl⟩ := q159
                            rw [w_MoMo]
                            refine tg_steps 2 rfl ?_
                            refine tg_pkV [0, 1, 2, 3, 4, 6, 8, 10, 11, 13] ?_
                            refine tg_eqS (L2 := [(0, .ref 64), (1, .int (nI a)), (2, .int (nI j)), (3, .int td), (4, .int part), (6, .long (upM h a j td s)), (8, .long (powL td j)), (10, .int (nI s)), (11, .long (ptM td (nI s) (i + 1))), (13, .int (nI (i + 1)))]) (st2 := []) (w2 := _) (by first | (simp (decide := true) only [nI_succ, ptM_succ, chM_succ, decide_true, decide_false, cond_true, cond_false, Bool.false_eq_true, if_true, if_false, ite_true, ite_false, h5, h13, Int32.not_lt.mp h13, h18, Int32.not_lt.mpr h18, h29, Int32.not_lt.mp h29, h35, Int32.not_lt.mpr h35, h50, h137]; done) | (simp (decide := true) only [nI_succ, ptM_succ, chM_succ, decide_true, decide_false, cond_true, cond_false, Bool.false_eq_true, if_true, if_false, ite_true, ite_false, h5, h13, Int32.not_lt.mp h13, h18, Int32.not_lt.mpr h18, h29, Int32.not_lt.mp h29, h35, Int32.not_lt.mpr h35, h50, h137]; rfl) | rfl) rfl rfl ?_
                            exact ih122 _
                · exact absurd (nI_le (Nat.le_refl _) (by omega)) h85
              · intro i hi82 ih82
                refine tg_steps 2 rfl ?_
                refine tg_icge rfl rfl (fun h85 => ?_) (fun h85 => ?_)
                · exact absurd h85 (nI_ge hi82 (by omega))
                · refine tg_steps 7 rfl ?_
                  refine tg_pkV [0, 1, 2, 3, 4, 6, 8, 10] ?_
                  refine tg_eqS (L2 := [(0, .ref 64), (1, .int (nI a)), (2, .int (nI j)), (3, .int td), (4, .int part), (6, .long 0), (8, .long (powL td (i + 1))), (10, .int (nI (i + 1)))]) (st2 := []) (w2 := (l, tm_cs h y)) (by first | (simp (decide := true) only [nI_succ, powL_succ, decide_true, decide_false, cond_true, cond_false, Bool.false_eq_true, if_true, if_false, ite_true, ite_false, h5, h13, Int32.not_lt.mp h13, h18, Int32.not_lt.mpr h18, h29, Int32.not_lt.mp h29, h35, Int32.not_lt.mpr h35, h50]; done) | (simp (decide := true) only [nI_succ, powL_succ, decide_true, decide_false, cond_true, cond_false, Bool.false_eq_true, if_true, if_false, ite_true, ite_false, h5, h13, Int32.not_lt.mp h13, h18, Int32.not_lt.mpr h18, h29, Int32.not_lt.mp h29, h35, Int32.not_lt.mpr h35, h50]; rfl) | rfl) rfl (by first | (simp (decide := true) only [nI_succ, powL_succ, decide_true, decide_false, cond_true, cond_false, Bool.false_eq_true, if_true, if_false, ite_true, ite_false, h5, h13, Int32.not_lt.mp h13, h18, Int32.not_lt.mpr h18, h29, Int32.not_lt.mp h29, h35, Int32.not_lt.mpr h35, h50]; done) | (simp (decide := true) only [nI_succ, powL_succ, decide_true, decide_false, cond_true, cond_false, Bool.false_eq_true, if_true, if_false, ite_true, ite_false, h5, h13, Int32.not_lt.mp h13, h18, Int32.not_lt.mpr h18, h29, Int32.not_lt.mp h29, h35, Int32.not_lt.mpr h35, h50]; rfl) | rfl) ?_
                  exact ih82
            · refine tg_steps 4 rfl ?_
              refine tg_ifeq rfl rfl (fun h63 => absurd h63 (by decide)) (fun _ => ?_)
              refine tg_steps 2 rfl ?_
              refine tg_callV rfl (m_lowestOf _ (by first | decide | exact rf_bor _ | exact rf_bd (by assumption))) rfl rfl rfl rfl rfl (fun v69 w69 q69 => ?_)
              obtain ⟨rfl, rfl⟩ := q69
              exact tg_lret (st := []) rfl rfl ⟨Nat.le_of_ble_eq_true rfl, Nat.le_of_ble_eq_true rfl⟩ (pM_refL (by first | (simp (decide := true) only [wCoa, decide_true, decide_false, cond_true, cond_false, Bool.false_eq_true, if_true, if_false, ite_true, ite_false, h5, h13, Int32.not_lt.mp h13, h18, Int32.not_lt.mpr h18, h29, Int32.not_lt.mp h29, h35, Int32.not_lt.mpr h35, h50]; done) | (simp (decide := true) only [wCoa, decide_true, decide_false, cond_true, cond_false, Bool.false_eq_true, if_true, if_false, ite_true, ite_false, h5, h13, Int32.not_lt.mp h13, h18, Int32.not_lt.mpr h18, h29, Int32.not_lt.mp h29, h35, Int32.not_lt.mpr h35, h50]; done) | (simp (decide := true) only [wCoa, decide_true, decide_false, cond_true, cond_false, Bool.false_eq_true, if_true, if_false, ite_true, ite_false, h5, h13, Int32.not_lt.mp h13, h18, Int32.not_lt.mpr h18, h29, Int32.not_lt.mp h29, h35, Int32.not_lt.mpr h35, h50]; rfl) | rfl) (by first | decide | exact rf_bor _ | exact rf_bd (by assumption)))
          · refine tg_steps 4 rfl ?_
            refine tg_ifeq rfl rfl (fun h63 => absurd h63 (by decide)) (fun _ => ?_)
            refine tg_steps 2 rfl ?_
            refine tg_callV rfl (m_lowestOf _ (by first | decide | exact rf_bor _ | exact rf_bd (by assumption))) rfl rfl rfl rfl rfl (fun v69 w69 q69 => ?_)
            obtain ⟨rfl, rfl⟩ := q69
            exact tg_lret (st := []) rfl rfl ⟨Nat.le_of_ble_eq_true rfl, Nat.le_of_ble_eq_true rfl⟩ (pM_refL (by first | (simp (decide := true) only [wCoa, decide_true, decide_false, cond_true, cond_false, Bool.false_eq_true, if_true, if_false, ite_true, ite_false, h5, h13, Int32.not_lt.mp h13, h18, Int32.not_lt.mpr h18, h29, Int32.not_lt.mp h29, h35, Int32.not_le.mp h35]; done) | (simp (decide := true) only [wCoa, decide_true, decide_false, cond_true, cond_false, Bool.false_eq_true, if_true, if_false, ite_true, ite_false, h5, h13, Int32.not_lt.mp h13, h18, Int32.not_lt.mpr h18, h29, Int32.not_lt.mp h29, h35, Int32.not_le.mp h35]; done) | (simp (decide := true) only [wCoa, decide_true, decide_false, cond_true, cond_false, Bool.false_eq_true, if_true, if_false, ite_true, ite_false, h5, h13, Int32.not_lt.mp h13, h18, Int32.not_lt.mpr h18, h29, Int32.not_lt.mp h29, h35, Int32.not_le.mp h35]; rfl) | rfl) (by first | decide | exact rf_bor _ | exact rf_bd (by assumption)))
      · refine tg_steps 4 rfl ?_
        refine tg_ifeq rfl rfl (fun h63 => absurd h63 (by decide)) (fun _ => ?_)
        refine tg_steps 2 rfl ?_
        refine tg_callV rfl (m_lowestOf _ (by first | decide | exact rf_bor _ | exact rf_bd (by assumption))) rfl rfl rfl rfl rfl (fun v69 w69 q69 => ?_)
        obtain ⟨rfl, rfl⟩ := q69
        exact tg_lret (st := []) rfl rfl ⟨Nat.le_of_ble_eq_true rfl, Nat.le_of_ble_eq_true rfl⟩ (pM_refL (by first | (simp (decide := true) only [wCoa, decide_true, decide_false, cond_true, cond_false, Bool.false_eq_true, if_true, if_false, ite_true, ite_false, h5, h13, Int32.not_lt.mp h13, h18, Int32.not_le.mp h18]; done) | (simp (decide := true) only [wCoa, decide_true, decide_false, cond_true, cond_false, Bool.false_eq_true, if_true, if_false, ite_true, ite_false, h5, h13, Int32.not_lt.mp h13, h18, Int32.not_le.mp h18]; done) | (simp (decide := true) only [wCoa, decide_true, decide_false, cond_true, cond_false, Bool.false_eq_true, if_true, if_false, ite_true, ite_false, h5, h13, Int32.not_lt.mp h13, h18, Int32.not_le.mp h18]; rfl) | rfl) (by first | decide | exact rf_bor _ | exact rf_bd (by assumption)))
  · refine tg_steps 4 rfl ?_
    refine tg_ifeq rfl rfl (fun h63 => absurd h63 (by decide)) (fun _ => ?_)
    refine tg_steps 2 rfl ?_
    refine tg_callV rfl (m_lowestOf _ (by first | decide | exact rf_bor _ | exact rf_bd (by assumption))) rfl rfl rfl rfl rfl (fun v69 w69 q69 => ?_)
    obtain ⟨rfl, rfl⟩ := q69
    exact tg_lret (st := []) rfl rfl ⟨Nat.le_of_ble_eq_true rfl, Nat.le_of_ble_eq_true rfl⟩ (pM_refL (by first | (simp (decide := true) only [wCoa, decide_true, decide_false, cond_true, cond_false, Bool.false_eq_true, if_true, if_false, ite_true, ite_false, h5]; done) | (simp (decide := true) only [wCoa, decide_true, decide_false, cond_true, cond_false, Bool.false_eq_true, if_true, if_false, ite_true, ite_false, h5]; done) | (simp (decide := true) only [wCoa, decide_true, decide_false, cond_true, cond_false, Bool.false_eq_true, if_true, if_false, ite_true, ite_false, h5]; rfl) | rfl) (by first | decide | exact rf_bor _ | exact rf_bd (by assumption)))
