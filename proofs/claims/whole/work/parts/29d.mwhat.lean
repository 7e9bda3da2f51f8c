/-! the public methods of the reference, continued -/
def soS (h : tp_H) (f : tp_A) (j : Nat) : Nat → Bool
  | 0 => true
  | n + 1 => bif soS h f j n then decide (hT (pNs n h) j = f n) else false
theorem soS_succ (h : tp_H) (f : tp_A) (j n : Nat) : soS h f j (n + 1) = bif soS h f j n then decide (hT (pNs n h) j = f n) else false := rfl
theorem soS_stop {h : tp_H} {f : tp_A} {j i : Nat} (hf : soS h f j i = false) : ∀ d, soS h f j (i + d) = false := by
  intro d
  induction d with
  | zero => exact hf
  | succ d ih => rw [show i + (d + 1) = (i + d) + 1 by omega, soS_succ, ih]; rfl
theorem thY_Rm (h : tp_H) (y : tp_Y) : yRm (thY h y) = yRm y := rfl
theorem thY_Ro (h : tp_H) (y : tp_Y) : yRo (thY h y) = yRo y := rfl
set_option maxRecDepth 100000 in
set_option maxHeartbeats 2000000 in
theorem m_isSo {G : tg_G} {l : List tg_Cl} {h : tp_H} {y : tp_Y} (hw : wfH h) (ht : yRm y ≤ 16) (j : Nat) (hj : j < hM h) : tg_C G 6 mX11_isSo 0 0 [.ref 64, .int (nI j)] (l, tm_cs h y) (fun v w => v = some (.int (tg_b (soS h (yRo y) j (yRm y)))) ∧ ∃ y2, w = (l, tm_cs h y2) ∧ yk 78 y y2) := by
  have hm := hw.1
  refine tg_intro okX11_isSo (Nat.le_of_ble_eq_true rfl) ?_
  refine tg_steps 1 rfl ?_
  refine tg_callV rfl (m_thinks) rfl rfl rfl rfl rfl (fun v1 w1 q1 => ?_)
  obtain ⟨rfl, rfl⟩ := q1
  refine tg_steps 4 rfl ?_
  refine tg_pkV [0, 1, 2, 3] ?_
  refine tg_eqS (L2 := [(0, .ref 64), (1, .int (nI j)), (2, .int (tg_b (soS h (yRo y) j (0)))), (3, .int (nI (0)))]) (st2 := []) (w2 := (l, tm_cs h (zMo (thY h y) (yMo (thY h y))))) rfl rfl (by rw [w_Mo0]; rfl) ?_
  refine tg_down (φ := fun i : Nat => ∀ (mo : Int32), tg_V G 6 mX11_isSo 0 0 0 0 (fun v w => v = some (.int (tg_b (soS h (yRo y) j (yRm y)))) ∧ ∃ y2, w = (l, tm_cs h y2) ∧ yk 78 y y2) 8 [(0, .ref 64), (1, .int (nI j)), (2, .int (tg_b (soS h (yRo y) j (i)))), (3, .int (nI (i)))] [] (l, tm_cs (pNs (i) h) (zMo (thY h y) mo))) (n := yRm y) ?_ ?_ 0 (Nat.zero_le _) (yMo (thY h y)) 
  · intro mo
    refine tg_steps 3 rfl ?_
    refine tg_icge rfl rfl (fun h13 => ?_) (fun h13 => ?_)
    · refine tg_steps 1 rfl ?_
      refine tg_callV rfl (m_forgets (g := h) (hld_thm h y mo)) rfl rfl rfl rfl rfl (fun v52 w52 q52 => ?_)
      obtain ⟨rfl, rfl⟩ := q52
      refine tg_steps 1 rfl ?_
      exact tg_zret (st := []) rfl rfl ⟨Nat.le_of_ble_eq_true rfl, Nat.le_of_ble_eq_true rfl⟩ (by first | exact tg_b1 _ | exact Or.inl rfl | exact Or.inr rfl) ⟨rfl, _, rfl, t_fg h y mo⟩
    · exact absurd (nI_le (Nat.le_refl _) (by show yRm y < _; omega)) h13
  · intro i hi8 ih8 mo
    refine tg_steps 3 rfl ?_
    refine tg_icge rfl rfl (fun h13 => ?_) (fun h13 => ?_)
    · exact absurd h13 (nI_ge hi8 (by show yRm y < _; omega))
    · refine tg_steps 1 rfl ?_
      refine tg_ifbeq rfl rfl (fun h17 => ?_) (fun h17 => ?_)
      · have hend : soS h (yRo y) j (yRm y) = soS h (yRo y) j i := by
          rw [h17]
          have := soS_stop h17 (yRm y - i)
          rw [show i + (yRm y - i) = yRm y by omega] at this
          exact this
        refine tg_steps 1 rfl ?_
        refine tg_callV rfl (m_forgets (g := h) (hld_thm h y mo)) rfl rfl rfl rfl rfl (fun v52 w52 q52 => ?_)
        obtain ⟨rfl, rfl⟩ := q52
        refine tg_steps 1 rfl ?_
        exact tg_zret (st := []) rfl rfl ⟨Nat.le_of_ble_eq_true rfl, Nat.le_of_ble_eq_true rfl⟩ (by first | exact tg_b1 _ | exact Or.inl rfl | exact Or.inr rfl) ⟨by rw [hend], _, rfl, t_fg h y mo⟩
      · refine tg_steps 3 rfl ?_
        refine tg_ialdN rfl rfl (j) rfl (by omega) (by decide) ?_
        refine tg_steps 3 rfl ?_
        refine tg_ialdN rfl rfl (i) rfl (by omega) (by decide) ?_
        rw [g_RoMo, thY_Ro]
        refine tg_icne rfl rfl (fun h32 => ?_) (fun h32 => ?_)
        · refine tg_steps 3 rfl ?_
          refine tg_callV rfl (m_goesNight (y := zMo (thY h y) mo) (wf_pNs hw i)) rfl rfl rfl rfl rfl (fun v42 w42 q42 => ?_)
          obtain ⟨rfl, rfl⟩ := q42
          rw [w_MoMo, g_MoMo]
          refine tg_steps 2 rfl ?_
          refine tg_pkV [0, 1, 2, 3] ?_
          refine tg_eqS (L2 := [(0, .ref 64), (1, .int (nI j)), (2, .int (tg_b (soS h (yRo y) j (i + 1)))), (3, .int (nI (i + 1)))]) (st2 := []) (w2 := _) (by rw [soS_succ, h17, nI_succ]; first | (rw [show decide (hT (pNs i h) j = yRo y i) = true from decide_eq_true h32]; rfl) | (rw [show decide (hT (pNs i h) j = yRo y i) = false from decide_eq_false h32]; rfl)) rfl rfl ?_
          exact ih8 _
        · refine tg_steps 4 rfl ?_
          refine tg_callV rfl (m_goesNight (y := zMo (thY h y) mo) (wf_pNs hw i)) rfl rfl rfl rfl rfl (fun v42 w42 q42 => ?_)
          obtain ⟨rfl, rfl⟩ := q42
          rw [w_MoMo, g_MoMo]
          refine tg_steps 2 rfl ?_
          refine tg_pkV [0, 1, 2, 3] ?_
          refine tg_eqS (L2 := [(0, .ref 64), (1, .int (nI j)), (2, .int (tg_b (soS h (yRo y) j (i + 1)))), (3, .int (nI (i + 1)))]) (st2 := []) (w2 := _) (by rw [soS_succ, h17, nI_succ]; first | (rw [show decide (hT (pNs i h) j = yRo y i) = true from decide_eq_true h32]; rfl) | (rw [show decide (hT (pNs i h) j = yRo y i) = false from decide_eq_false h32]; rfl)) rfl rfl ?_
          exact ih8 _
def bfK (h : tp_H) (f : tp_A) (m j : Nat) (v : Nat) : Bool := soS (sK h (tg_u (hK h) j (nI v))) f j m
set_option maxRecDepth 100000 in
set_option maxHeartbeats 2000000 in
theorem m_bitsFor_K {G : tg_G} {l : List tg_Cl} {h : tp_H} {y : tp_Y} (hw : wfH h) (ht : yRm y ≤ 16) (j : Nat) (hj : j < hM h) : tg_C G 7 mX11_bitsFor 0 0 [.ref 64, .ref 66, .int (nI j), .int 6] (l, tm_cs h y) (fun v w => v = some (.int (bI (bfK h (yRo y) (yRm y) j) 6)) ∧ ∃ y2, w = (l, tm_cs h y2) ∧ yk 78 y y2) := by
  have hm := hw.1
  refine tg_intro okX11_bitsFor (Nat.le_of_ble_eq_true rfl) ?_
  refine tg_steps 2 rfl ?_
  refine tg_ialdN rfl rfl (j) rfl (by omega) (by decide) ?_
  refine tg_steps 5 rfl ?_
  refine tg_pkV [0, 1, 2, 3, 4, 5, 6] ?_
  refine tg_eqS (L2 := [(0, .ref 64), (1, .ref 66), (2, .int (nI j)), (3, .int 6), (4, .int (hK h j)), (5, .int (bI (bfK h (yRo y) (yRm y) j) (0))), (6, .int (nI (0)))]) (st2 := []) (w2 := (l, tm_cs (sK h (tg_u (hK h) j (hK h j))) y)) rfl rfl (by rw [sKu_id]) ?_
  refine tg_down (φ := fun i : Nat => ∀ (c : Int32) (y2 : tp_Y) (e2 : yk 78 y y2), tg_V G 7 mX11_bitsFor 0 0 0 0 (fun v w => v = some (.int (bI (bfK h (yRo y) (yRm y) j) 6)) ∧ ∃ y2, w = (l, tm_cs h y2) ∧ yk 78 y y2) 11 [(0, .ref 64), (1, .ref 66), (2, .int (nI j)), (3, .int 6), (4, .int (hK h j)), (5, .int (bI (bfK h (yRo y) (yRm y) j) (i))), (6, .int (nI (i)))] [] (l, tm_cs (sK h (tg_u (hK h) j (c))) y2)) (n := 6) ?_ ?_ 0 (Nat.zero_le _) (hK h j) y (yk_rf 78 y) 
  · intro c y2 e2
    refine tg_steps 2 rfl ?_
    refine tg_icge rfl rfl (fun h14 => ?_) (fun h14 => ?_)
    · refine tg_steps 3 rfl ?_
      refine tg_iastN rfl rfl (j) rfl (by omega) (by decide) ?_
      refine tg_eqW (m_K _) ?_
      rw [sKK, sKu_id]
      refine tg_steps 1 rfl ?_
      exact tg_iret (st := []) rfl rfl ⟨Nat.le_of_ble_eq_true rfl, Nat.le_of_ble_eq_true rfl⟩ ⟨rfl, _, rfl, e2⟩
    · exact absurd (by decide) h14
  · intro i hi11 ih11 c y2 e2
    refine tg_steps 2 rfl ?_
    refine tg_icge rfl rfl (fun h14 => ?_) (fun h14 => ?_)
    · exact absurd h14 (nI_ge (b := 6) hi11 (by decide))
    · refine tg_steps 3 rfl ?_
      refine tg_iastN rfl rfl (j) rfl (by omega) (by decide) ?_
      refine tg_eqW (m_K _) ?_
      rw [sKK]
      refine tg_steps 3 rfl ?_
      refine tg_callV rfl (m_isSo (h := (sK h (tg_u (hK h) j (nI i)))) (y := y2) (wf_sK hw _) (by rw [e2.2.2.2.2.2.1]; exact ht) j hj) rfl rfl rfl rfl rfl (fun v26 w26 q26 => ?_)
      obtain ⟨rfl, y3, rfl, e3⟩ := q26
      rw [e2.2.2.2.2.1, e2.2.2.2.2.2.1, show soS (sK h (tg_u (hK h) j (nI i))) (yRo y) j (yRm y) = bfK h (yRo y) (yRm y) j i from rfl]
      refine tg_ifbeq rfl rfl (fun h29 => ?_) (fun h29 => ?_)
      · refine tg_steps 5 rfl ?_
        refine tg_pkV [0, 1, 2, 3, 4, 5, 6] ?_
        refine tg_eqS (L2 := [(0, .ref 64), (1, .ref 66), (2, .int (nI j)), (3, .int 6), (4, .int (hK h j)), (5, .int (bI (bfK h (yRo y) (yRm y) j) (i + 1))), (6, .int (nI (i + 1)))]) (st2 := []) (w2 := _) (by first | (rw [bI_succ, h29, cond_true, nI_succ]; rfl) | (rw [bI_succ, h29, cond_false, nI_succ, Int32.or_zero]; rfl)) rfl rfl ?_
        exact ih11 (nI i) y3 (yk_tr e2 e3)
      · refine tg_steps 8 rfl ?_
        refine tg_pkV [0, 1, 2, 3, 4, 5, 6] ?_
        refine tg_eqS (L2 := [(0, .ref 64), (1, .ref 66), (2, .int (nI j)), (3, .int 6), (4, .int (hK h j)), (5, .int (bI (bfK h (yRo y) (yRm y) j) (i + 1))), (6, .int (nI (i + 1)))]) (st2 := []) (w2 := _) (by first | (rw [bI_succ, h29, cond_true, nI_succ]; rfl) | (rw [bI_succ, h29, cond_false, nI_succ, Int32.or_zero]; rfl)) rfl rfl ?_
        exact ih11 (nI i) y3 (yk_tr e2 e3)
theorem sFu_id (h : tp_H) (j : Nat) : sF h (tg_u (hF h) j (hF h j)) = h := by
  rw [tg_u_id]
  rfl
theorem sFF (h : tp_H) (j : Nat) (c d : Int32) : sF (sF h (tg_u (hF h) j c)) (tg_u (hF (sF h (tg_u (hF h) j c))) j d) = sF h (tg_u (hF h) j d) := by
  show sF h (tg_u (tg_u (hF h) j c) j d) = _
  rw [tg_uu]
theorem wf_sFu {h : tp_H} (hw : wfH h) (j : Nat) {v : Nat} (hv : v < 10) : wfH (sF h (tg_u (hF h) j (nI v))) := by
  refine ⟨hw.1, hw.2.1, fun i hi => ⟨(hw.2.2 i hi).1, (hw.2.2 i hi).2.1, ?_⟩⟩
  show upTo (tg_u (hF h) j (nI v) i) 9 = true
  rw [tg_u_eq]
  split
  · have h10 : ∀ k : Fin 10, upTo (nI k.1) 9 = true := by decide +kernel
    exact h10 ⟨v, hv⟩
  · exact (hw.2.2 i hi).2.2
def bfF (h : tp_H) (f : tp_A) (m j : Nat) (v : Nat) : Bool := soS (sF h (tg_u (hF h) j (nI v))) f j m
set_option maxRecDepth 100000 in
set_option maxHeartbeats 2000000 in
theorem m_bitsFor_F {G : tg_G} {l : List tg_Cl} {h : tp_H} {y : tp_Y} (hw : wfH h) (ht : yRm y ≤ 16) (j : Nat) (hj : j < hM h) : tg_C G 7 mX11_bitsFor 0 0 [.ref 64, .ref 67, .int (nI j), .int 10] (l, tm_cs h y) (fun v w => v = some (.int (bI (bfF h (yRo y) (yRm y) j) 10)) ∧ ∃ y2, w = (l, tm_cs h y2) ∧ yk 78 y y2) := by
  have hm := hw.1
  refine tg_intro okX11_bitsFor (Nat.le_of_ble_eq_true rfl) ?_
  refine tg_steps 2 rfl ?_
  refine tg_ialdN rfl rfl (j) rfl (by omega) (by decide) ?_
  refine tg_steps 5 rfl ?_
  refine tg_pkV [0, 1, 2, 3, 4, 5, 6] ?_
  refine tg_eqS (L2 := [(0, .ref 64), (1, .ref 67), (2, .int (nI j)), (3, .int 10), (4, .int (hF h j)), (5, .int (bI (bfF h (yRo y) (yRm y) j) (0))), (6, .int (nI (0)))]) (st2 := []) (w2 := (l, tm_cs (sF h (tg_u (hF h) j (hF h j))) y)) rfl rfl (by rw [sFu_id]) ?_
  refine tg_down (φ := fun i : Nat => ∀ (c : Int32) (y2 : tp_Y) (e2 : yk 78 y y2), tg_V G 7 mX11_bitsFor 0 0 0 0 (fun v w => v = some (.int (bI (bfF h (yRo y) (yRm y) j) 10)) ∧ ∃ y2, w = (l, tm_cs h y2) ∧ yk 78 y y2) 11 [(0, .ref 64), (1, .ref 67), (2, .int (nI j)), (3, .int 10), (4, .int (hF h j)), (5, .int (bI (bfF h (yRo y) (yRm y) j) (i))), (6, .int (nI (i)))] [] (l, tm_cs (sF h (tg_u (hF h) j (c))) y2)) (n := 10) ?_ ?_ 0 (Nat.zero_le _) (hF h j) y (yk_rf 78 y) 
  · intro c y2 e2
    refine tg_steps 2 rfl ?_
    refine tg_icge rfl rfl (fun h14 => ?_) (fun h14 => ?_)
    · refine tg_steps 3 rfl ?_
      refine tg_iastN rfl rfl (j) rfl (by omega) (by decide) ?_
      refine tg_eqW (m_F _) ?_
      rw [sFF, sFu_id]
      refine tg_steps 1 rfl ?_
      exact tg_iret (st := []) rfl rfl ⟨Nat.le_of_ble_eq_true rfl, Nat.le_of_ble_eq_true rfl⟩ ⟨rfl, _, rfl, e2⟩
    · exact absurd (by decide) h14
  · intro i hi11 ih11 c y2 e2
    refine tg_steps 2 rfl ?_
    refine tg_icge rfl rfl (fun h14 => ?_) (fun h14 => ?_)
    · exact absurd h14 (nI_ge (b := 10) hi11 (by decide))
    · refine tg_steps 3 rfl ?_
      refine tg_iastN rfl rfl (j) rfl (by omega) (by decide) ?_
      refine tg_eqW (m_F _) ?_
      rw [sFF]
      refine tg_steps 3 rfl ?_
      refine tg_callV rfl (m_isSo (h := (sF h (tg_u (hF h) j (nI i)))) (y := y2) (wf_sFu hw j (by omega)) (by rw [e2.2.2.2.2.2.1]; exact ht) j hj) rfl rfl rfl rfl rfl (fun v26 w26 q26 => ?_)
      obtain ⟨rfl, y3, rfl, e3⟩ := q26
      rw [e2.2.2.2.2.1, e2.2.2.2.2.2.1, show soS (sF h (tg_u (hF h) j (nI i))) (yRo y) j (yRm y) = bfF h (yRo y) (yRm y) j i from rfl]
      refine tg_ifbeq rfl rfl (fun h29 => ?_) (fun h29 => ?_)
      · refine tg_steps 5 rfl ?_
        refine tg_pkV [0, 1, 2, 3, 4, 5, 6] ?_
        refine tg_eqS (L2 := [(0, .ref 64), (1, .ref 67), (2, .int (nI j)), (3, .int 10), (4, .int (hF h j)), (5, .int (bI (bfF h (yRo y) (yRm y) j) (i + 1))), (6, .int (nI (i + 1)))]) (st2 := []) (w2 := _) (by first | (rw [bI_succ, h29, cond_true, nI_succ]; rfl) | (rw [bI_succ, h29, cond_false, nI_succ, Int32.or_zero]; rfl)) rfl rfl ?_
        exact ih11 (nI i) y3 (yk_tr e2 e3)
      · refine tg_steps 8 rfl ?_
        refine tg_pkV [0, 1, 2, 3, 4, 5, 6] ?_
        refine tg_eqS (L2 := [(0, .ref 64), (1, .ref 67), (2, .int (nI j)), (3, .int 10), (4, .int (hF h j)), (5, .int (bI (bfF h (yRo y) (yRm y) j) (i + 1))), (6, .int (nI (i + 1)))]) (st2 := []) (w2 := _) (by first | (rw [bI_succ, h29, cond_true, nI_succ]; rfl) | (rw [bI_succ, h29, cond_false, nI_succ, Int32.or_zero]; rfl)) rfl rfl ?_
        exact ih11 (nI i) y3 (yk_tr e2 e3)
set_option maxRecDepth 100000 in
set_option maxHeartbeats 2000000 in
theorem r_whatIs {G : tg_G} {l : List tg_Cl} {h : tp_H} {y : tp_Y} (hw : wfH h) (ht : yRm y ≤ 16) (one : Int32) (what : Int32) : tg_C G 8 mX11_whatIs 0 0 [.ref 64, .int one, .int what] (l, tm_cs h y) (pM l (wHaW h one what) (.int (wHaW h one what)) (.int ((if what = 0 then bI (bfK h (yRo y) (yRm y) (nN one)) 6 else bI (bfF h (yRo y) (yRm y) (nN one)) 10 : Int32))) h y (h) (y)) := by
  have hm := hw.1
  refine tg_intro okX11_whatIs (Nat.le_of_ble_eq_true rfl) ?_
  refine tg_steps 2 rfl ?_
  refine tg_callV rfl (m_isOne _) rfl rfl rfl rfl rfl (fun v2 w2 q2 => ?_)
  obtain ⟨rfl, rfl⟩ := q2
  refine tg_ifbne rfl rfl (fun h5 => ?_) (fun h5 => ?_)
  · obtain ⟨j, hj, rfl, cj⟩ := has_j hm h5
    have cn : nN (nI j) = j := cj
    refine tg_steps 3 rfl ?_
    refine tg_call1 rfl (m_isIn _ _ _) rfl rfl rfl  (fun v15 w15 q15 => ?_)
    obtain ⟨rfl, rfl⟩ := q15
    try rw [inB_up]
    refine tg_ifbne rfl rfl (fun h18 => ?_) (fun h18 => ?_)
    · refine tg_steps 3 rfl ?_
      refine tg_ifeq rfl rfl (fun h29 => ?_) (fun h29 => absurd h29 (by decide))
      refine tg_steps 1 rfl ?_
      refine tg_ifne rfl rfl (fun h39 => ?_) (fun h39 => ?_)
      · refine tg_steps 5 rfl ?_
        refine tg_callV rfl (m_bitsFor_F hw ht j hj) rfl rfl rfl rfl rfl (fun v64 w64 q64 => ?_)
        obtain ⟨rfl, y2, rfl, e2⟩ := q64
        exact tg_iret (st := []) rfl rfl ⟨Nat.le_of_ble_eq_true rfl, Nat.le_of_ble_eq_true rfl⟩ (pM_ok (by first | (simp (decide := true) only [wHaW, decide_true, decide_false, cond_true, cond_false, Bool.false_eq_true, if_true, if_false, ite_true, ite_false, h5, h18, h39]; done) | (simp (decide := true) only [wHaW, decide_true, decide_false, cond_true, cond_false, Bool.false_eq_true, if_true, if_false, ite_true, ite_false, h5, h18, h39]; done) | (simp (decide := true) only [wHaW, decide_true, decide_false, cond_true, cond_false, Bool.false_eq_true, if_true, if_false, ite_true, ite_false, h5, h18, h39]; rfl) | rfl) (by first | (simp (decide := true) only [id, cn, decide_true, decide_false, cond_true, cond_false, Bool.false_eq_true, if_true, if_false, ite_true, ite_false, h5, h18, h39]; done) | (simp (decide := true) only [id, cn, decide_true, decide_false, cond_true, cond_false, Bool.false_eq_true, if_true, if_false, ite_true, ite_false, h5, h18, h39]; done) | (simp (decide := true) only [id, cn, decide_true, decide_false, cond_true, cond_false, Bool.false_eq_true, if_true, if_false, ite_true, ite_false, h5, h18, h39]; rfl) | rfl) (yk_le (by decide) e2))
      · refine tg_steps 5 rfl ?_
        refine tg_callV rfl (m_bitsFor_K hw ht j hj) rfl rfl rfl rfl rfl (fun v50 w50 q50 => ?_)
        obtain ⟨rfl, y2, rfl, e2⟩ := q50
        refine tg_steps 1 rfl ?_
        exact tg_iret (st := []) rfl rfl ⟨Nat.le_of_ble_eq_true rfl, Nat.le_of_ble_eq_true rfl⟩ (pM_ok (by first | (simp (decide := true) only [wHaW, decide_true, decide_false, cond_true, cond_false, Bool.false_eq_true, if_true, if_false, ite_true, ite_false, h5, h18, eq_true h39]; done) | (simp (decide := true) only [wHaW, decide_true, decide_false, cond_true, cond_false, Bool.false_eq_true, if_true, if_false, ite_true, ite_false, h5, h18, h39]; done) | (simp (decide := true) only [wHaW, decide_true, decide_false, cond_true, cond_false, Bool.false_eq_true, if_true, if_false, ite_true, ite_false, h5, h18, eq_true h39]; rfl) | rfl) (by first | (simp (decide := true) only [id, cn, decide_true, decide_false, cond_true, cond_false, Bool.false_eq_true, if_true, if_false, ite_true, ite_false, h5, h18, eq_true h39]; done) | (simp (decide := true) only [id, cn, decide_true, decide_false, cond_true, cond_false, Bool.false_eq_true, if_true, if_false, ite_true, ite_false, h5, h18, h39]; done) | (simp (decide := true) only [id, cn, decide_true, decide_false, cond_true, cond_false, Bool.false_eq_true, if_true, if_false, ite_true, ite_false, h5, h18, eq_true h39]; rfl) | rfl) (yk_le (by decide) e2))
    · refine tg_steps 4 rfl ?_
      refine tg_ifeq rfl rfl (fun h29 => absurd h29 (by decide)) (fun _ => ?_)
      refine tg_steps 2 rfl ?_
      refine tg_callV rfl (m_no _ (by first | decide | exact rf_bor _ | exact rf_bd (by assumption))) rfl rfl rfl rfl rfl (fun v34 w34 q34 => ?_)
      obtain ⟨rfl, rfl⟩ := q34
      exact tg_iret (st := []) rfl rfl ⟨Nat.le_of_ble_eq_true rfl, Nat.le_of_ble_eq_true rfl⟩ (pM_refI (by first | (simp (decide := true) only [wHaW, decide_true, decide_false, cond_true, cond_false, Bool.false_eq_true, if_true, if_false, ite_true, ite_false, h5, h18]; done) | (simp (decide := true) only [wHaW, decide_true, decide_false, cond_true, cond_false, Bool.false_eq_true, if_true, if_false, ite_true, ite_false, h5, h18]; done) | (simp (decide := true) only [wHaW, decide_true, decide_false, cond_true, cond_false, Bool.false_eq_true, if_true, if_false, ite_true, ite_false, h5, h18]; rfl) | rfl) (by first | decide | exact rf_bor _ | exact rf_bd (by assumption)))
  · refine tg_steps 4 rfl ?_
    refine tg_ifeq rfl rfl (fun h29 => absurd h29 (by decide)) (fun _ => ?_)
    refine tg_steps 2 rfl ?_
    refine tg_callV rfl (m_no _ (by first | decide | exact rf_bor _ | exact rf_bd (by assumption))) rfl rfl rfl rfl rfl (fun v34 w34 q34 => ?_)
    obtain ⟨rfl, rfl⟩ := q34
    exact tg_iret (st := []) rfl rfl ⟨Nat.le_of_ble_eq_true rfl, Nat.le_of_ble_eq_true rfl⟩ (pM_refI (by first | (simp (decide := true) only [wHaW, decide_true, decide_false, cond_true, cond_false, Bool.false_eq_true, if_true, if_false, ite_true, ite_false, h5]; done) | (simp (decide := true) only [wHaW, decide_true, decide_false, cond_true, cond_false, Bool.false_eq_true, if_true, if_false, ite_true, ite_false, h5]; done) | (simp (decide := true) only [wHaW, decide_true, decide_false, cond_true, cond_false, Bool.false_eq_true, if_true, if_false, ite_true, ite_false, h5]; rfl) | rfl) (by first | decide | exact rf_bor _ | exact rf_bd (by assumption)))
