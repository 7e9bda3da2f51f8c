/-! kept and put back, continued -/
set_option maxRecDepth 100000 in
set_option maxHeartbeats 2000000 in
theorem m_keep {G : tg_G} {l : List tg_Cl} {h : tp_H} {y : tp_Y} (q : Nat) (hq : q ≤ 2) : tg_C G 2 mX11_passesAll 0 0 [.ref 64, .int (nI q), .int 1] (l, tm_cs h y) (fun v w => v = none ∧ w = (l, tm_cs h (zIk (zCu (zKe y (svA h (yKe y) (39 * q))) (39 * q + 39)) true))) := by
  refine tg_intro okX11_passesAll (Nat.le_of_ble_eq_true rfl) ?_
  refine tg_steps 5 rfl ?_
  rw [mul39 q hq]
  refine tg_eqW (m_Cu (39 * q)) ?_
  refine tg_steps 2 rfl ?_
  refine tg_putz rfl rfl (by first | exact Or.inr rfl | exact Or.inl rfl) rfl ?_
  refine tg_eqW (m_Ik true) ?_
  refine tg_eqW (w2 := (l, tm_cs h (zIk (zCu (zKe y (yKe y)) (39 * q + 0)) true))) (by rw [w_Ke0]; rfl) ?_
  refine tg_steps 3 rfl ?_
  refine tg_callV rfl (m_passK_K (l := l) (h := h) (y := zIk (zCu (zKe y (yKe y)) (39 * q + 0)) true) (by show 39 * q + 7 ≤ 117; omega) rfl) rfl rfl rfl rfl rfl (fun v18 w18 q18 => ?_)
  obtain ⟨rfl, rfl⟩ := q18
  rw [w_KCI, g_CuIk, g_CuCu, g_KeIk, g_KeCu, g_KeKe]
  refine tg_eqW (w2 := (l, tm_cs h (zIk (zCu (zKe y (sv1 h (yKe y) (39 * q))) (39 * q + 7)) true))) rfl ?_
  refine tg_steps 3 rfl ?_
  refine tg_callV rfl (m_passK_F (l := l) (h := h) (y := zIk (zCu (zKe y (sv1 h (yKe y) (39 * q))) (39 * q + 7)) true) (by show 39 * q + 14 ≤ 117; omega) rfl) rfl rfl rfl rfl rfl (fun v26 w26 q26 => ?_)
  obtain ⟨rfl, rfl⟩ := q26
  rw [w_KCI, g_CuIk, g_CuCu, g_KeIk, g_KeCu, g_KeKe]
  refine tg_eqW (w2 := (l, tm_cs h (zIk (zCu (zKe y (sv2 h (yKe y) (39 * q))) (39 * q + 14)) true))) rfl ?_
  refine tg_steps 3 rfl ?_
  refine tg_callV rfl (m_passK_H (l := l) (h := h) (y := zIk (zCu (zKe y (sv2 h (yKe y) (39 * q))) (39 * q + 14)) true) (by show 39 * q + 21 ≤ 117; omega) rfl) rfl rfl rfl rfl rfl (fun v34 w34 q34 => ?_)
  obtain ⟨rfl, rfl⟩ := q34
  rw [w_KCI, g_CuIk, g_CuCu, g_KeIk, g_KeCu, g_KeKe]
  refine tg_eqW (w2 := (l, tm_cs h (zIk (zCu (zKe y (sv3 h (yKe y) (39 * q))) (39 * q + 21)) true))) rfl ?_
  refine tg_steps 3 rfl ?_
  refine tg_callV rfl (m_passK_T (l := l) (h := h) (y := zIk (zCu (zKe y (sv3 h (yKe y) (39 * q))) (39 * q + 21)) true) (by show 39 * q + 28 ≤ 117; omega) rfl) rfl rfl rfl rfl rfl (fun v42 w42 q42 => ?_)
  obtain ⟨rfl, rfl⟩ := q42
  rw [w_KCI, g_CuIk, g_CuCu, g_KeIk, g_KeCu, g_KeKe]
  refine tg_eqW (w2 := (l, tm_cs h (zIk (zCu (zKe y (sv4 h (yKe y) (39 * q))) (39 * q + 28)) true))) rfl ?_
  refine tg_steps 3 rfl ?_
  refine tg_callV rfl (m_passK_P (l := l) (h := h) (y := zIk (zCu (zKe y (sv4 h (yKe y) (39 * q))) (39 * q + 28)) true) (by show 39 * q + 35 ≤ 117; omega) rfl) rfl rfl rfl rfl rfl (fun v50 w50 q50 => ?_)
  obtain ⟨rfl, rfl⟩ := q50
  rw [w_KCI, g_CuIk, g_CuCu, g_KeIk, g_KeCu, g_KeKe]
  refine tg_eqW (w2 := (l, tm_cs h (zIk (zCu (zKe y (sv5 h (yKe y) (39 * q))) (39 * q + 35)) true))) rfl ?_
  refine tg_steps 4 rfl ?_
  refine tg_callV rfl (m_poK (l := l) (h := h) (y := zIk (zCu (zKe y (sv5 h (yKe y) (39 * q))) (39 * q + 35)) true) (by show 39 * q + 35 < 117; omega) rfl _) rfl rfl rfl rfl rfl (fun v59 w59 q59 => ?_)
  obtain ⟨rfl, rfl⟩ := q59
  rw [w_KCI, g_CuIk, g_CuCu, g_KeIk, g_KeCu, g_KeKe]
  refine tg_eqW (w2 := (l, tm_cs h (zIk (zCu (zKe y (sv6 h (yKe y) (39 * q))) (39 * q + 36)) true))) rfl ?_
  refine tg_steps 1 rfl ?_
  refine tg_eqW (m_C _) ?_
  rw [sC_id]
  refine tg_steps 4 rfl ?_
  refine tg_callV rfl (m_poK (l := l) (h := h) (y := zIk (zCu (zKe y (sv6 h (yKe y) (39 * q))) (39 * q + 36)) true) (by show 39 * q + 36 < 117; omega) rfl _) rfl rfl rfl rfl rfl (fun v71 w71 q71 => ?_)
  obtain ⟨rfl, rfl⟩ := q71
  rw [w_KCI, g_CuIk, g_CuCu, g_KeIk, g_KeCu, g_KeKe]
  refine tg_eqW (w2 := (l, tm_cs h (zIk (zCu (zKe y (sv7 h (yKe y) (39 * q))) (39 * q + 37)) true))) rfl ?_
  refine tg_steps 1 rfl ?_
  refine tg_eqW (m_S _) ?_
  rw [sS_id]
  refine tg_steps 4 rfl ?_
  refine tg_callV rfl (m_poK (l := l) (h := h) (y := zIk (zCu (zKe y (sv7 h (yKe y) (39 * q))) (39 * q + 37)) true) (by show 39 * q + 37 < 117; omega) rfl _) rfl rfl rfl rfl rfl (fun v83 w83 q83 => ?_)
  obtain ⟨rfl, rfl⟩ := q83
  rw [w_KCI, g_CuIk, g_CuCu, g_KeIk, g_KeCu, g_KeKe]
  refine tg_eqW (w2 := (l, tm_cs h (zIk (zCu (zKe y (sv8 h (yKe y) (39 * q))) (39 * q + 38)) true))) rfl ?_
  refine tg_steps 1 rfl ?_
  refine tg_eqW (m_M _) ?_
  rw [sM_id]
  refine tg_steps 4 rfl ?_
  refine tg_callV rfl (m_poK (l := l) (h := h) (y := zIk (zCu (zKe y (sv8 h (yKe y) (39 * q))) (39 * q + 38)) true) (by show 39 * q + 38 < 117; omega) rfl _) rfl rfl rfl rfl rfl (fun v95 w95 q95 => ?_)
  obtain ⟨rfl, rfl⟩ := q95
  rw [w_KCI, g_CuIk, g_CuCu, g_KeIk, g_KeCu, g_KeKe]
  refine tg_eqW (w2 := (l, tm_cs h (zIk (zCu (zKe y (svA h (yKe y) (39 * q))) (39 * q + 39)) true))) rfl ?_
  refine tg_steps 1 rfl ?_
  refine tg_eqW (m_N _) ?_
  rw [sN_id0]
  exact tg_vret (st := []) rfl rfl ⟨Nat.le_of_ble_eq_true rfl, Nat.le_of_ble_eq_true rfl⟩ ⟨rfl, rfl⟩
set_option maxRecDepth 100000 in
set_option maxHeartbeats 2000000 in
theorem m_back {G : tg_G} {l : List tg_Cl} {h : tp_H} {y : tp_Y} {g : tp_H} (q : Nat) (hq : q ≤ 2) (hk : hld (yKe y) (39 * q) g) : tg_C G 2 mX11_passesAll 0 0 [.ref 64, .int (nI q), .int 0] (l, tm_cs h y) (fun v w => v = none ∧ w = (l, tm_cs g (zIk (zCu y (39 * q + 39)) false))) := by
  refine tg_intro okX11_passesAll (Nat.le_of_ble_eq_true rfl) ?_
  refine tg_steps 5 rfl ?_
  rw [mul39 q hq]
  refine tg_eqW (m_Cu (39 * q)) ?_
  refine tg_steps 2 rfl ?_
  refine tg_putz rfl rfl (by first | exact Or.inr rfl | exact Or.inl rfl) rfl ?_
  refine tg_eqW (w2 := (l, tm_cs h (zIk (zCu y (39 * q + 0)) false))) (m_Ik false) ?_
  refine tg_steps 3 rfl ?_
  refine tg_callV rfl (m_passR_K (l := l) (h := h) (y := zIk (zCu y (39 * q + 0)) false) (by show 39 * q + 7 ≤ 117; omega) rfl) rfl rfl rfl rfl rfl (fun v18 w18 q18 => ?_)
  obtain ⟨rfl, rfl⟩ := q18
  rw [w_CI, g_CuIk, g_CuCu, g_KeIk, g_KeCu]
  refine tg_eqW (w2 := (l, tm_cs (re1 h (yKe y) (39 * q)) (zIk (zCu y (39 * q + 7)) false))) rfl ?_
  refine tg_steps 3 rfl ?_
  refine tg_callV rfl (m_passR_F (l := l) (h := re1 h (yKe y) (39 * q)) (y := zIk (zCu y (39 * q + 7)) false) (by show 39 * q + 14 ≤ 117; omega) rfl) rfl rfl rfl rfl rfl (fun v26 w26 q26 => ?_)
  obtain ⟨rfl, rfl⟩ := q26
  rw [w_CI, g_CuIk, g_CuCu, g_KeIk, g_KeCu]
  refine tg_eqW (w2 := (l, tm_cs (re2 h (yKe y) (39 * q)) (zIk (zCu y (39 * q + 14)) false))) rfl ?_
  refine tg_steps 3 rfl ?_
  refine tg_callV rfl (m_passR_H (l := l) (h := re2 h (yKe y) (39 * q)) (y := zIk (zCu y (39 * q + 14)) false) (by show 39 * q + 21 ≤ 117; omega) rfl) rfl rfl rfl rfl rfl (fun v34 w34 q34 => ?_)
  obtain ⟨rfl, rfl⟩ := q34
  rw [w_CI, g_CuIk, g_CuCu, g_KeIk, g_KeCu]
  refine tg_eqW (w2 := (l, tm_cs (re3 h (yKe y) (39 * q)) (zIk (zCu y (39 * q + 21)) false))) rfl ?_
  refine tg_steps 3 rfl ?_
  refine tg_callV rfl (m_passR_T (l := l) (h := re3 h (yKe y) (39 * q)) (y := zIk (zCu y (39 * q + 21)) false) (by show 39 * q + 28 ≤ 117; omega) rfl) rfl rfl rfl rfl rfl (fun v42 w42 q42 => ?_)
  obtain ⟨rfl, rfl⟩ := q42
  rw [w_CI, g_CuIk, g_CuCu, g_KeIk, g_KeCu]
  refine tg_eqW (w2 := (l, tm_cs (re4 h (yKe y) (39 * q)) (zIk (zCu y (39 * q + 28)) false))) rfl ?_
  refine tg_steps 3 rfl ?_
  refine tg_callV rfl (m_passR_P (l := l) (h := re4 h (yKe y) (39 * q)) (y := zIk (zCu y (39 * q + 28)) false) (by show 39 * q + 35 ≤ 117; omega) rfl) rfl rfl rfl rfl rfl (fun v50 w50 q50 => ?_)
  obtain ⟨rfl, rfl⟩ := q50
  rw [w_CI, g_CuIk, g_CuCu, g_KeIk, g_KeCu]
  refine tg_eqW (w2 := (l, tm_cs (re5 h (yKe y) (39 * q)) (zIk (zCu y (39 * q + 35)) false))) rfl ?_
  refine tg_steps 4 rfl ?_
  refine tg_callV rfl (m_poR (l := l) (h := re5 h (yKe y) (39 * q)) (y := zIk (zCu y (39 * q + 35)) false) (by show 39 * q + 35 < 117; omega) rfl _) rfl rfl rfl rfl rfl (fun v59 w59 q59 => ?_)
  obtain ⟨rfl, rfl⟩ := q59
  rw [w_CI, g_CuIk, g_CuCu, g_KeIk, g_KeCu]
  refine tg_eqW (w2 := (l, tm_cs (re5 h (yKe y) (39 * q)) (zIk (zCu y (39 * q + 36)) false))) rfl ?_
  refine tg_steps 1 rfl ?_
  refine tg_eqW (w2 := (l, tm_cs (re6 h (yKe y) (39 * q)) (zIk (zCu y (39 * q + 36)) false))) (m_C _) ?_
  refine tg_steps 4 rfl ?_
  refine tg_callV rfl (m_poR (l := l) (h := re6 h (yKe y) (39 * q)) (y := zIk (zCu y (39 * q + 36)) false) (by show 39 * q + 36 < 117; omega) rfl _) rfl rfl rfl rfl rfl (fun v71 w71 q71 => ?_)
  obtain ⟨rfl, rfl⟩ := q71
  rw [w_CI, g_CuIk, g_CuCu, g_KeIk, g_KeCu]
  refine tg_eqW (w2 := (l, tm_cs (re6 h (yKe y) (39 * q)) (zIk (zCu y (39 * q + 37)) false))) rfl ?_
  refine tg_steps 1 rfl ?_
  refine tg_eqW (w2 := (l, tm_cs (re7 h (yKe y) (39 * q)) (zIk (zCu y (39 * q + 37)) false))) (m_S _) ?_
  refine tg_steps 4 rfl ?_
  refine tg_callV rfl (m_poR (l := l) (h := re7 h (yKe y) (39 * q)) (y := zIk (zCu y (39 * q + 37)) false) (by show 39 * q + 37 < 117; omega) rfl _) rfl rfl rfl rfl rfl (fun v83 w83 q83 => ?_)
  obtain ⟨rfl, rfl⟩ := q83
  rw [w_CI, g_CuIk, g_CuCu, g_KeIk, g_KeCu]
  refine tg_eqW (w2 := (l, tm_cs (re7 h (yKe y) (39 * q)) (zIk (zCu y (39 * q + 38)) false))) rfl ?_
  rw [hk.2.2.2.1]
  refine tg_steps 1 rfl ?_
  refine tg_eqW (w2 := (l, tm_cs (re8 h g (yKe y) (39 * q)) (zIk (zCu y (39 * q + 38)) false))) (m_M _) ?_
  refine tg_steps 4 rfl ?_
  refine tg_callV rfl (m_poR (l := l) (h := re8 h g (yKe y) (39 * q)) (y := zIk (zCu y (39 * q + 38)) false) (by show 39 * q + 38 < 117; omega) rfl _) rfl rfl rfl rfl rfl (fun v95 w95 q95 => ?_)
  obtain ⟨rfl, rfl⟩ := q95
  rw [w_CI, g_CuIk, g_CuCu, g_KeIk, g_KeCu]
  refine tg_eqW (w2 := (l, tm_cs (re8 h g (yKe y) (39 * q)) (zIk (zCu y (39 * q + 39)) false))) rfl ?_
  refine tg_steps 1 rfl ?_
  refine tg_eqW (w2 := (l, tm_cs (re9 h g (yKe y) (39 * q)) (zIk (zCu y (39 * q + 39)) false))) (m_N _) ?_
  refine tg_simH (g := re9 h g (yKe y) (39 * q)) (h := g) hk.2.1 hk.2.2.1 hk.2.2.2.2 rfl (fun i hi => ?_) ?_
  · obtain ⟨a, b, c, d, e⟩ := hk.1 i hi
    exact ⟨a.symm.trans (rdS_in (yKe y) (39 * q) (hK h) hi).symm, b.symm.trans (rdS_in (yKe y) (39 * q + 7) (hF (re1 h (yKe y) (39 * q))) hi).symm, c.symm.trans (rdS_in (yKe y) (39 * q + 14) (hH (re2 h (yKe y) (39 * q))) hi).symm, d.symm.trans (rdS_in (yKe y) (39 * q + 21) (hT (re3 h (yKe y) (39 * q))) hi).symm, e.symm.trans (rdS_in (yKe y) (39 * q + 28) (hP (re4 h (yKe y) (39 * q))) hi).symm⟩
  exact tg_vret (st := []) rfl rfl ⟨Nat.le_of_ble_eq_true rfl, Nat.le_of_ble_eq_true rfl⟩ ⟨rfl, rfl⟩
