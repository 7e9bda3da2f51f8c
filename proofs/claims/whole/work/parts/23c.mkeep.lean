/-! kept and put back, the end -/
set_option maxRecDepth 100000 in
set_option maxHeartbeats 2000000 in
theorem m_thinks {G : tg_G} {l : List tg_Cl} {h : tp_H} {y : tp_Y} : tg_C G 3 mX11_thinks 0 0 [.ref 64] (l, tm_cs h y) (fun v w => v = none ∧ w = (l, tm_cs h (zIk (zCu (zKe y (svA h (yKe y) 78)) 117) true))) := by
  refine tg_intro okX11_thinks (Nat.le_of_ble_eq_true rfl) ?_
  refine tg_steps 3 rfl ?_
  refine tg_callV rfl (m_keep 2 (by decide)) rfl rfl rfl rfl rfl (fun v3 w3 q3 => ?_)
  obtain ⟨rfl, rfl⟩ := q3
  exact tg_vret (st := []) rfl rfl ⟨Nat.le_of_ble_eq_true rfl, Nat.le_of_ble_eq_true rfl⟩ ⟨rfl, rfl⟩
set_option maxRecDepth 100000 in
set_option maxHeartbeats 2000000 in
theorem m_changes {G : tg_G} {l : List tg_Cl} {h : tp_H} {y : tp_Y} : tg_C G 3 mX11_changes 0 0 [.ref 64] (l, tm_cs h y) (fun v w => v = none ∧ w = (l, tm_cs h (zIk (zCu (zKe y (svA h (yKe y) 39)) 78) true))) := by
  refine tg_intro okX11_changes (Nat.le_of_ble_eq_true rfl) ?_
  refine tg_steps 3 rfl ?_
  refine tg_callV rfl (m_keep 1 (by decide)) rfl rfl rfl rfl rfl (fun v3 w3 q3 => ?_)
  obtain ⟨rfl, rfl⟩ := q3
  exact tg_vret (st := []) rfl rfl ⟨Nat.le_of_ble_eq_true rfl, Nat.le_of_ble_eq_true rfl⟩ ⟨rfl, rfl⟩
set_option maxRecDepth 100000 in
set_option maxHeartbeats 2000000 in
theorem m_forgets {G : tg_G} {l : List tg_Cl} {h : tp_H} {y : tp_Y} {g : tp_H} (hk : hld (yKe y) 78 g) : tg_C G 3 mX11_forgets 0 0 [.ref 64] (l, tm_cs h y) (fun v w => v = none ∧ w = (l, tm_cs g (zIk (zCu y 117) false))) := by
  refine tg_intro okX11_forgets (Nat.le_of_ble_eq_true rfl) ?_
  refine tg_steps 3 rfl ?_
  refine tg_callV rfl (m_back 2 (by decide) hk) rfl rfl rfl rfl rfl (fun v3 w3 q3 => ?_)
  obtain ⟨rfl, rfl⟩ := q3
  exact tg_vret (st := []) rfl rfl ⟨Nat.le_of_ble_eq_true rfl, Nat.le_of_ble_eq_true rfl⟩ ⟨rfl, rfl⟩
set_option maxRecDepth 100000 in
set_option maxHeartbeats 2000000 in
theorem m_changesBack {G : tg_G} {l : List tg_Cl} {h : tp_H} {y : tp_Y} {g : tp_H} (hk : hld (yKe y) 39 g) : tg_C G 3 mX11_changesBack 0 0 [.ref 64] (l, tm_cs h y) (fun v w => v = none ∧ w = (l, tm_cs g (zIk (zCu y 78) false))) := by
  refine tg_intro okX11_changesBack (Nat.le_of_ble_eq_true rfl) ?_
  refine tg_steps 3 rfl ?_
  refine tg_callV rfl (m_back 1 (by decide) hk) rfl rfl rfl rfl rfl (fun v3 w3 q3 => ?_)
  obtain ⟨rfl, rfl⟩ := q3
  exact tg_vret (st := []) rfl rfl ⟨Nat.le_of_ble_eq_true rfl, Nat.le_of_ble_eq_true rfl⟩ ⟨rfl, rfl⟩
