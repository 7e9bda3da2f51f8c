/-! the objects are made -/
set_option maxRecDepth 100000 in
set_option maxHeartbeats 2000000 in
theorem i_X8 {G : tg_G} {w : tg_W} (b : Nat) : tg_C G 1 mX8_init 0 0 [.ref b] w (fun v w2 => v = none ∧ w2 = w) := by
  refine tg_intro okX8_init (Nat.le_of_ble_eq_true rfl) ?_
  refine tg_steps 1 rfl ?_
  refine tg_objI rfl rfl ?_
  exact tg_vret (st := []) rfl rfl ⟨Nat.le_of_ble_eq_true rfl, Nat.le_of_ble_eq_true rfl⟩ ⟨rfl, rfl⟩
set_option maxRecDepth 100000 in
set_option maxHeartbeats 2000000 in
theorem i_X2 {G : tg_G} {w : tg_W} (b : Nat) : tg_C G 2 mX2_init 0 0 [.ref b] w (fun v w2 => v = none ∧ w2 = w) := by
  refine tg_intro okX2_init (Nat.le_of_ble_eq_true rfl) ?_
  refine tg_steps 1 rfl ?_
  refine tg_call2 rfl (i_X8 b) rfl rfl rfl rfl  (fun v1 w1 q1 => ?_)
  obtain ⟨rfl, rfl⟩ := q1
  exact tg_vret (st := []) rfl rfl ⟨Nat.le_of_ble_eq_true rfl, Nat.le_of_ble_eq_true rfl⟩ ⟨rfl, rfl⟩
set_option maxRecDepth 100000 in
set_option maxHeartbeats 2000000 in
theorem i_X0 {G : tg_G} {w : tg_W} (b : Nat) : tg_C G 2 mX0_init 0 0 [.ref b] w (fun v w2 => v = none ∧ w2 = w) := by
  refine tg_intro okX0_init (Nat.le_of_ble_eq_true rfl) ?_
  refine tg_steps 1 rfl ?_
  refine tg_call2 rfl (i_X8 b) rfl rfl rfl rfl  (fun v1 w1 q1 => ?_)
  obtain ⟨rfl, rfl⟩ := q1
  exact tg_vret (st := []) rfl rfl ⟨Nat.le_of_ble_eq_true rfl, Nat.le_of_ble_eq_true rfl⟩ ⟨rfl, rfl⟩
set_option maxRecDepth 100000 in
set_option maxHeartbeats 2000000 in
theorem i_X7 {G : tg_G} {w : tg_W} (b : Nat) : tg_C G 2 mX7_init 0 0 [.ref b] w (fun v w2 => v = none ∧ w2 = w) := by
  refine tg_intro okX7_init (Nat.le_of_ble_eq_true rfl) ?_
  refine tg_steps 1 rfl ?_
  refine tg_call2 rfl (i_X8 b) rfl rfl rfl rfl  (fun v1 w1 q1 => ?_)
  obtain ⟨rfl, rfl⟩ := q1
  exact tg_vret (st := []) rfl rfl ⟨Nat.le_of_ble_eq_true rfl, Nat.le_of_ble_eq_true rfl⟩ ⟨rfl, rfl⟩
set_option maxRecDepth 100000 in
set_option maxHeartbeats 2000000 in
theorem i_X9 {G : tg_G} {w : tg_W} (b : Nat) : tg_C G 3 mX9_init 0 0 [.ref b] w (fun v w2 => v = none ∧ w2 = w) := by
  refine tg_intro okX9_init (Nat.le_of_ble_eq_true rfl) ?_
  refine tg_steps 1 rfl ?_
  refine tg_call2 rfl (i_X7 b) rfl rfl rfl rfl  (fun v1 w1 q1 => ?_)
  obtain ⟨rfl, rfl⟩ := q1
  exact tg_vret (st := []) rfl rfl ⟨Nat.le_of_ble_eq_true rfl, Nat.le_of_ble_eq_true rfl⟩ ⟨rfl, rfl⟩
set_option maxRecDepth 100000 in
set_option maxHeartbeats 2000000 in
theorem i_X5 {G : tg_G} {w : tg_W} (b : Nat) : tg_C G 3 mX5_init 0 0 [.ref b] w (fun v w2 => v = none ∧ w2 = w) := by
  refine tg_intro okX5_init (Nat.le_of_ble_eq_true rfl) ?_
  refine tg_steps 1 rfl ?_
  refine tg_call2 rfl (i_X7 b) rfl rfl rfl rfl  (fun v1 w1 q1 => ?_)
  obtain ⟨rfl, rfl⟩ := q1
  exact tg_vret (st := []) rfl rfl ⟨Nat.le_of_ble_eq_true rfl, Nat.le_of_ble_eq_true rfl⟩ ⟨rfl, rfl⟩
set_option maxRecDepth 100000 in
set_option maxHeartbeats 2000000 in
theorem i_X1_1 {G : tg_G}  : tg_C G 4 mX1_init 11 35 [.ref 1] ([.inl (10, [.null, .null, .int 0, .null, .null, .null, .null, .int 0, .null]), .inl (1, [.int 0, .int 0, .int 0, .int 0, .null, .null, .null, .null, .null, .null, .null, .null, .null, .null, .null])], []) (fun v w => v = none ∧ w = ([.inl (10, [.null, .null, .int 0, .null, .null, .null, .null, .int 0, .null]), .inl (1, [.int 0, .int 23, .int 0, .int 0, .ref 2, .ref 3, .ref 4, .ref 5, .ref 6, .ref 7, .ref 8, .ref 9, .ref 10, .ref 11, .ref 12]), .inr (7, fun _ => 0), .inr (7, fun _ => 0), .inr (7, fun _ => 0), .inr (7, fun _ => 0), .inr (7, fun _ => 0), .inl (8, []), .inl (2, []), .inl (0, []), .inl (7, []), .inl (9, []), .inl (5, [])], [])) := by
  refine tg_intro okX1_init (Nat.le_of_ble_eq_true rfl) ?_
  refine tg_steps 1 rfl ?_
  refine tg_objI rfl rfl ?_
  refine tg_steps 14 rfl ?_
  refine tg_arrA 7 rfl rfl rfl ?_
  refine tg_steps 3 rfl ?_
  refine tg_arrA 7 rfl rfl rfl ?_
  refine tg_steps 3 rfl ?_
  refine tg_arrA 7 rfl rfl rfl ?_
  refine tg_steps 3 rfl ?_
  refine tg_arrA 7 rfl rfl rfl ?_
  refine tg_steps 3 rfl ?_
  refine tg_arrA 7 rfl rfl rfl ?_
  refine tg_steps 2 rfl ?_
  refine tg_newA [] rfl (by decide +kernel) rfl rfl ?_
  refine tg_steps 1 rfl ?_
  refine tg_call2 rfl (i_X8 _) rfl rfl rfl rfl  (fun v70 w70 q70 => ?_)
  obtain ⟨rfl, rfl⟩ := q70
  refine tg_steps 2 rfl ?_
  refine tg_newA [] rfl (by decide +kernel) rfl rfl ?_
  refine tg_steps 1 rfl ?_
  refine tg_call2 rfl (i_X2 _) rfl rfl rfl rfl  (fun v81 w81 q81 => ?_)
  obtain ⟨rfl, rfl⟩ := q81
  refine tg_steps 2 rfl ?_
  refine tg_newA [] rfl (by decide +kernel) rfl rfl ?_
  refine tg_steps 1 rfl ?_
  refine tg_call2 rfl (i_X0 _) rfl rfl rfl rfl  (fun v92 w92 q92 => ?_)
  obtain ⟨rfl, rfl⟩ := q92
  refine tg_steps 2 rfl ?_
  refine tg_newA [] rfl (by decide +kernel) rfl rfl ?_
  refine tg_steps 1 rfl ?_
  refine tg_call2 rfl (i_X7 _) rfl rfl rfl rfl  (fun v103 w103 q103 => ?_)
  obtain ⟨rfl, rfl⟩ := q103
  refine tg_steps 2 rfl ?_
  refine tg_newA [] rfl (by decide +kernel) rfl rfl ?_
  refine tg_steps 1 rfl ?_
  refine tg_call2 rfl (i_X9 _) rfl rfl rfl rfl  (fun v114 w114 q114 => ?_)
  obtain ⟨rfl, rfl⟩ := q114
  refine tg_steps 2 rfl ?_
  refine tg_newA [] rfl (by decide +kernel) rfl rfl ?_
  refine tg_steps 1 rfl ?_
  refine tg_call2 rfl (i_X5 _) rfl rfl rfl rfl  (fun v125 w125 q125 => ?_)
  obtain ⟨rfl, rfl⟩ := q125
  refine tg_steps 1 rfl ?_
  exact tg_vret (st := []) rfl rfl ⟨Nat.le_of_ble_eq_true rfl, Nat.le_of_ble_eq_true rfl⟩ ⟨rfl, rfl⟩
set_option maxRecDepth 100000 in
set_option maxHeartbeats 2000000 in
theorem i_X1_13 {G : tg_G}  : tg_C G 4 mX1_init 11 35 [.ref 13] ([.inl (10, [.ref 1, .null, .int 0, .null, .null, .null, .null, .int 0, .null]), .inl (1, [.int 0, .int 23, .int 0, .int 0, .ref 2, .ref 3, .ref 4, .ref 5, .ref 6, .ref 7, .ref 8, .ref 9, .ref 10, .ref 11, .ref 12]), .inr (7, fun _ => 0), .inr (7, fun _ => 0), .inr (7, fun _ => 0), .inr (7, fun _ => 0), .inr (7, fun _ => 0), .inl (8, []), .inl (2, []), .inl (0, []), .inl (7, []), .inl (9, []), .inl (5, []), .inl (1, [.int 0, .int 0, .int 0, .int 0, .null, .null, .null, .null, .null, .null, .null, .null, .null, .null, .null])], []) (fun v w => v = none ∧ w = ([.inl (10, [.ref 1, .null, .int 0, .null, .null, .null, .null, .int 0, .null]), .inl (1, [.int 0, .int 23, .int 0, .int 0, .ref 2, .ref 3, .ref 4, .ref 5, .ref 6, .ref 7, .ref 8, .ref 9, .ref 10, .ref 11, .ref 12]), .inr (7, fun _ => 0), .inr (7, fun _ => 0), .inr (7, fun _ => 0), .inr (7, fun _ => 0), .inr (7, fun _ => 0), .inl (8, []), .inl (2, []), .inl (0, []), .inl (7, []), .inl (9, []), .inl (5, []), .inl (1, [.int 0, .int 23, .int 0, .int 0, .ref 14, .ref 15, .ref 16, .ref 17, .ref 18, .ref 19, .ref 20, .ref 21, .ref 22, .ref 23, .ref 24]), .inr (7, fun _ => 0), .inr (7, fun _ => 0), .inr (7, fun _ => 0), .inr (7, fun _ => 0), .inr (7, fun _ => 0), .inl (8, []), .inl (2, []), .inl (0, []), .inl (7, []), .inl (9, []), .inl (5, [])], [])) := by
  refine tg_intro okX1_init (Nat.le_of_ble_eq_true rfl) ?_
  refine tg_steps 1 rfl ?_
  refine tg_objI rfl rfl ?_
  refine tg_steps 14 rfl ?_
  refine tg_arrA 7 rfl rfl rfl ?_
  refine tg_steps 3 rfl ?_
  refine tg_arrA 7 rfl rfl rfl ?_
  refine tg_steps 3 rfl ?_
  refine tg_arrA 7 rfl rfl rfl ?_
  refine tg_steps 3 rfl ?_
  refine tg_arrA 7 rfl rfl rfl ?_
  refine tg_steps 3 rfl ?_
  refine tg_arrA 7 rfl rfl rfl ?_
  refine tg_steps 2 rfl ?_
  refine tg_newA [] rfl (by decide +kernel) rfl rfl ?_
  refine tg_steps 1 rfl ?_
  refine tg_call2 rfl (i_X8 _) rfl rfl rfl rfl  (fun v70 w70 q70 => ?_)
  obtain ⟨rfl, rfl⟩ := q70
  refine tg_steps 2 rfl ?_
  refine tg_newA [] rfl (by decide +kernel) rfl rfl ?_
  refine tg_steps 1 rfl ?_
  refine tg_call2 rfl (i_X2 _) rfl rfl rfl rfl  (fun v81 w81 q81 => ?_)
  obtain ⟨rfl, rfl⟩ := q81
  refine tg_steps 2 rfl ?_
  refine tg_newA [] rfl (by decide +kernel) rfl rfl ?_
  refine tg_steps 1 rfl ?_
  refine tg_call2 rfl (i_X0 _) rfl rfl rfl rfl  (fun v92 w92 q92 => ?_)
  obtain ⟨rfl, rfl⟩ := q92
  refine tg_steps 2 rfl ?_
  refine tg_newA [] rfl (by decide +kernel) rfl rfl ?_
  refine tg_steps 1 rfl ?_
  refine tg_call2 rfl (i_X7 _) rfl rfl rfl rfl  (fun v103 w103 q103 => ?_)
  obtain ⟨rfl, rfl⟩ := q103
  refine tg_steps 2 rfl ?_
  refine tg_newA [] rfl (by decide +kernel) rfl rfl ?_
  refine tg_steps 1 rfl ?_
  refine tg_call2 rfl (i_X9 _) rfl rfl rfl rfl  (fun v114 w114 q114 => ?_)
  obtain ⟨rfl, rfl⟩ := q114
  refine tg_steps 2 rfl ?_
  refine tg_newA [] rfl (by decide +kernel) rfl rfl ?_
  refine tg_steps 1 rfl ?_
  refine tg_call2 rfl (i_X5 _) rfl rfl rfl rfl  (fun v125 w125 q125 => ?_)
  obtain ⟨rfl, rfl⟩ := q125
  refine tg_steps 1 rfl ?_
  exact tg_vret (st := []) rfl rfl ⟨Nat.le_of_ble_eq_true rfl, Nat.le_of_ble_eq_true rfl⟩ ⟨rfl, rfl⟩
set_option maxRecDepth 100000 in
set_option maxHeartbeats 2000000 in
theorem i_X1_26 {G : tg_G}  : tg_C G 4 mX1_init 11 35 [.ref 26] ([.inl (10, [.ref 1, .ref 13, .int 0, .null, .null, .null, .null, .int 0, .null]), .inl (1, [.int 0, .int 23, .int 0, .int 0, .ref 2, .ref 3, .ref 4, .ref 5, .ref 6, .ref 7, .ref 8, .ref 9, .ref 10, .ref 11, .ref 12]), .inr (7, fun _ => 0), .inr (7, fun _ => 0), .inr (7, fun _ => 0), .inr (7, fun _ => 0), .inr (7, fun _ => 0), .inl (8, []), .inl (2, []), .inl (0, []), .inl (7, []), .inl (9, []), .inl (5, []), .inl (1, [.int 0, .int 23, .int 0, .int 0, .ref 14, .ref 15, .ref 16, .ref 17, .ref 18, .ref 19, .ref 20, .ref 21, .ref 22, .ref 23, .ref 24]), .inr (7, fun _ => 0), .inr (7, fun _ => 0), .inr (7, fun _ => 0), .inr (7, fun _ => 0), .inr (7, fun _ => 0), .inl (8, []), .inl (2, []), .inl (0, []), .inl (7, []), .inl (9, []), .inl (5, []), .inl (4, [.null, .null, .null, .int 0]), .inl (1, [.int 0, .int 0, .int 0, .int 0, .null, .null, .null, .null, .null, .null, .null, .null, .null, .null, .null])], []) (fun v w => v = none ∧ w = ([.inl (10, [.ref 1, .ref 13, .int 0, .null, .null, .null, .null, .int 0, .null]), .inl (1, [.int 0, .int 23, .int 0, .int 0, .ref 2, .ref 3, .ref 4, .ref 5, .ref 6, .ref 7, .ref 8, .ref 9, .ref 10, .ref 11, .ref 12]), .inr (7, fun _ => 0), .inr (7, fun _ => 0), .inr (7, fun _ => 0), .inr (7, fun _ => 0), .inr (7, fun _ => 0), .inl (8, []), .inl (2, []), .inl (0, []), .inl (7, []), .inl (9, []), .inl (5, []), .inl (1, [.int 0, .int 23, .int 0, .int 0, .ref 14, .ref 15, .ref 16, .ref 17, .ref 18, .ref 19, .ref 20, .ref 21, .ref 22, .ref 23, .ref 24]), .inr (7, fun _ => 0), .inr (7, fun _ => 0), .inr (7, fun _ => 0), .inr (7, fun _ => 0), .inr (7, fun _ => 0), .inl (8, []), .inl (2, []), .inl (0, []), .inl (7, []), .inl (9, []), .inl (5, []), .inl (4, [.null, .null, .null, .int 0]), .inl (1, [.int 0, .int 23, .int 0, .int 0, .ref 27, .ref 28, .ref 29, .ref 30, .ref 31, .ref 32, .ref 33, .ref 34, .ref 35, .ref 36, .ref 37]), .inr (7, fun _ => 0), .inr (7, fun _ => 0), .inr (7, fun _ => 0), .inr (7, fun _ => 0), .inr (7, fun _ => 0), .inl (8, []), .inl (2, []), .inl (0, []), .inl (7, []), .inl (9, []), .inl (5, [])], [])) := by
  refine tg_intro okX1_init (Nat.le_of_ble_eq_true rfl) ?_
  refine tg_steps 1 rfl ?_
  refine tg_objI rfl rfl ?_
  refine tg_steps 14 rfl ?_
  refine tg_arrA 7 rfl rfl rfl ?_
  refine tg_steps 3 rfl ?_
  refine tg_arrA 7 rfl rfl rfl ?_
  refine tg_steps 3 rfl ?_
  refine tg_arrA 7 rfl rfl rfl ?_
  refine tg_steps 3 rfl ?_
  refine tg_arrA 7 rfl rfl rfl ?_
  refine tg_steps 3 rfl ?_
  refine tg_arrA 7 rfl rfl rfl ?_
  refine tg_steps 2 rfl ?_
  refine tg_newA [] rfl (by decide +kernel) rfl rfl ?_
  refine tg_steps 1 rfl ?_
  refine tg_call2 rfl (i_X8 _) rfl rfl rfl rfl  (fun v70 w70 q70 => ?_)
  obtain ⟨rfl, rfl⟩ := q70
  refine tg_steps 2 rfl ?_
  refine tg_newA [] rfl (by decide +kernel) rfl rfl ?_
  refine tg_steps 1 rfl ?_
  refine tg_call2 rfl (i_X2 _) rfl rfl rfl rfl  (fun v81 w81 q81 => ?_)
  obtain ⟨rfl, rfl⟩ := q81
  refine tg_steps 2 rfl ?_
  refine tg_newA [] rfl (by decide +kernel) rfl rfl ?_
  refine tg_steps 1 rfl ?_
  refine tg_call2 rfl (i_X0 _) rfl rfl rfl rfl  (fun v92 w92 q92 => ?_)
  obtain ⟨rfl, rfl⟩ := q92
  refine tg_steps 2 rfl ?_
  refine tg_newA [] rfl (by decide +kernel) rfl rfl ?_
  refine tg_steps 1 rfl ?_
  refine tg_call2 rfl (i_X7 _) rfl rfl rfl rfl  (fun v103 w103 q103 => ?_)
  obtain ⟨rfl, rfl⟩ := q103
  refine tg_steps 2 rfl ?_
  refine tg_newA [] rfl (by decide +kernel) rfl rfl ?_
  refine tg_steps 1 rfl ?_
  refine tg_call2 rfl (i_X9 _) rfl rfl rfl rfl  (fun v114 w114 q114 => ?_)
  obtain ⟨rfl, rfl⟩ := q114
  refine tg_steps 2 rfl ?_
  refine tg_newA [] rfl (by decide +kernel) rfl rfl ?_
  refine tg_steps 1 rfl ?_
  refine tg_call2 rfl (i_X5 _) rfl rfl rfl rfl  (fun v125 w125 q125 => ?_)
  obtain ⟨rfl, rfl⟩ := q125
  refine tg_steps 1 rfl ?_
  exact tg_vret (st := []) rfl rfl ⟨Nat.le_of_ble_eq_true rfl, Nat.le_of_ble_eq_true rfl⟩ ⟨rfl, rfl⟩
set_option maxRecDepth 100000 in
set_option maxHeartbeats 2000000 in
theorem i_X4 {G : tg_G}  : tg_C G 5 mX4_init 14 58 [.ref 25] ([.inl (10, [.ref 1, .ref 13, .int 0, .null, .null, .null, .null, .int 0, .null]), .inl (1, [.int 0, .int 23, .int 0, .int 0, .ref 2, .ref 3, .ref 4, .ref 5, .ref 6, .ref 7, .ref 8, .ref 9, .ref 10, .ref 11, .ref 12]), .inr (7, fun _ => 0), .inr (7, fun _ => 0), .inr (7, fun _ => 0), .inr (7, fun _ => 0), .inr (7, fun _ => 0), .inl (8, []), .inl (2, []), .inl (0, []), .inl (7, []), .inl (9, []), .inl (5, []), .inl (1, [.int 0, .int 23, .int 0, .int 0, .ref 14, .ref 15, .ref 16, .ref 17, .ref 18, .ref 19, .ref 20, .ref 21, .ref 22, .ref 23, .ref 24]), .inr (7, fun _ => 0), .inr (7, fun _ => 0), .inr (7, fun _ => 0), .inr (7, fun _ => 0), .inr (7, fun _ => 0), .inl (8, []), .inl (2, []), .inl (0, []), .inl (7, []), .inl (9, []), .inl (5, []), .inl (4, [.null, .null, .null, .int 0])], []) (fun v w => v = none ∧ w = ([.inl (10, [.ref 1, .ref 13, .int 0, .null, .null, .null, .null, .int 0, .null]), .inl (1, [.int 0, .int 23, .int 0, .int 0, .ref 2, .ref 3, .ref 4, .ref 5, .ref 6, .ref 7, .ref 8, .ref 9, .ref 10, .ref 11, .ref 12]), .inr (7, fun _ => 0), .inr (7, fun _ => 0), .inr (7, fun _ => 0), .inr (7, fun _ => 0), .inr (7, fun _ => 0), .inl (8, []), .inl (2, []), .inl (0, []), .inl (7, []), .inl (9, []), .inl (5, []), .inl (1, [.int 0, .int 23, .int 0, .int 0, .ref 14, .ref 15, .ref 16, .ref 17, .ref 18, .ref 19, .ref 20, .ref 21, .ref 22, .ref 23, .ref 24]), .inr (7, fun _ => 0), .inr (7, fun _ => 0), .inr (7, fun _ => 0), .inr (7, fun _ => 0), .inr (7, fun _ => 0), .inl (8, []), .inl (2, []), .inl (0, []), .inl (7, []), .inl (9, []), .inl (5, []), .inl (4, [.ref 26, .ref 38, .ref 39, .int 0]), .inl (1, [.int 0, .int 23, .int 0, .int 0, .ref 27, .ref 28, .ref 29, .ref 30, .ref 31, .ref 32, .ref 33, .ref 34, .ref 35, .ref 36, .ref 37]), .inr (7, fun _ => 0), .inr (7, fun _ => 0), .inr (7, fun _ => 0), .inr (7, fun _ => 0), .inr (7, fun _ => 0), .inl (8, []), .inl (2, []), .inl (0, []), .inl (7, []), .inl (9, []), .inl (5, []), .inr (4, fun _ => 0), .inr (4, fun _ => 0)], [])) := by
  refine tg_intro okX4_init (Nat.le_of_ble_eq_true rfl) ?_
  refine tg_steps 1 rfl ?_
  refine tg_objI rfl rfl ?_
  refine tg_steps 1 rfl ?_
  refine tg_newA [.int 0, .int 0, .int 0, .int 0, .null, .null, .null, .null, .null, .null, .null, .null, .null, .null, .null] rfl (by decide +kernel) rfl rfl ?_
  refine tg_steps 1 rfl ?_
  refine tg_call2 rfl (i_X1_26) rfl rfl rfl rfl  (fun v9 w9 q9 => ?_)
  obtain ⟨rfl, rfl⟩ := q9
  refine tg_steps 3 rfl ?_
  refine tg_arrA 4 rfl rfl rfl ?_
  refine tg_steps 3 rfl ?_
  refine tg_arrA 4 rfl rfl rfl ?_
  refine tg_steps 4 rfl ?_
  exact tg_vret (st := []) rfl rfl ⟨Nat.le_of_ble_eq_true rfl, Nat.le_of_ble_eq_true rfl⟩ ⟨rfl, rfl⟩
set_option maxRecDepth 100000 in
set_option maxHeartbeats 2000000 in
theorem i_X6 {G : tg_G}  : tg_C G 1 mX6_init 2 48 [.ref 40] ([.inl (10, [.ref 1, .ref 13, .int 0, .ref 25, .null, .null, .null, .int 0, .null]), .inl (1, [.int 0, .int 23, .int 0, .int 0, .ref 2, .ref 3, .ref 4, .ref 5, .ref 6, .ref 7, .ref 8, .ref 9, .ref 10, .ref 11, .ref 12]), .inr (7, fun _ => 0), .inr (7, fun _ => 0), .inr (7, fun _ => 0), .inr (7, fun _ => 0), .inr (7, fun _ => 0), .inl (8, []), .inl (2, []), .inl (0, []), .inl (7, []), .inl (9, []), .inl (5, []), .inl (1, [.int 0, .int 23, .int 0, .int 0, .ref 14, .ref 15, .ref 16, .ref 17, .ref 18, .ref 19, .ref 20, .ref 21, .ref 22, .ref 23, .ref 24]), .inr (7, fun _ => 0), .inr (7, fun _ => 0), .inr (7, fun _ => 0), .inr (7, fun _ => 0), .inr (7, fun _ => 0), .inl (8, []), .inl (2, []), .inl (0, []), .inl (7, []), .inl (9, []), .inl (5, []), .inl (4, [.ref 26, .ref 38, .ref 39, .int 0]), .inl (1, [.int 0, .int 23, .int 0, .int 0, .ref 27, .ref 28, .ref 29, .ref 30, .ref 31, .ref 32, .ref 33, .ref 34, .ref 35, .ref 36, .ref 37]), .inr (7, fun _ => 0), .inr (7, fun _ => 0), .inr (7, fun _ => 0), .inr (7, fun _ => 0), .inr (7, fun _ => 0), .inl (8, []), .inl (2, []), .inl (0, []), .inl (7, []), .inl (9, []), .inl (5, []), .inr (4, fun _ => 0), .inr (4, fun _ => 0), .inl (6, [.null, .null])], []) (fun v w => v = none ∧ w = ([.inl (10, [.ref 1, .ref 13, .int 0, .ref 25, .null, .null, .null, .int 0, .null]), .inl (1, [.int 0, .int 23, .int 0, .int 0, .ref 2, .ref 3, .ref 4, .ref 5, .ref 6, .ref 7, .ref 8, .ref 9, .ref 10, .ref 11, .ref 12]), .inr (7, fun _ => 0), .inr (7, fun _ => 0), .inr (7, fun _ => 0), .inr (7, fun _ => 0), .inr (7, fun _ => 0), .inl (8, []), .inl (2, []), .inl (0, []), .inl (7, []), .inl (9, []), .inl (5, []), .inl (1, [.int 0, .int 23, .int 0, .int 0, .ref 14, .ref 15, .ref 16, .ref 17, .ref 18, .ref 19, .ref 20, .ref 21, .ref 22, .ref 23, .ref 24]), .inr (7, fun _ => 0), .inr (7, fun _ => 0), .inr (7, fun _ => 0), .inr (7, fun _ => 0), .inr (7, fun _ => 0), .inl (8, []), .inl (2, []), .inl (0, []), .inl (7, []), .inl (9, []), .inl (5, []), .inl (4, [.ref 26, .ref 38, .ref 39, .int 0]), .inl (1, [.int 0, .int 23, .int 0, .int 0, .ref 27, .ref 28, .ref 29, .ref 30, .ref 31, .ref 32, .ref 33, .ref 34, .ref 35, .ref 36, .ref 37]), .inr (7, fun _ => 0), .inr (7, fun _ => 0), .inr (7, fun _ => 0), .inr (7, fun _ => 0), .inr (7, fun _ => 0), .inl (8, []), .inl (2, []), .inl (0, []), .inl (7, []), .inl (9, []), .inl (5, []), .inr (4, fun _ => 0), .inr (4, fun _ => 0), .inl (6, [.ref 41, .ref 42]), .inr (24, fun _ => 0), .inr (24, fun _ => 0)], [])) := by
  refine tg_intro okX6_init (Nat.le_of_ble_eq_true rfl) ?_
  refine tg_steps 1 rfl ?_
  refine tg_objI rfl rfl ?_
  refine tg_steps 2 rfl ?_
  refine tg_arrA 24 rfl rfl rfl ?_
  refine tg_steps 3 rfl ?_
  refine tg_arrA 24 rfl rfl rfl ?_
  refine tg_steps 1 rfl ?_
  exact tg_vret (st := []) rfl rfl ⟨Nat.le_of_ble_eq_true rfl, Nat.le_of_ble_eq_true rfl⟩ ⟨rfl, rfl⟩
set_option maxRecDepth 100000 in
set_option maxHeartbeats 2000000 in
theorem i_X3 {G : tg_G}  : tg_C G 1 mX3_init 1 96 [.ref 43] ([.inl (10, [.ref 1, .ref 13, .int 0, .ref 25, .ref 40, .null, .null, .int 0, .null]), .inl (1, [.int 0, .int 23, .int 0, .int 0, .ref 2, .ref 3, .ref 4, .ref 5, .ref 6, .ref 7, .ref 8, .ref 9, .ref 10, .ref 11, .ref 12]), .inr (7, fun _ => 0), .inr (7, fun _ => 0), .inr (7, fun _ => 0), .inr (7, fun _ => 0), .inr (7, fun _ => 0), .inl (8, []), .inl (2, []), .inl (0, []), .inl (7, []), .inl (9, []), .inl (5, []), .inl (1, [.int 0, .int 23, .int 0, .int 0, .ref 14, .ref 15, .ref 16, .ref 17, .ref 18, .ref 19, .ref 20, .ref 21, .ref 22, .ref 23, .ref 24]), .inr (7, fun _ => 0), .inr (7, fun _ => 0), .inr (7, fun _ => 0), .inr (7, fun _ => 0), .inr (7, fun _ => 0), .inl (8, []), .inl (2, []), .inl (0, []), .inl (7, []), .inl (9, []), .inl (5, []), .inl (4, [.ref 26, .ref 38, .ref 39, .int 0]), .inl (1, [.int 0, .int 23, .int 0, .int 0, .ref 27, .ref 28, .ref 29, .ref 30, .ref 31, .ref 32, .ref 33, .ref 34, .ref 35, .ref 36, .ref 37]), .inr (7, fun _ => 0), .inr (7, fun _ => 0), .inr (7, fun _ => 0), .inr (7, fun _ => 0), .inr (7, fun _ => 0), .inl (8, []), .inl (2, []), .inl (0, []), .inl (7, []), .inl (9, []), .inl (5, []), .inr (4, fun _ => 0), .inr (4, fun _ => 0), .inl (6, [.ref 41, .ref 42]), .inr (24, fun _ => 0), .inr (24, fun _ => 0), .inl (3, [.null, .int 0])], []) (fun v w => v = none ∧ w = ([.inl (10, [.ref 1, .ref 13, .int 0, .ref 25, .ref 40, .null, .null, .int 0, .null]), .inl (1, [.int 0, .int 23, .int 0, .int 0, .ref 2, .ref 3, .ref 4, .ref 5, .ref 6, .ref 7, .ref 8, .ref 9, .ref 10, .ref 11, .ref 12]), .inr (7, fun _ => 0), .inr (7, fun _ => 0), .inr (7, fun _ => 0), .inr (7, fun _ => 0), .inr (7, fun _ => 0), .inl (8, []), .inl (2, []), .inl (0, []), .inl (7, []), .inl (9, []), .inl (5, []), .inl (1, [.int 0, .int 23, .int 0, .int 0, .ref 14, .ref 15, .ref 16, .ref 17, .ref 18, .ref 19, .ref 20, .ref 21, .ref 22, .ref 23, .ref 24]), .inr (7, fun _ => 0), .inr (7, fun _ => 0), .inr (7, fun _ => 0), .inr (7, fun _ => 0), .inr (7, fun _ => 0), .inl (8, []), .inl (2, []), .inl (0, []), .inl (7, []), .inl (9, []), .inl (5, []), .inl (4, [.ref 26, .ref 38, .ref 39, .int 0]), .inl (1, [.int 0, .int 23, .int 0, .int 0, .ref 27, .ref 28, .ref 29, .ref 30, .ref 31, .ref 32, .ref 33, .ref 34, .ref 35, .ref 36, .ref 37]), .inr (7, fun _ => 0), .inr (7, fun _ => 0), .inr (7, fun _ => 0), .inr (7, fun _ => 0), .inr (7, fun _ => 0), .inl (8, []), .inl (2, []), .inl (0, []), .inl (7, []), .inl (9, []), .inl (5, []), .inr (4, fun _ => 0), .inr (4, fun _ => 0), .inl (6, [.ref 41, .ref 42]), .inr (24, fun _ => 0), .inr (24, fun _ => 0), .inl (3, [.ref 44, .int 0]), .inr (96, fun _ => 0)], [])) := by
  refine tg_intro okX3_init (Nat.le_of_ble_eq_true rfl) ?_
  refine tg_steps 1 rfl ?_
  refine tg_objI rfl rfl ?_
  refine tg_steps 2 rfl ?_
  refine tg_arrA 96 rfl rfl rfl ?_
  refine tg_steps 4 rfl ?_
  exact tg_vret (st := []) rfl rfl ⟨Nat.le_of_ble_eq_true rfl, Nat.le_of_ble_eq_true rfl⟩ ⟨rfl, rfl⟩
def h0H : tp_H := (0, 23, 0, 0, fun _ => 0, fun _ => 0, fun _ => 0, fun _ => 0, fun _ => 0)
def x0X : tp_X := (false, 0, fun _ => 0, fun _ => 0, 0, fun _ => 0, 0, fun _ => 0, fun _ => 0, fun _ => 0, fun _ => 0)
set_option maxRecDepth 100000 in
set_option maxHeartbeats 2000000 in
theorem i_X10 {G : tg_G}  : tg_C G 6 mX10_init 46 333 [.ref 0] ([.inl (10, [.null, .null, .int 0, .null, .null, .null, .null, .int 0, .null])], []) (fun v w => v = none ∧ w = (tp_cs h0H h0H h0H x0X, [])) := by
  refine tg_intro okX10_init (Nat.le_of_ble_eq_true rfl) ?_
  refine tg_steps 1 rfl ?_
  refine tg_objI rfl rfl ?_
  refine tg_steps 1 rfl ?_
  refine tg_newA [.int 0, .int 0, .int 0, .int 0, .null, .null, .null, .null, .null, .null, .null, .null, .null, .null, .null] rfl (by decide +kernel) rfl rfl ?_
  refine tg_steps 1 rfl ?_
  refine tg_call2 rfl (i_X1_1) rfl rfl rfl rfl  (fun v9 w9 q9 => ?_)
  obtain ⟨rfl, rfl⟩ := q9
  refine tg_steps 2 rfl ?_
  refine tg_newA [.int 0, .int 0, .int 0, .int 0, .null, .null, .null, .null, .null, .null, .null, .null, .null, .null, .null] rfl (by decide +kernel) rfl rfl ?_
  refine tg_steps 1 rfl ?_
  refine tg_call2 rfl (i_X1_13) rfl rfl rfl rfl  (fun v20 w20 q20 => ?_)
  obtain ⟨rfl, rfl⟩ := q20
  refine tg_steps 3 rfl ?_
  refine tg_putz rfl rfl (Or.inl rfl) rfl ?_
  refine tg_steps 1 rfl ?_
  refine tg_newA [.null, .null, .null, .int 0] rfl (by decide +kernel) rfl rfl ?_
  refine tg_steps 1 rfl ?_
  refine tg_call2 rfl (i_X4) rfl rfl rfl rfl  (fun v36 w36 q36 => ?_)
  obtain ⟨rfl, rfl⟩ := q36
  refine tg_steps 2 rfl ?_
  refine tg_newA [.null, .null] rfl (by decide +kernel) rfl rfl ?_
  refine tg_steps 1 rfl ?_
  refine tg_call2 rfl (i_X6) rfl rfl rfl rfl  (fun v47 w47 q47 => ?_)
  obtain ⟨rfl, rfl⟩ := q47
  refine tg_steps 2 rfl ?_
  refine tg_newA [.null, .int 0] rfl (by decide +kernel) rfl rfl ?_
  refine tg_steps 1 rfl ?_
  refine tg_call2 rfl (i_X3) rfl rfl rfl rfl  (fun v58 w58 q58 => ?_)
  obtain ⟨rfl, rfl⟩ := q58
  refine tg_steps 3 rfl ?_
  refine tg_arrA 16 rfl rfl rfl ?_
  refine tg_steps 6 rfl ?_
  refine tg_arrA 7 rfl rfl rfl ?_
  refine tg_steps 1 rfl ?_
  exact tg_vret (st := []) rfl rfl ⟨Nat.le_of_ble_eq_true rfl, Nat.le_of_ble_eq_true rfl⟩ ⟨rfl, rfl⟩
