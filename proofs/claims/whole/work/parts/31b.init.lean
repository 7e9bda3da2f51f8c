/-! the reference is made -/
def y0Y : tp_Y := (fun _ => 0, fun _ => 0, fun _ => 0, fun _ => 0, fun _ => 0, 0, 0, 0, fun _ => 0, false, false, 0, 0, fun _ => 0, fun _ => 0, 0, 0)
def m0C : tg_Cl := .inl (11, [.null, .null, .null, .null, .null, .null, .int 0, .int 0, .int 0, .int 0, .null, .null, .null, .null, .int 0, .int 0, .int 0, .null, .int 0, .int 0, .int 0, .int 0, .null, .null, .int 0, .int 0])
set_option maxRecDepth 100000 in
set_option maxHeartbeats 2000000 in
theorem i_X11 {G : tg_G} {l : List tg_Cl} (hl : l.length = 47) : tg_C G 1 mX11_init 13 519 [.ref 64] (l, [m0C]) (fun v w => v = none ∧ w = (l, tm_cs h0H y0Y)) := by
  refine tg_intro okX11_init (Nat.le_of_ble_eq_true rfl) ?_
  refine tg_steps 1 rfl ?_
  refine tg_objI rfl rfl ?_
  refine tg_steps 2 rfl ?_
  refine tg_arrB 7 rfl rfl hl rfl ?_
  refine tg_steps 1 rfl ?_
  refine tg_eqW (w2 := (l, [.inl (11, [.ref 65, .null, .null, .null, .null, .null, .int 0, .int 0, .int 0, .int 0, .null, .null, .null, .null, .int 0, .int 0, .int 0, .null, .int 0, .int 0, .int 0, .int 0, .null, .null, .int 0, .int 0]), .inr (7, fun _ => 0)])) rfl ?_
  refine tg_steps 2 rfl ?_
  refine tg_arrB 7 rfl rfl hl rfl ?_
  refine tg_steps 1 rfl ?_
  refine tg_eqW (w2 := (l, [.inl (11, [.ref 65, .ref 66, .null, .null, .null, .null, .int 0, .int 0, .int 0, .int 0, .null, .null, .null, .null, .int 0, .int 0, .int 0, .null, .int 0, .int 0, .int 0, .int 0, .null, .null, .int 0, .int 0]), .inr (7, fun _ => 0), .inr (7, fun _ => 0)])) rfl ?_
  refine tg_steps 2 rfl ?_
  refine tg_arrB 7 rfl rfl hl rfl ?_
  refine tg_steps 1 rfl ?_
  refine tg_eqW (w2 := (l, [.inl (11, [.ref 65, .ref 66, .ref 67, .null, .null, .null, .int 0, .int 0, .int 0, .int 0, .null, .null, .null, .null, .int 0, .int 0, .int 0, .null, .int 0, .int 0, .int 0, .int 0, .null, .null, .int 0, .int 0]), .inr (7, fun _ => 0), .inr (7, fun _ => 0), .inr (7, fun _ => 0)])) rfl ?_
  refine tg_steps 2 rfl ?_
  refine tg_arrB 7 rfl rfl hl rfl ?_
  refine tg_steps 1 rfl ?_
  refine tg_eqW (w2 := (l, [.inl (11, [.ref 65, .ref 66, .ref 67, .ref 68, .null, .null, .int 0, .int 0, .int 0, .int 0, .null, .null, .null, .null, .int 0, .int 0, .int 0, .null, .int 0, .int 0, .int 0, .int 0, .null, .null, .int 0, .int 0]), .inr (7, fun _ => 0), .inr (7, fun _ => 0), .inr (7, fun _ => 0), .inr (7, fun _ => 0)])) rfl ?_
  refine tg_steps 2 rfl ?_
  refine tg_arrB 7 rfl rfl hl rfl ?_
  refine tg_steps 1 rfl ?_
  refine tg_eqW (w2 := (l, [.inl (11, [.ref 65, .ref 66, .ref 67, .ref 68, .ref 69, .null, .int 0, .int 0, .int 0, .int 0, .null, .null, .null, .null, .int 0, .int 0, .int 0, .null, .int 0, .int 0, .int 0, .int 0, .null, .null, .int 0, .int 0]), .inr (7, fun _ => 0), .inr (7, fun _ => 0), .inr (7, fun _ => 0), .inr (7, fun _ => 0), .inr (7, fun _ => 0)])) rfl ?_
  refine tg_steps 2 rfl ?_
  refine tg_arrB 7 rfl rfl hl rfl ?_
  refine tg_steps 1 rfl ?_
  refine tg_eqW (w2 := (l, [.inl (11, [.ref 65, .ref 66, .ref 67, .ref 68, .ref 69, .ref 70, .int 0, .int 0, .int 0, .int 0, .null, .null, .null, .null, .int 0, .int 0, .int 0, .null, .int 0, .int 0, .int 0, .int 0, .null, .null, .int 0, .int 0]), .inr (7, fun _ => 0), .inr (7, fun _ => 0), .inr (7, fun _ => 0), .inr (7, fun _ => 0), .inr (7, fun _ => 0), .inr (7, fun _ => 0)])) rfl ?_
  refine tg_steps 2 rfl ?_
  refine tg_arrB 96 rfl rfl hl rfl ?_
  refine tg_steps 1 rfl ?_
  refine tg_eqW (w2 := (l, [.inl (11, [.ref 65, .ref 66, .ref 67, .ref 68, .ref 69, .ref 70, .int 0, .int 0, .int 0, .int 0, .ref 71, .null, .null, .null, .int 0, .int 0, .int 0, .null, .int 0, .int 0, .int 0, .int 0, .null, .null, .int 0, .int 0]), .inr (7, fun _ => 0), .inr (7, fun _ => 0), .inr (7, fun _ => 0), .inr (7, fun _ => 0), .inr (7, fun _ => 0), .inr (7, fun _ => 0), .inr (96, fun _ => 0)])) rfl ?_
  refine tg_steps 2 rfl ?_
  refine tg_arrB 48 rfl rfl hl rfl ?_
  refine tg_steps 1 rfl ?_
  refine tg_eqW (w2 := (l, [.inl (11, [.ref 65, .ref 66, .ref 67, .ref 68, .ref 69, .ref 70, .int 0, .int 0, .int 0, .int 0, .ref 71, .ref 72, .null, .null, .int 0, .int 0, .int 0, .null, .int 0, .int 0, .int 0, .int 0, .null, .null, .int 0, .int 0]), .inr (7, fun _ => 0), .inr (7, fun _ => 0), .inr (7, fun _ => 0), .inr (7, fun _ => 0), .inr (7, fun _ => 0), .inr (7, fun _ => 0), .inr (96, fun _ => 0), .inr (48, fun _ => 0)])) rfl ?_
  refine tg_steps 2 rfl ?_
  refine tg_arrB 48 rfl rfl hl rfl ?_
  refine tg_steps 1 rfl ?_
  refine tg_eqW (w2 := (l, [.inl (11, [.ref 65, .ref 66, .ref 67, .ref 68, .ref 69, .ref 70, .int 0, .int 0, .int 0, .int 0, .ref 71, .ref 72, .ref 73, .null, .int 0, .int 0, .int 0, .null, .int 0, .int 0, .int 0, .int 0, .null, .null, .int 0, .int 0]), .inr (7, fun _ => 0), .inr (7, fun _ => 0), .inr (7, fun _ => 0), .inr (7, fun _ => 0), .inr (7, fun _ => 0), .inr (7, fun _ => 0), .inr (96, fun _ => 0), .inr (48, fun _ => 0), .inr (48, fun _ => 0)])) rfl ?_
  refine tg_steps 2 rfl ?_
  refine tg_arrB 144 rfl rfl hl rfl ?_
  refine tg_steps 1 rfl ?_
  refine tg_eqW (w2 := (l, [.inl (11, [.ref 65, .ref 66, .ref 67, .ref 68, .ref 69, .ref 70, .int 0, .int 0, .int 0, .int 0, .ref 71, .ref 72, .ref 73, .ref 74, .int 0, .int 0, .int 0, .null, .int 0, .int 0, .int 0, .int 0, .null, .null, .int 0, .int 0]), .inr (7, fun _ => 0), .inr (7, fun _ => 0), .inr (7, fun _ => 0), .inr (7, fun _ => 0), .inr (7, fun _ => 0), .inr (7, fun _ => 0), .inr (96, fun _ => 0), .inr (48, fun _ => 0), .inr (48, fun _ => 0), .inr (144, fun _ => 0)])) rfl ?_
  refine tg_steps 2 rfl ?_
  refine tg_arrB 117 rfl rfl hl rfl ?_
  refine tg_steps 1 rfl ?_
  refine tg_eqW (w2 := (l, [.inl (11, [.ref 65, .ref 66, .ref 67, .ref 68, .ref 69, .ref 70, .int 0, .int 0, .int 0, .int 0, .ref 71, .ref 72, .ref 73, .ref 74, .int 0, .int 0, .int 0, .ref 75, .int 0, .int 0, .int 0, .int 0, .null, .null, .int 0, .int 0]), .inr (7, fun _ => 0), .inr (7, fun _ => 0), .inr (7, fun _ => 0), .inr (7, fun _ => 0), .inr (7, fun _ => 0), .inr (7, fun _ => 0), .inr (96, fun _ => 0), .inr (48, fun _ => 0), .inr (48, fun _ => 0), .inr (144, fun _ => 0), .inr (117, fun _ => 0)])) rfl ?_
  refine tg_steps 2 rfl ?_
  refine tg_arrB 8 rfl rfl hl rfl ?_
  refine tg_steps 1 rfl ?_
  refine tg_eqW (w2 := (l, [.inl (11, [.ref 65, .ref 66, .ref 67, .ref 68, .ref 69, .ref 70, .int 0, .int 0, .int 0, .int 0, .ref 71, .ref 72, .ref 73, .ref 74, .int 0, .int 0, .int 0, .ref 75, .int 0, .int 0, .int 0, .int 0, .ref 76, .null, .int 0, .int 0]), .inr (7, fun _ => 0), .inr (7, fun _ => 0), .inr (7, fun _ => 0), .inr (7, fun _ => 0), .inr (7, fun _ => 0), .inr (7, fun _ => 0), .inr (96, fun _ => 0), .inr (48, fun _ => 0), .inr (48, fun _ => 0), .inr (144, fun _ => 0), .inr (117, fun _ => 0), .inr (8, fun _ => 0)])) rfl ?_
  refine tg_steps 2 rfl ?_
  refine tg_arrB 16 rfl rfl hl rfl ?_
  refine tg_steps 1 rfl ?_
  refine tg_eqW (w2 := (l, [.inl (11, [.ref 65, .ref 66, .ref 67, .ref 68, .ref 69, .ref 70, .int 0, .int 0, .int 0, .int 0, .ref 71, .ref 72, .ref 73, .ref 74, .int 0, .int 0, .int 0, .ref 75, .int 0, .int 0, .int 0, .int 0, .ref 76, .ref 77, .int 0, .int 0]), .inr (7, fun _ => 0), .inr (7, fun _ => 0), .inr (7, fun _ => 0), .inr (7, fun _ => 0), .inr (7, fun _ => 0), .inr (7, fun _ => 0), .inr (96, fun _ => 0), .inr (48, fun _ => 0), .inr (48, fun _ => 0), .inr (144, fun _ => 0), .inr (117, fun _ => 0), .inr (8, fun _ => 0), .inr (16, fun _ => 0)])) rfl ?_
  refine tg_steps 3 rfl ?_
  refine tg_eqW (w2 := (l, tm_cs h0H y0Y)) rfl ?_
  exact tg_vret (st := []) rfl rfl ⟨Nat.le_of_ble_eq_true rfl, Nat.le_of_ble_eq_true rfl⟩ ⟨rfl, rfl⟩
