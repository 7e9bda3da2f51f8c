/-! the reference is made -/
def y0Y : tp_Y := (fun _ => 0, fun _ => 0, fun _ => 0, fun _ => 0, fun _ => 0, 0, 0, 0, fun _ => 0, false, false, 0, 0, fun _ => 0, fun _ => 0, 0, 0)
def m0C : tg_Cl := .inl (11, [.null, .null, .null, .null, .null, .null, .int 0, .int 0, .int 0, .int 0, .null, .null, .null, .null, .int 0, .int 0, .int 0, .null, .int 0, .int 0, .int 0, .int 0, .null, .null, .int 0, .int 0])
set_option maxRecDepth 100000 in
set_option maxHeartbeats 20000000 in
theorem i_X11 {G : tg_G} {l : List tg_Cl} (hl : l.length = 47) : tg_C G 1 mX11_init 13 519 [.ref 64] (l, [m0C]) (fun v w => v = none ∧ w = (l, tm_cs h0H y0Y)) := by
  refine tg_intro okX11_init (Nat.le_of_ble_eq_true rfl) ?_
  refine tg_steps 1 rfl ?_
  refine tg_objI rfl rfl ?_
  refine tg_steps 2 rfl ?_
  refine tg_arrB 7 rfl rfl hl rfl ?_
  refine tg_steps 3 rfl ?_
  refine tg_arrB 7 rfl rfl hl rfl ?_
  refine tg_steps 3 rfl ?_
  refine tg_arrB 7 rfl rfl hl rfl ?_
  refine tg_steps 3 rfl ?_
  refine tg_arrB 7 rfl rfl hl rfl ?_
  refine tg_steps 3 rfl ?_
  refine tg_arrB 7 rfl rfl hl rfl ?_
  refine tg_steps 3 rfl ?_
  refine tg_arrB 7 rfl rfl hl rfl ?_
  refine tg_steps 3 rfl ?_
  refine tg_arrB 96 rfl rfl hl rfl ?_
  refine tg_steps 3 rfl ?_
  refine tg_arrB 48 rfl rfl hl rfl ?_
  refine tg_steps 3 rfl ?_
  refine tg_arrB 48 rfl rfl hl rfl ?_
  refine tg_steps 3 rfl ?_
  refine tg_arrB 144 rfl rfl hl rfl ?_
  refine tg_steps 3 rfl ?_
  refine tg_arrB 117 rfl rfl hl rfl ?_
  refine tg_steps 3 rfl ?_
  refine tg_arrB 8 rfl rfl hl rfl ?_
  refine tg_steps 3 rfl ?_
  refine tg_arrB 16 rfl rfl hl rfl ?_
  refine tg_steps 4 rfl ?_
  exact tg_vret (st := []) rfl rfl ⟨Nat.le_of_ble_eq_true rfl, Nat.le_of_ble_eq_true rfl⟩ ⟨rfl, rfl⟩
