/-! the public methods, continued -/
set_option maxRecDepth 100000 in
set_option maxHeartbeats 2000000 in
theorem c_commonDivisor {G : tg_G} {w : tg_W} (a b : Int64) : tg_C G 1 mX10_commonDivisor 0 0 [.long a, .long b] w (fun v w2 => v = some (.long (cdv a b)) ∧ w2 = w) := by
  obtain ⟨N, hN⟩ : ∃ N : Nat, N = 128 := ⟨128, rfl⟩
  refine tg_intro okX10_commonDivisor (Nat.le_of_ble_eq_true rfl) ?_
  refine tg_steps 6 rfl ?_
  refine tg_pkV [4, 6, 8] ?_
  refine tg_eqS (L2 := [(4, .long (eu a b (0)).1), (6, .long (eu a b (0)).2), (8, .int (nI (0)))]) (st2 := []) (w2 := w) rfl rfl rfl ?_
  refine tg_down (φ := fun i : Nat => tg_V G 1 mX10_commonDivisor 0 0 0 0 (fun v w2 => v = some (.long (cdv a b)) ∧ w2 = w) 9 [(4, .long (eu a b (i)).1), (6, .long (eu a b (i)).2), (8, .int (nI (i)))] [] w) (n := N) ?_ ?_ 0 (Nat.zero_le _) 
  · refine tg_steps 2 rfl ?_
    refine tg_icge rfl rfl (fun h14 => ?_) (fun h14 => ?_)
    · refine tg_steps 3 rfl ?_
      refine tg_ifne rfl rfl (fun h49 => ?_) (fun h49 => ?_)
      · refine tg_steps 1 rfl ?_
        exact tg_lret (st := []) rfl rfl ⟨Nat.le_of_ble_eq_true rfl, Nat.le_of_ble_eq_true rfl⟩ ⟨by unfold cdv; rw [← hN]; first | rw [if_pos h49] | rw [if_neg h49], rfl⟩
      · refine tg_steps 2 rfl ?_
        exact tg_lret (st := []) rfl rfl ⟨Nat.le_of_ble_eq_true rfl, Nat.le_of_ble_eq_true rfl⟩ ⟨by unfold cdv; rw [← hN]; first | rw [if_pos h49] | rw [if_neg h49], rfl⟩
    · exact absurd (by rw [hN]; decide) h14
  · intro i hi9 ih9
    refine tg_steps 2 rfl ?_
    refine tg_icge rfl rfl (fun h14 => ?_) (fun h14 => ?_)
    · exact absurd h14 (nI_ge (b := 128) (hN ▸ hi9) (by decide))
    · refine tg_steps 3 rfl ?_
      refine tg_ifeq rfl rfl (fun h21 => ?_) (fun h21 => ?_)
      · have hend : eu a b N = eu a b i := by
          have := eu_stop h21 (N - i)
          rw [show i + (N - i) = N by omega] at this
          exact this
        refine tg_steps 3 rfl ?_
        refine tg_ifne rfl rfl (fun h49 => ?_) (fun h49 => ?_)
        · refine tg_steps 1 rfl ?_
          exact tg_lret (st := []) rfl rfl ⟨Nat.le_of_ble_eq_true rfl, Nat.le_of_ble_eq_true rfl⟩ ⟨by unfold cdv; rw [← hN, hend]; first | rw [if_pos h49] | rw [if_neg h49], rfl⟩
        · refine tg_steps 2 rfl ?_
          exact tg_lret (st := []) rfl rfl ⟨Nat.le_of_ble_eq_true rfl, Nat.le_of_ble_eq_true rfl⟩ ⟨by unfold cdv; rw [← hN, hend]; first | rw [if_pos h49] | rw [if_neg h49], rfl⟩
      · refine tg_steps 2 rfl ?_
        refine tg_lremv rfl (lc_ne h21) ?_
        refine tg_steps 7 rfl ?_
        refine tg_pkV [4, 6, 8] ?_
        refine tg_eqS (L2 := [(4, .long (eu a b (i + 1)).1), (6, .long (eu a b (i + 1)).2), (8, .int (nI (i + 1)))]) (st2 := []) (w2 := w) (by first | rfl | (simp (decide := true) only [nI_succ, eu_succ, decide_true, decide_false, cond_true, cond_false, Bool.false_eq_true, if_true, if_false, ite_true, ite_false, h21]; done) | (simp (decide := true) only [nI_succ, eu_succ, decide_true, decide_false, cond_true, cond_false, Bool.false_eq_true, if_true, if_false, ite_true, ite_false, h21]; rfl)) rfl (by first | rfl | (simp (decide := true) only [nI_succ, eu_succ, decide_true, decide_false, cond_true, cond_false, Bool.false_eq_true, if_true, if_false, ite_true, ite_false, h21]; done) | (simp (decide := true) only [nI_succ, eu_succ, decide_true, decide_false, cond_true, cond_false, Bool.false_eq_true, if_true, if_false, ite_true, ite_false, h21]; rfl)) ?_
        exact ih9
