/-! the reference in mind, continued -/
def spT (h : tp_H) (to a : Int32) : Int32 := if to < 0 then a else bif hsB (hC h) to then a else a ||| (1 <<< (to &&& 31))
def spW (h : tp_H) (s a : Int32) (t : Nat) : Nat → Int32
  | 0 => a
  | k + 1 => bif hsB s (nI t) then spT h (byM (nI t) (nI k)) (spW h s a t k) else spW h s a t k
theorem spW_succ (h : tp_H) (s a : Int32) (t k : Nat) : spW h s a t (k + 1) = bif hsB s (nI t) then spT h (byM (nI t) (nI k)) (spW h s a t k) else spW h s a t k := rfl
theorem spW_n {h : tp_H} {s a : Int32} {t : Nat} (hs : hsB s (nI t) = false) (k : Nat) : spW h s a t k = a := by
  induction k with
  | zero => rfl
  | succ k ih => rw [spW_succ, hs, cond_false, ih]
def spO (h : tp_H) (s : Int32) : Nat → Int32
  | 0 => s
  | t + 1 => spW h s (spO h s t) t 4
theorem spO_succ (h : tp_H) (s : Int32) (t : Nat) : spO h s (t + 1) = spW h s (spO h s t) t 4 := rfl
def fsI (h : tp_H) (a : Int32) : Nat → Int32
  | 0 => 1 <<< (a &&& 31)
  | n + 1 => spO h (fsI h a n) 24
theorem fsI_succ (h : tp_H) (a : Int32) (n : Nat) : fsI h a (n + 1) = spO h (fsI h a n) 24 := rfl
def frP (h : tp_H) (a b : Int32) (n : Nat) : Bool := hsB (fsI h a n) b
def frM (h : tp_H) (a b : Int32) : Int32 := fiV (frP h a b) nI (-9) 25 0
set_option maxRecDepth 100000 in
set_option maxHeartbeats 2000000 in
theorem m_spreadFrom {G : tg_G} {l : List tg_Cl} {h : tp_H} {y : tp_Y} (s : Int32) : tg_C G 2 mX11_spreadFrom 0 0 [.ref 64, .int s] (l, tm_cs h y) (fun v w => v = some (.int (spO h s 24)) ∧ w = (l, tm_cs h y)) := by
  obtain ⟨N, hN⟩ : ∃ N : Nat, N = 24 := ⟨24, rfl⟩
  obtain ⟨N4, hN4⟩ : ∃ N : Nat, N = 4 := ⟨4, rfl⟩
  refine tg_intro okX11_spreadFrom (Nat.le_of_ble_eq_true rfl) ?_
  refine tg_steps 4 rfl ?_
  refine tg_pkV [0, 1, 2, 3] ?_
  refine tg_eqS (L2 := [(0, .ref 64), (1, .int s), (2, .int (spO h s (0))), (3, .int (nI (0)))]) (st2 := []) (w2 := (l, tm_cs h y)) rfl rfl rfl ?_
  refine tg_down (φ := fun t : Nat => tg_V G 2 mX11_spreadFrom 0 0 0 0 (fun v w => v = some (.int (spO h s 24)) ∧ w = (l, tm_cs h y)) 4 [(0, .ref 64), (1, .int s), (2, .int (spO h s (t))), (3, .int (nI (t)))] [] (l, tm_cs h y)) (n := N) ?_ ?_ 0 (Nat.zero_le _) 
  · refine tg_steps 2 rfl ?_
    refine tg_icge rfl rfl (fun h7 => ?_) (fun h7 => ?_)
    · refine tg_steps 1 rfl ?_
      exact tg_iret (st := []) rfl rfl ⟨Nat.le_of_ble_eq_true rfl, Nat.le_of_ble_eq_true rfl⟩ ⟨by rw [← hN], rfl⟩
    · exact absurd (by rw [hN]; decide) h7
  · intro t hi4 ih4
    have e4 : spO h s (t + 1) = spW h s (spO h s t) t N4 := by rw [spO_succ, hN4]
    refine tg_steps 2 rfl ?_
    refine tg_icge rfl rfl (fun h7 => ?_) (fun h7 => ?_)
    · exact absurd h7 (nI_ge (b := 24) (hN ▸ hi4) (by decide))
    · refine tg_steps 2 rfl ?_
      refine tg_pkV [0, 1, 2, 3, 4] ?_
      refine tg_eqS (L2 := [(0, .ref 64), (1, .int s), (2, .int (spW h s (spO h s t) t (0))), (3, .int (nI t)), (4, .int (nI (0)))]) (st2 := []) (w2 := (l, tm_cs h y)) rfl rfl rfl ?_
      refine tg_down (φ := fun k : Nat => tg_V G 2 mX11_spreadFrom 0 0 0 0 (fun v w => v = some (.int (spO h s 24)) ∧ w = (l, tm_cs h y)) 13 [(0, .ref 64), (1, .int s), (2, .int (spW h s (spO h s t) t (k))), (3, .int (nI t)), (4, .int (nI (k)))] [] (l, tm_cs h y)) (n := N4) ?_ ?_ 0 (Nat.zero_le _) 
      · refine tg_steps 2 rfl ?_
        refine tg_icge rfl rfl (fun h16 => ?_) (fun h16 => ?_)
        · refine tg_steps 2 rfl ?_
          refine tg_pkV [0, 1, 2, 3] ?_
          refine tg_eqS (L2 := [(0, .ref 64), (1, .int s), (2, .int (spO h s (t + 1))), (3, .int (nI (t + 1)))]) (st2 := []) (w2 := (l, tm_cs h y)) (by first | (rw [e4, hend, nI_succ]; rfl) | (rw [e4, nI_succ]; rfl)) rfl (by first | (simp (decide := true) only [nI_succ, decide_true, decide_false, cond_true, cond_false, Bool.false_eq_true, if_true, if_false, ite_true, ite_false]; done) | (simp (decide := true) only [nI_succ, decide_true, decide_false, cond_true, cond_false, Bool.false_eq_true, if_true, if_false, ite_true, ite_false]; rfl) | rfl) ?_
          exact ih4
        · exact absurd (by rw [hN4]; decide) h16
      · intro k hi13 ih13
        refine tg_steps 2 rfl ?_
        refine tg_icge rfl rfl (fun h16 => ?_) (fun h16 => ?_)
        · exact absurd h16 (nI_ge (b := 4) (hN4 ▸ hi13) (by decide))
        · refine tg_steps 2 rfl ?_
          refine tg_call1 rfl (m_has _ _) rfl rfl rfl  (fun v21 w21 q21 => ?_)
          obtain ⟨rfl, rfl⟩ := q21
          refine tg_ifbeq rfl rfl (fun h24 => ?_) (fun h24 => ?_)
          · have hend : spW h s (spO h s t) t N4 = spW h s (spO h s t) t k := (spW_n h24 N4).trans (spW_n h24 k).symm
            refine tg_steps 2 rfl ?_
            refine tg_pkV [0, 1, 2, 3] ?_
            refine tg_eqS (L2 := [(0, .ref 64), (1, .int s), (2, .int (spO h s (t + 1))), (3, .int (nI (t + 1)))]) (st2 := []) (w2 := (l, tm_cs h y)) (by first | (rw [e4, hend, nI_succ]; rfl) | (rw [e4, nI_succ]; rfl)) rfl (by first | (simp (decide := true) only [nI_succ, decide_true, decide_false, cond_true, cond_false, Bool.false_eq_true, if_true, if_false, ite_true, ite_false, h24]; done) | (simp (decide := true) only [nI_succ, decide_true, decide_false, cond_true, cond_false, Bool.false_eq_true, if_true, if_false, ite_true, ite_false, h24]; rfl) | rfl) ?_
            exact ih4
          · refine tg_steps 2 rfl ?_
            refine tg_call1 rfl (m_beyond _ _) rfl rfl rfl  (fun v30 w30 q30 => ?_)
            obtain ⟨rfl, rfl⟩ := q30
            refine tg_steps 3 rfl ?_
            refine tg_iflt rfl rfl (fun h38 => ?_) (fun h38 => ?_)
            · refine tg_steps 6 rfl ?_
              refine tg_pkV [0, 1, 2, 3, 4] ?_
              refine tg_eqS (L2 := [(0, .ref 64), (1, .int s), (2, .int (spW h s (spO h s t) t (k + 1))), (3, .int (nI t)), (4, .int (nI (k + 1)))]) (st2 := []) (w2 := (l, tm_cs h y)) (by first | (simp (decide := true) only [nI_succ, spW_succ, spT, Int32.or_zero, decide_true, decide_false, cond_true, cond_false, Bool.false_eq_true, if_true, if_false, ite_true, ite_false, h24, h38, Int32.not_le.mpr h38]; done) | (simp (decide := true) only [nI_succ, spW_succ, spT, Int32.or_zero, decide_true, decide_false, cond_true, cond_false, Bool.false_eq_true, if_true, if_false, ite_true, ite_false, h24, h38, Int32.not_le.mpr h38]; rfl) | rfl) rfl (by first | (simp (decide := true) only [nI_succ, spW_succ, spT, Int32.or_zero, decide_true, decide_false, cond_true, cond_false, Bool.false_eq_true, if_true, if_false, ite_true, ite_false, h24, h38, Int32.not_le.mpr h38]; done) | (simp (decide := true) only [nI_succ, spW_succ, spT, Int32.or_zero, decide_true, decide_false, cond_true, cond_false, Bool.false_eq_true, if_true, if_false, ite_true, ite_false, h24, h38, Int32.not_le.mpr h38]; rfl) | rfl) ?_
              exact ih13
            · refine tg_steps 3 rfl ?_
              refine tg_call1 rfl (m_has _ _) rfl rfl rfl  (fun v47 w47 q47 => ?_)
              obtain ⟨rfl, rfl⟩ := q47
              refine tg_ifbeq rfl rfl (fun h50 => ?_) (fun h50 => ?_)
              · refine tg_steps 7 rfl ?_
                refine tg_pkV [0, 1, 2, 3, 4] ?_
                refine tg_eqS (L2 := [(0, .ref 64), (1, .int s), (2, .int (spW h s (spO h s t) t (k + 1))), (3, .int (nI t)), (4, .int (nI (k + 1)))]) (st2 := []) (w2 := (l, tm_cs h y)) (by first | (simp (decide := true) only [nI_succ, spW_succ, spT, Int32.or_zero, decide_true, decide_false, cond_true, cond_false, Bool.false_eq_true, if_true, if_false, ite_true, ite_false, h24, h38, Int32.not_lt.mp h38, h50]; done) | (simp (decide := true) only [nI_succ, spW_succ, spT, Int32.or_zero, decide_true, decide_false, cond_true, cond_false, Bool.false_eq_true, if_true, if_false, ite_true, ite_false, h24, h38, Int32.not_lt.mp h38, h50]; rfl) | rfl) rfl (by first | (simp (decide := true) only [nI_succ, spW_succ, spT, Int32.or_zero, decide_true, decide_false, cond_true, cond_false, Bool.false_eq_true, if_true, if_false, ite_true, ite_false, h24, h38, Int32.not_lt.mp h38, h50]; done) | (simp (decide := true) only [nI_succ, spW_succ, spT, Int32.or_zero, decide_true, decide_false, cond_true, cond_false, Bool.false_eq_true, if_true, if_false, ite_true, ite_false, h24, h38, Int32.not_lt.mp h38, h50]; rfl) | rfl) ?_
                exact ih13
              · refine tg_steps 6 rfl ?_
                refine tg_pkV [0, 1, 2, 3, 4] ?_
                refine tg_eqS (L2 := [(0, .ref 64), (1, .int s), (2, .int (spW h s (spO h s t) t (k + 1))), (3, .int (nI t)), (4, .int (nI (k + 1)))]) (st2 := []) (w2 := (l, tm_cs h y)) (by first | (simp (decide := true) only [nI_succ, spW_succ, spT, Int32.or_zero, decide_true, decide_false, cond_true, cond_false, Bool.false_eq_true, if_true, if_false, ite_true, ite_false, h24, h38, Int32.not_lt.mp h38, h50]; done) | (simp (decide := true) only [nI_succ, spW_succ, spT, Int32.or_zero, decide_true, decide_false, cond_true, cond_false, Bool.false_eq_true, if_true, if_false, ite_true, ite_false, h24, h38, Int32.not_lt.mp h38, h50]; rfl) | rfl) rfl (by first | (simp (decide := true) only [nI_succ, spW_succ, spT, Int32.or_zero, decide_true, decide_false, cond_true, cond_false, Bool.false_eq_true, if_true, if_false, ite_true, ite_false, h24, h38, Int32.not_lt.mp h38, h50]; done) | (simp (decide := true) only [nI_succ, spW_succ, spT, Int32.or_zero, decide_true, decide_false, cond_true, cond_false, Bool.false_eq_true, if_true, if_false, ite_true, ite_false, h24, h38, Int32.not_lt.mp h38, h50]; rfl) | rfl) ?_
                exact ih13
set_option maxRecDepth 100000 in
set_option maxHeartbeats 2000000 in
theorem m_farFrom {G : tg_G} {l : List tg_Cl} {h : tp_H} {y : tp_Y} (a b : Int32) : tg_C G 3 mX11_farFrom 0 0 [.ref 64, .int a, .int b] (l, tm_cs h y) (fun v w => v = some (.int (frM h a b)) ∧ w = (l, tm_cs h y)) := by
  obtain ⟨N, hN⟩ : ∃ N : Nat, N = 25 := ⟨25, rfl⟩
  refine tg_intro okX11_farFrom (Nat.le_of_ble_eq_true rfl) ?_
  refine tg_steps 6 rfl ?_
  refine tg_pkV [0, 1, 2, 3, 4] ?_
  refine tg_eqS (L2 := [(0, .ref 64), (1, .int a), (2, .int b), (3, .int (fsI h a (0))), (4, .int (nI (0)))]) (st2 := []) (w2 := (l, tm_cs h y)) rfl rfl rfl ?_
  refine tg_down (φ := fun i : Nat => (fiV (frP h a b) nI (-9) N 0 = fiV (frP h a b) nI (-9) (N - (i)) (i)) → tg_V G 3 mX11_farFrom 0 0 0 0 (fun v w => v = some (.int (frM h a b)) ∧ w = (l, tm_cs h y)) 7 [(0, .ref 64), (1, .int a), (2, .int b), (3, .int (fsI h a (i))), (4, .int (nI (i)))] [] (l, tm_cs h y)) (n := N) ?_ ?_ 0 (Nat.zero_le _) (rfl)
  · intro hinv7
    refine tg_steps 2 rfl ?_
    refine tg_icgt rfl rfl (fun h11 => ?_) (fun h11 => ?_)
    · refine tg_steps 1 rfl ?_
      exact tg_iret (st := []) rfl rfl ⟨Nat.le_of_ble_eq_true rfl, Nat.le_of_ble_eq_true rfl⟩ ⟨by unfold frM; rw [← hN, hinv7, Nat.sub_self]; rfl, rfl⟩
    · exact absurd (by rw [hN]; decide) h11
  · intro i hi7 ih7 hinv7
    rw [show N - i = N - (i + 1) + 1 by omega, fiV_succ _ _ _ (N - (i + 1)) i] at hinv7
    refine tg_steps 2 rfl ?_
    refine tg_icgt rfl rfl (fun h11 => ?_) (fun h11 => ?_)
    · exact absurd h11 (nI_nlt (a := 24) (b := i) (by omega) (by decide))
    · refine tg_steps 2 rfl ?_
      refine tg_call1 rfl (m_has _ _) rfl rfl rfl  (fun v16 w16 q16 => ?_)
      obtain ⟨rfl, rfl⟩ := q16
      refine tg_ifbeq rfl rfl (fun h19 => ?_) (fun h19 => ?_)
      · refine tg_steps 2 rfl ?_
        refine tg_callV rfl (m_spreadFrom _) rfl rfl rfl rfl rfl (fun v27 w27 q27 => ?_)
        obtain ⟨rfl, rfl⟩ := q27
        refine tg_steps 3 rfl ?_
        refine tg_pkV [0, 1, 2, 3, 4] ?_
        refine tg_eqS (L2 := [(0, .ref 64), (1, .int a), (2, .int b), (3, .int (fsI h a (i + 1))), (4, .int (nI (i + 1)))]) (st2 := []) (w2 := (l, tm_cs h y)) (by first | (simp (decide := true) only [nI_succ, fsI_succ, decide_true, decide_false, cond_true, cond_false, Bool.false_eq_true, if_true, if_false, ite_true, ite_false, h19]; done) | (simp (decide := true) only [nI_succ, fsI_succ, decide_true, decide_false, cond_true, cond_false, Bool.false_eq_true, if_true, if_false, ite_true, ite_false, h19]; rfl) | rfl) rfl (by first | (simp (decide := true) only [nI_succ, fsI_succ, decide_true, decide_false, cond_true, cond_false, Bool.false_eq_true, if_true, if_false, ite_true, ite_false, h19]; done) | (simp (decide := true) only [nI_succ, fsI_succ, decide_true, decide_false, cond_true, cond_false, Bool.false_eq_true, if_true, if_false, ite_true, ite_false, h19]; rfl) | rfl) ?_
        exact ih7 (by simp only [frP, decide_true, decide_false, cond_true, cond_false, Bool.false_eq_true, if_true, if_false, ite_true, ite_false, h19] at hinv7; exact hinv7)
      · refine tg_steps 1 rfl ?_
        exact tg_iret (st := []) rfl rfl ⟨Nat.le_of_ble_eq_true rfl, Nat.le_of_ble_eq_true rfl⟩ ⟨by simp only [frP, decide_true, decide_false, cond_true, cond_false, Bool.false_eq_true, if_true, if_false, ite_true, ite_false, h19] at hinv7; unfold frM; rw [← hN, hinv7], rfl⟩
def ieP (h : tp_H) (k : Nat) : Bool := decide (oAt (pNs k h) (hS (pNs k h)) = 0)
def ieS (h : tp_H) : Nat → Bool
  | 0 => ieP h 0
  | k + 1 => bif ieS h k then ieP h (k + 1) else false
theorem ieS_succ (h : tp_H) (k : Nat) : ieS h (k + 1) = bif ieS h k then ieP h (k + 1) else false := rfl
theorem ieS_stop {h : tp_H} {i : Nat} (hf : ieS h i = false) : ∀ d, ieS h (i + d) = false := by
  intro d
  induction d with
  | zero => exact hf
  | succ d ih => rw [show i + (d + 1) = (i + d) + 1 by omega, ieS_succ, ih]; rfl
theorem wf_nbS {h : tp_H} (hw : wfH h) (c : Int32) : ∀ i, i ≤ hM h → wfH (nbS c h i) := by
  intro i
  induction i with
  | zero => intro _; exact hw
  | succ i ih =>
    intro hi
    rw [nbS_succ]
    cases bit c i
    · exact ih (by omega)
    · exact wf_senH (ih (by omega)) (by rw [nbS_M]; omega) 9
set_option maxRecDepth 100000 in
set_option maxHeartbeats 2000000 in
theorem m_isEmptyTo {G : tg_G} {l : List tg_Cl} {h : tp_H} {y : tp_Y} (hw : wfH h) (k : Nat) (hk : k < 2 ^ 31) : tg_C G 6 mX11_isEmptyTo 0 0 [.ref 64, .int (nI k)] (l, tm_cs h y) (fun v w => v = some (.int (tg_b (ieS h k))) ∧ ∃ y2, w = (l, tm_cs h y2) ∧ yk 78 y y2) := by
  have hm := hw.1
  refine tg_intro okX11_isEmptyTo (Nat.le_of_ble_eq_true rfl) ?_
  refine tg_steps 1 rfl ?_
  refine tg_callV rfl (m_thinks) rfl rfl rfl rfl rfl (fun v1 w1 q1 => ?_)
  obtain ⟨rfl, rfl⟩ := q1
  refine tg_steps 1 rfl ?_
  refine tg_callV rfl (m_aboardNow hm) rfl rfl rfl rfl rfl (fun v5 w5 q5 => ?_)
  obtain ⟨rfl, rfl⟩ := q5
  refine tg_ifne rfl rfl (fun h8 => ?_) (fun h8 => ?_)
  · refine tg_steps 4 rfl ?_
    refine tg_pkV [0, 1, 2, 3] ?_
    refine tg_eqS (L2 := [(0, .ref 64), (1, .int (nI k)), (2, .int (tg_b (ieS h (0)))), (3, .int (nI (0)))]) (st2 := []) (w2 := (l, tm_cs h (zMo (thY h y) (yMo (thY h y))))) (by first | (rw [show ieS h 0 = true from decide_eq_true h8]; rfl) | (rw [show ieS h 0 = false from decide_eq_false h8]; rfl)) rfl (by rw [w_Mo0]; rfl) ?_
    refine tg_down (φ := fun i : Nat => ∀ (mo : Int32), tg_V G 6 mX11_isEmptyTo 0 0 0 0 (fun v w => v = some (.int (tg_b (ieS h k))) ∧ ∃ y2, w = (l, tm_cs h y2) ∧ yk 78 y y2) 19 [(0, .ref 64), (1, .int (nI k)), (2, .int (tg_b (ieS h (i)))), (3, .int (nI (i)))] [] (l, tm_cs (pNs (i) h) (zMo (thY h y) mo))) (n := k) ?_ ?_ 0 (Nat.zero_le _) (yMo (thY h y)) 
    · intro mo
      refine tg_steps 2 rfl ?_
      refine tg_icge rfl rfl (fun h21 => ?_) (fun h21 => ?_)
      · refine tg_steps 1 rfl ?_
        refine tg_callV rfl (m_forgets (g := h) (hld_thm h y mo)) rfl rfl rfl rfl rfl (fun v52 w52 q52 => ?_)
        obtain ⟨rfl, rfl⟩ := q52
        refine tg_steps 1 rfl ?_
        exact tg_zret (st := []) rfl rfl ⟨Nat.le_of_ble_eq_true rfl, Nat.le_of_ble_eq_true rfl⟩ (by first | exact tg_b1 _ | exact Or.inl rfl | exact Or.inr rfl) ⟨rfl, _, rfl, t_fg h y mo⟩
      · exact absurd (nI_le (Nat.le_refl _) (by omega)) h21
    · intro i hi19 ih19 mo
      refine tg_steps 2 rfl ?_
      refine tg_icge rfl rfl (fun h21 => ?_) (fun h21 => ?_)
      · exact absurd h21 (nI_ge hi19 (by omega))
      · refine tg_steps 1 rfl ?_
        refine tg_ifbeq rfl rfl (fun h25 => ?_) (fun h25 => ?_)
        · have hend : ieS h k = ieS h i := by
            rw [h25]
            have := ieS_stop h25 (k - i)
            rw [show i + (k - i) = k by omega] at this
            exact this
          refine tg_steps 1 rfl ?_
          refine tg_callV rfl (m_forgets (g := h) (hld_thm h y mo)) rfl rfl rfl rfl rfl (fun v52 w52 q52 => ?_)
          obtain ⟨rfl, rfl⟩ := q52
          refine tg_steps 1 rfl ?_
          exact tg_zret (st := []) rfl rfl ⟨Nat.le_of_ble_eq_true rfl, Nat.le_of_ble_eq_true rfl⟩ (by first | exact tg_b1 _ | exact Or.inl rfl | exact Or.inr rfl) ⟨by rw [hend], _, rfl, t_fg h y mo⟩
        · have hs := h25
          refine tg_steps 1 rfl ?_
          refine tg_callV rfl (m_goesNight (y := zMo (thY h y) mo) (wf_pNs hw i)) rfl rfl rfl rfl rfl (fun v29 w29 q29 => ?_)
          obtain ⟨rfl, rfl⟩ := q29
          rw [w_MoMo, g_MoMo]
          refine tg_eqW (w2 := (l, tm_cs (pNs (i + 1) h) (zMo (thY h y) (mvN (pNs i h) mo)))) rfl ?_
          refine tg_steps 1 rfl ?_
          refine tg_callV rfl (m_aboardNow (pm7 hm (i + 1))) rfl rfl rfl rfl rfl (fun v33 w33 q33 => ?_)
          obtain ⟨rfl, rfl⟩ := q33
          refine tg_ifne rfl rfl (fun h36 => ?_) (fun h36 => ?_)
          · refine tg_steps 4 rfl ?_
            refine tg_pkV [0, 1, 2, 3] ?_
            refine tg_eqS (L2 := [(0, .ref 64), (1, .int (nI k)), (2, .int (tg_b (ieS h (i + 1)))), (3, .int (nI (i + 1)))]) (st2 := []) (w2 := _) (by rw [ieS_succ, hs]; first | (rw [show ieP h (i + 1) = true from decide_eq_true h36]; simp only [nI_succ]; rfl) | (rw [show ieP h (i + 1) = false from decide_eq_false h36]; simp only [nI_succ]; rfl)) rfl rfl ?_
            exact ih19 _
          · refine tg_steps 5 rfl ?_
            refine tg_pkV [0, 1, 2, 3] ?_
            refine tg_eqS (L2 := [(0, .ref 64), (1, .int (nI k)), (2, .int (tg_b (ieS h (i + 1)))), (3, .int (nI (i + 1)))]) (st2 := []) (w2 := _) (by rw [ieS_succ, hs]; first | (rw [show ieP h (i + 1) = true from decide_eq_true h36]; simp only [nI_succ]; rfl) | (rw [show ieP h (i + 1) = false from decide_eq_false h36]; simp only [nI_succ]; rfl)) rfl rfl ?_
            exact ih19 _
  · refine tg_steps 5 rfl ?_
    refine tg_pkV [0, 1, 2, 3] ?_
    refine tg_eqS (L2 := [(0, .ref 64), (1, .int (nI k)), (2, .int (tg_b (ieS h (0)))), (3, .int (nI (0)))]) (st2 := []) (w2 := (l, tm_cs h (zMo (thY h y) (yMo (thY h y))))) (by first | (rw [show ieS h 0 = true from decide_eq_true h8]; rfl) | (rw [show ieS h 0 = false from decide_eq_false h8]; rfl)) rfl (by rw [w_Mo0]; rfl) ?_
    refine tg_down (φ := fun i : Nat => ∀ (mo : Int32), tg_V G 6 mX11_isEmptyTo 0 0 0 0 (fun v w => v = some (.int (tg_b (ieS h k))) ∧ ∃ y2, w = (l, tm_cs h y2) ∧ yk 78 y y2) 19 [(0, .ref 64), (1, .int (nI k)), (2, .int (tg_b (ieS h (i)))), (3, .int (nI (i)))] [] (l, tm_cs (pNs (i) h) (zMo (thY h y) mo))) (n := k) ?_ ?_ 0 (Nat.zero_le _) (yMo (thY h y)) 
    · intro mo
      refine tg_steps 2 rfl ?_
      refine tg_icge rfl rfl (fun h21 => ?_) (fun h21 => ?_)
      · refine tg_steps 1 rfl ?_
        refine tg_callV rfl (m_forgets (g := h) (hld_thm h y mo)) rfl rfl rfl rfl rfl (fun v52 w52 q52 => ?_)
        obtain ⟨rfl, rfl⟩ := q52
        refine tg_steps 1 rfl ?_
        exact tg_zret (st := []) rfl rfl ⟨Nat.le_of_ble_eq_true rfl, Nat.le_of_ble_eq_true rfl⟩ (by first | exact tg_b1 _ | exact Or.inl rfl | exact Or.inr rfl) ⟨rfl, _, rfl, t_fg h y mo⟩
      · exact absurd (nI_le (Nat.le_refl _) (by omega)) h21
    · intro i hi19 ih19 mo
      refine tg_steps 2 rfl ?_
      refine tg_icge rfl rfl (fun h21 => ?_) (fun h21 => ?_)
      · exact absurd h21 (nI_ge hi19 (by omega))
      · refine tg_steps 1 rfl ?_
        refine tg_ifbeq rfl rfl (fun h25 => ?_) (fun h25 => ?_)
        · have hend : ieS h k = ieS h i := by
            rw [h25]
            have := ieS_stop h25 (k - i)
            rw [show i + (k - i) = k by omega] at this
            exact this
          refine tg_steps 1 rfl ?_
          refine tg_callV rfl (m_forgets (g := h) (hld_thm h y mo)) rfl rfl rfl rfl rfl (fun v52 w52 q52 => ?_)
          obtain ⟨rfl, rfl⟩ := q52
          refine tg_steps 1 rfl ?_
          exact tg_zret (st := []) rfl rfl ⟨Nat.le_of_ble_eq_true rfl, Nat.le_of_ble_eq_true rfl⟩ (by first | exact tg_b1 _ | exact Or.inl rfl | exact Or.inr rfl) ⟨by rw [hend], _, rfl, t_fg h y mo⟩
        · have hs := h25
          refine tg_steps 1 rfl ?_
          refine tg_callV rfl (m_goesNight (y := zMo (thY h y) mo) (wf_pNs hw i)) rfl rfl rfl rfl rfl (fun v29 w29 q29 => ?_)
          obtain ⟨rfl, rfl⟩ := q29
          rw [w_MoMo, g_MoMo]
          refine tg_eqW (w2 := (l, tm_cs (pNs (i + 1) h) (zMo (thY h y) (mvN (pNs i h) mo)))) rfl ?_
          refine tg_steps 1 rfl ?_
          refine tg_callV rfl (m_aboardNow (pm7 hm (i + 1))) rfl rfl rfl rfl rfl (fun v33 w33 q33 => ?_)
          obtain ⟨rfl, rfl⟩ := q33
          refine tg_ifne rfl rfl (fun h36 => ?_) (fun h36 => ?_)
          · refine tg_steps 4 rfl ?_
            refine tg_pkV [0, 1, 2, 3] ?_
            refine tg_eqS (L2 := [(0, .ref 64), (1, .int (nI k)), (2, .int (tg_b (ieS h (i + 1)))), (3, .int (nI (i + 1)))]) (st2 := []) (w2 := _) (by rw [ieS_succ, hs]; first | (rw [show ieP h (i + 1) = true from decide_eq_true h36]; simp only [nI_succ]; rfl) | (rw [show ieP h (i + 1) = false from decide_eq_false h36]; simp only [nI_succ]; rfl)) rfl rfl ?_
            exact ih19 _
          · refine tg_steps 5 rfl ?_
            refine tg_pkV [0, 1, 2, 3] ?_
            refine tg_eqS (L2 := [(0, .ref 64), (1, .int (nI k)), (2, .int (tg_b (ieS h (i + 1)))), (3, .int (nI (i + 1)))]) (st2 := []) (w2 := _) (by rw [ieS_succ, hs]; first | (rw [show ieP h (i + 1) = true from decide_eq_true h36]; simp only [nI_succ]; rfl) | (rw [show ieP h (i + 1) = false from decide_eq_false h36]; simp only [nI_succ]; rfl)) rfl rfl ?_
            exact ih19 _
set_option maxRecDepth 100000 in
set_option maxHeartbeats 2000000 in
theorem m_isEmptyBy {G : tg_G} {l : List tg_Cl} {h : tp_H} {y : tp_Y} (hw : wfH h) (c : Int32) (k : Nat) (hk : k < 2 ^ 31) : tg_C G 7 mX11_isEmptyBy 0 0 [.ref 64, .int c, .int (nI k)] (l, tm_cs h y) (fun v w => v = some (.int (tg_b (ieS (nbS c h (hM h)) k))) ∧ ∃ y2, w = (l, tm_cs h y2) ∧ yk 39 y y2) := by
  have hm := hw.1
  refine tg_intro okX11_isEmptyBy (Nat.le_of_ble_eq_true rfl) ?_
  refine tg_steps 1 rfl ?_
  refine tg_callV rfl (m_changes) rfl rfl rfl rfl rfl (fun v1 w1 q1 => ?_)
  obtain ⟨rfl, rfl⟩ := q1
  refine tg_steps 2 rfl ?_
  refine tg_pkV [0, 1, 2, 3] ?_
  refine tg_eqS (L2 := [(0, .ref 64), (1, .int c), (2, .int (nI k)), (3, .int (nI (0)))]) (st2 := []) (w2 := (l, tm_cs (nbS c h (0)) (chY h y))) rfl rfl rfl ?_
  refine tg_down (φ := fun i : Nat => tg_V G 7 mX11_isEmptyBy 0 0 0 0 (fun v w => v = some (.int (tg_b (ieS (nbS c h (hM h)) k))) ∧ ∃ y2, w = (l, tm_cs h y2) ∧ yk 39 y y2) 6 [(0, .ref 64), (1, .int c), (2, .int (nI k)), (3, .int (nI (i)))] [] (l, tm_cs (nbS c h (i)) (chY h y))) (n := hM h) ?_ ?_ 0 (Nat.zero_le _) 
  · refine tg_steps 3 rfl ?_
    refine tg_icge rfl rfl (fun h11 => ?_) (fun h11 => ?_)
    · refine tg_steps 2 rfl ?_
      refine tg_callV rfl (m_isEmptyTo (y := chY h y) (wf_nbS hw c _ (Nat.le_refl _)) k hk) rfl rfl rfl rfl rfl (fun v37 w37 q37 => ?_)
      obtain ⟨rfl, y2, rfl, e2⟩ := q37
      refine tg_steps 2 rfl ?_
      refine tg_callV rfl (m_changesBack (g := h) (hld_yk (hld_ch h y) e2)) rfl rfl rfl rfl rfl (fun v42 w42 q42 => ?_)
      obtain ⟨rfl, rfl⟩ := q42
      refine tg_steps 1 rfl ?_
      exact tg_zret (st := []) rfl rfl ⟨Nat.le_of_ble_eq_true rfl, Nat.le_of_ble_eq_true rfl⟩ (by first | exact tg_b1 _ | exact Or.inl rfl | exact Or.inr rfl) ⟨rfl, _, rfl, yk_tr (yk_ch h y) (yk_tr (yk_le (by decide) e2) (yk_cb 39 y2))⟩
    · exact absurd (by rw [nbS_M]; exact nI_le (Nat.le_refl _) (by show hM h < _; omega)) h11
  · intro i hi6 ih6
    refine tg_steps 3 rfl ?_
    refine tg_icge rfl rfl (fun h11 => ?_) (fun h11 => ?_)
    · exact absurd h11 (by rw [nbS_M]; exact nI_ge hi6 (by show hM h < _; omega))
    · refine tg_steps 2 rfl ?_
      refine tg_call1 rfl (m_has _ _) rfl rfl rfl  (fun v16 w16 q16 => ?_)
      obtain ⟨rfl, rfl⟩ := q16
      refine tg_ifbeq rfl rfl (fun h19 => ?_) (fun h19 => ?_)
      · refine tg_steps 2 rfl ?_
        refine tg_pkV [0, 1, 2, 3] ?_
        refine tg_eqS (L2 := [(0, .ref 64), (1, .int c), (2, .int (nI k)), (3, .int (nI (i + 1)))]) (st2 := []) (w2 := (l, tm_cs (nbS c h (i + 1)) (chY h y))) (by first | (simp (decide := true) only [nI_succ, nbS_succ, bit, hsB, decide_true, decide_false, cond_true, cond_false, Bool.false_eq_true, if_true, if_false, ite_true, ite_false, h19]; done) | (simp (decide := true) only [nI_succ, nbS_succ, bit, hsB, decide_true, decide_false, cond_true, cond_false, Bool.false_eq_true, if_true, if_false, ite_true, ite_false, h19]; rfl) | rfl) rfl (by first | (rw [nbS_succ, show bit c i = true from h19]; rfl) | (rw [nbS_succ, show bit c i = false from h19]; rfl)) ?_
        exact ih6
      · refine tg_steps 3 rfl ?_
        refine tg_callV rfl (m_pinsOne (by rw [nbS_M]; exact hm) i (by rw [nbS_M]; exact hi6) 9) rfl rfl rfl rfl rfl (fun v26 w26 q26 => ?_)
        obtain ⟨rfl, rfl⟩ := q26
        refine tg_steps 2 rfl ?_
        refine tg_pkV [0, 1, 2, 3] ?_
        refine tg_eqS (L2 := [(0, .ref 64), (1, .int c), (2, .int (nI k)), (3, .int (nI (i + 1)))]) (st2 := []) (w2 := (l, tm_cs (nbS c h (i + 1)) (chY h y))) (by first | (simp (decide := true) only [nI_succ, nbS_succ, bit, hsB, decide_true, decide_false, cond_true, cond_false, Bool.false_eq_true, if_true, if_false, ite_true, ite_false, h19]; done) | (simp (decide := true) only [nI_succ, nbS_succ, bit, hsB, decide_true, decide_false, cond_true, cond_false, Bool.false_eq_true, if_true, if_false, ite_true, ite_false, h19]; rfl) | rfl) rfl (by first | (rw [nbS_succ, show bit c i = true from h19]; rfl) | (rw [nbS_succ, show bit c i = false from h19]; rfl)) ?_
        exact ih6
def cbC (h : tp_H) (b : Bool) : Int32 := bif b then hC h ||| (1 <<< (hS h &&& 31)) else hC h
def cbS (h : tp_H) (b : Bool) : tp_H := sC (pNt (sC h (cbC h b))) (hC h)
theorem wf_cbS {h : tp_H} (hw : wfH h) (b : Bool) : wfH (cbS h b) := wf_sC (wf_pNt (wf_sC hw _)) _
set_option maxRecDepth 100000 in
set_option maxHeartbeats 2000000 in
theorem m_goesByCoals {G : tg_G} {l : List tg_Cl} {h : tp_H} {y : tp_Y} (hw : wfH h) (b : Bool) : tg_C G 6 mX11_goesByCoals 0 0 [.ref 64, .int (tg_b b)] (l, tm_cs h y) (fun v w => v = none ∧ ∃ mo, w = (l, tm_cs (cbS h b) (zMo y mo))) := by
  refine tg_intro okX11_goesByCoals (Nat.le_of_ble_eq_true rfl) ?_
  refine tg_steps 4 rfl ?_
  refine tg_ifbeq rfl rfl (fun h6 => ?_) (fun h6 => ?_)
  · refine tg_eqW (w2 := (l, tm_cs (sC h (cbC h b)) y)) (by rw [h6]; rfl) ?_
    refine tg_steps 1 rfl ?_
    refine tg_callV rfl (m_goesNight (h := sC h (cbC h b)) (wf_sC hw _)) rfl rfl rfl rfl rfl (fun v25 w25 q25 => ?_)
    obtain ⟨rfl, rfl⟩ := q25
    refine tg_steps 3 rfl ?_
    refine tg_eqW (w2 := (l, tm_cs (cbS h b) (zMo y (mvN (sC h (cbC h b)) (yMo y))))) rfl ?_
    exact tg_vret (st := []) rfl rfl ⟨Nat.le_of_ble_eq_true rfl, Nat.le_of_ble_eq_true rfl⟩ ⟨rfl, _, rfl⟩
  · refine tg_steps 9 rfl ?_
    refine tg_eqW (w2 := (l, tm_cs (sC h (cbC h b)) y)) (by rw [h6]; rfl) ?_
    refine tg_steps 1 rfl ?_
    refine tg_callV rfl (m_goesNight (h := sC h (cbC h b)) (wf_sC hw _)) rfl rfl rfl rfl rfl (fun v25 w25 q25 => ?_)
    obtain ⟨rfl, rfl⟩ := q25
    refine tg_steps 3 rfl ?_
    refine tg_eqW (w2 := (l, tm_cs (cbS h b) (zMo y (mvN (sC h (cbC h b)) (yMo y))))) rfl ?_
    exact tg_vret (st := []) rfl rfl ⟨Nat.le_of_ble_eq_true rfl, Nat.le_of_ble_eq_true rfl⟩ ⟨rfl, _, rfl⟩
