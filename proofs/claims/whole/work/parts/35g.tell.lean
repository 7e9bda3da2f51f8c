/-! contracts of the reference: telling -/
theorem n3p {j : Nat} (hj : j < 48) : 3 * nI j = nI (3 * j) := n3 hj

theorem sn_eq (h : tp_H) (k : Int32) : snB h k = bif inB k 1 60 then decide (hN h + k ≤ 999) else false := by
  unfold snB inB
  by_cases h1 : k < 1
  · rw [if_pos h1, decide_eq_true h1]; rfl
  · rw [if_neg h1, decide_eq_false h1]
    by_cases h2 : 60 < k
    · rw [if_pos h2, decide_eq_true h2]; rfl
    · rw [if_neg h2, decide_eq_false h2]
      show _ = decide (hN h + k ≤ 999)
      split
      · exact (decide_eq_true (by assumption)).symm
      · exact (decide_eq_false (by assumption)).symm
theorem inB_0 {k : Int32} (h : inB k 1 60 = true) : ¬ k < 0 := by
  intro q
  unfold inB at h
  rw [decide_eq_true (Int32.lt_trans q (by decide))] at h
  cases h
/-- what one statement has told -/
def tld (x : tp_X) (la lt tl : tp_A) (j s : Nat) : Prop := la j = atL x (nI s) ∧ lt j = nI s ∧ isF (atL x (nI s)) = true ∧ (atL x (nI s) = 108 → tl (3 * j) = koL (atL x (nI s + 1)) ∧ tl (3 * j + 1) = dgL x (nI s + 2) ∧ tl (3 * j + 2) = nuL x (nI s + 3)) ∧ (atL x (nI s) = 97 → tl (3 * j) = dgL x (nI s + 1) ∧ tl (3 * j + 1) = nuL x (nI s + 2)) ∧ (atL x (nI s) = 112 → tl (3 * j) = dgL x (nI s + 1) ∧ tl (3 * j + 1) = dgL x (nI s + 2)) ∧ (¬ atL x (nI s) = 108 → ¬ atL x (nI s) = 97 → ¬ atL x (nI s) = 112 → tl (3 * j) = nuL x (nI s + 1))
theorem ts_97 {x : tp_X} {t : tp_H} {s : Int32} (e : atL x s = 97) : tsB x t s = saB t (dgL x (s + 1)) (nuL x (s + 2)) ∧ tsH x t s = saH t (dgL x (s + 1)) (nuL x (s + 2)) := by
  unfold tsB tsH; rw [if_pos e, if_pos e]; exact ⟨rfl, rfl⟩
theorem ts_99 {x : tp_X} {t : tp_H} {s : Int32} (e : atL x s = 99) : tsB x t s = isT (nuL x (s + 1)) ∧ tsH x t s = scH t (nuL x (s + 1)) := by
  have n1 : ¬ atL x s = 97 := by rw [e]; decide
  unfold tsB tsH; rw [if_neg n1, if_neg n1, if_pos e, if_pos e]; exact ⟨rfl, rfl⟩
theorem ts_108 {x : tp_X} {t : tp_H} {s : Int32} (e : atL x s = 108) : tsB x t s = tlB t (nuL x (s + 3)) ∧ tsH x t s = tlH t (koL (atL x (s + 1))) (dgL x (s + 2)) (nuL x (s + 3)) := by
  have n1 : ¬ atL x s = 97 := by rw [e]; decide
  have n2 : ¬ atL x s = 99 := by rw [e]; decide
  unfold tsB tsH; rw [if_neg n1, if_neg n1, if_neg n2, if_neg n2, if_pos e, if_pos e]; exact ⟨rfl, rfl⟩
theorem ts_110 {x : tp_X} {t : tp_H} {s : Int32} (e : atL x s = 110) : tsB x t s = snB t (nuL x (s + 1)) ∧ tsH x t s = snH t (nuL x (s + 1)) := by
  have n1 : ¬ atL x s = 97 := by rw [e]; decide
  have n2 : ¬ atL x s = 99 := by rw [e]; decide
  have n3 : ¬ atL x s = 108 := by rw [e]; decide
  unfold tsB tsH; rw [if_neg n1, if_neg n1, if_neg n2, if_neg n2, if_neg n3, if_neg n3, if_pos e, if_pos e]; exact ⟨rfl, rfl⟩
theorem ts_112 {x : tp_X} {t : tp_H} {s : Int32} (e : atL x s = 112) : tsB x t s = hasB t (dgL x (s + 1)) ∧ tsH x t s = spH t (dgL x (s + 1)) (dgL x (s + 2)) := by
  have n1 : ¬ atL x s = 97 := by rw [e]; decide
  have n2 : ¬ atL x s = 99 := by rw [e]; decide
  have n3 : ¬ atL x s = 108 := by rw [e]; decide
  have n4 : ¬ atL x s = 110 := by rw [e]; decide
  unfold tsB tsH; rw [if_neg n1, if_neg n1, if_neg n2, if_neg n2, if_neg n3, if_neg n3, if_neg n4, if_neg n4, if_pos e, if_pos e]; exact ⟨rfl, rfl⟩
theorem ts_115 {x : tp_X} {t : tp_H} {s : Int32} (e : atL x s = 115) : tsB x t s = isT (nuL x (s + 1)) ∧ tsH x t s = ssH t (nuL x (s + 1)) := by
  have n1 : ¬ atL x s = 97 := by rw [e]; decide
  have n2 : ¬ atL x s = 99 := by rw [e]; decide
  have n3 : ¬ atL x s = 108 := by rw [e]; decide
  have n4 : ¬ atL x s = 110 := by rw [e]; decide
  have n5 : ¬ atL x s = 112 := by rw [e]; decide
  unfold tsB tsH; rw [if_neg n1, if_neg n1, if_neg n2, if_neg n2, if_neg n3, if_neg n3, if_neg n4, if_neg n4, if_neg n5, if_neg n5, if_pos e, if_pos e]; exact ⟨rfl, rfl⟩
theorem isF_6 {f : Int32} (h : isF f = true) (a : ¬ f = 97) (b : ¬ f = 108) (c : ¬ f = 110) (d : ¬ f = 112) : f = 99 ∨ f = 115 := by
  unfold isF at h
  rw [if_neg b, if_neg a] at h
  by_cases e : f = 99
  · exact Or.inl e
  · rw [if_neg e] at h
    by_cases e2 : f = 115
    · exact Or.inr e2
    · rw [if_neg e2, if_neg d, if_neg c] at h; cases h

set_option maxRecDepth 100000 in
set_option maxHeartbeats 2000000 in
theorem m_comesLittle {G : tg_G} {l : List tg_Cl} {h : tp_H} {y : tp_Y} (hm : hM h ≤ 7) {kI : Int32} {k : Nat} (ek : kI = nI k) (hk : k + 2 < 144) : tg_C G 2 mX11_comesLittle 0 0 [.ref 64, .int kI] (l, tm_cs h y) (fun v w => v = some (.int (tg_b (tlB h (yTl y (k + 2))))) ∧ w = (l, tm_cs (tlH h (yTl y k) (yTl y (k + 1)) (yTl y (k + 2))) y)) := by
  subst ek
  refine tg_intro okX11_comesLittle (Nat.le_of_ble_eq_true rfl) ?_
  refine tg_steps 5 rfl ?_
  refine tg_ialdN rfl rfl (k + 2) (nI_p2 k) (by omega) (by decide) ?_
  refine tg_call1 rfl (m_isTile _) rfl rfl rfl  (fun v8 w8 q8 => ?_)
  obtain ⟨rfl, rfl⟩ := q8
  refine tg_ifbeq rfl rfl (fun h11 => ?_) (fun h11 => ?_)
  · have eB : tlB h (yTl y (k + 2)) = false := by unfold tlB; rw [h11]; rfl
    refine tg_steps 1 rfl ?_
    exact tg_zret (st := []) rfl rfl ⟨Nat.le_of_ble_eq_true rfl, Nat.le_of_ble_eq_true rfl⟩ (by first | exact tg_b1 _ | exact Or.inl rfl | exact Or.inr rfl) ⟨by rw [eB]; rfl, by unfold tlH; rw [eB]; rfl⟩
  · refine tg_steps 3 rfl ?_
    refine tg_icne rfl rfl (fun h20 => ?_) (fun h20 => ?_)
    · have hm7 : hM h < 7 := by
        rcases Nat.lt_or_ge (hM h) 7 with q | q
        · exact q
        · exact absurd (show nI (hM h) = 7 by rw [show hM h = 7 by omega]; rfl) h20
      have eB : tlB h (yTl y (k + 2)) = true := by unfold tlB; rw [h11, cond_true]; exact decide_eq_true hm7
      refine tg_steps 4 rfl ?_
      refine tg_ialdN rfl rfl (k) rfl (by omega) (by decide) ?_
      refine tg_steps 5 rfl ?_
      refine tg_ialdN rfl rfl (k + 1) (nI_p1 k) (by omega) (by decide) ?_
      refine tg_steps 5 rfl ?_
      refine tg_ialdN rfl rfl (k + 2) (nI_p2 k) (by omega) (by decide) ?_
      refine tg_callV rfl (m_addsOne (l := l) (h := h) (y := y) hm7 (yTl y k) (yTl y (k + 1)) (yTl y (k + 2))) rfl rfl rfl rfl rfl (fun v48 w48 q48 => ?_)
      obtain ⟨rfl, rfl⟩ := q48
      refine tg_steps 1 rfl ?_
      exact tg_zret (st := []) rfl rfl ⟨Nat.le_of_ble_eq_true rfl, Nat.le_of_ble_eq_true rfl⟩ (by first | exact tg_b1 _ | exact Or.inl rfl | exact Or.inr rfl) ⟨by rw [eB]; rfl, by unfold tlH; rw [eB]; rfl⟩
    · have eB : tlB h (yTl y (k + 2)) = false := by
        unfold tlB
        rw [h11, cond_true]
        refine decide_eq_false (fun q => ?_)
        have h20b : nI (hM h) = 7 := h20
        have q2 : ∀ i : Fin 7, ¬ nI i.1 = 7 := by decide +kernel
        exact q2 ⟨hM h, q⟩ h20b
      refine tg_steps 1 rfl ?_
      exact tg_zret (st := []) rfl rfl ⟨Nat.le_of_ble_eq_true rfl, Nat.le_of_ble_eq_true rfl⟩ (by first | exact tg_b1 _ | exact Or.inl rfl | exact Or.inr rfl) ⟨by rw [eB]; rfl, by unfold tlH; rw [eB]; rfl⟩
set_option maxRecDepth 100000 in
set_option maxHeartbeats 2000000 in
theorem m_comesOfA {G : tg_G} {l : List tg_Cl} {h : tp_H} {y : tp_Y} (hm : hM h ≤ 7) {f : Int32} (ef : f = 97) (one ti : Int32) : tg_C G 2 mX11_comesOf 0 0 [.ref 64, .int f, .int one, .int ti] (l, tm_cs h y) (fun v w => v = some (.int (tg_b (saB h one ti))) ∧ w = (l, tm_cs (saH h one ti) y)) := by
  subst ef
  refine tg_intro okX11_comesOf (Nat.le_of_ble_eq_true rfl) ?_
  refine tg_steps 2 rfl ?_
  refine tg_callV rfl (m_isOne _) rfl rfl rfl rfl rfl (fun v2 w2 q2 => ?_)
  obtain ⟨rfl, rfl⟩ := q2
  refine tg_ifbeq rfl rfl (fun h5 => ?_) (fun h5 => ?_)
  · have eB : saB h one ti = false := by unfold saB; rw [h5]; rfl
    refine tg_steps 1 rfl ?_
    exact tg_zret (st := []) rfl rfl ⟨Nat.le_of_ble_eq_true rfl, Nat.le_of_ble_eq_true rfl⟩ (by first | exact tg_b1 _ | exact Or.inl rfl | exact Or.inr rfl) ⟨by rw [eB]; rfl, by unfold saH; rw [eB]; rfl⟩
  · refine tg_steps 2 rfl ?_
    refine tg_icne rfl rfl (fun h11 => ?_) (fun h11 => ?_)
    · exact absurd rfl h11
    · refine tg_steps 1 rfl ?_
      refine tg_call1 rfl (m_isTile _) rfl rfl rfl  (fun v15 w15 q15 => ?_)
      obtain ⟨rfl, rfl⟩ := q15
      refine tg_ifbne rfl rfl (fun h18 => ?_) (fun h18 => ?_)
      · have eB : saB h one ti = true := by unfold saB; rw [h5, h18]; rfl
        obtain ⟨j, hj, rfl, cj⟩ := has_j hm h5
        refine tg_steps 2 rfl ?_
        refine tg_icne rfl rfl (fun h26 => ?_) (fun h26 => ?_)
        · exact absurd rfl h26
        · refine tg_steps 4 rfl ?_
          refine tg_iastN rfl rfl (j) rfl (by omega) (by decide) ?_
          refine tg_eqW (w2 := (l, tm_cs (sT h (tg_u (hT h) j ti)) y)) rfl ?_
          refine tg_steps 2 rfl ?_
          exact tg_zret (st := []) rfl rfl ⟨Nat.le_of_ble_eq_true rfl, Nat.le_of_ble_eq_true rfl⟩ (by first | exact tg_b1 _ | exact Or.inl rfl | exact Or.inr rfl) ⟨by rw [eB]; rfl, by unfold saH; rw [eB, cond_true, putH_j hm hj]⟩
      · have eB : saB h one ti = false := by unfold saB; rw [h5, h18]; rfl
        refine tg_steps 1 rfl ?_
        exact tg_zret (st := []) rfl rfl ⟨Nat.le_of_ble_eq_true rfl, Nat.le_of_ble_eq_true rfl⟩ (by first | exact tg_b1 _ | exact Or.inl rfl | exact Or.inr rfl) ⟨by rw [eB]; rfl, by unfold saH; rw [eB]; rfl⟩
set_option maxRecDepth 100000 in
set_option maxHeartbeats 2000000 in
theorem m_comesOfP {G : tg_G} {l : List tg_Cl} {h : tp_H} {y : tp_Y} (hm : hM h ≤ 7) {f : Int32} (ef : f = 112) (one k : Int32) : tg_C G 2 mX11_comesOf 0 0 [.ref 64, .int f, .int one, .int k] (l, tm_cs h y) (fun v w => v = some (.int (tg_b (hasB h one))) ∧ w = (l, tm_cs (spH h one k) y)) := by
  subst ef
  refine tg_intro okX11_comesOf (Nat.le_of_ble_eq_true rfl) ?_
  refine tg_steps 2 rfl ?_
  refine tg_callV rfl (m_isOne _) rfl rfl rfl rfl rfl (fun v2 w2 q2 => ?_)
  obtain ⟨rfl, rfl⟩ := q2
  refine tg_ifbeq rfl rfl (fun h5 => ?_) (fun h5 => ?_)
  · refine tg_steps 1 rfl ?_
    exact tg_zret (st := []) rfl rfl ⟨Nat.le_of_ble_eq_true rfl, Nat.le_of_ble_eq_true rfl⟩ (by first | exact tg_b1 _ | exact Or.inl rfl | exact Or.inr rfl) ⟨by rw [h5]; rfl, by unfold spH; rw [h5]; rfl⟩
  · have eB := h5
    obtain ⟨j, hj, rfl, cj⟩ := has_j hm h5
    refine tg_steps 2 rfl ?_
    refine tg_icne rfl rfl (fun h11 => ?_) (fun h11 => ?_)
    · refine tg_steps 2 rfl ?_
      refine tg_icne rfl rfl (fun h26 => ?_) (fun h26 => ?_)
      · refine tg_steps 3 rfl ?_
        refine tg_callV rfl (m_pinsOne hm j hj k) rfl rfl rfl rfl rfl (fun v42 w42 q42 => ?_)
        obtain ⟨rfl, rfl⟩ := q42
        refine tg_steps 1 rfl ?_
        exact tg_zret (st := []) rfl rfl ⟨Nat.le_of_ble_eq_true rfl, Nat.le_of_ble_eq_true rfl⟩ (by first | exact tg_b1 _ | exact Or.inl rfl | exact Or.inr rfl) ⟨by rw [eB]; rfl, by unfold spH; rw [eB]; rfl⟩
      · exact absurd h26 (by decide)
    · exact absurd h11 (by decide)
set_option maxRecDepth 100000 in
set_option maxHeartbeats 2000000 in
theorem m_comesTileC {G : tg_G} {l : List tg_Cl} {h : tp_H} {y : tp_Y} {f : Int32} (ef : f = 99) (ti : Int32) : tg_C G 2 mX11_comesTile 0 0 [.ref 64, .int f, .int ti] (l, tm_cs h y) (fun v w => v = some (.int (tg_b (isT ti))) ∧ w = (l, tm_cs (scH h ti) y)) := by
  subst ef
  refine tg_intro okX11_comesTile (Nat.le_of_ble_eq_true rfl) ?_
  refine tg_steps 1 rfl ?_
  refine tg_call1 rfl (m_isTile _) rfl rfl rfl  (fun v1 w1 q1 => ?_)
  obtain ⟨rfl, rfl⟩ := q1
  refine tg_ifbne rfl rfl (fun h4 => ?_) (fun h4 => ?_)
  · refine tg_steps 2 rfl ?_
    refine tg_icne rfl rfl (fun h12 => ?_) (fun h12 => ?_)
    · exact absurd rfl h12
    · refine tg_steps 8 rfl ?_
      refine tg_eqW (w2 := (l, tm_cs (crkH h ti) y)) rfl ?_
      refine tg_steps 2 rfl ?_
      exact tg_zret (st := []) rfl rfl ⟨Nat.le_of_ble_eq_true rfl, Nat.le_of_ble_eq_true rfl⟩ (by first | exact tg_b1 _ | exact Or.inl rfl | exact Or.inr rfl) ⟨by rw [h4]; rfl, by unfold scH; rw [h4]; rfl⟩
  · refine tg_steps 1 rfl ?_
    exact tg_zret (st := []) rfl rfl ⟨Nat.le_of_ble_eq_true rfl, Nat.le_of_ble_eq_true rfl⟩ (by first | exact tg_b1 _ | exact Or.inl rfl | exact Or.inr rfl) ⟨by rw [h4]; rfl, by unfold scH; rw [h4]; rfl⟩
set_option maxRecDepth 100000 in
set_option maxHeartbeats 2000000 in
theorem m_comesTileS {G : tg_G} {l : List tg_Cl} {h : tp_H} {y : tp_Y} {f : Int32} (ef : f = 115) (ti : Int32) : tg_C G 2 mX11_comesTile 0 0 [.ref 64, .int f, .int ti] (l, tm_cs h y) (fun v w => v = some (.int (tg_b (isT ti))) ∧ w = (l, tm_cs (ssH h ti) y)) := by
  subst ef
  refine tg_intro okX11_comesTile (Nat.le_of_ble_eq_true rfl) ?_
  refine tg_steps 1 rfl ?_
  refine tg_call1 rfl (m_isTile _) rfl rfl rfl  (fun v1 w1 q1 => ?_)
  obtain ⟨rfl, rfl⟩ := q1
  refine tg_ifbne rfl rfl (fun h4 => ?_) (fun h4 => ?_)
  · refine tg_steps 2 rfl ?_
    refine tg_icne rfl rfl (fun h12 => ?_) (fun h12 => ?_)
    · refine tg_steps 3 rfl ?_
      refine tg_eqW (w2 := (l, tm_cs (sS h ti) y)) rfl ?_
      refine tg_steps 1 rfl ?_
      exact tg_zret (st := []) rfl rfl ⟨Nat.le_of_ble_eq_true rfl, Nat.le_of_ble_eq_true rfl⟩ (by first | exact tg_b1 _ | exact Or.inl rfl | exact Or.inr rfl) ⟨by rw [h4]; rfl, by unfold ssH; rw [h4]; rfl⟩
    · exact absurd h12 (by decide)
  · refine tg_steps 1 rfl ?_
    exact tg_zret (st := []) rfl rfl ⟨Nat.le_of_ble_eq_true rfl, Nat.le_of_ble_eq_true rfl⟩ (by first | exact tg_b1 _ | exact Or.inl rfl | exact Or.inr rfl) ⟨by rw [h4]; rfl, by unfold ssH; rw [h4]; rfl⟩
set_option maxRecDepth 100000 in
set_option maxHeartbeats 2000000 in
theorem m_comesNights {G : tg_G} {l : List tg_Cl} {h : tp_H} {y : tp_Y} (hw : wfH h) (k : Int32) : tg_C G 7 mX11_comesNights 0 0 [.ref 64, .int k] (l, tm_cs h y) (fun v w => v = some (.int (tg_b (snB h k))) ∧ ∃ mo, w = (l, tm_cs (snH h k) (zMo y mo))) := by
  refine tg_intro okX11_comesNights (Nat.le_of_ble_eq_true rfl) ?_
  refine tg_steps 3 rfl ?_
  refine tg_call1 rfl (m_isIn _ _ _) rfl rfl rfl  (fun v4 w4 q4 => ?_)
  obtain ⟨rfl, rfl⟩ := q4
  refine tg_ifbeq rfl rfl (fun h7 => ?_) (fun h7 => ?_)
  · have eB : snB h k = false := by rw [sn_eq, h7]; rfl
    refine tg_steps 1 rfl ?_
    exact tg_zret (st := []) rfl rfl ⟨Nat.le_of_ble_eq_true rfl, Nat.le_of_ble_eq_true rfl⟩ (by first | exact tg_b1 _ | exact Or.inl rfl | exact Or.inr rfl) ⟨by rw [eB]; rfl, _, by unfold snH; rw [eB, cond_false, w_Mo0]⟩
  · refine tg_steps 5 rfl ?_
    refine tg_icle rfl rfl (fun h19 => ?_) (fun h19 => ?_)
    · have eB : snB h k = true := by rw [sn_eq, h7, cond_true]; exact decide_eq_true h19
      obtain ⟨kk, hkk, rfl⟩ := nI_of (inB_0 h7)
      refine tg_steps 2 rfl ?_
      refine tg_callV rfl (m_goes hw kk hkk) rfl rfl rfl rfl rfl (fun v26 w26 q26 => ?_)
      obtain ⟨rfl, mo, rfl⟩ := q26
      refine tg_steps 1 rfl ?_
      exact tg_zret (st := []) rfl rfl ⟨Nat.le_of_ble_eq_true rfl, Nat.le_of_ble_eq_true rfl⟩ (by first | exact tg_b1 _ | exact Or.inl rfl | exact Or.inr rfl) ⟨by rw [eB]; rfl, mo, by unfold snH; rw [eB, cond_true, nI_clamp hkk]⟩
    · have eB : snB h k = false := by rw [sn_eq, h7, cond_true]; exact decide_eq_false h19
      refine tg_steps 1 rfl ?_
      exact tg_zret (st := []) rfl rfl ⟨Nat.le_of_ble_eq_true rfl, Nat.le_of_ble_eq_true rfl⟩ (by first | exact tg_b1 _ | exact Or.inl rfl | exact Or.inr rfl) ⟨by rw [eB]; rfl, _, by unfold snH; rw [eB, cond_false, w_Mo0]⟩
set_option maxRecDepth 100000 in
set_option maxHeartbeats 2000000 in
theorem m_comesTold {G : tg_G} {l : List tg_Cl} {h : tp_H} {y : tp_Y} {x : tp_X} {j s : Nat} (hw : wfH h) (hj : j < 48) (ht : tld x (yLa y) (yLt y) (yTl y) j s) : tg_C G 8 mX11_comesTold 0 0 [.ref 64, .int (nI j)] (l, tm_cs h y) (fun v w => v = some (.int (tg_b (tsB x h (nI s)))) ∧ ∃ mo, w = (l, tm_cs (tsH x h (nI s)) (zMo y mo))) := by
  obtain ⟨t1, t2, t3, t4, t5, t6, t7⟩ := ht
  refine tg_intro okX11_comesTold (Nat.le_of_ble_eq_true rfl) ?_
  refine tg_steps 7 rfl ?_
  refine tg_ialdN rfl rfl (j) rfl hj (by decide) ?_
  refine tg_lsw rfl ?_
  refine And.intro (fun h10_0 => ?_) (fun h10_0 => ?_)
  · have eF : atL x (nI s) = 97 := t1.symm.trans h10_0
    refine tg_steps 4 rfl ?_
    refine tg_ialdN rfl rfl (j) rfl hj (by decide) ?_
    refine tg_steps 3 rfl ?_
    refine tg_ialdN rfl rfl (3 * j) (n3 hj) (by omega) (by decide) ?_
    refine tg_steps 5 rfl ?_
    refine tg_ialdN rfl rfl (3 * j + 1) (by rw [n3 hj, nI_p1]) (by omega) (by decide) ?_
    refine tg_callV rfl (m_comesOfA hw.1 (t1.trans eF) _ _) rfl rfl rfl rfl rfl (fun v79 w79 q79 => ?_)
    obtain ⟨rfl, rfl⟩ := q79
    exact tg_zret (st := []) rfl rfl ⟨Nat.le_of_ble_eq_true rfl, Nat.le_of_ble_eq_true rfl⟩ (by first | exact tg_b1 _ | exact Or.inl rfl | exact Or.inr rfl) ⟨by rw [(ts_97 eF).1, ← (t5 eF).1, ← (t5 eF).2], yMo y, by rw [(ts_97 eF).2, ← (t5 eF).1, ← (t5 eF).2, w_Mo0]⟩
  refine And.intro (fun h10_1 => ?_) (fun h10_1 => ?_)
  · have eF : atL x (nI s) = 108 := t1.symm.trans h10_1
    refine tg_steps 2 rfl ?_
    refine tg_callV rfl (m_comesLittle hw.1 (n3 hj) (by omega)) rfl rfl rfl rfl rfl (fun v54 w54 q54 => ?_)
    obtain ⟨rfl, rfl⟩ := q54
    exact tg_zret (st := []) rfl rfl ⟨Nat.le_of_ble_eq_true rfl, Nat.le_of_ble_eq_true rfl⟩ (by first | exact tg_b1 _ | exact Or.inl rfl | exact Or.inr rfl) ⟨by rw [(ts_108 eF).1, (t4 eF).2.2], yMo y, by rw [(ts_108 eF).2, (t4 eF).1, (t4 eF).2.1, (t4 eF).2.2, w_Mo0]⟩
  refine And.intro (fun h10_2 => ?_) (fun h10_2 => ?_)
  · have eF : atL x (nI s) = 110 := t1.symm.trans h10_2
    refine tg_steps 4 rfl ?_
    refine tg_ialdN rfl rfl (3 * j) (n3 hj) (by omega) (by decide) ?_
    refine tg_callV rfl (m_comesNights hw _) rfl rfl rfl rfl rfl (fun v90 w90 q90 => ?_)
    obtain ⟨rfl, mo, rfl⟩ := q90
    exact tg_zret (st := []) rfl rfl ⟨Nat.le_of_ble_eq_true rfl, Nat.le_of_ble_eq_true rfl⟩ (by first | exact tg_b1 _ | exact Or.inl rfl | exact Or.inr rfl) ⟨by rw [(ts_110 eF).1, ← t7 (by rw [eF]; decide) (by rw [eF]; decide) (by rw [eF]; decide)], mo, by rw [(ts_110 eF).2, ← t7 (by rw [eF]; decide) (by rw [eF]; decide) (by rw [eF]; decide)]⟩
  refine And.intro (fun h10_3 => ?_) (fun h10_3 => ?_)
  · have eF : atL x (nI s) = 112 := t1.symm.trans h10_3
    refine tg_steps 4 rfl ?_
    refine tg_ialdN rfl rfl (j) rfl hj (by decide) ?_
    refine tg_steps 3 rfl ?_
    refine tg_ialdN rfl rfl (3 * j) (n3 hj) (by omega) (by decide) ?_
    refine tg_steps 5 rfl ?_
    refine tg_ialdN rfl rfl (3 * j + 1) (by rw [n3 hj, nI_p1]) (by omega) (by decide) ?_
    refine tg_callV rfl (m_comesOfP hw.1 (t1.trans eF) _ _) rfl rfl rfl rfl rfl (fun v79 w79 q79 => ?_)
    obtain ⟨rfl, rfl⟩ := q79
    exact tg_zret (st := []) rfl rfl ⟨Nat.le_of_ble_eq_true rfl, Nat.le_of_ble_eq_true rfl⟩ (by first | exact tg_b1 _ | exact Or.inl rfl | exact Or.inr rfl) ⟨by rw [(ts_112 eF).1, ← (t6 eF).1], yMo y, by rw [(ts_112 eF).2, ← (t6 eF).1, ← (t6 eF).2, w_Mo0]⟩
  rcases isF_6 t3 (fun q => h10_0 (t1.trans q)) (fun q => h10_1 (t1.trans q)) (fun q => h10_2 (t1.trans q)) (fun q => h10_3 (t1.trans q)) with eF | eF
  · refine tg_steps 4 rfl ?_
    refine tg_ialdN rfl rfl (j) rfl hj (by decide) ?_
    refine tg_steps 3 rfl ?_
    refine tg_ialdN rfl rfl (3 * j) (n3 hj) (by omega) (by decide) ?_
    refine tg_callV rfl (m_comesTileC (t1.trans eF) _) rfl rfl rfl rfl rfl (fun v107 w107 q107 => ?_)
    obtain ⟨rfl, rfl⟩ := q107
    exact tg_zret (st := []) rfl rfl ⟨Nat.le_of_ble_eq_true rfl, Nat.le_of_ble_eq_true rfl⟩ (by first | exact tg_b1 _ | exact Or.inl rfl | exact Or.inr rfl) ⟨by rw [(ts_99 eF).1, ← (t7 (by rw [eF]; decide) (by rw [eF]; decide) (by rw [eF]; decide))], yMo y, by rw [(ts_99 eF).2, ← (t7 (by rw [eF]; decide) (by rw [eF]; decide) (by rw [eF]; decide)), w_Mo0]⟩
  · refine tg_steps 4 rfl ?_
    refine tg_ialdN rfl rfl (j) rfl hj (by decide) ?_
    refine tg_steps 3 rfl ?_
    refine tg_ialdN rfl rfl (3 * j) (n3 hj) (by omega) (by decide) ?_
    refine tg_callV rfl (m_comesTileS (t1.trans eF) _) rfl rfl rfl rfl rfl (fun v107 w107 q107 => ?_)
    obtain ⟨rfl, rfl⟩ := q107
    exact tg_zret (st := []) rfl rfl ⟨Nat.le_of_ble_eq_true rfl, Nat.le_of_ble_eq_true rfl⟩ (by first | exact tg_b1 _ | exact Or.inl rfl | exact Or.inr rfl) ⟨by rw [(ts_115 eF).1, ← (t7 (by rw [eF]; decide) (by rw [eF]; decide) (by rw [eF]; decide))], yMo y, by rw [(ts_115 eF).2, ← (t7 (by rw [eF]; decide) (by rw [eF]; decide) (by rw [eF]; decide)), w_Mo0]⟩
