/-! the public methods of the reference -/
def xOf (y : tp_Y) : tp_X := (yHi y, yRm y, yRo y, yRf y, yTd y, yTp y, 0, fun _ => 0, fun _ => 0, fun _ => 0, fun _ => 0)
def ryb (y : tp_Y) (k : Int32) : tp_Y := zRf y (tg_u (yRf y) (-k).toNatClampNeg (yRf y (-k).toNatClampNeg + 1))
def pM (l : List tg_Cl) (w : Int32) (rv a : Value) (h : tp_H) (y : tp_Y) (h1 : tp_H) (Y1 : tp_Y) : Option Value → tg_W → Prop := fun v wd =>
  v = some (if w = 0 then a else rv) ∧ ∃ y2, wd = (l, tm_cs (if w = 0 then h1 else h) y2) ∧ yk 39 (if w = 0 then Y1 else ryb y w) y2
theorem pM_ref {l : List tg_Cl} {w k : Int32} {rv a v : Value} {h h1 : tp_H} {y Y1 : tp_Y} (hw : w = k) (hk : rfB k = true) (hv : v = rv) : pM l w rv a h y h1 Y1 (some v) (l, tm_cs h (ryb y k)) := by
  subst hw; subst hv
  have h0 := (rf_j hk).1.2.2
  unfold pM
  rw [if_neg h0, if_neg h0, if_neg h0]
  exact ⟨rfl, _, rfl, yk_rf _ _⟩
theorem pM_refI {l : List tg_Cl} {w k : Int32} {a : Value} {h h1 : tp_H} {y Y1 : tp_Y} (hw : w = k) (hk : rfB k = true) : pM l w (.int w) a h y h1 Y1 (some (.int k)) (l, tm_cs h (ryb y k)) := pM_ref hw hk (by rw [hw])
theorem pM_refL {l : List tg_Cl} {w k : Int32} {a : Value} {h h1 : tp_H} {y Y1 : tp_Y} (hw : w = k) (hk : rfB k = true) : pM l w (.long (lrf w)) a h y h1 Y1 (some (.long (lrf k))) (l, tm_cs h (ryb y k)) := pM_ref hw hk (by rw [hw])
theorem pM_ok {l : List tg_Cl} {w : Int32} {rv a v : Value} {h h1 : tp_H} {y Y1 y2 : tp_Y} (hw : w = 0) (hv : v = a) (hy : yk 39 Y1 y2) : pM l w rv a h y h1 Y1 (some v) (l, tm_cs h1 y2) := by
  subst hw; subst hv
  unfold pM
  rw [if_pos rfl, if_pos rfl, if_pos rfl]
  exact ⟨rfl, _, rfl, hy⟩
theorem inB_up (v b : Int32) : inB v 0 b = upTo v b := rfl
theorem bor_ne (k : Int32) : ¬ bor k = 0 := (rf_j (rf_bor k)).1.2.2
theorem bd_0 {v a b : Int32} (h : bdI v a b = 0) : ¬ v < a ∧ ¬ b < v := by
  unfold bdI at h
  by_cases h1 : v < a
  · rw [if_pos h1] at h; exact absurd h (by decide)
  · rw [if_neg h1] at h
    by_cases h2 : b < v
    · rw [if_pos h2] at h; exact absurd h (by decide)
    · exact ⟨h1, h2⟩
theorem bd_f {v b : Int32} (h : bdI v 0 b = 0) : upTo v b = true := by
  obtain ⟨h1, h2⟩ := bd_0 h
  unfold upTo
  rw [decide_eq_false h1, decide_eq_false h2]
  rfl
theorem bd_t {v b : Int32} (h : ¬ bdI v 0 b = 0) : upTo v b = false ∧ bdI v 0 b = bor v := by
  unfold bdI upTo bor at *
  by_cases h1 : v < 0
  · rw [if_pos h1, decide_eq_true h1, if_pos h1]; exact ⟨rfl, rfl⟩
  · rw [if_neg h1] at h
    by_cases h2 : b < v
    · rw [if_neg h1, if_pos h2, if_neg h1, decide_eq_false h1, decide_eq_true h2]; exact ⟨rfl, rfl⟩
    · rw [if_neg h2] at h; exact absurd rfl h
theorem rf_bd {v a b : Int32} (h : ¬ bdI v a b = 0) : rfB (bdI v a b) = true := by
  unfold bdI at *
  by_cases h1 : v < a
  · rw [if_pos h1]; decide
  · rw [if_neg h1] at h ⊢
    by_cases h2 : b < v
    · rw [if_pos h2]; decide
    · rw [if_neg h2] at h; exact absurd rfl h
theorem up1_0 {v : Int32} (h : upTo v 1 = true) (h1 : ¬ v = 1) : v = 0 := by
  obtain ⟨j, hj, rfl⟩ := up_j (m := 1) rfl h
  have hd : ∀ i : Fin 2, ¬ nI i.1 = 1 → nI i.1 = 0 := by decide +kernel
  exact hd ⟨j, by omega⟩ h1
theorem up1_f {v : Int32} (h : upTo v 1 = false) : ¬ v = 0 ∧ ¬ v = 1 := by
  refine ⟨fun e => ?_, fun e => ?_⟩ <;> (rw [e] at h; exact absurd h (by decide))
theorem up_lo {v g : Int32} (h : v < 0) : upTo v g = false ∧ bor v = -4 := by
  unfold upTo bor
  rw [decide_eq_true h, if_pos h]
  exact ⟨rfl, rfl⟩
theorem up_hi {v g : Int32} (h : ¬ v < 0) (h2 : g < v) : upTo v g = false ∧ bor v = -6 := by
  unfold upTo bor
  rw [decide_eq_false h, decide_eq_true h2, if_neg h]
  exact ⟨rfl, rfl⟩
theorem up_mid {v g : Int32} (h : ¬ v < 0) (h2 : ¬ g < v) : upTo v g = true := by
  unfold upTo
  rw [decide_eq_false h, decide_eq_false h2]
  rfl
theorem wLet_b {x : tp_X} {c : Int32} (h : ¬ bdI c 0 255 = 0) : wLet x c = bdI c 0 255 := by
  unfold wLet bdI at *
  split
  · rfl
  · rename_i h1
    rw [if_neg h1] at h
    split
    · rfl
    · rename_i h2
      rw [if_neg h2] at h
      exact absurd rfl h
theorem wNis_b {n : tp_H} {c : Int32} (h : ¬ bdI c 1 60 = 0) : wNis n c = bdI c 1 60 := by
  unfold wNis bdI at *
  split
  · rfl
  · rename_i h1
    rw [if_neg h1] at h
    split
    · rfl
    · rename_i h2
      rw [if_neg h2] at h
      exact absurd rfl h
theorem wRow_b {x : tp_X} {c : Int32} (h : ¬ bdI c 0 99 = 0) : wRow x c = bdI c 0 99 := by
  unfold wRow bdI at *
  split
  · rfl
  · rename_i h1
    rw [if_neg h1] at h
    split
    · rfl
    · rename_i h2
      rw [if_neg h2] at h
      exact absurd rfl h
theorem wLot_b {c wh : Int32} (h : ¬ bdI c 1 20 = 0) : wLot c wh = bdI c 1 20 := by
  unfold wLot bdI at *
  split
  · rfl
  · rename_i h1
    rw [if_neg h1] at h
    split
    · rfl
    · rename_i h2
      rw [if_neg h2] at h
      exact absurd rfl h
theorem wTil_u (ti wh : Int32) : wTil ti wh = bif isT ti then (bif upTo wh 1 then 0 else -2) else -1 := by
  unfold wTil
  cases hu : upTo wh 1 with
  | false =>
    obtain ⟨h0, h1⟩ := up1_f hu
    rw [if_neg h0, if_neg h1]; rfl
  | true =>
    by_cases h1 : wh = 1
    · rw [h1]; rfl
    · rw [up1_0 hu h1]; rfl
theorem hs_out {h : tp_H} {k : Int32} (hm : hM h ≤ 7) (hk : k < -2 ∨ nI (hM h) ≤ k) : hasB h k = false ∧ ¬ k = -1 ∧ ¬ k = -2 := by
  unfold hasB
  rcases hk with q | q
  · refine ⟨?_, fun e => ?_, fun e => ?_⟩
    · rw [decide_eq_true (Int32.lt_trans q (by decide))]; rfl
    · rw [e] at q; exact absurd q (by decide)
    · rw [e] at q; exact absurd q (by decide)
  · have h8 : ∀ j : Fin 8, ¬ nI j.1 ≤ -1 ∧ ¬ nI j.1 ≤ -2 := by decide +kernel
    have := h8 ⟨hM h, by omega⟩
    refine ⟨?_, fun e => ?_, fun e => ?_⟩
    · rw [decide_eq_true q]; cases decide (k < 0) <;> rfl
    · rw [e] at q; exact this.1 q
    · rw [e] at q; exact this.2 q
theorem hs_in {h : tp_H} {k : Int32} (h1 : ¬ k < -2) (h2 : ¬ k = -1) (h3 : ¬ k = -2) (h4 : ¬ nI (hM h) ≤ k) : hasB h k = true := by
  have h0 : ¬ k < 0 := by
    intro q
    rw [Int32.lt_iff_toInt_lt] at q h1
    have e1 : ¬ k.toInt = -1 := fun e => h2 (Int32.toInt_inj.mp e)
    have e2 : ¬ k.toInt = -2 := fun e => h3 (Int32.toInt_inj.mp e)
    rw [show (0 : Int32).toInt = 0 from rfl] at q
    rw [show (-2 : Int32).toInt = -2 from rfl] at h1
    omega
  unfold hasB
  rw [decide_eq_false h0, decide_eq_false h4]
  rfl
theorem cou_in {v : Int32} (h : inB v 11 16 = true) : ¬ v ≤ 10 ∧ ¬ 16 < v := by
  unfold inB at h
  by_cases h1 : v < 11
  · rw [decide_eq_true h1] at h; cases h
  · by_cases h2 : 16 < v
    · rw [decide_eq_false h1, decide_eq_true h2] at h; cases h
    · refine ⟨fun q => h1 ?_, h2⟩
      rw [Int32.le_iff_toInt_le] at q
      rw [Int32.lt_iff_toInt_lt]
      rw [show (10 : Int32).toInt = 10 from rfl] at q
      rw [show (11 : Int32).toInt = 11 from rfl]
      omega
theorem cou_out {v : Int32} (h : inB v 11 16 = false) : v ≤ 10 ∨ (¬ v ≤ 10 ∧ 16 < v) := by
  unfold inB at h
  by_cases h1 : v < 11
  · left
    rw [Int32.lt_iff_toInt_lt] at h1
    rw [Int32.le_iff_toInt_le]
    rw [show (11 : Int32).toInt = 11 from rfl] at h1
    rw [show (10 : Int32).toInt = 10 from rfl]
    omega
  · right
    by_cases h2 : 16 < v
    · refine ⟨fun q => h1 ?_, h2⟩
      rw [Int32.le_iff_toInt_le] at q
      rw [Int32.lt_iff_toInt_lt]
      rw [show (10 : Int32).toInt = 10 from rfl] at q
      rw [show (11 : Int32).toInt = 11 from rfl]
      omega
    · rw [decide_eq_false h1, decide_eq_false h2] at h; cases h

set_option maxRecDepth 100000 in
set_option maxHeartbeats 2000000 in
theorem r_letter {G : tg_G} {l : List tg_Cl} {h : tp_H} {y : tp_Y} (hl : yTd y ≤ 96) (c : Int32) : tg_C G 2 mX11_letter 0 0 [.ref 64, .int c] (l, tm_cs h y) (pM l (wLet (xOf y) c) (.int (wLet (xOf y) c)) (.int (nI (yTd y + 1))) h y (h) (zTd (zTp y (tg_u (yTp y) (yTd y) c)) (yTd y + 1))) := by
  refine tg_intro okX11_letter (Nat.le_of_ble_eq_true rfl) ?_
  refine tg_steps 3 rfl ?_
  refine tg_call1 rfl (m_bound _ _ _) rfl rfl rfl  (fun v5 w5 q5 => ?_)
  obtain ⟨rfl, rfl⟩ := q5
  refine tg_steps 2 rfl ?_
  refine tg_ifne rfl rfl (fun h10 => ?_) (fun h10 => ?_)
  · refine tg_steps 1 rfl ?_
    refine tg_ifeq rfl rfl (fun h26 => absurd h26 (h10)) (fun _ => ?_)
    refine tg_steps 2 rfl ?_
    refine tg_callV rfl (m_no _ (by first | decide | exact rf_bor _ | exact rf_bd (by assumption))) rfl rfl rfl rfl rfl (fun v31 w31 q31 => ?_)
    obtain ⟨rfl, rfl⟩ := q31
    exact tg_iret (st := []) rfl rfl ⟨Nat.le_of_ble_eq_true rfl, Nat.le_of_ble_eq_true rfl⟩ (pM_refI (by first | exact wLet_b (by assumption) | exact (by first | (simp (decide := true) only [wLet, decide_true, decide_false, cond_true, cond_false, Bool.false_eq_true, if_true, if_false, ite_true, ite_false]; done) | (simp (decide := true) only [wLet, decide_true, decide_false, cond_true, cond_false, Bool.false_eq_true, if_true, if_false, ite_true, ite_false]; done) | (simp (decide := true) only [wLet, decide_true, decide_false, cond_true, cond_false, Bool.false_eq_true, if_true, if_false, ite_true, ite_false]; rfl) | rfl)) (by first | decide | exact rf_bor _ | exact rf_bd (by assumption)))
  · obtain ⟨u1, u2⟩ := bd_0 h10
    refine tg_steps 3 rfl ?_
    refine tg_icne rfl rfl (fun h19 => ?_) (fun h19 => ?_)
    · have hl2 : yTd y < 96 := by
        rcases Nat.lt_or_ge (yTd y) 96 with q | q
        · exact q
        · exact absurd (by rw [show yTd y = 96 by omega]; rfl) h19
      have hl3 : nI (xLm (xOf y)) < 96 := nI_lt (b := 96) hl2 (by decide)
      refine tg_steps 1 rfl ?_
      refine tg_ifeq rfl rfl (fun h26 => ?_) (fun h26 => absurd (h10) h26)
      refine tg_steps 5 rfl ?_
      refine tg_iastN rfl rfl (yTd y) rfl hl2 (by decide) ?_
      refine tg_eqW (m_Tp _) ?_
      refine tg_steps 6 rfl ?_
      rw [g_TdTp, nI_p1]
      refine tg_eqW (m_Td _) ?_
      refine tg_steps 2 rfl ?_
      exact tg_iret (st := []) rfl rfl ⟨Nat.le_of_ble_eq_true rfl, Nat.le_of_ble_eq_true rfl⟩ (pM_ok (by first | exact wLet_b (by assumption) | exact (by first | (simp (decide := true) only [wLet, decide_true, decide_false, cond_true, cond_false, Bool.false_eq_true, if_true, if_false, ite_true, ite_false, u1, u2, hl3]; done) | (simp (decide := true) only [wLet, decide_true, decide_false, cond_true, cond_false, Bool.false_eq_true, if_true, if_false, ite_true, ite_false, u1, u2, hl3]; done) | (simp (decide := true) only [wLet, decide_true, decide_false, cond_true, cond_false, Bool.false_eq_true, if_true, if_false, ite_true, ite_false, u1, u2, hl3]; rfl) | rfl)) rfl (yk_rf 39 _))
    · have hl3 : ¬ nI (xLm (xOf y)) < 96 := by
        show ¬ nI (yTd y) < 96
        rw [h19]; decide
      refine tg_steps 3 rfl ?_
      refine tg_ifeq rfl rfl (fun h26 => absurd h26 (by decide)) (fun _ => ?_)
      refine tg_steps 2 rfl ?_
      refine tg_callV rfl (m_no _ (by first | decide | exact rf_bor _ | exact rf_bd (by assumption))) rfl rfl rfl rfl rfl (fun v31 w31 q31 => ?_)
      obtain ⟨rfl, rfl⟩ := q31
      exact tg_iret (st := []) rfl rfl ⟨Nat.le_of_ble_eq_true rfl, Nat.le_of_ble_eq_true rfl⟩ (pM_refI (by first | exact wLet_b (by assumption) | exact (by first | (simp (decide := true) only [wLet, decide_true, decide_false, cond_true, cond_false, Bool.false_eq_true, if_true, if_false, ite_true, ite_false, u1, u2, hl3]; done) | (simp (decide := true) only [wLet, decide_true, decide_false, cond_true, cond_false, Bool.false_eq_true, if_true, if_false, ite_true, ite_false, u1, u2, hl3]; done) | (simp (decide := true) only [wLet, decide_true, decide_false, cond_true, cond_false, Bool.false_eq_true, if_true, if_false, ite_true, ite_false, u1, u2, hl3]; rfl) | rfl)) (by first | decide | exact rf_bor _ | exact rf_bd (by assumption)))
set_option maxRecDepth 100000 in
set_option maxHeartbeats 2000000 in
theorem r_little {G : tg_G} {l : List tg_Cl} {h : tp_H} {y : tp_Y} (hw : wfH h) (one : Int32) (what : Int32) : tg_C G 4 mX11_little 0 0 [.ref 64, .int one, .int what] (l, tm_cs h y) (pM l (wLit h one what) (.int (wLit h one what)) (.int (aLit h one what)) h y (h) (y)) := by
  have hm := hw.1
  refine tg_intro okX11_little (Nat.le_of_ble_eq_true rfl) ?_
  refine tg_steps 2 rfl ?_
  refine tg_callV rfl (m_isOne _) rfl rfl rfl rfl rfl (fun v2 w2 q2 => ?_)
  obtain ⟨rfl, rfl⟩ := q2
  refine tg_ifbne rfl rfl (fun h5 => ?_) (fun h5 => ?_)
  · obtain ⟨j, hj, rfl, cj⟩ := has_j hm h5
    have cn : nN (nI j) = j := cj
    have eK : gO hK h (nI j) = hK h j := gO_nI hm hj
    have eF : gO hF h (nI j) = hF h j := gO_nI hm hj
    have eH : gO hH h (nI j) = hH h j := gO_nI hm hj
    have eT : gO hT h (nI j) = hT h j := gO_nI hm hj
    have eP : gO hP h (nI j) = hP h j := gO_nI hm hj
    refine tg_steps 1 rfl ?_
    refine tg_tsw rfl ?_
    refine And.intro (fun h15_0 => ?_) (fun h15_0 => ?_)
    · refine tg_steps 3 rfl ?_
      refine tg_ialdN rfl rfl (j) rfl (by omega) (by decide) ?_
      exact tg_iret (st := []) rfl rfl ⟨Nat.le_of_ble_eq_true rfl, Nat.le_of_ble_eq_true rfl⟩ (pM_ok (by first | (simp (decide := true) only [wLit, decide_true, decide_false, cond_true, cond_false, Bool.false_eq_true, if_true, if_false, ite_true, ite_false, h5, eK, eF, eH, eT, eP, cn, eq_true h15_0]; done) | (simp (decide := true) only [wLit, decide_true, decide_false, cond_true, cond_false, Bool.false_eq_true, if_true, if_false, ite_true, ite_false, h5, eK, eF, eH, eT, eP, cn, h15_0]; done) | (simp (decide := true) only [wLit, decide_true, decide_false, cond_true, cond_false, Bool.false_eq_true, if_true, if_false, ite_true, ite_false, h5, eK, eF, eH, eT, eP, cn, eq_true h15_0]; rfl) | rfl) (by first | (simp (decide := true) only [aLit, nwH, tg_b, decide_true, decide_false, cond_true, cond_false, Bool.false_eq_true, if_true, if_false, ite_true, ite_false, h5, eK, eF, eH, eT, eP, cn, eq_true h15_0]; done) | (simp (decide := true) only [aLit, nwH, tg_b, decide_true, decide_false, cond_true, cond_false, Bool.false_eq_true, if_true, if_false, ite_true, ite_false, h5, eK, eF, eH, eT, eP, cn, h15_0]; done) | (simp (decide := true) only [aLit, nwH, tg_b, decide_true, decide_false, cond_true, cond_false, Bool.false_eq_true, if_true, if_false, ite_true, ite_false, h5, eK, eF, eH, eT, eP, cn, eq_true h15_0]; rfl) | rfl) (yk_rf 39 _))
    refine And.intro (fun h15_1 => ?_) (fun h15_1 => ?_)
    · refine tg_steps 3 rfl ?_
      refine tg_ialdN rfl rfl (j) rfl (by omega) (by decide) ?_
      exact tg_iret (st := []) rfl rfl ⟨Nat.le_of_ble_eq_true rfl, Nat.le_of_ble_eq_true rfl⟩ (pM_ok (by first | (simp (decide := true) only [wLit, decide_true, decide_false, cond_true, cond_false, Bool.false_eq_true, if_true, if_false, ite_true, ite_false, h5, eK, eF, eH, eT, eP, cn, h15_0, eq_true h15_1]; done) | (simp (decide := true) only [wLit, decide_true, decide_false, cond_true, cond_false, Bool.false_eq_true, if_true, if_false, ite_true, ite_false, h5, eK, eF, eH, eT, eP, cn, h15_0, h15_1]; done) | (simp (decide := true) only [wLit, decide_true, decide_false, cond_true, cond_false, Bool.false_eq_true, if_true, if_false, ite_true, ite_false, h5, eK, eF, eH, eT, eP, cn, h15_0, eq_true h15_1]; rfl) | rfl) (by first | (simp (decide := true) only [aLit, nwH, tg_b, decide_true, decide_false, cond_true, cond_false, Bool.false_eq_true, if_true, if_false, ite_true, ite_false, h5, eK, eF, eH, eT, eP, cn, h15_0, eq_true h15_1]; done) | (simp (decide := true) only [aLit, nwH, tg_b, decide_true, decide_false, cond_true, cond_false, Bool.false_eq_true, if_true, if_false, ite_true, ite_false, h5, eK, eF, eH, eT, eP, cn, h15_0, h15_1]; done) | (simp (decide := true) only [aLit, nwH, tg_b, decide_true, decide_false, cond_true, cond_false, Bool.false_eq_true, if_true, if_false, ite_true, ite_false, h5, eK, eF, eH, eT, eP, cn, h15_0, eq_true h15_1]; rfl) | rfl) (yk_rf 39 _))
    refine And.intro (fun h15_2 => ?_) (fun h15_2 => ?_)
    · refine tg_steps 3 rfl ?_
      refine tg_ialdN rfl rfl (j) rfl (by omega) (by decide) ?_
      exact tg_iret (st := []) rfl rfl ⟨Nat.le_of_ble_eq_true rfl, Nat.le_of_ble_eq_true rfl⟩ (pM_ok (by first | (simp (decide := true) only [wLit, decide_true, decide_false, cond_true, cond_false, Bool.false_eq_true, if_true, if_false, ite_true, ite_false, h5, eK, eF, eH, eT, eP, cn, h15_0, h15_1, eq_true h15_2]; done) | (simp (decide := true) only [wLit, decide_true, decide_false, cond_true, cond_false, Bool.false_eq_true, if_true, if_false, ite_true, ite_false, h5, eK, eF, eH, eT, eP, cn, h15_0, h15_1, h15_2]; done) | (simp (decide := true) only [wLit, decide_true, decide_false, cond_true, cond_false, Bool.false_eq_true, if_true, if_false, ite_true, ite_false, h5, eK, eF, eH, eT, eP, cn, h15_0, h15_1, eq_true h15_2]; rfl) | rfl) (by first | (simp (decide := true) only [aLit, nwH, tg_b, decide_true, decide_false, cond_true, cond_false, Bool.false_eq_true, if_true, if_false, ite_true, ite_false, h5, eK, eF, eH, eT, eP, cn, h15_0, h15_1, eq_true h15_2]; done) | (simp (decide := true) only [aLit, nwH, tg_b, decide_true, decide_false, cond_true, cond_false, Bool.false_eq_true, if_true, if_false, ite_true, ite_false, h5, eK, eF, eH, eT, eP, cn, h15_0, h15_1, h15_2]; done) | (simp (decide := true) only [aLit, nwH, tg_b, decide_true, decide_false, cond_true, cond_false, Bool.false_eq_true, if_true, if_false, ite_true, ite_false, h5, eK, eF, eH, eT, eP, cn, h15_0, h15_1, eq_true h15_2]; rfl) | rfl) (yk_rf 39 _))
    refine And.intro (fun h15_3 => ?_) (fun h15_3 => ?_)
    · refine tg_steps 3 rfl ?_
      refine tg_ialdN rfl rfl (j) rfl (by omega) (by decide) ?_
      exact tg_iret (st := []) rfl rfl ⟨Nat.le_of_ble_eq_true rfl, Nat.le_of_ble_eq_true rfl⟩ (pM_ok (by first | (simp (decide := true) only [wLit, decide_true, decide_false, cond_true, cond_false, Bool.false_eq_true, if_true, if_false, ite_true, ite_false, h5, eK, eF, eH, eT, eP, cn, h15_0, h15_1, h15_2, eq_true h15_3]; done) | (simp (decide := true) only [wLit, decide_true, decide_false, cond_true, cond_false, Bool.false_eq_true, if_true, if_false, ite_true, ite_false, h5, eK, eF, eH, eT, eP, cn, h15_0, h15_1, h15_2, h15_3]; done) | (simp (decide := true) only [wLit, decide_true, decide_false, cond_true, cond_false, Bool.false_eq_true, if_true, if_false, ite_true, ite_false, h5, eK, eF, eH, eT, eP, cn, h15_0, h15_1, h15_2, eq_true h15_3]; rfl) | rfl) (by first | (simp (decide := true) only [aLit, nwH, tg_b, decide_true, decide_false, cond_true, cond_false, Bool.false_eq_true, if_true, if_false, ite_true, ite_false, h5, eK, eF, eH, eT, eP, cn, h15_0, h15_1, h15_2, eq_true h15_3]; done) | (simp (decide := true) only [aLit, nwH, tg_b, decide_true, decide_false, cond_true, cond_false, Bool.false_eq_true, if_true, if_false, ite_true, ite_false, h5, eK, eF, eH, eT, eP, cn, h15_0, h15_1, h15_2, h15_3]; done) | (simp (decide := true) only [aLit, nwH, tg_b, decide_true, decide_false, cond_true, cond_false, Bool.false_eq_true, if_true, if_false, ite_true, ite_false, h5, eK, eF, eH, eT, eP, cn, h15_0, h15_1, h15_2, eq_true h15_3]; rfl) | rfl) (yk_rf 39 _))
    refine And.intro (fun h15_4 => ?_) (fun h15_4 => ?_)
    · refine tg_steps 3 rfl ?_
      refine tg_ialdN rfl rfl (j) rfl (by omega) (by decide) ?_
      exact tg_iret (st := []) rfl rfl ⟨Nat.le_of_ble_eq_true rfl, Nat.le_of_ble_eq_true rfl⟩ (pM_ok (by first | (simp (decide := true) only [wLit, decide_true, decide_false, cond_true, cond_false, Bool.false_eq_true, if_true, if_false, ite_true, ite_false, h5, eK, eF, eH, eT, eP, cn, h15_0, h15_1, h15_2, h15_3, eq_true h15_4]; done) | (simp (decide := true) only [wLit, decide_true, decide_false, cond_true, cond_false, Bool.false_eq_true, if_true, if_false, ite_true, ite_false, h5, eK, eF, eH, eT, eP, cn, h15_0, h15_1, h15_2, h15_3, h15_4]; done) | (simp (decide := true) only [wLit, decide_true, decide_false, cond_true, cond_false, Bool.false_eq_true, if_true, if_false, ite_true, ite_false, h5, eK, eF, eH, eT, eP, cn, h15_0, h15_1, h15_2, h15_3, eq_true h15_4]; rfl) | rfl) (by first | (simp (decide := true) only [aLit, nwH, tg_b, decide_true, decide_false, cond_true, cond_false, Bool.false_eq_true, if_true, if_false, ite_true, ite_false, h5, eK, eF, eH, eT, eP, cn, h15_0, h15_1, h15_2, h15_3, eq_true h15_4]; done) | (simp (decide := true) only [aLit, nwH, tg_b, decide_true, decide_false, cond_true, cond_false, Bool.false_eq_true, if_true, if_false, ite_true, ite_false, h5, eK, eF, eH, eT, eP, cn, h15_0, h15_1, h15_2, h15_3, h15_4]; done) | (simp (decide := true) only [aLit, nwH, tg_b, decide_true, decide_false, cond_true, cond_false, Bool.false_eq_true, if_true, if_false, ite_true, ite_false, h5, eK, eF, eH, eT, eP, cn, h15_0, h15_1, h15_2, h15_3, eq_true h15_4]; rfl) | rfl) (yk_rf 39 _))
    refine And.intro (fun h15_5 => ?_) (fun h15_5 => ?_)
    · refine tg_steps 2 rfl ?_
      refine tg_callV rfl (m_isAboard hm j hj) rfl rfl rfl rfl rfl (fun v93 w93 q93 => ?_)
      obtain ⟨rfl, rfl⟩ := q93
      refine tg_ifbeq rfl rfl (fun h96 => ?_) (fun h96 => ?_)
      · refine tg_steps 1 rfl ?_
        exact tg_iret (st := []) rfl rfl ⟨Nat.le_of_ble_eq_true rfl, Nat.le_of_ble_eq_true rfl⟩ (pM_ok (by first | (simp (decide := true) only [wLit, decide_true, decide_false, cond_true, cond_false, Bool.false_eq_true, if_true, if_false, ite_true, ite_false, h5, eK, eF, eH, eT, eP, cn, h15_0, h15_1, h15_2, h15_3, h15_4, eq_true h15_5, h96]; done) | (simp (decide := true) only [wLit, decide_true, decide_false, cond_true, cond_false, Bool.false_eq_true, if_true, if_false, ite_true, ite_false, h5, eK, eF, eH, eT, eP, cn, h15_0, h15_1, h15_2, h15_3, h15_4, h15_5, h96]; done) | (simp (decide := true) only [wLit, decide_true, decide_false, cond_true, cond_false, Bool.false_eq_true, if_true, if_false, ite_true, ite_false, h5, eK, eF, eH, eT, eP, cn, h15_0, h15_1, h15_2, h15_3, h15_4, eq_true h15_5, h96]; rfl) | rfl) (by first | (simp (decide := true) only [aLit, nwH, tg_b, decide_true, decide_false, cond_true, cond_false, Bool.false_eq_true, if_true, if_false, ite_true, ite_false, h5, eK, eF, eH, eT, eP, cn, h15_0, h15_1, h15_2, h15_3, h15_4, eq_true h15_5, h96]; done) | (simp (decide := true) only [aLit, nwH, tg_b, decide_true, decide_false, cond_true, cond_false, Bool.false_eq_true, if_true, if_false, ite_true, ite_false, h5, eK, eF, eH, eT, eP, cn, h15_0, h15_1, h15_2, h15_3, h15_4, h15_5, h96]; done) | (simp (decide := true) only [aLit, nwH, tg_b, decide_true, decide_false, cond_true, cond_false, Bool.false_eq_true, if_true, if_false, ite_true, ite_false, h5, eK, eF, eH, eT, eP, cn, h15_0, h15_1, h15_2, h15_3, h15_4, eq_true h15_5, h96]; rfl) | rfl) (yk_rf 39 _))
      · refine tg_steps 2 rfl ?_
        exact tg_iret (st := []) rfl rfl ⟨Nat.le_of_ble_eq_true rfl, Nat.le_of_ble_eq_true rfl⟩ (pM_ok (by first | (simp (decide := true) only [wLit, decide_true, decide_false, cond_true, cond_false, Bool.false_eq_true, if_true, if_false, ite_true, ite_false, h5, eK, eF, eH, eT, eP, cn, h15_0, h15_1, h15_2, h15_3, h15_4, eq_true h15_5, h96]; done) | (simp (decide := true) only [wLit, decide_true, decide_false, cond_true, cond_false, Bool.false_eq_true, if_true, if_false, ite_true, ite_false, h5, eK, eF, eH, eT, eP, cn, h15_0, h15_1, h15_2, h15_3, h15_4, h15_5, h96]; done) | (simp (decide := true) only [wLit, decide_true, decide_false, cond_true, cond_false, Bool.false_eq_true, if_true, if_false, ite_true, ite_false, h5, eK, eF, eH, eT, eP, cn, h15_0, h15_1, h15_2, h15_3, h15_4, eq_true h15_5, h96]; rfl) | rfl) (by first | (simp (decide := true) only [aLit, nwH, tg_b, decide_true, decide_false, cond_true, cond_false, Bool.false_eq_true, if_true, if_false, ite_true, ite_false, h5, eK, eF, eH, eT, eP, cn, h15_0, h15_1, h15_2, h15_3, h15_4, eq_true h15_5, h96]; done) | (simp (decide := true) only [aLit, nwH, tg_b, decide_true, decide_false, cond_true, cond_false, Bool.false_eq_true, if_true, if_false, ite_true, ite_false, h5, eK, eF, eH, eT, eP, cn, h15_0, h15_1, h15_2, h15_3, h15_4, h15_5, h96]; done) | (simp (decide := true) only [aLit, nwH, tg_b, decide_true, decide_false, cond_true, cond_false, Bool.false_eq_true, if_true, if_false, ite_true, ite_false, h5, eK, eF, eH, eT, eP, cn, h15_0, h15_1, h15_2, h15_3, h15_4, eq_true h15_5, h96]; rfl) | rfl) (yk_rf 39 _))
    refine And.intro (fun h15_6 => ?_) (fun h15_6 => ?_)
    · refine tg_steps 6 rfl ?_
      refine tg_callV rfl (m_wayOf hw j hj _) rfl rfl rfl rfl rfl (fun v113 w113 q113 => ?_)
      obtain ⟨rfl, rfl⟩ := q113
      exact tg_iret (st := []) rfl rfl ⟨Nat.le_of_ble_eq_true rfl, Nat.le_of_ble_eq_true rfl⟩ (pM_ok (by first | (simp (decide := true) only [wLit, decide_true, decide_false, cond_true, cond_false, Bool.false_eq_true, if_true, if_false, ite_true, ite_false, h5, eK, eF, eH, eT, eP, cn, h15_0, h15_1, h15_2, h15_3, h15_4, h15_5, eq_true h15_6]; done) | (simp (decide := true) only [wLit, decide_true, decide_false, cond_true, cond_false, Bool.false_eq_true, if_true, if_false, ite_true, ite_false, h5, eK, eF, eH, eT, eP, cn, h15_0, h15_1, h15_2, h15_3, h15_4, h15_5, h15_6]; done) | (simp (decide := true) only [wLit, decide_true, decide_false, cond_true, cond_false, Bool.false_eq_true, if_true, if_false, ite_true, ite_false, h5, eK, eF, eH, eT, eP, cn, h15_0, h15_1, h15_2, h15_3, h15_4, h15_5, eq_true h15_6]; rfl) | rfl) (by first | (simp (decide := true) only [aLit, nwH, tg_b, decide_true, decide_false, cond_true, cond_false, Bool.false_eq_true, if_true, if_false, ite_true, ite_false, h5, eK, eF, eH, eT, eP, cn, h15_0, h15_1, h15_2, h15_3, h15_4, h15_5, eq_true h15_6]; done) | (simp (decide := true) only [aLit, nwH, tg_b, decide_true, decide_false, cond_true, cond_false, Bool.false_eq_true, if_true, if_false, ite_true, ite_false, h5, eK, eF, eH, eT, eP, cn, h15_0, h15_1, h15_2, h15_3, h15_4, h15_5, h15_6]; done) | (simp (decide := true) only [aLit, nwH, tg_b, decide_true, decide_false, cond_true, cond_false, Bool.false_eq_true, if_true, if_false, ite_true, ite_false, h5, eK, eF, eH, eT, eP, cn, h15_0, h15_1, h15_2, h15_3, h15_4, h15_5, eq_true h15_6]; rfl) | rfl) (yk_rf 39 _))
    refine tg_steps 2 rfl ?_
    refine tg_callV rfl (m_no _ (by first | decide | exact rf_bor _ | exact rf_bd (by assumption))) rfl rfl rfl rfl rfl (fun v120 w120 q120 => ?_)
    obtain ⟨rfl, rfl⟩ := q120
    exact tg_iret (st := []) rfl rfl ⟨Nat.le_of_ble_eq_true rfl, Nat.le_of_ble_eq_true rfl⟩ (pM_refI (by first | (simp (decide := true) only [wLit, decide_true, decide_false, cond_true, cond_false, Bool.false_eq_true, if_true, if_false, ite_true, ite_false, h5, eK, eF, eH, eT, eP, cn, h15_0, h15_1, h15_2, h15_3, h15_4, h15_5, h15_6]; done) | (simp (decide := true) only [wLit, decide_true, decide_false, cond_true, cond_false, Bool.false_eq_true, if_true, if_false, ite_true, ite_false, h5, eK, eF, eH, eT, eP, cn, h15_0, h15_1, h15_2, h15_3, h15_4, h15_5, h15_6]; done) | (simp (decide := true) only [wLit, decide_true, decide_false, cond_true, cond_false, Bool.false_eq_true, if_true, if_false, ite_true, ite_false, h5, eK, eF, eH, eT, eP, cn, h15_0, h15_1, h15_2, h15_3, h15_4, h15_5, h15_6]; rfl) | rfl) (by first | decide | exact rf_bor _ | exact rf_bd (by assumption)))
  · refine tg_steps 2 rfl ?_
    refine tg_callV rfl (m_no _ (by first | decide | exact rf_bor _ | exact rf_bd (by assumption))) rfl rfl rfl rfl rfl (fun v10 w10 q10 => ?_)
    obtain ⟨rfl, rfl⟩ := q10
    exact tg_iret (st := []) rfl rfl ⟨Nat.le_of_ble_eq_true rfl, Nat.le_of_ble_eq_true rfl⟩ (pM_refI (by first | (simp (decide := true) only [wLit, decide_true, decide_false, cond_true, cond_false, Bool.false_eq_true, if_true, if_false, ite_true, ite_false, h5]; done) | (simp (decide := true) only [wLit, decide_true, decide_false, cond_true, cond_false, Bool.false_eq_true, if_true, if_false, ite_true, ite_false, h5]; done) | (simp (decide := true) only [wLit, decide_true, decide_false, cond_true, cond_false, Bool.false_eq_true, if_true, if_false, ite_true, ite_false, h5]; rfl) | rfl) (by first | decide | exact rf_bor _ | exact rf_bd (by assumption)))
set_option maxRecDepth 100000 in
set_option maxHeartbeats 2000000 in
theorem r_tile {G : tg_G} {l : List tg_Cl} {h : tp_H} {y : tp_Y} (hw : wfH h) (ti : Int32) (wh : Int32) : tg_C G 2 mX11_tile 0 0 [.ref 64, .int ti, .int wh] (l, tm_cs h y) (pM l ((bif isT ti then (bif upTo wh 1 then 0 else -2) else -1 : Int32)) (.int ((bif isT ti then (bif upTo wh 1 then 0 else -2) else -1 : Int32))) (.int (aTil h ti wh)) h y (h) (y)) := by
  have hm := hw.1
  refine tg_intro okX11_tile (Nat.le_of_ble_eq_true rfl) ?_
  refine tg_steps 1 rfl ?_
  refine tg_call1 rfl (m_isTile _) rfl rfl rfl  (fun v1 w1 q1 => ?_)
  obtain ⟨rfl, rfl⟩ := q1
  refine tg_ifbne rfl rfl (fun h4 => ?_) (fun h4 => ?_)
  · refine tg_steps 3 rfl ?_
    refine tg_call1 rfl (m_isIn _ _ _) rfl rfl rfl  (fun v14 w14 q14 => ?_)
    obtain ⟨rfl, rfl⟩ := q14
    try rw [inB_up]
    refine tg_ifbne rfl rfl (fun h17 => ?_) (fun h17 => ?_)
    · refine tg_steps 3 rfl ?_
      refine tg_ifeq rfl rfl (fun h28 => ?_) (fun h28 => absurd h28 (by decide))
      refine tg_steps 2 rfl ?_
      refine tg_icne rfl rfl (fun h39 => ?_) (fun h39 => ?_)
      · have h0 : wh = 0 := up1_0 h17 h39
        refine tg_steps 3 rfl ?_
        refine tg_call1 rfl (m_has _ _) rfl rfl rfl  (fun v55 w55 q55 => ?_)
        obtain ⟨rfl, rfl⟩ := q55
        rw [show hsB (hC h) ti = crB h ti from rfl]
        refine tg_ifbeq rfl rfl (fun h58 => ?_) (fun h58 => ?_)
        · refine tg_steps 1 rfl ?_
          exact tg_iret (st := []) rfl rfl ⟨Nat.le_of_ble_eq_true rfl, Nat.le_of_ble_eq_true rfl⟩ (pM_ok (by first | (simp (decide := true) only [id, decide_true, decide_false, cond_true, cond_false, Bool.false_eq_true, if_true, if_false, ite_true, ite_false, h4, h17, h39, eq_true h0, h58]; done) | (simp (decide := true) only [id, decide_true, decide_false, cond_true, cond_false, Bool.false_eq_true, if_true, if_false, ite_true, ite_false, h4, h17, h39, h0, h58]; done) | (simp (decide := true) only [id, decide_true, decide_false, cond_true, cond_false, Bool.false_eq_true, if_true, if_false, ite_true, ite_false, h4, h17, h39, eq_true h0, h58]; rfl) | rfl) (by first | (simp (decide := true) only [aTil, tg_b, decide_true, decide_false, cond_true, cond_false, Bool.false_eq_true, if_true, if_false, ite_true, ite_false, h4, h17, h39, eq_true h0, h58]; done) | (simp (decide := true) only [aTil, tg_b, decide_true, decide_false, cond_true, cond_false, Bool.false_eq_true, if_true, if_false, ite_true, ite_false, h4, h17, h39, h0, h58]; done) | (simp (decide := true) only [aTil, tg_b, decide_true, decide_false, cond_true, cond_false, Bool.false_eq_true, if_true, if_false, ite_true, ite_false, h4, h17, h39, eq_true h0, h58]; rfl) | rfl) (yk_rf 39 _))
        · refine tg_steps 2 rfl ?_
          exact tg_iret (st := []) rfl rfl ⟨Nat.le_of_ble_eq_true rfl, Nat.le_of_ble_eq_true rfl⟩ (pM_ok (by first | (simp (decide := true) only [id, decide_true, decide_false, cond_true, cond_false, Bool.false_eq_true, if_true, if_false, ite_true, ite_false, h4, h17, h39, eq_true h0, h58]; done) | (simp (decide := true) only [id, decide_true, decide_false, cond_true, cond_false, Bool.false_eq_true, if_true, if_false, ite_true, ite_false, h4, h17, h39, h0, h58]; done) | (simp (decide := true) only [id, decide_true, decide_false, cond_true, cond_false, Bool.false_eq_true, if_true, if_false, ite_true, ite_false, h4, h17, h39, eq_true h0, h58]; rfl) | rfl) (by first | (simp (decide := true) only [aTil, tg_b, decide_true, decide_false, cond_true, cond_false, Bool.false_eq_true, if_true, if_false, ite_true, ite_false, h4, h17, h39, eq_true h0, h58]; done) | (simp (decide := true) only [aTil, tg_b, decide_true, decide_false, cond_true, cond_false, Bool.false_eq_true, if_true, if_false, ite_true, ite_false, h4, h17, h39, h0, h58]; done) | (simp (decide := true) only [aTil, tg_b, decide_true, decide_false, cond_true, cond_false, Bool.false_eq_true, if_true, if_false, ite_true, ite_false, h4, h17, h39, eq_true h0, h58]; rfl) | rfl) (yk_rf 39 _))
      · refine tg_steps 2 rfl ?_
        refine tg_callV rfl (m_thoseOn hm _) rfl rfl rfl rfl rfl (fun v44 w44 q44 => ?_)
        obtain ⟨rfl, rfl⟩ := q44
        refine tg_steps 1 rfl ?_
        exact tg_iret (st := []) rfl rfl ⟨Nat.le_of_ble_eq_true rfl, Nat.le_of_ble_eq_true rfl⟩ (pM_ok (by first | (simp (decide := true) only [id, decide_true, decide_false, cond_true, cond_false, Bool.false_eq_true, if_true, if_false, ite_true, ite_false, h4, h17, eq_true h39]; done) | (simp (decide := true) only [id, decide_true, decide_false, cond_true, cond_false, Bool.false_eq_true, if_true, if_false, ite_true, ite_false, h4, h17, h39]; done) | (simp (decide := true) only [id, decide_true, decide_false, cond_true, cond_false, Bool.false_eq_true, if_true, if_false, ite_true, ite_false, h4, h17, eq_true h39]; rfl) | rfl) (by first | (simp (decide := true) only [aTil, tg_b, decide_true, decide_false, cond_true, cond_false, Bool.false_eq_true, if_true, if_false, ite_true, ite_false, h4, h17, eq_true h39]; done) | (simp (decide := true) only [aTil, tg_b, decide_true, decide_false, cond_true, cond_false, Bool.false_eq_true, if_true, if_false, ite_true, ite_false, h4, h17, h39]; done) | (simp (decide := true) only [aTil, tg_b, decide_true, decide_false, cond_true, cond_false, Bool.false_eq_true, if_true, if_false, ite_true, ite_false, h4, h17, eq_true h39]; rfl) | rfl) (yk_rf 39 _))
    · refine tg_steps 4 rfl ?_
      refine tg_ifeq rfl rfl (fun h28 => absurd h28 (by decide)) (fun _ => ?_)
      refine tg_steps 2 rfl ?_
      refine tg_callV rfl (m_no _ (by first | decide | exact rf_bor _ | exact rf_bd (by assumption))) rfl rfl rfl rfl rfl (fun v33 w33 q33 => ?_)
      obtain ⟨rfl, rfl⟩ := q33
      exact tg_iret (st := []) rfl rfl ⟨Nat.le_of_ble_eq_true rfl, Nat.le_of_ble_eq_true rfl⟩ (pM_refI (by first | (simp (decide := true) only [id, decide_true, decide_false, cond_true, cond_false, Bool.false_eq_true, if_true, if_false, ite_true, ite_false, h4, h17]; done) | (simp (decide := true) only [id, decide_true, decide_false, cond_true, cond_false, Bool.false_eq_true, if_true, if_false, ite_true, ite_false, h4, h17]; done) | (simp (decide := true) only [id, decide_true, decide_false, cond_true, cond_false, Bool.false_eq_true, if_true, if_false, ite_true, ite_false, h4, h17]; rfl) | rfl) (by first | decide | exact rf_bor _ | exact rf_bd (by assumption)))
  · refine tg_steps 4 rfl ?_
    refine tg_ifeq rfl rfl (fun h28 => absurd h28 (by decide)) (fun _ => ?_)
    refine tg_steps 2 rfl ?_
    refine tg_callV rfl (m_no _ (by first | decide | exact rf_bor _ | exact rf_bd (by assumption))) rfl rfl rfl rfl rfl (fun v33 w33 q33 => ?_)
    obtain ⟨rfl, rfl⟩ := q33
    exact tg_iret (st := []) rfl rfl ⟨Nat.le_of_ble_eq_true rfl, Nat.le_of_ble_eq_true rfl⟩ (pM_refI (by first | (simp (decide := true) only [id, decide_true, decide_false, cond_true, cond_false, Bool.false_eq_true, if_true, if_false, ite_true, ite_false, h4]; done) | (simp (decide := true) only [id, decide_true, decide_false, cond_true, cond_false, Bool.false_eq_true, if_true, if_false, ite_true, ite_false, h4]; done) | (simp (decide := true) only [id, decide_true, decide_false, cond_true, cond_false, Bool.false_eq_true, if_true, if_false, ite_true, ite_false, h4]; rfl) | rfl) (by first | decide | exact rf_bor _ | exact rf_bd (by assumption)))
set_option maxRecDepth 100000 in
set_option maxHeartbeats 2000000 in
theorem r_comesIn {G : tg_G} {l : List tg_Cl} {h : tp_H} {y : tp_Y} (hw : wfH h) (kd : Int32) (f : Int32) (ho : Int32) : tg_C G 2 mX11_comesIn 0 0 [.ref 64, .int kd, .int f, .int ho] (l, tm_cs h y) (pM l (wCom h kd f ho) (.int (wCom h kd f ho)) (.int (nI (hM h))) h y (comH h kd f ho) (y)) := by
  have hm := hw.1
  refine tg_intro okX11_comesIn (Nat.le_of_ble_eq_true rfl) ?_
  refine tg_steps 3 rfl ?_
  refine tg_call1 rfl (m_isIn _ _ _) rfl rfl rfl  (fun v3 w3 q3 => ?_)
  obtain ⟨rfl, rfl⟩ := q3
  try rw [inB_up]
  refine tg_ifbne rfl rfl (fun h6 => ?_) (fun h6 => ?_)
  · refine tg_steps 1 rfl ?_
    refine tg_ifge rfl rfl (fun h15 => ?_) (fun h15 => ?_)
    · refine tg_steps 2 rfl ?_
      refine tg_icle rfl rfl (fun h26 => ?_) (fun h26 => ?_)
      · have hu := up_mid (g := 9) (Int32.not_lt.mpr h15) (Int32.not_lt.mpr h26)
        refine tg_steps 1 rfl ?_
        refine tg_call1 rfl (m_isTile _) rfl rfl rfl  (fun v35 w35 q35 => ?_)
        obtain ⟨rfl, rfl⟩ := q35
        refine tg_ifbne rfl rfl (fun h38 => ?_) (fun h38 => ?_)
        · refine tg_steps 3 rfl ?_
          refine tg_icne rfl rfl (fun h51 => ?_) (fun h51 => ?_)
          · have hl2 : hM h < 7 := by
              rcases Nat.lt_or_ge (hM h) 7 with q | q
              · exact q
              · exact absurd (by rw [show hM h = 7 by omega]; rfl) h51
            have hl3 : nI (hM h) < 7 := nI_lt (b := 7) hl2 (by decide)
            refine tg_steps 3 rfl ?_
            refine tg_ifeq rfl rfl (fun h64 => ?_) (fun h64 => absurd h64 (by decide))
            refine tg_steps 4 rfl ?_
            refine tg_callV rfl (m_addsOne hl2 _ _ _) rfl rfl rfl rfl rfl (fun v78 w78 q78 => ?_)
            obtain ⟨rfl, rfl⟩ := q78
            refine tg_steps 4 rfl ?_
            exact tg_iret (st := []) rfl rfl ⟨Nat.le_of_ble_eq_true rfl, Nat.le_of_ble_eq_true rfl⟩ (pM_ok (by first | (simp (decide := true) only [wCom, decide_true, decide_false, cond_true, cond_false, Bool.false_eq_true, if_true, if_false, ite_true, ite_false, h6, hu, h38, hl3]; done) | (simp (decide := true) only [wCom, decide_true, decide_false, cond_true, cond_false, Bool.false_eq_true, if_true, if_false, ite_true, ite_false, h6, hu, h38, hl3]; done) | (simp (decide := true) only [wCom, decide_true, decide_false, cond_true, cond_false, Bool.false_eq_true, if_true, if_false, ite_true, ite_false, h6, hu, h38, hl3]; rfl) | rfl) (by rw [show hM (comH h kd f ho) = hM h + 1 from rfl, nI_pred]) (yk_rf 39 _))
          · have hl3 : ¬ nI (hM h) < 7 := by rw [h51]; decide
            refine tg_steps 4 rfl ?_
            refine tg_ifeq rfl rfl (fun h64 => absurd h64 (by decide)) (fun _ => ?_)
            refine tg_steps 2 rfl ?_
            refine tg_callV rfl (m_no _ (by first | decide | exact rf_bor _ | exact rf_bd (by assumption))) rfl rfl rfl rfl rfl (fun v70 w70 q70 => ?_)
            obtain ⟨rfl, rfl⟩ := q70
            exact tg_iret (st := []) rfl rfl ⟨Nat.le_of_ble_eq_true rfl, Nat.le_of_ble_eq_true rfl⟩ (pM_refI (by first | (simp (decide := true) only [wCom, decide_true, decide_false, cond_true, cond_false, Bool.false_eq_true, if_true, if_false, ite_true, ite_false, h6, hu, h38, hl3]; done) | (simp (decide := true) only [wCom, decide_true, decide_false, cond_true, cond_false, Bool.false_eq_true, if_true, if_false, ite_true, ite_false, h6, hu, h38, hl3]; done) | (simp (decide := true) only [wCom, decide_true, decide_false, cond_true, cond_false, Bool.false_eq_true, if_true, if_false, ite_true, ite_false, h6, hu, h38, hl3]; rfl) | rfl) (by first | decide | exact rf_bor _ | exact rf_bd (by assumption)))
        · refine tg_steps 4 rfl ?_
          refine tg_ifeq rfl rfl (fun h64 => absurd h64 (by decide)) (fun _ => ?_)
          refine tg_steps 2 rfl ?_
          refine tg_callV rfl (m_no _ (by first | decide | exact rf_bor _ | exact rf_bd (by assumption))) rfl rfl rfl rfl rfl (fun v70 w70 q70 => ?_)
          obtain ⟨rfl, rfl⟩ := q70
          exact tg_iret (st := []) rfl rfl ⟨Nat.le_of_ble_eq_true rfl, Nat.le_of_ble_eq_true rfl⟩ (pM_refI (by first | (simp (decide := true) only [wCom, decide_true, decide_false, cond_true, cond_false, Bool.false_eq_true, if_true, if_false, ite_true, ite_false, h6, hu, h38]; done) | (simp (decide := true) only [wCom, decide_true, decide_false, cond_true, cond_false, Bool.false_eq_true, if_true, if_false, ite_true, ite_false, h6, hu, h38]; done) | (simp (decide := true) only [wCom, decide_true, decide_false, cond_true, cond_false, Bool.false_eq_true, if_true, if_false, ite_true, ite_false, h6, hu, h38]; rfl) | rfl) (by first | decide | exact rf_bor _ | exact rf_bd (by assumption)))
      · obtain ⟨hu, hb⟩ := up_hi (g := 9) (Int32.not_lt.mpr h15) (Int32.not_le.mp h26)
        refine tg_steps 4 rfl ?_
        refine tg_ifeq rfl rfl (fun h64 => absurd h64 (by decide)) (fun _ => ?_)
        refine tg_steps 2 rfl ?_
        refine tg_callV rfl (m_no _ (by first | decide | exact rf_bor _ | exact rf_bd (by assumption))) rfl rfl rfl rfl rfl (fun v70 w70 q70 => ?_)
        obtain ⟨rfl, rfl⟩ := q70
        exact tg_iret (st := []) rfl rfl ⟨Nat.le_of_ble_eq_true rfl, Nat.le_of_ble_eq_true rfl⟩ (pM_refI (by first | (simp (decide := true) only [wCom, decide_true, decide_false, cond_true, cond_false, Bool.false_eq_true, if_true, if_false, ite_true, ite_false, h6, hu, hb]; done) | (simp (decide := true) only [wCom, decide_true, decide_false, cond_true, cond_false, Bool.false_eq_true, if_true, if_false, ite_true, ite_false, h6, hu, hb]; done) | (simp (decide := true) only [wCom, decide_true, decide_false, cond_true, cond_false, Bool.false_eq_true, if_true, if_false, ite_true, ite_false, h6, hu, hb]; rfl) | rfl) (by first | decide | exact rf_bor _ | exact rf_bd (by assumption)))
    · obtain ⟨hu, hb⟩ := up_lo (g := 9) (Int32.not_le.mp h15)
      refine tg_steps 4 rfl ?_
      refine tg_ifeq rfl rfl (fun h64 => absurd h64 (by decide)) (fun _ => ?_)
      refine tg_steps 2 rfl ?_
      refine tg_callV rfl (m_no _ (by first | decide | exact rf_bor _ | exact rf_bd (by assumption))) rfl rfl rfl rfl rfl (fun v70 w70 q70 => ?_)
      obtain ⟨rfl, rfl⟩ := q70
      exact tg_iret (st := []) rfl rfl ⟨Nat.le_of_ble_eq_true rfl, Nat.le_of_ble_eq_true rfl⟩ (pM_refI (by first | (simp (decide := true) only [wCom, decide_true, decide_false, cond_true, cond_false, Bool.false_eq_true, if_true, if_false, ite_true, ite_false, h6, hu, hb]; done) | (simp (decide := true) only [wCom, decide_true, decide_false, cond_true, cond_false, Bool.false_eq_true, if_true, if_false, ite_true, ite_false, h6, hu, hb]; done) | (simp (decide := true) only [wCom, decide_true, decide_false, cond_true, cond_false, Bool.false_eq_true, if_true, if_false, ite_true, ite_false, h6, hu, hb]; rfl) | rfl) (by first | decide | exact rf_bor _ | exact rf_bd (by assumption)))
  · refine tg_steps 4 rfl ?_
    refine tg_ifeq rfl rfl (fun h64 => absurd h64 (by decide)) (fun _ => ?_)
    refine tg_steps 2 rfl ?_
    refine tg_callV rfl (m_no _ (by first | decide | exact rf_bor _ | exact rf_bd (by assumption))) rfl rfl rfl rfl rfl (fun v70 w70 q70 => ?_)
    obtain ⟨rfl, rfl⟩ := q70
    exact tg_iret (st := []) rfl rfl ⟨Nat.le_of_ble_eq_true rfl, Nat.le_of_ble_eq_true rfl⟩ (pM_refI (by first | (simp (decide := true) only [wCom, decide_true, decide_false, cond_true, cond_false, Bool.false_eq_true, if_true, if_false, ite_true, ite_false, h6]; done) | (simp (decide := true) only [wCom, decide_true, decide_false, cond_true, cond_false, Bool.false_eq_true, if_true, if_false, ite_true, ite_false, h6]; done) | (simp (decide := true) only [wCom, decide_true, decide_false, cond_true, cond_false, Bool.false_eq_true, if_true, if_false, ite_true, ite_false, h6]; rfl) | rfl) (by first | decide | exact rf_bor _ | exact rf_bd (by assumption)))
set_option maxRecDepth 100000 in
set_option maxHeartbeats 2000000 in
theorem r_stands {G : tg_G} {l : List tg_Cl} {h : tp_H} {y : tp_Y} (hw : wfH h) (one : Int32) (ti : Int32) : tg_C G 2 mX11_stands 0 0 [.ref 64, .int one, .int ti] (l, tm_cs h y) (pM l (wSta h one ti) (.int (wSta h one ti)) (.int (gO hT h one)) h y (putH h one ti) (y)) := by
  have hm := hw.1
  refine tg_intro okX11_stands (Nat.le_of_ble_eq_true rfl) ?_
  refine tg_steps 2 rfl ?_
  refine tg_callV rfl (m_isOne _) rfl rfl rfl rfl rfl (fun v2 w2 q2 => ?_)
  obtain ⟨rfl, rfl⟩ := q2
  refine tg_ifbeq rfl rfl (fun h5 => ?_) (fun h5 => ?_)
  · refine tg_steps 2 rfl ?_
    refine tg_callV rfl (m_no _ (by first | decide | exact rf_bor _ | exact rf_bd (by assumption))) rfl rfl rfl rfl rfl (fun v17 w17 q17 => ?_)
    obtain ⟨rfl, rfl⟩ := q17
    exact tg_iret (st := []) rfl rfl ⟨Nat.le_of_ble_eq_true rfl, Nat.le_of_ble_eq_true rfl⟩ (pM_refI (by first | (simp (decide := true) only [wSta, decide_true, decide_false, cond_true, cond_false, Bool.false_eq_true, if_true, if_false, ite_true, ite_false, h5]; done) | (simp (decide := true) only [wSta, decide_true, decide_false, cond_true, cond_false, Bool.false_eq_true, if_true, if_false, ite_true, ite_false, h5]; done) | (simp (decide := true) only [wSta, decide_true, decide_false, cond_true, cond_false, Bool.false_eq_true, if_true, if_false, ite_true, ite_false, h5]; rfl) | rfl) (by first | decide | exact rf_bor _ | exact rf_bd (by assumption)))
  · obtain ⟨j, hj, rfl, cj⟩ := has_j hm h5
    have cn : nN (nI j) = j := cj
    have ep := putH_j hm hj ti
    rw [ep]
    have eT : gO hT h (nI j) = hT h j := gO_nI hm hj
    rw [eT]
    refine tg_steps 1 rfl ?_
    refine tg_call1 rfl (m_isTile _) rfl rfl rfl  (fun v9 w9 q9 => ?_)
    obtain ⟨rfl, rfl⟩ := q9
    refine tg_ifbne rfl rfl (fun h12 => ?_) (fun h12 => ?_)
    · refine tg_steps 3 rfl ?_
      refine tg_ialdN rfl rfl (j) rfl (by omega) (by decide) ?_
      refine tg_steps 5 rfl ?_
      refine tg_iastN rfl rfl (j) rfl (by omega) (by decide) ?_
      refine tg_eqW (m_T _) ?_
      refine tg_steps 1 rfl ?_
      exact tg_iret (st := []) rfl rfl ⟨Nat.le_of_ble_eq_true rfl, Nat.le_of_ble_eq_true rfl⟩ (pM_ok (by first | (simp (decide := true) only [wSta, decide_true, decide_false, cond_true, cond_false, Bool.false_eq_true, if_true, if_false, ite_true, ite_false, h5, h12]; done) | (simp (decide := true) only [wSta, decide_true, decide_false, cond_true, cond_false, Bool.false_eq_true, if_true, if_false, ite_true, ite_false, h5, h12]; done) | (simp (decide := true) only [wSta, decide_true, decide_false, cond_true, cond_false, Bool.false_eq_true, if_true, if_false, ite_true, ite_false, h5, h12]; rfl) | rfl) rfl (yk_rf 39 _))
    · refine tg_steps 2 rfl ?_
      refine tg_callV rfl (m_no _ (by first | decide | exact rf_bor _ | exact rf_bd (by assumption))) rfl rfl rfl rfl rfl (fun v17 w17 q17 => ?_)
      obtain ⟨rfl, rfl⟩ := q17
      exact tg_iret (st := []) rfl rfl ⟨Nat.le_of_ble_eq_true rfl, Nat.le_of_ble_eq_true rfl⟩ (pM_refI (by first | (simp (decide := true) only [wSta, decide_true, decide_false, cond_true, cond_false, Bool.false_eq_true, if_true, if_false, ite_true, ite_false, h5, h12]; done) | (simp (decide := true) only [wSta, decide_true, decide_false, cond_true, cond_false, Bool.false_eq_true, if_true, if_false, ite_true, ite_false, h5, h12]; done) | (simp (decide := true) only [wSta, decide_true, decide_false, cond_true, cond_false, Bool.false_eq_true, if_true, if_false, ite_true, ite_false, h5, h12]; rfl) | rfl) (by first | decide | exact rf_bor _ | exact rf_bd (by assumption)))
set_option maxRecDepth 100000 in
set_option maxHeartbeats 2000000 in
theorem r_cracks {G : tg_G} {l : List tg_Cl} {h : tp_H} {y : tp_Y} (ti : Int32) : tg_C G 2 mX11_cracks 0 0 [.ref 64, .int ti] (l, tm_cs h y) (pM l (wTl ti) (.int (wTl ti)) (.int (tg_b (crB (crkH h ti) ti))) h y (crkH h ti) (y)) := by
  refine tg_intro okX11_cracks (Nat.le_of_ble_eq_true rfl) ?_
  refine tg_steps 1 rfl ?_
  refine tg_call1 rfl (m_isTile _) rfl rfl rfl  (fun v1 w1 q1 => ?_)
  obtain ⟨rfl, rfl⟩ := q1
  refine tg_ifbne rfl rfl (fun h4 => ?_) (fun h4 => ?_)
  · refine tg_steps 8 rfl ?_
    refine tg_eqW (w2 := (l, tm_cs (crkH h ti) y)) rfl ?_
    refine tg_steps 3 rfl ?_
    refine tg_call1 rfl (m_has _ _) rfl rfl rfl  (fun v30 w30 q30 => ?_)
    obtain ⟨rfl, rfl⟩ := q30
    rw [show hsB (hC (crkH h ti)) ti = crB (crkH h ti) ti from rfl]
    refine tg_ifbeq rfl rfl (fun h33 => ?_) (fun h33 => ?_)
    · refine tg_steps 1 rfl ?_
      exact tg_iret (st := []) rfl rfl ⟨Nat.le_of_ble_eq_true rfl, Nat.le_of_ble_eq_true rfl⟩ (pM_ok (by first | (simp (decide := true) only [wTl, decide_true, decide_false, cond_true, cond_false, Bool.false_eq_true, if_true, if_false, ite_true, ite_false, h4, h33]; done) | (simp (decide := true) only [wTl, decide_true, decide_false, cond_true, cond_false, Bool.false_eq_true, if_true, if_false, ite_true, ite_false, h4, h33]; done) | (simp (decide := true) only [wTl, decide_true, decide_false, cond_true, cond_false, Bool.false_eq_true, if_true, if_false, ite_true, ite_false, h4, h33]; rfl) | rfl) (by first | (simp (decide := true) only [tg_b, decide_true, decide_false, cond_true, cond_false, Bool.false_eq_true, if_true, if_false, ite_true, ite_false, h4, h33]; done) | (simp (decide := true) only [tg_b, decide_true, decide_false, cond_true, cond_false, Bool.false_eq_true, if_true, if_false, ite_true, ite_false, h4, h33]; done) | (simp (decide := true) only [tg_b, decide_true, decide_false, cond_true, cond_false, Bool.false_eq_true, if_true, if_false, ite_true, ite_false, h4, h33]; rfl) | rfl) (yk_rf 39 _))
    · refine tg_steps 2 rfl ?_
      exact tg_iret (st := []) rfl rfl ⟨Nat.le_of_ble_eq_true rfl, Nat.le_of_ble_eq_true rfl⟩ (pM_ok (by first | (simp (decide := true) only [wTl, decide_true, decide_false, cond_true, cond_false, Bool.false_eq_true, if_true, if_false, ite_true, ite_false, h4, h33]; done) | (simp (decide := true) only [wTl, decide_true, decide_false, cond_true, cond_false, Bool.false_eq_true, if_true, if_false, ite_true, ite_false, h4, h33]; done) | (simp (decide := true) only [wTl, decide_true, decide_false, cond_true, cond_false, Bool.false_eq_true, if_true, if_false, ite_true, ite_false, h4, h33]; rfl) | rfl) (by first | (simp (decide := true) only [tg_b, decide_true, decide_false, cond_true, cond_false, Bool.false_eq_true, if_true, if_false, ite_true, ite_false, h4, h33]; done) | (simp (decide := true) only [tg_b, decide_true, decide_false, cond_true, cond_false, Bool.false_eq_true, if_true, if_false, ite_true, ite_false, h4, h33]; done) | (simp (decide := true) only [tg_b, decide_true, decide_false, cond_true, cond_false, Bool.false_eq_true, if_true, if_false, ite_true, ite_false, h4, h33]; rfl) | rfl) (yk_rf 39 _))
  · refine tg_steps 2 rfl ?_
    refine tg_callV rfl (m_no _ (by first | decide | exact rf_bor _ | exact rf_bd (by assumption))) rfl rfl rfl rfl rfl (fun v9 w9 q9 => ?_)
    obtain ⟨rfl, rfl⟩ := q9
    exact tg_iret (st := []) rfl rfl ⟨Nat.le_of_ble_eq_true rfl, Nat.le_of_ble_eq_true rfl⟩ (pM_refI (by first | (simp (decide := true) only [wTl, decide_true, decide_false, cond_true, cond_false, Bool.false_eq_true, if_true, if_false, ite_true, ite_false, h4]; done) | (simp (decide := true) only [wTl, decide_true, decide_false, cond_true, cond_false, Bool.false_eq_true, if_true, if_false, ite_true, ite_false, h4]; done) | (simp (decide := true) only [wTl, decide_true, decide_false, cond_true, cond_false, Bool.false_eq_true, if_true, if_false, ite_true, ite_false, h4]; rfl) | rfl) (by first | decide | exact rf_bor _ | exact rf_bd (by assumption)))
set_option maxRecDepth 100000 in
set_option maxHeartbeats 2000000 in
theorem r_ship {G : tg_G} {l : List tg_Cl} {h : tp_H} {y : tp_Y} (ti : Int32) : tg_C G 2 mX11_ship 0 0 [.ref 64, .int ti] (l, tm_cs h y) (pM l (wTl ti) (.int (wTl ti)) (.int (hS h)) h y (sS h ti) (y)) := by
  refine tg_intro okX11_ship (Nat.le_of_ble_eq_true rfl) ?_
  refine tg_steps 1 rfl ?_
  refine tg_call1 rfl (m_isTile _) rfl rfl rfl  (fun v1 w1 q1 => ?_)
  obtain ⟨rfl, rfl⟩ := q1
  refine tg_ifbne rfl rfl (fun h4 => ?_) (fun h4 => ?_)
  · refine tg_steps 6 rfl ?_
    refine tg_eqW (w2 := (l, tm_cs (sS h ti) y)) rfl ?_
    refine tg_steps 1 rfl ?_
    exact tg_iret (st := []) rfl rfl ⟨Nat.le_of_ble_eq_true rfl, Nat.le_of_ble_eq_true rfl⟩ (pM_ok (by first | (simp (decide := true) only [wTl, decide_true, decide_false, cond_true, cond_false, Bool.false_eq_true, if_true, if_false, ite_true, ite_false, h4]; done) | (simp (decide := true) only [wTl, decide_true, decide_false, cond_true, cond_false, Bool.false_eq_true, if_true, if_false, ite_true, ite_false, h4]; done) | (simp (decide := true) only [wTl, decide_true, decide_false, cond_true, cond_false, Bool.false_eq_true, if_true, if_false, ite_true, ite_false, h4]; rfl) | rfl) rfl (yk_rf 39 _))
  · refine tg_steps 2 rfl ?_
    refine tg_callV rfl (m_no _ (by first | decide | exact rf_bor _ | exact rf_bd (by assumption))) rfl rfl rfl rfl rfl (fun v9 w9 q9 => ?_)
    obtain ⟨rfl, rfl⟩ := q9
    exact tg_iret (st := []) rfl rfl ⟨Nat.le_of_ble_eq_true rfl, Nat.le_of_ble_eq_true rfl⟩ (pM_refI (by first | (simp (decide := true) only [wTl, decide_true, decide_false, cond_true, cond_false, Bool.false_eq_true, if_true, if_false, ite_true, ite_false, h4]; done) | (simp (decide := true) only [wTl, decide_true, decide_false, cond_true, cond_false, Bool.false_eq_true, if_true, if_false, ite_true, ite_false, h4]; done) | (simp (decide := true) only [wTl, decide_true, decide_false, cond_true, cond_false, Bool.false_eq_true, if_true, if_false, ite_true, ite_false, h4]; rfl) | rfl) (by first | decide | exact rf_bor _ | exact rf_bd (by assumption)))
set_option maxRecDepth 100000 in
set_option maxHeartbeats 2000000 in
theorem r_pins {G : tg_G} {l : List tg_Cl} {h : tp_H} {y : tp_Y} (hw : wfH h) (one : Int32) (k : Int32) : tg_C G 2 mX11_pins 0 0 [.ref 64, .int one, .int k] (l, tm_cs h y) (pM l (wPis h one k) (.int (wPis h one k)) (.int (gO hT h one)) h y (senH h one k) (y)) := by
  have hm := hw.1
  refine tg_intro okX11_pins (Nat.le_of_ble_eq_true rfl) ?_
  refine tg_steps 2 rfl ?_
  refine tg_callV rfl (m_isOne _) rfl rfl rfl rfl rfl (fun v2 w2 q2 => ?_)
  obtain ⟨rfl, rfl⟩ := q2
  refine tg_ifbne rfl rfl (fun h5 => ?_) (fun h5 => ?_)
  · obtain ⟨j, hj, rfl, cj⟩ := has_j hm h5
    have cn : nN (nI j) = j := cj
    have eT : gO hT h (nI j) = hT h j := gO_nI hm hj
    rw [eT]
    refine tg_steps 3 rfl ?_
    refine tg_call1 rfl (m_bound _ _ _) rfl rfl rfl  (fun v16 w16 q16 => ?_)
    obtain ⟨rfl, rfl⟩ := q16
    refine tg_steps 2 rfl ?_
    refine tg_ifeq rfl rfl (fun h21 => ?_) (fun h21 => ?_)
    · have hu := bd_f h21
      refine tg_steps 3 rfl ?_
      refine tg_ialdN rfl rfl (j) rfl (by omega) (by decide) ?_
      refine tg_steps 4 rfl ?_
      refine tg_callV rfl (m_pinsOne hm j hj _) rfl rfl rfl rfl rfl (fun v41 w41 q41 => ?_)
      obtain ⟨rfl, rfl⟩ := q41
      refine tg_steps 1 rfl ?_
      exact tg_iret (st := []) rfl rfl ⟨Nat.le_of_ble_eq_true rfl, Nat.le_of_ble_eq_true rfl⟩ (pM_ok (by first | (simp (decide := true) only [wPis, decide_true, decide_false, cond_true, cond_false, Bool.false_eq_true, if_true, if_false, ite_true, ite_false, h5, hu]; done) | (simp (decide := true) only [wPis, decide_true, decide_false, cond_true, cond_false, Bool.false_eq_true, if_true, if_false, ite_true, ite_false, h5, hu]; done) | (simp (decide := true) only [wPis, decide_true, decide_false, cond_true, cond_false, Bool.false_eq_true, if_true, if_false, ite_true, ite_false, h5, hu]; rfl) | rfl) rfl (yk_rf 39 _))
    · obtain ⟨hu, hb⟩ := bd_t h21
      refine tg_steps 2 rfl ?_
      refine tg_callV rfl (m_no _ (by first | decide | exact rf_bor _ | exact rf_bd (by assumption))) rfl rfl rfl rfl rfl (fun v26 w26 q26 => ?_)
      obtain ⟨rfl, rfl⟩ := q26
      exact tg_iret (st := []) rfl rfl ⟨Nat.le_of_ble_eq_true rfl, Nat.le_of_ble_eq_true rfl⟩ (pM_refI (by first | (simp (decide := true) only [wPis, decide_true, decide_false, cond_true, cond_false, Bool.false_eq_true, if_true, if_false, ite_true, ite_false, h5, hu, hb]; done) | (simp (decide := true) only [wPis, decide_true, decide_false, cond_true, cond_false, Bool.false_eq_true, if_true, if_false, ite_true, ite_false, h5, hu, hb]; done) | (simp (decide := true) only [wPis, decide_true, decide_false, cond_true, cond_false, Bool.false_eq_true, if_true, if_false, ite_true, ite_false, h5, hu, hb]; rfl) | rfl) (by first | decide | exact rf_bor _ | exact rf_bd (by assumption)))
  · refine tg_steps 4 rfl ?_
    refine tg_ifeq rfl rfl (fun h21 => absurd h21 (by decide)) (fun _ => ?_)
    refine tg_steps 2 rfl ?_
    refine tg_callV rfl (m_no _ (by first | decide | exact rf_bor _ | exact rf_bd (by assumption))) rfl rfl rfl rfl rfl (fun v26 w26 q26 => ?_)
    obtain ⟨rfl, rfl⟩ := q26
    exact tg_iret (st := []) rfl rfl ⟨Nat.le_of_ble_eq_true rfl, Nat.le_of_ble_eq_true rfl⟩ (pM_refI (by first | (simp (decide := true) only [wPis, decide_true, decide_false, cond_true, cond_false, Bool.false_eq_true, if_true, if_false, ite_true, ite_false, h5]; done) | (simp (decide := true) only [wPis, decide_true, decide_false, cond_true, cond_false, Bool.false_eq_true, if_true, if_false, ite_true, ite_false, h5]; done) | (simp (decide := true) only [wPis, decide_true, decide_false, cond_true, cond_false, Bool.false_eq_true, if_true, if_false, ite_true, ite_false, h5]; rfl) | rfl) (by first | decide | exact rf_bor _ | exact rf_bd (by assumption)))
theorem becH_j {h : tp_H} {j : Nat} (hm : hM h ≤ 7) (hj : j < hM h) (a b : Int32) : becH h (nI j) a b = sF (sK h (tg_u (hK h) j a)) (tg_u (hF h) j b) := by
  unfold becH
  rw [uP_j hm hj, uP_j hm hj]
set_option maxRecDepth 100000 in
set_option maxHeartbeats 2000000 in
theorem r_turn {G : tg_G} {l : List tg_Cl} {h : tp_H} {y : tp_Y} (hw : wfH h) (one : Int32) (kd : Int32) (f : Int32) : tg_C G 2 mX11_turn 0 0 [.ref 64, .int one, .int kd, .int f] (l, tm_cs h y) (pM l (wTur h one kd f) (.int (wTur h one kd f)) (.int (aTur h one)) h y (becH h one kd f) (y)) := by
  have hm := hw.1
  refine tg_intro okX11_turn (Nat.le_of_ble_eq_true rfl) ?_
  refine tg_steps 2 rfl ?_
  refine tg_callV rfl (m_isOne _) rfl rfl rfl rfl rfl (fun v2 w2 q2 => ?_)
  obtain ⟨rfl, rfl⟩ := q2
  refine tg_ifbne rfl rfl (fun h5 => ?_) (fun h5 => ?_)
  · obtain ⟨j, hj, rfl, cj⟩ := has_j hm h5
    have cn : nN (nI j) = j := cj
    have eK : gO hK h (nI j) = hK h j := gO_nI hm hj
    have eF : gO hF h (nI j) = hF h j := gO_nI hm hj
    have ep := becH_j hm hj kd f
    rw [ep]
    refine tg_steps 3 rfl ?_
    refine tg_call1 rfl (m_isIn _ _ _) rfl rfl rfl  (fun v15 w15 q15 => ?_)
    obtain ⟨rfl, rfl⟩ := q15
    try rw [inB_up]
    refine tg_ifbne rfl rfl (fun h18 => ?_) (fun h18 => ?_)
    · refine tg_steps 3 rfl ?_
      refine tg_call1 rfl (m_bound _ _ _) rfl rfl rfl  (fun v30 w30 q30 => ?_)
      obtain ⟨rfl, rfl⟩ := q30
      refine tg_steps 2 rfl ?_
      refine tg_ifeq rfl rfl (fun h37 => ?_) (fun h37 => ?_)
      · have hu := bd_f h37
        refine tg_steps 4 rfl ?_
        refine tg_ialdN rfl rfl (j) rfl (by omega) (by decide) ?_
        refine tg_steps 4 rfl ?_
        refine tg_ialdN rfl rfl (j) rfl (by omega) (by decide) ?_
        refine tg_steps 6 rfl ?_
        refine tg_iastN rfl rfl (j) rfl (by omega) (by decide) ?_
        refine tg_eqW (w2 := (l, tm_cs (sK h (tg_u (hK h) j kd)) y)) (m_K _) ?_
        refine tg_steps 4 rfl ?_
        refine tg_iastN rfl rfl (j) rfl (by omega) (by decide) ?_
        refine tg_eqW (w2 := (l, tm_cs (sF (sK h (tg_u (hK h) j kd)) (tg_u (hF h) j f)) y)) (m_F _) ?_
        refine tg_steps 1 rfl ?_
        exact tg_iret (st := []) rfl rfl ⟨Nat.le_of_ble_eq_true rfl, Nat.le_of_ble_eq_true rfl⟩ (pM_ok (by first | (simp (decide := true) only [wTur, decide_true, decide_false, cond_true, cond_false, Bool.false_eq_true, if_true, if_false, ite_true, ite_false, h5, eK, eF, h18, hu]; done) | (simp (decide := true) only [wTur, decide_true, decide_false, cond_true, cond_false, Bool.false_eq_true, if_true, if_false, ite_true, ite_false, h5, eK, eF, h18, hu]; done) | (simp (decide := true) only [wTur, decide_true, decide_false, cond_true, cond_false, Bool.false_eq_true, if_true, if_false, ite_true, ite_false, h5, eK, eF, h18, hu]; rfl) | rfl) (by first | (simp (decide := true) only [aTur, decide_true, decide_false, cond_true, cond_false, Bool.false_eq_true, if_true, if_false, ite_true, ite_false, h5, eK, eF, h18, hu]; done) | (simp (decide := true) only [aTur, decide_true, decide_false, cond_true, cond_false, Bool.false_eq_true, if_true, if_false, ite_true, ite_false, h5, eK, eF, h18, hu]; done) | (simp (decide := true) only [aTur, decide_true, decide_false, cond_true, cond_false, Bool.false_eq_true, if_true, if_false, ite_true, ite_false, h5, eK, eF, h18, hu]; rfl) | rfl) (yk_rf 39 _))
      · obtain ⟨hu, hb⟩ := bd_t h37
        refine tg_steps 2 rfl ?_
        refine tg_callV rfl (m_no _ (by first | decide | exact rf_bor _ | exact rf_bd (by assumption))) rfl rfl rfl rfl rfl (fun v43 w43 q43 => ?_)
        obtain ⟨rfl, rfl⟩ := q43
        exact tg_iret (st := []) rfl rfl ⟨Nat.le_of_ble_eq_true rfl, Nat.le_of_ble_eq_true rfl⟩ (pM_refI (by first | (simp (decide := true) only [wTur, decide_true, decide_false, cond_true, cond_false, Bool.false_eq_true, if_true, if_false, ite_true, ite_false, h5, eK, eF, h18, hu, hb]; done) | (simp (decide := true) only [wTur, decide_true, decide_false, cond_true, cond_false, Bool.false_eq_true, if_true, if_false, ite_true, ite_false, h5, eK, eF, h18, hu, hb]; done) | (simp (decide := true) only [wTur, decide_true, decide_false, cond_true, cond_false, Bool.false_eq_true, if_true, if_false, ite_true, ite_false, h5, eK, eF, h18, hu, hb]; rfl) | rfl) (by first | decide | exact rf_bor _ | exact rf_bd (by assumption)))
    · refine tg_steps 4 rfl ?_
      refine tg_ifeq rfl rfl (fun h37 => absurd h37 (by decide)) (fun _ => ?_)
      refine tg_steps 2 rfl ?_
      refine tg_callV rfl (m_no _ (by first | decide | exact rf_bor _ | exact rf_bd (by assumption))) rfl rfl rfl rfl rfl (fun v43 w43 q43 => ?_)
      obtain ⟨rfl, rfl⟩ := q43
      exact tg_iret (st := []) rfl rfl ⟨Nat.le_of_ble_eq_true rfl, Nat.le_of_ble_eq_true rfl⟩ (pM_refI (by first | (simp (decide := true) only [wTur, decide_true, decide_false, cond_true, cond_false, Bool.false_eq_true, if_true, if_false, ite_true, ite_false, h5, eK, eF, h18]; done) | (simp (decide := true) only [wTur, decide_true, decide_false, cond_true, cond_false, Bool.false_eq_true, if_true, if_false, ite_true, ite_false, h5, eK, eF, h18]; done) | (simp (decide := true) only [wTur, decide_true, decide_false, cond_true, cond_false, Bool.false_eq_true, if_true, if_false, ite_true, ite_false, h5, eK, eF, h18]; rfl) | rfl) (by first | decide | exact rf_bor _ | exact rf_bd (by assumption)))
  · refine tg_steps 4 rfl ?_
    refine tg_ifeq rfl rfl (fun h37 => absurd h37 (by decide)) (fun _ => ?_)
    refine tg_steps 2 rfl ?_
    refine tg_callV rfl (m_no _ (by first | decide | exact rf_bor _ | exact rf_bd (by assumption))) rfl rfl rfl rfl rfl (fun v43 w43 q43 => ?_)
    obtain ⟨rfl, rfl⟩ := q43
    exact tg_iret (st := []) rfl rfl ⟨Nat.le_of_ble_eq_true rfl, Nat.le_of_ble_eq_true rfl⟩ (pM_refI (by first | (simp (decide := true) only [wTur, decide_true, decide_false, cond_true, cond_false, Bool.false_eq_true, if_true, if_false, ite_true, ite_false, h5]; done) | (simp (decide := true) only [wTur, decide_true, decide_false, cond_true, cond_false, Bool.false_eq_true, if_true, if_false, ite_true, ite_false, h5]; done) | (simp (decide := true) only [wTur, decide_true, decide_false, cond_true, cond_false, Bool.false_eq_true, if_true, if_false, ite_true, ite_false, h5]; rfl) | rfl) (by first | decide | exact rf_bor _ | exact rf_bd (by assumption)))
set_option maxRecDepth 100000 in
set_option maxHeartbeats 2000000 in
theorem r_nights {G : tg_G} {l : List tg_Cl} {h : tp_H} {y : tp_Y} (hw : wfH h) (k : Int32) : tg_C G 7 mX11_nights 0 0 [.ref 64, .int k] (l, tm_cs h y) (pM l (wNis h k) (.int (wNis h k)) (.int (abM (pNs (nN k) h))) h y (pNs (nN k) h) (y)) := by
  have hm := hw.1
  refine tg_intro okX11_nights (Nat.le_of_ble_eq_true rfl) ?_
  refine tg_steps 3 rfl ?_
  refine tg_call1 rfl (m_bound _ _ _) rfl rfl rfl  (fun v4 w4 q4 => ?_)
  obtain ⟨rfl, rfl⟩ := q4
  refine tg_steps 2 rfl ?_
  refine tg_ifne rfl rfl (fun h9 => ?_) (fun h9 => ?_)
  · refine tg_steps 1 rfl ?_
    refine tg_ifeq rfl rfl (fun h28 => absurd h28 (h9)) (fun _ => ?_)
    refine tg_steps 2 rfl ?_
    refine tg_callV rfl (m_no _ (by first | decide | exact rf_bor _ | exact rf_bd (by assumption))) rfl rfl rfl rfl rfl (fun v33 w33 q33 => ?_)
    obtain ⟨rfl, rfl⟩ := q33
    exact tg_iret (st := []) rfl rfl ⟨Nat.le_of_ble_eq_true rfl, Nat.le_of_ble_eq_true rfl⟩ (pM_refI (by first | exact wNis_b (by assumption) | exact (by first | (simp (decide := true) only [wNis, decide_true, decide_false, cond_true, cond_false, Bool.false_eq_true, if_true, if_false, ite_true, ite_false]; done) | (simp (decide := true) only [wNis, decide_true, decide_false, cond_true, cond_false, Bool.false_eq_true, if_true, if_false, ite_true, ite_false]; done) | (simp (decide := true) only [wNis, decide_true, decide_false, cond_true, cond_false, Bool.false_eq_true, if_true, if_false, ite_true, ite_false]; rfl) | rfl)) (by first | decide | exact rf_bor _ | exact rf_bd (by assumption)))
  · obtain ⟨u1, u2⟩ := bd_0 h9
    refine tg_steps 5 rfl ?_
    refine tg_icle rfl rfl (fun h21 => ?_) (fun h21 => ?_)
    · refine tg_steps 1 rfl ?_
      refine tg_ifeq rfl rfl (fun h28 => ?_) (fun h28 => absurd (h9) h28)
      obtain ⟨j, hj, rfl⟩ := nI_of2 (x := k) (M := 60) (n := 60) rfl (fun q => u1 (Int32.lt_trans q (by decide))) (Int32.not_lt.mp u2)
      have cj : nN (nI j) = j := nI_clamp (by omega)
      rw [cj]
      refine tg_steps 2 rfl ?_
      refine tg_callV rfl (m_goes hw j (by omega)) rfl rfl rfl rfl rfl (fun v39 w39 q39 => ?_)
      obtain ⟨rfl, mo, rfl⟩ := q39
      refine tg_steps 1 rfl ?_
      refine tg_callV rfl (m_aboardNow (pm7 hm j)) rfl rfl rfl rfl rfl (fun v43 w43 q43 => ?_)
      obtain ⟨rfl, rfl⟩ := q43
      refine tg_call1 rfl (m_bits _) rfl rfl rfl  (fun v46 w46 q46 => ?_)
      obtain ⟨rfl, rfl⟩ := q46
      rw [bt_m (pm7 hm j), ab_fold]
      exact tg_iret (st := []) rfl rfl ⟨Nat.le_of_ble_eq_true rfl, Nat.le_of_ble_eq_true rfl⟩ (pM_ok (by first | exact wNis_b (by assumption) | exact (by first | (simp (decide := true) only [wNis, decide_true, decide_false, cond_true, cond_false, Bool.false_eq_true, if_true, if_false, ite_true, ite_false, u1, u2, eq_true h21]; done) | (simp (decide := true) only [wNis, decide_true, decide_false, cond_true, cond_false, Bool.false_eq_true, if_true, if_false, ite_true, ite_false, u1, u2, h21]; done) | (simp (decide := true) only [wNis, decide_true, decide_false, cond_true, cond_false, Bool.false_eq_true, if_true, if_false, ite_true, ite_false, u1, u2, eq_true h21]; rfl) | rfl)) rfl (yk_mo 39 y mo))
    · refine tg_steps 3 rfl ?_
      refine tg_ifeq rfl rfl (fun h28 => absurd h28 (by decide)) (fun _ => ?_)
      refine tg_steps 2 rfl ?_
      refine tg_callV rfl (m_no _ (by first | decide | exact rf_bor _ | exact rf_bd (by assumption))) rfl rfl rfl rfl rfl (fun v33 w33 q33 => ?_)
      obtain ⟨rfl, rfl⟩ := q33
      exact tg_iret (st := []) rfl rfl ⟨Nat.le_of_ble_eq_true rfl, Nat.le_of_ble_eq_true rfl⟩ (pM_refI (by first | exact wNis_b (by assumption) | exact (by first | (simp (decide := true) only [wNis, decide_true, decide_false, cond_true, cond_false, Bool.false_eq_true, if_true, if_false, ite_true, ite_false, u1, u2, h21, Int32.not_le.mpr (Int32.not_le.mp h21)]; done) | (simp (decide := true) only [wNis, decide_true, decide_false, cond_true, cond_false, Bool.false_eq_true, if_true, if_false, ite_true, ite_false, u1, u2, h21, Int32.not_le.mpr (Int32.not_le.mp h21)]; done) | (simp (decide := true) only [wNis, decide_true, decide_false, cond_true, cond_false, Bool.false_eq_true, if_true, if_false, ite_true, ite_false, u1, u2, h21, Int32.not_le.mpr (Int32.not_le.mp h21)]; rfl) | rfl)) (by first | decide | exact rf_bor _ | exact rf_bd (by assumption)))
set_option maxRecDepth 100000 in
set_option maxHeartbeats 2000000 in
theorem r_oneThen {G : tg_G} {l : List tg_Cl} {h : tp_H} {y : tp_Y} (hw : wfH h) (one : Int32) (k : Int32) (what : Int32) : tg_C G 7 mX11_oneThen 0 0 [.ref 64, .int one, .int k, .int what] (l, tm_cs h y) (pM l (wOne h one k what) (.int (wOne h one k what)) (.int (aOne h one k what)) h y (h) (y)) := by
  have hm := hw.1
  refine tg_intro okX11_oneThen (Nat.le_of_ble_eq_true rfl) ?_
  refine tg_steps 2 rfl ?_
  refine tg_callV rfl (m_isOne _) rfl rfl rfl rfl rfl (fun v2 w2 q2 => ?_)
  obtain ⟨rfl, rfl⟩ := q2
  refine tg_ifbne rfl rfl (fun h5 => ?_) (fun h5 => ?_)
  · obtain ⟨a, ha, rfl, ca⟩ := has_j hm h5
    refine tg_steps 3 rfl ?_
    refine tg_call1 rfl (m_bound _ _ _) rfl rfl rfl  (fun v16 w16 q16 => ?_)
    obtain ⟨rfl, rfl⟩ := q16
    refine tg_steps 2 rfl ?_
    refine tg_ifne rfl rfl (fun h23 => ?_) (fun h23 => ?_)
    · obtain ⟨hu, hb⟩ := bd_t h23
      refine tg_steps 1 rfl ?_
      refine tg_ifeq rfl rfl (fun h41 => absurd h41 (h23)) (fun _ => ?_)
      refine tg_steps 2 rfl ?_
      refine tg_callV rfl (m_no _ (by first | decide | exact rf_bor _ | exact rf_bd (by assumption))) rfl rfl rfl rfl rfl (fun v47 w47 q47 => ?_)
      obtain ⟨rfl, rfl⟩ := q47
      exact tg_iret (st := []) rfl rfl ⟨Nat.le_of_ble_eq_true rfl, Nat.le_of_ble_eq_true rfl⟩ (pM_refI (by first | (simp (decide := true) only [wOne, decide_true, decide_false, cond_true, cond_false, Bool.false_eq_true, if_true, if_false, ite_true, ite_false, h5, hu, hb]; done) | (simp (decide := true) only [wOne, decide_true, decide_false, cond_true, cond_false, Bool.false_eq_true, if_true, if_false, ite_true, ite_false, h5, hu, hb]; done) | (simp (decide := true) only [wOne, decide_true, decide_false, cond_true, cond_false, Bool.false_eq_true, if_true, if_false, ite_true, ite_false, h5, hu, hb]; rfl) | rfl) (by first | decide | exact rf_bor _ | exact rf_bd (by assumption)))
    · have hu := bd_f h23
      refine tg_steps 3 rfl ?_
      refine tg_call1 rfl (m_isIn _ _ _) rfl rfl rfl  (fun v29 w29 q29 => ?_)
      obtain ⟨rfl, rfl⟩ := q29
      try rw [inB_up]
      refine tg_ifbne rfl rfl (fun h32 => ?_) (fun h32 => ?_)
      · refine tg_steps 1 rfl ?_
        refine tg_ifeq rfl rfl (fun h41 => ?_) (fun h41 => absurd (h23) h41)
        obtain ⟨j, hj, rfl⟩ := up_j (k := k) (m := 60) rfl hu
        have cj : nN (nI j) = j := nI_clamp (by omega)
        have gTa : gO hT (pNs j h) (nI a) = hT (pNs j h) a := gO_nI (by rw [pNs_M]; exact hm) (by rw [pNs_M]; exact ha)
        have gPa : gO hP (pNs j h) (nI a) = hP (pNs j h) a := gO_nI (by rw [pNs_M]; exact hm) (by rw [pNs_M]; exact ha)
        refine tg_steps 1 rfl ?_
        refine tg_callV rfl (m_thinks) rfl rfl rfl rfl rfl (fun v52 w52 q52 => ?_)
        obtain ⟨rfl, rfl⟩ := q52
        refine tg_steps 2 rfl ?_
        refine tg_callV rfl (m_goes (y := thY h y) hw j (by omega)) rfl rfl rfl rfl rfl (fun v57 w57 q57 => ?_)
        obtain ⟨rfl, mo, rfl⟩ := q57
        refine tg_steps 1 rfl ?_
        refine tg_ifne rfl rfl (fun h61 => ?_) (fun h61 => ?_)
        · refine tg_steps 3 rfl ?_
          refine tg_ialdN rfl rfl (a) rfl (by omega) (by decide) ?_
          refine tg_steps 2 rfl ?_
          refine tg_callV rfl (m_forgets (g := h) (hld_thm h y mo)) rfl rfl rfl rfl rfl (fun v82 w82 q82 => ?_)
          obtain ⟨rfl, rfl⟩ := q82
          refine tg_steps 1 rfl ?_
          exact tg_iret (st := []) rfl rfl ⟨Nat.le_of_ble_eq_true rfl, Nat.le_of_ble_eq_true rfl⟩ (pM_ok (by first | (simp (decide := true) only [wOne, decide_true, decide_false, cond_true, cond_false, Bool.false_eq_true, if_true, if_false, ite_true, ite_false, h5, hu, h32, h61]; done) | (simp (decide := true) only [wOne, decide_true, decide_false, cond_true, cond_false, Bool.false_eq_true, if_true, if_false, ite_true, ite_false, h5, hu, h32, h61]; done) | (simp (decide := true) only [wOne, decide_true, decide_false, cond_true, cond_false, Bool.false_eq_true, if_true, if_false, ite_true, ite_false, h5, hu, h32, h61]; rfl) | rfl) (by first | (simp (decide := true) only [aOne, cj, gTa, gPa, decide_true, decide_false, cond_true, cond_false, Bool.false_eq_true, if_true, if_false, ite_true, ite_false, h5, hu, h32, h61]; done) | (simp (decide := true) only [aOne, cj, gTa, gPa, decide_true, decide_false, cond_true, cond_false, Bool.false_eq_true, if_true, if_false, ite_true, ite_false, h5, hu, h32, h61]; done) | (simp (decide := true) only [aOne, cj, gTa, gPa, decide_true, decide_false, cond_true, cond_false, Bool.false_eq_true, if_true, if_false, ite_true, ite_false, h5, hu, h32, h61]; rfl) | rfl) (yk_le (by decide) (t_fg h y mo)))
        · refine tg_steps 3 rfl ?_
          refine tg_ialdN rfl rfl (a) rfl (by omega) (by decide) ?_
          refine tg_steps 3 rfl ?_
          refine tg_callV rfl (m_forgets (g := h) (hld_thm h y mo)) rfl rfl rfl rfl rfl (fun v82 w82 q82 => ?_)
          obtain ⟨rfl, rfl⟩ := q82
          refine tg_steps 1 rfl ?_
          exact tg_iret (st := []) rfl rfl ⟨Nat.le_of_ble_eq_true rfl, Nat.le_of_ble_eq_true rfl⟩ (pM_ok (by first | (simp (decide := true) only [wOne, decide_true, decide_false, cond_true, cond_false, Bool.false_eq_true, if_true, if_false, ite_true, ite_false, h5, hu, h32, eq_true h61]; done) | (simp (decide := true) only [wOne, decide_true, decide_false, cond_true, cond_false, Bool.false_eq_true, if_true, if_false, ite_true, ite_false, h5, hu, h32, h61]; done) | (simp (decide := true) only [wOne, decide_true, decide_false, cond_true, cond_false, Bool.false_eq_true, if_true, if_false, ite_true, ite_false, h5, hu, h32, eq_true h61]; rfl) | rfl) (by first | (simp (decide := true) only [aOne, cj, gTa, gPa, decide_true, decide_false, cond_true, cond_false, Bool.false_eq_true, if_true, if_false, ite_true, ite_false, h5, hu, h32, eq_true h61]; done) | (simp (decide := true) only [aOne, cj, gTa, gPa, decide_true, decide_false, cond_true, cond_false, Bool.false_eq_true, if_true, if_false, ite_true, ite_false, h5, hu, h32, h61]; done) | (simp (decide := true) only [aOne, cj, gTa, gPa, decide_true, decide_false, cond_true, cond_false, Bool.false_eq_true, if_true, if_false, ite_true, ite_false, h5, hu, h32, eq_true h61]; rfl) | rfl) (yk_le (by decide) (t_fg h y mo)))
      · refine tg_steps 3 rfl ?_
        refine tg_ifeq rfl rfl (fun h41 => absurd h41 (by decide)) (fun _ => ?_)
        refine tg_steps 2 rfl ?_
        refine tg_callV rfl (m_no _ (by first | decide | exact rf_bor _ | exact rf_bd (by assumption))) rfl rfl rfl rfl rfl (fun v47 w47 q47 => ?_)
        obtain ⟨rfl, rfl⟩ := q47
        exact tg_iret (st := []) rfl rfl ⟨Nat.le_of_ble_eq_true rfl, Nat.le_of_ble_eq_true rfl⟩ (pM_refI (by first | (simp (decide := true) only [wOne, decide_true, decide_false, cond_true, cond_false, Bool.false_eq_true, if_true, if_false, ite_true, ite_false, h5, hu, h32]; done) | (simp (decide := true) only [wOne, decide_true, decide_false, cond_true, cond_false, Bool.false_eq_true, if_true, if_false, ite_true, ite_false, h5, hu, h32]; done) | (simp (decide := true) only [wOne, decide_true, decide_false, cond_true, cond_false, Bool.false_eq_true, if_true, if_false, ite_true, ite_false, h5, hu, h32]; rfl) | rfl) (by first | decide | exact rf_bor _ | exact rf_bd (by assumption)))
  · refine tg_steps 4 rfl ?_
    refine tg_ifne rfl rfl (fun h23 => ?_) (fun h23 => absurd h23 (by decide))
    refine tg_steps 1 rfl ?_
    refine tg_ifeq rfl rfl (fun h41 => absurd h41 (by decide)) (fun _ => ?_)
    refine tg_steps 2 rfl ?_
    refine tg_callV rfl (m_no _ (by first | decide | exact rf_bor _ | exact rf_bd (by assumption))) rfl rfl rfl rfl rfl (fun v47 w47 q47 => ?_)
    obtain ⟨rfl, rfl⟩ := q47
    exact tg_iret (st := []) rfl rfl ⟨Nat.le_of_ble_eq_true rfl, Nat.le_of_ble_eq_true rfl⟩ (pM_refI (by first | (simp (decide := true) only [wOne, decide_true, decide_false, cond_true, cond_false, Bool.false_eq_true, if_true, if_false, ite_true, ite_false, h5]; done) | (simp (decide := true) only [wOne, decide_true, decide_false, cond_true, cond_false, Bool.false_eq_true, if_true, if_false, ite_true, ite_false, h5]; done) | (simp (decide := true) only [wOne, decide_true, decide_false, cond_true, cond_false, Bool.false_eq_true, if_true, if_false, ite_true, ite_false, h5]; rfl) | rfl) (by first | decide | exact rf_bor _ | exact rf_bd (by assumption)))
set_option maxRecDepth 100000 in
set_option maxHeartbeats 2000000 in
theorem r_aboard {G : tg_G} {l : List tg_Cl} {h : tp_H} {y : tp_Y} (hw : wfH h) (k : Int32) : tg_C G 8 mX11_aboard 0 0 [.ref 64, .int k] (l, tm_cs h y) (pM l (wUp k 60) (.int (wUp k 60)) (.int (aAbo h k)) h y (h) (y)) := by
  have hm := hw.1
  refine tg_intro okX11_aboard (Nat.le_of_ble_eq_true rfl) ?_
  refine tg_steps 3 rfl ?_
  refine tg_call1 rfl (m_bound _ _ _) rfl rfl rfl  (fun v4 w4 q4 => ?_)
  obtain ⟨rfl, rfl⟩ := q4
  refine tg_steps 2 rfl ?_
  refine tg_ifeq rfl rfl (fun h9 => ?_) (fun h9 => ?_)
  · have hu := bd_f h9
    obtain ⟨j, hj, rfl⟩ := up_j (k := k) (m := 60) rfl hu
    have cj : nN (nI j) = j := nI_clamp (by omega)
    refine tg_steps 2 rfl ?_
    refine tg_callV rfl (m_aboardIn hw j (by omega)) rfl rfl rfl rfl rfl (fun v22 w22 q22 => ?_)
    obtain ⟨rfl, y2, rfl, e2⟩ := q22
    exact tg_iret (st := []) rfl rfl ⟨Nat.le_of_ble_eq_true rfl, Nat.le_of_ble_eq_true rfl⟩ (by first | exact (pM_refI (by first | (simp (decide := true) only [wUp, decide_true, decide_false, cond_true, cond_false, Bool.false_eq_true, if_true, if_false, ite_true, ite_false, hu]; done) | (simp (decide := true) only [wUp, decide_true, decide_false, cond_true, cond_false, Bool.false_eq_true, if_true, if_false, ite_true, ite_false, hu]; done) | (simp (decide := true) only [wUp, decide_true, decide_false, cond_true, cond_false, Bool.false_eq_true, if_true, if_false, ite_true, ite_false, hu]; rfl) | rfl) (by first | decide | exact rf_bor _ | exact rf_bd (by assumption))) | exact (pM_ok (by first | (simp (decide := true) only [wUp, decide_true, decide_false, cond_true, cond_false, Bool.false_eq_true, if_true, if_false, ite_true, ite_false, hu]; done) | (simp (decide := true) only [wUp, decide_true, decide_false, cond_true, cond_false, Bool.false_eq_true, if_true, if_false, ite_true, ite_false, hu]; done) | (simp (decide := true) only [wUp, decide_true, decide_false, cond_true, cond_false, Bool.false_eq_true, if_true, if_false, ite_true, ite_false, hu]; rfl) | rfl) (by first | (simp (decide := true) only [aAbo, cj, decide_true, decide_false, cond_true, cond_false, Bool.false_eq_true, if_true, if_false, ite_true, ite_false, hu]; done) | (simp (decide := true) only [aAbo, cj, decide_true, decide_false, cond_true, cond_false, Bool.false_eq_true, if_true, if_false, ite_true, ite_false, hu]; done) | (simp (decide := true) only [aAbo, cj, decide_true, decide_false, cond_true, cond_false, Bool.false_eq_true, if_true, if_false, ite_true, ite_false, hu]; rfl) | rfl) (yk_le (by decide) e2)))
  · obtain ⟨hu, hb⟩ := bd_t h9
    refine tg_steps 2 rfl ?_
    refine tg_callV rfl (m_no _ (by first | decide | exact rf_bor _ | exact rf_bd (by assumption))) rfl rfl rfl rfl rfl (fun v14 w14 q14 => ?_)
    obtain ⟨rfl, rfl⟩ := q14
    refine tg_steps 1 rfl ?_
    exact tg_iret (st := []) rfl rfl ⟨Nat.le_of_ble_eq_true rfl, Nat.le_of_ble_eq_true rfl⟩ (by first | exact (pM_refI (by first | (simp (decide := true) only [wUp, decide_true, decide_false, cond_true, cond_false, Bool.false_eq_true, if_true, if_false, ite_true, ite_false, hu, hb]; done) | (simp (decide := true) only [wUp, decide_true, decide_false, cond_true, cond_false, Bool.false_eq_true, if_true, if_false, ite_true, ite_false, hu, hb]; done) | (simp (decide := true) only [wUp, decide_true, decide_false, cond_true, cond_false, Bool.false_eq_true, if_true, if_false, ite_true, ite_false, hu, hb]; rfl) | rfl) (by first | decide | exact rf_bor _ | exact rf_bd (by assumption))) | exact (pM_ok (by first | (simp (decide := true) only [wUp, decide_true, decide_false, cond_true, cond_false, Bool.false_eq_true, if_true, if_false, ite_true, ite_false, hu, hb]; done) | (simp (decide := true) only [wUp, decide_true, decide_false, cond_true, cond_false, Bool.false_eq_true, if_true, if_false, ite_true, ite_false, hu, hb]; done) | (simp (decide := true) only [wUp, decide_true, decide_false, cond_true, cond_false, Bool.false_eq_true, if_true, if_false, ite_true, ite_false, hu, hb]; rfl) | rfl) (by first | (simp (decide := true) only [aAbo, cj, decide_true, decide_false, cond_true, cond_false, Bool.false_eq_true, if_true, if_false, ite_true, ite_false, hu, hb]; done) | (simp (decide := true) only [aAbo, cj, decide_true, decide_false, cond_true, cond_false, Bool.false_eq_true, if_true, if_false, ite_true, ite_false, hu, hb]; done) | (simp (decide := true) only [aAbo, cj, decide_true, decide_false, cond_true, cond_false, Bool.false_eq_true, if_true, if_false, ite_true, ite_false, hu, hb]; rfl) | rfl) (yk_le (by decide) e2)))
set_option maxRecDepth 100000 in
set_option maxHeartbeats 2000000 in
theorem r_comes {G : tg_G} {l : List tg_Cl} {h : tp_H} {y : tp_Y} (hw : wfH h) (one : Int32) (ti : Int32) : tg_C G 7 mX11_comes 0 0 [.ref 64, .int one, .int ti] (l, tm_cs h y) (pM l (wSta h one ti) (.int (wSta h one ti)) (.int (aFir h one ti)) h y (h) (y)) := by
  have hm := hw.1
  refine tg_intro okX11_comes (Nat.le_of_ble_eq_true rfl) ?_
  refine tg_steps 2 rfl ?_
  refine tg_callV rfl (m_isOne _) rfl rfl rfl rfl rfl (fun v2 w2 q2 => ?_)
  obtain ⟨rfl, rfl⟩ := q2
  refine tg_ifbeq rfl rfl (fun h5 => ?_) (fun h5 => ?_)
  · refine tg_steps 2 rfl ?_
    refine tg_callV rfl (m_no _ (by first | decide | exact rf_bor _ | exact rf_bd (by assumption))) rfl rfl rfl rfl rfl (fun v26 w26 q26 => ?_)
    obtain ⟨rfl, rfl⟩ := q26
    exact tg_iret (st := []) rfl rfl ⟨Nat.le_of_ble_eq_true rfl, Nat.le_of_ble_eq_true rfl⟩ (by first | exact (pM_refI (by first | (simp (decide := true) only [wSta, decide_true, decide_false, cond_true, cond_false, Bool.false_eq_true, if_true, if_false, ite_true, ite_false, h5]; done) | (simp (decide := true) only [wSta, decide_true, decide_false, cond_true, cond_false, Bool.false_eq_true, if_true, if_false, ite_true, ite_false, h5]; done) | (simp (decide := true) only [wSta, decide_true, decide_false, cond_true, cond_false, Bool.false_eq_true, if_true, if_false, ite_true, ite_false, h5]; rfl) | rfl) (by first | decide | exact rf_bor _ | exact rf_bd (by assumption))) | exact (pM_ok (by first | (simp (decide := true) only [wSta, decide_true, decide_false, cond_true, cond_false, Bool.false_eq_true, if_true, if_false, ite_true, ite_false, h5]; done) | (simp (decide := true) only [wSta, decide_true, decide_false, cond_true, cond_false, Bool.false_eq_true, if_true, if_false, ite_true, ite_false, h5]; done) | (simp (decide := true) only [wSta, decide_true, decide_false, cond_true, cond_false, Bool.false_eq_true, if_true, if_false, ite_true, ite_false, h5]; rfl) | rfl) rfl (yk_le (by decide) e2)))
  · obtain ⟨j, hj, rfl, cj⟩ := has_j hm h5
    have cn : nN (nI j) = j := cj
    refine tg_steps 1 rfl ?_
    refine tg_call1 rfl (m_isTile _) rfl rfl rfl  (fun v9 w9 q9 => ?_)
    obtain ⟨rfl, rfl⟩ := q9
    refine tg_ifbeq rfl rfl (fun h12 => ?_) (fun h12 => ?_)
    · refine tg_steps 2 rfl ?_
      refine tg_callV rfl (m_no _ (by first | decide | exact rf_bor _ | exact rf_bd (by assumption))) rfl rfl rfl rfl rfl (fun v26 w26 q26 => ?_)
      obtain ⟨rfl, rfl⟩ := q26
      exact tg_iret (st := []) rfl rfl ⟨Nat.le_of_ble_eq_true rfl, Nat.le_of_ble_eq_true rfl⟩ (by first | exact (pM_refI (by first | (simp (decide := true) only [wSta, decide_true, decide_false, cond_true, cond_false, Bool.false_eq_true, if_true, if_false, ite_true, ite_false, h5, h12]; done) | (simp (decide := true) only [wSta, decide_true, decide_false, cond_true, cond_false, Bool.false_eq_true, if_true, if_false, ite_true, ite_false, h5, h12]; done) | (simp (decide := true) only [wSta, decide_true, decide_false, cond_true, cond_false, Bool.false_eq_true, if_true, if_false, ite_true, ite_false, h5, h12]; rfl) | rfl) (by first | decide | exact rf_bor _ | exact rf_bd (by assumption))) | exact (pM_ok (by first | (simp (decide := true) only [wSta, decide_true, decide_false, cond_true, cond_false, Bool.false_eq_true, if_true, if_false, ite_true, ite_false, h5, h12]; done) | (simp (decide := true) only [wSta, decide_true, decide_false, cond_true, cond_false, Bool.false_eq_true, if_true, if_false, ite_true, ite_false, h5, h12]; done) | (simp (decide := true) only [wSta, decide_true, decide_false, cond_true, cond_false, Bool.false_eq_true, if_true, if_false, ite_true, ite_false, h5, h12]; rfl) | rfl) rfl (yk_le (by decide) e2)))
    · refine tg_steps 3 rfl ?_
      refine tg_callV rfl (m_comesWhen hw j hj ti) rfl rfl rfl rfl rfl (fun v18 w18 q18 => ?_)
      obtain ⟨rfl, y2, rfl, e2⟩ := q18
      refine tg_steps 1 rfl ?_
      exact tg_iret (st := []) rfl rfl ⟨Nat.le_of_ble_eq_true rfl, Nat.le_of_ble_eq_true rfl⟩ (by first | exact (pM_refI (by first | (simp (decide := true) only [wSta, decide_true, decide_false, cond_true, cond_false, Bool.false_eq_true, if_true, if_false, ite_true, ite_false, h5, h12]; done) | (simp (decide := true) only [wSta, decide_true, decide_false, cond_true, cond_false, Bool.false_eq_true, if_true, if_false, ite_true, ite_false, h5, h12]; done) | (simp (decide := true) only [wSta, decide_true, decide_false, cond_true, cond_false, Bool.false_eq_true, if_true, if_false, ite_true, ite_false, h5, h12]; rfl) | rfl) (by first | decide | exact rf_bor _ | exact rf_bd (by assumption))) | exact (pM_ok (by first | (simp (decide := true) only [wSta, decide_true, decide_false, cond_true, cond_false, Bool.false_eq_true, if_true, if_false, ite_true, ite_false, h5, h12]; done) | (simp (decide := true) only [wSta, decide_true, decide_false, cond_true, cond_false, Bool.false_eq_true, if_true, if_false, ite_true, ite_false, h5, h12]; done) | (simp (decide := true) only [wSta, decide_true, decide_false, cond_true, cond_false, Bool.false_eq_true, if_true, if_false, ite_true, ite_false, h5, h12]; rfl) | rfl) rfl (yk_le (by decide) e2)))
set_option maxRecDepth 100000 in
set_option maxHeartbeats 2000000 in
theorem r_sails {G : tg_G} {l : List tg_Cl} {h : tp_H} {y : tp_Y} (hw : wfH h) (one : Int32) : tg_C G 8 mX11_sails 0 0 [.ref 64, .int one] (l, tm_cs h y) (pM l (wSai h one) (.int (wSai h one)) (.int ((if one = -1 then (fbM h (hM h)).1 else if one = -2 then alV h (hM h) 0 0 else aFir h one (hS h) : Int32))) h y (h) (y)) := by
  have hm := hw.1
  refine tg_intro okX11_sails (Nat.le_of_ble_eq_true rfl) ?_
  refine tg_steps 2 rfl ?_
  refine tg_iclt rfl rfl (fun h3 => ?_) (fun h3 => ?_)
  · obtain ⟨z1, z2, z3⟩ := hs_out (h := h) hm (Or.inl h3)
    refine tg_steps 2 rfl ?_
    refine tg_callV rfl (m_no _ (by first | decide | exact rf_bor _ | exact rf_bd (by assumption))) rfl rfl rfl rfl rfl (fun v16 w16 q16 => ?_)
    obtain ⟨rfl, rfl⟩ := q16
    exact tg_iret (st := []) rfl rfl ⟨Nat.le_of_ble_eq_true rfl, Nat.le_of_ble_eq_true rfl⟩ (pM_refI (by first | (simp (decide := true) only [wSai, decide_true, decide_false, cond_true, cond_false, Bool.false_eq_true, if_true, if_false, ite_true, ite_false, z1, z2, z3]; done) | (simp (decide := true) only [wSai, decide_true, decide_false, cond_true, cond_false, Bool.false_eq_true, if_true, if_false, ite_true, ite_false, z1, z2, z3]; done) | (simp (decide := true) only [wSai, decide_true, decide_false, cond_true, cond_false, Bool.false_eq_true, if_true, if_false, ite_true, ite_false, z1, z2, z3]; rfl) | rfl) (by first | decide | exact rf_bor _ | exact rf_bd (by assumption)))
  · refine tg_steps 3 rfl ?_
    refine tg_iclt rfl rfl (fun h11 => ?_) (fun h11 => ?_)
    · refine tg_steps 2 rfl ?_
      refine tg_icne rfl rfl (fun h22 => ?_) (fun h22 => ?_)
      · refine tg_steps 2 rfl ?_
        refine tg_icne rfl rfl (fun h35 => ?_) (fun h35 => ?_)
        · have hin : hasB h one = true := hs_in h3 h22 h35 (Int32.not_le.mpr h11)
          obtain ⟨j, hj, rfl, cj⟩ := has_j hm hin
          refine tg_steps 4 rfl ?_
          refine tg_callV rfl (m_comesWhen hw j hj _) rfl rfl rfl rfl rfl (fun v51 w51 q51 => ?_)
          obtain ⟨rfl, y2, rfl, e2⟩ := q51
          exact tg_iret (st := []) rfl rfl ⟨Nat.le_of_ble_eq_true rfl, Nat.le_of_ble_eq_true rfl⟩ (pM_ok (by first | (simp (decide := true) only [wSai, decide_true, decide_false, cond_true, cond_false, Bool.false_eq_true, if_true, if_false, ite_true, ite_false, h22, h35, hin]; done) | (simp (decide := true) only [wSai, decide_true, decide_false, cond_true, cond_false, Bool.false_eq_true, if_true, if_false, ite_true, ite_false, h22, h35, hin]; done) | (simp (decide := true) only [wSai, decide_true, decide_false, cond_true, cond_false, Bool.false_eq_true, if_true, if_false, ite_true, ite_false, h22, h35, hin]; rfl) | rfl) (by first | (simp (decide := true) only [id, decide_true, decide_false, cond_true, cond_false, Bool.false_eq_true, if_true, if_false, ite_true, ite_false, h22, h35, hin]; done) | (simp (decide := true) only [id, decide_true, decide_false, cond_true, cond_false, Bool.false_eq_true, if_true, if_false, ite_true, ite_false, h22, h35, hin]; done) | (simp (decide := true) only [id, decide_true, decide_false, cond_true, cond_false, Bool.false_eq_true, if_true, if_false, ite_true, ite_false, h22, h35, hin]; rfl) | rfl) (yk_le (by decide) e2))
        · refine tg_steps 1 rfl ?_
          refine tg_callV rfl (m_allAboard hw) rfl rfl rfl rfl rfl (fun v39 w39 q39 => ?_)
          obtain ⟨rfl, y2, rfl, e2⟩ := q39
          refine tg_steps 1 rfl ?_
          exact tg_iret (st := []) rfl rfl ⟨Nat.le_of_ble_eq_true rfl, Nat.le_of_ble_eq_true rfl⟩ (pM_ok (by first | (simp (decide := true) only [wSai, decide_true, decide_false, cond_true, cond_false, Bool.false_eq_true, if_true, if_false, ite_true, ite_false, h22, eq_true h35]; done) | (simp (decide := true) only [wSai, decide_true, decide_false, cond_true, cond_false, Bool.false_eq_true, if_true, if_false, ite_true, ite_false, h22, h35]; done) | (simp (decide := true) only [wSai, decide_true, decide_false, cond_true, cond_false, Bool.false_eq_true, if_true, if_false, ite_true, ite_false, h22, eq_true h35]; rfl) | rfl) (by first | (simp (decide := true) only [id, decide_true, decide_false, cond_true, cond_false, Bool.false_eq_true, if_true, if_false, ite_true, ite_false, h22, eq_true h35]; done) | (simp (decide := true) only [id, decide_true, decide_false, cond_true, cond_false, Bool.false_eq_true, if_true, if_false, ite_true, ite_false, h22, h35]; done) | (simp (decide := true) only [id, decide_true, decide_false, cond_true, cond_false, Bool.false_eq_true, if_true, if_false, ite_true, ite_false, h22, eq_true h35]; rfl) | rfl) (yk_le (by decide) e2))
      · refine tg_steps 1 rfl ?_
        refine tg_callV rfl (m_firstAboard hw) rfl rfl rfl rfl rfl (fun v26 w26 q26 => ?_)
        obtain ⟨rfl, y2, rfl, e2⟩ := q26
        refine tg_steps 1 rfl ?_
        exact tg_iret (st := []) rfl rfl ⟨Nat.le_of_ble_eq_true rfl, Nat.le_of_ble_eq_true rfl⟩ (pM_ok (by first | (simp (decide := true) only [wSai, decide_true, decide_false, cond_true, cond_false, Bool.false_eq_true, if_true, if_false, ite_true, ite_false, eq_true h22]; done) | (simp (decide := true) only [wSai, decide_true, decide_false, cond_true, cond_false, Bool.false_eq_true, if_true, if_false, ite_true, ite_false, h22]; done) | (simp (decide := true) only [wSai, decide_true, decide_false, cond_true, cond_false, Bool.false_eq_true, if_true, if_false, ite_true, ite_false, eq_true h22]; rfl) | rfl) (by first | (simp (decide := true) only [id, decide_true, decide_false, cond_true, cond_false, Bool.false_eq_true, if_true, if_false, ite_true, ite_false, eq_true h22]; done) | (simp (decide := true) only [id, decide_true, decide_false, cond_true, cond_false, Bool.false_eq_true, if_true, if_false, ite_true, ite_false, h22]; done) | (simp (decide := true) only [id, decide_true, decide_false, cond_true, cond_false, Bool.false_eq_true, if_true, if_false, ite_true, ite_false, eq_true h22]; rfl) | rfl) (yk_le (by decide) e2))
    · obtain ⟨z1, z2, z3⟩ := hs_out (h := h) hm (Or.inr (Int32.not_lt.mp h11))
      refine tg_steps 2 rfl ?_
      refine tg_callV rfl (m_no _ (by first | decide | exact rf_bor _ | exact rf_bd (by assumption))) rfl rfl rfl rfl rfl (fun v16 w16 q16 => ?_)
      obtain ⟨rfl, rfl⟩ := q16
      exact tg_iret (st := []) rfl rfl ⟨Nat.le_of_ble_eq_true rfl, Nat.le_of_ble_eq_true rfl⟩ (pM_refI (by first | (simp (decide := true) only [wSai, decide_true, decide_false, cond_true, cond_false, Bool.false_eq_true, if_true, if_false, ite_true, ite_false, z1, z2, z3]; done) | (simp (decide := true) only [wSai, decide_true, decide_false, cond_true, cond_false, Bool.false_eq_true, if_true, if_false, ite_true, ite_false, z1, z2, z3]; done) | (simp (decide := true) only [wSai, decide_true, decide_false, cond_true, cond_false, Bool.false_eq_true, if_true, if_false, ite_true, ite_false, z1, z2, z3]; rfl) | rfl) (by first | decide | exact rf_bor _ | exact rf_bd (by assumption)))
set_option maxRecDepth 100000 in
set_option maxHeartbeats 2000000 in
theorem r_meets {G : tg_G} {l : List tg_Cl} {h : tp_H} {y : tp_Y} (hw : wfH h) (a : Int32) (b : Int32) : tg_C G 6 mX11_meets 0 0 [.ref 64, .int a, .int b] (l, tm_cs h y) (pM l (wMee h a b) (.int (wMee h a b)) (.int (aMee h a b)) h y (h) (y)) := by
  have hm := hw.1
  refine tg_intro okX11_meets (Nat.le_of_ble_eq_true rfl) ?_
  refine tg_steps 2 rfl ?_
  refine tg_callV rfl (m_isOne _) rfl rfl rfl rfl rfl (fun v2 w2 q2 => ?_)
  obtain ⟨rfl, rfl⟩ := q2
  refine tg_ifbeq rfl rfl (fun h5 => ?_) (fun h5 => ?_)
  · refine tg_steps 2 rfl ?_
    refine tg_callV rfl (m_no _ (by first | decide | exact rf_bor _ | exact rf_bd (by assumption))) rfl rfl rfl rfl rfl (fun v23 w23 q23 => ?_)
    obtain ⟨rfl, rfl⟩ := q23
    exact tg_iret (st := []) rfl rfl ⟨Nat.le_of_ble_eq_true rfl, Nat.le_of_ble_eq_true rfl⟩ (pM_refI (by first | (simp (decide := true) only [wMee, decide_true, decide_false, cond_true, cond_false, Bool.false_eq_true, if_true, if_false, ite_true, ite_false, h5]; done) | (simp (decide := true) only [wMee, decide_true, decide_false, cond_true, cond_false, Bool.false_eq_true, if_true, if_false, ite_true, ite_false, h5]; done) | (simp (decide := true) only [wMee, decide_true, decide_false, cond_true, cond_false, Bool.false_eq_true, if_true, if_false, ite_true, ite_false, h5]; rfl) | rfl) (by first | decide | exact rf_bor _ | exact rf_bd (by assumption)))
  · obtain ⟨j, hj, rfl, cj⟩ := has_j hm h5
    refine tg_steps 2 rfl ?_
    refine tg_callV rfl (m_isOne _) rfl rfl rfl rfl rfl (fun v10 w10 q10 => ?_)
    obtain ⟨rfl, rfl⟩ := q10
    refine tg_ifbeq rfl rfl (fun h13 => ?_) (fun h13 => ?_)
    · refine tg_steps 2 rfl ?_
      refine tg_callV rfl (m_no _ (by first | decide | exact rf_bor _ | exact rf_bd (by assumption))) rfl rfl rfl rfl rfl (fun v23 w23 q23 => ?_)
      obtain ⟨rfl, rfl⟩ := q23
      exact tg_iret (st := []) rfl rfl ⟨Nat.le_of_ble_eq_true rfl, Nat.le_of_ble_eq_true rfl⟩ (pM_refI (by first | (simp (decide := true) only [wMee, decide_true, decide_false, cond_true, cond_false, Bool.false_eq_true, if_true, if_false, ite_true, ite_false, h5, h13]; done) | (simp (decide := true) only [wMee, decide_true, decide_false, cond_true, cond_false, Bool.false_eq_true, if_true, if_false, ite_true, ite_false, h5, h13]; done) | (simp (decide := true) only [wMee, decide_true, decide_false, cond_true, cond_false, Bool.false_eq_true, if_true, if_false, ite_true, ite_false, h5, h13]; rfl) | rfl) (by first | decide | exact rf_bor _ | exact rf_bd (by assumption)))
    · obtain ⟨q, hq, rfl, cq⟩ := has_j hm h13
      refine tg_steps 2 rfl ?_
      refine tg_icne rfl rfl (fun h18 => ?_) (fun h18 => ?_)
      · refine tg_steps 1 rfl ?_
        refine tg_callV rfl (m_thinks) rfl rfl rfl rfl rfl (fun v28 w28 q28 => ?_)
        obtain ⟨rfl, rfl⟩ := q28
        refine tg_steps 4 rfl ?_
        refine tg_pkV [0, 1, 2, 3, 4] ?_
        refine tg_eqS (L2 := [(0, .ref 64), (1, .int (nI j)), (2, .int (nI q)), (3, .int (fo (fD h (nI j) (nI q)) nI (0))), (4, .int (nI (0)))]) (st2 := []) (w2 := (l, tm_cs h (zMo (thY h y) (yMo (thY h y))))) rfl rfl (by rw [w_Mo0]; rfl) ?_
        refine tg_down (φ := fun i : Nat => ∀ (mo : Int32), tg_V G 6 mX11_meets 0 0 0 0 (pM l (wMee h (nI j) (nI q)) (.int (wMee h (nI j) (nI q))) (.int (aMee h (nI j) (nI q))) h y (h) (y)) 37 [(0, .ref 64), (1, .int (nI j)), (2, .int (nI q)), (3, .int (fo (fD h (nI j) (nI q)) nI (i))), (4, .int (nI (i)))] [] (l, tm_cs (pNs (i) h) (zMo (thY h y) mo))) (n := 61) ?_ ?_ 0 (Nat.zero_le _) (yMo (thY h y)) 
        · intro mo
          refine tg_steps 2 rfl ?_
          refine tg_icgt rfl rfl (fun h41 => ?_) (fun h41 => ?_)
          · refine tg_steps 1 rfl ?_
            refine tg_callV rfl (m_forgets (g := h) (hld_thm h y mo)) rfl rfl rfl rfl rfl (fun v82 w82 q82 => ?_)
            obtain ⟨rfl, rfl⟩ := q82
            refine tg_steps 1 rfl ?_
            exact tg_iret (st := []) rfl rfl ⟨Nat.le_of_ble_eq_true rfl, Nat.le_of_ble_eq_true rfl⟩ (pM_ok (by first | (simp (decide := true) only [wMee, decide_true, decide_false, cond_true, cond_false, Bool.false_eq_true, if_true, if_false, ite_true, ite_false, h5, h13, h18]; done) | (simp (decide := true) only [wMee, decide_true, decide_false, cond_true, cond_false, Bool.false_eq_true, if_true, if_false, ite_true, ite_false, h5, h13, h18]; done) | (simp (decide := true) only [wMee, decide_true, decide_false, cond_true, cond_false, Bool.false_eq_true, if_true, if_false, ite_true, ite_false, h5, h13, h18]; rfl) | rfl) (by rw [fo_nI (n := 61) (by decide)]; rfl) (yk_le (by decide) (t_fg h y mo)))
          · exact absurd (by decide) h41
        · intro i hi37 ih37 mo
          refine tg_steps 2 rfl ?_
          refine tg_icgt rfl rfl (fun h41 => ?_) (fun h41 => ?_)
          · exact absurd h41 (nI_nlt (a := 60) (b := i) (by omega) (by decide))
          · refine tg_steps 1 rfl ?_
            refine tg_ifge rfl rfl (fun h45 => ?_) (fun h45 => ?_)
            · have hend : fo (fD h (nI j) (nI q)) nI 61 = fo (fD h (nI j) (nI q)) nI i := by
                have := fo_stop (p := fD h (nI j) (nI q)) (v := nI) (Int32.not_lt.mpr h45) (61 - i)
                rw [show i + (61 - i) = 61 by omega] at this
                exact this
              refine tg_steps 1 rfl ?_
              refine tg_callV rfl (m_forgets (g := h) (hld_thm h y mo)) rfl rfl rfl rfl rfl (fun v82 w82 q82 => ?_)
              obtain ⟨rfl, rfl⟩ := q82
              refine tg_steps 1 rfl ?_
              exact tg_iret (st := []) rfl rfl ⟨Nat.le_of_ble_eq_true rfl, Nat.le_of_ble_eq_true rfl⟩ (pM_ok (by first | (simp (decide := true) only [wMee, decide_true, decide_false, cond_true, cond_false, Bool.false_eq_true, if_true, if_false, ite_true, ite_false, h5, h13, h18]; done) | (simp (decide := true) only [wMee, decide_true, decide_false, cond_true, cond_false, Bool.false_eq_true, if_true, if_false, ite_true, ite_false, h5, h13, h18]; done) | (simp (decide := true) only [wMee, decide_true, decide_false, cond_true, cond_false, Bool.false_eq_true, if_true, if_false, ite_true, ite_false, h5, h13, h18]; rfl) | rfl) (by rw [← hend, fo_nI (n := 61) (by decide)]; rfl) (yk_le (by decide) (t_fg h y mo)))
            · have hlt : fo (fD h (nI j) (nI q)) nI i < 0 := Int32.not_le.mp h45
              refine tg_steps 3 rfl ?_
              refine tg_ialdN rfl rfl (j) rfl (by omega) (by decide) ?_
              refine tg_steps 3 rfl ?_
              refine tg_ialdN rfl rfl (q) rfl (by omega) (by decide) ?_
              refine tg_icne rfl rfl (fun h60 => ?_) (fun h60 => ?_)
              · refine tg_steps 3 rfl ?_
                refine tg_callV rfl (m_goesNight (y := zMo (thY h y) mo) (wf_pNs hw i)) rfl rfl rfl rfl rfl (fun v72 w72 q72 => ?_)
                obtain ⟨rfl, rfl⟩ := q72
                rw [w_MoMo]
                refine tg_steps 2 rfl ?_
                refine tg_pkV [0, 1, 2, 3, 4] ?_
                refine tg_eqS (L2 := [(0, .ref 64), (1, .int (nI j)), (2, .int (nI q)), (3, .int (fo (fD h (nI j) (nI q)) nI (i + 1))), (4, .int (nI (i + 1)))]) (st2 := []) (w2 := _) (by first | (simp (decide := true) only [nI_succ, fo_succ, pNs_succ, fD, gT_j hm hj, gT_j hm hq, decide_true, decide_false, cond_true, cond_false, Bool.false_eq_true, if_true, if_false, ite_true, ite_false, h5, h13, h18, hlt, h60]; done) | (simp (decide := true) only [nI_succ, fo_succ, pNs_succ, fD, gT_j hm hj, gT_j hm hq, decide_true, decide_false, cond_true, cond_false, Bool.false_eq_true, if_true, if_false, ite_true, ite_false, h5, h13, h18, hlt, h60]; rfl) | rfl) rfl rfl ?_
                exact ih37 _
              · refine tg_steps 4 rfl ?_
                refine tg_callV rfl (m_goesNight (y := zMo (thY h y) mo) (wf_pNs hw i)) rfl rfl rfl rfl rfl (fun v72 w72 q72 => ?_)
                obtain ⟨rfl, rfl⟩ := q72
                rw [w_MoMo]
                refine tg_steps 2 rfl ?_
                refine tg_pkV [0, 1, 2, 3, 4] ?_
                refine tg_eqS (L2 := [(0, .ref 64), (1, .int (nI j)), (2, .int (nI q)), (3, .int (fo (fD h (nI j) (nI q)) nI (i + 1))), (4, .int (nI (i + 1)))]) (st2 := []) (w2 := _) (by first | (simp (decide := true) only [nI_succ, fo_succ, pNs_succ, fD, gT_j hm hj, gT_j hm hq, decide_true, decide_false, cond_true, cond_false, Bool.false_eq_true, if_true, if_false, ite_true, ite_false, h5, h13, h18, hlt, eq_true h60]; done) | (simp (decide := true) only [nI_succ, fo_succ, pNs_succ, fD, gT_j hm hj, gT_j hm hq, decide_true, decide_false, cond_true, cond_false, Bool.false_eq_true, if_true, if_false, ite_true, ite_false, h5, h13, h18, hlt, eq_true h60]; rfl) | rfl) rfl rfl ?_
                exact ih37 _
      · refine tg_steps 2 rfl ?_
        refine tg_callV rfl (m_no _ (by first | decide | exact rf_bor _ | exact rf_bd (by assumption))) rfl rfl rfl rfl rfl (fun v23 w23 q23 => ?_)
        obtain ⟨rfl, rfl⟩ := q23
        exact tg_iret (st := []) rfl rfl ⟨Nat.le_of_ble_eq_true rfl, Nat.le_of_ble_eq_true rfl⟩ (pM_refI (by first | (simp (decide := true) only [wMee, decide_true, decide_false, cond_true, cond_false, Bool.false_eq_true, if_true, if_false, ite_true, ite_false, h5, h13, eq_true h18]; done) | (simp (decide := true) only [wMee, decide_true, decide_false, cond_true, cond_false, Bool.false_eq_true, if_true, if_false, ite_true, ite_false, h5, h13, h18]; done) | (simp (decide := true) only [wMee, decide_true, decide_false, cond_true, cond_false, Bool.false_eq_true, if_true, if_false, ite_true, ite_false, h5, h13, eq_true h18]; rfl) | rfl) (by first | decide | exact rf_bor _ | exact rf_bd (by assumption)))
set_option maxRecDepth 100000 in
set_option maxHeartbeats 2000000 in
theorem r_still {G : tg_G} {l : List tg_Cl} {h : tp_H} {y : tp_Y} (hw : wfH h) : tg_C G 6 mX11_still 0 0 [.ref 64] (l, tm_cs h y) (pM l ((0 : Int32)) (.int ((0 : Int32))) (.int (aSti h)) h y (h) (y)) := by
  have hm := hw.1
  refine tg_intro okX11_still (Nat.le_of_ble_eq_true rfl) ?_
  refine tg_steps 1 rfl ?_
  refine tg_callV rfl (m_thinks) rfl rfl rfl rfl rfl (fun v1 w1 q1 => ?_)
  obtain ⟨rfl, rfl⟩ := q1
  refine tg_steps 6 rfl ?_
  refine tg_pkV [0, 1, 2, 3] ?_
  refine tg_eqS (L2 := [(0, .ref 64), (1, .int (nI (qtS h (0)))), (2, .int (fo (stP h) stV (0))), (3, .int (nI (0 + 1)))]) (st2 := []) (w2 := (l, tm_cs h (zMo (thY h y) (yMo (thY h y))))) rfl rfl (by rw [w_Mo0]; rfl) ?_
  refine tg_down (φ := fun i : Nat => ∀ (mo : Int32), tg_V G 6 mX11_still 0 0 0 0 (pM l ((0 : Int32)) (.int ((0 : Int32))) (.int (aSti h)) h y (h) (y)) 11 [(0, .ref 64), (1, .int (nI (qtS h (i)))), (2, .int (fo (stP h) stV (i))), (3, .int (nI (i + 1)))] [] (l, tm_cs (pNs (i) h) (zMo (thY h y) mo))) (n := 72) ?_ ?_ 0 (Nat.zero_le _) (yMo (thY h y)) 
  · intro mo
    refine tg_steps 2 rfl ?_
    refine tg_icgt rfl rfl (fun h14 => ?_) (fun h14 => ?_)
    · refine tg_steps 1 rfl ?_
      refine tg_callV rfl (m_forgets (g := h) (hld_thm h y mo)) rfl rfl rfl rfl rfl (fun v68 w68 q68 => ?_)
      obtain ⟨rfl, rfl⟩ := q68
      refine tg_steps 1 rfl ?_
      exact tg_iret (st := []) rfl rfl ⟨Nat.le_of_ble_eq_true rfl, Nat.le_of_ble_eq_true rfl⟩ (pM_ok rfl (by rw [st_eq]) (yk_le (by decide) (t_fg h y mo)))
    · exact absurd (by decide) h14
  · intro i hi11 ih11 mo
    refine tg_steps 2 rfl ?_
    refine tg_icgt rfl rfl (fun h14 => ?_) (fun h14 => ?_)
    · exact absurd h14 (nI_nlt (a := 72) (b := i + 1) (by omega) (by decide))
    · refine tg_steps 1 rfl ?_
      refine tg_ifge rfl rfl (fun h18 => ?_) (fun h18 => ?_)
      · have hend : fo (stP h) stV 72 = fo (stP h) stV i := by
          have := fo_stop (p := stP h) (v := stV) (Int32.not_lt.mpr h18) (72 - i)
          rw [show i + (72 - i) = 72 by omega] at this
          exact this
        refine tg_steps 1 rfl ?_
        refine tg_callV rfl (m_forgets (g := h) (hld_thm h y mo)) rfl rfl rfl rfl rfl (fun v68 w68 q68 => ?_)
        obtain ⟨rfl, rfl⟩ := q68
        refine tg_steps 1 rfl ?_
        exact tg_iret (st := []) rfl rfl ⟨Nat.le_of_ble_eq_true rfl, Nat.le_of_ble_eq_true rfl⟩ (pM_ok rfl (by rw [← hend, st_eq]) (yk_le (by decide) (t_fg h y mo)))
      · have hlt : fo (stP h) stV i < 0 := Int32.not_le.mp h18
        refine tg_steps 3 rfl ?_
        refine tg_eqW (m_Mo 0) ?_
        rw [w_MoMo]
        refine tg_steps 1 rfl ?_
        refine tg_callV rfl (m_goesNight (y := zMo (thY h y) 0) (wf_pNs hw i)) rfl rfl rfl rfl rfl (fun v27 w27 q27 => ?_)
        obtain ⟨rfl, rfl⟩ := q27
        rw [w_MoMo, g_MoMo]
        refine tg_eqW (w2 := (l, tm_cs (pNs (i + 1) h) (zMo (thY h y) (mvN (pNs i h) 0)))) rfl ?_
        refine tg_steps 2 rfl ?_
        refine tg_ifne rfl rfl (fun h34 => ?_) (fun h34 => ?_)
        · have hg : pGn (pNs i h) = true := by
            cases e : pGn (pNs i h)
            · exact absurd ((mvN_0 (pm7 hm i)).mpr e) h34
            · rfl
          refine tg_steps 4 rfl ?_
          refine tg_icne rfl rfl (fun h48 => ?_) (fun h48 => ?_)
          · have hs : stP h i = false := by unfold stP; rw [qtS_succ, hg]; first | exact decide_eq_false (fun q => h48 ((nI_succ _).symm.trans q)) | (rw [cond_true]; exact decide_eq_false (by decide))
            refine tg_steps 4 rfl ?_
            refine tg_pkV [0, 1, 2, 3] ?_
            refine tg_eqS (L2 := [(0, .ref 64), (1, .int (nI (qtS h (i + 1)))), (2, .int (fo (stP h) stV (i + 1))), (3, .int (nI (i + 1 + 1)))]) (st2 := []) (w2 := _) (by first | (simp (decide := true) only [nI_succ, fo_succ, qtS_succ, stV, hs, hg, hlt, decide_true, decide_false, cond_true, cond_false, Bool.false_eq_true, if_true, if_false, ite_true, ite_false]; done) | (simp (decide := true) only [nI_succ, fo_succ, qtS_succ, stV, hs, hg, hlt, decide_true, decide_false, cond_true, cond_false, Bool.false_eq_true, if_true, if_false, ite_true, ite_false]; rfl)) rfl rfl ?_
            exact ih11 _
          · have hs : stP h i = true := by first | exact absurd h48 (by decide) | (unfold stP; rw [qtS_succ, hg]; exact decide_eq_true ((nI_succ _).trans h48))
            refine tg_steps 7 rfl ?_
            refine tg_pkV [0, 1, 2, 3] ?_
            refine tg_eqS (L2 := [(0, .ref 64), (1, .int (nI (qtS h (i + 1)))), (2, .int (fo (stP h) stV (i + 1))), (3, .int (nI (i + 1 + 1)))]) (st2 := []) (w2 := _) (by first | (simp (decide := true) only [nI_succ, fo_succ, qtS_succ, stV, hs, hg, hlt, decide_true, decide_false, cond_true, cond_false, Bool.false_eq_true, if_true, if_false, ite_true, ite_false]; done) | (simp (decide := true) only [nI_succ, fo_succ, qtS_succ, stV, hs, hg, hlt, decide_true, decide_false, cond_true, cond_false, Bool.false_eq_true, if_true, if_false, ite_true, ite_false]; rfl)) rfl rfl ?_
            exact ih11 _
        · have hg : pGn (pNs i h) = false := (mvN_0 (pm7 hm i)).mp h34
          refine tg_steps 7 rfl ?_
          refine tg_icne rfl rfl (fun h48 => ?_) (fun h48 => ?_)
          · have hs : stP h i = false := by unfold stP; rw [qtS_succ, hg]; first | exact decide_eq_false (fun q => h48 ((nI_succ _).symm.trans q)) | (rw [cond_true]; exact decide_eq_false (by decide))
            refine tg_steps 4 rfl ?_
            refine tg_pkV [0, 1, 2, 3] ?_
            refine tg_eqS (L2 := [(0, .ref 64), (1, .int (nI (qtS h (i + 1)))), (2, .int (fo (stP h) stV (i + 1))), (3, .int (nI (i + 1 + 1)))]) (st2 := []) (w2 := _) (by first | (simp (decide := true) only [nI_succ, fo_succ, qtS_succ, stV, hs, hg, hlt, decide_true, decide_false, cond_true, cond_false, Bool.false_eq_true, if_true, if_false, ite_true, ite_false]; done) | (simp (decide := true) only [nI_succ, fo_succ, qtS_succ, stV, hs, hg, hlt, decide_true, decide_false, cond_true, cond_false, Bool.false_eq_true, if_true, if_false, ite_true, ite_false]; rfl)) rfl rfl ?_
            exact ih11 _
          · have hs : stP h i = true := by first | exact absurd h48 (by decide) | (unfold stP; rw [qtS_succ, hg]; exact decide_eq_true ((nI_succ _).trans h48))
            refine tg_steps 7 rfl ?_
            refine tg_pkV [0, 1, 2, 3] ?_
            refine tg_eqS (L2 := [(0, .ref 64), (1, .int (nI (qtS h (i + 1)))), (2, .int (fo (stP h) stV (i + 1))), (3, .int (nI (i + 1 + 1)))]) (st2 := []) (w2 := _) (by first | (simp (decide := true) only [nI_succ, fo_succ, qtS_succ, stV, hs, hg, hlt, decide_true, decide_false, cond_true, cond_false, Bool.false_eq_true, if_true, if_false, ite_true, ite_false]; done) | (simp (decide := true) only [nI_succ, fo_succ, qtS_succ, stV, hs, hg, hlt, decide_true, decide_false, cond_true, cond_false, Bool.false_eq_true, if_true, if_false, ite_true, ite_false]; rfl)) rfl rfl ?_
            exact ih11 _
set_option maxRecDepth 100000 in
set_option maxHeartbeats 2000000 in
theorem r_far {G : tg_G} {l : List tg_Cl} {h : tp_H} {y : tp_Y} (a : Int32) (b : Int32) : tg_C G 4 mX11_far 0 0 [.ref 64, .int a, .int b] (l, tm_cs h y) (pM l (wFar a b) (.int (wFar a b)) (.int (frM h a b)) h y (h) (y)) := by
  refine tg_intro okX11_far (Nat.le_of_ble_eq_true rfl) ?_
  refine tg_steps 1 rfl ?_
  refine tg_call1 rfl (m_isTile _) rfl rfl rfl  (fun v1 w1 q1 => ?_)
  obtain ⟨rfl, rfl⟩ := q1
  refine tg_ifbeq rfl rfl (fun h4 => ?_) (fun h4 => ?_)
  · refine tg_steps 2 rfl ?_
    refine tg_callV rfl (m_no _ (by first | decide | exact rf_bor _ | exact rf_bd (by assumption))) rfl rfl rfl rfl rfl (fun v25 w25 q25 => ?_)
    obtain ⟨rfl, rfl⟩ := q25
    exact tg_iret (st := []) rfl rfl ⟨Nat.le_of_ble_eq_true rfl, Nat.le_of_ble_eq_true rfl⟩ (by first | exact (pM_refI (by first | (simp (decide := true) only [wFar, decide_true, decide_false, cond_true, cond_false, Bool.false_eq_true, if_true, if_false, ite_true, ite_false, h4]; done) | (simp (decide := true) only [wFar, decide_true, decide_false, cond_true, cond_false, Bool.false_eq_true, if_true, if_false, ite_true, ite_false, h4]; done) | (simp (decide := true) only [wFar, decide_true, decide_false, cond_true, cond_false, Bool.false_eq_true, if_true, if_false, ite_true, ite_false, h4]; rfl) | rfl) (by first | decide | exact rf_bor _ | exact rf_bd (by assumption))) | exact (pM_ok (by first | (simp (decide := true) only [wFar, decide_true, decide_false, cond_true, cond_false, Bool.false_eq_true, if_true, if_false, ite_true, ite_false, h4]; done) | (simp (decide := true) only [wFar, decide_true, decide_false, cond_true, cond_false, Bool.false_eq_true, if_true, if_false, ite_true, ite_false, h4]; done) | (simp (decide := true) only [wFar, decide_true, decide_false, cond_true, cond_false, Bool.false_eq_true, if_true, if_false, ite_true, ite_false, h4]; rfl) | rfl) rfl (yk_rf 39 _)))
  · refine tg_steps 1 rfl ?_
    refine tg_call1 rfl (m_isTile _) rfl rfl rfl  (fun v8 w8 q8 => ?_)
    obtain ⟨rfl, rfl⟩ := q8
    refine tg_ifbeq rfl rfl (fun h11 => ?_) (fun h11 => ?_)
    · refine tg_steps 2 rfl ?_
      refine tg_callV rfl (m_no _ (by first | decide | exact rf_bor _ | exact rf_bd (by assumption))) rfl rfl rfl rfl rfl (fun v25 w25 q25 => ?_)
      obtain ⟨rfl, rfl⟩ := q25
      exact tg_iret (st := []) rfl rfl ⟨Nat.le_of_ble_eq_true rfl, Nat.le_of_ble_eq_true rfl⟩ (by first | exact (pM_refI (by first | (simp (decide := true) only [wFar, decide_true, decide_false, cond_true, cond_false, Bool.false_eq_true, if_true, if_false, ite_true, ite_false, h4, h11]; done) | (simp (decide := true) only [wFar, decide_true, decide_false, cond_true, cond_false, Bool.false_eq_true, if_true, if_false, ite_true, ite_false, h4, h11]; done) | (simp (decide := true) only [wFar, decide_true, decide_false, cond_true, cond_false, Bool.false_eq_true, if_true, if_false, ite_true, ite_false, h4, h11]; rfl) | rfl) (by first | decide | exact rf_bor _ | exact rf_bd (by assumption))) | exact (pM_ok (by first | (simp (decide := true) only [wFar, decide_true, decide_false, cond_true, cond_false, Bool.false_eq_true, if_true, if_false, ite_true, ite_false, h4, h11]; done) | (simp (decide := true) only [wFar, decide_true, decide_false, cond_true, cond_false, Bool.false_eq_true, if_true, if_false, ite_true, ite_false, h4, h11]; done) | (simp (decide := true) only [wFar, decide_true, decide_false, cond_true, cond_false, Bool.false_eq_true, if_true, if_false, ite_true, ite_false, h4, h11]; rfl) | rfl) rfl (yk_rf 39 _)))
    · refine tg_steps 3 rfl ?_
      refine tg_callV rfl (m_farFrom _ _) rfl rfl rfl rfl rfl (fun v17 w17 q17 => ?_)
      obtain ⟨rfl, rfl⟩ := q17
      refine tg_steps 1 rfl ?_
      exact tg_iret (st := []) rfl rfl ⟨Nat.le_of_ble_eq_true rfl, Nat.le_of_ble_eq_true rfl⟩ (by first | exact (pM_refI (by first | (simp (decide := true) only [wFar, decide_true, decide_false, cond_true, cond_false, Bool.false_eq_true, if_true, if_false, ite_true, ite_false, h4, h11]; done) | (simp (decide := true) only [wFar, decide_true, decide_false, cond_true, cond_false, Bool.false_eq_true, if_true, if_false, ite_true, ite_false, h4, h11]; done) | (simp (decide := true) only [wFar, decide_true, decide_false, cond_true, cond_false, Bool.false_eq_true, if_true, if_false, ite_true, ite_false, h4, h11]; rfl) | rfl) (by first | decide | exact rf_bor _ | exact rf_bd (by assumption))) | exact (pM_ok (by first | (simp (decide := true) only [wFar, decide_true, decide_false, cond_true, cond_false, Bool.false_eq_true, if_true, if_false, ite_true, ite_false, h4, h11]; done) | (simp (decide := true) only [wFar, decide_true, decide_false, cond_true, cond_false, Bool.false_eq_true, if_true, if_false, ite_true, ite_false, h4, h11]; done) | (simp (decide := true) only [wFar, decide_true, decide_false, cond_true, cond_false, Bool.false_eq_true, if_true, if_false, ite_true, ite_false, h4, h11]; rfl) | rfl) rfl (yk_rf 39 _)))
def cuM (h : tp_H) (i : Nat) : Bool := decide (frM h (hT h i) (hS h) < 0)
set_option maxRecDepth 100000 in
set_option maxHeartbeats 2000000 in
theorem r_cutOff {G : tg_G} {l : List tg_Cl} {h : tp_H} {y : tp_Y} (hw : wfH h) : tg_C G 4 mX11_cutOff 0 0 [.ref 64] (l, tm_cs h y) (pM l ((0 : Int32)) (.int ((0 : Int32))) (.int (bI (cuM h) (hM h))) h y (h) (y)) := by
  have hm := hw.1
  refine tg_intro okX11_cutOff (Nat.le_of_ble_eq_true rfl) ?_
  refine tg_steps 4 rfl ?_
  refine tg_pkV [0, 1, 2] ?_
  refine tg_eqS (L2 := [(0, .ref 64), (1, .int (bI (cuM h) (0))), (2, .int (nI (0)))]) (st2 := []) (w2 := (l, tm_cs h y)) rfl rfl rfl ?_
  refine tg_down (φ := fun i : Nat => tg_V G 4 mX11_cutOff 0 0 0 0 (pM l ((0 : Int32)) (.int ((0 : Int32))) (.int (bI (cuM h) (hM h))) h y (h) (y)) 4 [(0, .ref 64), (1, .int (bI (cuM h) (i))), (2, .int (nI (i)))] [] (l, tm_cs h y)) (n := hM h) ?_ ?_ 0 (Nat.zero_le _) 
  · refine tg_steps 3 rfl ?_
    refine tg_icge rfl rfl (fun h9 => ?_) (fun h9 => ?_)
    · refine tg_steps 1 rfl ?_
      exact tg_iret (st := []) rfl rfl ⟨Nat.le_of_ble_eq_true rfl, Nat.le_of_ble_eq_true rfl⟩ (pM_ok rfl rfl (yk_rf 39 _))
    · exact absurd (nI_le (Nat.le_refl _) (by omega)) h9
  · intro i hi4 ih4
    refine tg_steps 3 rfl ?_
    refine tg_icge rfl rfl (fun h9 => ?_) (fun h9 => ?_)
    · exact absurd h9 (nI_ge hi4 (by omega))
    · refine tg_steps 5 rfl ?_
      refine tg_ialdN rfl rfl (i) rfl (by omega) (by decide) ?_
      refine tg_steps 2 rfl ?_
      refine tg_callV rfl (m_farFrom _ _) rfl rfl rfl rfl rfl (fun v24 w24 q24 => ?_)
      obtain ⟨rfl, rfl⟩ := q24
      refine tg_ifge rfl rfl (fun h27 => ?_) (fun h27 => ?_)
      · have hcu : cuM h i = false := decide_eq_false (Int32.not_lt.mpr h27)
        refine tg_steps 5 rfl ?_
        refine tg_pkV [0, 1, 2] ?_
        refine tg_eqS (L2 := [(0, .ref 64), (1, .int (bI (cuM h) (i + 1))), (2, .int (nI (i + 1)))]) (st2 := []) (w2 := (l, tm_cs h y)) (by first | (rw [bI_succ, nI_succ, hcu, cond_true]; rfl) | (rw [bI_succ, nI_succ, hcu, cond_false, Int32.or_zero]; rfl)) rfl (by first | (simp (decide := true) only [nI_succ, decide_true, decide_false, cond_true, cond_false, Bool.false_eq_true, if_true, if_false, ite_true, ite_false]; done) | (simp (decide := true) only [nI_succ, decide_true, decide_false, cond_true, cond_false, Bool.false_eq_true, if_true, if_false, ite_true, ite_false]; rfl) | rfl) ?_
        exact ih4
      · have hcu : cuM h i = true := decide_eq_true (Int32.not_le.mp h27)
        refine tg_steps 8 rfl ?_
        refine tg_pkV [0, 1, 2] ?_
        refine tg_eqS (L2 := [(0, .ref 64), (1, .int (bI (cuM h) (i + 1))), (2, .int (nI (i + 1)))]) (st2 := []) (w2 := (l, tm_cs h y)) (by first | (rw [bI_succ, nI_succ, hcu, cond_true]; rfl) | (rw [bI_succ, nI_succ, hcu, cond_false, Int32.or_zero]; rfl)) rfl (by first | (simp (decide := true) only [nI_succ, decide_true, decide_false, cond_true, cond_false, Bool.false_eq_true, if_true, if_false, ite_true, ite_false]; done) | (simp (decide := true) only [nI_succ, decide_true, decide_false, cond_true, cond_false, Bool.false_eq_true, if_true, if_false, ite_true, ite_false]; rfl) | rfl) ?_
        exact ih4
