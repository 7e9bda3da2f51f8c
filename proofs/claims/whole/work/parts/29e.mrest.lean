/-! the public methods of the reference, continued -/
set_option maxRecDepth 100000 in
set_option maxHeartbeats 2000000 in
theorem r_row {G : tg_G} {l : List tg_Cl} {h : tp_H} {y : tp_Y} (ht : yRm y ≤ 16) (c : Int32) : tg_C G 2 mX11_row 0 0 [.ref 64, .int c] (l, tm_cs h y) (pM l (wRow (xOf y) c) (.int (wRow (xOf y) c)) (.int (nI (yRm y + 1))) h y (h) (zRm (zRo y (tg_u (yRo y) (yRm y) c)) (yRm y + 1))) := by
  refine tg_intro okX11_row (Nat.le_of_ble_eq_true rfl) ?_
  refine tg_steps 3 rfl ?_
  refine tg_call1 rfl (m_bound _ _ _) rfl rfl rfl  (fun v4 w4 q4 => ?_)
  obtain ⟨rfl, rfl⟩ := q4
  refine tg_steps 2 rfl ?_
  refine tg_ifne rfl rfl (fun h9 => ?_) (fun h9 => ?_)
  · refine tg_steps 1 rfl ?_
    refine tg_ifeq rfl rfl (fun h25 => absurd h25 (h9)) (fun _ => ?_)
    refine tg_steps 2 rfl ?_
    refine tg_callV rfl (m_no _ (by first | decide | exact rf_bor _ | exact rf_bd (by assumption))) rfl rfl rfl rfl rfl (fun v30 w30 q30 => ?_)
    obtain ⟨rfl, rfl⟩ := q30
    exact tg_iret (st := []) rfl rfl ⟨Nat.le_of_ble_eq_true rfl, Nat.le_of_ble_eq_true rfl⟩ (pM_refI (by first | exact wRow_b (by assumption) | exact (by first | (simp (decide := true) only [wRow, decide_true, decide_false, cond_true, cond_false, Bool.false_eq_true, if_true, if_false, ite_true, ite_false]; done) | (simp (decide := true) only [wRow, decide_true, decide_false, cond_true, cond_false, Bool.false_eq_true, if_true, if_false, ite_true, ite_false]; done) | (simp (decide := true) only [wRow, decide_true, decide_false, cond_true, cond_false, Bool.false_eq_true, if_true, if_false, ite_true, ite_false]; rfl) | rfl)) (by first | decide | exact rf_bor _ | exact rf_bd (by assumption)))
  · obtain ⟨u1, u2⟩ := bd_0 h9
    refine tg_steps 3 rfl ?_
    refine tg_icne rfl rfl (fun h18 => ?_) (fun h18 => ?_)
    · have hl2 : yRm y < 16 := by
        rcases Nat.lt_or_ge (yRm y) 16 with q | q
        · exact q
        · exact absurd (by rw [show yRm y = 16 by omega]; rfl) h18
      have hl3 : nI (xTm (xOf y)) < 16 := nI_lt (b := 16) hl2 (by decide)
      refine tg_steps 1 rfl ?_
      refine tg_ifeq rfl rfl (fun h25 => ?_) (fun h25 => absurd (h9) h25)
      refine tg_steps 5 rfl ?_
      refine tg_iastN rfl rfl (yRm y) rfl hl2 (by decide) ?_
      refine tg_eqW (m_Ro _) ?_
      refine tg_steps 6 rfl ?_
      rw [g_RmRo, nI_p1]
      refine tg_eqW (m_Rm _) ?_
      refine tg_steps 2 rfl ?_
      exact tg_iret (st := []) rfl rfl ⟨Nat.le_of_ble_eq_true rfl, Nat.le_of_ble_eq_true rfl⟩ (pM_ok (by first | exact wRow_b (by assumption) | exact (by first | (simp (decide := true) only [wRow, decide_true, decide_false, cond_true, cond_false, Bool.false_eq_true, if_true, if_false, ite_true, ite_false, u1, u2, hl3]; done) | (simp (decide := true) only [wRow, decide_true, decide_false, cond_true, cond_false, Bool.false_eq_true, if_true, if_false, ite_true, ite_false, u1, u2, hl3]; done) | (simp (decide := true) only [wRow, decide_true, decide_false, cond_true, cond_false, Bool.false_eq_true, if_true, if_false, ite_true, ite_false, u1, u2, hl3]; rfl) | rfl)) rfl (yk_rf 39 _))
    · have hl3 : ¬ nI (xTm (xOf y)) < 16 := by
        show ¬ nI (yRm y) < 16
        rw [h18]; decide
      refine tg_steps 3 rfl ?_
      refine tg_ifeq rfl rfl (fun h25 => absurd h25 (by decide)) (fun _ => ?_)
      refine tg_steps 2 rfl ?_
      refine tg_callV rfl (m_no _ (by first | decide | exact rf_bor _ | exact rf_bd (by assumption))) rfl rfl rfl rfl rfl (fun v30 w30 q30 => ?_)
      obtain ⟨rfl, rfl⟩ := q30
      exact tg_iret (st := []) rfl rfl ⟨Nat.le_of_ble_eq_true rfl, Nat.le_of_ble_eq_true rfl⟩ (pM_refI (by first | exact wRow_b (by assumption) | exact (by first | (simp (decide := true) only [wRow, decide_true, decide_false, cond_true, cond_false, Bool.false_eq_true, if_true, if_false, ite_true, ite_false, u1, u2, hl3]; done) | (simp (decide := true) only [wRow, decide_true, decide_false, cond_true, cond_false, Bool.false_eq_true, if_true, if_false, ite_true, ite_false, u1, u2, hl3]; done) | (simp (decide := true) only [wRow, decide_true, decide_false, cond_true, cond_false, Bool.false_eq_true, if_true, if_false, ite_true, ite_false, u1, u2, hl3]; rfl) | rfl)) (by first | decide | exact rf_bor _ | exact rf_bd (by assumption)))
theorem ju_n {h : tp_H} {y : tp_Y} {i : Nat} (hm : hM h ≤ 7) (hi : i < hM h) (e : hH h i = yRo y i) : juP h (xOf y) i = false := by
  unfold juP
  rw [has_nI hm hi, gO_nI hm hi]
  exact decide_eq_false (fun q => q e)
theorem ju_y {h : tp_H} {y : tp_Y} {i : Nat} (hm : hM h ≤ 7) (hi : i < hM h) (e : ¬ hH h i = yRo y i) : juP h (xOf y) i = true := by
  unfold juP
  rw [has_nI hm hi, gO_nI hm hi]
  exact decide_eq_true e
theorem ju_o {h : tp_H} {y : tp_Y} {i : Nat} (hm : hM h ≤ 7) (hi : hM h ≤ i) (hb : i < 2 ^ 31) : juP h (xOf y) i = true := by
  unfold juP
  have : hasB h (nI i) = false := by
    unfold hasB
    rw [decide_eq_false (nI_pos hb), decide_eq_true (nI_le hi hb)]
    rfl
  rw [this]
  rfl
set_option maxRecDepth 100000 in
set_option maxHeartbeats 2000000 in
theorem r_judge {G : tg_G} {l : List tg_Cl} {h : tp_H} {y : tp_Y} (hw : wfH h) (ht : yRm y ≤ 16) : tg_C G 1 mX11_judge 0 0 [.ref 64] (l, tm_cs h y) (pM l ((0 : Int32)) (.int ((0 : Int32))) (.int (aJud h (xOf y))) h y (h) (zRm y 0)) := by
  have hm := hw.1
  refine tg_intro okX11_judge (Nat.le_of_ble_eq_true rfl) ?_
  refine tg_steps 6 rfl ?_
  refine tg_eqW (m_Rm 0) ?_
  refine tg_steps 2 rfl ?_
  refine tg_pkV [0, 1, 2] ?_
  refine tg_eqS (L2 := [(0, .ref 64), (1, .int (nI (yRm y))), (2, .int (nI (0)))]) (st2 := []) (w2 := (l, tm_cs h (zRm y 0))) rfl rfl rfl ?_
  refine tg_down (φ := fun i : Nat => (aJud h (xOf y) = fiV (juP h (xOf y)) nI (-9) (yRm y - (i)) (i)) → tg_V G 1 mX11_judge 0 0 0 0 (pM l ((0 : Int32)) (.int ((0 : Int32))) (.int (aJud h (xOf y))) h y (h) (zRm y 0)) 12 [(0, .ref 64), (1, .int (nI (yRm y))), (2, .int (nI (i)))] [] (l, tm_cs h (zRm y 0))) (n := yRm y) ?_ ?_ 0 (Nat.zero_le _) (rfl)
  · intro hinv12
    refine tg_steps 2 rfl ?_
    refine tg_icge rfl rfl (fun h14 => ?_) (fun h14 => ?_)
    · refine tg_steps 1 rfl ?_
      exact tg_iret (st := []) rfl rfl ⟨Nat.le_of_ble_eq_true rfl, Nat.le_of_ble_eq_true rfl⟩ (pM_ok rfl (by rw [hinv12, Nat.sub_self]; rfl) (yk_rf 39 _))
    · exact absurd (nI_le (Nat.le_refl _) (by omega)) h14
  · intro i hi12 ih12 hinv12
    rw [show yRm y - i = yRm y - (i + 1) + 1 by omega, fiV_succ _ _ _ (yRm y - (i + 1)) i] at hinv12
    refine tg_steps 2 rfl ?_
    refine tg_icge rfl rfl (fun h14 => ?_) (fun h14 => ?_)
    · exact absurd h14 (nI_ge hi12 (by omega))
    · refine tg_steps 3 rfl ?_
      refine tg_icge rfl rfl (fun h22 => ?_) (fun h22 => ?_)
      · have him : hM h ≤ i := by
          rcases Nat.lt_or_ge i (hM h) with q | q
          · exact absurd h22 (nI_ge q (by omega))
          · exact q
        refine tg_steps 1 rfl ?_
        exact tg_iret (st := []) rfl rfl ⟨Nat.le_of_ble_eq_true rfl, Nat.le_of_ble_eq_true rfl⟩ (pM_ok rfl (by first | (rw [ju_o hm him (by omega)] at hinv12; rw [hinv12]; rfl) | (rw [ju_y hm him h37] at hinv12; rw [hinv12]; rfl)) (yk_rf 39 _))
      · have him : i < hM h := by
          rcases Nat.lt_or_ge i (hM h) with q | q
          · exact q
          · exact absurd (nI_le q (by omega)) h22
        refine tg_steps 3 rfl ?_
        refine tg_ialdN rfl rfl (i) rfl (by omega) (by decide) ?_
        refine tg_steps 3 rfl ?_
        refine tg_ialdN rfl rfl (i) rfl (by omega) (by decide) ?_
        rw [g_RoRm]
        refine tg_iceq rfl rfl (fun h37 => ?_) (fun h37 => ?_)
        · refine tg_steps 2 rfl ?_
          refine tg_pkV [0, 1, 2] ?_
          refine tg_eqS (L2 := [(0, .ref 64), (1, .int (nI (yRm y))), (2, .int (nI (i + 1)))]) (st2 := []) (w2 := (l, tm_cs h (zRm y 0))) (by first | (simp (decide := true) only [nI_succ, decide_true, decide_false, cond_true, cond_false, Bool.false_eq_true, if_true, if_false, ite_true, ite_false, h22, Int32.not_le.mp h22, eq_true h37]; done) | (simp (decide := true) only [nI_succ, decide_true, decide_false, cond_true, cond_false, Bool.false_eq_true, if_true, if_false, ite_true, ite_false, h22, Int32.not_le.mp h22, eq_true h37]; rfl) | rfl) rfl (by first | (simp (decide := true) only [nI_succ, decide_true, decide_false, cond_true, cond_false, Bool.false_eq_true, if_true, if_false, ite_true, ite_false, h22, Int32.not_le.mp h22, eq_true h37]; done) | (simp (decide := true) only [nI_succ, decide_true, decide_false, cond_true, cond_false, Bool.false_eq_true, if_true, if_false, ite_true, ite_false, h22, Int32.not_le.mp h22, eq_true h37]; rfl) | rfl) ?_
          exact ih12 (by rw [ju_n hm him h37] at hinv12; exact hinv12)
        · refine tg_steps 1 rfl ?_
          exact tg_iret (st := []) rfl rfl ⟨Nat.le_of_ble_eq_true rfl, Nat.le_of_ble_eq_true rfl⟩ (pM_ok rfl (by first | (rw [ju_o hm him (by omega)] at hinv12; rw [hinv12]; rfl) | (rw [ju_y hm him h37] at hinv12; rw [hinv12]; rfl)) (yk_rf 39 _))
theorem r_clear {G : tg_G} {l : List tg_Cl} {h : tp_H} {y : tp_Y} : tg_C G 1 mX11_clear 0 0 [.ref 64] (l, tm_cs h y) (pM l (0 : Int32) (.int (0 : Int32)) (.int (nI (yRm y))) h y h (zRm y 0)) :=
  tg_wk_C m_clear (fun v w' q => by obtain ⟨rfl, rfl⟩ := q; exact pM_ok rfl rfl (yk_rf 39 _))
/-- the draws of a winter, as the reference makes them -/
def liV (h : tp_H) (z what : Int32) : Int32 := if what = 0 then abM (pNs 10 (wiS z h (hM h)).2) else hoM (pNs 10 (wiS z h (hM h)).2)
theorem wf_wiS {h : tp_H} (hw : wfH h) (z : Int32) : ∀ i, i ≤ hM h → wfH (wiS z h i).2 := by
  intro i
  induction i with
  | zero => intro _; exact hw
  | succ i ih =>
    intro hi
    rw [wiS_succ]
    show wfH (pinH (putH (wiS z h i).2 (nI i) (drw 24 (nxS (wiS z h i).1))) (nI i) _)
    have hw2 := ih (by omega)
    have hj : i < hM (wiS z h i).2 := by rw [wiS_M]; omega
    rw [putH_j hw2.1 hj]
    refine wf_sP (wf_sT hw2 ?_) _
    exact drw_T _
theorem lt_w {x : Int32} (h0 : 0 ≤ x.toInt) (h : x.toInt < 24) : isT x = true := by
  unfold isT
  rw [decide_eq_false (fun q => ?_), decide_eq_false (fun q => ?_)]
  · rfl
  · rw [Int32.lt_iff_toInt_lt, show (0 : Int32).toInt = 0 from rfl] at q; omega
  · rw [Int32.le_iff_toInt_le, show (24 : Int32).toInt = 24 from rfl] at q; omega
/-- the image of the reference -/
def imY (h : tp_H) (y : tp_Y) : tp_Y := zIk (zCu (zKe (zHi y true) (svA h (yKe (zHi y true)) 0)) 39) true
set_option maxRecDepth 100000 in
set_option maxHeartbeats 2000000 in
theorem r_image {G : tg_G} {l : List tg_Cl} {h : tp_H} {y : tp_Y} : tg_C G 3 mX11_image 0 0 [.ref 64] (l, tm_cs h y) (pM l ((0 : Int32)) (.int ((0 : Int32))) (.int (hN h)) h y (h) (imY h y)) := by
  refine tg_intro okX11_image (Nat.le_of_ble_eq_true rfl) ?_
  refine tg_steps 2 rfl ?_
  refine tg_putz rfl rfl (Or.inr rfl) rfl ?_
  refine tg_eqW (m_Hi true) ?_
  refine tg_steps 3 rfl ?_
  refine tg_callV rfl (m_keep 0 (by decide)) rfl rfl rfl rfl rfl (fun v8 w8 q8 => ?_)
  obtain ⟨rfl, rfl⟩ := q8
  refine tg_steps 2 rfl ?_
  exact tg_iret (st := []) rfl rfl ⟨Nat.le_of_ble_eq_true rfl, Nat.le_of_ble_eq_true rfl⟩ (pM_ok rfl rfl (yk_rf 39 _))
set_option maxRecDepth 100000 in
set_option maxHeartbeats 2000000 in
theorem r_on {G : tg_G} {l : List tg_Cl} {h : tp_H} {y : tp_Y} {g : tp_H} (hg : yHi y = true → hld (yKe y) 0 g) : tg_C G 3 mX11_on 0 0 [.ref 64] (l, tm_cs h y) (pM l (wOn (xOf y)) (.int (wOn (xOf y))) (.int (hN g)) h y (g) (y)) := by
  refine tg_intro okX11_on (Nat.le_of_ble_eq_true rfl) ?_
  refine tg_steps 2 rfl ?_
  refine tg_ifbne rfl rfl (fun h4 => ?_) (fun h4 => ?_)
  · have hg2 := hg h4
    have hx : xPd (xOf y) = true := h4
    refine tg_steps 3 rfl ?_
    refine tg_callV rfl (m_back 0 (by decide) hg2) rfl rfl rfl rfl rfl (fun v17 w17 q17 => ?_)
    obtain ⟨rfl, rfl⟩ := q17
    refine tg_steps 2 rfl ?_
    exact tg_iret (st := []) rfl rfl ⟨Nat.le_of_ble_eq_true rfl, Nat.le_of_ble_eq_true rfl⟩ (pM_ok (by first | (simp (decide := true) only [wOn, decide_true, decide_false, cond_true, cond_false, Bool.false_eq_true, if_true, if_false, ite_true, ite_false, hx]; done) | (simp (decide := true) only [wOn, decide_true, decide_false, cond_true, cond_false, Bool.false_eq_true, if_true, if_false, ite_true, ite_false, hx]; done) | (simp (decide := true) only [wOn, decide_true, decide_false, cond_true, cond_false, Bool.false_eq_true, if_true, if_false, ite_true, ite_false, hx]; rfl) | rfl) rfl (⟨rfl, rfl, rfl, rfl, rfl, rfl, fun _ _ => rfl⟩))
  · have hx : xPd (xOf y) = false := h4
    refine tg_steps 2 rfl ?_
    refine tg_callV rfl (m_no _ (by first | decide | exact rf_bor _ | exact rf_bd (by assumption))) rfl rfl rfl rfl rfl (fun v10 w10 q10 => ?_)
    obtain ⟨rfl, rfl⟩ := q10
    exact tg_iret (st := []) rfl rfl ⟨Nat.le_of_ble_eq_true rfl, Nat.le_of_ble_eq_true rfl⟩ (pM_refI (by first | (simp (decide := true) only [wOn, decide_true, decide_false, cond_true, cond_false, Bool.false_eq_true, if_true, if_false, ite_true, ite_false, hx]; done) | (simp (decide := true) only [wOn, decide_true, decide_false, cond_true, cond_false, Bool.false_eq_true, if_true, if_false, ite_true, ite_false, hx]; done) | (simp (decide := true) only [wOn, decide_true, decide_false, cond_true, cond_false, Bool.false_eq_true, if_true, if_false, ite_true, ite_false, hx]; rfl) | rfl) (by first | decide | exact rf_bor _ | exact rf_bd (by assumption)))
theorem cou_a (x : tp_X) (h : tp_H) {v : Int32} (c1 : ¬ v ≤ 10) (c2 : ¬ 16 < v) : aCou h x v = xRe x (nN (v - 10)) := by
  have hn : ∀ k : Int32, k ≤ 10 → ¬ v = k := fun k hk e => c1 (e ▸ hk)
  unfold aCou
  rw [if_neg (hn 0 (by decide)), if_neg (hn 1 (by decide)), if_neg (hn 2 (by decide)), if_neg (hn 3 (by decide)), if_neg (hn 4 (by decide)), if_neg (hn 5 (by decide)), if_neg (hn 6 (by decide)), if_neg (hn 7 (by decide)), if_neg c1, if_neg c2]
set_option maxRecDepth 100000 in
set_option maxHeartbeats 2000000 in
theorem r_count {G : tg_G} {l : List tg_Cl} {h : tp_H} {y : tp_Y} (hw : wfH h) (what : Int32) : tg_C G 3 mX11_count 0 0 [.ref 64, .int what] (l, tm_cs h y) (pM l ((0 : Int32)) (.int ((0 : Int32))) (.int (aCou h (xOf y) what)) h y (h) (y)) := by
  have hm := hw.1
  refine tg_intro okX11_count (Nat.le_of_ble_eq_true rfl) ?_
  refine tg_steps 3 rfl ?_
  refine tg_call1 rfl (m_isIn _ _ _) rfl rfl rfl  (fun v5 w5 q5 => ?_)
  obtain ⟨rfl, rfl⟩ := q5
  try rw [inB_up]
  refine tg_ifbeq rfl rfl (fun h8 => ?_) (fun h8 => ?_)
  · refine tg_steps 1 rfl ?_
    refine tg_tsw rfl ?_
    refine And.intro (fun h22_0 => ?_) (fun h22_0 => ?_)
    · refine tg_steps 2 rfl ?_
      exact tg_iret (st := []) rfl rfl ⟨Nat.le_of_ble_eq_true rfl, Nat.le_of_ble_eq_true rfl⟩ (pM_ok rfl (by first | (simp (decide := true) only [aCou, decide_true, decide_false, cond_true, cond_false, Bool.false_eq_true, if_true, if_false, ite_true, ite_false, h8, eq_true h22_0]; done) | (simp (decide := true) only [aCou, decide_true, decide_false, cond_true, cond_false, Bool.false_eq_true, if_true, if_false, ite_true, ite_false, h8, h22_0]; done) | (simp (decide := true) only [aCou, decide_true, decide_false, cond_true, cond_false, Bool.false_eq_true, if_true, if_false, ite_true, ite_false, h8, eq_true h22_0]; rfl) | rfl) (yk_rf 39 _))
    refine And.intro (fun h22_1 => ?_) (fun h22_1 => ?_)
    · refine tg_steps 2 rfl ?_
      exact tg_iret (st := []) rfl rfl ⟨Nat.le_of_ble_eq_true rfl, Nat.le_of_ble_eq_true rfl⟩ (pM_ok rfl (by first | (simp (decide := true) only [aCou, decide_true, decide_false, cond_true, cond_false, Bool.false_eq_true, if_true, if_false, ite_true, ite_false, h8, h22_0, eq_true h22_1]; done) | (simp (decide := true) only [aCou, decide_true, decide_false, cond_true, cond_false, Bool.false_eq_true, if_true, if_false, ite_true, ite_false, h8, h22_0, h22_1]; done) | (simp (decide := true) only [aCou, decide_true, decide_false, cond_true, cond_false, Bool.false_eq_true, if_true, if_false, ite_true, ite_false, h8, h22_0, eq_true h22_1]; rfl) | rfl) (yk_rf 39 _))
    refine And.intro (fun h22_2 => ?_) (fun h22_2 => ?_)
    · refine tg_steps 2 rfl ?_
      exact tg_iret (st := []) rfl rfl ⟨Nat.le_of_ble_eq_true rfl, Nat.le_of_ble_eq_true rfl⟩ (pM_ok rfl (by first | (simp (decide := true) only [aCou, decide_true, decide_false, cond_true, cond_false, Bool.false_eq_true, if_true, if_false, ite_true, ite_false, h8, h22_0, h22_1, eq_true h22_2]; done) | (simp (decide := true) only [aCou, decide_true, decide_false, cond_true, cond_false, Bool.false_eq_true, if_true, if_false, ite_true, ite_false, h8, h22_0, h22_1, h22_2]; done) | (simp (decide := true) only [aCou, decide_true, decide_false, cond_true, cond_false, Bool.false_eq_true, if_true, if_false, ite_true, ite_false, h8, h22_0, h22_1, eq_true h22_2]; rfl) | rfl) (yk_rf 39 _))
    refine And.intro (fun h22_3 => ?_) (fun h22_3 => ?_)
    · refine tg_steps 2 rfl ?_
      exact tg_iret (st := []) rfl rfl ⟨Nat.le_of_ble_eq_true rfl, Nat.le_of_ble_eq_true rfl⟩ (pM_ok rfl (by first | (simp (decide := true) only [aCou, decide_true, decide_false, cond_true, cond_false, Bool.false_eq_true, if_true, if_false, ite_true, ite_false, h8, h22_0, h22_1, h22_2, eq_true h22_3]; done) | (simp (decide := true) only [aCou, decide_true, decide_false, cond_true, cond_false, Bool.false_eq_true, if_true, if_false, ite_true, ite_false, h8, h22_0, h22_1, h22_2, h22_3]; done) | (simp (decide := true) only [aCou, decide_true, decide_false, cond_true, cond_false, Bool.false_eq_true, if_true, if_false, ite_true, ite_false, h8, h22_0, h22_1, h22_2, eq_true h22_3]; rfl) | rfl) (yk_rf 39 _))
    refine And.intro (fun h22_4 => ?_) (fun h22_4 => ?_)
    · refine tg_steps 1 rfl ?_
      refine tg_callV rfl (m_aboardNow hm) rfl rfl rfl rfl rfl (fun v89 w89 q89 => ?_)
      obtain ⟨rfl, rfl⟩ := q89
      exact tg_iret (st := []) rfl rfl ⟨Nat.le_of_ble_eq_true rfl, Nat.le_of_ble_eq_true rfl⟩ (pM_ok rfl (by first | (simp (decide := true) only [aCou, decide_true, decide_false, cond_true, cond_false, Bool.false_eq_true, if_true, if_false, ite_true, ite_false, h8, h22_0, h22_1, h22_2, h22_3, eq_true h22_4]; done) | (simp (decide := true) only [aCou, decide_true, decide_false, cond_true, cond_false, Bool.false_eq_true, if_true, if_false, ite_true, ite_false, h8, h22_0, h22_1, h22_2, h22_3, h22_4]; done) | (simp (decide := true) only [aCou, decide_true, decide_false, cond_true, cond_false, Bool.false_eq_true, if_true, if_false, ite_true, ite_false, h8, h22_0, h22_1, h22_2, h22_3, eq_true h22_4]; rfl) | rfl) (yk_rf 39 _))
    refine And.intro (fun h22_5 => ?_) (fun h22_5 => ?_)
    · refine tg_steps 1 rfl ?_
      refine tg_callV rfl (m_pinnedNow hm) rfl rfl rfl rfl rfl (fun v94 w94 q94 => ?_)
      obtain ⟨rfl, rfl⟩ := q94
      exact tg_iret (st := []) rfl rfl ⟨Nat.le_of_ble_eq_true rfl, Nat.le_of_ble_eq_true rfl⟩ (pM_ok rfl (by first | (simp (decide := true) only [aCou, decide_true, decide_false, cond_true, cond_false, Bool.false_eq_true, if_true, if_false, ite_true, ite_false, h8, h22_0, h22_1, h22_2, h22_3, h22_4, eq_true h22_5]; done) | (simp (decide := true) only [aCou, decide_true, decide_false, cond_true, cond_false, Bool.false_eq_true, if_true, if_false, ite_true, ite_false, h8, h22_0, h22_1, h22_2, h22_3, h22_4, h22_5]; done) | (simp (decide := true) only [aCou, decide_true, decide_false, cond_true, cond_false, Bool.false_eq_true, if_true, if_false, ite_true, ite_false, h8, h22_0, h22_1, h22_2, h22_3, h22_4, eq_true h22_5]; rfl) | rfl) (yk_rf 39 _))
    refine And.intro (fun h22_6 => ?_) (fun h22_6 => ?_)
    · refine tg_steps 2 rfl ?_
      exact tg_iret (st := []) rfl rfl ⟨Nat.le_of_ble_eq_true rfl, Nat.le_of_ble_eq_true rfl⟩ (pM_ok rfl (by first | (simp (decide := true) only [aCou, decide_true, decide_false, cond_true, cond_false, Bool.false_eq_true, if_true, if_false, ite_true, ite_false, h8, h22_0, h22_1, h22_2, h22_3, h22_4, h22_5, eq_true h22_6]; done) | (simp (decide := true) only [aCou, decide_true, decide_false, cond_true, cond_false, Bool.false_eq_true, if_true, if_false, ite_true, ite_false, h8, h22_0, h22_1, h22_2, h22_3, h22_4, h22_5, h22_6]; done) | (simp (decide := true) only [aCou, decide_true, decide_false, cond_true, cond_false, Bool.false_eq_true, if_true, if_false, ite_true, ite_false, h8, h22_0, h22_1, h22_2, h22_3, h22_4, h22_5, eq_true h22_6]; rfl) | rfl) (yk_rf 39 _))
    refine And.intro (fun h22_7 => ?_) (fun h22_7 => ?_)
    · refine tg_steps 2 rfl ?_
      exact tg_iret (st := []) rfl rfl ⟨Nat.le_of_ble_eq_true rfl, Nat.le_of_ble_eq_true rfl⟩ (pM_ok rfl (by first | (simp (decide := true) only [aCou, decide_true, decide_false, cond_true, cond_false, Bool.false_eq_true, if_true, if_false, ite_true, ite_false, h8, h22_0, h22_1, h22_2, h22_3, h22_4, h22_5, h22_6, eq_true h22_7]; done) | (simp (decide := true) only [aCou, decide_true, decide_false, cond_true, cond_false, Bool.false_eq_true, if_true, if_false, ite_true, ite_false, h8, h22_0, h22_1, h22_2, h22_3, h22_4, h22_5, h22_6, h22_7]; done) | (simp (decide := true) only [aCou, decide_true, decide_false, cond_true, cond_false, Bool.false_eq_true, if_true, if_false, ite_true, ite_false, h8, h22_0, h22_1, h22_2, h22_3, h22_4, h22_5, h22_6, eq_true h22_7]; rfl) | rfl) (yk_rf 39 _))
    refine tg_steps 1 rfl ?_
    exact tg_iret (st := []) rfl rfl ⟨Nat.le_of_ble_eq_true rfl, Nat.le_of_ble_eq_true rfl⟩ (pM_ok rfl (by rcases cou_out h8 with c | ⟨c, d⟩ <;> simp (decide := true) only [aCou, c, d, decide_true, decide_false, cond_true, cond_false, Bool.false_eq_true, if_true, if_false, ite_true, ite_false, h8, h22_0, h22_1, h22_2, h22_3, h22_4, h22_5, h22_6, h22_7] <;> rfl) (yk_rf 39 _))
  · obtain ⟨c1, c2⟩ := cou_in h8
    obtain ⟨j, hj, ej, cj⟩ := cou_j c1 c2
    refine tg_steps 5 rfl ?_
    refine tg_ialdN rfl rfl (j) ej hj (by decide) ?_
    exact tg_iret (st := []) rfl rfl ⟨Nat.le_of_ble_eq_true rfl, Nat.le_of_ble_eq_true rfl⟩ (pM_ok rfl (by rw [cou_a (xOf y) h c1 c2, cj]; rfl) (yk_rf 39 _))
