/-! the public methods of the reference, continued -/
set_option maxRecDepth 100000 in
set_option maxHeartbeats 2000000 in
theorem r_row {G : tg_G} {l : List tg_Cl} {h : tp_H} {y : tp_Y} (ht : yRm y ≤ 16) (c : Int32) : tg_C G 2 mX11_row 0 0 [.ref 64, .int c] (l, tm_cs h y) (pM l (wRow (xOf y) c) (.int (wRow (xOf y) c)) (.int (nI (yRm y + 1))) h y (h) (zRm (zRo y (tg_u (yRo y) (yRm y) c)) (yRm y + 1))) := by
  refine tg_intro okX11_row (Nat.le_of_ble_eq_true rfl) ?_
  refine tg_steps 3 rfl ?_
  refine tg_call1 rfl (m_bound _ _ _) rfl rfl rfl  (fun v4 w4 q4 => ?_)
  obtain ⟨rfl, rfl⟩ := q4
  refine tg_steps 2 rfl ?_
  refine tg_ifne rfl rfl (fun h9 => ?_) (fun h9 => ?_)
  · refine tg_steps 1 rfl ?_
    refine tg_ifeq rfl rfl (fun h25 => absurd h25 (h9)) (fun _ => ?_)
    refine tg_steps 2 rfl ?_
    refine tg_callV rfl (m_no _ (by first | decide | exact rf_bor _ | exact rf_bd (by assumption))) rfl rfl rfl rfl rfl (fun v30 w30 q30 => ?_)
    obtain ⟨rfl, rfl⟩ := q30
    exact tg_iret (st := []) rfl rfl ⟨Nat.le_of_ble_eq_true rfl, Nat.le_of_ble_eq_true rfl⟩ (pM_refI (by first | exact wRow_b (by assumption) | exact (by first | (simp (decide := true) only [wRow, decide_true, decide_false, cond_true, cond_false, Bool.false_eq_true, if_true, if_false, ite_true, ite_false]; done) | (simp (decide := true) only [wRow, decide_true, decide_false, cond_true, cond_false, Bool.false_eq_true, if_true, if_false, ite_true, ite_false]; done) | (simp (decide := true) only [wRow, decide_true, decide_false, cond_true, cond_false, Bool.false_eq_true, if_true, if_false, ite_true, ite_false]; rfl) | rfl)) (by first | decide | exact rf_bor _ | exact rf_bd (by assumption)))
  · obtain ⟨u1, u2⟩ := bd_0 h9
    refine tg_steps 3 rfl ?_
    refine tg_icne rfl rfl (fun h18 => ?_) (fun h18 => ?_)
    · have hl2 : yRm y < 16 := by
        rcases Nat.lt_or_ge (yRm y) 16 with q | q
        · exact q
        · exact absurd (by rw [show yRm y = 16 by omega]; rfl) h18
      have hl3 : nI (xTm (xOf y)) < 16 := nI_lt (b := 16) hl2 (by decide)
      refine tg_steps 1 rfl ?_
      refine tg_ifeq rfl rfl (fun h25 => ?_) (fun h25 => absurd (h9) h25)
      refine tg_steps 5 rfl ?_
      refine tg_iastN rfl rfl (yRm y) rfl hl2 (by decide) ?_
      refine tg_eqW (m_Ro _) ?_
      refine tg_steps 6 rfl ?_
      rw [g_RmRo, nI_p1]
      refine tg_eqW (m_Rm _) ?_
      refine tg_steps 2 rfl ?_
      exact tg_iret (st := []) rfl rfl ⟨Nat.le_of_ble_eq_true rfl, Nat.le_of_ble_eq_true rfl⟩ (pM_ok (by first | exact wRow_b (by assumption) | exact (by first | (simp (decide := true) only [wRow, decide_true, decide_false, cond_true, cond_false, Bool.false_eq_true, if_true, if_false, ite_true, ite_false, u1, u2, hl3]; done) | (simp (decide := true) only [wRow, decide_true, decide_false, cond_true, cond_false, Bool.false_eq_true, if_true, if_false, ite_true, ite_false, u1, u2, hl3]; done) | (simp (decide := true) only [wRow, decide_true, decide_false, cond_true, cond_false, Bool.false_eq_true, if_true, if_false, ite_true, ite_false, u1, u2, hl3]; rfl) | rfl)) rfl (yk_rf 39 _))
    · have hl3 : ¬ nI (xTm (xOf y)) < 16 := by
        show ¬ nI (yRm y) < 16
        rw [h18]; decide
      refine tg_steps 3 rfl ?_
      refine tg_ifeq rfl rfl (fun h25 => absurd h25 (by decide)) (fun _ => ?_)
      refine tg_steps 2 rfl ?_
      refine tg_callV rfl (m_no _ (by first | decide | exact rf_bor _ | exact rf_bd (by assumption))) rfl rfl rfl rfl rfl (fun v30 w30 q30 => ?_)
      obtain ⟨rfl, rfl⟩ := q30
      exact tg_iret (st := []) rfl rfl ⟨Nat.le_of_ble_eq_true rfl, Nat.le_of_ble_eq_true rfl⟩ (pM_refI (by first | exact wRow_b (by assumption) | exact (by first | (simp (decide := true) only [wRow, decide_true, decide_false, cond_true, cond_false, Bool.false_eq_true, if_true, if_false, ite_true, ite_false, u1, u2, hl3]; done) | (simp (decide := true) only [wRow, decide_true, decide_false, cond_true, cond_false, Bool.false_eq_true, if_true, if_false, ite_true, ite_false, u1, u2, hl3]; done) | (simp (decide := true) only [wRow, decide_true, decide_false, cond_true, cond_false, Bool.false_eq_true, if_true, if_false, ite_true, ite_false, u1, u2, hl3]; rfl) | rfl)) (by first | decide | exact rf_bor _ | exact rf_bd (by assumption)))
theorem ju_n {h : tp_H} {y : tp_Y} {i : Nat} (hm : hM h ≤ 7) (hi : i < hM h) (e : hH h i = yRo y i) : juP h (xOf y) i = false := by
  unfold juP
  rw [has_nI hm hi, gO_nI hm hi]
  exact decide_eq_false (fun q => q e)
theorem ju_y {h : tp_H} {y : tp_Y} {i : Nat} (hm : hM h ≤ 7) (hi : i < hM h) (e : ¬ hH h i = yRo y i) : juP h (xOf y) i = true := by
  unfold juP
  rw [has_nI hm hi, gO_nI hm hi]
  exact decide_eq_true e
theorem ju_o {h : tp_H} {y : tp_Y} {i : Nat} (hm : hM h ≤ 7) (hi : hM h ≤ i) (hb : i < 2 ^ 31) : juP h (xOf y) i = true := by
  unfold juP
  have : hasB h (nI i) = false := by
    unfold hasB
    rw [decide_eq_false (nI_pos hb), decide_eq_true (nI_le hi hb)]
    rfl
  rw [this]
  rfl
set_option maxRecDepth 100000 in
set_option maxHeartbeats 2000000 in
theorem r_judge {G : tg_G} {l : List tg_Cl} {h : tp_H} {y : tp_Y} (hw : wfH h) (ht : yRm y ≤ 16) : tg_C G 1 mX11_judge 0 0 [.ref 64] (l, tm_cs h y) (pM l ((0 : Int32)) (.int ((0 : Int32))) (.int (aJud h (xOf y))) h y (h) (zRm y 0)) := by
  have hm := hw.1
  refine tg_intro okX11_judge (Nat.le_of_ble_eq_true rfl) ?_
  refine tg_steps 6 rfl ?_
  refine tg_eqW (m_Rm 0) ?_
  refine tg_steps 2 rfl ?_
  refine tg_pkV [0, 1, 2] ?_
  refine tg_eqS (L2 := [(0, .ref 64), (1, .int (nI (yRm y))), (2, .int (nI (0)))]) (st2 := []) (w2 := (l, tm_cs h (zRm y 0))) rfl rfl rfl ?_
  refine tg_down (φ := fun i : Nat => (aJud h (xOf y) = fiV (juP h (xOf y)) nI (-9) (yRm y - (i)) (i)) → tg_V G 1 mX11_judge 0 0 0 0 (pM l ((0 : Int32)) (.int ((0 : Int32))) (.int (aJud h (xOf y))) h y (h) (zRm y 0)) 12 [(0, .ref 64), (1, .int (nI (yRm y))), (2, .int (nI (i)))] [] (l, tm_cs h (zRm y 0))) (n := yRm y) ?_ ?_ 0 (Nat.zero_le _) (rfl)
  · intro hinv12
    refine tg_steps 2 rfl ?_
    refine tg_icge rfl rfl (fun h14 => ?_) (fun h14 => ?_)
    · refine tg_steps 1 rfl ?_
      exact tg_iret (st := []) rfl rfl ⟨Nat.le_of_ble_eq_true rfl, Nat.le_of_ble_eq_true rfl⟩ (pM_ok rfl (by rw [hinv12, Nat.sub_self]; rfl) (yk_rf 39 _))
    · exact absurd (nI_le (Nat.le_refl _) (by omega)) h14
  · intro i hi12 ih12 hinv12
    rw [show yRm y - i = yRm y - (i + 1) + 1 by omega, fiV_succ _ _ _ (yRm y - (i + 1)) i] at hinv12
    refine tg_steps 2 rfl ?_
    refine tg_icge rfl rfl (fun h14 => ?_) (fun h14 => ?_)
    · exact absurd h14 (nI_ge hi12 (by omega))
    · refine tg_steps 3 rfl ?_
      refine tg_icge rfl rfl (fun h22 => ?_) (fun h22 => ?_)
      · have him : hM h ≤ i := by
          rcases Nat.lt_or_ge i (hM h) with q | q
          · exact absurd h22 (nI_ge q (by omega))
          · exact q
        refine tg_steps 1 rfl ?_
        exact tg_iret (st := []) rfl rfl ⟨Nat.le_of_ble_eq_true rfl, Nat.le_of_ble_eq_true rfl⟩ (pM_ok rfl (by first | (rw [ju_o hm him (by omega)] at hinv12; rw [hinv12]; rfl) | (rw [ju_y hm him h37] at hinv12; rw [hinv12]; rfl)) (yk_rf 39 _))
      · have him : i < hM h := by
          rcases Nat.lt_or_ge i (hM h) with q | q
          · exact q
          · exact absurd (nI_le q (by omega)) h22
        refine tg_steps 3 rfl ?_
        refine tg_ialdN rfl rfl (i) rfl (by omega) (by decide) ?_
        refine tg_steps 3 rfl ?_
        refine tg_ialdN rfl rfl (i) rfl (by omega) (by decide) ?_
        rw [g_RoRm]
        refine tg_iceq rfl rfl (fun h37 => ?_) (fun h37 => ?_)
        · refine tg_steps 2 rfl ?_
          refine tg_pkV [0, 1, 2] ?_
          refine tg_eqS (L2 := [(0, .ref 64), (1, .int (nI (yRm y))), (2, .int (nI (i + 1)))]) (st2 := []) (w2 := (l, tm_cs h (zRm y 0))) (by first | (simp (decide := true) only [nI_succ, decide_true, decide_false, cond_true, cond_false, Bool.false_eq_true, if_true, if_false, ite_true, ite_false, h22, Int32.not_le.mp h22, eq_true h37]; done) | (simp (decide := true) only [nI_succ, decide_true, decide_false, cond_true, cond_false, Bool.false_eq_true, if_true, if_false, ite_true, ite_false, h22, Int32.not_le.mp h22, eq_true h37]; rfl) | rfl) rfl (by first | (simp (decide := true) only [nI_succ, decide_true, decide_false, cond_true, cond_false, Bool.false_eq_true, if_true, if_false, ite_true, ite_false, h22, Int32.not_le.mp h22, eq_true h37]; done) | (simp (decide := true) only [nI_succ, decide_true, decide_false, cond_true, cond_false, Bool.false_eq_true, if_true, if_false, ite_true, ite_false, h22, Int32.not_le.mp h22, eq_true h37]; rfl) | rfl) ?_
          exact ih12 (by rw [ju_n hm him h37] at hinv12; exact hinv12)
        · refine tg_steps 1 rfl ?_
          exact tg_iret (st := []) rfl rfl ⟨Nat.le_of_ble_eq_true rfl, Nat.le_of_ble_eq_true rfl⟩ (pM_ok rfl (by first | (rw [ju_o hm him (by omega)] at hinv12; rw [hinv12]; rfl) | (rw [ju_y hm him h37] at hinv12; rw [hinv12]; rfl)) (yk_rf 39 _))
theorem r_clear {G : tg_G} {l : List tg_Cl} {h : tp_H} {y : tp_Y} : tg_C G 1 mX11_clear 0 0 [.ref 64] (l, tm_cs h y) (pM l (0 : Int32) (.int (0 : Int32)) (.int (nI (yRm y))) h y h (zRm y 0)) :=
  tg_wk_C m_clear (fun v w' q => by obtain ⟨rfl, rfl⟩ := q; exact pM_ok rfl rfl (yk_rf 39 _))
/-- the draws of a winter, as the reference makes them -/
theorem lt_w {x : Int32} (h0 : 0 ≤ x.toInt) (h : x.toInt < 24) : isT x = true := by
  unfold isT
  rw [decide_eq_false (fun q => by rw [Int32.lt_iff_toInt_lt, show (0 : Int32).toInt = 0 from rfl] at q; omega), decide_eq_false (fun q => by rw [Int32.le_iff_toInt_le, show (24 : Int32).toInt = 24 from rfl] at q; omega)]
  rfl
theorem and_pos (z : Int32) : 0 ≤ (z &&& 2147483647).toInt := by
  rw [← Int32.toInt_toBitVec, Int32.toBitVec_and, BitVec.toInt_eq_toNat_of_msb]
  · exact Int.natCast_nonneg _
  · rw [BitVec.msb_and, show (2147483647 : Int32).toBitVec.msb = false from by decide, Bool.and_false]
theorem drw_T (z : Int32) : isT (drw 24 z) = true := by
  rw [drw_1 (by decide)]
  have h0 := and_pos z
  generalize z &&& 2147483647 = x at h0
  have h1 : (x / 256).toInt = x.toInt.tdiv 256 := Int32.toInt_div_of_ne_right x 256 (by decide)
  have h2 : 0 ≤ (x / 256).toInt := by rw [h1]; exact Int.tdiv_nonneg h0 (by decide)
  have h3 : (x / 256 % 24).toInt = (x / 256).toInt.tmod 24 := Int32.toInt_mod _ _
  refine lt_w ?_ ?_
  · rw [h3]; exact Int.tmod_nonneg _ h2
  · rw [h3]; exact Int.tmod_lt_of_pos _ (by decide)
theorem wf_wiS {h : tp_H} (hw : wfH h) (z : Int32) : ∀ i, i ≤ hM h → wfH (wiS z h i).2 := by
  intro i
  induction i with
  | zero => intro _; exact hw
  | succ i ih =>
    intro hi
    rw [wiS_succ]
    show wfH (pinH (putH (wiS z h i).2 (nI i) (drw 24 (nxS (wiS z h i).1))) (nI i) _)
    have hw2 := ih (by omega)
    have hj : i < hM (wiS z h i).2 := by rw [wiS_M]; omega
    rw [putH_j hw2.1 hj]
    exact wf_sP (wf_sT hw2 (drw_T _)) _
theorem wiO_0 {h : tp_H} {z what : Int32} {i : Nat} (e : what = 0) : (wiO h z what (i + 1)).2 = (wiO h z what i).2 + abM (pNs 10 (wiS (wiO h z what i).1 h (hM h)).2) := by
  rw [wiO_succ]
  show _ + wiV h _ what = _
  unfold wiV wiE
  rw [if_pos e]
theorem wiO_1 {h : tp_H} {z what : Int32} {i : Nat} (e : ¬ what = 0) : (wiO h z what (i + 1)).2 = (wiO h z what i).2 + hoM (pNs 10 (wiS (wiO h z what i).1 h (hM h)).2) := by
  rw [wiO_succ]
  show _ + wiV h _ what = _
  unfold wiV wiE
  rw [if_neg e]
theorem w_Lo0 (y : tp_Y) : zLo y (yLo y) = y := by
  obtain ⟨a1, a2, a3, a4, a5, a6, a7, a8, a9, a10, a11, a12, a13, a14, a15, a16, a17⟩ := y
  exact Eq.trans (b := ((a1, a2, a3, a4, a5, a6, a7, a8, a9, a10, a11, a12, a13, a14, a15, a16, a17) : tp_Y)) rfl rfl
theorem w_LoLo (y : tp_Y) (a b : Int32) : zLo (zLo y a) b = zLo y b := by
  obtain ⟨a1, a2, a3, a4, a5, a6, a7, a8, a9, a10, a11, a12, a13, a14, a15, a16, a17⟩ := y
  exact Eq.trans (b := ((a1, a2, a3, a4, a5, a6, a7, a8, a9, a10, a11, a12, a13, a14, a15, a16, b) : tp_Y)) rfl rfl
theorem w_LoOut (y : tp_Y) (m s : Int32) : zIk (zCu (zMo (zLo y s) m) 117) false = zLo (fgY (zMo y m)) s := by
  obtain ⟨a1, a2, a3, a4, a5, a6, a7, a8, a9, a10, a11, a12, a13, a14, a15, a16, a17⟩ := y
  exact Eq.trans (b := ((a1, a2, a3, a4, a5, a6, a7, a8, a9, a10, false, 117, m, a14, a15, a16, s) : tp_Y)) rfl rfl
theorem thY_Lo (h : tp_H) (y : tp_Y) : yLo (thY h y) = yLo y := rfl
theorem hld_lo {y : tp_Y} {h : tp_H} (m s : Int32) (hk : hld (yKe y) 78 h) : hld (yKe (zMo (zLo y s) m)) 78 h := by
  rw [g_KeMo, g_KeLo]
  exact hk
theorem wi_put {h : tp_H} {i : Nat} (hm : hM h ≤ 7) (hi : i < hM h) (a : Int32) : sT h (tg_u (hT h) i a) = putH h (nI i) a := (putH_j hm hi a).symm
theorem wi_pin {h : tp_H} {i : Nat} (hm : hM h ≤ 7) (hi : i < hM h) (a : Int32) : sP h (tg_u (hP h) i a) = pinH h (nI i) a := (pinH_j hm hi a).symm
set_option maxRecDepth 100000 in
set_option maxHeartbeats 2000000 in
theorem r_lots {G : tg_G} {l : List tg_Cl} {h : tp_H} {y : tp_Y} (hw : wfH h) (k : Int32) (z : Int32) (what : Int32) : tg_C G 7 mX11_lots 0 0 [.ref 64, .int k, .int z, .int what] (l, tm_cs h y) (pM l (wLot k what) (.int (wLot k what)) (.int (aLot h k z what)) h y (h) (y)) := by
  have hm := hw.1
  refine tg_intro okX11_lots (Nat.le_of_ble_eq_true rfl) ?_
  refine tg_steps 3 rfl ?_
  refine tg_call1 rfl (m_bound _ _ _) rfl rfl rfl  (fun v4 w4 q4 => ?_)
  obtain ⟨rfl, rfl⟩ := q4
  refine tg_steps 2 rfl ?_
  refine tg_ifne rfl rfl (fun h11 => ?_) (fun h11 => ?_)
  · refine tg_steps 1 rfl ?_
    refine tg_ifeq rfl rfl (fun h29 => absurd h29 (h11)) (fun _ => ?_)
    refine tg_steps 2 rfl ?_
    refine tg_callV rfl (m_no _ (by first | decide | exact rf_bor _ | exact rf_bd (by assumption))) rfl rfl rfl rfl rfl (fun v35 w35 q35 => ?_)
    obtain ⟨rfl, rfl⟩ := q35
    exact tg_iret (st := []) rfl rfl ⟨Nat.le_of_ble_eq_true rfl, Nat.le_of_ble_eq_true rfl⟩ (pM_refI (by first | exact wLot_b (by assumption) | exact (by first | (simp (decide := true) only [wLot, decide_true, decide_false, cond_true, cond_false, Bool.false_eq_true, if_true, if_false, ite_true, ite_false]; done) | (simp (decide := true) only [wLot, decide_true, decide_false, cond_true, cond_false, Bool.false_eq_true, if_true, if_false, ite_true, ite_false]; done) | (simp (decide := true) only [wLot, decide_true, decide_false, cond_true, cond_false, Bool.false_eq_true, if_true, if_false, ite_true, ite_false]; rfl) | rfl)) (by first | decide | exact rf_bor _ | exact rf_bd (by assumption)))
  · obtain ⟨u1, u2⟩ := bd_0 h11
    refine tg_steps 3 rfl ?_
    refine tg_call1 rfl (m_isIn _ _ _) rfl rfl rfl  (fun v17 w17 q17 => ?_)
    obtain ⟨rfl, rfl⟩ := q17
    try rw [inB_up]
    refine tg_ifbne rfl rfl (fun h20 => ?_) (fun h20 => ?_)
    · refine tg_steps 1 rfl ?_
      refine tg_ifeq rfl rfl (fun h29 => ?_) (fun h29 => absurd (h11) h29)
      obtain ⟨j, hj, rfl⟩ := nI_of2 (x := k) (M := 20) (n := 20) rfl (fun q => u1 (Int32.lt_trans q (by decide))) (Int32.not_lt.mp u2)
      have cj : nN (nI j) = j := nI_clamp (by omega)
      refine tg_steps 3 rfl ?_
      refine tg_eqW (m_Lo _) ?_
      refine tg_steps 4 rfl ?_
      refine tg_pkV [0, 1, 2, 3, 5, 6] ?_
      refine tg_eqS (L2 := [(0, .ref 64), (1, .int (nI j)), (2, .int z), (3, .int what), (5, .int (wiO h z what (0)).2), (6, .int (nI (0)))]) (st2 := []) (w2 := (l, tm_cs h (zLo y z))) rfl rfl rfl ?_
      refine tg_down (φ := fun i : Nat => ∀ (y2 : tp_Y) (e2 : yk 78 y y2), tg_V G 7 mX11_lots 0 0 0 0 (pM l (wLot (nI j) what) (.int (wLot (nI j) what)) (.int (aLot h (nI j) z what)) h y (h) (y)) 50 [(0, .ref 64), (1, .int (nI j)), (2, .int z), (3, .int what), (5, .int (wiO h z what (i)).2), (6, .int (nI (i)))] [] (l, tm_cs h (zLo y2 (wiO h z what (i)).1))) (n := j) ?_ ?_ 0 (Nat.zero_le _) y (yk_rf 78 y) 
      · intro y2 e2
        refine tg_steps 2 rfl ?_
        refine tg_icge rfl rfl (fun h53 => ?_) (fun h53 => ?_)
        · refine tg_steps 1 rfl ?_
          exact tg_iret (st := []) rfl rfl ⟨Nat.le_of_ble_eq_true rfl, Nat.le_of_ble_eq_true rfl⟩ (pM_ok (by first | exact wLot_b (by assumption) | exact (by first | (simp (decide := true) only [wLot, decide_true, decide_false, cond_true, cond_false, Bool.false_eq_true, if_true, if_false, ite_true, ite_false, u1, u2, h20]; done) | (simp (decide := true) only [wLot, decide_true, decide_false, cond_true, cond_false, Bool.false_eq_true, if_true, if_false, ite_true, ite_false, u1, u2, h20]; done) | (simp (decide := true) only [wLot, decide_true, decide_false, cond_true, cond_false, Bool.false_eq_true, if_true, if_false, ite_true, ite_false, u1, u2, h20]; rfl) | rfl)) (by first | (simp (decide := true) only [aLot, cj, decide_true, decide_false, cond_true, cond_false, Bool.false_eq_true, if_true, if_false, ite_true, ite_false, u1, u2, h20]; done) | (simp (decide := true) only [aLot, cj, decide_true, decide_false, cond_true, cond_false, Bool.false_eq_true, if_true, if_false, ite_true, ite_false, u1, u2, h20]; done) | (simp (decide := true) only [aLot, cj, decide_true, decide_false, cond_true, cond_false, Bool.false_eq_true, if_true, if_false, ite_true, ite_false, u1, u2, h20]; rfl) | rfl) (yk_tr (yk_le (by decide) e2) (yk_lo 39 y2 _)))
        · exact absurd (nI_le (Nat.le_refl _) (by omega)) h53
      · intro i hi50 ih50 y2 e2
        refine tg_steps 2 rfl ?_
        refine tg_icge rfl rfl (fun h53 => ?_) (fun h53 => ?_)
        · exact absurd h53 (nI_ge hi50 (by omega))
        · refine tg_steps 1 rfl ?_
          refine tg_callV rfl (m_thinks) rfl rfl rfl rfl rfl (fun v57 w57 q57 => ?_)
          obtain ⟨rfl, rfl⟩ := q57
          refine tg_steps 2 rfl ?_
          refine tg_pkV [0, 1, 2, 3, 5, 6, 7] ?_
          refine tg_eqS (L2 := [(0, .ref 64), (1, .int (nI j)), (2, .int z), (3, .int what), (5, .int (wiO h z what i).2), (6, .int (nI i)), (7, .int (nI (0)))]) (st2 := []) (w2 := (l, tm_cs (wiS (wiO h z what i).1 h (0)).2 (zLo (thY h (zLo y2 (wiO h z what i).1)) (wiS (wiO h z what i).1 h (0)).1))) rfl rfl (by rw [show (wiS (wiO h z what i).1 h (0)).1 = yLo (thY h (zLo y2 (wiO h z what i).1)) from rfl, w_Lo0]; rfl) ?_
          refine tg_down (φ := fun q : Nat => tg_V G 7 mX11_lots 0 0 0 0 (pM l (wLot (nI j) what) (.int (wLot (nI j) what)) (.int (aLot h (nI j) z what)) h y (h) (y)) 63 [(0, .ref 64), (1, .int (nI j)), (2, .int z), (3, .int what), (5, .int (wiO h z what i).2), (6, .int (nI i)), (7, .int (nI (q)))] [] (l, tm_cs (wiS (wiO h z what i).1 h (q)).2 (zLo (thY h (zLo y2 (wiO h z what i).1)) (wiS (wiO h z what i).1 h (q)).1))) (n := hM h) ?_ ?_ 0 (Nat.zero_le _) 
          · refine tg_steps 3 rfl ?_
            refine tg_icge rfl rfl (fun h69 => ?_) (fun h69 => ?_)
            · refine tg_steps 2 rfl ?_
              refine tg_callV rfl (m_goes (h := (wiS (wiO h z what i).1 h (hM h)).2) (y := zLo (thY h (zLo y2 (wiO h z what i).1)) (wiS (wiO h z what i).1 h (hM h)).1) (wf_wiS hw (wiO h z what i).1 (hM h) (Nat.le_refl _)) 10 (by decide)) rfl rfl rfl rfl rfl (fun v106 w106 q106 => ?_)
              obtain ⟨rfl, mo, rfl⟩ := q106
              refine tg_steps 2 rfl ?_
              refine tg_ifne rfl rfl (fun h112 => ?_) (fun h112 => ?_)
              · refine tg_steps 1 rfl ?_
                refine tg_callV rfl (m_homesNow (pm7 (by show hM (wiS (wiO h z what i).1 h (hM h)).2 ≤ 7; rw [wiS_M]; exact hm) 10)) rfl rfl rfl rfl rfl (fun v126 w126 q126 => ?_)
                obtain ⟨rfl, rfl⟩ := q126
                refine tg_steps 3 rfl ?_
                refine tg_callV rfl (m_forgets (g := h) (hld_lo mo (wiS (wiO h z what i).1 h (hM h)).1 (hld_th h (zLo y2 (wiO h z what i).1)))) rfl rfl rfl rfl rfl (fun v133 w133 q133 => ?_)
                obtain ⟨rfl, rfl⟩ := q133
                rw [w_LoOut]
                refine tg_steps 2 rfl ?_
                refine tg_pkV [0, 1, 2, 3, 5, 6] ?_
                refine tg_eqS (L2 := [(0, .ref 64), (1, .int (nI j)), (2, .int z), (3, .int what), (5, .int (wiO h z what (i + 1)).2), (6, .int (nI (i + 1)))]) (st2 := []) (w2 := (l, tm_cs h (zLo (fgY (zMo (thY h (zLo y2 (wiO h z what i).1)) mo)) (wiO h z what (i + 1)).1))) (by first | (rw [wiO_0 h112, nI_succ]; rfl) | (rw [wiO_1 h112, nI_succ]; rfl)) rfl rfl ?_
                exact ih50 _ (yk_tr (yk_tr e2 (yk_lo 78 y2 (wiO h z what i).1)) (t_fg h (zLo y2 (wiO h z what i).1) mo))
              · refine tg_steps 1 rfl ?_
                refine tg_callV rfl (m_aboardNow (pm7 (by show hM (wiS (wiO h z what i).1 h (hM h)).2 ≤ 7; rw [wiS_M]; exact hm) 10)) rfl rfl rfl rfl rfl (fun v116 w116 q116 => ?_)
                obtain ⟨rfl, rfl⟩ := q116
                refine tg_call1 rfl (m_bits _) rfl rfl rfl  (fun v119 w119 q119 => ?_)
                obtain ⟨rfl, rfl⟩ := q119
                rw [bt_m (pm7 (by show hM (wiS (wiO h z what i).1 h (hM h)).2 ≤ 7; rw [wiS_M]; exact hm) 10), ab_fold]
                refine tg_steps 4 rfl ?_
                refine tg_callV rfl (m_forgets (g := h) (hld_lo mo (wiS (wiO h z what i).1 h (hM h)).1 (hld_th h (zLo y2 (wiO h z what i).1)))) rfl rfl rfl rfl rfl (fun v133 w133 q133 => ?_)
                obtain ⟨rfl, rfl⟩ := q133
                rw [w_LoOut]
                refine tg_steps 2 rfl ?_
                refine tg_pkV [0, 1, 2, 3, 5, 6] ?_
                refine tg_eqS (L2 := [(0, .ref 64), (1, .int (nI j)), (2, .int z), (3, .int what), (5, .int (wiO h z what (i + 1)).2), (6, .int (nI (i + 1)))]) (st2 := []) (w2 := (l, tm_cs h (zLo (fgY (zMo (thY h (zLo y2 (wiO h z what i).1)) mo)) (wiO h z what (i + 1)).1))) (by first | (rw [wiO_0 h112, nI_succ]; rfl) | (rw [wiO_1 h112, nI_succ]; rfl)) rfl rfl ?_
                exact ih50 _ (yk_tr (yk_tr e2 (yk_lo 78 y2 (wiO h z what i).1)) (t_fg h (zLo y2 (wiO h z what i).1) mo))
            · exact absurd (by rw [wiS_M]; exact nI_le (Nat.le_refl _) (by omega)) h69
          · intro q hi63 ih63
            refine tg_steps 3 rfl ?_
            refine tg_icge rfl rfl (fun h69 => ?_) (fun h69 => ?_)
            · exact absurd h69 (by rw [wiS_M]; exact nI_ge hi63 (by omega))
            · refine tg_steps 5 rfl ?_
              refine tg_callV rfl (m_draw (y := zLo (thY h (zLo y2 (wiO h z what i).1)) (wiS (wiO h z what i).1 h (q)).1) 24 (by decide) (by decide)) rfl rfl rfl rfl rfl (fun v81 w81 q81 => ?_)
              obtain ⟨rfl, rfl⟩ := q81
              rw [g_LoLo, w_LoLo]
              refine tg_iastN rfl rfl (q) rfl (by omega) (by decide) ?_
              refine tg_eqW (m_T _) ?_
              rw [wi_put (by show hM (wiS (wiO h z what i).1 h (q)).2 ≤ 7; rw [wiS_M]; exact hm) (by show q < hM (wiS (wiO h z what i).1 h (q)).2; rw [wiS_M]; exact hi63)]
              refine tg_steps 5 rfl ?_
              refine tg_callV rfl (m_draw (y := zLo (thY h (zLo y2 (wiO h z what i).1)) (nxS (wiS (wiO h z what i).1 h (q)).1)) 3 (by decide) (by decide)) rfl rfl rfl rfl rfl (fun v93 w93 q93 => ?_)
              obtain ⟨rfl, rfl⟩ := q93
              rw [g_LoLo, w_LoLo]
              refine tg_iastN rfl rfl (q) rfl (by omega) (by decide) ?_
              refine tg_eqW (m_P _) ?_
              rw [wi_pin (h := putH (wiS (wiO h z what i).1 h (q)).2 (nI q) _) (by show hM (wiS (wiO h z what i).1 h (q)).2 ≤ 7; rw [wiS_M]; exact hm) (by show q < hM (wiS (wiO h z what i).1 h (q)).2; rw [wiS_M]; exact hi63)]
              refine tg_steps 2 rfl ?_
              refine tg_pkV [0, 1, 2, 3, 5, 6, 7] ?_
              refine tg_eqS (L2 := [(0, .ref 64), (1, .int (nI j)), (2, .int z), (3, .int what), (5, .int (wiO h z what i).2), (6, .int (nI i)), (7, .int (nI (q + 1)))]) (st2 := []) (w2 := (l, tm_cs (wiS (wiO h z what i).1 h (q + 1)).2 (zLo (thY h (zLo y2 (wiO h z what i).1)) (wiS (wiO h z what i).1 h (q + 1)).1))) (by first | (simp (decide := true) only [nI_succ, wiS_succ, decide_true, decide_false, cond_true, cond_false, Bool.false_eq_true, if_true, if_false, ite_true, ite_false, u1, u2, h20]; done) | (simp (decide := true) only [nI_succ, wiS_succ, decide_true, decide_false, cond_true, cond_false, Bool.false_eq_true, if_true, if_false, ite_true, ite_false, u1, u2, h20]; rfl) | rfl) rfl rfl ?_
              exact ih63
    · refine tg_steps 3 rfl ?_
      refine tg_ifeq rfl rfl (fun h29 => absurd h29 (by decide)) (fun _ => ?_)
      refine tg_steps 2 rfl ?_
      refine tg_callV rfl (m_no _ (by first | decide | exact rf_bor _ | exact rf_bd (by assumption))) rfl rfl rfl rfl rfl (fun v35 w35 q35 => ?_)
      obtain ⟨rfl, rfl⟩ := q35
      exact tg_iret (st := []) rfl rfl ⟨Nat.le_of_ble_eq_true rfl, Nat.le_of_ble_eq_true rfl⟩ (pM_refI (by first | exact wLot_b (by assumption) | exact (by first | (simp (decide := true) only [wLot, decide_true, decide_false, cond_true, cond_false, Bool.false_eq_true, if_true, if_false, ite_true, ite_false, u1, u2, h20]; done) | (simp (decide := true) only [wLot, decide_true, decide_false, cond_true, cond_false, Bool.false_eq_true, if_true, if_false, ite_true, ite_false, u1, u2, h20]; done) | (simp (decide := true) only [wLot, decide_true, decide_false, cond_true, cond_false, Bool.false_eq_true, if_true, if_false, ite_true, ite_false, u1, u2, h20]; rfl) | rfl)) (by first | decide | exact rf_bor _ | exact rf_bd (by assumption)))
/-- the image of the reference -/
def imY (h : tp_H) (y : tp_Y) : tp_Y := zIk (zCu (zKe (zHi y true) (svA h (yKe (zHi y true)) 0)) 39) true
set_option maxRecDepth 100000 in
set_option maxHeartbeats 2000000 in
theorem r_image {G : tg_G} {l : List tg_Cl} {h : tp_H} {y : tp_Y} : tg_C G 3 mX11_image 0 0 [.ref 64] (l, tm_cs h y) (pM l ((0 : Int32)) (.int ((0 : Int32))) (.int (hN h)) h y (h) (imY h y)) := by
  refine tg_intro okX11_image (Nat.le_of_ble_eq_true rfl) ?_
  refine tg_steps 2 rfl ?_
  refine tg_putz rfl rfl (Or.inr rfl) rfl ?_
  refine tg_eqW (m_Hi true) ?_
  refine tg_steps 3 rfl ?_
  refine tg_callV rfl (m_keep 0 (by decide)) rfl rfl rfl rfl rfl (fun v8 w8 q8 => ?_)
  obtain ⟨rfl, rfl⟩ := q8
  refine tg_steps 2 rfl ?_
  exact tg_iret (st := []) rfl rfl ⟨Nat.le_of_ble_eq_true rfl, Nat.le_of_ble_eq_true rfl⟩ (pM_ok rfl rfl (yk_rf 39 _))
set_option maxRecDepth 100000 in
set_option maxHeartbeats 2000000 in
theorem r_on {G : tg_G} {l : List tg_Cl} {h : tp_H} {y : tp_Y} {g : tp_H} (hg : yHi y = true → hld (yKe y) 0 g) : tg_C G 3 mX11_on 0 0 [.ref 64] (l, tm_cs h y) (pM l (wOn (xOf y)) (.int (wOn (xOf y))) (.int (hN g)) h y (g) (y)) := by
  refine tg_intro okX11_on (Nat.le_of_ble_eq_true rfl) ?_
  refine tg_steps 2 rfl ?_
  refine tg_ifbne rfl rfl (fun h4 => ?_) (fun h4 => ?_)
  · have hg2 := hg h4
    have hx : xPd (xOf y) = true := h4
    refine tg_steps 3 rfl ?_
    refine tg_callV rfl (m_back 0 (by decide) hg2) rfl rfl rfl rfl rfl (fun v17 w17 q17 => ?_)
    obtain ⟨rfl, rfl⟩ := q17
    refine tg_steps 2 rfl ?_
    exact tg_iret (st := []) rfl rfl ⟨Nat.le_of_ble_eq_true rfl, Nat.le_of_ble_eq_true rfl⟩ (pM_ok (by first | (simp (decide := true) only [wOn, decide_true, decide_false, cond_true, cond_false, Bool.false_eq_true, if_true, if_false, ite_true, ite_false, hx]; done) | (simp (decide := true) only [wOn, decide_true, decide_false, cond_true, cond_false, Bool.false_eq_true, if_true, if_false, ite_true, ite_false, hx]; done) | (simp (decide := true) only [wOn, decide_true, decide_false, cond_true, cond_false, Bool.false_eq_true, if_true, if_false, ite_true, ite_false, hx]; rfl) | rfl) rfl (⟨rfl, rfl, rfl, rfl, rfl, rfl, fun _ _ => rfl⟩))
  · have hx : xPd (xOf y) = false := h4
    refine tg_steps 2 rfl ?_
    refine tg_callV rfl (m_no _ (by first | decide | exact rf_bor _ | exact rf_bd (by assumption))) rfl rfl rfl rfl rfl (fun v10 w10 q10 => ?_)
    obtain ⟨rfl, rfl⟩ := q10
    exact tg_iret (st := []) rfl rfl ⟨Nat.le_of_ble_eq_true rfl, Nat.le_of_ble_eq_true rfl⟩ (pM_refI (by first | (simp (decide := true) only [wOn, decide_true, decide_false, cond_true, cond_false, Bool.false_eq_true, if_true, if_false, ite_true, ite_false, hx]; done) | (simp (decide := true) only [wOn, decide_true, decide_false, cond_true, cond_false, Bool.false_eq_true, if_true, if_false, ite_true, ite_false, hx]; done) | (simp (decide := true) only [wOn, decide_true, decide_false, cond_true, cond_false, Bool.false_eq_true, if_true, if_false, ite_true, ite_false, hx]; rfl) | rfl) (by first | decide | exact rf_bor _ | exact rf_bd (by assumption)))
theorem cou_a (x : tp_X) (h : tp_H) {v : Int32} (c1 : ¬ v ≤ 10) (c2 : ¬ 16 < v) : aCou h x v = xRe x (nN (v - 10)) := by
  have hn : ∀ k : Int32, k ≤ 10 → ¬ v = k := fun k hk e => c1 (e ▸ hk)
  unfold aCou
  rw [if_neg (hn 0 (by decide)), if_neg (hn 1 (by decide)), if_neg (hn 2 (by decide)), if_neg (hn 3 (by decide)), if_neg (hn 4 (by decide)), if_neg (hn 5 (by decide)), if_neg (hn 6 (by decide)), if_neg (hn 7 (by decide)), if_neg c1, if_neg c2]
set_option maxRecDepth 100000 in
set_option maxHeartbeats 2000000 in
theorem r_count {G : tg_G} {l : List tg_Cl} {h : tp_H} {y : tp_Y} (hw : wfH h) (what : Int32) : tg_C G 3 mX11_count 0 0 [.ref 64, .int what] (l, tm_cs h y) (pM l ((0 : Int32)) (.int ((0 : Int32))) (.int (aCou h (xOf y) what)) h y (h) (y)) := by
  have hm := hw.1
  refine tg_intro okX11_count (Nat.le_of_ble_eq_true rfl) ?_
  refine tg_steps 3 rfl ?_
  refine tg_call1 rfl (m_isIn _ _ _) rfl rfl rfl  (fun v5 w5 q5 => ?_)
  obtain ⟨rfl, rfl⟩ := q5
  try rw [inB_up]
  refine tg_ifbeq rfl rfl (fun h8 => ?_) (fun h8 => ?_)
  · refine tg_steps 1 rfl ?_
    refine tg_tsw rfl ?_
    refine And.intro (fun h22_0 => ?_) (fun h22_0 => ?_)
    · refine tg_steps 2 rfl ?_
      exact tg_iret (st := []) rfl rfl ⟨Nat.le_of_ble_eq_true rfl, Nat.le_of_ble_eq_true rfl⟩ (pM_ok rfl (by first | (simp (decide := true) only [aCou, decide_true, decide_false, cond_true, cond_false, Bool.false_eq_true, if_true, if_false, ite_true, ite_false, h8, eq_true h22_0]; done) | (simp (decide := true) only [aCou, decide_true, decide_false, cond_true, cond_false, Bool.false_eq_true, if_true, if_false, ite_true, ite_false, h8, h22_0]; done) | (simp (decide := true) only [aCou, decide_true, decide_false, cond_true, cond_false, Bool.false_eq_true, if_true, if_false, ite_true, ite_false, h8, eq_true h22_0]; rfl) | rfl) (yk_rf 39 _))
    refine And.intro (fun h22_1 => ?_) (fun h22_1 => ?_)
    · refine tg_steps 2 rfl ?_
      exact tg_iret (st := []) rfl rfl ⟨Nat.le_of_ble_eq_true rfl, Nat.le_of_ble_eq_true rfl⟩ (pM_ok rfl (by first | (simp (decide := true) only [aCou, decide_true, decide_false, cond_true, cond_false, Bool.false_eq_true, if_true, if_false, ite_true, ite_false, h8, h22_0, eq_true h22_1]; done) | (simp (decide := true) only [aCou, decide_true, decide_false, cond_true, cond_false, Bool.false_eq_true, if_true, if_false, ite_true, ite_false, h8, h22_0, h22_1]; done) | (simp (decide := true) only [aCou, decide_true, decide_false, cond_true, cond_false, Bool.false_eq_true, if_true, if_false, ite_true, ite_false, h8, h22_0, eq_true h22_1]; rfl) | rfl) (yk_rf 39 _))
    refine And.intro (fun h22_2 => ?_) (fun h22_2 => ?_)
    · refine tg_steps 2 rfl ?_
      exact tg_iret (st := []) rfl rfl ⟨Nat.le_of_ble_eq_true rfl, Nat.le_of_ble_eq_true rfl⟩ (pM_ok rfl (by first | (simp (decide := true) only [aCou, decide_true, decide_false, cond_true, cond_false, Bool.false_eq_true, if_true, if_false, ite_true, ite_false, h8, h22_0, h22_1, eq_true h22_2]; done) | (simp (decide := true) only [aCou, decide_true, decide_false, cond_true, cond_false, Bool.false_eq_true, if_true, if_false, ite_true, ite_false, h8, h22_0, h22_1, h22_2]; done) | (simp (decide := true) only [aCou, decide_true, decide_false, cond_true, cond_false, Bool.false_eq_true, if_true, if_false, ite_true, ite_false, h8, h22_0, h22_1, eq_true h22_2]; rfl) | rfl) (yk_rf 39 _))
    refine And.intro (fun h22_3 => ?_) (fun h22_3 => ?_)
    · refine tg_steps 2 rfl ?_
      exact tg_iret (st := []) rfl rfl ⟨Nat.le_of_ble_eq_true rfl, Nat.le_of_ble_eq_true rfl⟩ (pM_ok rfl (by first | (simp (decide := true) only [aCou, decide_true, decide_false, cond_true, cond_false, Bool.false_eq_true, if_true, if_false, ite_true, ite_false, h8, h22_0, h22_1, h22_2, eq_true h22_3]; done) | (simp (decide := true) only [aCou, decide_true, decide_false, cond_true, cond_false, Bool.false_eq_true, if_true, if_false, ite_true, ite_false, h8, h22_0, h22_1, h22_2, h22_3]; done) | (simp (decide := true) only [aCou, decide_true, decide_false, cond_true, cond_false, Bool.false_eq_true, if_true, if_false, ite_true, ite_false, h8, h22_0, h22_1, h22_2, eq_true h22_3]; rfl) | rfl) (yk_rf 39 _))
    refine And.intro (fun h22_4 => ?_) (fun h22_4 => ?_)
    · refine tg_steps 1 rfl ?_
      refine tg_callV rfl (m_aboardNow hm) rfl rfl rfl rfl rfl (fun v89 w89 q89 => ?_)
      obtain ⟨rfl, rfl⟩ := q89
      exact tg_iret (st := []) rfl rfl ⟨Nat.le_of_ble_eq_true rfl, Nat.le_of_ble_eq_true rfl⟩ (pM_ok rfl (by first | (simp (decide := true) only [aCou, decide_true, decide_false, cond_true, cond_false, Bool.false_eq_true, if_true, if_false, ite_true, ite_false, h8, h22_0, h22_1, h22_2, h22_3, eq_true h22_4]; done) | (simp (decide := true) only [aCou, decide_true, decide_false, cond_true, cond_false, Bool.false_eq_true, if_true, if_false, ite_true, ite_false, h8, h22_0, h22_1, h22_2, h22_3, h22_4]; done) | (simp (decide := true) only [aCou, decide_true, decide_false, cond_true, cond_false, Bool.false_eq_true, if_true, if_false, ite_true, ite_false, h8, h22_0, h22_1, h22_2, h22_3, eq_true h22_4]; rfl) | rfl) (yk_rf 39 _))
    refine And.intro (fun h22_5 => ?_) (fun h22_5 => ?_)
    · refine tg_steps 1 rfl ?_
      refine tg_callV rfl (m_pinnedNow hm) rfl rfl rfl rfl rfl (fun v94 w94 q94 => ?_)
      obtain ⟨rfl, rfl⟩ := q94
      exact tg_iret (st := []) rfl rfl ⟨Nat.le_of_ble_eq_true rfl, Nat.le_of_ble_eq_true rfl⟩ (pM_ok rfl (by first | (simp (decide := true) only [aCou, decide_true, decide_false, cond_true, cond_false, Bool.false_eq_true, if_true, if_false, ite_true, ite_false, h8, h22_0, h22_1, h22_2, h22_3, h22_4, eq_true h22_5]; done) | (simp (decide := true) only [aCou, decide_true, decide_false, cond_true, cond_false, Bool.false_eq_true, if_true, if_false, ite_true, ite_false, h8, h22_0, h22_1, h22_2, h22_3, h22_4, h22_5]; done) | (simp (decide := true) only [aCou, decide_true, decide_false, cond_true, cond_false, Bool.false_eq_true, if_true, if_false, ite_true, ite_false, h8, h22_0, h22_1, h22_2, h22_3, h22_4, eq_true h22_5]; rfl) | rfl) (yk_rf 39 _))
    refine And.intro (fun h22_6 => ?_) (fun h22_6 => ?_)
    · refine tg_steps 2 rfl ?_
      exact tg_iret (st := []) rfl rfl ⟨Nat.le_of_ble_eq_true rfl, Nat.le_of_ble_eq_true rfl⟩ (pM_ok rfl (by first | (simp (decide := true) only [aCou, decide_true, decide_false, cond_true, cond_false, Bool.false_eq_true, if_true, if_false, ite_true, ite_false, h8, h22_0, h22_1, h22_2, h22_3, h22_4, h22_5, eq_true h22_6]; done) | (simp (decide := true) only [aCou, decide_true, decide_false, cond_true, cond_false, Bool.false_eq_true, if_true, if_false, ite_true, ite_false, h8, h22_0, h22_1, h22_2, h22_3, h22_4, h22_5, h22_6]; done) | (simp (decide := true) only [aCou, decide_true, decide_false, cond_true, cond_false, Bool.false_eq_true, if_true, if_false, ite_true, ite_false, h8, h22_0, h22_1, h22_2, h22_3, h22_4, h22_5, eq_true h22_6]; rfl) | rfl) (yk_rf 39 _))
    refine And.intro (fun h22_7 => ?_) (fun h22_7 => ?_)
    · refine tg_steps 2 rfl ?_
      exact tg_iret (st := []) rfl rfl ⟨Nat.le_of_ble_eq_true rfl, Nat.le_of_ble_eq_true rfl⟩ (pM_ok rfl (by first | (simp (decide := true) only [aCou, decide_true, decide_false, cond_true, cond_false, Bool.false_eq_true, if_true, if_false, ite_true, ite_false, h8, h22_0, h22_1, h22_2, h22_3, h22_4, h22_5, h22_6, eq_true h22_7]; done) | (simp (decide := true) only [aCou, decide_true, decide_false, cond_true, cond_false, Bool.false_eq_true, if_true, if_false, ite_true, ite_false, h8, h22_0, h22_1, h22_2, h22_3, h22_4, h22_5, h22_6, h22_7]; done) | (simp (decide := true) only [aCou, decide_true, decide_false, cond_true, cond_false, Bool.false_eq_true, if_true, if_false, ite_true, ite_false, h8, h22_0, h22_1, h22_2, h22_3, h22_4, h22_5, h22_6, eq_true h22_7]; rfl) | rfl) (yk_rf 39 _))
    refine tg_steps 1 rfl ?_
    exact tg_iret (st := []) rfl rfl ⟨Nat.le_of_ble_eq_true rfl, Nat.le_of_ble_eq_true rfl⟩ (pM_ok rfl (by rcases cou_out h8 with c | ⟨c, d⟩; all_goals first | (simp (decide := true) only [aCou, c, d, decide_true, decide_false, cond_true, cond_false, Bool.false_eq_true, if_true, if_false, ite_true, ite_false, h8, h22_0, h22_1, h22_2, h22_3, h22_4, h22_5, h22_6, h22_7]; done) | (simp (decide := true) only [aCou, c, decide_true, decide_false, cond_true, cond_false, Bool.false_eq_true, if_true, if_false, ite_true, ite_false, h8, h22_0, h22_1, h22_2, h22_3, h22_4, h22_5, h22_6, h22_7]; done) | (simp (decide := true) only [aCou, c, d, decide_true, decide_false, cond_true, cond_false, Bool.false_eq_true, if_true, if_false, ite_true, ite_false, h8, h22_0, h22_1, h22_2, h22_3, h22_4, h22_5, h22_6, h22_7]; rfl) | (simp (decide := true) only [aCou, c, decide_true, decide_false, cond_true, cond_false, Bool.false_eq_true, if_true, if_false, ite_true, ite_false, h8, h22_0, h22_1, h22_2, h22_3, h22_4, h22_5, h22_6, h22_7]; rfl)) (yk_rf 39 _))
  · obtain ⟨c1, c2⟩ := cou_in h8
    obtain ⟨j, hj, ej, cj⟩ := cou_j c1 c2
    refine tg_steps 5 rfl ?_
    refine tg_ialdN rfl rfl (j) ej hj (by decide) ?_
    exact tg_iret (st := []) rfl rfl ⟨Nat.le_of_ble_eq_true rfl, Nat.le_of_ble_eq_true rfl⟩ (pM_ok rfl (by rw [cou_a (xOf y) h c1 c2, cj]; rfl) (yk_rf 39 _))
