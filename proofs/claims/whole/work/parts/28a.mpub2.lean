/-! the public methods of the reference, continued -/
theorem w_SS (h : tp_H) (a b : Int32) : sS (sS h a) b = sS h b := rfl
theorem tg_uu (f : tp_A) (j : Nat) (a b : Int32) : tg_u (tg_u f j a) j b = tg_u f j b := by
  funext i
  rw [tg_u_eq, tg_u_eq, tg_u_eq]
  split <;> rfl
theorem tg_u_id (f : tp_A) (j : Nat) : tg_u f j (f j) = f := by
  funext i
  rw [tg_u_eq]
  split
  · rename_i e; rw [e]
  · rfl
theorem tgb_1 {b : Bool} (h : tg_b b = 1) : b = true := by cases b; exact absurd h (by decide); rfl
theorem tgb_0 {b : Bool} (h : tg_b b = 0) : b = false := by cases b; rfl; exact absurd h (by decide)
theorem tgb_n1 {b : Bool} (h : ¬ tg_b b = 1) : b = false := by cases b; rfl; exact absurd rfl h
theorem tgb_n0 {b : Bool} (h : ¬ tg_b b = 0) : b = true := by cases b; exact absurd rfl h; rfl
theorem crk2 (h : tp_H) (t : Int32) : sC (crkH h t) (hC (crkH h t) ^^^ (1 <<< (t &&& 31))) = h := by
  have e : hC (crkH h t) ^^^ (1 <<< (t &&& 31)) = hC h := by
    show (hC h ^^^ (1 <<< (t &&& 31))) ^^^ (1 <<< (t &&& 31)) = hC h
    rw [Int32.xor_assoc, Int32.xor_self, Int32.xor_zero]
  rw [e]
  rfl
def smQ (h : tp_H) (k : Nat) : Nat → Int32 × Int32 := mxQ (fun _ => true) (fun i => shW h k (nI i)) (-9) (-9)
theorem smQ_succ (h : tp_H) (k e : Nat) : smQ h k (e + 1) = if shW h k (nI e) ≤ (smQ h k e).2 then smQ h k e else (nI e, shW h k (nI e)) := by
  unfold smQ
  rw [mxQ_succ, cond_true]
def aShM (h : tp_H) (k what : Int32) : Int32 := if what = 0 then (smQ h (nN k) 24).1 else (smQ h (nN k) 24).2
def mdS (h : tp_H) (k : Nat) (what : Int32) (e : Nat) : Int32 × Int32 := if what = 0 then mxQ (fun i => crB h (nI i)) (fun i => crW h k (nI i)) (-9) (abM (pNs k h)) e else mnQ (fun i => !crB h (nI i)) (fun i => crW h k (nI i)) (-9) (abM (pNs k h)) e
theorem mdS_0 (h : tp_H) (k : Nat) (what : Int32) : mdS h k what 0 = (-9, abM (pNs k h)) := by unfold mdS; split <;> rfl
theorem md_sk {h : tp_H} {k : Nat} {what : Int32} {i : Nat} (h1 : what = 0 → crB h (nI i) = false) (h2 : ¬ what = 0 → crB h (nI i) = true) : mdS h k what (i + 1) = mdS h k what i := by
  unfold mdS
  by_cases e : what = 0
  · rw [if_pos e, if_pos e, mxQ_succ, h1 e]; rfl
  · rw [if_neg e, if_neg e, mnQ_succ, h2 e]; rfl
theorem md_mx {h : tp_H} {k : Nat} {what : Int32} {i : Nat} (e : what = 0) (c : crB h (nI i) = true) : mdS h k what (i + 1) = if crW h k (nI i) ≤ (mdS h k what i).2 then mdS h k what i else (nI i, crW h k (nI i)) := by
  unfold mdS
  rw [if_pos e, if_pos e, mxQ_succ, c]; rfl
theorem md_mn {h : tp_H} {k : Nat} {what : Int32} {i : Nat} (e : ¬ what = 0) (c : crB h (nI i) = false) : mdS h k what (i + 1) = if (mdS h k what i).2 ≤ crW h k (nI i) then mdS h k what i else (nI i, crW h k (nI i)) := by
  unfold mdS
  rw [if_neg e, if_neg e, mnQ_succ, c]; rfl
def feS (h : tp_H) (k : Nat) : Nat → Int32
  | 0 => -9
  | e + 1 => if feS h k e < 0 then (bif ieS (nbS (nI e) h (hM h)) k then nI e else feS h k e) else if btI (nI e) < btI (feS h k e) then (bif ieS (nbS (nI e) h (hM h)) k then nI e else feS h k e) else feS h k e
theorem feS_succ (h : tp_H) (k e : Nat) : feS h k (e + 1) = if feS h k e < 0 then (bif ieS (nbS (nI e) h (hM h)) k then nI e else feS h k e) else if btI (nI e) < btI (feS h k e) then (bif ieS (nbS (nI e) h (hM h)) k then nI e else feS h k e) else feS h k e := rfl
def bkV (h : tp_H) (j e : Nat) : Int32 := if 0 ≤ aFir (sK h (tg_u (hK h) j (nI e))) (nI j) (hS h) then aFir (sK h (tg_u (hK h) j (nI e))) (nI j) (hS h) else 61
def bkQ (h : tp_H) (j : Nat) : Nat → Int32 × Int32 := mnQ (fun _ => true) (bkV h j) (-9) 62
theorem bkQ_succ (h : tp_H) (j e : Nat) : bkQ h j (e + 1) = if (bkQ h j e).2 ≤ bkV h j e then bkQ h j e else (nI e, bkV h j e) := by
  unfold bkQ
  rw [mnQ_succ, cond_true]
def aBeM (h : tp_H) (one what : Int32) : Int32 := if what = 0 then (bkQ h (nN one) 6).1 else if (bkQ h (nN one) 6).2 ≤ 60 then (bkQ h (nN one) 6).2 else -9
theorem sKu_id (h : tp_H) (j : Nat) : sK h (tg_u (hK h) j (hK h j)) = h := by
  rw [tg_u_id]
  rfl
theorem sKK (h : tp_H) (j : Nat) (c d : Int32) : sK (sK h (tg_u (hK h) j c)) (tg_u (hK (sK h (tg_u (hK h) j c))) j d) = sK h (tg_u (hK h) j d) := by
  show sK h (tg_u (tg_u (hK h) j c) j d) = _
  rw [tg_uu]
theorem faT_c (h : tp_H) : ∀ e, faT h e = -9 ∨ ∃ j, j < e ∧ faT h e = nI j := by
  intro e
  induction e with
  | zero => exact Or.inl rfl
  | succ e ih =>
    rw [faT_succ]
    split
    · exact Or.inr ⟨e, Nat.lt_succ_self e, rfl⟩
    · split
      · rcases ih with q | ⟨j, hj, q⟩
        · exact Or.inl q
        · exact Or.inr ⟨j, by omega, q⟩
      · exact Or.inr ⟨e, Nat.lt_succ_self e, rfl⟩
theorem faT_has {h : tp_H} (hm : hM h ≤ 7) {e : Nat} (he : e ≤ hM h) (hl : ¬ faT h e < 0) : hasB h (faT h e) = true := by
  rcases faT_c h e with q | ⟨j, hj, q⟩
  · rw [q] at hl; exact absurd (by decide) hl
  · rw [q]; exact has_nI hm (by omega)
theorem faT_lt {h : tp_H} (hm : hM h ≤ 7) {e : Nat} (he : e ≤ hM h) (hl : faT h e < 0) : faT h e = -9 := by
  rcases faT_c h e with q | ⟨j, hj, q⟩
  · exact q
  · rw [q] at hl; exact absurd hl (nI_pos (by omega))
theorem ge_n9 {k : Int32} (h : ¬ k < 0) : ¬ k = -9 := fun e => h (by rw [e]; decide)
theorem m_fromHomeB {G : tg_G} {l : List tg_Cl} {h : tp_H} {y : tp_Y} (hm : hM h ≤ 7) {k : Int32} (hk : hasB h k = true) : tg_C G 3 mX11_fromHome 0 0 [.ref 64, .int k] (l, tm_cs h y) (fun v w => v = some (.int (frH h k)) ∧ w = (l, tm_cs h y)) := by
  obtain ⟨j, hj, rfl, cj⟩ := has_j hm hk
  exact m_fromHome hm j hj
set_option maxRecDepth 100000 in
set_option maxHeartbeats 2000000 in
theorem r_shipBest {G : tg_G} {l : List tg_Cl} {h : tp_H} {y : tp_Y} (hw : wfH h) (k : Int32) (what : Int32) : tg_C G 9 mX11_shipBest 0 0 [.ref 64, .int k, .int what] (l, tm_cs h y) (pM l (wUpW k 20 what) (.int (wUpW k 20 what)) (.int (aShM h k what)) h y (h) (y)) := by
  have hm := hw.1
  refine tg_intro okX11_shipBest (Nat.le_of_ble_eq_true rfl) ?_
  refine tg_steps 3 rfl ?_
  refine tg_call1 rfl (m_bound _ _ _) rfl rfl rfl  (fun v4 w4 q4 => ?_)
  obtain ⟨rfl, rfl⟩ := q4
  refine tg_steps 2 rfl ?_
  refine tg_ifne rfl rfl (fun h9 => ?_) (fun h9 => ?_)
  · obtain ⟨hu, hb⟩ := bd_t h9
    refine tg_steps 1 rfl ?_
    refine tg_ifeq rfl rfl (fun h25 => absurd h25 (h9)) (fun _ => ?_)
    refine tg_steps 2 rfl ?_
    refine tg_callV rfl (m_no _ (by first | decide | exact rf_bor _ | exact rf_bd (by assumption))) rfl rfl rfl rfl rfl (fun v30 w30 q30 => ?_)
    obtain ⟨rfl, rfl⟩ := q30
    exact tg_iret (st := []) rfl rfl ⟨Nat.le_of_ble_eq_true rfl, Nat.le_of_ble_eq_true rfl⟩ (pM_refI (by first | (simp (decide := true) only [wUpW, decide_true, decide_false, cond_true, cond_false, Bool.false_eq_true, if_true, if_false, ite_true, ite_false, hu, hb]; done) | (simp (decide := true) only [wUpW, decide_true, decide_false, cond_true, cond_false, Bool.false_eq_true, if_true, if_false, ite_true, ite_false, hu, hb]; done) | (simp (decide := true) only [wUpW, decide_true, decide_false, cond_true, cond_false, Bool.false_eq_true, if_true, if_false, ite_true, ite_false, hu, hb]; rfl) | rfl) (by first | decide | exact rf_bor _ | exact rf_bd (by assumption)))
  · have hu := bd_f h9
    refine tg_steps 3 rfl ?_
    refine tg_call1 rfl (m_isIn _ _ _) rfl rfl rfl  (fun v15 w15 q15 => ?_)
    obtain ⟨rfl, rfl⟩ := q15
    try rw [inB_up]
    refine tg_ifbne rfl rfl (fun h18 => ?_) (fun h18 => ?_)
    · refine tg_steps 1 rfl ?_
      refine tg_ifeq rfl rfl (fun h25 => ?_) (fun h25 => absurd (h9) h25)
      obtain ⟨j, hj, rfl⟩ := up_j (k := k) (m := 20) rfl hu
      have cj : nN (nI j) = j := nI_clamp (by omega)
      refine tg_steps 9 rfl ?_
      refine tg_pkV [0, 1, 2, 4, 5, 6, 7] ?_
      refine tg_eqS (L2 := [(0, .ref 64), (1, .int (nI j)), (2, .int what), (4, .int (hS h)), (5, .int (smQ h j (0)).1), (6, .int (smQ h j (0)).2), (7, .int (nI (0)))]) (st2 := []) (w2 := (l, tm_cs (sS h (hS h)) y)) rfl rfl rfl ?_
      refine tg_down (φ := fun i : Nat => ∀ (s : Int32) (y2 : tp_Y) (e2 : yk 78 y y2), tg_V G 9 mX11_shipBest 0 0 0 0 (pM l (wUpW (nI j) 20 what) (.int (wUpW (nI j) 20 what)) (.int (aShM h (nI j) what)) h y (h) (y)) 51 [(0, .ref 64), (1, .int (nI j)), (2, .int what), (4, .int (hS h)), (5, .int (smQ h j (i)).1), (6, .int (smQ h j (i)).2), (7, .int (nI (i)))] [] (l, tm_cs (sS h s) y2)) (n := 24) ?_ ?_ 0 (Nat.zero_le _) (hS h) y (yk_rf 78 y) 
      · intro s y2 e2
        refine tg_steps 2 rfl ?_
        refine tg_icge rfl rfl (fun h55 => ?_) (fun h55 => ?_)
        · refine tg_steps 3 rfl ?_
          refine tg_eqW (m_S _) ?_
          rw [w_SS, sS_id]
          refine tg_steps 1 rfl ?_
          refine tg_ifne rfl rfl (fun h102 => ?_) (fun h102 => ?_)
          · refine tg_steps 1 rfl ?_
            exact tg_iret (st := []) rfl rfl ⟨Nat.le_of_ble_eq_true rfl, Nat.le_of_ble_eq_true rfl⟩ (pM_ok (by first | (simp (decide := true) only [wUpW, decide_true, decide_false, cond_true, cond_false, Bool.false_eq_true, if_true, if_false, ite_true, ite_false, hu, h18, h102]; done) | (simp (decide := true) only [wUpW, decide_true, decide_false, cond_true, cond_false, Bool.false_eq_true, if_true, if_false, ite_true, ite_false, hu, h18, h102]; done) | (simp (decide := true) only [wUpW, decide_true, decide_false, cond_true, cond_false, Bool.false_eq_true, if_true, if_false, ite_true, ite_false, hu, h18, h102]; rfl) | rfl) (by first | (simp (decide := true) only [aShM, cj, decide_true, decide_false, cond_true, cond_false, Bool.false_eq_true, if_true, if_false, ite_true, ite_false, hu, h18, h102]; done) | (simp (decide := true) only [aShM, cj, decide_true, decide_false, cond_true, cond_false, Bool.false_eq_true, if_true, if_false, ite_true, ite_false, hu, h18, h102]; done) | (simp (decide := true) only [aShM, cj, decide_true, decide_false, cond_true, cond_false, Bool.false_eq_true, if_true, if_false, ite_true, ite_false, hu, h18, h102]; rfl) | rfl) (yk_le (by decide) e2))
          · refine tg_steps 2 rfl ?_
            exact tg_iret (st := []) rfl rfl ⟨Nat.le_of_ble_eq_true rfl, Nat.le_of_ble_eq_true rfl⟩ (pM_ok (by first | (simp (decide := true) only [wUpW, decide_true, decide_false, cond_true, cond_false, Bool.false_eq_true, if_true, if_false, ite_true, ite_false, hu, h18, eq_true h102]; done) | (simp (decide := true) only [wUpW, decide_true, decide_false, cond_true, cond_false, Bool.false_eq_true, if_true, if_false, ite_true, ite_false, hu, h18, h102]; done) | (simp (decide := true) only [wUpW, decide_true, decide_false, cond_true, cond_false, Bool.false_eq_true, if_true, if_false, ite_true, ite_false, hu, h18, eq_true h102]; rfl) | rfl) (by first | (simp (decide := true) only [aShM, cj, decide_true, decide_false, cond_true, cond_false, Bool.false_eq_true, if_true, if_false, ite_true, ite_false, hu, h18, eq_true h102]; done) | (simp (decide := true) only [aShM, cj, decide_true, decide_false, cond_true, cond_false, Bool.false_eq_true, if_true, if_false, ite_true, ite_false, hu, h18, h102]; done) | (simp (decide := true) only [aShM, cj, decide_true, decide_false, cond_true, cond_false, Bool.false_eq_true, if_true, if_false, ite_true, ite_false, hu, h18, eq_true h102]; rfl) | rfl) (yk_le (by decide) e2))
        · exact absurd (by decide) h55
      · intro i hi51 ih51 s y2 e2
        refine tg_steps 2 rfl ?_
        refine tg_icge rfl rfl (fun h55 => ?_) (fun h55 => ?_)
        · exact absurd h55 (nI_ge (b := 24) hi51 (by decide))
        · refine tg_steps 3 rfl ?_
          refine tg_eqW (m_S _) ?_
          rw [w_SS]
          refine tg_steps 2 rfl ?_
          refine tg_callV rfl (m_manyAboardIn (h := sS h (nI i)) (y := y2) (wf_sS hw (isT_nI hi51)) j (by omega)) rfl rfl rfl rfl rfl (fun v66 w66 q66 => ?_)
          obtain ⟨rfl, y3, rfl, e3⟩ := q66
          rw [show abM (pNs j (sS h (nI i))) = shW h j (nI i) from rfl]
          refine tg_steps 3 rfl ?_
          refine tg_icgt rfl rfl (fun h75 => ?_) (fun h75 => ?_)
          · refine tg_steps 6 rfl ?_
            refine tg_pkV [0, 1, 2, 4, 5, 6, 7] ?_
            refine tg_eqS (L2 := [(0, .ref 64), (1, .int (nI j)), (2, .int what), (4, .int (hS h)), (5, .int (smQ h j (i + 1)).1), (6, .int (smQ h j (i + 1)).2), (7, .int (nI (i + 1)))]) (st2 := []) (w2 := _) (by first | (rw [smQ_succ, if_neg (Int32.not_le.mpr h75), nI_succ]; rfl) | (rw [smQ_succ, if_pos (Int32.not_lt.mp h75), nI_succ]; rfl)) rfl rfl ?_
            exact ih51 (nI i) y3 (yk_tr e2 e3)
          · refine tg_steps 3 rfl ?_
            refine tg_pkV [0, 1, 2, 4, 5, 6, 7] ?_
            refine tg_eqS (L2 := [(0, .ref 64), (1, .int (nI j)), (2, .int what), (4, .int (hS h)), (5, .int (smQ h j (i + 1)).1), (6, .int (smQ h j (i + 1)).2), (7, .int (nI (i + 1)))]) (st2 := []) (w2 := _) (by first | (rw [smQ_succ, if_neg (Int32.not_le.mpr h75), nI_succ]; rfl) | (rw [smQ_succ, if_pos (Int32.not_lt.mp h75), nI_succ]; rfl)) rfl rfl ?_
            exact ih51 (nI i) y3 (yk_tr e2 e3)
    · refine tg_steps 3 rfl ?_
      refine tg_ifeq rfl rfl (fun h25 => absurd h25 (by decide)) (fun _ => ?_)
      refine tg_steps 2 rfl ?_
      refine tg_callV rfl (m_no _ (by first | decide | exact rf_bor _ | exact rf_bd (by assumption))) rfl rfl rfl rfl rfl (fun v30 w30 q30 => ?_)
      obtain ⟨rfl, rfl⟩ := q30
      exact tg_iret (st := []) rfl rfl ⟨Nat.le_of_ble_eq_true rfl, Nat.le_of_ble_eq_true rfl⟩ (pM_refI (by first | (simp (decide := true) only [wUpW, decide_true, decide_false, cond_true, cond_false, Bool.false_eq_true, if_true, if_false, ite_true, ite_false, hu, h18]; done) | (simp (decide := true) only [wUpW, decide_true, decide_false, cond_true, cond_false, Bool.false_eq_true, if_true, if_false, ite_true, ite_false, hu, h18]; done) | (simp (decide := true) only [wUpW, decide_true, decide_false, cond_true, cond_false, Bool.false_eq_true, if_true, if_false, ite_true, ite_false, hu, h18]; rfl) | rfl) (by first | decide | exact rf_bor _ | exact rf_bd (by assumption)))
set_option maxRecDepth 100000 in
set_option maxHeartbeats 2000000 in
theorem r_mend {G : tg_G} {l : List tg_Cl} {h : tp_H} {y : tp_Y} (hw : wfH h) (k : Int32) (what : Int32) : tg_C G 9 mX11_mend 0 0 [.ref 64, .int k, .int what] (l, tm_cs h y) (pM l (wUpW k 20 what) (.int (wUpW k 20 what)) (.int ((mdS h (nN k) what 24).1)) h y (h) (y)) := by
  have hm := hw.1
  refine tg_intro okX11_mend (Nat.le_of_ble_eq_true rfl) ?_
  refine tg_steps 3 rfl ?_
  refine tg_call1 rfl (m_bound _ _ _) rfl rfl rfl  (fun v4 w4 q4 => ?_)
  obtain ⟨rfl, rfl⟩ := q4
  refine tg_steps 2 rfl ?_
  refine tg_ifne rfl rfl (fun h9 => ?_) (fun h9 => ?_)
  · obtain ⟨hu, hb⟩ := bd_t h9
    refine tg_steps 1 rfl ?_
    refine tg_ifeq rfl rfl (fun h25 => absurd h25 (h9)) (fun _ => ?_)
    refine tg_steps 2 rfl ?_
    refine tg_callV rfl (m_no _ (by first | decide | exact rf_bor _ | exact rf_bd (by assumption))) rfl rfl rfl rfl rfl (fun v30 w30 q30 => ?_)
    obtain ⟨rfl, rfl⟩ := q30
    exact tg_iret (st := []) rfl rfl ⟨Nat.le_of_ble_eq_true rfl, Nat.le_of_ble_eq_true rfl⟩ (pM_refI (by first | (simp (decide := true) only [wUpW, decide_true, decide_false, cond_true, cond_false, Bool.false_eq_true, if_true, if_false, ite_true, ite_false, hu, hb]; done) | (simp (decide := true) only [wUpW, decide_true, decide_false, cond_true, cond_false, Bool.false_eq_true, if_true, if_false, ite_true, ite_false, hu, hb]; done) | (simp (decide := true) only [wUpW, decide_true, decide_false, cond_true, cond_false, Bool.false_eq_true, if_true, if_false, ite_true, ite_false, hu, hb]; rfl) | rfl) (by first | decide | exact rf_bor _ | exact rf_bd (by assumption)))
  · have hu := bd_f h9
    refine tg_steps 3 rfl ?_
    refine tg_call1 rfl (m_isIn _ _ _) rfl rfl rfl  (fun v15 w15 q15 => ?_)
    obtain ⟨rfl, rfl⟩ := q15
    try rw [inB_up]
    refine tg_ifbne rfl rfl (fun h18 => ?_) (fun h18 => ?_)
    · refine tg_steps 1 rfl ?_
      refine tg_ifeq rfl rfl (fun h25 => ?_) (fun h25 => absurd (h9) h25)
      obtain ⟨j, hj, rfl⟩ := up_j (k := k) (m := 20) rfl hu
      have cj : nN (nI j) = j := nI_clamp (by omega)
      refine tg_steps 4 rfl ?_
      refine tg_callV rfl (m_manyAboardIn hw j (by omega)) rfl rfl rfl rfl rfl (fun v40 w40 q40 => ?_)
      obtain ⟨rfl, y0, rfl, e0⟩ := q40
      refine tg_steps 3 rfl ?_
      refine tg_pkV [0, 1, 2, 4, 5, 6] ?_
      refine tg_eqS (L2 := [(0, .ref 64), (1, .int (nI j)), (2, .int what), (4, .int (mdS h j what (0)).1), (5, .int (mdS h j what (0)).2), (6, .int (nI (0)))]) (st2 := []) (w2 := (l, tm_cs h y0)) (by rw [mdS_0]; rfl) rfl rfl ?_
      refine tg_down (φ := fun i : Nat => ∀ (y2 : tp_Y) (e2 : yk 78 y y2), tg_V G 9 mX11_mend 0 0 0 0 (pM l (wUpW (nI j) 20 what) (.int (wUpW (nI j) 20 what)) (.int ((mdS h (nN (nI j)) what 24).1)) h y (h) (y)) 48 [(0, .ref 64), (1, .int (nI j)), (2, .int what), (4, .int (mdS h j what (i)).1), (5, .int (mdS h j what (i)).2), (6, .int (nI (i)))] [] (l, tm_cs h y2)) (n := 24) ?_ ?_ 0 (Nat.zero_le _) y0 e0 
      · intro y2 e2
        refine tg_steps 2 rfl ?_
        refine tg_icge rfl rfl (fun h52 => ?_) (fun h52 => ?_)
        · refine tg_steps 1 rfl ?_
          exact tg_iret (st := []) rfl rfl ⟨Nat.le_of_ble_eq_true rfl, Nat.le_of_ble_eq_true rfl⟩ (pM_ok (by first | (simp (decide := true) only [wUpW, decide_true, decide_false, cond_true, cond_false, Bool.false_eq_true, if_true, if_false, ite_true, ite_false, hu, h18]; done) | (simp (decide := true) only [wUpW, decide_true, decide_false, cond_true, cond_false, Bool.false_eq_true, if_true, if_false, ite_true, ite_false, hu, h18]; done) | (simp (decide := true) only [wUpW, decide_true, decide_false, cond_true, cond_false, Bool.false_eq_true, if_true, if_false, ite_true, ite_false, hu, h18]; rfl) | rfl) (by first | (simp (decide := true) only [cj, decide_true, decide_false, cond_true, cond_false, Bool.false_eq_true, if_true, if_false, ite_true, ite_false, hu, h18]; done) | (simp (decide := true) only [cj, decide_true, decide_false, cond_true, cond_false, Bool.false_eq_true, if_true, if_false, ite_true, ite_false, hu, h18]; done) | (simp (decide := true) only [cj, decide_true, decide_false, cond_true, cond_false, Bool.false_eq_true, if_true, if_false, ite_true, ite_false, hu, h18]; rfl) | rfl) (yk_le (by decide) e2))
        · exact absurd (by decide) h52
      · intro i hi48 ih48 y2 e2
        refine tg_steps 2 rfl ?_
        refine tg_icge rfl rfl (fun h52 => ?_) (fun h52 => ?_)
        · exact absurd h52 (nI_ge (b := 24) hi48 (by decide))
        · refine tg_steps 3 rfl ?_
          refine tg_call1 rfl (m_has _ _) rfl rfl rfl  (fun v61 w61 q61 => ?_)
          obtain ⟨rfl, rfl⟩ := q61
          refine tg_steps 1 rfl ?_
          refine tg_ifne rfl rfl (fun h65 => ?_) (fun h65 => ?_)
          · refine tg_steps 1 rfl ?_
            refine tg_iceq rfl rfl (fun h73 => ?_) (fun h73 => ?_)
            · first | have hc : crB h (nI i) = true := tgb_1 h73 | have hc : crB h (nI i) = false := tgb_0 h73
              refine tg_steps 8 rfl ?_
              refine tg_eqW (w2 := (l, tm_cs (crkH h (nI i)) y2)) (m_C _) ?_
              refine tg_steps 2 rfl ?_
              refine tg_callV rfl (m_manyAboardIn (h := crkH h (nI i)) (y := y2) (wf_crkH hw _) j (by omega)) rfl rfl rfl rfl rfl (fun v94 w94 q94 => ?_)
              obtain ⟨rfl, y3, rfl, e3⟩ := q94
              rw [show abM (pNs j (crkH h (nI i))) = crW h j (nI i) from rfl]
              refine tg_steps 9 rfl ?_
              refine tg_eqW (m_C _) ?_
              rw [crk2]
              refine tg_steps 1 rfl ?_
              refine tg_ifne rfl rfl (fun h113 => ?_) (fun h113 => ?_)
              · refine tg_steps 2 rfl ?_
                refine tg_iclt rfl rfl (fun h130 => ?_) (fun h130 => ?_)
                · refine tg_steps 6 rfl ?_
                  refine tg_pkV [0, 1, 2, 4, 5, 6] ?_
                  refine tg_eqS (L2 := [(0, .ref 64), (1, .int (nI j)), (2, .int what), (4, .int (mdS h j what (i + 1)).1), (5, .int (mdS h j what (i + 1)).2), (6, .int (nI (i + 1)))]) (st2 := []) (w2 := _) (by first | (rw [show mdS h j what (i + 1) = mdS h j what i from md_sk (fun _ => hc) (fun q => absurd h65 q), nI_succ]; rfl) | (rw [show mdS h j what (i + 1) = mdS h j what i from md_sk (fun q => absurd q h65) (fun _ => hc), nI_succ]; rfl) | (rw [md_mx h65 hc, if_neg (Int32.not_le.mpr h120), nI_succ]; rfl) | (rw [md_mx h65 hc, if_pos (Int32.not_lt.mp h120), nI_succ]; rfl) | (rw [md_mn h65 hc, if_neg (Int32.not_le.mpr h130), nI_succ]; rfl) | (rw [md_mn h65 hc, if_pos (Int32.not_lt.mp h130), nI_succ]; rfl) | exact absurd h113 h65 | exact absurd h65 h113) rfl rfl ?_
                  exact ih48 y3 (yk_tr e2 e3)
                · refine tg_steps 3 rfl ?_
                  refine tg_pkV [0, 1, 2, 4, 5, 6] ?_
                  refine tg_eqS (L2 := [(0, .ref 64), (1, .int (nI j)), (2, .int what), (4, .int (mdS h j what (i + 1)).1), (5, .int (mdS h j what (i + 1)).2), (6, .int (nI (i + 1)))]) (st2 := []) (w2 := _) (by first | (rw [show mdS h j what (i + 1) = mdS h j what i from md_sk (fun _ => hc) (fun q => absurd h65 q), nI_succ]; rfl) | (rw [show mdS h j what (i + 1) = mdS h j what i from md_sk (fun q => absurd q h65) (fun _ => hc), nI_succ]; rfl) | (rw [md_mx h65 hc, if_neg (Int32.not_le.mpr h120), nI_succ]; rfl) | (rw [md_mx h65 hc, if_pos (Int32.not_lt.mp h120), nI_succ]; rfl) | (rw [md_mn h65 hc, if_neg (Int32.not_le.mpr h130), nI_succ]; rfl) | (rw [md_mn h65 hc, if_pos (Int32.not_lt.mp h130), nI_succ]; rfl) | exact absurd h113 h65 | exact absurd h65 h113) rfl rfl ?_
                  exact ih48 y3 (yk_tr e2 e3)
              · refine tg_steps 2 rfl ?_
                refine tg_icgt rfl rfl (fun h120 => ?_) (fun h120 => ?_)
                · refine tg_steps 6 rfl ?_
                  refine tg_pkV [0, 1, 2, 4, 5, 6] ?_
                  refine tg_eqS (L2 := [(0, .ref 64), (1, .int (nI j)), (2, .int what), (4, .int (mdS h j what (i + 1)).1), (5, .int (mdS h j what (i + 1)).2), (6, .int (nI (i + 1)))]) (st2 := []) (w2 := _) (by first | (rw [show mdS h j what (i + 1) = mdS h j what i from md_sk (fun _ => hc) (fun q => absurd h65 q), nI_succ]; rfl) | (rw [show mdS h j what (i + 1) = mdS h j what i from md_sk (fun q => absurd q h65) (fun _ => hc), nI_succ]; rfl) | (rw [md_mx h65 hc, if_neg (Int32.not_le.mpr h120), nI_succ]; rfl) | (rw [md_mx h65 hc, if_pos (Int32.not_lt.mp h120), nI_succ]; rfl) | (rw [md_mn h65 hc, if_neg (Int32.not_le.mpr h130), nI_succ]; rfl) | (rw [md_mn h65 hc, if_pos (Int32.not_lt.mp h130), nI_succ]; rfl) | exact absurd h113 h65 | exact absurd h65 h113) rfl rfl ?_
                  exact ih48 y3 (yk_tr e2 e3)
                · refine tg_steps 3 rfl ?_
                  refine tg_pkV [0, 1, 2, 4, 5, 6] ?_
                  refine tg_eqS (L2 := [(0, .ref 64), (1, .int (nI j)), (2, .int what), (4, .int (mdS h j what (i + 1)).1), (5, .int (mdS h j what (i + 1)).2), (6, .int (nI (i + 1)))]) (st2 := []) (w2 := _) (by first | (rw [show mdS h j what (i + 1) = mdS h j what i from md_sk (fun _ => hc) (fun q => absurd h65 q), nI_succ]; rfl) | (rw [show mdS h j what (i + 1) = mdS h j what i from md_sk (fun q => absurd q h65) (fun _ => hc), nI_succ]; rfl) | (rw [md_mx h65 hc, if_neg (Int32.not_le.mpr h120), nI_succ]; rfl) | (rw [md_mx h65 hc, if_pos (Int32.not_lt.mp h120), nI_succ]; rfl) | (rw [md_mn h65 hc, if_neg (Int32.not_le.mpr h130), nI_succ]; rfl) | (rw [md_mn h65 hc, if_pos (Int32.not_lt.mp h130), nI_succ]; rfl) | exact absurd h113 h65 | exact absurd h65 h113) rfl rfl ?_
                  exact ih48 y3 (yk_tr e2 e3)
            · first | have hc : crB h (nI i) = false := tgb_n1 h73 | have hc : crB h (nI i) = true := tgb_n0 h73
              refine tg_steps 3 rfl ?_
              refine tg_pkV [0, 1, 2, 4, 5, 6] ?_
              refine tg_eqS (L2 := [(0, .ref 64), (1, .int (nI j)), (2, .int what), (4, .int (mdS h j what (i + 1)).1), (5, .int (mdS h j what (i + 1)).2), (6, .int (nI (i + 1)))]) (st2 := []) (w2 := _) (by first | (rw [show mdS h j what (i + 1) = mdS h j what i from md_sk (fun _ => hc) (fun q => absurd h65 q), nI_succ]; rfl) | (rw [show mdS h j what (i + 1) = mdS h j what i from md_sk (fun q => absurd q h65) (fun _ => hc), nI_succ]; rfl) | (rw [md_mx h65 hc, if_neg (Int32.not_le.mpr h120), nI_succ]; rfl) | (rw [md_mx h65 hc, if_pos (Int32.not_lt.mp h120), nI_succ]; rfl) | (rw [md_mn h65 hc, if_neg (Int32.not_le.mpr h130), nI_succ]; rfl) | (rw [md_mn h65 hc, if_pos (Int32.not_lt.mp h130), nI_succ]; rfl) | exact absurd h113 h65 | exact absurd h65 h113) rfl rfl ?_
              exact ih48 y2 e2
          · refine tg_steps 2 rfl ?_
            refine tg_iceq rfl rfl (fun h73 => ?_) (fun h73 => ?_)
            · first | have hc : crB h (nI i) = true := tgb_1 h73 | have hc : crB h (nI i) = false := tgb_0 h73
              refine tg_steps 8 rfl ?_
              refine tg_eqW (w2 := (l, tm_cs (crkH h (nI i)) y2)) (m_C _) ?_
              refine tg_steps 2 rfl ?_
              refine tg_callV rfl (m_manyAboardIn (h := crkH h (nI i)) (y := y2) (wf_crkH hw _) j (by omega)) rfl rfl rfl rfl rfl (fun v94 w94 q94 => ?_)
              obtain ⟨rfl, y3, rfl, e3⟩ := q94
              rw [show abM (pNs j (crkH h (nI i))) = crW h j (nI i) from rfl]
              refine tg_steps 9 rfl ?_
              refine tg_eqW (m_C _) ?_
              rw [crk2]
              refine tg_steps 1 rfl ?_
              refine tg_ifne rfl rfl (fun h113 => ?_) (fun h113 => ?_)
              · refine tg_steps 2 rfl ?_
                refine tg_iclt rfl rfl (fun h130 => ?_) (fun h130 => ?_)
                · refine tg_steps 6 rfl ?_
                  refine tg_pkV [0, 1, 2, 4, 5, 6] ?_
                  refine tg_eqS (L2 := [(0, .ref 64), (1, .int (nI j)), (2, .int what), (4, .int (mdS h j what (i + 1)).1), (5, .int (mdS h j what (i + 1)).2), (6, .int (nI (i + 1)))]) (st2 := []) (w2 := _) (by first | (rw [show mdS h j what (i + 1) = mdS h j what i from md_sk (fun _ => hc) (fun q => absurd h65 q), nI_succ]; rfl) | (rw [show mdS h j what (i + 1) = mdS h j what i from md_sk (fun q => absurd q h65) (fun _ => hc), nI_succ]; rfl) | (rw [md_mx h65 hc, if_neg (Int32.not_le.mpr h120), nI_succ]; rfl) | (rw [md_mx h65 hc, if_pos (Int32.not_lt.mp h120), nI_succ]; rfl) | (rw [md_mn h65 hc, if_neg (Int32.not_le.mpr h130), nI_succ]; rfl) | (rw [md_mn h65 hc, if_pos (Int32.not_lt.mp h130), nI_succ]; rfl) | exact absurd h113 h65 | exact absurd h65 h113) rfl rfl ?_
                  exact ih48 y3 (yk_tr e2 e3)
                · refine tg_steps 3 rfl ?_
                  refine tg_pkV [0, 1, 2, 4, 5, 6] ?_
                  refine tg_eqS (L2 := [(0, .ref 64), (1, .int (nI j)), (2, .int what), (4, .int (mdS h j what (i + 1)).1), (5, .int (mdS h j what (i + 1)).2), (6, .int (nI (i + 1)))]) (st2 := []) (w2 := _) (by first | (rw [show mdS h j what (i + 1) = mdS h j what i from md_sk (fun _ => hc) (fun q => absurd h65 q), nI_succ]; rfl) | (rw [show mdS h j what (i + 1) = mdS h j what i from md_sk (fun q => absurd q h65) (fun _ => hc), nI_succ]; rfl) | (rw [md_mx h65 hc, if_neg (Int32.not_le.mpr h120), nI_succ]; rfl) | (rw [md_mx h65 hc, if_pos (Int32.not_lt.mp h120), nI_succ]; rfl) | (rw [md_mn h65 hc, if_neg (Int32.not_le.mpr h130), nI_succ]; rfl) | (rw [md_mn h65 hc, if_pos (Int32.not_lt.mp h130), nI_succ]; rfl) | exact absurd h113 h65 | exact absurd h65 h113) rfl rfl ?_
                  exact ih48 y3 (yk_tr e2 e3)
              · refine tg_steps 2 rfl ?_
                refine tg_icgt rfl rfl (fun h120 => ?_) (fun h120 => ?_)
                · refine tg_steps 6 rfl ?_
                  refine tg_pkV [0, 1, 2, 4, 5, 6] ?_
                  refine tg_eqS (L2 := [(0, .ref 64), (1, .int (nI j)), (2, .int what), (4, .int (mdS h j what (i + 1)).1), (5, .int (mdS h j what (i + 1)).2), (6, .int (nI (i + 1)))]) (st2 := []) (w2 := _) (by first | (rw [show mdS h j what (i + 1) = mdS h j what i from md_sk (fun _ => hc) (fun q => absurd h65 q), nI_succ]; rfl) | (rw [show mdS h j what (i + 1) = mdS h j what i from md_sk (fun q => absurd q h65) (fun _ => hc), nI_succ]; rfl) | (rw [md_mx h65 hc, if_neg (Int32.not_le.mpr h120), nI_succ]; rfl) | (rw [md_mx h65 hc, if_pos (Int32.not_lt.mp h120), nI_succ]; rfl) | (rw [md_mn h65 hc, if_neg (Int32.not_le.mpr h130), nI_succ]; rfl) | (rw [md_mn h65 hc, if_pos (Int32.not_lt.mp h130), nI_succ]; rfl) | exact absurd h113 h65 | exact absurd h65 h113) rfl rfl ?_
                  exact ih48 y3 (yk_tr e2 e3)
                · refine tg_steps 3 rfl ?_
                  refine tg_pkV [0, 1, 2, 4, 5, 6] ?_
                  refine tg_eqS (L2 := [(0, .ref 64), (1, .int (nI j)), (2, .int what), (4, .int (mdS h j what (i + 1)).1), (5, .int (mdS h j what (i + 1)).2), (6, .int (nI (i + 1)))]) (st2 := []) (w2 := _) (by first | (rw [show mdS h j what (i + 1) = mdS h j what i from md_sk (fun _ => hc) (fun q => absurd h65 q), nI_succ]; rfl) | (rw [show mdS h j what (i + 1) = mdS h j what i from md_sk (fun q => absurd q h65) (fun _ => hc), nI_succ]; rfl) | (rw [md_mx h65 hc, if_neg (Int32.not_le.mpr h120), nI_succ]; rfl) | (rw [md_mx h65 hc, if_pos (Int32.not_lt.mp h120), nI_succ]; rfl) | (rw [md_mn h65 hc, if_neg (Int32.not_le.mpr h130), nI_succ]; rfl) | (rw [md_mn h65 hc, if_pos (Int32.not_lt.mp h130), nI_succ]; rfl) | exact absurd h113 h65 | exact absurd h65 h113) rfl rfl ?_
                  exact ih48 y3 (yk_tr e2 e3)
            · first | have hc : crB h (nI i) = false := tgb_n1 h73 | have hc : crB h (nI i) = true := tgb_n0 h73
              refine tg_steps 3 rfl ?_
              refine tg_pkV [0, 1, 2, 4, 5, 6] ?_
              refine tg_eqS (L2 := [(0, .ref 64), (1, .int (nI j)), (2, .int what), (4, .int (mdS h j what (i + 1)).1), (5, .int (mdS h j what (i + 1)).2), (6, .int (nI (i + 1)))]) (st2 := []) (w2 := _) (by first | (rw [show mdS h j what (i + 1) = mdS h j what i from md_sk (fun _ => hc) (fun q => absurd h65 q), nI_succ]; rfl) | (rw [show mdS h j what (i + 1) = mdS h j what i from md_sk (fun q => absurd q h65) (fun _ => hc), nI_succ]; rfl) | (rw [md_mx h65 hc, if_neg (Int32.not_le.mpr h120), nI_succ]; rfl) | (rw [md_mx h65 hc, if_pos (Int32.not_lt.mp h120), nI_succ]; rfl) | (rw [md_mn h65 hc, if_neg (Int32.not_le.mpr h130), nI_succ]; rfl) | (rw [md_mn h65 hc, if_pos (Int32.not_lt.mp h130), nI_succ]; rfl) | exact absurd h113 h65 | exact absurd h65 h113) rfl rfl ?_
              exact ih48 y2 e2
    · refine tg_steps 3 rfl ?_
      refine tg_ifeq rfl rfl (fun h25 => absurd h25 (by decide)) (fun _ => ?_)
      refine tg_steps 2 rfl ?_
      refine tg_callV rfl (m_no _ (by first | decide | exact rf_bor _ | exact rf_bd (by assumption))) rfl rfl rfl rfl rfl (fun v30 w30 q30 => ?_)
      obtain ⟨rfl, rfl⟩ := q30
      exact tg_iret (st := []) rfl rfl ⟨Nat.le_of_ble_eq_true rfl, Nat.le_of_ble_eq_true rfl⟩ (pM_refI (by first | (simp (decide := true) only [wUpW, decide_true, decide_false, cond_true, cond_false, Bool.false_eq_true, if_true, if_false, ite_true, ite_false, hu, h18]; done) | (simp (decide := true) only [wUpW, decide_true, decide_false, cond_true, cond_false, Bool.false_eq_true, if_true, if_false, ite_true, ite_false, hu, h18]; done) | (simp (decide := true) only [wUpW, decide_true, decide_false, cond_true, cond_false, Bool.false_eq_true, if_true, if_false, ite_true, ite_false, hu, h18]; rfl) | rfl) (by first | decide | exact rf_bor _ | exact rf_bd (by assumption)))
set_option maxRecDepth 100000 in
set_option maxHeartbeats 2000000 in
theorem r_pin {G : tg_G} {l : List tg_Cl} {h : tp_H} {y : tp_Y} (hw : wfH h) (k : Int32) : tg_C G 9 mX11_pin 0 0 [.ref 64, .int k] (l, tm_cs h y) (pM l (wUp k 20) (.int (wUp k 20)) (.int (aPin h k)) h y (h) (y)) := by
  have hm := hw.1
  refine tg_intro okX11_pin (Nat.le_of_ble_eq_true rfl) ?_
  refine tg_steps 3 rfl ?_
  refine tg_call1 rfl (m_bound _ _ _) rfl rfl rfl  (fun v4 w4 q4 => ?_)
  obtain ⟨rfl, rfl⟩ := q4
  refine tg_steps 2 rfl ?_
  refine tg_ifeq rfl rfl (fun h9 => ?_) (fun h9 => ?_)
  · have hu := bd_f h9
    obtain ⟨j, hj, rfl⟩ := up_j (k := k) (m := 20) rfl hu
    have cj : nN (nI j) = j := nI_clamp (by omega)
    refine tg_steps 4 rfl ?_
    refine tg_callV rfl (m_manyAboardIn hw j (by omega)) rfl rfl rfl rfl rfl (fun v23 w23 q23 => ?_)
    obtain ⟨rfl, y0, rfl, e0⟩ := q23
    refine tg_steps 3 rfl ?_
    refine tg_pkV [0, 1, 3, 4, 5] ?_
    refine tg_eqS (L2 := [(0, .ref 64), (1, .int (nI j)), (3, .int (mnQ (fun _ => true) (fun i => piW h j (nI i)) (-9) (abM (pNs j h)) (0)).1), (4, .int (mnQ (fun _ => true) (fun i => piW h j (nI i)) (-9) (abM (pNs j h)) (0)).2), (5, .int (nI (0)))]) (st2 := []) (w2 := (l, tm_cs h y0)) rfl rfl rfl ?_
    refine tg_down (φ := fun i : Nat => ∀ (y2 : tp_Y) (e2 : yk 39 y y2), tg_V G 9 mX11_pin 0 0 0 0 (pM l (wUp (nI j) 20) (.int (wUp (nI j) 20)) (.int (aPin h (nI j))) h y (h) (y)) 31 [(0, .ref 64), (1, .int (nI j)), (3, .int (mnQ (fun _ => true) (fun i => piW h j (nI i)) (-9) (abM (pNs j h)) (i)).1), (4, .int (mnQ (fun _ => true) (fun i => piW h j (nI i)) (-9) (abM (pNs j h)) (i)).2), (5, .int (nI (i)))] [] (l, tm_cs h y2)) (n := hM h) ?_ ?_ 0 (Nat.zero_le _) y0 (yk_le (by decide) e0) 
    · intro y2 e2
      refine tg_steps 3 rfl ?_
      refine tg_icge rfl rfl (fun h37 => ?_) (fun h37 => ?_)
      · refine tg_steps 1 rfl ?_
        exact tg_iret (st := []) rfl rfl ⟨Nat.le_of_ble_eq_true rfl, Nat.le_of_ble_eq_true rfl⟩ (pM_ok (by first | (simp (decide := true) only [wUp, decide_true, decide_false, cond_true, cond_false, Bool.false_eq_true, if_true, if_false, ite_true, ite_false, hu]; done) | (simp (decide := true) only [wUp, decide_true, decide_false, cond_true, cond_false, Bool.false_eq_true, if_true, if_false, ite_true, ite_false, hu]; done) | (simp (decide := true) only [wUp, decide_true, decide_false, cond_true, cond_false, Bool.false_eq_true, if_true, if_false, ite_true, ite_false, hu]; rfl) | rfl) (by first | (simp (decide := true) only [aPin, cj, decide_true, decide_false, cond_true, cond_false, Bool.false_eq_true, if_true, if_false, ite_true, ite_false, hu]; done) | (simp (decide := true) only [aPin, cj, decide_true, decide_false, cond_true, cond_false, Bool.false_eq_true, if_true, if_false, ite_true, ite_false, hu]; done) | (simp (decide := true) only [aPin, cj, decide_true, decide_false, cond_true, cond_false, Bool.false_eq_true, if_true, if_false, ite_true, ite_false, hu]; rfl) | rfl) (e2))
      · exact absurd (nI_le (Nat.le_refl _) (by omega)) h37
    · intro i hi31 ih31 y2 e2
      refine tg_steps 3 rfl ?_
      refine tg_icge rfl rfl (fun h37 => ?_) (fun h37 => ?_)
      · exact absurd h37 (nI_ge hi31 (by omega))
      · refine tg_steps 1 rfl ?_
        refine tg_callV rfl (m_changes) rfl rfl rfl rfl rfl (fun v41 w41 q41 => ?_)
        obtain ⟨rfl, rfl⟩ := q41
        refine tg_steps 3 rfl ?_
        refine tg_callV rfl (m_pinsOne (y := chY h y2) hm i hi31 9) rfl rfl rfl rfl rfl (fun v49 w49 q49 => ?_)
        obtain ⟨rfl, rfl⟩ := q49
        refine tg_steps 2 rfl ?_
        refine tg_callV rfl (m_manyAboardIn (h := senH h (nI i) 9) (y := chY h y2) (wf_senH hw hi31 9) j (by omega)) rfl rfl rfl rfl rfl (fun v54 w54 q54 => ?_)
        obtain ⟨rfl, y3, rfl, e3⟩ := q54
        rw [show abM (pNs j (senH h (nI i) 9)) = piW h j (nI i) from rfl]
        refine tg_steps 2 rfl ?_
        refine tg_callV rfl (m_changesBack (g := h) (hld_yk (hld_ch h y2) e3)) rfl rfl rfl rfl rfl (fun v60 w60 q60 => ?_)
        obtain ⟨rfl, rfl⟩ := q60
        refine tg_steps 2 rfl ?_
        refine tg_iclt rfl rfl (fun h67 => ?_) (fun h67 => ?_)
        · refine tg_steps 6 rfl ?_
          refine tg_pkV [0, 1, 3, 4, 5] ?_
          refine tg_eqS (L2 := [(0, .ref 64), (1, .int (nI j)), (3, .int (mnQ (fun _ => true) (fun i => piW h j (nI i)) (-9) (abM (pNs j h)) (i + 1)).1), (4, .int (mnQ (fun _ => true) (fun i => piW h j (nI i)) (-9) (abM (pNs j h)) (i + 1)).2), (5, .int (nI (i + 1)))]) (st2 := []) (w2 := _) (by first | (simp (decide := true) only [nI_succ, mnQ_succ, decide_true, decide_false, cond_true, cond_false, Bool.false_eq_true, if_true, if_false, ite_true, ite_false, hu, h67, Int32.not_le.mpr h67]; done) | (simp (decide := true) only [nI_succ, mnQ_succ, decide_true, decide_false, cond_true, cond_false, Bool.false_eq_true, if_true, if_false, ite_true, ite_false, hu, h67, Int32.not_le.mpr h67]; rfl) | rfl) rfl rfl ?_
          exact ih31 _ (yk_tr e2 (yk_tr (yk_ch h y2) (yk_tr (yk_le (by decide) e3) (yk_cb 39 y3))))
        · refine tg_steps 3 rfl ?_
          refine tg_pkV [0, 1, 3, 4, 5] ?_
          refine tg_eqS (L2 := [(0, .ref 64), (1, .int (nI j)), (3, .int (mnQ (fun _ => true) (fun i => piW h j (nI i)) (-9) (abM (pNs j h)) (i + 1)).1), (4, .int (mnQ (fun _ => true) (fun i => piW h j (nI i)) (-9) (abM (pNs j h)) (i + 1)).2), (5, .int (nI (i + 1)))]) (st2 := []) (w2 := _) (by first | (simp (decide := true) only [nI_succ, mnQ_succ, decide_true, decide_false, cond_true, cond_false, Bool.false_eq_true, if_true, if_false, ite_true, ite_false, hu, h67, Int32.not_lt.mp h67]; done) | (simp (decide := true) only [nI_succ, mnQ_succ, decide_true, decide_false, cond_true, cond_false, Bool.false_eq_true, if_true, if_false, ite_true, ite_false, hu, h67, Int32.not_lt.mp h67]; rfl) | rfl) rfl rfl ?_
          exact ih31 _ (yk_tr e2 (yk_tr (yk_ch h y2) (yk_tr (yk_le (by decide) e3) (yk_cb 39 y3))))
  · obtain ⟨hu, hb⟩ := bd_t h9
    refine tg_steps 2 rfl ?_
    refine tg_callV rfl (m_no _ (by first | decide | exact rf_bor _ | exact rf_bd (by assumption))) rfl rfl rfl rfl rfl (fun v14 w14 q14 => ?_)
    obtain ⟨rfl, rfl⟩ := q14
    exact tg_iret (st := []) rfl rfl ⟨Nat.le_of_ble_eq_true rfl, Nat.le_of_ble_eq_true rfl⟩ (pM_refI (by first | (simp (decide := true) only [wUp, decide_true, decide_false, cond_true, cond_false, Bool.false_eq_true, if_true, if_false, ite_true, ite_false, hu, hb]; done) | (simp (decide := true) only [wUp, decide_true, decide_false, cond_true, cond_false, Bool.false_eq_true, if_true, if_false, ite_true, ite_false, hu, hb]; done) | (simp (decide := true) only [wUp, decide_true, decide_false, cond_true, cond_false, Bool.false_eq_true, if_true, if_false, ite_true, ite_false, hu, hb]; rfl) | rfl) (by first | decide | exact rf_bor _ | exact rf_bd (by assumption)))
