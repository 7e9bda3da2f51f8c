/-! the public methods of the reference, continued -/
def prM (h : tp_H) (a b k e : Nat) : tp_H := sP (sP h (tg_u (hP h) a (if nI e / 2 = 0 then nI k else hP h a))) (tg_u (hP (sP h (tg_u (hP h) a (if nI e / 2 = 0 then nI k else hP h a)))) b (if nI e % 2 = 0 then nI k else hP (sP h (tg_u (hP h) a (if nI e / 2 = 0 then nI k else hP h a))) b))
def feM (h : tp_H) (f : tp_A) (a b k : Nat) : Nat → tp_A
  | 0 => f
  | e + 1 => tg_u (tg_u (feM h f a b k e) (2 * e) (enM (pNs k (prM h a b k e)) a)) (2 * e + 1) (enM (pNs k (prM h a b k e)) b)
theorem feM_succ (h : tp_H) (f : tp_A) (a b k e : Nat) : feM h f a b k (e + 1) = tg_u (tg_u (feM h f a b k e) (2 * e) (enM (pNs k (prM h a b k e)) a)) (2 * e + 1) (enM (pNs k (prM h a b k e)) b) := rfl
theorem two_m : ∀ e : Nat, e < 4 → (2 : Int32) * nI e = nI (2 * e) ∧ (2 : Int32) * nI e + 1 = nI (2 * e + 1) ∧ (2 : Int32) * (nI e ^^^ 2) = nI (2 * (e ^^^ 2)) ∧ (2 : Int32) * (nI e ^^^ 1) + 1 = nI (2 * (e ^^^ 1) + 1) ∧ 2 * (e ^^^ 2) < 8 ∧ 2 * (e ^^^ 1) + 1 < 8 := by
  intro e he
  have h : ∀ i : Fin 4, (2 : Int32) * nI i.1 = nI (2 * i.1) ∧ (2 : Int32) * nI i.1 + 1 = nI (2 * i.1 + 1) ∧ (2 : Int32) * (nI i.1 ^^^ 2) = nI (2 * (i.1 ^^^ 2)) ∧ (2 : Int32) * (nI i.1 ^^^ 1) + 1 = nI (2 * (i.1 ^^^ 1) + 1) ∧ 2 * (i.1 ^^^ 2) < 8 ∧ 2 * (i.1 ^^^ 1) + 1 < 8 := by decide +kernel
  exact h ⟨e, he⟩
theorem wf_prM {h : tp_H} (hw : wfH h) (a b k e : Nat) : wfH (prM h a b k e) := hw
theorem prM_M (h : tp_H) (a b k e : Nat) : hM (prM h a b k e) = hM h := rfl
theorem thY_En (h : tp_H) (y : tp_Y) : yEn (thY h y) = yEn y := rfl
theorem w_EnEn (y : tp_Y) (f g : tp_A) : zEn (zEn y f) g = zEn y g := by
  obtain ⟨a1, a2, a3, a4, a5, a6, a7, a8, a9, a10, a11, a12, a13, a14, a15, a16, a17⟩ := y
  exact Eq.trans (b := ((a1, a2, a3, a4, a5, a6, a7, a8, a9, a10, a11, a12, a13, g, a15, a16, a17) : tp_Y)) rfl rfl
theorem w_En0 (y : tp_Y) : zEn y (yEn y) = y := by
  obtain ⟨a1, a2, a3, a4, a5, a6, a7, a8, a9, a10, a11, a12, a13, a14, a15, a16, a17⟩ := y
  exact Eq.trans (b := ((a1, a2, a3, a4, a5, a6, a7, a8, a9, a10, a11, a12, a13, a14, a15, a16, a17) : tp_Y)) rfl rfl
theorem hld_en {y : tp_Y} {h : tp_H} {o : Nat} (f : tp_A) (hk : hld (yKe y) o h) : hld (yKe (zEn y f)) o h := by
  rw [g_KeEn]
  exact hk
theorem two_t (f : tp_A) (e : Nat) (u v : Int32) : tg_u (tg_u f (2 * e) u) (2 * e + 1) v = tg_u (tg_u f (2 * e) u) (2 * e + 1) v := rfl
set_option maxRecDepth 100000 in
set_option maxHeartbeats 2000000 in
theorem m_findEnds {G : tg_G} {l : List tg_Cl} {h : tp_H} {y : tp_Y} (hw : wfH h) (a b : Nat) (ha : a < hM h) (hb : b < hM h) (k : Nat) (hk : k < 2 ^ 31) : tg_C G 7 mX11_findEnds 0 0 [.ref 64, .int (nI a), .int (nI b), .int (nI k)] (l, tm_cs h y) (fun v w => v = none ∧ ∃ y2, w = (l, tm_cs h y2) ∧ yk 78 y y2 ∧ yEn y2 = feM h (yEn y) a b k 4) := by
  have hm := hw.1
  refine tg_intro okX11_findEnds (Nat.le_of_ble_eq_true rfl) ?_
  refine tg_steps 2 rfl ?_
  refine tg_pkV [0, 1, 2, 3, 4] ?_
  refine tg_eqS (L2 := [(0, .ref 64), (1, .int (nI a)), (2, .int (nI b)), (3, .int (nI k)), (4, .int (nI (0)))]) (st2 := []) (w2 := (l, tm_cs h y)) rfl rfl rfl ?_
  refine tg_down (φ := fun i : Nat => ∀ (y2 : tp_Y) (e2 : yk 78 y y2) (en : yEn y2 = feM h (yEn y) a b k i), tg_V G 7 mX11_findEnds 0 0 0 0 (fun v w => v = none ∧ ∃ y2, w = (l, tm_cs h y2) ∧ yk 78 y y2 ∧ yEn y2 = feM h (yEn y) a b k 4) 3 [(0, .ref 64), (1, .int (nI a)), (2, .int (nI b)), (3, .int (nI k)), (4, .int (nI (i)))] [] (l, tm_cs h y2)) (n := 4) ?_ ?_ 0 (Nat.zero_le _) y (yk_rf 78 y) rfl 
  · intro y2 e2 en
    refine tg_steps 2 rfl ?_
    refine tg_icge rfl rfl (fun h6 => ?_) (fun h6 => ?_)
    · exact tg_vret (st := []) rfl rfl ⟨Nat.le_of_ble_eq_true rfl, Nat.le_of_ble_eq_true rfl⟩ ⟨rfl, _, rfl, e2, en⟩
    · exact absurd (by decide) h6
  · intro i hi3 ih3 y2 e2 en
    refine tg_steps 2 rfl ?_
    refine tg_icge rfl rfl (fun h6 => ?_) (fun h6 => ?_)
    · exact absurd h6 (nI_ge (b := 4) hi3 (by decide))
    · refine tg_steps 1 rfl ?_
      refine tg_callV rfl (m_thinks) rfl rfl rfl rfl rfl (fun v10 w10 q10 => ?_)
      obtain ⟨rfl, rfl⟩ := q10
      refine tg_steps 6 rfl ?_
      refine tg_ifne rfl rfl (fun h22 => ?_) (fun h22 => ?_)
      · refine tg_steps 3 rfl ?_
        refine tg_ialdN rfl rfl (a) rfl (by omega) (by decide) ?_
        refine tg_iastN rfl rfl (a) rfl (by omega) (by decide) ?_
        refine tg_eqW (w2 := (l, tm_cs (sP h (tg_u (hP h) a (if nI i / 2 = 0 then nI k else hP h a))) (thY h y2))) (by rw [m_P]; simp only [if_true, if_false, h22]; try rfl) ?_
        refine tg_steps 6 rfl ?_
        refine tg_ifne rfl rfl (fun h45 => ?_) (fun h45 => ?_)
        · refine tg_steps 3 rfl ?_
          refine tg_ialdN rfl rfl (b) rfl (by omega) (by decide) ?_
          refine tg_iastN rfl rfl (b) rfl (by omega) (by decide) ?_
          refine tg_eqW (w2 := (l, tm_cs (prM h a b k i) (thY h y2))) (by rw [m_P]; unfold prM; simp only [if_true, if_false, h45]; try rfl) ?_
          refine tg_steps 2 rfl ?_
          refine tg_callV rfl (m_goes (h := prM h a b k i) (y := thY h y2) (wf_prM hw a b k i) k hk) rfl rfl rfl rfl rfl (fun v61 w61 q61 => ?_)
          obtain ⟨rfl, mo, rfl⟩ := q61
          refine tg_steps 7 rfl ?_
          refine tg_callV rfl (m_endOf (by rw [pNs_M]; exact hm) a (by rw [pNs_M]; exact ha)) rfl rfl rfl rfl rfl (fun v74 w74 q74 => ?_)
          obtain ⟨rfl, rfl⟩ := q74
          refine tg_iastN rfl rfl (2 * i) (two_m i hi3).1 (by omega) (by decide) ?_
          refine tg_eqW (m_En _) ?_
          refine tg_steps 9 rfl ?_
          refine tg_callV rfl (m_endOf (by rw [pNs_M]; exact hm) b (by rw [pNs_M]; exact hb)) rfl rfl rfl rfl rfl (fun v90 w90 q90 => ?_)
          obtain ⟨rfl, rfl⟩ := q90
          refine tg_iastN rfl rfl (2 * i + 1) (two_m i hi3).2.1 (by omega) (by decide) ?_
          refine tg_eqW (m_En _) ?_
          have enF : yEn (fgY (zEn (zEn (zMo (thY h y2) mo) (tg_u (yEn (zMo (thY h y2) mo)) (2 * i) (enM (pNs k (prM h a b k i)) a))) (tg_u (yEn (zEn (zMo (thY h y2) mo) (tg_u (yEn (zMo (thY h y2) mo)) (2 * i) (enM (pNs k (prM h a b k i)) a)))) (2 * i + 1) (enM (pNs k (prM h a b k i)) b)))) = (tg_u (tg_u (feM h (yEn y) a b k i) (2 * i) (enM (pNs k (prM h a b k i)) a)) (2 * i + 1) (enM (pNs k (prM h a b k i)) b)) := by
            show yEn (zIk (zCu (zEn _ _) 117) false) = _
            rw [g_EnIk, g_EnCu, g_EnEn, g_EnEn, g_EnMo, thY_En, en]
          refine tg_steps 1 rfl ?_
          refine tg_callV rfl (m_forgets (g := h) (hld_en _ (hld_en _ (hld_thm h y2 mo)))) rfl rfl rfl rfl rfl (fun v95 w95 q95 => ?_)
          obtain ⟨rfl, rfl⟩ := q95
          refine tg_steps 2 rfl ?_
          refine tg_pkV [0, 1, 2, 3, 4] ?_
          refine tg_eqS (L2 := [(0, .ref 64), (1, .int (nI a)), (2, .int (nI b)), (3, .int (nI k)), (4, .int (nI (i + 1)))]) (st2 := []) (w2 := _) (by first | (simp (decide := true) only [nI_succ, decide_true, decide_false, cond_true, cond_false, Bool.false_eq_true, if_true, if_false, ite_true, ite_false, h22, h45]; done) | (simp (decide := true) only [nI_succ, decide_true, decide_false, cond_true, cond_false, Bool.false_eq_true, if_true, if_false, ite_true, ite_false, h22, h45]; rfl) | rfl) rfl rfl ?_
          exact ih3 _ (yk_tr e2 (yk_tr (yk_th h y2) (yk_tr (yk_mo 78 _ mo) (yk_tr (yk_en 78 _ _) (yk_tr (yk_en 78 _ _) (yk_fg 78 _)))))) (by rw [feM_succ]; exact enF)
        · refine tg_steps 2 rfl ?_
          refine tg_iastN rfl rfl (b) rfl (by omega) (by decide) ?_
          refine tg_eqW (w2 := (l, tm_cs (prM h a b k i) (thY h y2))) (by rw [m_P]; unfold prM; simp only [if_true, if_false, h45]; try rfl) ?_
          refine tg_steps 2 rfl ?_
          refine tg_callV rfl (m_goes (h := prM h a b k i) (y := thY h y2) (wf_prM hw a b k i) k hk) rfl rfl rfl rfl rfl (fun v61 w61 q61 => ?_)
          obtain ⟨rfl, mo, rfl⟩ := q61
          refine tg_steps 7 rfl ?_
          refine tg_callV rfl (m_endOf (by rw [pNs_M]; exact hm) a (by rw [pNs_M]; exact ha)) rfl rfl rfl rfl rfl (fun v74 w74 q74 => ?_)
          obtain ⟨rfl, rfl⟩ := q74
          refine tg_iastN rfl rfl (2 * i) (two_m i hi3).1 (by omega) (by decide) ?_
          refine tg_eqW (m_En _) ?_
          refine tg_steps 9 rfl ?_
          refine tg_callV rfl (m_endOf (by rw [pNs_M]; exact hm) b (by rw [pNs_M]; exact hb)) rfl rfl rfl rfl rfl (fun v90 w90 q90 => ?_)
          obtain ⟨rfl, rfl⟩ := q90
          refine tg_iastN rfl rfl (2 * i + 1) (two_m i hi3).2.1 (by omega) (by decide) ?_
          refine tg_eqW (m_En _) ?_
          have enF : yEn (fgY (zEn (zEn (zMo (thY h y2) mo) (tg_u (yEn (zMo (thY h y2) mo)) (2 * i) (enM (pNs k (prM h a b k i)) a))) (tg_u (yEn (zEn (zMo (thY h y2) mo) (tg_u (yEn (zMo (thY h y2) mo)) (2 * i) (enM (pNs k (prM h a b k i)) a)))) (2 * i + 1) (enM (pNs k (prM h a b k i)) b)))) = (tg_u (tg_u (feM h (yEn y) a b k i) (2 * i) (enM (pNs k (prM h a b k i)) a)) (2 * i + 1) (enM (pNs k (prM h a b k i)) b)) := by
            show yEn (zIk (zCu (zEn _ _) 117) false) = _
            rw [g_EnIk, g_EnCu, g_EnEn, g_EnEn, g_EnMo, thY_En, en]
          refine tg_steps 1 rfl ?_
          refine tg_callV rfl (m_forgets (g := h) (hld_en _ (hld_en _ (hld_thm h y2 mo)))) rfl rfl rfl rfl rfl (fun v95 w95 q95 => ?_)
          obtain ⟨rfl, rfl⟩ := q95
          refine tg_steps 2 rfl ?_
          refine tg_pkV [0, 1, 2, 3, 4] ?_
          refine tg_eqS (L2 := [(0, .ref 64), (1, .int (nI a)), (2, .int (nI b)), (3, .int (nI k)), (4, .int (nI (i + 1)))]) (st2 := []) (w2 := _) (by first | (simp (decide := true) only [nI_succ, decide_true, decide_false, cond_true, cond_false, Bool.false_eq_true, if_true, if_false, ite_true, ite_false, h22, eq_true h45]; done) | (simp (decide := true) only [nI_succ, decide_true, decide_false, cond_true, cond_false, Bool.false_eq_true, if_true, if_false, ite_true, ite_false, h22, eq_true h45]; rfl) | rfl) rfl rfl ?_
          exact ih3 _ (yk_tr e2 (yk_tr (yk_th h y2) (yk_tr (yk_mo 78 _ mo) (yk_tr (yk_en 78 _ _) (yk_tr (yk_en 78 _ _) (yk_fg 78 _)))))) (by rw [feM_succ]; exact enF)
      · refine tg_steps 2 rfl ?_
        refine tg_iastN rfl rfl (a) rfl (by omega) (by decide) ?_
        refine tg_eqW (w2 := (l, tm_cs (sP h (tg_u (hP h) a (if nI i / 2 = 0 then nI k else hP h a))) (thY h y2))) (by rw [m_P]; simp only [if_true, if_false, h22]; try rfl) ?_
        refine tg_steps 6 rfl ?_
        refine tg_ifne rfl rfl (fun h45 => ?_) (fun h45 => ?_)
        · refine tg_steps 3 rfl ?_
          refine tg_ialdN rfl rfl (b) rfl (by omega) (by decide) ?_
          refine tg_iastN rfl rfl (b) rfl (by omega) (by decide) ?_
          refine tg_eqW (w2 := (l, tm_cs (prM h a b k i) (thY h y2))) (by rw [m_P]; unfold prM; simp only [if_true, if_false, h45]; try rfl) ?_
          refine tg_steps 2 rfl ?_
          refine tg_callV rfl (m_goes (h := prM h a b k i) (y := thY h y2) (wf_prM hw a b k i) k hk) rfl rfl rfl rfl rfl (fun v61 w61 q61 => ?_)
          obtain ⟨rfl, mo, rfl⟩ := q61
          refine tg_steps 7 rfl ?_
          refine tg_callV rfl (m_endOf (by rw [pNs_M]; exact hm) a (by rw [pNs_M]; exact ha)) rfl rfl rfl rfl rfl (fun v74 w74 q74 => ?_)
          obtain ⟨rfl, rfl⟩ := q74
          refine tg_iastN rfl rfl (2 * i) (two_m i hi3).1 (by omega) (by decide) ?_
          refine tg_eqW (m_En _) ?_
          refine tg_steps 9 rfl ?_
          refine tg_callV rfl (m_endOf (by rw [pNs_M]; exact hm) b (by rw [pNs_M]; exact hb)) rfl rfl rfl rfl rfl (fun v90 w90 q90 => ?_)
          obtain ⟨rfl, rfl⟩ := q90
          refine tg_iastN rfl rfl (2 * i + 1) (two_m i hi3).2.1 (by omega) (by decide) ?_
          refine tg_eqW (m_En _) ?_
          have enF : yEn (fgY (zEn (zEn (zMo (thY h y2) mo) (tg_u (yEn (zMo (thY h y2) mo)) (2 * i) (enM (pNs k (prM h a b k i)) a))) (tg_u (yEn (zEn (zMo (thY h y2) mo) (tg_u (yEn (zMo (thY h y2) mo)) (2 * i) (enM (pNs k (prM h a b k i)) a)))) (2 * i + 1) (enM (pNs k (prM h a b k i)) b)))) = (tg_u (tg_u (feM h (yEn y) a b k i) (2 * i) (enM (pNs k (prM h a b k i)) a)) (2 * i + 1) (enM (pNs k (prM h a b k i)) b)) := by
            show yEn (zIk (zCu (zEn _ _) 117) false) = _
            rw [g_EnIk, g_EnCu, g_EnEn, g_EnEn, g_EnMo, thY_En, en]
          refine tg_steps 1 rfl ?_
          refine tg_callV rfl (m_forgets (g := h) (hld_en _ (hld_en _ (hld_thm h y2 mo)))) rfl rfl rfl rfl rfl (fun v95 w95 q95 => ?_)
          obtain ⟨rfl, rfl⟩ := q95
          refine tg_steps 2 rfl ?_
          refine tg_pkV [0, 1, 2, 3, 4] ?_
          refine tg_eqS (L2 := [(0, .ref 64), (1, .int (nI a)), (2, .int (nI b)), (3, .int (nI k)), (4, .int (nI (i + 1)))]) (st2 := []) (w2 := _) (by first | (simp (decide := true) only [nI_succ, decide_true, decide_false, cond_true, cond_false, Bool.false_eq_true, if_true, if_false, ite_true, ite_false, eq_true h22, h45]; done) | (simp (decide := true) only [nI_succ, decide_true, decide_false, cond_true, cond_false, Bool.false_eq_true, if_true, if_false, ite_true, ite_false, eq_true h22, h45]; rfl) | rfl) rfl rfl ?_
          exact ih3 _ (yk_tr e2 (yk_tr (yk_th h y2) (yk_tr (yk_mo 78 _ mo) (yk_tr (yk_en 78 _ _) (yk_tr (yk_en 78 _ _) (yk_fg 78 _)))))) (by rw [feM_succ]; exact enF)
        · refine tg_steps 2 rfl ?_
          refine tg_iastN rfl rfl (b) rfl (by omega) (by decide) ?_
          refine tg_eqW (w2 := (l, tm_cs (prM h a b k i) (thY h y2))) (by rw [m_P]; unfold prM; simp only [if_true, if_false, h45]; try rfl) ?_
          refine tg_steps 2 rfl ?_
          refine tg_callV rfl (m_goes (h := prM h a b k i) (y := thY h y2) (wf_prM hw a b k i) k hk) rfl rfl rfl rfl rfl (fun v61 w61 q61 => ?_)
          obtain ⟨rfl, mo, rfl⟩ := q61
          refine tg_steps 7 rfl ?_
          refine tg_callV rfl (m_endOf (by rw [pNs_M]; exact hm) a (by rw [pNs_M]; exact ha)) rfl rfl rfl rfl rfl (fun v74 w74 q74 => ?_)
          obtain ⟨rfl, rfl⟩ := q74
          refine tg_iastN rfl rfl (2 * i) (two_m i hi3).1 (by omega) (by decide) ?_
          refine tg_eqW (m_En _) ?_
          refine tg_steps 9 rfl ?_
          refine tg_callV rfl (m_endOf (by rw [pNs_M]; exact hm) b (by rw [pNs_M]; exact hb)) rfl rfl rfl rfl rfl (fun v90 w90 q90 => ?_)
          obtain ⟨rfl, rfl⟩ := q90
          refine tg_iastN rfl rfl (2 * i + 1) (two_m i hi3).2.1 (by omega) (by decide) ?_
          refine tg_eqW (m_En _) ?_
          have enF : yEn (fgY (zEn (zEn (zMo (thY h y2) mo) (tg_u (yEn (zMo (thY h y2) mo)) (2 * i) (enM (pNs k (prM h a b k i)) a))) (tg_u (yEn (zEn (zMo (thY h y2) mo) (tg_u (yEn (zMo (thY h y2) mo)) (2 * i) (enM (pNs k (prM h a b k i)) a)))) (2 * i + 1) (enM (pNs k (prM h a b k i)) b)))) = (tg_u (tg_u (feM h (yEn y) a b k i) (2 * i) (enM (pNs k (prM h a b k i)) a)) (2 * i + 1) (enM (pNs k (prM h a b k i)) b)) := by
            show yEn (zIk (zCu (zEn _ _) 117) false) = _
            rw [g_EnIk, g_EnCu, g_EnEn, g_EnEn, g_EnMo, thY_En, en]
          refine tg_steps 1 rfl ?_
          refine tg_callV rfl (m_forgets (g := h) (hld_en _ (hld_en _ (hld_thm h y2 mo)))) rfl rfl rfl rfl rfl (fun v95 w95 q95 => ?_)
          obtain ⟨rfl, rfl⟩ := q95
          refine tg_steps 2 rfl ?_
          refine tg_pkV [0, 1, 2, 3, 4] ?_
          refine tg_eqS (L2 := [(0, .ref 64), (1, .int (nI a)), (2, .int (nI b)), (3, .int (nI k)), (4, .int (nI (i + 1)))]) (st2 := []) (w2 := _) (by first | (simp (decide := true) only [nI_succ, decide_true, decide_false, cond_true, cond_false, Bool.false_eq_true, if_true, if_false, ite_true, ite_false, eq_true h22, eq_true h45]; done) | (simp (decide := true) only [nI_succ, decide_true, decide_false, cond_true, cond_false, Bool.false_eq_true, if_true, if_false, ite_true, ite_false, eq_true h22, eq_true h45]; rfl) | rfl) rfl rfl ?_
          exact ih3 _ (yk_tr e2 (yk_tr (yk_th h y2) (yk_tr (yk_mo 78 _ mo) (yk_tr (yk_en 78 _ _) (yk_tr (yk_en 78 _ _) (yk_fg 78 _)))))) (by rw [feM_succ]; exact enF)
def twE (h : tp_H) (f : tp_A) (a b k : Nat) : tp_A := feM h f a b k 4
def twM (h : tp_H) (f : tp_A) (a b k : Nat) (i : Nat) : Bool := if twE h f a b k (2 * i) < twE h f a b k (2 * (i ^^^ 2)) then false else if twE h f a b k (2 * i + 1) < twE h f a b k (2 * (i ^^^ 1) + 1) then false else true
def twV (i : Nat) : Int32 := 10 * (nI i / 2) + nI i % 2
