/-! both answer alike, call by call -/
theorem rel_h {n p n1 h1 h : tp_H} {x : tp_X} {y : tp_Y} (R : Rel n p x h y) (e : eqH n1 h1) (hw : wfH h1) : Rel n1 p x h1 y := ⟨e, hw, R.2.2.1, R.2.2.2.1, R.2.2.2.2.1, R.2.2.2.2.2.1, R.2.2.2.2.2.2⟩
theorem eq_comH {a b : tp_H} (e : eqH a b) (kd f ho : Int32) : eqH (comH a kd f ho) (comH b kd f ho) := by
  obtain ⟨e1, e2, e3, e4, e5⟩ := e
  refine ⟨e1, e2, e3, by show hM a + 1 = hM b + 1; rw [e4], fun i hi => ?_⟩
  have hi2 : i < hM a + 1 := hi
  show tg_u (hK a) (hM a) kd i = tg_u (hK b) (hM b) kd i ∧ tg_u (hF a) (hM a) f i = tg_u (hF b) (hM b) f i ∧ tg_u (hH a) (hM a) ho i = tg_u (hH b) (hM b) ho i ∧ tg_u (hT a) (hM a) ho i = tg_u (hT b) (hM b) ho i ∧ tg_u (hP a) (hM a) 0 i = tg_u (hP b) (hM b) 0 i
  simp only [tg_u_eq, ← e4]
  by_cases q : i = hM a
  · simp only [q, if_true, and_self]
  · simp only [q, if_false]
    exact e5 i (by omega)
theorem wf_comH {h : tp_H} (hw : wfH h) (hm : hM h < 7) {kd f ho : Int32} (h1 : isT ho = true) (h2 : upTo f 9 = true) : wfH (comH h kd f ho) := by
  refine ⟨by show hM h + 1 ≤ 7; omega, hw.2.1, fun i hi => ?_⟩
  have hi2 : i < hM h + 1 := hi
  show isT (tg_u (hT h) (hM h) ho i) = true ∧ isT (tg_u (hH h) (hM h) ho i) = true ∧ upTo (tg_u (hF h) (hM h) f i) 9 = true
  simp only [tg_u_eq]
  by_cases q : i = hM h
  · simp only [q, if_true]; exact ⟨h1, h1, h2⟩
  · simp only [q, if_false]; exact hw.2.2 i (by omega)
theorem wf_becH {h : tp_H} (hw : wfH h) {one kd f : Int32} (ho : hasB h one = true) (hf : upTo f 9 = true) : wfH (becH h one kd f) := by
  obtain ⟨j, hj, rfl, cj⟩ := has_j hw.1 ho
  rw [becH_j hw.1 hj]
  refine ⟨hw.1, hw.2.1, fun i hi => ⟨(hw.2.2 i hi).1, (hw.2.2 i hi).2.1, ?_⟩⟩
  show upTo (tg_u (hF h) j f i) 9 = true
  rw [tg_u_eq]
  split
  · exact hf
  · exact (hw.2.2 i hi).2.2
theorem wf_putH {h : tp_H} (hw : wfH h) {one ti : Int32} (ho : hasB h one = true) (ht : isT ti = true) : wfH (putH h one ti) := by
  obtain ⟨j, hj, rfl, cj⟩ := has_j hw.1 ho
  rw [putH_j hw.1 hj]
  exact wf_sT hw ht
theorem wf_senHo {h : tp_H} (hw : wfH h) {one k : Int32} (ho : hasB h one = true) : wfH (senH h one k) := by
  obtain ⟨j, hj, rfl, cj⟩ := has_j hw.1 ho
  exact wf_senH hw hj k
section
variable {G : tg_G} {n p t h : tp_H} {x : tp_X} {y : tp_Y}
theorem r_xl (R : Rel n p x h y) : xLm x = yTd y := R.2.2.1.2.2.2.2.1
theorem r_xt (R : Rel n p x h y) : xTm x = yRm y := R.2.2.1.2.1
theorem r_xl96 (R : Rel n p x h y) : xLm x ≤ 96 := by rw [r_xl R]; exact R.2.2.2.1
theorem r_xt16 (R : Rel n p x h y) : xTm x ≤ 16 := by rw [r_xt R]; exact R.2.2.2.2.1
theorem wLet_96 (R : Rel n p x h y) {c : Int32} (z : wLet x c = 0) : yTd y + 1 ≤ 96 := by
  unfold wLet at z
  by_cases h1 : c < 0
  · rw [if_pos h1] at z; exact absurd z (by decide)
  · rw [if_neg h1] at z
    by_cases h2 : 255 < c
    · rw [if_pos h2] at z; exact absurd z (by decide)
    · rw [if_neg h2] at z
      by_cases h3 : nI (xLm x) < 96
      · rw [r_xl R] at h3
        rcases Nat.lt_or_ge (yTd y) 96 with q | q
        · exact q
        · exact absurd h3 (nI_nlt (a := yTd y) (b := 96) q (by have := R.2.2.2.1; omega))
      · rw [if_neg h3] at z; exact absurd z (by decide)
theorem wRow_16 (R : Rel n p x h y) {c : Int32} (z : wRow x c = 0) : yRm y + 1 ≤ 16 := by
  unfold wRow at z
  by_cases h1 : c < 0
  · rw [if_pos h1] at z; exact absurd z (by decide)
  · rw [if_neg h1] at z
    by_cases h2 : 99 < c
    · rw [if_pos h2] at z; exact absurd z (by decide)
    · rw [if_neg h2] at z
      by_cases h3 : nI (xTm x) < 16
      · rw [r_xt R] at h3
        rcases Nat.lt_or_ge (yRm y) 16 with q | q
        · exact q
        · exact absurd h3 (nI_nlt (a := yRm y) (b := 16) q (by have := R.2.2.2.2.1; omega))
      · rw [if_neg h3] at z; exact absurd z (by decide)
theorem pp_letter (R : Rel n p x h y) (c : Int32) : PairI G 2 mX10_letter 2 mX11_letter [.ref 0, .int c] [.ref 64, .int c] n p t x h y := by
  have hm := rel_m R
  have hw := R.2.1
  have e := R.1
  exact pairI (q_letter (r_xl96 R) c) (fun l => r_letter R.2.2.2.1 c) R (by unfold wLet; rw [r_xl R]; rfl) (fun _ => by rw [r_xl R]) (fun z => ⟨e, hw, ⟨R.2.2.1.1, R.2.2.1.2.1, R.2.2.1.2.2.1, R.2.2.1.2.2.2.1, by show xLm x + 1 = yTd y + 1; rw [r_xl R], by show tg_u (xLe x) (xLm x) c = tg_u (yTp y) (yTd y) c; rw [r_xl R, show xLe x = yTp y from R.2.2.1.2.2.2.2.2]⟩, wLet_96 R z, R.2.2.2.2.1, R.2.2.2.2.2.1, R.2.2.2.2.2.2⟩)
theorem pp_little (R : Rel n p x h y) (one what : Int32) : PairI G 6 mX10_little 4 mX11_little [.ref 0, .int one, .int what] [.ref 64, .int one, .int what] n p t x h y := by
  have hm := rel_m R
  have hw := R.2.1
  have e := R.1
  exact pairI (q_little hm one what) (fun l => r_little hw one what) R (by unfold wLit; rw [eq_has e]) (fun z => g_aLit hm e (bif1 (by decide) z).1 what) (fun _ => R)
theorem pp_tile (R : Rel n p x h y) (ti wh : Int32) : PairI G 2 mX10_tile 2 mX11_tile [.ref 0, .int ti, .int wh] [.ref 64, .int ti, .int wh] n p t x h y := by
  have hm := rel_m R
  have hw := R.2.1
  have e := R.1
  exact pairI (q_tile hm ti wh) (fun l => r_tile hw ti wh) R (wTil_u ti wh) (fun _ => g_aTil e ti wh) (fun _ => R)
theorem pp_comesIn (R : Rel n p x h y) (kd f ho : Int32) : PairI G 4 mX10_comesIn 2 mX11_comesIn [.ref 0, .int kd, .int f, .int ho] [.ref 64, .int kd, .int f, .int ho] n p t x h y := by
  have hm := rel_m R
  have hw := R.2.1
  have e := R.1
  exact pairI (q_comesIn hm kd f ho) (fun l => r_comesIn hw kd f ho) R (by unfold wCom; rw [e.2.2.2.1]) (fun _ => by rw [e.2.2.2.1]) (fun z => by
    obtain ⟨z1, z2⟩ := bif1 (by decide) z
    obtain ⟨z3, z4⟩ := bif1 (rf_j (rf_bor f)).1.2.2 z2
    obtain ⟨z5, z6⟩ := bif1 (by decide) z4
    have hl : hM n < 7 := by
      rcases Nat.lt_or_ge (hM n) 7 with q | q
      · exact q
      · rw [if_neg (show ¬ nI (hM n) < 7 from nI_nlt (a := hM n) (b := 7) q (by omega))] at z6
        exact absurd z6 (by decide)
    exact rel_h R (eq_comH e kd f ho) (wf_comH hw (by rw [← e.2.2.2.1]; exact hl) z5 z3))
theorem pp_stands (R : Rel n p x h y) (one ti : Int32) : PairI G 3 mX10_stands 2 mX11_stands [.ref 0, .int one, .int ti] [.ref 64, .int one, .int ti] n p t x h y := by
  have hm := rel_m R
  have hw := R.2.1
  have e := R.1
  exact pairI (q_stands hm one ti) (fun l => r_stands hw one ti) R (by unfold wSta; rw [eq_has e]) (fun _ => eq_gT hm e one) (fun z => by
    obtain ⟨z1, z2⟩ := bif1 (by decide) z
    obtain ⟨z3, z4⟩ := bif1 (by decide) z2
    exact rel_h R (eq_putH hm e one ti) (wf_putH hw (by rw [← eq_has e]; exact z1) z3))
theorem pp_cracks (R : Rel n p x h y) (ti : Int32) : PairI G 2 mX10_cracks 2 mX11_cracks [.ref 0, .int ti] [.ref 64, .int ti] n p t x h y := by
  have hm := rel_m R
  have hw := R.2.1
  have e := R.1
  exact pairI (q_cracks ti) (fun l => r_cracks ti) R (rfl) (fun _ => by rw [eq_crB (eq_crkH e ti)]) (fun _ => rel_h R (eq_crkH e ti) (wf_crkH hw ti))
theorem pp_ship (R : Rel n p x h y) (ti : Int32) : PairI G 2 mX10_ship 2 mX11_ship [.ref 0, .int ti] [.ref 64, .int ti] n p t x h y := by
  have hm := rel_m R
  have hw := R.2.1
  have e := R.1
  exact pairI (q_ship ti) (fun l => r_ship ti) R (rfl) (fun _ => e.2.1) (fun z => rel_h R (eq_sS e ti) (wf_sS hw (bif1 (by decide) z).1))
theorem pp_pins (R : Rel n p x h y) (one k : Int32) : PairI G 4 mX10_pins 2 mX11_pins [.ref 0, .int one, .int k] [.ref 64, .int one, .int k] n p t x h y := by
  have hm := rel_m R
  have hw := R.2.1
  have e := R.1
  exact pairI (q_pins hm one k) (fun l => r_pins hw one k) R (by unfold wPis; rw [eq_has e]) (fun _ => eq_gT hm e one) (fun z => rel_h R (eq_senH hm e one k) (wf_senHo hw (by rw [← eq_has e]; exact (bif1 (by decide) z).1)))
theorem pp_turn (R : Rel n p x h y) (one kd f : Int32) : PairI G 3 mX10_turn 2 mX11_turn [.ref 0, .int one, .int kd, .int f] [.ref 64, .int one, .int kd, .int f] n p t x h y := by
  have hm := rel_m R
  have hw := R.2.1
  have e := R.1
  exact pairI (q_turn hm one kd f) (fun l => r_turn hw one kd f) R (by unfold wTur; rw [eq_has e]) (fun _ => g_aTur hm e one) (fun z => by
    obtain ⟨z1, z2⟩ := bif1 (by decide) z
    obtain ⟨z3, z4⟩ := bif1 (by decide) z2
    exact rel_h R (eq_becH hm e one kd f) (wf_becH hw (by rw [← eq_has e]; exact z1) (bif1 (rf_j (rf_bor f)).1.2.2 z4).1))
theorem pp_nights (R : Rel n p x h y) (k : Int32) : PairI G 6 mX10_nights 7 mX11_nights [.ref 0, .int k] [.ref 64, .int k] n p t x h y := by
  have hm := rel_m R
  have hw := R.2.1
  have e := R.1
  exact pairI (q_nights hm k) (fun l => r_nights hw k) R (by unfold wNis; rw [e.2.2.1]) (fun _ => g_abN hm e _) (fun _ => rel_h R (eq_pNs hm e _) (wf_pNs hw _))
theorem pp_oneThen (R : Rel n p x h y) (one k what : Int32) : PairI G 7 mX10_oneThen 7 mX11_oneThen [.ref 0, .int one, .int k, .int what] [.ref 64, .int one, .int k, .int what] n p t x h y := by
  have hm := rel_m R
  have hw := R.2.1
  have e := R.1
  exact pairI (q_oneThen hm one k what) (fun l => r_oneThen hw one k what) R (by unfold wOne; rw [eq_has e]) (fun _ => g_aOne hm e one k what) (fun _ => R)
theorem pp_aboard (R : Rel n p x h y) (k : Int32) : PairI G 7 mX10_aboard 8 mX11_aboard [.ref 0, .int k] [.ref 64, .int k] n p t x h y := by
  have hm := rel_m R
  have hw := R.2.1
  have e := R.1
  exact pairI (q_aboard hm k) (fun l => r_aboard hw k) R (rfl) (fun _ => g_aAbo hm e k) (fun _ => R)
theorem pp_comes (R : Rel n p x h y) (one ti : Int32) : PairI G 6 mX10_comes 7 mX11_comes [.ref 0, .int one, .int ti] [.ref 64, .int one, .int ti] n p t x h y := by
  have hm := rel_m R
  have hw := R.2.1
  have e := R.1
  exact pairI (q_comes hm one ti) (fun l => r_comes hw one ti) R (by unfold wSta; rw [eq_has e]) (fun _ => g_aFir hm e one ti) (fun _ => R)
theorem pp_sails (R : Rel n p x h y) (one : Int32) : PairI G 6 mX10_sails 8 mX11_sails [.ref 0, .int one] [.ref 64, .int one] n p t x h y := by
  have hm := rel_m R
  have hw := R.2.1
  have e := R.1
  exact pairI (q_sails hm one) (fun l => r_sails hw one) R (by unfold wSai; rw [eq_has e]) (fun _ => by rw [show aSai n one = aSai h one from by unfold aSai; rw [g_fB hm e, g_aAll hm e, g_aFir hm e, e.2.1]]; exact k_sails hw one) (fun _ => R)
theorem pp_meets (R : Rel n p x h y) (a b : Int32) : PairI G 6 mX10_meets 6 mX11_meets [.ref 0, .int a, .int b] [.ref 64, .int a, .int b] n p t x h y := by
  have hm := rel_m R
  have hw := R.2.1
  have e := R.1
  exact pairI (q_meets hm a b) (fun l => r_meets hw a b) R (by unfold wMee; rw [eq_has e, eq_has e]) (fun _ => g_aMee hm e a b) (fun _ => R)
theorem pp_still (R : Rel n p x h y)  : PairI G 6 mX10_still 6 mX11_still [.ref 0] [.ref 64] n p t x h y := by
  have hm := rel_m R
  have hw := R.2.1
  have e := R.1
  exact pairI (q_still hm) (fun l => r_still hw) R (rfl) (fun _ => g_aSti hm e) (fun _ => R)
theorem pp_far (R : Rel n p x h y) (a b : Int32) : PairI G 3 mX10_far 4 mX11_far [.ref 0, .int a, .int b] [.ref 64, .int a, .int b] n p t x h y := by
  have hm := rel_m R
  have hw := R.2.1
  have e := R.1
  exact pairI (q_far a b) (fun l => r_far a b) R (rfl) (fun z => by rw [g_farD e]; exact k_far hw (bif1 (by decide) z).1 (bif1 (by decide) (bif1 (by decide) z).2).1) (fun _ => R)
theorem pp_cutOff (R : Rel n p x h y)  : PairI G 3 mX10_cutOff 4 mX11_cutOff [.ref 0] [.ref 64] n p t x h y := by
  have hm := rel_m R
  have hw := R.2.1
  have e := R.1
  exact pairI (q_cutOff hm (rel_wf R)) (fun l => r_cutOff hw) R (rfl) (fun _ => by rw [g_aCut e]; exact k_cut hw) (fun _ => R)
theorem pp_shipBest (R : Rel n p x h y) (k what : Int32) : PairI G 8 mX10_shipBest 9 mX11_shipBest [.ref 0, .int k, .int what] [.ref 64, .int k, .int what] n p t x h y := by
  have hm := rel_m R
  have hw := R.2.1
  have e := R.1
  exact pairI (q_shipBest hm k what) (fun l => r_shipBest hw k what) R (rfl) (fun z => by rw [g_aShB hm e]; exact k_ship hw k what) (fun _ => R)
theorem pp_mend (R : Rel n p x h y) (k what : Int32) : PairI G 8 mX10_mend 9 mX11_mend [.ref 0, .int k, .int what] [.ref 64, .int k, .int what] n p t x h y := by
  have hm := rel_m R
  have hw := R.2.1
  have e := R.1
  exact pairI (q_mend hm k what) (fun l => r_mend hw k what) R (rfl) (fun _ => by rw [g_aMen hm e]; exact k_mend h k what) (fun _ => R)
theorem pp_pin (R : Rel n p x h y) (k : Int32) : PairI G 8 mX10_pin 9 mX11_pin [.ref 0, .int k] [.ref 64, .int k] n p t x h y := by
  have hm := rel_m R
  have hw := R.2.1
  have e := R.1
  exact pairI (q_pin hm k) (fun l => r_pin hw k) R (rfl) (fun _ => g_aPin hm e k) (fun _ => R)
theorem pp_fewest (R : Rel n p x h y) (k : Int32) : PairI G 8 mX10_fewest 8 mX11_fewest [.ref 0, .int k] [.ref 64, .int k] n p t x h y := by
  have hm := rel_m R
  have hw := R.2.1
  have e := R.1
  exact pairI (q_fewest hm k) (fun l => r_fewest hw k) R (rfl) (fun _ => by rw [g_aFew hm e]; exact k_few hw k) (fun _ => R)
theorem pp_bestKind (R : Rel n p x h y) (one what : Int32) : PairI G 7 mX10_bestKind 7 mX11_bestKind [.ref 0, .int one, .int what] [.ref 64, .int one, .int what] n p t x h y := by
  have hm := rel_m R
  have hw := R.2.1
  have e := R.1
  exact pairI (q_bestKind hm one what) (fun l => r_bestKind hw one what) R (by unfold wHaW; rw [eq_has e]) (fun z => by rw [g_aBes hm e]; exact k_best hw (by rw [← eq_has e]; exact (bif1 (by decide) z).1) what) (fun _ => R)
theorem pp_crowd (R : Rel n p x h y) (what : Int32) : PairI G 4 mX10_crowd 4 mX11_crowd [.ref 0, .int what] [.ref 64, .int what] n p t x h y := by
  have hm := rel_m R
  have hw := R.2.1
  have e := R.1
  exact pairI (q_crowd hm what) (fun l => r_crowd hw what) R (rfl) (fun _ => by rw [g_aCro e]; exact k_crowd hw what) (fun _ => R)
theorem pp_farthest (R : Rel n p x h y) (what : Int32) : PairI G 5 mX10_farthest 4 mX11_farthest [.ref 0, .int what] [.ref 64, .int what] n p t x h y := by
  have hm := rel_m R
  have hw := R.2.1
  have e := R.1
  exact pairI (q_farthest hm what) (fun l => r_farthest hw what) R (rfl) (fun _ => g_aFaH hm e what) (fun _ => R)
theorem pp_order (R : Rel n p x h y) (i : Int32) : PairI G 4 mX10_order 4 mX11_order [.ref 0, .int i] [.ref 64, .int i] n p t x h y := by
  have hm := rel_m R
  have hw := R.2.1
  have e := R.1
  exact pairI (q_order hm i) (fun l => r_order hw i) R (rfl) (fun _ => g_aOrd hm e i) (fun _ => R)
theorem pp_two (R : Rel n p x h y) (a b k : Int32) : PairI G 7 mX10_two 8 mX11_two [.ref 0, .int a, .int b, .int k] [.ref 64, .int a, .int b, .int k] n p t x h y := by
  have hm := rel_m R
  have hw := R.2.1
  have e := R.1
  exact pairI (q_two hm a b k) (fun l => r_two hw a b k) R (by unfold wTwo; rw [eq_has e, eq_has e]) (fun z => by rw [g_aTwo hm e]; exact k_two hw y (by rw [← eq_has e]; exact (bif1 (by decide) z).1) (by rw [← eq_has e]; exact (bif1 (by decide) (bif1 (by decide) z).2).1) k) (fun _ => R)
theorem pp_coals (R : Rel n p x h y) (one k td part : Int32) : PairL G 6 mX10_coals 7 mX11_coals [.ref 0, .int one, .int k, .int td, .int part] [.ref 64, .int one, .int k, .int td, .int part] n p t x h y := by
  have hm := rel_m R
  have hw := R.2.1
  have e := R.1
  exact pairL (q_coals hm one k td part) (fun l => r_coals hw (k_okE hw) one k td part) R (by unfold wCoa; rw [eq_has e]) (fun z => by rw [show aCoa n one k td part = aCoa h one k td part from by unfold aCoa; rw [g_coA hm e]]; exact k_coals (part := part) hw (by rw [show wCoa h one k td part = wCoa n one k td part from by unfold wCoa; rw [eq_has e]]; exact z) part) (fun _ => R)
theorem pp_mean (R : Rel n p x h y) (part : Int32) : PairL G 4 mX10_mean 4 mX11_mean [.ref 0, .int part] [.ref 64, .int part] n p t x h y := by
  have hm := rel_m R
  have hw := R.2.1
  have e := R.1
  exact pairL (q_mean hm part) (fun l => r_mean hw (k_okM hw) part) R (rfl) (fun z => by rw [g_aMea hm e]; exact k_mean hw z) (fun _ => R)
theorem pp_whatIs (R : Rel n p x h y) (one what : Int32) : PairI G 8 mX10_whatIs 8 mX11_whatIs [.ref 0, .int one, .int what] [.ref 64, .int one, .int what] n p t x h y := by
  have hm := rel_m R
  have hw := R.2.1
  have e := R.1
  exact pairI (q_whatIs hm (r_xt16 R) one what) (fun l => r_whatIs hw R.2.2.2.2.1 one what) R (by unfold wHaW; rw [eq_has e]) (fun z => by rw [g_aWha hm e (x' := xOf y) R.2.2.1.2.2.1 R.2.2.1.2.1]; exact k_what hw (by rw [← eq_has e]; exact (bif1 (by decide) z).1) what) (fun _ => R)
theorem pp_row (R : Rel n p x h y) (c : Int32) : PairI G 2 mX10_row 2 mX11_row [.ref 0, .int c] [.ref 64, .int c] n p t x h y := by
  have hm := rel_m R
  have hw := R.2.1
  have e := R.1
  exact pairI (q_row (r_xt16 R) c) (fun l => r_row R.2.2.2.2.1 c) R (by unfold wRow; rw [r_xt R]; rfl) (fun _ => by rw [r_xt R]) (fun z => ⟨e, hw, ⟨R.2.2.1.1, by show xTm x + 1 = yRm y + 1; rw [r_xt R], by show tg_u (xTo x) (xTm x) c = tg_u (yRo y) (yRm y) c; rw [r_xt R, show xTo x = yRo y from R.2.2.1.2.2.1], R.2.2.1.2.2.2.1, R.2.2.1.2.2.2.2.1, R.2.2.1.2.2.2.2.2⟩, R.2.2.2.1, wRow_16 R z, R.2.2.2.2.2.1, R.2.2.2.2.2.2⟩)
theorem pp_judge (R : Rel n p x h y)  : PairI G 3 mX10_judge 1 mX11_judge [.ref 0] [.ref 64] n p t x h y := by
  have hm := rel_m R
  have hw := R.2.1
  have e := R.1
  exact pairI (q_judge hm (r_xt16 R)) (fun l => r_judge hw R.2.2.2.2.1) R (rfl) (fun _ => g_aJud hm e R.2.2.1.2.2.1 R.2.2.1.2.1) (fun _ => ⟨e, hw, ⟨R.2.2.1.1, rfl, R.2.2.1.2.2.1, R.2.2.1.2.2.2.1, R.2.2.1.2.2.2.2.1, R.2.2.1.2.2.2.2.2⟩, R.2.2.2.1, Nat.zero_le 16, R.2.2.2.2.2.1, R.2.2.2.2.2.2⟩)
theorem pp_clear (R : Rel n p x h y) : PairI G 1 mX10_clear 1 mX11_clear [.ref 0] [.ref 64] n p t x h y := by
  have e := R.1
  have hw := R.2.1
  exact pairI q_clear (fun l => r_clear) R rfl (fun _ => by rw [r_xt R]) (fun _ => ⟨e, hw, ⟨R.2.2.1.1, rfl, R.2.2.1.2.2.1, R.2.2.1.2.2.2.1, R.2.2.1.2.2.2.2.1, R.2.2.1.2.2.2.2.2⟩, R.2.2.2.1, Nat.zero_le 16, R.2.2.2.2.2.1, R.2.2.2.2.2.2⟩)
theorem pp_lots (R : Rel n p x h y) (k z what : Int32) : PairI G 7 mX10_lots 7 mX11_lots [.ref 0, .int k, .int z, .int what] [.ref 64, .int k, .int z, .int what] n p t x h y := by
  have hm := rel_m R
  have hw := R.2.1
  have e := R.1
  exact pairI (q_lots hm k z what) (fun l => r_lots hw k z what) R (rfl) (fun _ => g_aLot hm e k z what) (fun _ => R)
theorem pp_image (R : Rel n p x h y)  : PairI G 2 mX10_image 3 mX11_image [.ref 0] [.ref 64] n p t x h y := by
  have hm := rel_m R
  have hw := R.2.1
  have e := R.1
  exact pairI (q_image hm) (fun l => r_image ) R (rfl) (fun _ => e.2.2.1) (fun _ => ⟨e, hw, ⟨rfl, R.2.2.1.2.1, R.2.2.1.2.2.1, R.2.2.1.2.2.2.1, R.2.2.1.2.2.2.2.1, R.2.2.1.2.2.2.2.2⟩, R.2.2.2.1, R.2.2.2.2.1, hm, fun _ => ⟨h, svA_hld h (yKe (zHi y true)) 0, e, hw⟩⟩)
theorem pp_on (R : Rel n p x h y) : PairI G 2 mX10_on 3 mX11_on [.ref 0] [.ref 64] n p t x h y := by
  have e := R.1
  cases hb : yHi y with
  | false =>
    refine pairI (q_on R.2.2.2.2.2.1) (fun l => r_on (g := h) (fun z => by rw [hb] at z; cases z)) R (by unfold wOn; rw [show xPd x = yHi y from R.2.2.1.1]; rfl) (fun z => ?_) (fun z => ?_)
    all_goals
      unfold wOn at z
      rw [show xPd x = yHi y from R.2.2.1.1, hb] at z
      exact absurd z (by decide)
  | true =>
    obtain ⟨g, g1, g2, g3⟩ := R.2.2.2.2.2.2 hb
    exact pairI (q_on R.2.2.2.2.2.1) (fun l => r_on (g := g) (fun _ => g1)) R (by unfold wOn; rw [show xPd x = yHi y from R.2.2.1.1]; rfl) (fun _ => g2.2.2.1) (fun _ => rel_h R g2 g3)
theorem pp_count (R : Rel n p x h y) (what : Int32) : PairI G 3 mX10_count 3 mX11_count [.ref 0, .int what] [.ref 64, .int what] n p t x h y := by
  have hm := rel_m R
  have hw := R.2.1
  have e := R.1
  exact pairI (q_count hm what) (fun l => r_count hw what) R (rfl) (fun _ => g_aCou e (x' := xOf y) R.2.2.1.2.2.2.1 R.2.2.1.2.1 R.2.2.1.2.2.2.2.1 what) (fun _ => R)
theorem pp_chimney (R : Rel n p x h y) : PairI G 8 mX10_chimney 9 mX11_chimney [.ref 0] [.ref 64] n p t x h y := by
  have hxk := R.2.2.1
  have hx1 : xLm x = yTd y := r_xl R
  have hx2 : xLe x = yTp y := R.2.2.1.2.2.2.2.2
  have hl := R.2.2.2.1
  have hl2 : xLm x ≤ 96 := by rw [hx1]; exact hl
  have hm := rel_m R
  have ea : eqH (cpF t n) h := eqH_tr (eq_cpF t n) R.1
  have hma : hM (cpF t n) ≤ 7 := by rw [ea.2.2.2.1]; exact R.2.1.1
  have C := ch_cong (x := x) hl2 R.1 ea hma R.2.1
  exact pairI (q_chimney hl2 hm) (fun l => r_chimney R.2.1 hx1 hx2 hl) R rfl (fun _ => chA_cong ea hma) (fun _ => ⟨C.1, C.2, ⟨hxk.1, hxk.2.1, hxk.2.2.1, hxk.2.2.2.1, rfl, hxk.2.2.2.2.2⟩, Nat.zero_le _, R.2.2.2.2.1, R.2.2.2.2.2.1, R.2.2.2.2.2.2⟩)
end
