/-! contract of Roads -/
abbrev tp_B : Type := tp_A × tp_A × Nat
theorem isT_j {k : Int32} (h : isT k = true) : ∃ j : Nat, j < 24 ∧ k = nI j ∧ (nI j).toNatClampNeg = j := by
  unfold isT at h
  by_cases h1 : k < 0
  · simp [h1] at h
  · by_cases h2 : 24 ≤ k
    · simp [h1, h2] at h
    · obtain ⟨j, hj, rfl⟩ := nI_of h1
      refine ⟨j, ?_, rfl, nI_clamp hj⟩
      rcases Nat.lt_or_ge j 24 with q | q
      · exact q
      · exact absurd (nI_le (a := 24) q hj) h2
def bfC (h : tp_H) (ti : Int32) (q : tp_B) (k : Nat) : Prop := isT (bes ti (nI k)) = true ∧ q.2.2 < 24 ∧ q.1 (bes ti (nI k)).toNatClampNeg = -9 ∧ crB h (bes ti (nI k)) = false
def bfY (ti : Int32) (q : tp_B) (k : Nat) : tp_B := (tg_u q.1 (bes ti (nI k)).toNatClampNeg (q.1 ti.toNatClampNeg + 1), tg_u q.2.1 q.2.2 (bes ti (nI k)), q.2.2 + 1)
def bfW (h : tp_H) (ti : Int32) (q : tp_B) (k : Nat) : tp_B := if isT (bes ti (nI k)) = true ∧ q.2.2 < 24 ∧ q.1 (bes ti (nI k)).toNatClampNeg = -9 ∧ crB h (bes ti (nI k)) = false then bfY ti q k else q
def bfI (h : tp_H) (ti : Int32) (q : tp_B) : Nat → tp_B
  | 0 => q
  | k + 1 => bfW h ti (bfI h ti q k) k
theorem bfI_succ (h : tp_H) (ti : Int32) (q : tp_B) (k : Nat) : bfI h ti q (k + 1) = bfW h ti (bfI h ti q k) k := rfl
def bf0 (f : tp_A) (g : tp_A) (a : Nat) : tp_B := (tg_u f a 0, tg_u g 0 (nI a), 1)
def bfO (h : tp_H) (q : tp_B) : Nat → tp_B
  | 0 => q
  | i + 1 => if i < (bfO h q i).2.2 then bfI h ((bfO h q i).2.1 i) (bfO h q i) 4 else bfO h q i
theorem bfO_succ (h : tp_H) (q : tp_B) (i : Nat) : bfO h q (i + 1) = if i < (bfO h q i).2.2 then bfI h ((bfO h q i).2.1 i) (bfO h q i) 4 else bfO h q i := rfl
def bfV (q : tp_B) : Prop := q.2.2 ≤ 24 ∧ ∀ j, j < q.2.2 → ∃ v, v < 24 ∧ q.2.1 j = nI v
theorem bfV_W {h : tp_H} {ti : Int32} {q : tp_B} {k : Nat} (hq : bfV q) : bfV (bfW h ti q k) ∧ q.2.2 ≤ (bfW h ti q k).2.2 ∧ ∀ j, j < q.2.2 → (bfW h ti q k).2.1 j = q.2.1 j := by
  unfold bfW
  split
  · rename_i hc
    obtain ⟨c1, c2, -, -⟩ := hc
    obtain ⟨v, hv, ev, -⟩ := isT_j c1
    refine ⟨⟨?_, fun j hj => ?_⟩, ?_, fun j hj => ?_⟩
    · show q.2.2 + 1 ≤ 24; omega
    · show ∃ v, v < 24 ∧ tg_u q.2.1 q.2.2 _ j = nI v
      rw [tg_u_eq]
      by_cases e : j = q.2.2
      · rw [if_pos e]; exact ⟨v, hv, ev⟩
      · rw [if_neg e]
        have hj' : j < q.2.2 + 1 := hj
        exact hq.2 j (by omega)
    · show q.2.2 ≤ q.2.2 + 1; omega
    · show tg_u q.2.1 q.2.2 _ j = _
      rw [tg_u_eq, if_neg (by omega)]
  · exact ⟨hq, Nat.le_refl _, fun _ _ => rfl⟩
theorem bfV_I {h : tp_H} {ti : Int32} {q : tp_B} (hq : bfV q) (k : Nat) : bfV (bfI h ti q k) ∧ q.2.2 ≤ (bfI h ti q k).2.2 ∧ ∀ j, j < q.2.2 → (bfI h ti q k).2.1 j = q.2.1 j := by
  induction k with
  | zero => exact ⟨hq, Nat.le_refl _, fun _ _ => rfl⟩
  | succ k ih =>
    rw [bfI_succ]
    obtain ⟨h1, h2, h3⟩ := ih
    obtain ⟨g1, g2, g3⟩ := bfV_W (h := h) (ti := ti) (k := k) h1
    exact ⟨g1, Nat.le_trans h2 g2, fun j hj => (g3 j (by omega)).trans (h3 j hj)⟩
theorem bfV_O {h : tp_H} {q : tp_B} (hq : bfV q) (i : Nat) : bfV (bfO h q i) := by
  induction i with
  | zero => exact hq
  | succ i ih =>
    rw [bfO_succ]
    split
    · exact (bfV_I ih 4).1
    · exact ih
theorem bfO_stop {h : tp_H} {q : tp_B} {i : Nat} (hi : (bfO h q i).2.2 ≤ i) : ∀ d, bfO h q (i + d) = bfO h q i := by
  intro d
  induction d with
  | zero => rfl
  | succ d ih => rw [show i + (d + 1) = (i + d) + 1 by omega, bfO_succ, ih, if_neg (by omega)]
theorem bfW_n {h : tp_H} {ti : Int32} {q : tp_B} {k : Nat} (hn : isT (bes ti (nI k)) = false ∨ ¬ q.2.2 < 24 ∨ ¬ q.1 (bes ti (nI k)).toNatClampNeg = -9 ∨ crB h (bes ti (nI k)) = true) : bfW h ti q k = q := by
  unfold bfW
  refine if_neg fun z => ?_
  obtain ⟨z1, z2, z3, z4⟩ := z
  rcases hn with q1 | q1 | q1 | q1
  · rw [q1] at z1; cases z1
  · exact q1 z2
  · exact q1 z3
  · rw [q1] at z4; cases z4
theorem bfW_y {h : tp_H} {ti : Int32} {q : tp_B} {k : Nat} (h1 : isT (bes ti (nI k)) = true) (h2 : q.2.2 < 24) (h3 : q.1 (bes ti (nI k)).toNatClampNeg = -9) (h4 : crB h (bes ti (nI k)) = false) : bfW h ti q k = bfY ti q k := if_pos ⟨h1, h2, h3, h4⟩
/-- the steps from a over the hearth -/
def bfR (h : tp_H) (f g : tp_A) (a : Nat) : tp_A := (bfO h (bf0 f g a) 24).1
theorem bfV_0 (f g : tp_A) {a : Nat} (ha : a < 24) : bfV (bf0 f g a) := ⟨by show 1 ≤ 24; omega, fun j hj => ⟨a, ha, by
  have hj' : j < 1 := hj
  show tg_u g 0 (nI a) j = nI a
  rw [tg_u_eq, if_pos (by omega)]⟩⟩
theorem w_StRc (x : tp_X) (a b c : tp_A) : ySt (yRc (ySt x a) c) b = yRc (ySt x b) c := rfl
theorem w_RcRc (x : tp_X) (b c : tp_A) : yRc (yRc x b) c = yRc x c := rfl
theorem w_StSt (x : tp_X) (b c : tp_A) : ySt (ySt x b) c = ySt x c := rfl
theorem r_St (x : tp_X) (a c : tp_A) : xSt (yRc (ySt x a) c) = a := rfl
theorem r_Rc (x : tp_X) (a c : tp_A) : xRc (yRc (ySt x a) c) = c := rfl

theorem isT_nI {j : Nat} (h : j < 24) : isT (nI j) = true := by
  have h24 : ∀ k : Fin 24, isT (nI k.1) = true := by decide +kernel
  exact h24 ⟨j, h⟩
set_option maxRecDepth 100000 in
set_option maxHeartbeats 2000000 in
theorem c_between {G : tg_G} {n p t : tp_H} {x : tp_X} {r : List tg_Cl} (a b : Nat) (ha : a < 24) (hb : b < 24) : tg_C G 2 mX6_between 0 0 [.ref 40, .ref 1, .int (nI a), .int (nI b)] (tp_cs n p t x, r) (fun v w => v = some (.int (bfR n (mix 24 (xSt x) (fun _ => -9)) (xRc x) a b)) ∧ ∃ f2 g2, w = (tp_cs n p t (yRc (ySt x f2) g2), r)) := by
  have ia : isT (nI a) = true := isT_nI ha
  have ib : isT (nI b) = true := isT_nI hb
  refine tg_intro okX6_between (Nat.le_of_ble_eq_true rfl) ?_
  refine tg_steps 1 rfl ?_
  refine tg_call4 rfl (c_isTile (nI a)) rfl rfl rfl  (fun v1 w1 q1 => ?_)
  obtain ⟨rfl, rfl⟩ := q1
  refine tg_ifbeq rfl rfl (fun h4 => ?_) (fun h4 => ?_)
  · exact absurd h4 (by rw [ia]; decide)
  · refine tg_steps 1 rfl ?_
    refine tg_call4 rfl (c_isTile (nI b)) rfl rfl rfl  (fun v8 w8 q8 => ?_)
    obtain ⟨rfl, rfl⟩ := q8
    refine tg_ifbne rfl rfl (fun h11 => ?_) (fun h11 => ?_)
    · refine tg_steps 2 rfl ?_
      refine tg_pkV [0, 1, 2, 3, 4] ?_
      refine tg_eqS (L2 := [(0, .ref 40), (1, .ref 1), (2, .int (nI a)), (3, .int (nI b)), (4, .int (nI (0)))]) (st2 := []) (w2 := (tp_cs n p t (ySt x (mix (0) (xSt x) (fun _ => -9))), r)) rfl rfl rfl ?_
      refine tg_down (φ := fun i : Nat => tg_V G 2 mX6_between 0 0 0 0 (fun v w => v = some (.int (bfR n (mix 24 (xSt x) (fun _ => -9)) (xRc x) a b)) ∧ ∃ f2 g2, w = (tp_cs n p t (yRc (ySt x f2) g2), r)) 20 [(0, .ref 40), (1, .ref 1), (2, .int (nI a)), (3, .int (nI b)), (4, .int (nI (i)))] [] (tp_cs n p t (ySt x (mix (i) (xSt x) (fun _ => -9))), r)) (n := 24) ?_ ?_ 0 (Nat.zero_le _) 
      · refine tg_steps 2 rfl ?_
        refine tg_icge rfl rfl (fun h24 => ?_) (fun h24 => ?_)
        · refine tg_steps 4 rfl ?_
          refine tg_iastN rfl rfl (a) rfl ha (by decide) ?_
          refine tg_eqW (w_St _) ?_
          rw [e_StSt, w_StSt]
          refine tg_steps 4 rfl ?_
          refine tg_iastN rfl rfl (0) rfl (by decide) (by decide) ?_
          refine tg_eqW (w_Rc _) ?_
          rw [e_RcSt]
          refine tg_steps 4 rfl ?_
          refine tg_pkV [0, 1, 2, 3, 4, 5] ?_
          refine tg_eqS (L2 := [(0, .ref 40), (1, .ref 1), (2, .int (nI a)), (3, .int (nI b)), (4, .int (nI (bfO n (bf0 (mix 24 (xSt x) (fun _ => -9)) (xRc x) a) (0)).2.2)), (5, .int (nI (0)))]) (st2 := []) (w2 := (tp_cs n p t (yRc (ySt x (bfO n (bf0 (mix 24 (xSt x) (fun _ => -9)) (xRc x) a) (0)).1) (bfO n (bf0 (mix 24 (xSt x) (fun _ => -9)) (xRc x) a) (0)).2.1), r)) rfl rfl rfl ?_
          refine tg_down (φ := fun i : Nat => tg_V G 2 mX6_between 0 0 0 0 (fun v w => v = some (.int (bfR n (mix 24 (xSt x) (fun _ => -9)) (xRc x) a b)) ∧ ∃ f2 g2, w = (tp_cs n p t (yRc (ySt x f2) g2), r)) 62 [(0, .ref 40), (1, .ref 1), (2, .int (nI a)), (3, .int (nI b)), (4, .int (nI (bfO n (bf0 (mix 24 (xSt x) (fun _ => -9)) (xRc x) a) (i)).2.2)), (5, .int (nI (i)))] [] (tp_cs n p t (yRc (ySt x (bfO n (bf0 (mix 24 (xSt x) (fun _ => -9)) (xRc x) a) (i)).1) (bfO n (bf0 (mix 24 (xSt x) (fun _ => -9)) (xRc x) a) (i)).2.1), r)) (n := 24) ?_ ?_ 0 (Nat.zero_le _) 
          · refine tg_steps 2 rfl ?_
            refine tg_icge rfl rfl (fun h66 => ?_) (fun h66 => ?_)
            · refine tg_steps 3 rfl ?_
              refine tg_ialdN rfl rfl (b) rfl hb (by decide) ?_
              exact tg_iret (st := []) rfl rfl ⟨Nat.le_of_ble_eq_true rfl, Nat.le_of_ble_eq_true rfl⟩ ⟨by unfold bfR; rw [r_St], _, _, rfl⟩
            · refine tg_steps 2 rfl ?_
              refine tg_icge rfl rfl (fun h73 => ?_) (fun h73 => ?_)
              · refine tg_steps 3 rfl ?_
                refine tg_ialdN rfl rfl (b) rfl hb (by decide) ?_
                exact tg_iret (st := []) rfl rfl ⟨Nat.le_of_ble_eq_true rfl, Nat.le_of_ble_eq_true rfl⟩ ⟨by unfold bfR; rw [r_St], _, _, rfl⟩
              · exact absurd (by decide) h73
          · intro i hi62 ih62
            have hV := bfV_O (h := n) (bfV_0 (mix 24 (xSt x) (fun _ => -9)) (xRc x) ha) i
            refine tg_steps 2 rfl ?_
            refine tg_icge rfl rfl (fun h66 => ?_) (fun h66 => ?_)
            · have hstop : (bfO n (bf0 (mix 24 (xSt x) (fun _ => -9)) (xRc x) a) (i)).2.2 ≤ i := by
                rcases Nat.lt_or_ge i (bfO n (bf0 (mix 24 (xSt x) (fun _ => -9)) (xRc x) a) (i)).2.2 with q | q
                · exact absurd h66 (nI_ge q (by have := hV.1; omega))
                · exact q
              have hend : (bfO n (bf0 (mix 24 (xSt x) (fun _ => -9)) (xRc x) a) (24)) = (bfO n (bf0 (mix 24 (xSt x) (fun _ => -9)) (xRc x) a) (i)) := by
                have := bfO_stop (h := n) (q := (bf0 (mix 24 (xSt x) (fun _ => -9)) (xRc x) a)) hstop (24 - i)
                rw [show i + (24 - i) = 24 by omega] at this
                exact this
              refine tg_steps 3 rfl ?_
              refine tg_ialdN rfl rfl (b) rfl hb (by decide) ?_
              exact tg_iret (st := []) rfl rfl ⟨Nat.le_of_ble_eq_true rfl, Nat.le_of_ble_eq_true rfl⟩ ⟨by unfold bfR; rw [r_St, hend], _, _, rfl⟩
            · have hlt : i < (bfO n (bf0 (mix 24 (xSt x) (fun _ => -9)) (xRc x) a) (i)).2.2 := by
                rcases Nat.lt_or_ge i (bfO n (bf0 (mix 24 (xSt x) (fun _ => -9)) (xRc x) a) (i)).2.2 with q | q
                · exact q
                · exact absurd (nI_le q (by omega)) h66
              refine tg_steps 2 rfl ?_
              refine tg_icge rfl rfl (fun h73 => ?_) (fun h73 => ?_)
              · exact absurd h73 (nI_ge (b := 24) hi62 (by decide))
              · refine tg_steps 3 rfl ?_
                refine tg_ialdN rfl rfl (i) rfl (by omega) (by decide) ?_
                refine tg_steps 3 rfl ?_
                refine tg_pkV [0, 1, 2, 3, 4, 5, 6, 7] ?_
                refine tg_eqS (L2 := [(0, .ref 40), (1, .ref 1), (2, .int (nI a)), (3, .int (nI b)), (4, .int (nI (bfI n ((bfO n (bf0 (mix 24 (xSt x) (fun _ => -9)) (xRc x) a) (i)).2.1 i) (bfO n (bf0 (mix 24 (xSt x) (fun _ => -9)) (xRc x) a) (i)) (0)).2.2)), (5, .int (nI i)), (6, .int ((bfO n (bf0 (mix 24 (xSt x) (fun _ => -9)) (xRc x) a) (i)).2.1 i)), (7, .int (nI (0)))]) (st2 := []) (w2 := (tp_cs n p t (yRc (ySt x (bfI n ((bfO n (bf0 (mix 24 (xSt x) (fun _ => -9)) (xRc x) a) (i)).2.1 i) (bfO n (bf0 (mix 24 (xSt x) (fun _ => -9)) (xRc x) a) (i)) (0)).1) (bfI n ((bfO n (bf0 (mix 24 (xSt x) (fun _ => -9)) (xRc x) a) (i)).2.1 i) (bfO n (bf0 (mix 24 (xSt x) (fun _ => -9)) (xRc x) a) (i)) (0)).2.1), r)) rfl rfl rfl ?_
                refine tg_down (φ := fun j : Nat => tg_V G 2 mX6_between 0 0 0 0 (fun v w => v = some (.int (bfR n (mix 24 (xSt x) (fun _ => -9)) (xRc x) a b)) ∧ ∃ f2 g2, w = (tp_cs n p t (yRc (ySt x f2) g2), r)) 88 [(0, .ref 40), (1, .ref 1), (2, .int (nI a)), (3, .int (nI b)), (4, .int (nI (bfI n ((bfO n (bf0 (mix 24 (xSt x) (fun _ => -9)) (xRc x) a) (i)).2.1 i) (bfO n (bf0 (mix 24 (xSt x) (fun _ => -9)) (xRc x) a) (i)) (j)).2.2)), (5, .int (nI i)), (6, .int ((bfO n (bf0 (mix 24 (xSt x) (fun _ => -9)) (xRc x) a) (i)).2.1 i)), (7, .int (nI (j)))] [] (tp_cs n p t (yRc (ySt x (bfI n ((bfO n (bf0 (mix 24 (xSt x) (fun _ => -9)) (xRc x) a) (i)).2.1 i) (bfO n (bf0 (mix 24 (xSt x) (fun _ => -9)) (xRc x) a) (i)) (j)).1) (bfI n ((bfO n (bf0 (mix 24 (xSt x) (fun _ => -9)) (xRc x) a) (i)).2.1 i) (bfO n (bf0 (mix 24 (xSt x) (fun _ => -9)) (xRc x) a) (i)) (j)).2.1), r)) (n := 4) ?_ ?_ 0 (Nat.zero_le _) 
                · refine tg_steps 2 rfl ?_
                  refine tg_icge rfl rfl (fun h91 => ?_) (fun h91 => ?_)
                  · refine tg_steps 2 rfl ?_
                    refine tg_pkV [0, 1, 2, 3, 4, 5] ?_
                    refine tg_eqS (L2 := [(0, .ref 40), (1, .ref 1), (2, .int (nI a)), (3, .int (nI b)), (4, .int (nI (bfO n (bf0 (mix 24 (xSt x) (fun _ => -9)) (xRc x) a) (i + 1)).2.2)), (5, .int (nI (i + 1)))]) (st2 := []) (w2 := (tp_cs n p t (yRc (ySt x (bfO n (bf0 (mix 24 (xSt x) (fun _ => -9)) (xRc x) a) (i + 1)).1) (bfO n (bf0 (mix 24 (xSt x) (fun _ => -9)) (xRc x) a) (i + 1)).2.1), r)) (by rw [bfO_succ, if_pos hlt, nI_succ i]; rfl) rfl (by rw [bfO_succ, if_pos hlt]) ?_
                    exact ih62
                  · exact absurd (by decide) h91
                · intro j hi88 ih88
                  have hVj := (bfV_I (h := n) (ti := (bfO n (bf0 (mix 24 (xSt x) (fun _ => -9)) (xRc x) a) (i)).2.1 i) hV j).1
                  refine tg_steps 2 rfl ?_
                  refine tg_icge rfl rfl (fun h91 => ?_) (fun h91 => ?_)
                  · exact absurd h91 (nI_ge (b := 4) hi88 (by decide))
                  · refine tg_steps 2 rfl ?_
                    refine tg_call4 rfl (c_besideOf _ _) rfl rfl rfl  (fun v98 w98 q98 => ?_)
                    obtain ⟨rfl, rfl⟩ := q98
                    refine tg_steps 2 rfl ?_
                    refine tg_call4 rfl (c_isTile _) rfl rfl rfl  (fun v105 w105 q105 => ?_)
                    obtain ⟨rfl, rfl⟩ := q105
                    refine tg_ifbeq rfl rfl (fun h108 => ?_) (fun h108 => ?_)
                    · have hW := bfW_n (h := n) (ti := ((bfO n (bf0 (mix 24 (xSt x) (fun _ => -9)) (xRc x) a) (i)).2.1 i)) (q := (bfI n ((bfO n (bf0 (mix 24 (xSt x) (fun _ => -9)) (xRc x) a) (i)).2.1 i) (bfO n (bf0 (mix 24 (xSt x) (fun _ => -9)) (xRc x) a) (i)) (j))) (k := j) (Or.inl h108)
                      refine tg_steps 2 rfl ?_
                      refine tg_pkV [0, 1, 2, 3, 4, 5, 6, 7] ?_
                      refine tg_eqS (L2 := [(0, .ref 40), (1, .ref 1), (2, .int (nI a)), (3, .int (nI b)), (4, .int (nI (bfI n ((bfO n (bf0 (mix 24 (xSt x) (fun _ => -9)) (xRc x) a) (i)).2.1 i) (bfO n (bf0 (mix 24 (xSt x) (fun _ => -9)) (xRc x) a) (i)) (j + 1)).2.2)), (5, .int (nI i)), (6, .int ((bfO n (bf0 (mix 24 (xSt x) (fun _ => -9)) (xRc x) a) (i)).2.1 i)), (7, .int (nI (j + 1)))]) (st2 := []) (w2 := (tp_cs n p t (yRc (ySt x (bfI n ((bfO n (bf0 (mix 24 (xSt x) (fun _ => -9)) (xRc x) a) (i)).2.1 i) (bfO n (bf0 (mix 24 (xSt x) (fun _ => -9)) (xRc x) a) (i)) (j + 1)).1) (bfI n ((bfO n (bf0 (mix 24 (xSt x) (fun _ => -9)) (xRc x) a) (i)).2.1 i) (bfO n (bf0 (mix 24 (xSt x) (fun _ => -9)) (xRc x) a) (i)) (j + 1)).2.1), r)) (by simp only [nI_succ, bfI_succ, hW]; rfl) rfl (by simp only [bfI_succ, hW]; try rfl) ?_
                      exact ih88
                    · obtain ⟨v, hv, ev, cv⟩ := isT_j h108
                      have cx : (bes ((bfO n (bf0 (mix 24 (xSt x) (fun _ => -9)) (xRc x) a) (i)).2.1 i) (nI j)).toNatClampNeg = v := by rw [ev]; exact cv
                      refine tg_steps 2 rfl ?_
                      refine tg_icge rfl rfl (fun h115 => ?_) (fun h115 => ?_)
                      · have hW := bfW_n (h := n) (ti := ((bfO n (bf0 (mix 24 (xSt x) (fun _ => -9)) (xRc x) a) (i)).2.1 i)) (q := (bfI n ((bfO n (bf0 (mix 24 (xSt x) (fun _ => -9)) (xRc x) a) (i)).2.1 i) (bfO n (bf0 (mix 24 (xSt x) (fun _ => -9)) (xRc x) a) (i)) (j))) (k := j) (Or.inr (Or.inl (fun q => absurd h115 (nI_ge (b := 24) q (by decide)))))
                        refine tg_steps 2 rfl ?_
                        refine tg_pkV [0, 1, 2, 3, 4, 5, 6, 7] ?_
                        refine tg_eqS (L2 := [(0, .ref 40), (1, .ref 1), (2, .int (nI a)), (3, .int (nI b)), (4, .int (nI (bfI n ((bfO n (bf0 (mix 24 (xSt x) (fun _ => -9)) (xRc x) a) (i)).2.1 i) (bfO n (bf0 (mix 24 (xSt x) (fun _ => -9)) (xRc x) a) (i)) (j + 1)).2.2)), (5, .int (nI i)), (6, .int ((bfO n (bf0 (mix 24 (xSt x) (fun _ => -9)) (xRc x) a) (i)).2.1 i)), (7, .int (nI (j + 1)))]) (st2 := []) (w2 := (tp_cs n p t (yRc (ySt x (bfI n ((bfO n (bf0 (mix 24 (xSt x) (fun _ => -9)) (xRc x) a) (i)).2.1 i) (bfO n (bf0 (mix 24 (xSt x) (fun _ => -9)) (xRc x) a) (i)) (j + 1)).1) (bfI n ((bfO n (bf0 (mix 24 (xSt x) (fun _ => -9)) (xRc x) a) (i)).2.1 i) (bfO n (bf0 (mix 24 (xSt x) (fun _ => -9)) (xRc x) a) (i)) (j + 1)).2.1), r)) (by simp only [nI_succ, bfI_succ, hW]; rfl) rfl (by simp only [bfI_succ, hW]; try rfl) ?_
                        exact ih88
                      · have hm24 : (bfI n ((bfO n (bf0 (mix 24 (xSt x) (fun _ => -9)) (xRc x) a) (i)).2.1 i) (bfO n (bf0 (mix 24 (xSt x) (fun _ => -9)) (xRc x) a) (i)) (j)).2.2 < 24 := by
                          rcases Nat.lt_or_ge (bfI n ((bfO n (bf0 (mix 24 (xSt x) (fun _ => -9)) (xRc x) a) (i)).2.1 i) (bfO n (bf0 (mix 24 (xSt x) (fun _ => -9)) (xRc x) a) (i)) (j)).2.2 24 with q | q
                          · exact q
                          · exact absurd (nI_le (a := 24) q (by have := hVj.1; omega)) h115
                        refine tg_steps 3 rfl ?_
                        refine tg_ialdN rfl rfl (v) ev hv (by decide) ?_
                        refine tg_steps 1 rfl ?_
                        refine tg_icne rfl rfl (fun h127 => ?_) (fun h127 => ?_)
                        · have hW := bfW_n (h := n) (ti := ((bfO n (bf0 (mix 24 (xSt x) (fun _ => -9)) (xRc x) a) (i)).2.1 i)) (q := (bfI n ((bfO n (bf0 (mix 24 (xSt x) (fun _ => -9)) (xRc x) a) (i)).2.1 i) (bfO n (bf0 (mix 24 (xSt x) (fun _ => -9)) (xRc x) a) (i)) (j))) (k := j) (Or.inr (Or.inr (Or.inl (by rw [cx]; exact h127))))
                          refine tg_steps 2 rfl ?_
                          refine tg_pkV [0, 1, 2, 3, 4, 5, 6, 7] ?_
                          refine tg_eqS (L2 := [(0, .ref 40), (1, .ref 1), (2, .int (nI a)), (3, .int (nI b)), (4, .int (nI (bfI n ((bfO n (bf0 (mix 24 (xSt x) (fun _ => -9)) (xRc x) a) (i)).2.1 i) (bfO n (bf0 (mix 24 (xSt x) (fun _ => -9)) (xRc x) a) (i)) (j + 1)).2.2)), (5, .int (nI i)), (6, .int ((bfO n (bf0 (mix 24 (xSt x) (fun _ => -9)) (xRc x) a) (i)).2.1 i)), (7, .int (nI (j + 1)))]) (st2 := []) (w2 := (tp_cs n p t (yRc (ySt x (bfI n ((bfO n (bf0 (mix 24 (xSt x) (fun _ => -9)) (xRc x) a) (i)).2.1 i) (bfO n (bf0 (mix 24 (xSt x) (fun _ => -9)) (xRc x) a) (i)) (j + 1)).1) (bfI n ((bfO n (bf0 (mix 24 (xSt x) (fun _ => -9)) (xRc x) a) (i)).2.1 i) (bfO n (bf0 (mix 24 (xSt x) (fun _ => -9)) (xRc x) a) (i)) (j + 1)).2.1), r)) (by simp only [nI_succ, bfI_succ, hW]; rfl) rfl (by simp only [bfI_succ, hW]; try rfl) ?_
                          exact ih88
                        · refine tg_steps 2 rfl ?_
                          refine tg_callV rfl (c_isCracked_0 _) rfl rfl rfl rfl rfl (fun v133 w133 q133 => ?_)
                          obtain ⟨rfl, rfl⟩ := q133
                          refine tg_ifbne rfl rfl (fun h136 => ?_) (fun h136 => ?_)
                          · have hW := bfW_n (h := n) (ti := ((bfO n (bf0 (mix 24 (xSt x) (fun _ => -9)) (xRc x) a) (i)).2.1 i)) (q := (bfI n ((bfO n (bf0 (mix 24 (xSt x) (fun _ => -9)) (xRc x) a) (i)).2.1 i) (bfO n (bf0 (mix 24 (xSt x) (fun _ => -9)) (xRc x) a) (i)) (j))) (k := j) (Or.inr (Or.inr (Or.inr h136)))
                            refine tg_steps 2 rfl ?_
                            refine tg_pkV [0, 1, 2, 3, 4, 5, 6, 7] ?_
                            refine tg_eqS (L2 := [(0, .ref 40), (1, .ref 1), (2, .int (nI a)), (3, .int (nI b)), (4, .int (nI (bfI n ((bfO n (bf0 (mix 24 (xSt x) (fun _ => -9)) (xRc x) a) (i)).2.1 i) (bfO n (bf0 (mix 24 (xSt x) (fun _ => -9)) (xRc x) a) (i)) (j + 1)).2.2)), (5, .int (nI i)), (6, .int ((bfO n (bf0 (mix 24 (xSt x) (fun _ => -9)) (xRc x) a) (i)).2.1 i)), (7, .int (nI (j + 1)))]) (st2 := []) (w2 := (tp_cs n p t (yRc (ySt x (bfI n ((bfO n (bf0 (mix 24 (xSt x) (fun _ => -9)) (xRc x) a) (i)).2.1 i) (bfO n (bf0 (mix 24 (xSt x) (fun _ => -9)) (xRc x) a) (i)) (j + 1)).1) (bfI n ((bfO n (bf0 (mix 24 (xSt x) (fun _ => -9)) (xRc x) a) (i)).2.1 i) (bfO n (bf0 (mix 24 (xSt x) (fun _ => -9)) (xRc x) a) (i)) (j + 1)).2.1), r)) (by simp only [nI_succ, bfI_succ, hW]; rfl) rfl (by simp only [bfI_succ, hW]; try rfl) ?_
                            exact ih88
                          · have hW := bfW_y (h := n) (ti := ((bfO n (bf0 (mix 24 (xSt x) (fun _ => -9)) (xRc x) a) (i)).2.1 i)) (q := (bfI n ((bfO n (bf0 (mix 24 (xSt x) (fun _ => -9)) (xRc x) a) (i)).2.1 i) (bfO n (bf0 (mix 24 (xSt x) (fun _ => -9)) (xRc x) a) (i)) (j))) (k := j) h108 hm24 (by rw [cx]; exact h127) h136
                            obtain ⟨u, hu, eu⟩ := hV.2 i hlt
                            have cu : (((bfO n (bf0 (mix 24 (xSt x) (fun _ => -9)) (xRc x) a) (i)).2.1 i)).toNatClampNeg = u := by rw [eu]; exact nI_clamp (by omega)
                            unfold bfY at hW
                            rw [cx, cu] at hW
                            refine tg_steps 6 rfl ?_
                            refine tg_ialdN rfl rfl (u) eu hu (by decide) ?_
                            refine tg_steps 2 rfl ?_
                            refine tg_iastN rfl rfl (v) ev hv (by decide) ?_
                            refine tg_eqW (w_St _) ?_
                            rw [r_St, w_StRc]
                            refine tg_steps 4 rfl ?_
                            refine tg_iastN rfl rfl ((bfI n ((bfO n (bf0 (mix 24 (xSt x) (fun _ => -9)) (xRc x) a) (i)).2.1 i) (bfO n (bf0 (mix 24 (xSt x) (fun _ => -9)) (xRc x) a) (i)) (j)).2.2) rfl hm24 (by decide) ?_
                            refine tg_eqW (w_Rc _) ?_
                            rw [r_Rc, w_RcRc]
                            refine tg_steps 3 rfl ?_
                            refine tg_pkV [0, 1, 2, 3, 4, 5, 6, 7] ?_
                            refine tg_eqS (L2 := [(0, .ref 40), (1, .ref 1), (2, .int (nI a)), (3, .int (nI b)), (4, .int (nI (bfI n ((bfO n (bf0 (mix 24 (xSt x) (fun _ => -9)) (xRc x) a) (i)).2.1 i) (bfO n (bf0 (mix 24 (xSt x) (fun _ => -9)) (xRc x) a) (i)) (j + 1)).2.2)), (5, .int (nI i)), (6, .int ((bfO n (bf0 (mix 24 (xSt x) (fun _ => -9)) (xRc x) a) (i)).2.1 i)), (7, .int (nI (j + 1)))]) (st2 := []) (w2 := (tp_cs n p t (yRc (ySt x (bfI n ((bfO n (bf0 (mix 24 (xSt x) (fun _ => -9)) (xRc x) a) (i)).2.1 i) (bfO n (bf0 (mix 24 (xSt x) (fun _ => -9)) (xRc x) a) (i)) (j + 1)).1) (bfI n ((bfO n (bf0 (mix 24 (xSt x) (fun _ => -9)) (xRc x) a) (i)).2.1 i) (bfO n (bf0 (mix 24 (xSt x) (fun _ => -9)) (xRc x) a) (i)) (j + 1)).2.1), r)) (by simp only [nI_succ, bfI_succ, hW]; rfl) rfl (by simp only [bfI_succ, hW]; try rfl) ?_
                            exact ih88
        · exact absurd (by decide) h24
      · intro i hi20 ih20
        refine tg_steps 2 rfl ?_
        refine tg_icge rfl rfl (fun h24 => ?_) (fun h24 => ?_)
        · exact absurd h24 (nI_ge (b := 24) hi20 (by decide))
        · refine tg_steps 4 rfl ?_
          refine tg_iastN rfl rfl (i) rfl (by omega) (by decide) ?_
          refine tg_eqW (w_St _) ?_
          rw [e_StSt, w_StSt]
          refine tg_steps 2 rfl ?_
          refine tg_pkV [0, 1, 2, 3, 4] ?_
          refine tg_eqS (L2 := [(0, .ref 40), (1, .ref 1), (2, .int (nI a)), (3, .int (nI b)), (4, .int (nI (i + 1)))]) (st2 := []) (w2 := (tp_cs n p t (ySt x (mix (i + 1) (xSt x) (fun _ => -9))), r)) (by first | rfl | (simp (decide := true) only [nI_succ, decide_true, decide_false, cond_true, cond_false, Bool.false_eq_true, if_true, if_false, ite_true, ite_false, h4, h11]; done) | (simp (decide := true) only [nI_succ, decide_true, decide_false, cond_true, cond_false, Bool.false_eq_true, if_true, if_false, ite_true, ite_false, h4, h11]; rfl)) rfl (by rw [mix_succ]) ?_
          exact ih20
    · exact absurd h11 (by rw [ib]; decide)
