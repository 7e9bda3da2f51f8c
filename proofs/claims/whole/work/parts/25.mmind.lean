/-! contracts of the reference: in mind -/
def thY (h : tp_H) (y : tp_Y) : tp_Y := zIk (zCu (zKe y (svA h (yKe y) 78)) 117) true
def fgY (y : tp_Y) : tp_Y := zIk (zCu y 117) false
def chY (h : tp_H) (y : tp_Y) : tp_Y := zIk (zCu (zKe y (svA h (yKe y) 39)) 78) true
def cbY (y : tp_Y) : tp_Y := zIk (zCu y 78) false
/-- what a call in mind leaves as it was -/
def yk (b : Nat) (y z : tp_Y) : Prop := yRf z = yRf y ∧ yTp z = yTp y ∧ yTd z = yTd y ∧ yHi z = yHi y ∧ yRo z = yRo y ∧ yRm z = yRm y ∧ ∀ j, j < b → yKe z j = yKe y j
theorem yk_rf (b : Nat) (y : tp_Y) : yk b y y := ⟨rfl, rfl, rfl, rfl, rfl, rfl, fun _ _ => rfl⟩
theorem yk_tr {b : Nat} {x y z : tp_Y} (h : yk b x y) (g : yk b y z) : yk b x z := by
  obtain ⟨a1, a2, a3, a4, a5, a6, a7⟩ := h
  obtain ⟨b1, b2, b3, b4, b5, b6, b7⟩ := g
  exact ⟨b1.trans a1, b2.trans a2, b3.trans a3, b4.trans a4, b5.trans a5, b6.trans a6, fun j hj => (b7 j hj).trans (a7 j hj)⟩
theorem yk_le {b c : Nat} {x y : tp_Y} (hbc : c ≤ b) (h : yk b x y) : yk c x y := ⟨h.1, h.2.1, h.2.2.1, h.2.2.2.1, h.2.2.2.2.1, h.2.2.2.2.2.1, fun j hj => h.2.2.2.2.2.2 j (by omega)⟩
theorem yk_mo (b : Nat) (y : tp_Y) (m : Int32) : yk b y (zMo y m) := ⟨rfl, rfl, rfl, rfl, rfl, rfl, fun _ _ => rfl⟩
theorem yk_th (h : tp_H) (y : tp_Y) : yk 78 y (thY h y) := ⟨rfl, rfl, rfl, rfl, rfl, rfl, fun j hj => svA_out h (yKe y) 78 (Or.inl hj)⟩
theorem yk_ch (h : tp_H) (y : tp_Y) : yk 39 y (chY h y) := ⟨rfl, rfl, rfl, rfl, rfl, rfl, fun j hj => svA_out h (yKe y) 39 (Or.inl hj)⟩
theorem yk_fg (b : Nat) (y : tp_Y) : yk b y (fgY y) := ⟨rfl, rfl, rfl, rfl, rfl, rfl, fun _ _ => rfl⟩
theorem yk_cb (b : Nat) (y : tp_Y) : yk b y (cbY y) := ⟨rfl, rfl, rfl, rfl, rfl, rfl, fun _ _ => rfl⟩
theorem yk_en (b : Nat) (y : tp_Y) (f : tp_A) : yk b y (zEn y f) := ⟨rfl, rfl, rfl, rfl, rfl, rfl, fun _ _ => rfl⟩
theorem yk_lo (b : Nat) (y : tp_Y) (m : Int32) : yk b y (zLo y m) := ⟨rfl, rfl, rfl, rfl, rfl, rfl, fun _ _ => rfl⟩
theorem hld_th (h : tp_H) (y : tp_Y) : hld (yKe (thY h y)) 78 h := svA_hld h (yKe y) 78
theorem hld_thm (h : tp_H) (y : tp_Y) (mo : Int32) : hld (yKe (zMo (thY h y) mo)) 78 h := by
  rw [g_KeMo]
  exact hld_th h y
theorem hld_ch (h : tp_H) (y : tp_Y) : hld (yKe (chY h y)) 39 h := svA_hld h (yKe y) 39
theorem hld_yk {h : tp_H} {y z : tp_Y} (hk : hld (yKe y) 39 h) (e : yk 78 y z) : hld (yKe z) 39 h := hld_eq hk (fun j _ h2 => e.2.2.2.2.2.2 j (by omega))
theorem t_fg (h : tp_H) (y : tp_Y) (m : Int32) : yk 78 y (fgY (zMo (thY h y) m)) := yk_tr (yk_th h y) (yk_tr (yk_mo 78 _ m) (yk_fg 78 _))
theorem w_MoMo (y : tp_Y) (a b : Int32) : zMo (zMo y a) b = zMo y b := by
  obtain ⟨a1, a2, a3, a4, a5, a6, a7, a8, a9, a10, a11, a12, a13, a14, a15, a16, a17⟩ := y
  exact Eq.trans (b := ((a1, a2, a3, a4, a5, a6, a7, a8, a9, a10, a11, a12, b, a14, a15, a16, a17) : tp_Y)) rfl rfl
theorem w_Mo0 (y : tp_Y) : zMo y (yMo y) = y := by
  obtain ⟨a1, a2, a3, a4, a5, a6, a7, a8, a9, a10, a11, a12, a13, a14, a15, a16, a17⟩ := y
  exact Eq.trans (b := ((a1, a2, a3, a4, a5, a6, a7, a8, a9, a10, a11, a12, a13, a14, a15, a16, a17) : tp_Y)) rfl rfl
/-! the first of a row of nights, as the reference looks for it -/
def fo (p : Nat → Bool) (v : Nat → Int32) : Nat → Int32
  | 0 => -9
  | e + 1 => if fo p v e < 0 then (bif p e then v e else -9) else fo p v e
theorem fo_succ (p : Nat → Bool) (v : Nat → Int32) (e : Nat) : fo p v (e + 1) = if fo p v e < 0 then (bif p e then v e else -9) else fo p v e := rfl
theorem fo_stop {p : Nat → Bool} {v : Nat → Int32} {i : Nat} (h : ¬ fo p v i < 0) : ∀ d, fo p v (i + d) = fo p v i := by
  intro d
  induction d with
  | zero => rfl
  | succ d ih => rw [show i + (d + 1) = (i + d) + 1 by omega, fo_succ, ih, if_neg h]
theorem fo_ch {p : Nat → Bool} {v : Nat → Int32} : ∀ n, (∀ k, k < n → p k = true → ¬ v k < 0) → (fo p v n = -9 ∧ ∀ k, k < n → p k = false) ∨ ∃ k, k < n ∧ p k = true ∧ (∀ m, m < k → p m = false) ∧ fo p v n = v k := by
  intro n
  induction n with
  | zero => intro _; exact Or.inl ⟨rfl, fun k hk => absurd hk (Nat.not_lt_zero k)⟩
  | succ n ih =>
    intro hv
    rcases ih (fun k hk => hv k (by omega)) with ⟨h1, h2⟩ | ⟨k, h1, h2, h3, h4⟩
    · rw [fo_succ, h1, if_pos (by decide)]
      cases hp : p n with
      | false =>
        refine Or.inl ⟨rfl, fun k hk => ?_⟩
        rcases Nat.lt_or_ge k n with q | q
        · exact h2 k q
        · rw [show k = n by omega]; exact hp
      | true => exact Or.inr ⟨n, Nat.lt_succ_self n, hp, h2, rfl⟩
    · refine Or.inr ⟨k, by omega, h2, h3, ?_⟩
      rw [fo_succ, h4, if_neg (hv k (by omega) h2)]
theorem fiV_no {p : Nat → Bool} {v : Nat → Int32} {c : Int32} : ∀ {d i : Nat}, (∀ k, i ≤ k → k < i + d → p k = false) → fiV p v c d i = c := by
  intro d
  induction d with
  | zero => intro i _; rfl
  | succ d ih => intro i h; rw [fiV_succ, h i (Nat.le_refl i) (by omega), cond_false]; exact ih (fun k h1 h2 => h k (by omega) (by omega))
theorem fiV_at {p : Nat → Bool} {v : Nat → Int32} {c : Int32} : ∀ {d i k : Nat}, i ≤ k → k < i + d → p k = true → (∀ m, i ≤ m → m < k → p m = false) → fiV p v c d i = v k := by
  intro d
  induction d with
  | zero => intro i k h1 h2; omega
  | succ d ih =>
    intro i k h1 h2 hp hn
    rw [fiV_succ]
    rcases Nat.eq_or_lt_of_le h1 with e | e
    · rw [e, hp]; rfl
    · rw [hn i (Nat.le_refl i) e, cond_false]
      exact ih (by omega) (by omega) hp (fun m h3 h4 => hn m (by omega) h4)
theorem fo_fiV {p : Nat → Bool} {v : Nat → Int32} {n : Nat} (hv : ∀ k, k < n → p k = true → ¬ v k < 0) : fo p v n = fiV p v (-9) n 0 := by
  rcases fo_ch n hv with ⟨h1, h2⟩ | ⟨k, h1, h2, h3, h4⟩
  · rw [h1, fiV_no (fun k _ hk => h2 k (by omega))]
  · rw [h4, fiV_at (Nat.zero_le k) (by omega) h2 (fun m _ hm => h3 m hm)]
theorem fo_nI {p : Nat → Bool} {n : Nat} (hn : n ≤ 1000) : fo p nI n = fiV p nI (-9) n 0 := fo_fiV (fun k hk _ => nI_pos (by omega))
theorem fiV_eq' {p q : Nat → Bool} {v u : Nat → Int32} {c : Int32} : ∀ {d i : Nat}, (∀ j, i ≤ j → j < i + d → p j = q j ∧ (p j = true → v j = u j)) → fiV p v c d i = fiV q u c d i := by
  intro d
  induction d with
  | zero => intro i _; rfl
  | succ d ih =>
    intro i h
    obtain ⟨h1, h2⟩ := h i (Nat.le_refl i) (by omega)
    rw [fiV_succ, fiV_succ, ← h1, ih (fun j a b => h j (by omega) (by omega))]
    cases hp : p i with
    | false => rfl
    | true => rw [h2 hp]
theorem gT_j {h : tp_H} {j : Nat} (hm : hM h ≤ 7) (hj : j < hM h) (i : Nat) : gO hT (pNs i h) (nI j) = hT (pNs i h) j := gO_nI (by rw [pNs_M]; exact hm) (by rw [pNs_M]; exact hj)
/-- nights without anybody going, up to now -/
def qtS (h : tp_H) : Nat → Nat
  | 0 => 0
  | k + 1 => bif pGn (pNs k h) then 0 else qtS h k + 1
theorem qtS_succ (h : tp_H) (k : Nat) : qtS h (k + 1) = bif pGn (pNs k h) then 0 else qtS h k + 1 := rfl
theorem qt_sq (h : tp_H) (k : Nat) : qtS h k + sqS h k = k := by
  induction k with
  | zero => rfl
  | succ k ih =>
    rw [qtS_succ, sqS_succ]
    cases pGn (pNs k h)
    · show qtS h k + 1 + sqS h k = k + 1
      omega
    · show 0 + (k + 1) = k + 1
      omega
def stP (h : tp_H) (k : Nat) : Bool := decide (nI (qtS h (k + 1)) = 12)
def stV (k : Nat) : Int32 := nI (k + 1) - 12
theorem st_eq (h : tp_H) : fo (stP h) stV 72 = aSti h := by
  have key : ∀ k, k < 72 → stP h k = fE h k ∧ (stP h k = true → stV k = sqV h k ∧ ¬ stV k < 0) := by
    intro k hk
    have e := qt_sq h (k + 1)
    have e2 : nI (k + 1) - nI (sqS h (k + 1)) = nI (qtS h (k + 1)) := by
      have hd : ∀ a b : Fin 80, nI (a.1 + b.1) - nI b.1 = nI a.1 := by decide +kernel
      have := hd ⟨qtS h (k + 1), by omega⟩ ⟨sqS h (k + 1), by omega⟩
      rw [show qtS h (k + 1) + sqS h (k + 1) = k + 1 from e] at this
      exact this
    refine ⟨?_, fun hs => ?_⟩
    · unfold stP fE
      rw [e2]
    · have h12 := of_decide_eq_true hs
      have hq : qtS h (k + 1) = 12 := (nI_eq (b := 12) (by omega) (by decide)).mp h12
      have hs2 : k + 1 = 12 + sqS h (k + 1) := by omega
      unfold stV sqV
      have hd : ∀ b : Fin 80, nI (12 + b.1) - 12 = nI b.1 ∧ ¬ nI (12 + b.1) - 12 < 0 := by decide +kernel
      have := hd ⟨sqS h (k + 1), by omega⟩
      rw [← hs2] at this
      exact this
  unfold aSti
  rw [fo_fiV (fun k hk hp => ((key k hk).2 hp).2)]
  refine fiV_eq' (fun k h1 h2 => ?_)
  exact ⟨(key k (by omega)).1, fun hp => ((key k (by omega)).2 hp).1⟩

set_option maxRecDepth 100000 in
set_option maxHeartbeats 2000000 in
theorem m_aboardIn {G : tg_G} {l : List tg_Cl} {h : tp_H} {y : tp_Y} (hw : wfH h) (k : Nat) (hk : k < 2 ^ 31) : tg_C G 7 mX11_aboardIn 0 0 [.ref 64, .int (nI k)] (l, tm_cs h y) (fun v w => v = some (.int (oAt (pNs k h) (hS (pNs k h)))) ∧ ∃ y2, w = (l, tm_cs h y2) ∧ yk 78 y y2) := by
  have hm := hw.1
  refine tg_intro okX11_aboardIn (Nat.le_of_ble_eq_true rfl) ?_
  refine tg_steps 1 rfl ?_
  refine tg_callV rfl (m_thinks) rfl rfl rfl rfl rfl (fun v1 w1 q1 => ?_)
  obtain ⟨rfl, rfl⟩ := q1
  refine tg_steps 2 rfl ?_
  refine tg_callV rfl (m_goes (y := thY h y) hw k hk) rfl rfl rfl rfl rfl (fun v6 w6 q6 => ?_)
  obtain ⟨rfl, mo, rfl⟩ := q6
  refine tg_steps 1 rfl ?_
  refine tg_callV rfl (m_aboardNow (pm7 hm k)) rfl rfl rfl rfl rfl (fun v10 w10 q10 => ?_)
  obtain ⟨rfl, rfl⟩ := q10
  refine tg_steps 2 rfl ?_
  refine tg_callV rfl (m_forgets (g := h) (hld_thm h y mo)) rfl rfl rfl rfl rfl (fun v15 w15 q15 => ?_)
  obtain ⟨rfl, rfl⟩ := q15
  refine tg_steps 1 rfl ?_
  exact tg_iret (st := []) rfl rfl ⟨Nat.le_of_ble_eq_true rfl, Nat.le_of_ble_eq_true rfl⟩ ⟨rfl, _, rfl, t_fg h y mo⟩
set_option maxRecDepth 100000 in
set_option maxHeartbeats 2000000 in
theorem m_manyAboardIn {G : tg_G} {l : List tg_Cl} {h : tp_H} {y : tp_Y} (hw : wfH h) (k : Nat) (hk : k < 2 ^ 31) : tg_C G 8 mX11_manyAboardIn 0 0 [.ref 64, .int (nI k)] (l, tm_cs h y) (fun v w => v = some (.int (abM (pNs k h))) ∧ ∃ y2, w = (l, tm_cs h y2) ∧ yk 78 y y2) := by
  have hm := hw.1
  refine tg_intro okX11_manyAboardIn (Nat.le_of_ble_eq_true rfl) ?_
  refine tg_steps 2 rfl ?_
  refine tg_callV rfl (m_aboardIn hw k hk) rfl rfl rfl rfl rfl (fun v2 w2 q2 => ?_)
  obtain ⟨rfl, y2, rfl, e2⟩ := q2
  refine tg_call1 rfl (m_bits _) rfl rfl rfl  (fun v5 w5 q5 => ?_)
  obtain ⟨rfl, rfl⟩ := q5
  rw [bt_m (pm7 hm k), ab_fold]
  exact tg_iret (st := []) rfl rfl ⟨Nat.le_of_ble_eq_true rfl, Nat.le_of_ble_eq_true rfl⟩ ⟨rfl, _, rfl, e2⟩
set_option maxRecDepth 100000 in
set_option maxHeartbeats 2000000 in
theorem m_comesWhen {G : tg_G} {l : List tg_Cl} {h : tp_H} {y : tp_Y} (hw : wfH h) (j : Nat) (hj : j < hM h) (t : Int32) : tg_C G 6 mX11_comesWhen 0 0 [.ref 64, .int (nI j), .int t] (l, tm_cs h y) (fun v w => v = some (.int (aFir h (nI j) t)) ∧ ∃ y2, w = (l, tm_cs h y2) ∧ yk 78 y y2) := by
  have hm := hw.1
  refine tg_intro okX11_comesWhen (Nat.le_of_ble_eq_true rfl) ?_
  refine tg_steps 1 rfl ?_
  refine tg_callV rfl (m_thinks) rfl rfl rfl rfl rfl (fun v1 w1 q1 => ?_)
  obtain ⟨rfl, rfl⟩ := q1
  refine tg_steps 4 rfl ?_
  refine tg_pkV [0, 1, 2, 3, 4] ?_
  refine tg_eqS (L2 := [(0, .ref 64), (1, .int (nI j)), (2, .int t), (3, .int (fo (fA h (nI j) t) nI (0))), (4, .int (nI (0)))]) (st2 := []) (w2 := (l, tm_cs h (zMo (thY h y) (yMo (thY h y))))) rfl rfl (by rw [w_Mo0]; rfl) ?_
  refine tg_down (φ := fun i : Nat => ∀ (mo : Int32), tg_V G 6 mX11_comesWhen 0 0 0 0 (fun v w => v = some (.int (aFir h (nI j) t)) ∧ ∃ y2, w = (l, tm_cs h y2) ∧ yk 78 y y2) 10 [(0, .ref 64), (1, .int (nI j)), (2, .int t), (3, .int (fo (fA h (nI j) t) nI (i))), (4, .int (nI (i)))] [] (l, tm_cs (pNs (i) h) (zMo (thY h y) mo))) (n := 61) ?_ ?_ 0 (Nat.zero_le _) (yMo (thY h y)) 
  · intro mo
    refine tg_steps 2 rfl ?_
    refine tg_icgt rfl rfl (fun h14 => ?_) (fun h14 => ?_)
    · refine tg_steps 1 rfl ?_
      refine tg_callV rfl (m_forgets (g := h) (hld_thm h y mo)) rfl rfl rfl rfl rfl (fun v50 w50 q50 => ?_)
      obtain ⟨rfl, rfl⟩ := q50
      refine tg_steps 1 rfl ?_
      exact tg_iret (st := []) rfl rfl ⟨Nat.le_of_ble_eq_true rfl, Nat.le_of_ble_eq_true rfl⟩ ⟨by rw [fo_nI (n := 61) (by decide)]; rfl, _, rfl, t_fg h y mo⟩
    · exact absurd (by decide) h14
  · intro i hi10 ih10 mo
    refine tg_steps 2 rfl ?_
    refine tg_icgt rfl rfl (fun h14 => ?_) (fun h14 => ?_)
    · exact absurd h14 (nI_nlt (a := 60) (b := i) (by omega) (by decide))
    · refine tg_steps 1 rfl ?_
      refine tg_ifge rfl rfl (fun h18 => ?_) (fun h18 => ?_)
      · have hend : fo (fA h (nI j) t) nI 61 = fo (fA h (nI j) t) nI i := by
          have := fo_stop (p := fA h (nI j) t) (v := nI) (Int32.not_lt.mpr h18) (61 - i)
          rw [show i + (61 - i) = 61 by omega] at this
          exact this
        refine tg_steps 1 rfl ?_
        refine tg_callV rfl (m_forgets (g := h) (hld_thm h y mo)) rfl rfl rfl rfl rfl (fun v50 w50 q50 => ?_)
        obtain ⟨rfl, rfl⟩ := q50
        refine tg_steps 1 rfl ?_
        exact tg_iret (st := []) rfl rfl ⟨Nat.le_of_ble_eq_true rfl, Nat.le_of_ble_eq_true rfl⟩ ⟨by rw [← hend, fo_nI (n := 61) (by decide)]; rfl, _, rfl, t_fg h y mo⟩
      · have hlt : fo (fA h (nI j) t) nI i < 0 := Int32.not_le.mp h18
        refine tg_steps 3 rfl ?_
        refine tg_ialdN rfl rfl (j) rfl (by omega) (by decide) ?_
        refine tg_steps 1 rfl ?_
        refine tg_icne rfl rfl (fun h28 => ?_) (fun h28 => ?_)
        · refine tg_steps 3 rfl ?_
          refine tg_callV rfl (m_goesNight (y := zMo (thY h y) mo) (wf_pNs hw i)) rfl rfl rfl rfl rfl (fun v40 w40 q40 => ?_)
          obtain ⟨rfl, rfl⟩ := q40
          rw [w_MoMo]
          refine tg_steps 2 rfl ?_
          refine tg_pkV [0, 1, 2, 3, 4] ?_
          refine tg_eqS (L2 := [(0, .ref 64), (1, .int (nI j)), (2, .int t), (3, .int (fo (fA h (nI j) t) nI (i + 1))), (4, .int (nI (i + 1)))]) (st2 := []) (w2 := _) (by first | (simp (decide := true) only [nI_succ, fo_succ, pNs_succ, fA, gT_j hm hj, decide_true, decide_false, cond_true, cond_false, Bool.false_eq_true, if_true, if_false, ite_true, ite_false, hlt, h28]; done) | (simp (decide := true) only [nI_succ, fo_succ, pNs_succ, fA, gT_j hm hj, decide_true, decide_false, cond_true, cond_false, Bool.false_eq_true, if_true, if_false, ite_true, ite_false, hlt, h28]; rfl) | rfl) rfl rfl ?_
          exact ih10 _
        · refine tg_steps 4 rfl ?_
          refine tg_callV rfl (m_goesNight (y := zMo (thY h y) mo) (wf_pNs hw i)) rfl rfl rfl rfl rfl (fun v40 w40 q40 => ?_)
          obtain ⟨rfl, rfl⟩ := q40
          rw [w_MoMo]
          refine tg_steps 2 rfl ?_
          refine tg_pkV [0, 1, 2, 3, 4] ?_
          refine tg_eqS (L2 := [(0, .ref 64), (1, .int (nI j)), (2, .int t), (3, .int (fo (fA h (nI j) t) nI (i + 1))), (4, .int (nI (i + 1)))]) (st2 := []) (w2 := _) (by first | (simp (decide := true) only [nI_succ, fo_succ, pNs_succ, fA, gT_j hm hj, decide_true, decide_false, cond_true, cond_false, Bool.false_eq_true, if_true, if_false, ite_true, ite_false, hlt, eq_true h28]; done) | (simp (decide := true) only [nI_succ, fo_succ, pNs_succ, fA, gT_j hm hj, decide_true, decide_false, cond_true, cond_false, Bool.false_eq_true, if_true, if_false, ite_true, ite_false, hlt, eq_true h28]; rfl) | rfl) rfl rfl ?_
          exact ih10 _
def fbM (h : tp_H) : Nat → Int32 × Int32
  | 0 => (-9, 61)
  | i + 1 => if aFir h (nI i) (hS h) < 0 then fbM h i else if aFir h (nI i) (hS h) < (fbM h i).2 then (nI i, aFir h (nI i) (hS h)) else fbM h i
theorem fbM_succ (h : tp_H) (i : Nat) : fbM h (i + 1) = if aFir h (nI i) (hS h) < 0 then fbM h i else if aFir h (nI i) (hS h) < (fbM h i).2 then (nI i, aFir h (nI i) (hS h)) else fbM h i := rfl
def alV (h : tp_H) : Nat → Nat → Int32 → Int32
  | 0, _, m => m
  | d + 1, i, m => if aFir h (nI i) (hS h) < 0 then -9 else alV h d (i + 1) (if aFir h (nI i) (hS h) ≤ m then m else aFir h (nI i) (hS h))
theorem alV_succ (h : tp_H) (d i : Nat) (m : Int32) : alV h (d + 1) i m = if aFir h (nI i) (hS h) < 0 then -9 else alV h d (i + 1) (if aFir h (nI i) (hS h) ≤ m then m else aFir h (nI i) (hS h)) := rfl
set_option maxRecDepth 100000 in
set_option maxHeartbeats 2000000 in
theorem m_firstAboard {G : tg_G} {l : List tg_Cl} {h : tp_H} {y : tp_Y} (hw : wfH h) : tg_C G 7 mX11_firstAboard 0 0 [.ref 64] (l, tm_cs h y) (fun v w => v = some (.int ((fbM h (hM h)).1)) ∧ ∃ y2, w = (l, tm_cs h y2) ∧ yk 78 y y2) := by
  have hm := hw.1
  refine tg_intro okX11_firstAboard (Nat.le_of_ble_eq_true rfl) ?_
  refine tg_steps 6 rfl ?_
  refine tg_pkV [0, 1, 2, 3] ?_
  refine tg_eqS (L2 := [(0, .ref 64), (1, .int (fbM h (0)).1), (2, .int (fbM h (0)).2), (3, .int (nI (0)))]) (st2 := []) (w2 := (l, tm_cs h y)) rfl rfl rfl ?_
  refine tg_down (φ := fun i : Nat => ∀ (y2 : tp_Y) (e2 : yk 78 y y2), tg_V G 7 mX11_firstAboard 0 0 0 0 (fun v w => v = some (.int ((fbM h (hM h)).1)) ∧ ∃ y2, w = (l, tm_cs h y2) ∧ yk 78 y y2) 8 [(0, .ref 64), (1, .int (fbM h (i)).1), (2, .int (fbM h (i)).2), (3, .int (nI (i)))] [] (l, tm_cs h y2)) (n := hM h) ?_ ?_ 0 (Nat.zero_le _) y (yk_rf 78 y) 
  · intro y2 e2
    refine tg_steps 3 rfl ?_
    refine tg_icge rfl rfl (fun h13 => ?_) (fun h13 => ?_)
    · refine tg_steps 1 rfl ?_
      exact tg_iret (st := []) rfl rfl ⟨Nat.le_of_ble_eq_true rfl, Nat.le_of_ble_eq_true rfl⟩ ⟨rfl, _, rfl, e2⟩
    · exact absurd (nI_le (Nat.le_refl _) (by omega)) h13
  · intro i hi8 ih8 y2 e2
    refine tg_steps 3 rfl ?_
    refine tg_icge rfl rfl (fun h13 => ?_) (fun h13 => ?_)
    · exact absurd h13 (nI_ge hi8 (by omega))
    · refine tg_steps 4 rfl ?_
      refine tg_callV rfl (m_comesWhen (y := y2) hw i hi8 (hS h)) rfl rfl rfl rfl rfl (fun v22 w22 q22 => ?_)
      obtain ⟨rfl, y3, rfl, e3⟩ := q22
      refine tg_steps 2 rfl ?_
      refine tg_iflt rfl rfl (fun h29 => ?_) (fun h29 => ?_)
      · refine tg_steps 2 rfl ?_
        refine tg_pkV [0, 1, 2, 3] ?_
        refine tg_eqS (L2 := [(0, .ref 64), (1, .int (fbM h (i + 1)).1), (2, .int (fbM h (i + 1)).2), (3, .int (nI (i + 1)))]) (st2 := []) (w2 := _) (by first | (simp (decide := true) only [nI_succ, fbM_succ, decide_true, decide_false, cond_true, cond_false, Bool.false_eq_true, if_true, if_false, ite_true, ite_false, h29, Int32.not_le.mpr h29]; done) | (simp (decide := true) only [nI_succ, fbM_succ, decide_true, decide_false, cond_true, cond_false, Bool.false_eq_true, if_true, if_false, ite_true, ite_false, h29, Int32.not_le.mpr h29]; rfl) | rfl) rfl rfl ?_
        exact ih8 y3 (yk_tr e2 e3)
      · refine tg_steps 2 rfl ?_
        refine tg_iclt rfl rfl (fun h35 => ?_) (fun h35 => ?_)
        · refine tg_steps 6 rfl ?_
          refine tg_pkV [0, 1, 2, 3] ?_
          refine tg_eqS (L2 := [(0, .ref 64), (1, .int (fbM h (i + 1)).1), (2, .int (fbM h (i + 1)).2), (3, .int (nI (i + 1)))]) (st2 := []) (w2 := _) (by first | (simp (decide := true) only [nI_succ, fbM_succ, decide_true, decide_false, cond_true, cond_false, Bool.false_eq_true, if_true, if_false, ite_true, ite_false, h29, Int32.not_lt.mp h29, h35, Int32.not_le.mpr h35]; done) | (simp (decide := true) only [nI_succ, fbM_succ, decide_true, decide_false, cond_true, cond_false, Bool.false_eq_true, if_true, if_false, ite_true, ite_false, h29, Int32.not_lt.mp h29, h35, Int32.not_le.mpr h35]; rfl) | rfl) rfl rfl ?_
          exact ih8 y3 (yk_tr e2 e3)
        · refine tg_steps 3 rfl ?_
          refine tg_pkV [0, 1, 2, 3] ?_
          refine tg_eqS (L2 := [(0, .ref 64), (1, .int (fbM h (i + 1)).1), (2, .int (fbM h (i + 1)).2), (3, .int (nI (i + 1)))]) (st2 := []) (w2 := _) (by first | (simp (decide := true) only [nI_succ, fbM_succ, decide_true, decide_false, cond_true, cond_false, Bool.false_eq_true, if_true, if_false, ite_true, ite_false, h29, Int32.not_lt.mp h29, h35, Int32.not_lt.mp h35]; done) | (simp (decide := true) only [nI_succ, fbM_succ, decide_true, decide_false, cond_true, cond_false, Bool.false_eq_true, if_true, if_false, ite_true, ite_false, h29, Int32.not_lt.mp h29, h35, Int32.not_lt.mp h35]; rfl) | rfl) rfl rfl ?_
          exact ih8 y3 (yk_tr e2 e3)
set_option maxRecDepth 100000 in
set_option maxHeartbeats 2000000 in
theorem m_allAboard {G : tg_G} {l : List tg_Cl} {h : tp_H} {y : tp_Y} (hw : wfH h) : tg_C G 7 mX11_allAboard 0 0 [.ref 64] (l, tm_cs h y) (fun v w => v = some (.int (alV h (hM h) 0 0)) ∧ ∃ y2, w = (l, tm_cs h y2) ∧ yk 78 y y2) := by
  have hm := hw.1
  refine tg_intro okX11_allAboard (Nat.le_of_ble_eq_true rfl) ?_
  refine tg_steps 4 rfl ?_
  refine tg_pkV [0, 1, 2] ?_
  refine tg_eqS (L2 := [(0, .ref 64), (1, .int 0), (2, .int (nI (0)))]) (st2 := []) (w2 := (l, tm_cs h y)) rfl rfl rfl ?_
  refine tg_down (φ := fun i : Nat => ∀ (y2 : tp_Y) (e2 : yk 78 y y2) (mx : Int32), (alV h (hM h) 0 0 = alV h (hM h - (i)) (i) mx) → tg_V G 7 mX11_allAboard 0 0 0 0 (fun v w => v = some (.int (alV h (hM h) 0 0)) ∧ ∃ y2, w = (l, tm_cs h y2) ∧ yk 78 y y2) 4 [(0, .ref 64), (1, .int mx), (2, .int (nI (i)))] [] (l, tm_cs h y2)) (n := hM h) ?_ ?_ 0 (Nat.zero_le _) y (yk_rf 78 y) 0 (rfl)
  · intro y2 e2 mx
    intro hinv4
    refine tg_steps 3 rfl ?_
    refine tg_icge rfl rfl (fun h9 => ?_) (fun h9 => ?_)
    · refine tg_steps 1 rfl ?_
      exact tg_iret (st := []) rfl rfl ⟨Nat.le_of_ble_eq_true rfl, Nat.le_of_ble_eq_true rfl⟩ ⟨by rw [hinv4, Nat.sub_self]; rfl, _, rfl, e2⟩
    · exact absurd (nI_le (Nat.le_refl _) (by omega)) h9
  · intro i hi4 ih4 y2 e2 mx hinv4
    rw [show hM h - i = hM h - (i + 1) + 1 by omega, alV_succ h (hM h - (i + 1)) i] at hinv4
    refine tg_steps 3 rfl ?_
    refine tg_icge rfl rfl (fun h9 => ?_) (fun h9 => ?_)
    · exact absurd h9 (nI_ge hi4 (by omega))
    · refine tg_steps 4 rfl ?_
      refine tg_callV rfl (m_comesWhen (y := y2) hw i hi4 (hS h)) rfl rfl rfl rfl rfl (fun v18 w18 q18 => ?_)
      obtain ⟨rfl, y3, rfl, e3⟩ := q18
      refine tg_steps 2 rfl ?_
      refine tg_ifge rfl rfl (fun h23 => ?_) (fun h23 => ?_)
      · refine tg_steps 2 rfl ?_
        refine tg_icle rfl rfl (fun h31 => ?_) (fun h31 => ?_)
        · refine tg_steps 4 rfl ?_
          refine tg_pkV [0, 1, 2] ?_
          refine tg_eqS (L2 := [(0, .ref 64), (1, .int (if aFir h (nI i) (hS h) ≤ mx then mx else aFir h (nI i) (hS h))), (2, .int (nI (i + 1)))]) (st2 := []) (w2 := _) (by first | (simp (decide := true) only [nI_succ, decide_true, decide_false, cond_true, cond_false, Bool.false_eq_true, if_true, if_false, ite_true, ite_false, h23, Int32.not_lt.mpr h23, h31, Int32.not_lt.mpr h31]; done) | (simp (decide := true) only [nI_succ, decide_true, decide_false, cond_true, cond_false, Bool.false_eq_true, if_true, if_false, ite_true, ite_false, h23, Int32.not_lt.mpr h23, h31, Int32.not_lt.mpr h31]; rfl) | rfl) rfl rfl ?_
          exact ih4 y3 (yk_tr e2 e3) _ (by rw [if_neg (Int32.not_lt.mpr h23)] at hinv4; exact hinv4)
        · refine tg_steps 5 rfl ?_
          refine tg_pkV [0, 1, 2] ?_
          refine tg_eqS (L2 := [(0, .ref 64), (1, .int (if aFir h (nI i) (hS h) ≤ mx then mx else aFir h (nI i) (hS h))), (2, .int (nI (i + 1)))]) (st2 := []) (w2 := _) (by first | (simp (decide := true) only [nI_succ, decide_true, decide_false, cond_true, cond_false, Bool.false_eq_true, if_true, if_false, ite_true, ite_false, h23, Int32.not_lt.mpr h23, h31, Int32.not_le.mp h31]; done) | (simp (decide := true) only [nI_succ, decide_true, decide_false, cond_true, cond_false, Bool.false_eq_true, if_true, if_false, ite_true, ite_false, h23, Int32.not_lt.mpr h23, h31, Int32.not_le.mp h31]; rfl) | rfl) rfl rfl ?_
          exact ih4 y3 (yk_tr e2 e3) _ (by rw [if_neg (Int32.not_lt.mpr h23)] at hinv4; exact hinv4)
      · refine tg_steps 1 rfl ?_
        exact tg_iret (st := []) rfl rfl ⟨Nat.le_of_ble_eq_true rfl, Nat.le_of_ble_eq_true rfl⟩ ⟨by simp only [decide_true, decide_false, cond_true, cond_false, Bool.false_eq_true, if_true, if_false, ite_true, ite_false, h23, Int32.not_le.mp h23] at hinv4; rw [hinv4], _, rfl, yk_tr e2 e3⟩
