/-! contracts of the reference: what is kept and put back -/
def mxS (o : Nat) (f K : tp_A) : Nat → tp_A
  | 0 => K
  | i + 1 => tg_u (mxS o f K i) (o + i) (f i)
theorem mxS_succ (o : Nat) (f K : tp_A) (i : Nat) : mxS o f K (i + 1) = tg_u (mxS o f K i) (o + i) (f i) := rfl
theorem mxS_in (o : Nat) (f K : tp_A) : ∀ {n i : Nat}, i < n → mxS o f K n (o + i) = f i := by
  intro n
  induction n with
  | zero => intro i h; omega
  | succ n ih =>
    intro i h
    rw [mxS_succ, tg_u_eq]
    by_cases e : i = n
    · rw [e, if_pos rfl]
    · rw [if_neg (by omega)]; exact ih (by omega)
theorem mxS_out (o : Nat) (f K : tp_A) {j : Nat} : ∀ {n : Nat}, (j < o ∨ o + n ≤ j) → mxS o f K n j = K j := by
  intro n
  induction n with
  | zero => intro h; rfl
  | succ n ih =>
    intro h
    rw [mxS_succ, tg_u_eq, if_neg (by omega)]
    exact ih (by omega)
def rdS (K : tp_A) (c : Nat) (f : tp_A) : Nat → tp_A
  | 0 => f
  | i + 1 => tg_u (rdS K c f i) i (K (c + i))
theorem rdS_succ (K : tp_A) (c : Nat) (f : tp_A) (i : Nat) : rdS K c f (i + 1) = tg_u (rdS K c f i) i (K (c + i)) := rfl
theorem rdS_in (K : tp_A) (c : Nat) (f : tp_A) : ∀ {n i : Nat}, i < n → rdS K c f n i = K (c + i) := by
  intro n
  induction n with
  | zero => intro i h; omega
  | succ n ih =>
    intro i h
    rw [rdS_succ, tg_u_eq]
    by_cases e : i = n
    · rw [e, if_pos rfl]
    · rw [if_neg e]; exact ih (by omega)
def sv1 (h : tp_H) (K : tp_A) (o : Nat) : tp_A := mxS o (hK h) K 7
def sv2 (h : tp_H) (K : tp_A) (o : Nat) : tp_A := mxS (o + 7) (hF h) (sv1 h K o) 7
def sv3 (h : tp_H) (K : tp_A) (o : Nat) : tp_A := mxS (o + 14) (hH h) (sv2 h K o) 7
def sv4 (h : tp_H) (K : tp_A) (o : Nat) : tp_A := mxS (o + 21) (hT h) (sv3 h K o) 7
def sv5 (h : tp_H) (K : tp_A) (o : Nat) : tp_A := mxS (o + 28) (hP h) (sv4 h K o) 7
def sv6 (h : tp_H) (K : tp_A) (o : Nat) : tp_A := tg_u (sv5 h K o) (o + 35) (hC h)
def sv7 (h : tp_H) (K : tp_A) (o : Nat) : tp_A := tg_u (sv6 h K o) (o + 36) (hS h)
def sv8 (h : tp_H) (K : tp_A) (o : Nat) : tp_A := tg_u (sv7 h K o) (o + 37) (nI (hM h))
def svA (h : tp_H) (K : tp_A) (o : Nat) : tp_A := tg_u (sv8 h K o) (o + 38) (hN h)
def hld (K : tp_A) (o : Nat) (g : tp_H) : Prop := (∀ i, i < 7 → K (o + i) = hK g i ∧ K (o + 7 + i) = hF g i ∧ K (o + 14 + i) = hH g i ∧ K (o + 21 + i) = hT g i ∧ K (o + 28 + i) = hP g i) ∧ K (o + 35) = hC g ∧ K (o + 36) = hS g ∧ K (o + 37) = nI (hM g) ∧ K (o + 38) = hN g
theorem svA_5 (h : tp_H) (K : tp_A) (o : Nat) {j : Nat} (hj : j < o + 35) : svA h K o j = sv5 h K o j := by
  unfold svA sv8 sv7 sv6
  rw [tg_u_eq, if_neg (by omega), tg_u_eq, if_neg (by omega), tg_u_eq, if_neg (by omega), tg_u_eq, if_neg (by omega)]
theorem svA_hld (h : tp_H) (K : tp_A) (o : Nat) : hld (svA h K o) o h := by
  refine ⟨fun i hi => ⟨?_, ?_, ?_, ?_, ?_⟩, ?_, ?_, ?_, ?_⟩
  · rw [svA_5 h K o (by omega)]
    unfold sv5 sv4 sv3 sv2 sv1
    rw [mxS_out _ _ _ (Or.inl (by omega)), mxS_out _ _ _ (Or.inl (by omega)), mxS_out _ _ _ (Or.inl (by omega)), mxS_out _ _ _ (Or.inl (by omega)), mxS_in _ _ _ hi]
  · rw [svA_5 h K o (by omega)]
    unfold sv5 sv4 sv3 sv2
    rw [mxS_out _ _ _ (Or.inl (by omega)), mxS_out _ _ _ (Or.inl (by omega)), mxS_out _ _ _ (Or.inl (by omega)), mxS_in _ _ _ hi]
  · rw [svA_5 h K o (by omega)]
    unfold sv5 sv4 sv3
    rw [mxS_out _ _ _ (Or.inl (by omega)), mxS_out _ _ _ (Or.inl (by omega)), mxS_in _ _ _ hi]
  · rw [svA_5 h K o (by omega)]
    unfold sv5 sv4
    rw [mxS_out _ _ _ (Or.inl (by omega)), mxS_in _ _ _ hi]
  · rw [svA_5 h K o (by omega)]
    unfold sv5
    rw [mxS_in _ _ _ hi]
  · unfold svA sv8 sv7 sv6
    rw [tg_u_eq, if_neg (by omega), tg_u_eq, if_neg (by omega), tg_u_eq, if_neg (by omega), tg_u_eq, if_pos rfl]
  · unfold svA sv8 sv7
    rw [tg_u_eq, if_neg (by omega), tg_u_eq, if_neg (by omega), tg_u_eq, if_pos rfl]
  · unfold svA sv8
    rw [tg_u_eq, if_neg (by omega), tg_u_eq, if_pos rfl]
  · unfold svA
    rw [tg_u_eq, if_pos rfl]
theorem svA_out (h : tp_H) (K : tp_A) (o : Nat) {j : Nat} (hj : j < o ∨ o + 39 ≤ j) : svA h K o j = K j := by
  unfold svA sv8 sv7 sv6 sv5 sv4 sv3 sv2 sv1
  rw [tg_u_eq, if_neg (by omega), tg_u_eq, if_neg (by omega), tg_u_eq, if_neg (by omega), tg_u_eq, if_neg (by omega), mxS_out _ _ _ (by omega), mxS_out _ _ _ (by omega), mxS_out _ _ _ (by omega), mxS_out _ _ _ (by omega), mxS_out _ _ _ (by omega)]
theorem hld_eq {K K2 : tp_A} {o : Nat} {g : tp_H} (h : hld K o g) (e : ∀ j, o ≤ j → j < o + 39 → K2 j = K j) : hld K2 o g := by
  obtain ⟨h1, h2, h3, h4, h5⟩ := h
  refine ⟨fun i hi => ?_, ?_, ?_, ?_, ?_⟩
  · obtain ⟨a, b, c, d, f⟩ := h1 i hi
    exact ⟨(e _ (by omega) (by omega)).trans a, (e _ (by omega) (by omega)).trans b, (e _ (by omega) (by omega)).trans c, (e _ (by omega) (by omega)).trans d, (e _ (by omega) (by omega)).trans f⟩
  · exact (e _ (by omega) (by omega)).trans h2
  · exact (e _ (by omega) (by omega)).trans h3
  · exact (e _ (by omega) (by omega)).trans h4
  · exact (e _ (by omega) (by omega)).trans h5
def re1 (h : tp_H) (K : tp_A) (o : Nat) : tp_H := sK h (rdS K o (hK h) 7)
def re2 (h : tp_H) (K : tp_A) (o : Nat) : tp_H := sF (re1 h K o) (rdS K (o + 7) (hF (re1 h K o)) 7)
def re3 (h : tp_H) (K : tp_A) (o : Nat) : tp_H := sH (re2 h K o) (rdS K (o + 14) (hH (re2 h K o)) 7)
def re4 (h : tp_H) (K : tp_A) (o : Nat) : tp_H := sT (re3 h K o) (rdS K (o + 21) (hT (re3 h K o)) 7)
def re5 (h : tp_H) (K : tp_A) (o : Nat) : tp_H := sP (re4 h K o) (rdS K (o + 28) (hP (re4 h K o)) 7)
def re6 (h : tp_H) (K : tp_A) (o : Nat) : tp_H := sC (re5 h K o) (K (o + 35))
def re7 (h : tp_H) (K : tp_A) (o : Nat) : tp_H := sS (re6 h K o) (K (o + 36))
def re8 (h g : tp_H) (K : tp_A) (o : Nat) : tp_H := sM (re7 h K o) (hM g)
def re9 (h g : tp_H) (K : tp_A) (o : Nat) : tp_H := sN (re8 h g K o) (K (o + 38))
theorem mul39 : ∀ q : Nat, q ≤ 2 → 39 * nI q = nI (39 * q) := by
  intro q hq
  have h : ∀ i : Fin 3, 39 * nI i.1 = nI (39 * i.1) := by decide +kernel
  exact h ⟨q, by omega⟩
theorem w_KC (y : tp_Y) (A B : tp_A) (c d : Nat) : zCu (zKe (zCu (zKe y A) c) B) d = zCu (zKe y B) d := by
  obtain ⟨a1, a2, a3, a4, a5, a6, a7, a8, a9, a10, a11, a12, a13, a14, a15, a16, a17⟩ := y
  exact Eq.trans (b := ((a1, a2, a3, a4, a5, a6, a7, a8, B, a10, a11, d, a13, a14, a15, a16, a17) : tp_Y)) rfl rfl
theorem w_CC (y : tp_Y) (c d : Nat) : zCu (zCu y c) d = zCu y d := by
  obtain ⟨a1, a2, a3, a4, a5, a6, a7, a8, a9, a10, a11, a12, a13, a14, a15, a16, a17⟩ := y
  exact Eq.trans (b := ((a1, a2, a3, a4, a5, a6, a7, a8, a9, a10, a11, d, a13, a14, a15, a16, a17) : tp_Y)) rfl rfl
theorem w_KCI (y : tp_Y) (A B : tp_A) (c d : Nat) (b : Bool) : zCu (zKe (zIk (zCu (zKe y A) c) b) B) d = zIk (zCu (zKe y B) d) b := by
  obtain ⟨a1, a2, a3, a4, a5, a6, a7, a8, a9, a10, a11, a12, a13, a14, a15, a16, a17⟩ := y
  exact Eq.trans (b := ((a1, a2, a3, a4, a5, a6, a7, a8, B, a10, b, d, a13, a14, a15, a16, a17) : tp_Y)) rfl rfl
theorem w_CI (y : tp_Y) (c d : Nat) (b : Bool) : zCu (zIk (zCu y c) b) d = zIk (zCu y d) b := by
  obtain ⟨a1, a2, a3, a4, a5, a6, a7, a8, a9, a10, a11, a12, a13, a14, a15, a16, a17⟩ := y
  exact Eq.trans (b := ((a1, a2, a3, a4, a5, a6, a7, a8, a9, a10, b, d, a13, a14, a15, a16, a17) : tp_Y)) rfl rfl
theorem w_Ke0 (y : tp_Y) : zKe y (yKe y) = y := by
  obtain ⟨a1, a2, a3, a4, a5, a6, a7, a8, a9, a10, a11, a12, a13, a14, a15, a16, a17⟩ := y
  exact Eq.trans (b := ((a1, a2, a3, a4, a5, a6, a7, a8, a9, a10, a11, a12, a13, a14, a15, a16, a17) : tp_Y)) rfl rfl
theorem sC_id (h : tp_H) : sC h (hC h) = h := rfl
theorem sS_id (h : tp_H) : sS h (hS h) = h := rfl
theorem sM_id (h : tp_H) : sM h (hM h) = h := rfl
theorem sN_id0 (h : tp_H) : sN h (hN h) = h := rfl

set_option maxRecDepth 100000 in
set_option maxHeartbeats 2000000 in
theorem m_passK_K {G : tg_G} {l : List tg_Cl} {h : tp_H} {y : tp_Y} (ho : yCu y + 7 ≤ 117) (hi : yIk y = true) : tg_C G 1 mX11_passes 0 0 [.ref 64, .ref 66] (l, tm_cs h y) (fun v w => v = none ∧ w = (l, tm_cs h (zCu (zKe y (mxS (yCu y) (hK h) (yKe y) (7))) (yCu y + (7))))) := by
  refine tg_intro okX11_passes (Nat.le_of_ble_eq_true rfl) ?_
  refine tg_steps 2 rfl ?_
  refine tg_pkV [0, 1, 2] ?_
  refine tg_eqS (L2 := [(0, .ref 64), (1, .ref 66), (2, .int (nI (0)))]) (st2 := []) (w2 := (l, tm_cs h (zCu (zKe y (mxS (yCu y) (hK h) (yKe y) (0))) (yCu y + (0))))) rfl rfl rfl ?_
  refine tg_down (φ := fun i : Nat => tg_V G 1 mX11_passes 0 0 0 0 (fun v w => v = none ∧ w = (l, tm_cs h (zCu (zKe y (mxS (yCu y) (hK h) (yKe y) (7))) (yCu y + (7))))) 2 [(0, .ref 64), (1, .ref 66), (2, .int (nI (i)))] [] (l, tm_cs h (zCu (zKe y (mxS (yCu y) (hK h) (yKe y) (i))) (yCu y + (i))))) (n := 7) ?_ ?_ 0 (Nat.zero_le _) 
  · refine tg_steps 3 rfl ?_
    refine tg_icge rfl rfl (fun h5 => ?_) (fun h5 => ?_)
    · exact tg_vret (st := []) rfl rfl ⟨Nat.le_of_ble_eq_true rfl, Nat.le_of_ble_eq_true rfl⟩ ⟨rfl, rfl⟩
    · exact absurd (nI_le (Nat.le_refl _) (by omega)) h5
  · intro i hi2 ih2
    refine tg_steps 3 rfl ?_
    refine tg_icge rfl rfl (fun h5 => ?_) (fun h5 => ?_)
    · exact absurd h5 (nI_ge hi2 (by omega))
    · refine tg_steps 2 rfl ?_
      refine tg_ifbeq rfl rfl (fun h12 => ?_) (fun h12 => ?_)
      · exact absurd (hi.symm.trans h12) (by decide)
      · refine tg_steps 6 rfl ?_
        refine tg_ialdN rfl rfl (i) rfl (by omega) (by decide) ?_
        refine tg_iastN rfl rfl (yCu y + i) rfl (by omega) (by decide) ?_
        refine tg_eqW (m_Ke _) ?_
        refine tg_steps 7 rfl ?_
        rw [g_CuKe, g_CuCu, nI_p1]
        refine tg_eqW (m_Cu _) ?_
        rw [w_KC, g_KeCu, g_KeKe]
        refine tg_steps 2 rfl ?_
        refine tg_pkV [0, 1, 2] ?_
        refine tg_eqS (L2 := [(0, .ref 64), (1, .ref 66), (2, .int (nI (i + 1)))]) (st2 := []) (w2 := (l, tm_cs h (zCu (zKe y (mxS (yCu y) (hK h) (yKe y) (i + 1))) (yCu y + (i + 1))))) (by first | (simp (decide := true) only [nI_succ, decide_true, decide_false, cond_true, cond_false, Bool.false_eq_true, if_true, if_false, ite_true, ite_false]; done) | (simp (decide := true) only [nI_succ, decide_true, decide_false, cond_true, cond_false, Bool.false_eq_true, if_true, if_false, ite_true, ite_false]; rfl) | rfl) rfl rfl ?_
        exact ih2
set_option maxRecDepth 100000 in
set_option maxHeartbeats 2000000 in
theorem m_passR_K {G : tg_G} {l : List tg_Cl} {h : tp_H} {y : tp_Y} (ho : yCu y + 7 ≤ 117) (hi : yIk y = false) : tg_C G 1 mX11_passes 0 0 [.ref 64, .ref 66] (l, tm_cs h y) (fun v w => v = none ∧ w = (l, tm_cs (sK h (rdS (yKe y) (yCu y) (hK h) (7))) (zCu y (yCu y + (7))))) := by
  refine tg_intro okX11_passes (Nat.le_of_ble_eq_true rfl) ?_
  refine tg_steps 2 rfl ?_
  refine tg_pkV [0, 1, 2] ?_
  refine tg_eqS (L2 := [(0, .ref 64), (1, .ref 66), (2, .int (nI (0)))]) (st2 := []) (w2 := (l, tm_cs (sK h (rdS (yKe y) (yCu y) (hK h) (0))) (zCu y (yCu y + (0))))) rfl rfl rfl ?_
  refine tg_down (φ := fun i : Nat => tg_V G 1 mX11_passes 0 0 0 0 (fun v w => v = none ∧ w = (l, tm_cs (sK h (rdS (yKe y) (yCu y) (hK h) (7))) (zCu y (yCu y + (7))))) 2 [(0, .ref 64), (1, .ref 66), (2, .int (nI (i)))] [] (l, tm_cs (sK h (rdS (yKe y) (yCu y) (hK h) (i))) (zCu y (yCu y + (i))))) (n := 7) ?_ ?_ 0 (Nat.zero_le _) 
  · refine tg_steps 3 rfl ?_
    refine tg_icge rfl rfl (fun h5 => ?_) (fun h5 => ?_)
    · exact tg_vret (st := []) rfl rfl ⟨Nat.le_of_ble_eq_true rfl, Nat.le_of_ble_eq_true rfl⟩ ⟨rfl, rfl⟩
    · exact absurd (nI_le (Nat.le_refl _) (by omega)) h5
  · intro i hi2 ih2
    refine tg_steps 3 rfl ?_
    refine tg_icge rfl rfl (fun h5 => ?_) (fun h5 => ?_)
    · exact absurd h5 (nI_ge hi2 (by omega))
    · refine tg_steps 2 rfl ?_
      refine tg_ifbeq rfl rfl (fun h12 => ?_) (fun h12 => ?_)
      · refine tg_steps 6 rfl ?_
        refine tg_ialdN rfl rfl (yCu y + i) rfl (by omega) (by decide) ?_
        refine tg_iastN rfl rfl (i) rfl (by omega) (by decide) ?_
        refine tg_eqW (m_K _) ?_
        refine tg_steps 6 rfl ?_
        rw [g_CuCu, nI_p1]
        refine tg_eqW (m_Cu _) ?_
        rw [w_CC, g_KeCu]
        refine tg_steps 2 rfl ?_
        refine tg_pkV [0, 1, 2] ?_
        refine tg_eqS (L2 := [(0, .ref 64), (1, .ref 66), (2, .int (nI (i + 1)))]) (st2 := []) (w2 := (l, tm_cs (sK h (rdS (yKe y) (yCu y) (hK h) (i + 1))) (zCu y (yCu y + (i + 1))))) (by first | (simp (decide := true) only [nI_succ, decide_true, decide_false, cond_true, cond_false, Bool.false_eq_true, if_true, if_false, ite_true, ite_false]; done) | (simp (decide := true) only [nI_succ, decide_true, decide_false, cond_true, cond_false, Bool.false_eq_true, if_true, if_false, ite_true, ite_false]; rfl) | rfl) rfl rfl ?_
        exact ih2
      · exact absurd (hi.symm.trans h12) (by decide)
set_option maxRecDepth 100000 in
set_option maxHeartbeats 2000000 in
theorem m_passK_F {G : tg_G} {l : List tg_Cl} {h : tp_H} {y : tp_Y} (ho : yCu y + 7 ≤ 117) (hi : yIk y = true) : tg_C G 1 mX11_passes 0 0 [.ref 64, .ref 67] (l, tm_cs h y) (fun v w => v = none ∧ w = (l, tm_cs h (zCu (zKe y (mxS (yCu y) (hF h) (yKe y) (7))) (yCu y + (7))))) := by
  refine tg_intro okX11_passes (Nat.le_of_ble_eq_true rfl) ?_
  refine tg_steps 2 rfl ?_
  refine tg_pkV [0, 1, 2] ?_
  refine tg_eqS (L2 := [(0, .ref 64), (1, .ref 67), (2, .int (nI (0)))]) (st2 := []) (w2 := (l, tm_cs h (zCu (zKe y (mxS (yCu y) (hF h) (yKe y) (0))) (yCu y + (0))))) rfl rfl rfl ?_
  refine tg_down (φ := fun i : Nat => tg_V G 1 mX11_passes 0 0 0 0 (fun v w => v = none ∧ w = (l, tm_cs h (zCu (zKe y (mxS (yCu y) (hF h) (yKe y) (7))) (yCu y + (7))))) 2 [(0, .ref 64), (1, .ref 67), (2, .int (nI (i)))] [] (l, tm_cs h (zCu (zKe y (mxS (yCu y) (hF h) (yKe y) (i))) (yCu y + (i))))) (n := 7) ?_ ?_ 0 (Nat.zero_le _) 
  · refine tg_steps 3 rfl ?_
    refine tg_icge rfl rfl (fun h5 => ?_) (fun h5 => ?_)
    · exact tg_vret (st := []) rfl rfl ⟨Nat.le_of_ble_eq_true rfl, Nat.le_of_ble_eq_true rfl⟩ ⟨rfl, rfl⟩
    · exact absurd (nI_le (Nat.le_refl _) (by omega)) h5
  · intro i hi2 ih2
    refine tg_steps 3 rfl ?_
    refine tg_icge rfl rfl (fun h5 => ?_) (fun h5 => ?_)
    · exact absurd h5 (nI_ge hi2 (by omega))
    · refine tg_steps 2 rfl ?_
      refine tg_ifbeq rfl rfl (fun h12 => ?_) (fun h12 => ?_)
      · exact absurd (hi.symm.trans h12) (by decide)
      · refine tg_steps 6 rfl ?_
        refine tg_ialdN rfl rfl (i) rfl (by omega) (by decide) ?_
        refine tg_iastN rfl rfl (yCu y + i) rfl (by omega) (by decide) ?_
        refine tg_eqW (m_Ke _) ?_
        refine tg_steps 7 rfl ?_
        rw [g_CuKe, g_CuCu, nI_p1]
        refine tg_eqW (m_Cu _) ?_
        rw [w_KC, g_KeCu, g_KeKe]
        refine tg_steps 2 rfl ?_
        refine tg_pkV [0, 1, 2] ?_
        refine tg_eqS (L2 := [(0, .ref 64), (1, .ref 67), (2, .int (nI (i + 1)))]) (st2 := []) (w2 := (l, tm_cs h (zCu (zKe y (mxS (yCu y) (hF h) (yKe y) (i + 1))) (yCu y + (i + 1))))) (by first | (simp (decide := true) only [nI_succ, decide_true, decide_false, cond_true, cond_false, Bool.false_eq_true, if_true, if_false, ite_true, ite_false]; done) | (simp (decide := true) only [nI_succ, decide_true, decide_false, cond_true, cond_false, Bool.false_eq_true, if_true, if_false, ite_true, ite_false]; rfl) | rfl) rfl rfl ?_
        exact ih2
set_option maxRecDepth 100000 in
set_option maxHeartbeats 2000000 in
theorem m_passR_F {G : tg_G} {l : List tg_Cl} {h : tp_H} {y : tp_Y} (ho : yCu y + 7 ≤ 117) (hi : yIk y = false) : tg_C G 1 mX11_passes 0 0 [.ref 64, .ref 67] (l, tm_cs h y) (fun v w => v = none ∧ w = (l, tm_cs (sF h (rdS (yKe y) (yCu y) (hF h) (7))) (zCu y (yCu y + (7))))) := by
  refine tg_intro okX11_passes (Nat.le_of_ble_eq_true rfl) ?_
  refine tg_steps 2 rfl ?_
  refine tg_pkV [0, 1, 2] ?_
  refine tg_eqS (L2 := [(0, .ref 64), (1, .ref 67), (2, .int (nI (0)))]) (st2 := []) (w2 := (l, tm_cs (sF h (rdS (yKe y) (yCu y) (hF h) (0))) (zCu y (yCu y + (0))))) rfl rfl rfl ?_
  refine tg_down (φ := fun i : Nat => tg_V G 1 mX11_passes 0 0 0 0 (fun v w => v = none ∧ w = (l, tm_cs (sF h (rdS (yKe y) (yCu y) (hF h) (7))) (zCu y (yCu y + (7))))) 2 [(0, .ref 64), (1, .ref 67), (2, .int (nI (i)))] [] (l, tm_cs (sF h (rdS (yKe y) (yCu y) (hF h) (i))) (zCu y (yCu y + (i))))) (n := 7) ?_ ?_ 0 (Nat.zero_le _) 
  · refine tg_steps 3 rfl ?_
    refine tg_icge rfl rfl (fun h5 => ?_) (fun h5 => ?_)
    · exact tg_vret (st := []) rfl rfl ⟨Nat.le_of_ble_eq_true rfl, Nat.le_of_ble_eq_true rfl⟩ ⟨rfl, rfl⟩
    · exact absurd (nI_le (Nat.le_refl _) (by omega)) h5
  · intro i hi2 ih2
    refine tg_steps 3 rfl ?_
    refine tg_icge rfl rfl (fun h5 => ?_) (fun h5 => ?_)
    · exact absurd h5 (nI_ge hi2 (by omega))
    · refine tg_steps 2 rfl ?_
      refine tg_ifbeq rfl rfl (fun h12 => ?_) (fun h12 => ?_)
      · refine tg_steps 6 rfl ?_
        refine tg_ialdN rfl rfl (yCu y + i) rfl (by omega) (by decide) ?_
        refine tg_iastN rfl rfl (i) rfl (by omega) (by decide) ?_
        refine tg_eqW (m_F _) ?_
        refine tg_steps 6 rfl ?_
        rw [g_CuCu, nI_p1]
        refine tg_eqW (m_Cu _) ?_
        rw [w_CC, g_KeCu]
        refine tg_steps 2 rfl ?_
        refine tg_pkV [0, 1, 2] ?_
        refine tg_eqS (L2 := [(0, .ref 64), (1, .ref 67), (2, .int (nI (i + 1)))]) (st2 := []) (w2 := (l, tm_cs (sF h (rdS (yKe y) (yCu y) (hF h) (i + 1))) (zCu y (yCu y + (i + 1))))) (by first | (simp (decide := true) only [nI_succ, decide_true, decide_false, cond_true, cond_false, Bool.false_eq_true, if_true, if_false, ite_true, ite_false]; done) | (simp (decide := true) only [nI_succ, decide_true, decide_false, cond_true, cond_false, Bool.false_eq_true, if_true, if_false, ite_true, ite_false]; rfl) | rfl) rfl rfl ?_
        exact ih2
      · exact absurd (hi.symm.trans h12) (by decide)
set_option maxRecDepth 100000 in
set_option maxHeartbeats 2000000 in
theorem m_passK_H {G : tg_G} {l : List tg_Cl} {h : tp_H} {y : tp_Y} (ho : yCu y + 7 ≤ 117) (hi : yIk y = true) : tg_C G 1 mX11_passes 0 0 [.ref 64, .ref 68] (l, tm_cs h y) (fun v w => v = none ∧ w = (l, tm_cs h (zCu (zKe y (mxS (yCu y) (hH h) (yKe y) (7))) (yCu y + (7))))) := by
  refine tg_intro okX11_passes (Nat.le_of_ble_eq_true rfl) ?_
  refine tg_steps 2 rfl ?_
  refine tg_pkV [0, 1, 2] ?_
  refine tg_eqS (L2 := [(0, .ref 64), (1, .ref 68), (2, .int (nI (0)))]) (st2 := []) (w2 := (l, tm_cs h (zCu (zKe y (mxS (yCu y) (hH h) (yKe y) (0))) (yCu y + (0))))) rfl rfl rfl ?_
  refine tg_down (φ := fun i : Nat => tg_V G 1 mX11_passes 0 0 0 0 (fun v w => v = none ∧ w = (l, tm_cs h (zCu (zKe y (mxS (yCu y) (hH h) (yKe y) (7))) (yCu y + (7))))) 2 [(0, .ref 64), (1, .ref 68), (2, .int (nI (i)))] [] (l, tm_cs h (zCu (zKe y (mxS (yCu y) (hH h) (yKe y) (i))) (yCu y + (i))))) (n := 7) ?_ ?_ 0 (Nat.zero_le _) 
  · refine tg_steps 3 rfl ?_
    refine tg_icge rfl rfl (fun h5 => ?_) (fun h5 => ?_)
    · exact tg_vret (st := []) rfl rfl ⟨Nat.le_of_ble_eq_true rfl, Nat.le_of_ble_eq_true rfl⟩ ⟨rfl, rfl⟩
    · exact absurd (nI_le (Nat.le_refl _) (by omega)) h5
  · intro i hi2 ih2
    refine tg_steps 3 rfl ?_
    refine tg_icge rfl rfl (fun h5 => ?_) (fun h5 => ?_)
    · exact absurd h5 (nI_ge hi2 (by omega))
    · refine tg_steps 2 rfl ?_
      refine tg_ifbeq rfl rfl (fun h12 => ?_) (fun h12 => ?_)
      · exact absurd (hi.symm.trans h12) (by decide)
      · refine tg_steps 6 rfl ?_
        refine tg_ialdN rfl rfl (i) rfl (by omega) (by decide) ?_
        refine tg_iastN rfl rfl (yCu y + i) rfl (by omega) (by decide) ?_
        refine tg_eqW (m_Ke _) ?_
        refine tg_steps 7 rfl ?_
        rw [g_CuKe, g_CuCu, nI_p1]
        refine tg_eqW (m_Cu _) ?_
        rw [w_KC, g_KeCu, g_KeKe]
        refine tg_steps 2 rfl ?_
        refine tg_pkV [0, 1, 2] ?_
        refine tg_eqS (L2 := [(0, .ref 64), (1, .ref 68), (2, .int (nI (i + 1)))]) (st2 := []) (w2 := (l, tm_cs h (zCu (zKe y (mxS (yCu y) (hH h) (yKe y) (i + 1))) (yCu y + (i + 1))))) (by first | (simp (decide := true) only [nI_succ, decide_true, decide_false, cond_true, cond_false, Bool.false_eq_true, if_true, if_false, ite_true, ite_false]; done) | (simp (decide := true) only [nI_succ, decide_true, decide_false, cond_true, cond_false, Bool.false_eq_true, if_true, if_false, ite_true, ite_false]; rfl) | rfl) rfl rfl ?_
        exact ih2
set_option maxRecDepth 100000 in
set_option maxHeartbeats 2000000 in
theorem m_passR_H {G : tg_G} {l : List tg_Cl} {h : tp_H} {y : tp_Y} (ho : yCu y + 7 ≤ 117) (hi : yIk y = false) : tg_C G 1 mX11_passes 0 0 [.ref 64, .ref 68] (l, tm_cs h y) (fun v w => v = none ∧ w = (l, tm_cs (sH h (rdS (yKe y) (yCu y) (hH h) (7))) (zCu y (yCu y + (7))))) := by
  refine tg_intro okX11_passes (Nat.le_of_ble_eq_true rfl) ?_
  refine tg_steps 2 rfl ?_
  refine tg_pkV [0, 1, 2] ?_
  refine tg_eqS (L2 := [(0, .ref 64), (1, .ref 68), (2, .int (nI (0)))]) (st2 := []) (w2 := (l, tm_cs (sH h (rdS (yKe y) (yCu y) (hH h) (0))) (zCu y (yCu y + (0))))) rfl rfl rfl ?_
  refine tg_down (φ := fun i : Nat => tg_V G 1 mX11_passes 0 0 0 0 (fun v w => v = none ∧ w = (l, tm_cs (sH h (rdS (yKe y) (yCu y) (hH h) (7))) (zCu y (yCu y + (7))))) 2 [(0, .ref 64), (1, .ref 68), (2, .int (nI (i)))] [] (l, tm_cs (sH h (rdS (yKe y) (yCu y) (hH h) (i))) (zCu y (yCu y + (i))))) (n := 7) ?_ ?_ 0 (Nat.zero_le _) 
  · refine tg_steps 3 rfl ?_
    refine tg_icge rfl rfl (fun h5 => ?_) (fun h5 => ?_)
    · exact tg_vret (st := []) rfl rfl ⟨Nat.le_of_ble_eq_true rfl, Nat.le_of_ble_eq_true rfl⟩ ⟨rfl, rfl⟩
    · exact absurd (nI_le (Nat.le_refl _) (by omega)) h5
  · intro i hi2 ih2
    refine tg_steps 3 rfl ?_
    refine tg_icge rfl rfl (fun h5 => ?_) (fun h5 => ?_)
    · exact absurd h5 (nI_ge hi2 (by omega))
    · refine tg_steps 2 rfl ?_
      refine tg_ifbeq rfl rfl (fun h12 => ?_) (fun h12 => ?_)
      · refine tg_steps 6 rfl ?_
        refine tg_ialdN rfl rfl (yCu y + i) rfl (by omega) (by decide) ?_
        refine tg_iastN rfl rfl (i) rfl (by omega) (by decide) ?_
        refine tg_eqW (m_H _) ?_
        refine tg_steps 6 rfl ?_
        rw [g_CuCu, nI_p1]
        refine tg_eqW (m_Cu _) ?_
        rw [w_CC, g_KeCu]
        refine tg_steps 2 rfl ?_
        refine tg_pkV [0, 1, 2] ?_
        refine tg_eqS (L2 := [(0, .ref 64), (1, .ref 68), (2, .int (nI (i + 1)))]) (st2 := []) (w2 := (l, tm_cs (sH h (rdS (yKe y) (yCu y) (hH h) (i + 1))) (zCu y (yCu y + (i + 1))))) (by first | (simp (decide := true) only [nI_succ, decide_true, decide_false, cond_true, cond_false, Bool.false_eq_true, if_true, if_false, ite_true, ite_false]; done) | (simp (decide := true) only [nI_succ, decide_true, decide_false, cond_true, cond_false, Bool.false_eq_true, if_true, if_false, ite_true, ite_false]; rfl) | rfl) rfl rfl ?_
        exact ih2
      · exact absurd (hi.symm.trans h12) (by decide)
set_option maxRecDepth 100000 in
set_option maxHeartbeats 2000000 in
theorem m_passK_T {G : tg_G} {l : List tg_Cl} {h : tp_H} {y : tp_Y} (ho : yCu y + 7 ≤ 117) (hi : yIk y = true) : tg_C G 1 mX11_passes 0 0 [.ref 64, .ref 69] (l, tm_cs h y) (fun v w => v = none ∧ w = (l, tm_cs h (zCu (zKe y (mxS (yCu y) (hT h) (yKe y) (7))) (yCu y + (7))))) := by
  refine tg_intro okX11_passes (Nat.le_of_ble_eq_true rfl) ?_
  refine tg_steps 2 rfl ?_
  refine tg_pkV [0, 1, 2] ?_
  refine tg_eqS (L2 := [(0, .ref 64), (1, .ref 69), (2, .int (nI (0)))]) (st2 := []) (w2 := (l, tm_cs h (zCu (zKe y (mxS (yCu y) (hT h) (yKe y) (0))) (yCu y + (0))))) rfl rfl rfl ?_
  refine tg_down (φ := fun i : Nat => tg_V G 1 mX11_passes 0 0 0 0 (fun v w => v = none ∧ w = (l, tm_cs h (zCu (zKe y (mxS (yCu y) (hT h) (yKe y) (7))) (yCu y + (7))))) 2 [(0, .ref 64), (1, .ref 69), (2, .int (nI (i)))] [] (l, tm_cs h (zCu (zKe y (mxS (yCu y) (hT h) (yKe y) (i))) (yCu y + (i))))) (n := 7) ?_ ?_ 0 (Nat.zero_le _) 
  · refine tg_steps 3 rfl ?_
    refine tg_icge rfl rfl (fun h5 => ?_) (fun h5 => ?_)
    · exact tg_vret (st := []) rfl rfl ⟨Nat.le_of_ble_eq_true rfl, Nat.le_of_ble_eq_true rfl⟩ ⟨rfl, rfl⟩
    · exact absurd (nI_le (Nat.le_refl _) (by omega)) h5
  · intro i hi2 ih2
    refine tg_steps 3 rfl ?_
    refine tg_icge rfl rfl (fun h5 => ?_) (fun h5 => ?_)
    · exact absurd h5 (nI_ge hi2 (by omega))
    · refine tg_steps 2 rfl ?_
      refine tg_ifbeq rfl rfl (fun h12 => ?_) (fun h12 => ?_)
      · exact absurd (hi.symm.trans h12) (by decide)
      · refine tg_steps 6 rfl ?_
        refine tg_ialdN rfl rfl (i) rfl (by omega) (by decide) ?_
        refine tg_iastN rfl rfl (yCu y + i) rfl (by omega) (by decide) ?_
        refine tg_eqW (m_Ke _) ?_
        refine tg_steps 7 rfl ?_
        rw [g_CuKe, g_CuCu, nI_p1]
        refine tg_eqW (m_Cu _) ?_
        rw [w_KC, g_KeCu, g_KeKe]
        refine tg_steps 2 rfl ?_
        refine tg_pkV [0, 1, 2] ?_
        refine tg_eqS (L2 := [(0, .ref 64), (1, .ref 69), (2, .int (nI (i + 1)))]) (st2 := []) (w2 := (l, tm_cs h (zCu (zKe y (mxS (yCu y) (hT h) (yKe y) (i + 1))) (yCu y + (i + 1))))) (by first | (simp (decide := true) only [nI_succ, decide_true, decide_false, cond_true, cond_false, Bool.false_eq_true, if_true, if_false, ite_true, ite_false]; done) | (simp (decide := true) only [nI_succ, decide_true, decide_false, cond_true, cond_false, Bool.false_eq_true, if_true, if_false, ite_true, ite_false]; rfl) | rfl) rfl rfl ?_
        exact ih2
set_option maxRecDepth 100000 in
set_option maxHeartbeats 2000000 in
theorem m_passR_T {G : tg_G} {l : List tg_Cl} {h : tp_H} {y : tp_Y} (ho : yCu y + 7 ≤ 117) (hi : yIk y = false) : tg_C G 1 mX11_passes 0 0 [.ref 64, .ref 69] (l, tm_cs h y) (fun v w => v = none ∧ w = (l, tm_cs (sT h (rdS (yKe y) (yCu y) (hT h) (7))) (zCu y (yCu y + (7))))) := by
  refine tg_intro okX11_passes (Nat.le_of_ble_eq_true rfl) ?_
  refine tg_steps 2 rfl ?_
  refine tg_pkV [0, 1, 2] ?_
  refine tg_eqS (L2 := [(0, .ref 64), (1, .ref 69), (2, .int (nI (0)))]) (st2 := []) (w2 := (l, tm_cs (sT h (rdS (yKe y) (yCu y) (hT h) (0))) (zCu y (yCu y + (0))))) rfl rfl rfl ?_
  refine tg_down (φ := fun i : Nat => tg_V G 1 mX11_passes 0 0 0 0 (fun v w => v = none ∧ w = (l, tm_cs (sT h (rdS (yKe y) (yCu y) (hT h) (7))) (zCu y (yCu y + (7))))) 2 [(0, .ref 64), (1, .ref 69), (2, .int (nI (i)))] [] (l, tm_cs (sT h (rdS (yKe y) (yCu y) (hT h) (i))) (zCu y (yCu y + (i))))) (n := 7) ?_ ?_ 0 (Nat.zero_le _) 
  · refine tg_steps 3 rfl ?_
    refine tg_icge rfl rfl (fun h5 => ?_) (fun h5 => ?_)
    · exact tg_vret (st := []) rfl rfl ⟨Nat.le_of_ble_eq_true rfl, Nat.le_of_ble_eq_true rfl⟩ ⟨rfl, rfl⟩
    · exact absurd (nI_le (Nat.le_refl _) (by omega)) h5
  · intro i hi2 ih2
    refine tg_steps 3 rfl ?_
    refine tg_icge rfl rfl (fun h5 => ?_) (fun h5 => ?_)
    · exact absurd h5 (nI_ge hi2 (by omega))
    · refine tg_steps 2 rfl ?_
      refine tg_ifbeq rfl rfl (fun h12 => ?_) (fun h12 => ?_)
      · refine tg_steps 6 rfl ?_
        refine tg_ialdN rfl rfl (yCu y + i) rfl (by omega) (by decide) ?_
        refine tg_iastN rfl rfl (i) rfl (by omega) (by decide) ?_
        refine tg_eqW (m_T _) ?_
        refine tg_steps 6 rfl ?_
        rw [g_CuCu, nI_p1]
        refine tg_eqW (m_Cu _) ?_
        rw [w_CC, g_KeCu]
        refine tg_steps 2 rfl ?_
        refine tg_pkV [0, 1, 2] ?_
        refine tg_eqS (L2 := [(0, .ref 64), (1, .ref 69), (2, .int (nI (i + 1)))]) (st2 := []) (w2 := (l, tm_cs (sT h (rdS (yKe y) (yCu y) (hT h) (i + 1))) (zCu y (yCu y + (i + 1))))) (by first | (simp (decide := true) only [nI_succ, decide_true, decide_false, cond_true, cond_false, Bool.false_eq_true, if_true, if_false, ite_true, ite_false]; done) | (simp (decide := true) only [nI_succ, decide_true, decide_false, cond_true, cond_false, Bool.false_eq_true, if_true, if_false, ite_true, ite_false]; rfl) | rfl) rfl rfl ?_
        exact ih2
      · exact absurd (hi.symm.trans h12) (by decide)
set_option maxRecDepth 100000 in
set_option maxHeartbeats 2000000 in
theorem m_passK_P {G : tg_G} {l : List tg_Cl} {h : tp_H} {y : tp_Y} (ho : yCu y + 7 ≤ 117) (hi : yIk y = true) : tg_C G 1 mX11_passes 0 0 [.ref 64, .ref 70] (l, tm_cs h y) (fun v w => v = none ∧ w = (l, tm_cs h (zCu (zKe y (mxS (yCu y) (hP h) (yKe y) (7))) (yCu y + (7))))) := by
  refine tg_intro okX11_passes (Nat.le_of_ble_eq_true rfl) ?_
  refine tg_steps 2 rfl ?_
  refine tg_pkV [0, 1, 2] ?_
  refine tg_eqS (L2 := [(0, .ref 64), (1, .ref 70), (2, .int (nI (0)))]) (st2 := []) (w2 := (l, tm_cs h (zCu (zKe y (mxS (yCu y) (hP h) (yKe y) (0))) (yCu y + (0))))) rfl rfl rfl ?_
  refine tg_down (φ := fun i : Nat => tg_V G 1 mX11_passes 0 0 0 0 (fun v w => v = none ∧ w = (l, tm_cs h (zCu (zKe y (mxS (yCu y) (hP h) (yKe y) (7))) (yCu y + (7))))) 2 [(0, .ref 64), (1, .ref 70), (2, .int (nI (i)))] [] (l, tm_cs h (zCu (zKe y (mxS (yCu y) (hP h) (yKe y) (i))) (yCu y + (i))))) (n := 7) ?_ ?_ 0 (Nat.zero_le _) 
  · refine tg_steps 3 rfl ?_
    refine tg_icge rfl rfl (fun h5 => ?_) (fun h5 => ?_)
    · exact tg_vret (st := []) rfl rfl ⟨Nat.le_of_ble_eq_true rfl, Nat.le_of_ble_eq_true rfl⟩ ⟨rfl, rfl⟩
    · exact absurd (nI_le (Nat.le_refl _) (by omega)) h5
  · intro i hi2 ih2
    refine tg_steps 3 rfl ?_
    refine tg_icge rfl rfl (fun h5 => ?_) (fun h5 => ?_)
    · exact absurd h5 (nI_ge hi2 (by omega))
    · refine tg_steps 2 rfl ?_
      refine tg_ifbeq rfl rfl (fun h12 => ?_) (fun h12 => ?_)
      · exact absurd (hi.symm.trans h12) (by decide)
      · refine tg_steps 6 rfl ?_
        refine tg_ialdN rfl rfl (i) rfl (by omega) (by decide) ?_
        refine tg_iastN rfl rfl (yCu y + i) rfl (by omega) (by decide) ?_
        refine tg_eqW (m_Ke _) ?_
        refine tg_steps 7 rfl ?_
        rw [g_CuKe, g_CuCu, nI_p1]
        refine tg_eqW (m_Cu _) ?_
        rw [w_KC, g_KeCu, g_KeKe]
        refine tg_steps 2 rfl ?_
        refine tg_pkV [0, 1, 2] ?_
        refine tg_eqS (L2 := [(0, .ref 64), (1, .ref 70), (2, .int (nI (i + 1)))]) (st2 := []) (w2 := (l, tm_cs h (zCu (zKe y (mxS (yCu y) (hP h) (yKe y) (i + 1))) (yCu y + (i + 1))))) (by first | (simp (decide := true) only [nI_succ, decide_true, decide_false, cond_true, cond_false, Bool.false_eq_true, if_true, if_false, ite_true, ite_false]; done) | (simp (decide := true) only [nI_succ, decide_true, decide_false, cond_true, cond_false, Bool.false_eq_true, if_true, if_false, ite_true, ite_false]; rfl) | rfl) rfl rfl ?_
        exact ih2
set_option maxRecDepth 100000 in
set_option maxHeartbeats 2000000 in
theorem m_passR_P {G : tg_G} {l : List tg_Cl} {h : tp_H} {y : tp_Y} (ho : yCu y + 7 ≤ 117) (hi : yIk y = false) : tg_C G 1 mX11_passes 0 0 [.ref 64, .ref 70] (l, tm_cs h y) (fun v w => v = none ∧ w = (l, tm_cs (sP h (rdS (yKe y) (yCu y) (hP h) (7))) (zCu y (yCu y + (7))))) := by
  refine tg_intro okX11_passes (Nat.le_of_ble_eq_true rfl) ?_
  refine tg_steps 2 rfl ?_
  refine tg_pkV [0, 1, 2] ?_
  refine tg_eqS (L2 := [(0, .ref 64), (1, .ref 70), (2, .int (nI (0)))]) (st2 := []) (w2 := (l, tm_cs (sP h (rdS (yKe y) (yCu y) (hP h) (0))) (zCu y (yCu y + (0))))) rfl rfl rfl ?_
  refine tg_down (φ := fun i : Nat => tg_V G 1 mX11_passes 0 0 0 0 (fun v w => v = none ∧ w = (l, tm_cs (sP h (rdS (yKe y) (yCu y) (hP h) (7))) (zCu y (yCu y + (7))))) 2 [(0, .ref 64), (1, .ref 70), (2, .int (nI (i)))] [] (l, tm_cs (sP h (rdS (yKe y) (yCu y) (hP h) (i))) (zCu y (yCu y + (i))))) (n := 7) ?_ ?_ 0 (Nat.zero_le _) 
  · refine tg_steps 3 rfl ?_
    refine tg_icge rfl rfl (fun h5 => ?_) (fun h5 => ?_)
    · exact tg_vret (st := []) rfl rfl ⟨Nat.le_of_ble_eq_true rfl, Nat.le_of_ble_eq_true rfl⟩ ⟨rfl, rfl⟩
    · exact absurd (nI_le (Nat.le_refl _) (by omega)) h5
  · intro i hi2 ih2
    refine tg_steps 3 rfl ?_
    refine tg_icge rfl rfl (fun h5 => ?_) (fun h5 => ?_)
    · exact absurd h5 (nI_ge hi2 (by omega))
    · refine tg_steps 2 rfl ?_
      refine tg_ifbeq rfl rfl (fun h12 => ?_) (fun h12 => ?_)
      · refine tg_steps 6 rfl ?_
        refine tg_ialdN rfl rfl (yCu y + i) rfl (by omega) (by decide) ?_
        refine tg_iastN rfl rfl (i) rfl (by omega) (by decide) ?_
        refine tg_eqW (m_P _) ?_
        refine tg_steps 6 rfl ?_
        rw [g_CuCu, nI_p1]
        refine tg_eqW (m_Cu _) ?_
        rw [w_CC, g_KeCu]
        refine tg_steps 2 rfl ?_
        refine tg_pkV [0, 1, 2] ?_
        refine tg_eqS (L2 := [(0, .ref 64), (1, .ref 70), (2, .int (nI (i + 1)))]) (st2 := []) (w2 := (l, tm_cs (sP h (rdS (yKe y) (yCu y) (hP h) (i + 1))) (zCu y (yCu y + (i + 1))))) (by first | (simp (decide := true) only [nI_succ, decide_true, decide_false, cond_true, cond_false, Bool.false_eq_true, if_true, if_false, ite_true, ite_false]; done) | (simp (decide := true) only [nI_succ, decide_true, decide_false, cond_true, cond_false, Bool.false_eq_true, if_true, if_false, ite_true, ite_false]; rfl) | rfl) rfl rfl ?_
        exact ih2
      · exact absurd (hi.symm.trans h12) (by decide)
set_option maxRecDepth 100000 in
set_option maxHeartbeats 2000000 in
theorem m_poK {G : tg_G} {l : List tg_Cl} {h : tp_H} {y : tp_Y} (ho : yCu y < 117) (hi : yIk y = true) (u : Int32) : tg_C G 1 mX11_passOne 0 0 [.ref 64, .int u] (l, tm_cs h y) (fun v w => v = some (.int u) ∧ w = (l, tm_cs h (zCu (zKe y (tg_u (yKe y) (yCu y) u)) (yCu y + 1)))) := by
  refine tg_intro okX11_passOne (Nat.le_of_ble_eq_true rfl) ?_
  refine tg_steps 2 rfl ?_
  refine tg_ifbeq rfl rfl (fun h4 => ?_) (fun h4 => ?_)
  · exact absurd (hi.symm.trans h4) (by decide)
  · refine tg_steps 5 rfl ?_
    refine tg_ifbeq rfl rfl (fun h25 => ?_) (fun h25 => ?_)
    · exact absurd (hi.symm.trans h25) (by decide)
    · refine tg_steps 5 rfl ?_
      refine tg_iastN rfl rfl (yCu y) rfl (by omega) (by decide) ?_
      refine tg_eqW (m_Ke _) ?_
      refine tg_steps 6 rfl ?_
      rw [g_CuKe, nI_p1]
      refine tg_eqW (m_Cu _) ?_
      refine tg_steps 1 rfl ?_
      exact tg_iret (st := []) rfl rfl ⟨Nat.le_of_ble_eq_true rfl, Nat.le_of_ble_eq_true rfl⟩ ⟨rfl, rfl⟩
set_option maxRecDepth 100000 in
set_option maxHeartbeats 2000000 in
theorem m_poR {G : tg_G} {l : List tg_Cl} {h : tp_H} {y : tp_Y} (ho : yCu y < 117) (hi : yIk y = false) (u : Int32) : tg_C G 1 mX11_passOne 0 0 [.ref 64, .int u] (l, tm_cs h y) (fun v w => v = some (.int (yKe y (yCu y))) ∧ w = (l, tm_cs h (zCu y (yCu y + 1)))) := by
  refine tg_intro okX11_passOne (Nat.le_of_ble_eq_true rfl) ?_
  refine tg_steps 2 rfl ?_
  refine tg_ifbeq rfl rfl (fun h4 => ?_) (fun h4 => ?_)
  · refine tg_steps 4 rfl ?_
    refine tg_ialdN rfl rfl (yCu y) rfl (by omega) (by decide) ?_
    refine tg_steps 3 rfl ?_
    refine tg_ifbeq rfl rfl (fun h25 => ?_) (fun h25 => ?_)
    · refine tg_steps 6 rfl ?_
      rw [nI_p1]
      refine tg_eqW (m_Cu _) ?_
      refine tg_steps 1 rfl ?_
      exact tg_iret (st := []) rfl rfl ⟨Nat.le_of_ble_eq_true rfl, Nat.le_of_ble_eq_true rfl⟩ ⟨rfl, rfl⟩
    · exact absurd (hi.symm.trans h25) (by decide)
  · exact absurd (hi.symm.trans h4) (by decide)
