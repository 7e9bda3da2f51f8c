/-! contracts of the reference: leaves -/
def inB (v a b : Int32) : Bool := bif decide (v < a) then false else bif decide (b < v) then false else true
def bdI (v a b : Int32) : Int32 := if v < a then -4 else if b < v then -6 else 0
def hsB (c k : Int32) : Bool := decide ((c >>> (k &&& 31)) &&& 1 = 1)
def btL (v : Int32) : Nat → Int32
  | 0 => 0
  | k + 1 => btL v k + ((v >>> (nI k &&& 31)) &&& 1)
theorem btL_succ (v : Int32) (k : Nat) : btL v (k + 1) = btL v k + ((v >>> (nI k &&& 31)) &&& 1) := rfl
def btI (v : Int32) : Int32 := btL v 31
def lnI (y : tp_Y) : Int32 := if nI (yTd y) ≤ nI (yRd y) then -1 else yTp y (yRd y)
def koM (c : Int32) : Int32 := if c = 107 then 0 else if c = 104 then 1 else if c = 102 then 2 else if c = 115 then 3 else if c = 119 then 4 else if c = 110 then 5 else -1
def byM (t k : Int32) : Int32 := if k = 0 then (if 6 ≤ t then t - 6 else -9) else if k = 1 then (if t % 6 = 5 then -9 else t + 1) else if k = 2 then (if 24 ≤ t + 6 then -9 else t + 6) else (if t % 6 = 0 then -9 else t - 1)
theorem by_eq {t k : Int32} (ht : isT t = true) (hk : k = 0 ∨ k = 1 ∨ k = 2 ∨ k = 3) : byM t k = bes t k := by
  obtain ⟨v, hv, rfl, -⟩ := isT_j ht
  have h : ∀ j : Fin 24, byM (nI j.1) 0 = bes (nI j.1) 0 ∧ byM (nI j.1) 1 = bes (nI j.1) 1 ∧ byM (nI j.1) 2 = bes (nI j.1) 2 ∧ byM (nI j.1) 3 = bes (nI j.1) 3 := by decide +kernel
  obtain ⟨h0, h1, h2, h3⟩ := h ⟨v, hv⟩
  rcases hk with rfl | rfl | rfl | rfl
  · exact h0
  · exact h1
  · exact h2
  · exact h3
theorem bes_T {t k : Int32} (ht : isT t = true) : bes t k = -9 ∨ isT (bes t k) = true := by
  obtain ⟨v, hv, rfl, -⟩ := isT_j ht
  have h : ∀ j : Fin 24, (bes (nI j.1) 0 = -9 ∨ isT (bes (nI j.1) 0) = true) ∧ (bes (nI j.1) 1 = -9 ∨ isT (bes (nI j.1) 1) = true) ∧ (bes (nI j.1) 2 = -9 ∨ isT (bes (nI j.1) 2) = true) ∧ (bes (nI j.1) 3 = -9 ∨ isT (bes (nI j.1) 3) = true) := by decide +kernel
  obtain ⟨h0, h1, h2, h3⟩ := h ⟨v, hv⟩
  by_cases k0 : k = 0
  · rw [k0]; exact h0
  · by_cases k1 : k = 1
    · rw [k1]; exact h1
    · by_cases k2 : k = 2
      · rw [k2]; exact h2
      · by_cases k3 : k = 3
        · rw [k3]; exact h3
        · exact Or.inl (by unfold bes; rw [if_neg k0, if_neg k1, if_neg k2, if_neg k3])
theorem isT_lt {t : Int32} (h : isT t = true) : ¬ t < 0 := by
  intro q
  unfold isT at h
  rw [decide_eq_true q] at h
  cases h
def skM (t : Int32) : Int32 := if byM t 1 < 0 then 3 else 1
def tsM (s t : Int32) : Int32 := if t = s then -9 else if t / 6 = s / 6 then (if s ≤ t then 3 else 1) else (if t ≤ s then 2 else 0)
def wfM (s t n : Int32) : Int32 := if n % 2 = 0 then tsM s t else if tsM s t < 0 then tsM s t else if byM t ((tsM s t + 2) % 4) < 0 then -9 else (tsM s t + 2) % 4
theorem sk_eq {t : Int32} (ht : isT t = true) : skM t = wSk t := by
  obtain ⟨v, hv, rfl, -⟩ := isT_j ht
  have h : ∀ j : Fin 24, skM (nI j.1) = wSk (nI j.1) := by decide +kernel
  exact h ⟨v, hv⟩
theorem ts_eq {s t : Int32} (hs : isT s = true) (ht : isT t = true) : tsM s t = wSa s t := by
  obtain ⟨u, hu, rfl, -⟩ := isT_j hs
  obtain ⟨v, hv, rfl, -⟩ := isT_j ht
  have h : ∀ i j : Fin 24, tsM (nI i.1) (nI j.1) = wSa (nI i.1) (nI j.1) := by decide +kernel
  exact h ⟨u, hu⟩ ⟨v, hv⟩
theorem wSa_4 (s t : Int32) : wSa s t = -9 ∨ wSa s t = 0 ∨ wSa s t = 1 ∨ wSa s t = 2 ∨ wSa s t = 3 := by
  unfold wSa
  split
  · split
    · exact Or.inl rfl
    · split
      · exact Or.inr (Or.inr (Or.inr (Or.inr rfl)))
      · exact Or.inr (Or.inr (Or.inl rfl))
  · split
    · exact Or.inr (Or.inl rfl)
    · exact Or.inr (Or.inr (Or.inr (Or.inl rfl)))
theorem wi_aux {t a : Int32} (ht : isT t = true) (ha : a = 0 ∨ a = 1 ∨ a = 2 ∨ a = 3) : (if a < 0 then a else if byM t ((a + 2) % 4) < 0 then -9 else (a + 2) % 4) = if a = -9 then a else if ¬ bes t ((a + 2) % 4) = -9 then (a + 2) % 4 else -9 := by
  obtain ⟨v, hv, rfl, -⟩ := isT_j ht
  have h : ∀ j : Fin 24, ∀ i : Fin 4, (if nI i.1 < 0 then nI i.1 else if byM (nI j.1) ((nI i.1 + 2) % 4) < 0 then -9 else (nI i.1 + 2) % 4) = if nI i.1 = -9 then nI i.1 else if ¬ bes (nI j.1) ((nI i.1 + 2) % 4) = -9 then (nI i.1 + 2) % 4 else -9 := by decide +kernel
  rcases ha with rfl | rfl | rfl | rfl
  · exact h ⟨v, hv⟩ 0
  · exact h ⟨v, hv⟩ 1
  · exact h ⟨v, hv⟩ 2
  · exact h ⟨v, hv⟩ 3
theorem wi_eq {h : tp_H} {t n : Int32} (hs : isT (hS h) = true) (ht : isT t = true) : wfM (hS h) t n = wWi (sN h n) t (wSa (hS h) t) := by
  unfold wfM wWi
  rw [ts_eq hs ht, show hN (sN h n) = n from rfl]
  by_cases e : n % 2 = 0
  · simp only [e, if_true, not_true, if_false]
    split <;> rfl
  · simp only [e, if_false, not_false_eq_true, if_true]
    rcases wSa_4 (hS h) t with q | q
    · rw [q]; rfl
    · exact wi_aux ht q
def wyM (h : tp_H) (kd t : Int32) (j : Nat) (n : Int32) : Int32 := if kd = 1 then (if byM t 2 < 0 then skM t else 2) else if kd = 2 then (if n % (hF h j + 2) = 0 then skM t else -9) else if kd = 3 then tsM (hS h) t else if kd = 4 then wfM (hS h) t n else if kd = 5 then (bif othB h (nI j) then tsM (hS h) t else -9) else skM t
theorem fig_j {h : tp_H} {j : Nat} (hw : wfH h) (hj : j < hM h) : ¬ hF h j + 2 = 0 ∧ ¬ hF h j + 2 ≤ 0 := by
  obtain ⟨v, hv, e⟩ := up_j (m := 9) rfl (hw.2.2 j hj).2.2
  rw [e]
  have h10 : ∀ i : Fin 10, ¬ nI i.1 + 2 = 0 ∧ ¬ nI i.1 + 2 ≤ 0 := by decide +kernel
  exact h10 ⟨v, by omega⟩
theorem wHo_eq {t : Int32} (ht : isT t = true) : (if byM t 2 < 0 then skM t else 2) = wHo t := by
  obtain ⟨v, hv, rfl, -⟩ := isT_j ht
  have h : ∀ j : Fin 24, (if byM (nI j.1) 2 < 0 then skM (nI j.1) else 2) = wHo (nI j.1) := by decide +kernel
  exact h ⟨v, hv⟩
theorem wy_eq {h : tp_H} {j : Nat} (hw : wfH h) (hj : j < hM h) (kd n : Int32) : wyM h kd (hT h j) j n = way (sN h n) kd (hT h j) (nI j) := by
  have ht := (hw.2.2 j hj).1
  have hs := hw.2.1
  unfold wyM way
  rw [wHo_eq ht, sk_eq ht, ts_eq hs ht, wi_eq hs ht]
  split
  · rfl
  · split
    · unfold wFi
      rw [show gO hF (sN h n) (nI j) = hF h j from gO_nI (h := sN h n) hw.1 hj, if_neg (fig_j hw hj).2, show hN (sN h n) = n from rfl]
      by_cases e : n % (hF h j + 2) = 0
      · rw [if_pos e, if_neg (fun q => q e)]
      · rw [if_neg e, if_pos e]
    · rfl
theorem abB_j {h : tp_H} {j : Nat} (hm : hM h ≤ 7) (hj : j < hM h) : abB h (nI j) = decide (hT h j = hS h) := by
  unfold abB
  rw [gO_nI hm hj]
theorem uP_j {f : tp_A} {h : tp_H} {j : Nat} (hm : hM h ≤ 7) (hj : j < hM h) (v : Int32) : uP f h (nI j) v = tg_u f j v := by
  unfold uP
  rw [has_nI hm hj, nI_clamp (by omega)]
  rfl
theorem senH_j {h : tp_H} {j : Nat} (hm : hM h ≤ 7) (hj : j < hM h) (v : Int32) : senH h (nI j) v = sT (sP h (tg_u (hP h) j v)) (tg_u (hT h) j (hH h j)) := by
  unfold senH putH pinH
  rw [uP_j hm hj, gO_nI hm hj]
  show sT (sP h (tg_u (hP h) j v)) (uP (hT h) (sP h (tg_u (hP h) j v)) (nI j) (hH h j)) = _
  rw [uP_j (h := sP h (tg_u (hP h) j v)) hm hj]
theorem putH_j {h : tp_H} {j : Nat} (hm : hM h ≤ 7) (hj : j < hM h) (v : Int32) : putH h (nI j) v = sT h (tg_u (hT h) j v) := by
  unfold putH
  rw [uP_j hm hj]
theorem pinH_j {h : tp_H} {j : Nat} (hm : hM h ≤ 7) (hj : j < hM h) (v : Int32) : pinH h (nI j) v = sP h (tg_u (hP h) j v) := by
  unfold pinH
  rw [uP_j hm hj]
theorem rcD_0 {s t : Int32} (hs : isT s = true) (ht : isT t = true) : rcD t s ≤ 0 ↔ t = s := by
  obtain ⟨u, hu, rfl, -⟩ := isT_j hs
  obtain ⟨v, hv, rfl, -⟩ := isT_j ht
  have h : ∀ i j : Fin 24, (rcD (nI j.1) (nI i.1) ≤ 0 ↔ nI j.1 = nI i.1) := by decide +kernel
  exact h ⟨u, hu⟩ ⟨v, hv⟩
def ahM (h : tp_H) (k q : Nat) : Bool := bif decide (hT h q = hS h) then false else if rcD (hT h q) (hS h) < rcD (hT h k) (hS h) then true else if ¬ rcD (hT h q) (hS h) = rcD (hT h k) (hS h) then false else if nI k ≤ nI q then false else true
theorem ah_eq {h : tp_H} {k : Nat} (hw : wfH h) (hk : k < hM h) : cI (ahM h k) (hM h) = ahO h (nI k) := by
  unfold ahO
  refine cI_eq (fun i hi => ?_)
  unfold ahM ahP
  rw [gO_nI hw.1 hk]
  by_cases e : hT h i = hS h
  · rw [decide_eq_true e, if_pos ((rcD_0 hw.2.1 (hw.2.2 i hi).1).mpr e)]; rfl
  · rw [decide_eq_false e, if_neg (fun q => e ((rcD_0 hw.2.1 (hw.2.2 i hi).1).mp q))]; rfl
theorem drw_1 {k z : Int32} (h1 : 1 ≤ k) : drw k z = (z &&& 2147483647) / 256 % k := if_pos h1
def enM (h : tp_H) (j : Nat) : Int32 := (if hsB (oAt h (hS h)) (nI j) = true then (5 : Int32) else 0) + (2 : Int32) * btI (oAt h (hS h) &&& ((1 <<< (nI j &&& 31)) ^^^ (-1)))

set_option maxRecDepth 100000 in
set_option maxHeartbeats 2000000 in
theorem m_isIn {G : tg_G} {w : tg_W} (z a b : Int32) : tg_C G 1 mX11_isIn 0 0 [.int z, .int a, .int b] w (fun v w2 => v = some (.int (tg_b (inB z a b))) ∧ w2 = w) := by
  refine tg_intro okX11_isIn (Nat.le_of_ble_eq_true rfl) ?_
  refine tg_steps 2 rfl ?_
  refine tg_iclt rfl rfl (fun h2 => ?_) (fun h2 => ?_)
  · refine tg_steps 1 rfl ?_
    exact tg_zret (st := []) rfl rfl ⟨Nat.le_of_ble_eq_true rfl, Nat.le_of_ble_eq_true rfl⟩ (by first | exact tg_b1 _ | exact Or.inl rfl | exact Or.inr rfl) ⟨by first | rfl | (simp (decide := true) only [inB, tg_b, decide_true, decide_false, cond_true, cond_false, Bool.false_eq_true, if_true, if_false, ite_true, ite_false, h2, Int32.not_le.mpr h2]; done) | (simp (decide := true) only [inB, tg_b, decide_true, decide_false, cond_true, cond_false, Bool.false_eq_true, if_true, if_false, ite_true, ite_false, h2, Int32.not_le.mpr h2]; done), rfl⟩
  · refine tg_steps 2 rfl ?_
    refine tg_icgt rfl rfl (fun h7 => ?_) (fun h7 => ?_)
    · refine tg_steps 1 rfl ?_
      exact tg_zret (st := []) rfl rfl ⟨Nat.le_of_ble_eq_true rfl, Nat.le_of_ble_eq_true rfl⟩ (by first | exact tg_b1 _ | exact Or.inl rfl | exact Or.inr rfl) ⟨by first | rfl | (simp (decide := true) only [inB, tg_b, decide_true, decide_false, cond_true, cond_false, Bool.false_eq_true, if_true, if_false, ite_true, ite_false, h2, Int32.not_lt.mp h2, h7, Int32.not_le.mpr h7]; done) | (simp (decide := true) only [inB, tg_b, decide_true, decide_false, cond_true, cond_false, Bool.false_eq_true, if_true, if_false, ite_true, ite_false, h2, Int32.not_lt.mp h2, h7, Int32.not_le.mpr h7]; done), rfl⟩
    · refine tg_steps 2 rfl ?_
      exact tg_zret (st := []) rfl rfl ⟨Nat.le_of_ble_eq_true rfl, Nat.le_of_ble_eq_true rfl⟩ (by first | exact tg_b1 _ | exact Or.inl rfl | exact Or.inr rfl) ⟨by first | rfl | (simp (decide := true) only [inB, tg_b, decide_true, decide_false, cond_true, cond_false, Bool.false_eq_true, if_true, if_false, ite_true, ite_false, h2, Int32.not_lt.mp h2, h7, Int32.not_lt.mp h7]; done) | (simp (decide := true) only [inB, tg_b, decide_true, decide_false, cond_true, cond_false, Bool.false_eq_true, if_true, if_false, ite_true, ite_false, h2, Int32.not_lt.mp h2, h7, Int32.not_lt.mp h7]; done), rfl⟩
set_option maxRecDepth 100000 in
set_option maxHeartbeats 2000000 in
theorem m_bound {G : tg_G} {w : tg_W} (z a b : Int32) : tg_C G 1 mX11_bound 0 0 [.int z, .int a, .int b] w (fun v w2 => v = some (.int (bdI z a b)) ∧ w2 = w) := by
  refine tg_intro okX11_bound (Nat.le_of_ble_eq_true rfl) ?_
  refine tg_steps 2 rfl ?_
  refine tg_icge rfl rfl (fun h2 => ?_) (fun h2 => ?_)
  · refine tg_steps 2 rfl ?_
    refine tg_icle rfl rfl (fun h12 => ?_) (fun h12 => ?_)
    · refine tg_steps 1 rfl ?_
      exact tg_iret (st := []) rfl rfl ⟨Nat.le_of_ble_eq_true rfl, Nat.le_of_ble_eq_true rfl⟩ ⟨by first | rfl | (simp (decide := true) only [bdI, decide_true, decide_false, cond_true, cond_false, Bool.false_eq_true, if_true, if_false, ite_true, ite_false, h2, Int32.not_lt.mpr h2, h12, Int32.not_lt.mpr h12]; done) | (simp (decide := true) only [bdI, decide_true, decide_false, cond_true, cond_false, Bool.false_eq_true, if_true, if_false, ite_true, ite_false, h2, Int32.not_lt.mpr h2, h12, Int32.not_lt.mpr h12]; done), rfl⟩
    · refine tg_steps 2 rfl ?_
      exact tg_iret (st := []) rfl rfl ⟨Nat.le_of_ble_eq_true rfl, Nat.le_of_ble_eq_true rfl⟩ ⟨by first | rfl | (simp (decide := true) only [bdI, decide_true, decide_false, cond_true, cond_false, Bool.false_eq_true, if_true, if_false, ite_true, ite_false, h2, Int32.not_lt.mpr h2, h12, Int32.not_le.mp h12]; done) | (simp (decide := true) only [bdI, decide_true, decide_false, cond_true, cond_false, Bool.false_eq_true, if_true, if_false, ite_true, ite_false, h2, Int32.not_lt.mpr h2, h12, Int32.not_le.mp h12]; done), rfl⟩
  · refine tg_steps 2 rfl ?_
    exact tg_iret (st := []) rfl rfl ⟨Nat.le_of_ble_eq_true rfl, Nat.le_of_ble_eq_true rfl⟩ ⟨by first | rfl | (simp (decide := true) only [bdI, decide_true, decide_false, cond_true, cond_false, Bool.false_eq_true, if_true, if_false, ite_true, ite_false, h2, Int32.not_le.mp h2]; done) | (simp (decide := true) only [bdI, decide_true, decide_false, cond_true, cond_false, Bool.false_eq_true, if_true, if_false, ite_true, ite_false, h2, Int32.not_le.mp h2]; done), rfl⟩
set_option maxRecDepth 100000 in
set_option maxHeartbeats 2000000 in
theorem m_size {G : tg_G} {w : tg_W} (z : Int32) : tg_C G 1 mX11_size 0 0 [.int z] w (fun v w2 => v = some (.int (abI z)) ∧ w2 = w) := by
  refine tg_intro okX11_size (Nat.le_of_ble_eq_true rfl) ?_
  refine tg_steps 1 rfl ?_
  refine tg_ifge rfl rfl (fun h1 => ?_) (fun h1 => ?_)
  · refine tg_steps 1 rfl ?_
    exact tg_iret (st := []) rfl rfl ⟨Nat.le_of_ble_eq_true rfl, Nat.le_of_ble_eq_true rfl⟩ ⟨by first | rfl | (simp (decide := true) only [abI, Int32.zero_sub, decide_true, decide_false, cond_true, cond_false, Bool.false_eq_true, if_true, if_false, ite_true, ite_false, h1, Int32.not_lt.mpr h1]; done) | (simp (decide := true) only [abI, Int32.zero_sub, decide_true, decide_false, cond_true, cond_false, Bool.false_eq_true, if_true, if_false, ite_true, ite_false, h1, Int32.not_lt.mpr h1]; done), rfl⟩
  · refine tg_steps 3 rfl ?_
    exact tg_iret (st := []) rfl rfl ⟨Nat.le_of_ble_eq_true rfl, Nat.le_of_ble_eq_true rfl⟩ ⟨by first | rfl | (simp (decide := true) only [abI, Int32.zero_sub, decide_true, decide_false, cond_true, cond_false, Bool.false_eq_true, if_true, if_false, ite_true, ite_false, h1, Int32.not_le.mp h1]; done) | (simp (decide := true) only [abI, Int32.zero_sub, decide_true, decide_false, cond_true, cond_false, Bool.false_eq_true, if_true, if_false, ite_true, ite_false, h1, Int32.not_le.mp h1]; done), rfl⟩
set_option maxRecDepth 100000 in
set_option maxHeartbeats 2000000 in
theorem m_has {G : tg_G} {w : tg_W} (c k : Int32) : tg_C G 1 mX11_has 0 0 [.int c, .int k] w (fun v w2 => v = some (.int (tg_b (hsB c k))) ∧ w2 = w) := by
  refine tg_intro okX11_has (Nat.le_of_ble_eq_true rfl) ?_
  refine tg_steps 6 rfl ?_
  refine tg_icne rfl rfl (fun h6 => ?_) (fun h6 => ?_)
  · refine tg_steps 1 rfl ?_
    exact tg_zret (st := []) rfl rfl ⟨Nat.le_of_ble_eq_true rfl, Nat.le_of_ble_eq_true rfl⟩ (by first | exact tg_b1 _ | exact Or.inl rfl | exact Or.inr rfl) ⟨by first | rfl | (simp (decide := true) only [hsB, tg_b, decide_true, decide_false, cond_true, cond_false, Bool.false_eq_true, if_true, if_false, ite_true, ite_false, h6]; done) | (simp (decide := true) only [hsB, tg_b, decide_true, decide_false, cond_true, cond_false, Bool.false_eq_true, if_true, if_false, ite_true, ite_false, h6]; done), rfl⟩
  · refine tg_steps 2 rfl ?_
    exact tg_zret (st := []) rfl rfl ⟨Nat.le_of_ble_eq_true rfl, Nat.le_of_ble_eq_true rfl⟩ (by first | exact tg_b1 _ | exact Or.inl rfl | exact Or.inr rfl) ⟨by first | rfl | (simp (decide := true) only [hsB, tg_b, decide_true, decide_false, cond_true, cond_false, Bool.false_eq_true, if_true, if_false, ite_true, ite_false, eq_true h6]; done) | (simp (decide := true) only [hsB, tg_b, decide_true, decide_false, cond_true, cond_false, Bool.false_eq_true, if_true, if_false, ite_true, ite_false, h6]; done), rfl⟩
set_option maxRecDepth 100000 in
set_option maxHeartbeats 2000000 in
theorem m_bits {G : tg_G} {w : tg_W} (z : Int32) : tg_C G 1 mX11_bits 0 0 [.int z] w (fun v w2 => v = some (.int (btI z)) ∧ w2 = w) := by
  obtain ⟨N, hN⟩ : ∃ N : Nat, N = 31 := ⟨31, rfl⟩
  refine tg_intro okX11_bits (Nat.le_of_ble_eq_true rfl) ?_
  refine tg_steps 4 rfl ?_
  refine tg_pkV [0, 1, 2] ?_
  refine tg_eqS (L2 := [(0, .int z), (1, .int (btL z (0))), (2, .int (nI (0)))]) (st2 := []) (w2 := w) rfl rfl rfl ?_
  refine tg_down (φ := fun i : Nat => tg_V G 1 mX11_bits 0 0 0 0 (fun v w2 => v = some (.int (btI z)) ∧ w2 = w) 4 [(0, .int z), (1, .int (btL z (i))), (2, .int (nI (i)))] [] w) (n := N) ?_ ?_ 0 (Nat.zero_le _) 
  · refine tg_steps 2 rfl ?_
    refine tg_icge rfl rfl (fun h7 => ?_) (fun h7 => ?_)
    · refine tg_steps 1 rfl ?_
      exact tg_iret (st := []) rfl rfl ⟨Nat.le_of_ble_eq_true rfl, Nat.le_of_ble_eq_true rfl⟩ ⟨by unfold btI; rw [← hN], rfl⟩
    · exact absurd (by rw [hN]; decide) h7
  · intro i hi4 ih4
    refine tg_steps 2 rfl ?_
    refine tg_icge rfl rfl (fun h7 => ?_) (fun h7 => ?_)
    · exact absurd h7 (nI_ge (b := 31) (hN ▸ hi4) (by decide))
    · refine tg_steps 10 rfl ?_
      refine tg_pkV [0, 1, 2] ?_
      refine tg_eqS (L2 := [(0, .int z), (1, .int (btL z (i + 1))), (2, .int (nI (i + 1)))]) (st2 := []) (w2 := w) (by first | (simp (decide := true) only [nI_succ, btL_succ, decide_true, decide_false, cond_true, cond_false, Bool.false_eq_true, if_true, if_false, ite_true, ite_false]; done) | (simp (decide := true) only [nI_succ, btL_succ, decide_true, decide_false, cond_true, cond_false, Bool.false_eq_true, if_true, if_false, ite_true, ite_false]; rfl) | rfl) rfl (by first | (simp (decide := true) only [nI_succ, btL_succ, decide_true, decide_false, cond_true, cond_false, Bool.false_eq_true, if_true, if_false, ite_true, ite_false]; done) | (simp (decide := true) only [nI_succ, btL_succ, decide_true, decide_false, cond_true, cond_false, Bool.false_eq_true, if_true, if_false, ite_true, ite_false]; rfl) | rfl) ?_
      exact ih4
set_option maxRecDepth 100000 in
set_option maxHeartbeats 2000000 in
theorem m_isTile {G : tg_G} {w : tg_W} (t : Int32) : tg_C G 1 mX11_isTile 0 0 [.int t] w (fun v w2 => v = some (.int (tg_b (isT t))) ∧ w2 = w) := by
  refine tg_intro okX11_isTile (Nat.le_of_ble_eq_true rfl) ?_
  refine tg_steps 1 rfl ?_
  refine tg_iflt rfl rfl (fun h1 => ?_) (fun h1 => ?_)
  · refine tg_steps 1 rfl ?_
    exact tg_zret (st := []) rfl rfl ⟨Nat.le_of_ble_eq_true rfl, Nat.le_of_ble_eq_true rfl⟩ (by first | exact tg_b1 _ | exact Or.inl rfl | exact Or.inr rfl) ⟨by first | rfl | (simp (decide := true) only [isT, tg_b, decide_true, decide_false, cond_true, cond_false, Bool.false_eq_true, if_true, if_false, ite_true, ite_false, h1, Int32.not_le.mpr h1]; done) | (simp (decide := true) only [isT, tg_b, decide_true, decide_false, cond_true, cond_false, Bool.false_eq_true, if_true, if_false, ite_true, ite_false, h1, Int32.not_le.mpr h1]; done), rfl⟩
  · refine tg_steps 2 rfl ?_
    refine tg_icge rfl rfl (fun h7 => ?_) (fun h7 => ?_)
    · refine tg_steps 1 rfl ?_
      exact tg_zret (st := []) rfl rfl ⟨Nat.le_of_ble_eq_true rfl, Nat.le_of_ble_eq_true rfl⟩ (by first | exact tg_b1 _ | exact Or.inl rfl | exact Or.inr rfl) ⟨by first | rfl | (simp (decide := true) only [isT, tg_b, decide_true, decide_false, cond_true, cond_false, Bool.false_eq_true, if_true, if_false, ite_true, ite_false, h1, Int32.not_lt.mp h1, h7, Int32.not_lt.mpr h7]; done) | (simp (decide := true) only [isT, tg_b, decide_true, decide_false, cond_true, cond_false, Bool.false_eq_true, if_true, if_false, ite_true, ite_false, h1, Int32.not_lt.mp h1, h7, Int32.not_lt.mpr h7]; done), rfl⟩
    · refine tg_steps 2 rfl ?_
      exact tg_zret (st := []) rfl rfl ⟨Nat.le_of_ble_eq_true rfl, Nat.le_of_ble_eq_true rfl⟩ (by first | exact tg_b1 _ | exact Or.inl rfl | exact Or.inr rfl) ⟨by first | rfl | (simp (decide := true) only [isT, tg_b, decide_true, decide_false, cond_true, cond_false, Bool.false_eq_true, if_true, if_false, ite_true, ite_false, h1, Int32.not_lt.mp h1, h7, Int32.not_le.mp h7]; done) | (simp (decide := true) only [isT, tg_b, decide_true, decide_false, cond_true, cond_false, Bool.false_eq_true, if_true, if_false, ite_true, ite_false, h1, Int32.not_lt.mp h1, h7, Int32.not_le.mp h7]; done), rfl⟩
set_option maxRecDepth 100000 in
set_option maxHeartbeats 2000000 in
theorem m_isOne {G : tg_G} {l : List tg_Cl} {h : tp_H} {y : tp_Y} (k : Int32) : tg_C G 1 mX11_isOne 0 0 [.ref 64, .int k] (l, tm_cs h y) (fun v w => v = some (.int (tg_b (hasB h k))) ∧ w = (l, tm_cs h y)) := by
  refine tg_intro okX11_isOne (Nat.le_of_ble_eq_true rfl) ?_
  refine tg_steps 1 rfl ?_
  refine tg_iflt rfl rfl (fun h1 => ?_) (fun h1 => ?_)
  · refine tg_steps 1 rfl ?_
    exact tg_zret (st := []) rfl rfl ⟨Nat.le_of_ble_eq_true rfl, Nat.le_of_ble_eq_true rfl⟩ (by first | exact tg_b1 _ | exact Or.inl rfl | exact Or.inr rfl) ⟨by first | rfl | (simp (decide := true) only [hasB, tg_b, decide_true, decide_false, cond_true, cond_false, Bool.false_eq_true, if_true, if_false, ite_true, ite_false, h1, Int32.not_le.mpr h1]; done) | (simp (decide := true) only [hasB, tg_b, decide_true, decide_false, cond_true, cond_false, Bool.false_eq_true, if_true, if_false, ite_true, ite_false, h1, Int32.not_le.mpr h1]; done), rfl⟩
  · refine tg_steps 3 rfl ?_
    refine tg_icge rfl rfl (fun h9 => ?_) (fun h9 => ?_)
    · refine tg_steps 1 rfl ?_
      exact tg_zret (st := []) rfl rfl ⟨Nat.le_of_ble_eq_true rfl, Nat.le_of_ble_eq_true rfl⟩ (by first | exact tg_b1 _ | exact Or.inl rfl | exact Or.inr rfl) ⟨by first | rfl | (simp (decide := true) only [hasB, tg_b, decide_true, decide_false, cond_true, cond_false, Bool.false_eq_true, if_true, if_false, ite_true, ite_false, h1, Int32.not_lt.mp h1, h9, Int32.not_lt.mpr h9]; done) | (simp (decide := true) only [hasB, tg_b, decide_true, decide_false, cond_true, cond_false, Bool.false_eq_true, if_true, if_false, ite_true, ite_false, h1, Int32.not_lt.mp h1, h9, Int32.not_lt.mpr h9]; done), rfl⟩
    · refine tg_steps 2 rfl ?_
      exact tg_zret (st := []) rfl rfl ⟨Nat.le_of_ble_eq_true rfl, Nat.le_of_ble_eq_true rfl⟩ (by first | exact tg_b1 _ | exact Or.inl rfl | exact Or.inr rfl) ⟨by first | rfl | (simp (decide := true) only [hasB, tg_b, decide_true, decide_false, cond_true, cond_false, Bool.false_eq_true, if_true, if_false, ite_true, ite_false, h1, Int32.not_lt.mp h1, h9, Int32.not_le.mp h9]; done) | (simp (decide := true) only [hasB, tg_b, decide_true, decide_false, cond_true, cond_false, Bool.false_eq_true, if_true, if_false, ite_true, ite_false, h1, Int32.not_lt.mp h1, h9, Int32.not_le.mp h9]; done), rfl⟩
set_option maxRecDepth 100000 in
set_option maxHeartbeats 2000000 in
theorem m_letterNow {G : tg_G} {l : List tg_Cl} {h : tp_H} {y : tp_Y} (hl : yTd y ≤ 96) (hr : yRd y ≤ 96) : tg_C G 1 mX11_letterNow 0 0 [.ref 64] (l, tm_cs h y) (fun v w => v = some (.int (lnI y)) ∧ w = (l, tm_cs h y)) := by
  refine tg_intro okX11_letterNow (Nat.le_of_ble_eq_true rfl) ?_
  refine tg_steps 4 rfl ?_
  refine tg_icge rfl rfl (fun h8 => ?_) (fun h8 => ?_)
  · refine tg_steps 1 rfl ?_
    exact tg_iret (st := []) rfl rfl ⟨Nat.le_of_ble_eq_true rfl, Nat.le_of_ble_eq_true rfl⟩ ⟨by first | rfl | (simp (decide := true) only [lnI, decide_true, decide_false, cond_true, cond_false, Bool.false_eq_true, if_true, if_false, ite_true, ite_false, h8, Int32.not_lt.mpr h8]; done) | (simp (decide := true) only [lnI, decide_true, decide_false, cond_true, cond_false, Bool.false_eq_true, if_true, if_false, ite_true, ite_false, h8, Int32.not_lt.mpr h8]; done), rfl⟩
  · have hlt : yRd y < 96 := by
      rcases Nat.lt_or_ge (yRd y) (yTd y) with q | q
      · omega
      · exact absurd (nI_le q (by omega)) h8
    refine tg_steps 4 rfl ?_
    refine tg_ialdN rfl rfl (yRd y) rfl hlt (by decide) ?_
    refine tg_steps 1 rfl ?_
    exact tg_iret (st := []) rfl rfl ⟨Nat.le_of_ble_eq_true rfl, Nat.le_of_ble_eq_true rfl⟩ ⟨by first | rfl | (simp (decide := true) only [lnI, decide_true, decide_false, cond_true, cond_false, Bool.false_eq_true, if_true, if_false, ite_true, ite_false, h8, Int32.not_le.mp h8]; done) | (simp (decide := true) only [lnI, decide_true, decide_false, cond_true, cond_false, Bool.false_eq_true, if_true, if_false, ite_true, ite_false, h8, Int32.not_le.mp h8]; done), rfl⟩
set_option maxRecDepth 100000 in
set_option maxHeartbeats 2000000 in
theorem m_kindOf {G : tg_G} {w : tg_W} (c : Int32) : tg_C G 1 mX11_kindOf 0 0 [.int c] w (fun v w2 => v = some (.int (koM c)) ∧ w2 = w) := by
  refine tg_intro okX11_kindOf (Nat.le_of_ble_eq_true rfl) ?_
  refine tg_steps 2 rfl ?_
  refine tg_icne rfl rfl (fun h3 => ?_) (fun h3 => ?_)
  · refine tg_steps 2 rfl ?_
    refine tg_icne rfl rfl (fun h13 => ?_) (fun h13 => ?_)
    · refine tg_steps 2 rfl ?_
      refine tg_icne rfl rfl (fun h23 => ?_) (fun h23 => ?_)
      · refine tg_steps 2 rfl ?_
        refine tg_icne rfl rfl (fun h33 => ?_) (fun h33 => ?_)
        · refine tg_steps 2 rfl ?_
          refine tg_icne rfl rfl (fun h43 => ?_) (fun h43 => ?_)
          · refine tg_steps 2 rfl ?_
            refine tg_icne rfl rfl (fun h53 => ?_) (fun h53 => ?_)
            · refine tg_steps 1 rfl ?_
              exact tg_iret (st := []) rfl rfl ⟨Nat.le_of_ble_eq_true rfl, Nat.le_of_ble_eq_true rfl⟩ ⟨by first | rfl | (simp (decide := true) only [koM, decide_true, decide_false, cond_true, cond_false, Bool.false_eq_true, if_true, if_false, ite_true, ite_false, h3, h13, h23, h33, h43, h53]; done) | (simp (decide := true) only [koM, decide_true, decide_false, cond_true, cond_false, Bool.false_eq_true, if_true, if_false, ite_true, ite_false, h3, h13, h23, h33, h43, h53]; done), rfl⟩
            · refine tg_steps 2 rfl ?_
              exact tg_iret (st := []) rfl rfl ⟨Nat.le_of_ble_eq_true rfl, Nat.le_of_ble_eq_true rfl⟩ ⟨by first | rfl | (simp (decide := true) only [koM, decide_true, decide_false, cond_true, cond_false, Bool.false_eq_true, if_true, if_false, ite_true, ite_false, h3, h13, h23, h33, h43, eq_true h53]; done) | (simp (decide := true) only [koM, decide_true, decide_false, cond_true, cond_false, Bool.false_eq_true, if_true, if_false, ite_true, ite_false, h3, h13, h23, h33, h43, h53]; done), rfl⟩
          · refine tg_steps 2 rfl ?_
            exact tg_iret (st := []) rfl rfl ⟨Nat.le_of_ble_eq_true rfl, Nat.le_of_ble_eq_true rfl⟩ ⟨by first | rfl | (simp (decide := true) only [koM, decide_true, decide_false, cond_true, cond_false, Bool.false_eq_true, if_true, if_false, ite_true, ite_false, h3, h13, h23, h33, eq_true h43]; done) | (simp (decide := true) only [koM, decide_true, decide_false, cond_true, cond_false, Bool.false_eq_true, if_true, if_false, ite_true, ite_false, h3, h13, h23, h33, h43]; done), rfl⟩
        · refine tg_steps 2 rfl ?_
          exact tg_iret (st := []) rfl rfl ⟨Nat.le_of_ble_eq_true rfl, Nat.le_of_ble_eq_true rfl⟩ ⟨by first | rfl | (simp (decide := true) only [koM, decide_true, decide_false, cond_true, cond_false, Bool.false_eq_true, if_true, if_false, ite_true, ite_false, h3, h13, h23, eq_true h33]; done) | (simp (decide := true) only [koM, decide_true, decide_false, cond_true, cond_false, Bool.false_eq_true, if_true, if_false, ite_true, ite_false, h3, h13, h23, h33]; done), rfl⟩
      · refine tg_steps 2 rfl ?_
        exact tg_iret (st := []) rfl rfl ⟨Nat.le_of_ble_eq_true rfl, Nat.le_of_ble_eq_true rfl⟩ ⟨by first | rfl | (simp (decide := true) only [koM, decide_true, decide_false, cond_true, cond_false, Bool.false_eq_true, if_true, if_false, ite_true, ite_false, h3, h13, eq_true h23]; done) | (simp (decide := true) only [koM, decide_true, decide_false, cond_true, cond_false, Bool.false_eq_true, if_true, if_false, ite_true, ite_false, h3, h13, h23]; done), rfl⟩
    · refine tg_steps 2 rfl ?_
      exact tg_iret (st := []) rfl rfl ⟨Nat.le_of_ble_eq_true rfl, Nat.le_of_ble_eq_true rfl⟩ ⟨by first | rfl | (simp (decide := true) only [koM, decide_true, decide_false, cond_true, cond_false, Bool.false_eq_true, if_true, if_false, ite_true, ite_false, h3, eq_true h13]; done) | (simp (decide := true) only [koM, decide_true, decide_false, cond_true, cond_false, Bool.false_eq_true, if_true, if_false, ite_true, ite_false, h3, h13]; done), rfl⟩
  · refine tg_steps 2 rfl ?_
    exact tg_iret (st := []) rfl rfl ⟨Nat.le_of_ble_eq_true rfl, Nat.le_of_ble_eq_true rfl⟩ ⟨by first | rfl | (simp (decide := true) only [koM, decide_true, decide_false, cond_true, cond_false, Bool.false_eq_true, if_true, if_false, ite_true, ite_false, eq_true h3]; done) | (simp (decide := true) only [koM, decide_true, decide_false, cond_true, cond_false, Bool.false_eq_true, if_true, if_false, ite_true, ite_false, h3]; done), rfl⟩
set_option maxRecDepth 100000 in
set_option maxHeartbeats 2000000 in
theorem m_addsOne {G : tg_G} {l : List tg_Cl} {h : tp_H} {y : tp_Y} (hm : hM h < 7) (a b c : Int32) : tg_C G 1 mX11_addsOne 0 0 [.ref 64, .int a, .int b, .int c] (l, tm_cs h y) (fun v w => v = none ∧ w = (l, tm_cs (comH h a b c) y)) := by
  refine tg_intro okX11_addsOne (Nat.le_of_ble_eq_true rfl) ?_
  refine tg_steps 5 rfl ?_
  refine tg_iastN rfl rfl (hM h) rfl hm (by decide) ?_
  refine tg_eqW (w2 := (l, tm_cs (sK (h) (tg_u (hK h) (hM h) a)) y)) (m_K _) ?_
  refine tg_steps 5 rfl ?_
  refine tg_iastN rfl rfl (hM h) rfl hm (by decide) ?_
  refine tg_eqW (w2 := (l, tm_cs (sF (sK (h) (tg_u (hK h) (hM h) a)) (tg_u (hF h) (hM h) b)) y)) (m_F _) ?_
  refine tg_steps 5 rfl ?_
  refine tg_iastN rfl rfl (hM h) rfl hm (by decide) ?_
  refine tg_eqW (w2 := (l, tm_cs (sH (sF (sK (h) (tg_u (hK h) (hM h) a)) (tg_u (hF h) (hM h) b)) (tg_u (hH h) (hM h) c)) y)) (m_H _) ?_
  refine tg_steps 5 rfl ?_
  refine tg_iastN rfl rfl (hM h) rfl hm (by decide) ?_
  refine tg_eqW (w2 := (l, tm_cs (sT (sH (sF (sK (h) (tg_u (hK h) (hM h) a)) (tg_u (hF h) (hM h) b)) (tg_u (hH h) (hM h) c)) (tg_u (hT h) (hM h) c)) y)) (m_T _) ?_
  refine tg_steps 5 rfl ?_
  refine tg_iastN rfl rfl (hM h) rfl hm (by decide) ?_
  refine tg_eqW (w2 := (l, tm_cs (sP (sT (sH (sF (sK (h) (tg_u (hK h) (hM h) a)) (tg_u (hF h) (hM h) b)) (tg_u (hH h) (hM h) c)) (tg_u (hT h) (hM h) c)) (tg_u (hP h) (hM h) 0)) y)) (m_P _) ?_
  refine tg_steps 5 rfl ?_
  refine tg_eqS (L2 := _) (st2 := [.int (nI (hM h + 1)), .ref 64]) (w2 := _) rfl (by rw [← nI_p1]; rfl) rfl ?_
  refine tg_steps 1 rfl ?_
  refine tg_eqW (w2 := (l, tm_cs (comH h a b c) y)) (m_M (hM h + 1)) ?_
  exact tg_vret (st := []) rfl rfl ⟨Nat.le_of_ble_eq_true rfl, Nat.le_of_ble_eq_true rfl⟩ ⟨rfl, rfl⟩
set_option maxRecDepth 100000 in
set_option maxHeartbeats 2000000 in
theorem m_pinsOne {G : tg_G} {l : List tg_Cl} {h : tp_H} {y : tp_Y} (hm : hM h ≤ 7) (j : Nat) (hj : j < hM h) (v : Int32) : tg_C G 1 mX11_pinsOne 0 0 [.ref 64, .int (nI j), .int v] (l, tm_cs h y) (fun u w => u = none ∧ w = (l, tm_cs (senH h (nI j) v) y)) := by
  refine tg_intro okX11_pinsOne (Nat.le_of_ble_eq_true rfl) ?_
  refine tg_steps 4 rfl ?_
  refine tg_iastN rfl rfl (j) rfl (by omega) (by decide) ?_
  refine tg_eqW (m_P _) ?_
  refine tg_steps 6 rfl ?_
  refine tg_ialdN rfl rfl (j) rfl (by omega) (by decide) ?_
  refine tg_iastN rfl rfl (j) rfl (by omega) (by decide) ?_
  refine tg_eqW (m_T _) ?_
  exact tg_vret (st := []) rfl rfl ⟨Nat.le_of_ble_eq_true rfl, Nat.le_of_ble_eq_true rfl⟩ ⟨rfl, by rw [senH_j hm hj]; rfl⟩
set_option maxRecDepth 100000 in
set_option maxHeartbeats 2000000 in
theorem m_beyond {G : tg_G} {w : tg_W} (t k : Int32) : tg_C G 1 mX11_beyond 0 0 [.int t, .int k] w (fun v w2 => v = some (.int (byM t k)) ∧ w2 = w) := by
  refine tg_intro okX11_beyond (Nat.le_of_ble_eq_true rfl) ?_
  refine tg_steps 1 rfl ?_
  refine tg_tsw rfl ?_
  refine And.intro (fun h1_0 => ?_) (fun h1_0 => ?_)
  · refine tg_steps 2 rfl ?_
    refine tg_icge rfl rfl (fun h31 => ?_) (fun h31 => ?_)
    · refine tg_steps 3 rfl ?_
      exact tg_iret (st := []) rfl rfl ⟨Nat.le_of_ble_eq_true rfl, Nat.le_of_ble_eq_true rfl⟩ ⟨by first | rfl | (simp (decide := true) only [byM, decide_true, decide_false, cond_true, cond_false, Bool.false_eq_true, if_true, if_false, ite_true, ite_false, eq_true h1_0, h31, Int32.not_lt.mpr h31]; done) | (simp (decide := true) only [byM, decide_true, decide_false, cond_true, cond_false, Bool.false_eq_true, if_true, if_false, ite_true, ite_false, h1_0, h31, Int32.not_lt.mpr h31]; done), rfl⟩
    · refine tg_steps 2 rfl ?_
      exact tg_iret (st := []) rfl rfl ⟨Nat.le_of_ble_eq_true rfl, Nat.le_of_ble_eq_true rfl⟩ ⟨by first | rfl | (simp (decide := true) only [byM, decide_true, decide_false, cond_true, cond_false, Bool.false_eq_true, if_true, if_false, ite_true, ite_false, eq_true h1_0, h31, Int32.not_le.mp h31]; done) | (simp (decide := true) only [byM, decide_true, decide_false, cond_true, cond_false, Bool.false_eq_true, if_true, if_false, ite_true, ite_false, h1_0, h31, Int32.not_le.mp h31]; done), rfl⟩
  refine And.intro (fun h1_1 => ?_) (fun h1_1 => ?_)
  · refine tg_steps 4 rfl ?_
    refine tg_icne rfl rfl (fun h49 => ?_) (fun h49 => ?_)
    · refine tg_steps 3 rfl ?_
      exact tg_iret (st := []) rfl rfl ⟨Nat.le_of_ble_eq_true rfl, Nat.le_of_ble_eq_true rfl⟩ ⟨by first | rfl | (simp (decide := true) only [byM, decide_true, decide_false, cond_true, cond_false, Bool.false_eq_true, if_true, if_false, ite_true, ite_false, h1_0, eq_true h1_1, h49]; done) | (simp (decide := true) only [byM, decide_true, decide_false, cond_true, cond_false, Bool.false_eq_true, if_true, if_false, ite_true, ite_false, h1_0, h1_1, h49]; done), rfl⟩
    · refine tg_steps 2 rfl ?_
      exact tg_iret (st := []) rfl rfl ⟨Nat.le_of_ble_eq_true rfl, Nat.le_of_ble_eq_true rfl⟩ ⟨by first | rfl | (simp (decide := true) only [byM, decide_true, decide_false, cond_true, cond_false, Bool.false_eq_true, if_true, if_false, ite_true, ite_false, h1_0, eq_true h1_1, eq_true h49]; done) | (simp (decide := true) only [byM, decide_true, decide_false, cond_true, cond_false, Bool.false_eq_true, if_true, if_false, ite_true, ite_false, h1_0, h1_1, h49]; done), rfl⟩
  refine And.intro (fun h1_2 => ?_) (fun h1_2 => ?_)
  · refine tg_steps 4 rfl ?_
    refine tg_icge rfl rfl (fun h67 => ?_) (fun h67 => ?_)
    · refine tg_steps 1 rfl ?_
      exact tg_iret (st := []) rfl rfl ⟨Nat.le_of_ble_eq_true rfl, Nat.le_of_ble_eq_true rfl⟩ ⟨by first | rfl | (simp (decide := true) only [byM, decide_true, decide_false, cond_true, cond_false, Bool.false_eq_true, if_true, if_false, ite_true, ite_false, h1_0, h1_1, eq_true h1_2, h67, Int32.not_lt.mpr h67]; done) | (simp (decide := true) only [byM, decide_true, decide_false, cond_true, cond_false, Bool.false_eq_true, if_true, if_false, ite_true, ite_false, h1_0, h1_1, h1_2, h67, Int32.not_lt.mpr h67]; done), rfl⟩
    · refine tg_steps 4 rfl ?_
      exact tg_iret (st := []) rfl rfl ⟨Nat.le_of_ble_eq_true rfl, Nat.le_of_ble_eq_true rfl⟩ ⟨by first | rfl | (simp (decide := true) only [byM, decide_true, decide_false, cond_true, cond_false, Bool.false_eq_true, if_true, if_false, ite_true, ite_false, h1_0, h1_1, eq_true h1_2, h67, Int32.not_le.mp h67]; done) | (simp (decide := true) only [byM, decide_true, decide_false, cond_true, cond_false, Bool.false_eq_true, if_true, if_false, ite_true, ite_false, h1_0, h1_1, h1_2, h67, Int32.not_le.mp h67]; done), rfl⟩
  refine tg_steps 3 rfl ?_
  refine tg_ifne rfl rfl (fun h84 => ?_) (fun h84 => ?_)
  · refine tg_steps 3 rfl ?_
    exact tg_iret (st := []) rfl rfl ⟨Nat.le_of_ble_eq_true rfl, Nat.le_of_ble_eq_true rfl⟩ ⟨by first | rfl | (simp (decide := true) only [byM, decide_true, decide_false, cond_true, cond_false, Bool.false_eq_true, if_true, if_false, ite_true, ite_false, h1_0, h1_1, h1_2, h84]; done) | (simp (decide := true) only [byM, decide_true, decide_false, cond_true, cond_false, Bool.false_eq_true, if_true, if_false, ite_true, ite_false, h1_0, h1_1, h1_2, h84]; done), rfl⟩
  · refine tg_steps 2 rfl ?_
    exact tg_iret (st := []) rfl rfl ⟨Nat.le_of_ble_eq_true rfl, Nat.le_of_ble_eq_true rfl⟩ ⟨by first | rfl | (simp (decide := true) only [byM, decide_true, decide_false, cond_true, cond_false, Bool.false_eq_true, if_true, if_false, ite_true, ite_false, h1_0, h1_1, h1_2, eq_true h84]; done) | (simp (decide := true) only [byM, decide_true, decide_false, cond_true, cond_false, Bool.false_eq_true, if_true, if_false, ite_true, ite_false, h1_0, h1_1, h1_2, h84]; done), rfl⟩
set_option maxRecDepth 100000 in
set_option maxHeartbeats 2000000 in
theorem m_apart {G : tg_G} {w : tg_W} (a b : Int32) : tg_C G 2 mX11_apart 0 0 [.int a, .int b] w (fun v w2 => v = some (.int (rcD a b)) ∧ w2 = w) := by
  refine tg_intro okX11_apart (Nat.le_of_ble_eq_true rfl) ?_
  refine tg_steps 7 rfl ?_
  refine tg_call1 rfl (m_size _) rfl rfl rfl  (fun v9 w9 q9 => ?_)
  obtain ⟨rfl, rfl⟩ := q9
  refine tg_steps 7 rfl ?_
  refine tg_call1 rfl (m_size _) rfl rfl rfl  (fun v21 w21 q21 => ?_)
  obtain ⟨rfl, rfl⟩ := q21
  refine tg_steps 1 rfl ?_
  exact tg_iret (st := []) rfl rfl ⟨Nat.le_of_ble_eq_true rfl, Nat.le_of_ble_eq_true rfl⟩ ⟨rfl, rfl⟩
set_option maxRecDepth 100000 in
set_option maxHeartbeats 2000000 in
theorem m_isAboard {G : tg_G} {l : List tg_Cl} {h : tp_H} {y : tp_Y} (hm : hM h ≤ 7) (j : Nat) (hj : j < hM h) : tg_C G 1 mX11_isAboard 0 0 [.ref 64, .int (nI j)] (l, tm_cs h y) (fun v w => v = some (.int (tg_b (abB h (nI j)))) ∧ w = (l, tm_cs h y)) := by
  refine tg_intro okX11_isAboard (Nat.le_of_ble_eq_true rfl) ?_
  refine tg_steps 3 rfl ?_
  refine tg_ialdN rfl rfl (j) rfl (by omega) (by decide) ?_
  refine tg_steps 2 rfl ?_
  refine tg_icne rfl rfl (fun h10 => ?_) (fun h10 => ?_)
  · refine tg_steps 1 rfl ?_
    exact tg_zret (st := []) rfl rfl ⟨Nat.le_of_ble_eq_true rfl, Nat.le_of_ble_eq_true rfl⟩ (by first | exact tg_b1 _ | exact Or.inl rfl | exact Or.inr rfl) ⟨by rw [abB_j hm hj]; simp (decide := true) only [tg_b, decide_true, decide_false, cond_true, cond_false, Bool.false_eq_true, if_true, if_false, ite_true, ite_false, h10], rfl⟩
  · refine tg_steps 2 rfl ?_
    exact tg_zret (st := []) rfl rfl ⟨Nat.le_of_ble_eq_true rfl, Nat.le_of_ble_eq_true rfl⟩ (by first | exact tg_b1 _ | exact Or.inl rfl | exact Or.inr rfl) ⟨by rw [abB_j hm hj]; simp (decide := true) only [tg_b, decide_true, decide_false, cond_true, cond_false, Bool.false_eq_true, if_true, if_false, ite_true, ite_false, eq_true h10], rfl⟩
set_option maxRecDepth 100000 in
set_option maxHeartbeats 2000000 in
theorem m_toShip {G : tg_G} {l : List tg_Cl} {h : tp_H} {y : tp_Y} (t : Int32) : tg_C G 1 mX11_toShip 0 0 [.ref 64, .int t] (l, tm_cs h y) (fun v w => v = some (.int (tsM (hS h) t)) ∧ w = (l, tm_cs h y)) := by
  refine tg_intro okX11_toShip (Nat.le_of_ble_eq_true rfl) ?_
  refine tg_steps 3 rfl ?_
  refine tg_icne rfl rfl (fun h5 => ?_) (fun h5 => ?_)
  · refine tg_steps 7 rfl ?_
    refine tg_iceq rfl rfl (fun h22 => ?_) (fun h22 => ?_)
    · refine tg_steps 3 rfl ?_
      refine tg_icle rfl rfl (fun h44 => ?_) (fun h44 => ?_)
      · refine tg_steps 1 rfl ?_
        exact tg_iret (st := []) rfl rfl ⟨Nat.le_of_ble_eq_true rfl, Nat.le_of_ble_eq_true rfl⟩ ⟨by first | rfl | (simp (decide := true) only [tsM, decide_true, decide_false, cond_true, cond_false, Bool.false_eq_true, if_true, if_false, ite_true, ite_false, h5, eq_true h22, h44, Int32.not_lt.mpr h44]; done) | (simp (decide := true) only [tsM, decide_true, decide_false, cond_true, cond_false, Bool.false_eq_true, if_true, if_false, ite_true, ite_false, h5, h22, h44, Int32.not_lt.mpr h44]; done), rfl⟩
      · refine tg_steps 2 rfl ?_
        exact tg_iret (st := []) rfl rfl ⟨Nat.le_of_ble_eq_true rfl, Nat.le_of_ble_eq_true rfl⟩ ⟨by first | rfl | (simp (decide := true) only [tsM, decide_true, decide_false, cond_true, cond_false, Bool.false_eq_true, if_true, if_false, ite_true, ite_false, h5, eq_true h22, h44, Int32.not_le.mp h44]; done) | (simp (decide := true) only [tsM, decide_true, decide_false, cond_true, cond_false, Bool.false_eq_true, if_true, if_false, ite_true, ite_false, h5, h22, h44, Int32.not_le.mp h44]; done), rfl⟩
    · refine tg_steps 3 rfl ?_
      refine tg_icge rfl rfl (fun h30 => ?_) (fun h30 => ?_)
      · refine tg_steps 1 rfl ?_
        exact tg_iret (st := []) rfl rfl ⟨Nat.le_of_ble_eq_true rfl, Nat.le_of_ble_eq_true rfl⟩ ⟨by first | rfl | (simp (decide := true) only [tsM, decide_true, decide_false, cond_true, cond_false, Bool.false_eq_true, if_true, if_false, ite_true, ite_false, h5, h22, h30, Int32.not_lt.mpr h30]; done) | (simp (decide := true) only [tsM, decide_true, decide_false, cond_true, cond_false, Bool.false_eq_true, if_true, if_false, ite_true, ite_false, h5, h22, h30, Int32.not_lt.mpr h30]; done), rfl⟩
      · refine tg_steps 2 rfl ?_
        exact tg_iret (st := []) rfl rfl ⟨Nat.le_of_ble_eq_true rfl, Nat.le_of_ble_eq_true rfl⟩ ⟨by first | rfl | (simp (decide := true) only [tsM, decide_true, decide_false, cond_true, cond_false, Bool.false_eq_true, if_true, if_false, ite_true, ite_false, h5, h22, h30, Int32.not_le.mp h30]; done) | (simp (decide := true) only [tsM, decide_true, decide_false, cond_true, cond_false, Bool.false_eq_true, if_true, if_false, ite_true, ite_false, h5, h22, h30, Int32.not_le.mp h30]; done), rfl⟩
  · refine tg_steps 1 rfl ?_
    exact tg_iret (st := []) rfl rfl ⟨Nat.le_of_ble_eq_true rfl, Nat.le_of_ble_eq_true rfl⟩ ⟨by first | rfl | (simp (decide := true) only [tsM, decide_true, decide_false, cond_true, cond_false, Bool.false_eq_true, if_true, if_false, ite_true, ite_false, eq_true h5]; done) | (simp (decide := true) only [tsM, decide_true, decide_false, cond_true, cond_false, Bool.false_eq_true, if_true, if_false, ite_true, ite_false, h5]; done), rfl⟩
set_option maxRecDepth 100000 in
set_option maxHeartbeats 2000000 in
theorem m_areOthersAboard {G : tg_G} {l : List tg_Cl} {h : tp_H} {y : tp_Y} (hm : hM h ≤ 7) (k : Int32) : tg_C G 2 mX11_areOthersAboard 0 0 [.ref 64, .int k] (l, tm_cs h y) (fun v w => v = some (.int (tg_b (othB h k))) ∧ w = (l, tm_cs h y)) := by
  refine tg_intro okX11_areOthersAboard (Nat.le_of_ble_eq_true rfl) ?_
  refine tg_steps 2 rfl ?_
  refine tg_pkV [0, 1, 2] ?_
  refine tg_eqS (L2 := [(0, .ref 64), (1, .int k), (2, .int (nI (0)))]) (st2 := []) (w2 := (l, tm_cs h y)) rfl rfl rfl ?_
  refine tg_down (φ := fun i : Nat => (othB h k = aI (fun i => bif decide (nI i = k) then true else decide (hT h i = hS h)) (hM h - (i)) (i)) → tg_V G 2 mX11_areOthersAboard 0 0 0 0 (fun v w => v = some (.int (tg_b (othB h k))) ∧ w = (l, tm_cs h y)) 2 [(0, .ref 64), (1, .int k), (2, .int (nI (i)))] [] (l, tm_cs h y)) (n := hM h) ?_ ?_ 0 (Nat.zero_le _) (rfl)
  · intro hinv2
    refine tg_steps 3 rfl ?_
    refine tg_icge rfl rfl (fun h7 => ?_) (fun h7 => ?_)
    · refine tg_steps 1 rfl ?_
      exact tg_zret (st := []) rfl rfl ⟨Nat.le_of_ble_eq_true rfl, Nat.le_of_ble_eq_true rfl⟩ (by first | exact tg_b1 _ | exact Or.inl rfl | exact Or.inr rfl) ⟨by rw [hinv2, Nat.sub_self]; rfl, rfl⟩
    · exact absurd (nI_le (Nat.le_refl _) (by omega)) h7
  · intro i hi2 ih2 hinv2
    rw [show hM h - i = hM h - (i + 1) + 1 by omega, aI_succ] at hinv2
    refine tg_steps 3 rfl ?_
    refine tg_icge rfl rfl (fun h7 => ?_) (fun h7 => ?_)
    · exact absurd h7 (nI_ge hi2 (by omega))
    · refine tg_steps 2 rfl ?_
      refine tg_iceq rfl rfl (fun h12 => ?_) (fun h12 => ?_)
      · refine tg_steps 2 rfl ?_
        refine tg_pkV [0, 1, 2] ?_
        refine tg_eqS (L2 := [(0, .ref 64), (1, .int k), (2, .int (nI (i + 1)))]) (st2 := []) (w2 := (l, tm_cs h y)) (by first | (simp (decide := true) only [nI_succ, decide_true, decide_false, cond_true, cond_false, Bool.false_eq_true, if_true, if_false, ite_true, ite_false, eq_true h12]; done) | (simp (decide := true) only [nI_succ, decide_true, decide_false, cond_true, cond_false, Bool.false_eq_true, if_true, if_false, ite_true, ite_false, eq_true h12]; rfl) | rfl) rfl (by first | (simp (decide := true) only [nI_succ, decide_true, decide_false, cond_true, cond_false, Bool.false_eq_true, if_true, if_false, ite_true, ite_false, eq_true h12]; done) | (simp (decide := true) only [nI_succ, decide_true, decide_false, cond_true, cond_false, Bool.false_eq_true, if_true, if_false, ite_true, ite_false, eq_true h12]; rfl) | rfl) ?_
        exact ih2 (by simp only [decide_true, decide_false, cond_true, cond_false, Bool.false_eq_true, if_true, if_false, ite_true, ite_false, eq_true h12] at hinv2; exact hinv2)
      · refine tg_steps 2 rfl ?_
        refine tg_callV rfl (m_isAboard hm i hi2) rfl rfl rfl rfl rfl (fun v17 w17 q17 => ?_)
        obtain ⟨rfl, rfl⟩ := q17
        rw [abB_j hm hi2]
        refine tg_ifbne rfl rfl (fun h20 => ?_) (fun h20 => ?_)
        · refine tg_steps 2 rfl ?_
          refine tg_pkV [0, 1, 2] ?_
          refine tg_eqS (L2 := [(0, .ref 64), (1, .int k), (2, .int (nI (i + 1)))]) (st2 := []) (w2 := (l, tm_cs h y)) (by first | (simp (decide := true) only [nI_succ, decide_true, decide_false, cond_true, cond_false, Bool.false_eq_true, if_true, if_false, ite_true, ite_false, h12, h20]; done) | (simp (decide := true) only [nI_succ, decide_true, decide_false, cond_true, cond_false, Bool.false_eq_true, if_true, if_false, ite_true, ite_false, h12, h20]; rfl) | rfl) rfl (by first | (simp (decide := true) only [nI_succ, decide_true, decide_false, cond_true, cond_false, Bool.false_eq_true, if_true, if_false, ite_true, ite_false, h12, h20]; done) | (simp (decide := true) only [nI_succ, decide_true, decide_false, cond_true, cond_false, Bool.false_eq_true, if_true, if_false, ite_true, ite_false, h12, h20]; rfl) | rfl) ?_
          exact ih2 (by simp only [decide_true, decide_false, cond_true, cond_false, Bool.false_eq_true, if_true, if_false, ite_true, ite_false, h12, h20] at hinv2; exact hinv2)
        · refine tg_steps 1 rfl ?_
          exact tg_zret (st := []) rfl rfl ⟨Nat.le_of_ble_eq_true rfl, Nat.le_of_ble_eq_true rfl⟩ (by first | exact tg_b1 _ | exact Or.inl rfl | exact Or.inr rfl) ⟨by simp only [decide_true, decide_false, cond_true, cond_false, Bool.false_eq_true, if_true, if_false, ite_true, ite_false, h12, h20] at hinv2; rw [hinv2]; rfl, rfl⟩
set_option maxRecDepth 100000 in
set_option maxHeartbeats 2000000 in
theorem m_skaterWay {G : tg_G} {l : List tg_Cl} {h : tp_H} {y : tp_Y} (t : Int32) : tg_C G 2 mX11_skaterWay 0 0 [.ref 64, .int t] (l, tm_cs h y) (fun v w => v = some (.int (skM t)) ∧ w = (l, tm_cs h y)) := by
  refine tg_intro okX11_skaterWay (Nat.le_of_ble_eq_true rfl) ?_
  refine tg_steps 2 rfl ?_
  refine tg_call1 rfl (m_beyond _ _) rfl rfl rfl  (fun v2 w2 q2 => ?_)
  obtain ⟨rfl, rfl⟩ := q2
  refine tg_iflt rfl rfl (fun h5 => ?_) (fun h5 => ?_)
  · refine tg_steps 1 rfl ?_
    exact tg_iret (st := []) rfl rfl ⟨Nat.le_of_ble_eq_true rfl, Nat.le_of_ble_eq_true rfl⟩ ⟨by first | rfl | (simp (decide := true) only [skM, decide_true, decide_false, cond_true, cond_false, Bool.false_eq_true, if_true, if_false, ite_true, ite_false, h5, Int32.not_le.mpr h5]; done) | (simp (decide := true) only [skM, decide_true, decide_false, cond_true, cond_false, Bool.false_eq_true, if_true, if_false, ite_true, ite_false, h5, Int32.not_le.mpr h5]; done), rfl⟩
  · refine tg_steps 2 rfl ?_
    exact tg_iret (st := []) rfl rfl ⟨Nat.le_of_ble_eq_true rfl, Nat.le_of_ble_eq_true rfl⟩ ⟨by first | rfl | (simp (decide := true) only [skM, decide_true, decide_false, cond_true, cond_false, Bool.false_eq_true, if_true, if_false, ite_true, ite_false, h5, Int32.not_lt.mp h5]; done) | (simp (decide := true) only [skM, decide_true, decide_false, cond_true, cond_false, Bool.false_eq_true, if_true, if_false, ite_true, ite_false, h5, Int32.not_lt.mp h5]; done), rfl⟩
set_option maxRecDepth 100000 in
set_option maxHeartbeats 2000000 in
theorem m_wifeWay {G : tg_G} {l : List tg_Cl} {h : tp_H} {y : tp_Y} (t n : Int32) : tg_C G 2 mX11_wifeWay 0 0 [.ref 64, .int t, .int n] (l, tm_cs h y) (fun v w => v = some (.int (wfM (hS h) t n)) ∧ w = (l, tm_cs h y)) := by
  refine tg_intro okX11_wifeWay (Nat.le_of_ble_eq_true rfl) ?_
  refine tg_steps 2 rfl ?_
  refine tg_callV rfl (m_toShip _) rfl rfl rfl rfl rfl (fun v2 w2 q2 => ?_)
  obtain ⟨rfl, rfl⟩ := q2
  refine tg_steps 4 rfl ?_
  refine tg_ifeq rfl rfl (fun h9 => ?_) (fun h9 => ?_)
  · refine tg_steps 1 rfl ?_
    exact tg_iret (st := []) rfl rfl ⟨Nat.le_of_ble_eq_true rfl, Nat.le_of_ble_eq_true rfl⟩ ⟨by first | rfl | (simp (decide := true) only [wfM, decide_true, decide_false, cond_true, cond_false, Bool.false_eq_true, if_true, if_false, ite_true, ite_false, eq_true h9]; done) | (simp (decide := true) only [wfM, decide_true, decide_false, cond_true, cond_false, Bool.false_eq_true, if_true, if_false, ite_true, ite_false, h9]; done), rfl⟩
  · refine tg_steps 1 rfl ?_
    refine tg_ifge rfl rfl (fun h13 => ?_) (fun h13 => ?_)
    · refine tg_steps 6 rfl ?_
      refine tg_call1 rfl (m_beyond _ _) rfl rfl rfl  (fun v24 w24 q24 => ?_)
      obtain ⟨rfl, rfl⟩ := q24
      refine tg_iflt rfl rfl (fun h27 => ?_) (fun h27 => ?_)
      · refine tg_steps 1 rfl ?_
        exact tg_iret (st := []) rfl rfl ⟨Nat.le_of_ble_eq_true rfl, Nat.le_of_ble_eq_true rfl⟩ ⟨by first | rfl | (simp (decide := true) only [wfM, decide_true, decide_false, cond_true, cond_false, Bool.false_eq_true, if_true, if_false, ite_true, ite_false, h9, h13, Int32.not_lt.mpr h13, h27, Int32.not_le.mpr h27]; done) | (simp (decide := true) only [wfM, decide_true, decide_false, cond_true, cond_false, Bool.false_eq_true, if_true, if_false, ite_true, ite_false, h9, h13, Int32.not_lt.mpr h13, h27, Int32.not_le.mpr h27]; done), rfl⟩
      · refine tg_steps 6 rfl ?_
        exact tg_iret (st := []) rfl rfl ⟨Nat.le_of_ble_eq_true rfl, Nat.le_of_ble_eq_true rfl⟩ ⟨by first | rfl | (simp (decide := true) only [wfM, decide_true, decide_false, cond_true, cond_false, Bool.false_eq_true, if_true, if_false, ite_true, ite_false, h9, h13, Int32.not_lt.mpr h13, h27, Int32.not_lt.mp h27]; done) | (simp (decide := true) only [wfM, decide_true, decide_false, cond_true, cond_false, Bool.false_eq_true, if_true, if_false, ite_true, ite_false, h9, h13, Int32.not_lt.mpr h13, h27, Int32.not_lt.mp h27]; done), rfl⟩
    · refine tg_steps 1 rfl ?_
      exact tg_iret (st := []) rfl rfl ⟨Nat.le_of_ble_eq_true rfl, Nat.le_of_ble_eq_true rfl⟩ ⟨by first | rfl | (simp (decide := true) only [wfM, decide_true, decide_false, cond_true, cond_false, Bool.false_eq_true, if_true, if_false, ite_true, ite_false, h9, h13, Int32.not_le.mp h13]; done) | (simp (decide := true) only [wfM, decide_true, decide_false, cond_true, cond_false, Bool.false_eq_true, if_true, if_false, ite_true, ite_false, h9, h13, Int32.not_le.mp h13]; done), rfl⟩
set_option maxRecDepth 100000 in
set_option maxHeartbeats 2000000 in
theorem m_wayOf {G : tg_G} {l : List tg_Cl} {h : tp_H} {y : tp_Y} (hw : wfH h) (j : Nat) (hj : j < hM h) (n : Int32) : tg_C G 3 mX11_wayOf 0 0 [.ref 64, .int (nI j), .int n] (l, tm_cs h y) (fun v w => v = some (.int (way (sN h n) (hK h j) (hT h j) (nI j))) ∧ w = (l, tm_cs h y)) := by
  have hm := hw.1
  rw [← wy_eq hw hj (hK h j) n]
  refine tg_intro okX11_wayOf (Nat.le_of_ble_eq_true rfl) ?_
  refine tg_steps 3 rfl ?_
  refine tg_ialdN rfl rfl (j) rfl (by omega) (by decide) ?_
  refine tg_steps 4 rfl ?_
  refine tg_ialdN rfl rfl (j) rfl (by omega) (by decide) ?_
  refine tg_tsw rfl ?_
  refine And.intro (fun h13_0 => ?_) (fun h13_0 => ?_)
  · refine tg_steps 2 rfl ?_
    refine tg_call1 rfl (m_beyond _ _) rfl rfl rfl  (fun v50 w50 q50 => ?_)
    obtain ⟨rfl, rfl⟩ := q50
    refine tg_iflt rfl rfl (fun h53 => ?_) (fun h53 => ?_)
    · refine tg_steps 2 rfl ?_
      refine tg_callV rfl (m_skaterWay _) rfl rfl rfl rfl rfl (fun v62 w62 q62 => ?_)
      obtain ⟨rfl, rfl⟩ := q62
      exact tg_iret (st := []) rfl rfl ⟨Nat.le_of_ble_eq_true rfl, Nat.le_of_ble_eq_true rfl⟩ ⟨by first | rfl | (simp (decide := true) only [wyM, decide_true, decide_false, cond_true, cond_false, Bool.false_eq_true, if_true, if_false, ite_true, ite_false, eq_true h13_0, h53, Int32.not_le.mpr h53]; done) | (simp (decide := true) only [wyM, decide_true, decide_false, cond_true, cond_false, Bool.false_eq_true, if_true, if_false, ite_true, ite_false, h13_0, h53, Int32.not_le.mpr h53]; done), rfl⟩
    · refine tg_steps 2 rfl ?_
      exact tg_iret (st := []) rfl rfl ⟨Nat.le_of_ble_eq_true rfl, Nat.le_of_ble_eq_true rfl⟩ ⟨by first | rfl | (simp (decide := true) only [wyM, decide_true, decide_false, cond_true, cond_false, Bool.false_eq_true, if_true, if_false, ite_true, ite_false, eq_true h13_0, h53, Int32.not_lt.mp h53]; done) | (simp (decide := true) only [wyM, decide_true, decide_false, cond_true, cond_false, Bool.false_eq_true, if_true, if_false, ite_true, ite_false, h13_0, h53, Int32.not_lt.mp h53]; done), rfl⟩
  refine And.intro (fun h13_1 => ?_) (fun h13_1 => ?_)
  · refine tg_steps 4 rfl ?_
    refine tg_ialdN rfl rfl (j) rfl (by omega) (by decide) ?_
    refine tg_steps 2 rfl ?_
    refine tg_irem rfl (fig_j hw hj).1 ?_
    refine tg_ifne rfl rfl (fun h76 => ?_) (fun h76 => ?_)
    · refine tg_steps 1 rfl ?_
      exact tg_iret (st := []) rfl rfl ⟨Nat.le_of_ble_eq_true rfl, Nat.le_of_ble_eq_true rfl⟩ ⟨by first | rfl | (simp (decide := true) only [wyM, decide_true, decide_false, cond_true, cond_false, Bool.false_eq_true, if_true, if_false, ite_true, ite_false, h13_0, eq_true h13_1, h76]; done) | (simp (decide := true) only [wyM, decide_true, decide_false, cond_true, cond_false, Bool.false_eq_true, if_true, if_false, ite_true, ite_false, h13_0, h13_1, h76]; done), rfl⟩
    · refine tg_steps 2 rfl ?_
      refine tg_callV rfl (m_skaterWay _) rfl rfl rfl rfl rfl (fun v81 w81 q81 => ?_)
      obtain ⟨rfl, rfl⟩ := q81
      refine tg_steps 1 rfl ?_
      exact tg_iret (st := []) rfl rfl ⟨Nat.le_of_ble_eq_true rfl, Nat.le_of_ble_eq_true rfl⟩ ⟨by first | rfl | (simp (decide := true) only [wyM, decide_true, decide_false, cond_true, cond_false, Bool.false_eq_true, if_true, if_false, ite_true, ite_false, h13_0, eq_true h13_1, eq_true h76]; done) | (simp (decide := true) only [wyM, decide_true, decide_false, cond_true, cond_false, Bool.false_eq_true, if_true, if_false, ite_true, ite_false, h13_0, h13_1, h76]; done), rfl⟩
  refine And.intro (fun h13_2 => ?_) (fun h13_2 => ?_)
  · refine tg_steps 2 rfl ?_
    refine tg_callV rfl (m_toShip _) rfl rfl rfl rfl rfl (fun v92 w92 q92 => ?_)
    obtain ⟨rfl, rfl⟩ := q92
    exact tg_iret (st := []) rfl rfl ⟨Nat.le_of_ble_eq_true rfl, Nat.le_of_ble_eq_true rfl⟩ ⟨by first | rfl | (simp (decide := true) only [wyM, decide_true, decide_false, cond_true, cond_false, Bool.false_eq_true, if_true, if_false, ite_true, ite_false, h13_0, h13_1, eq_true h13_2]; done) | (simp (decide := true) only [wyM, decide_true, decide_false, cond_true, cond_false, Bool.false_eq_true, if_true, if_false, ite_true, ite_false, h13_0, h13_1, h13_2]; done), rfl⟩
  refine And.intro (fun h13_3 => ?_) (fun h13_3 => ?_)
  · refine tg_steps 3 rfl ?_
    refine tg_callV rfl (m_wifeWay _ _) rfl rfl rfl rfl rfl (fun v99 w99 q99 => ?_)
    obtain ⟨rfl, rfl⟩ := q99
    exact tg_iret (st := []) rfl rfl ⟨Nat.le_of_ble_eq_true rfl, Nat.le_of_ble_eq_true rfl⟩ ⟨by first | rfl | (simp (decide := true) only [wyM, decide_true, decide_false, cond_true, cond_false, Bool.false_eq_true, if_true, if_false, ite_true, ite_false, h13_0, h13_1, h13_2, eq_true h13_3]; done) | (simp (decide := true) only [wyM, decide_true, decide_false, cond_true, cond_false, Bool.false_eq_true, if_true, if_false, ite_true, ite_false, h13_0, h13_1, h13_2, h13_3]; done), rfl⟩
  refine And.intro (fun h13_4 => ?_) (fun h13_4 => ?_)
  · refine tg_steps 2 rfl ?_
    refine tg_callV rfl (m_areOthersAboard hm _) rfl rfl rfl rfl rfl (fun v105 w105 q105 => ?_)
    obtain ⟨rfl, rfl⟩ := q105
    refine tg_ifbeq rfl rfl (fun h108 => ?_) (fun h108 => ?_)
    · refine tg_steps 1 rfl ?_
      exact tg_iret (st := []) rfl rfl ⟨Nat.le_of_ble_eq_true rfl, Nat.le_of_ble_eq_true rfl⟩ ⟨by first | rfl | (simp (decide := true) only [wyM, decide_true, decide_false, cond_true, cond_false, Bool.false_eq_true, if_true, if_false, ite_true, ite_false, h13_0, h13_1, h13_2, h13_3, eq_true h13_4, h108]; done) | (simp (decide := true) only [wyM, decide_true, decide_false, cond_true, cond_false, Bool.false_eq_true, if_true, if_false, ite_true, ite_false, h13_0, h13_1, h13_2, h13_3, h13_4, h108]; done), rfl⟩
    · refine tg_steps 2 rfl ?_
      refine tg_callV rfl (m_toShip _) rfl rfl rfl rfl rfl (fun v113 w113 q113 => ?_)
      obtain ⟨rfl, rfl⟩ := q113
      refine tg_steps 1 rfl ?_
      exact tg_iret (st := []) rfl rfl ⟨Nat.le_of_ble_eq_true rfl, Nat.le_of_ble_eq_true rfl⟩ ⟨by first | rfl | (simp (decide := true) only [wyM, decide_true, decide_false, cond_true, cond_false, Bool.false_eq_true, if_true, if_false, ite_true, ite_false, h13_0, h13_1, h13_2, h13_3, eq_true h13_4, h108]; done) | (simp (decide := true) only [wyM, decide_true, decide_false, cond_true, cond_false, Bool.false_eq_true, if_true, if_false, ite_true, ite_false, h13_0, h13_1, h13_2, h13_3, h13_4, h108]; done), rfl⟩
  refine tg_steps 2 rfl ?_
  refine tg_callV rfl (m_skaterWay _) rfl rfl rfl rfl rfl (fun v124 w124 q124 => ?_)
  obtain ⟨rfl, rfl⟩ := q124
  exact tg_iret (st := []) rfl rfl ⟨Nat.le_of_ble_eq_true rfl, Nat.le_of_ble_eq_true rfl⟩ ⟨by first | rfl | (simp (decide := true) only [wyM, decide_true, decide_false, cond_true, cond_false, Bool.false_eq_true, if_true, if_false, ite_true, ite_false, h13_0, h13_1, h13_2, h13_3, h13_4]; done) | (simp (decide := true) only [wyM, decide_true, decide_false, cond_true, cond_false, Bool.false_eq_true, if_true, if_false, ite_true, ite_false, h13_0, h13_1, h13_2, h13_3, h13_4]; done), rfl⟩
set_option maxRecDepth 100000 in
set_option maxHeartbeats 2000000 in
theorem m_manyOn {G : tg_G} {l : List tg_Cl} {h : tp_H} {y : tp_Y} (hm : hM h ≤ 7) (t : Int32) : tg_C G 1 mX11_manyOn 0 0 [.ref 64, .int t] (l, tm_cs h y) (fun v w => v = some (.int (mAt h t)) ∧ w = (l, tm_cs h y)) := by
  refine tg_intro okX11_manyOn (Nat.le_of_ble_eq_true rfl) ?_
  refine tg_steps 4 rfl ?_
  refine tg_pkV [0, 1, 2, 3] ?_
  refine tg_eqS (L2 := [(0, .ref 64), (1, .int t), (2, .int (cI (fun i => decide (hT h i = t)) (0))), (3, .int (nI (0)))]) (st2 := []) (w2 := (l, tm_cs h y)) rfl rfl rfl ?_
  refine tg_down (φ := fun i : Nat => tg_V G 1 mX11_manyOn 0 0 0 0 (fun v w => v = some (.int (mAt h t)) ∧ w = (l, tm_cs h y)) 4 [(0, .ref 64), (1, .int t), (2, .int (cI (fun i => decide (hT h i = t)) (i))), (3, .int (nI (i)))] [] (l, tm_cs h y)) (n := hM h) ?_ ?_ 0 (Nat.zero_le _) 
  · refine tg_steps 3 rfl ?_
    refine tg_icge rfl rfl (fun h9 => ?_) (fun h9 => ?_)
    · refine tg_steps 1 rfl ?_
      exact tg_iret (st := []) rfl rfl ⟨Nat.le_of_ble_eq_true rfl, Nat.le_of_ble_eq_true rfl⟩ ⟨rfl, rfl⟩
    · exact absurd (nI_le (Nat.le_refl _) (by omega)) h9
  · intro i hi4 ih4
    refine tg_steps 3 rfl ?_
    refine tg_icge rfl rfl (fun h9 => ?_) (fun h9 => ?_)
    · exact absurd h9 (nI_ge hi4 (by omega))
    · refine tg_steps 4 rfl ?_
      refine tg_ialdN rfl rfl (i) rfl (by omega) (by decide) ?_
      refine tg_steps 1 rfl ?_
      refine tg_icne rfl rfl (fun h20 => ?_) (fun h20 => ?_)
      · refine tg_steps 5 rfl ?_
        refine tg_pkV [0, 1, 2, 3] ?_
        refine tg_eqS (L2 := [(0, .ref 64), (1, .int t), (2, .int (cI (fun i => decide (hT h i = t)) (i + 1))), (3, .int (nI (i + 1)))]) (st2 := []) (w2 := (l, tm_cs h y)) (by first | (simp (decide := true) only [nI_succ, cI_succ, Int32.add_zero, decide_true, decide_false, cond_true, cond_false, Bool.false_eq_true, if_true, if_false, ite_true, ite_false, h20]; done) | (simp (decide := true) only [nI_succ, cI_succ, Int32.add_zero, decide_true, decide_false, cond_true, cond_false, Bool.false_eq_true, if_true, if_false, ite_true, ite_false, h20]; rfl) | rfl) rfl (by first | (simp (decide := true) only [nI_succ, cI_succ, Int32.add_zero, decide_true, decide_false, cond_true, cond_false, Bool.false_eq_true, if_true, if_false, ite_true, ite_false, h20]; done) | (simp (decide := true) only [nI_succ, cI_succ, Int32.add_zero, decide_true, decide_false, cond_true, cond_false, Bool.false_eq_true, if_true, if_false, ite_true, ite_false, h20]; rfl) | rfl) ?_
        exact ih4
      · refine tg_steps 6 rfl ?_
        refine tg_pkV [0, 1, 2, 3] ?_
        refine tg_eqS (L2 := [(0, .ref 64), (1, .int t), (2, .int (cI (fun i => decide (hT h i = t)) (i + 1))), (3, .int (nI (i + 1)))]) (st2 := []) (w2 := (l, tm_cs h y)) (by first | (simp (decide := true) only [nI_succ, cI_succ, Int32.add_zero, decide_true, decide_false, cond_true, cond_false, Bool.false_eq_true, if_true, if_false, ite_true, ite_false, eq_true h20]; done) | (simp (decide := true) only [nI_succ, cI_succ, Int32.add_zero, decide_true, decide_false, cond_true, cond_false, Bool.false_eq_true, if_true, if_false, ite_true, ite_false, eq_true h20]; rfl) | rfl) rfl (by first | (simp (decide := true) only [nI_succ, cI_succ, Int32.add_zero, decide_true, decide_false, cond_true, cond_false, Bool.false_eq_true, if_true, if_false, ite_true, ite_false, eq_true h20]; done) | (simp (decide := true) only [nI_succ, cI_succ, Int32.add_zero, decide_true, decide_false, cond_true, cond_false, Bool.false_eq_true, if_true, if_false, ite_true, ite_false, eq_true h20]; rfl) | rfl) ?_
        exact ih4
set_option maxRecDepth 100000 in
set_option maxHeartbeats 2000000 in
theorem m_thoseOn {G : tg_G} {l : List tg_Cl} {h : tp_H} {y : tp_Y} (hm : hM h ≤ 7) (t : Int32) : tg_C G 1 mX11_thoseOn 0 0 [.ref 64, .int t] (l, tm_cs h y) (fun v w => v = some (.int (oAt h t)) ∧ w = (l, tm_cs h y)) := by
  refine tg_intro okX11_thoseOn (Nat.le_of_ble_eq_true rfl) ?_
  refine tg_steps 4 rfl ?_
  refine tg_pkV [0, 1, 2, 3] ?_
  refine tg_eqS (L2 := [(0, .ref 64), (1, .int t), (2, .int (bI (fun i => decide (hT h i = t)) (0))), (3, .int (nI (0)))]) (st2 := []) (w2 := (l, tm_cs h y)) rfl rfl rfl ?_
  refine tg_down (φ := fun i : Nat => tg_V G 1 mX11_thoseOn 0 0 0 0 (fun v w => v = some (.int (oAt h t)) ∧ w = (l, tm_cs h y)) 4 [(0, .ref 64), (1, .int t), (2, .int (bI (fun i => decide (hT h i = t)) (i))), (3, .int (nI (i)))] [] (l, tm_cs h y)) (n := hM h) ?_ ?_ 0 (Nat.zero_le _) 
  · refine tg_steps 3 rfl ?_
    refine tg_icge rfl rfl (fun h9 => ?_) (fun h9 => ?_)
    · refine tg_steps 1 rfl ?_
      exact tg_iret (st := []) rfl rfl ⟨Nat.le_of_ble_eq_true rfl, Nat.le_of_ble_eq_true rfl⟩ ⟨rfl, rfl⟩
    · exact absurd (nI_le (Nat.le_refl _) (by omega)) h9
  · intro i hi4 ih4
    refine tg_steps 3 rfl ?_
    refine tg_icge rfl rfl (fun h9 => ?_) (fun h9 => ?_)
    · exact absurd h9 (nI_ge hi4 (by omega))
    · refine tg_steps 4 rfl ?_
      refine tg_ialdN rfl rfl (i) rfl (by omega) (by decide) ?_
      refine tg_steps 1 rfl ?_
      refine tg_icne rfl rfl (fun h20 => ?_) (fun h20 => ?_)
      · refine tg_steps 5 rfl ?_
        refine tg_pkV [0, 1, 2, 3] ?_
        refine tg_eqS (L2 := [(0, .ref 64), (1, .int t), (2, .int (bI (fun i => decide (hT h i = t)) (i + 1))), (3, .int (nI (i + 1)))]) (st2 := []) (w2 := (l, tm_cs h y)) (by first | (simp (decide := true) only [nI_succ, bI_succ, Int32.or_zero, decide_true, decide_false, cond_true, cond_false, Bool.false_eq_true, if_true, if_false, ite_true, ite_false, h20]; done) | (simp (decide := true) only [nI_succ, bI_succ, Int32.or_zero, decide_true, decide_false, cond_true, cond_false, Bool.false_eq_true, if_true, if_false, ite_true, ite_false, h20]; rfl) | rfl) rfl (by first | (simp (decide := true) only [nI_succ, bI_succ, Int32.or_zero, decide_true, decide_false, cond_true, cond_false, Bool.false_eq_true, if_true, if_false, ite_true, ite_false, h20]; done) | (simp (decide := true) only [nI_succ, bI_succ, Int32.or_zero, decide_true, decide_false, cond_true, cond_false, Bool.false_eq_true, if_true, if_false, ite_true, ite_false, h20]; rfl) | rfl) ?_
        exact ih4
      · refine tg_steps 8 rfl ?_
        refine tg_pkV [0, 1, 2, 3] ?_
        refine tg_eqS (L2 := [(0, .ref 64), (1, .int t), (2, .int (bI (fun i => decide (hT h i = t)) (i + 1))), (3, .int (nI (i + 1)))]) (st2 := []) (w2 := (l, tm_cs h y)) (by first | (simp (decide := true) only [nI_succ, bI_succ, Int32.or_zero, decide_true, decide_false, cond_true, cond_false, Bool.false_eq_true, if_true, if_false, ite_true, ite_false, eq_true h20]; done) | (simp (decide := true) only [nI_succ, bI_succ, Int32.or_zero, decide_true, decide_false, cond_true, cond_false, Bool.false_eq_true, if_true, if_false, ite_true, ite_false, eq_true h20]; rfl) | rfl) rfl (by first | (simp (decide := true) only [nI_succ, bI_succ, Int32.or_zero, decide_true, decide_false, cond_true, cond_false, Bool.false_eq_true, if_true, if_false, ite_true, ite_false, eq_true h20]; done) | (simp (decide := true) only [nI_succ, bI_succ, Int32.or_zero, decide_true, decide_false, cond_true, cond_false, Bool.false_eq_true, if_true, if_false, ite_true, ite_false, eq_true h20]; rfl) | rfl) ?_
        exact ih4
set_option maxRecDepth 100000 in
set_option maxHeartbeats 2000000 in
theorem m_aboardNow {G : tg_G} {l : List tg_Cl} {h : tp_H} {y : tp_Y} (hm : hM h ≤ 7) : tg_C G 2 mX11_aboardNow 0 0 [.ref 64] (l, tm_cs h y) (fun v w => v = some (.int (oAt h (hS h))) ∧ w = (l, tm_cs h y)) := by
  refine tg_intro okX11_aboardNow (Nat.le_of_ble_eq_true rfl) ?_
  refine tg_steps 4 rfl ?_
  refine tg_pkV [0, 1, 2] ?_
  refine tg_eqS (L2 := [(0, .ref 64), (1, .int (bI (fun i => decide (hT h i = hS h)) (0))), (2, .int (nI (0)))]) (st2 := []) (w2 := (l, tm_cs h y)) rfl rfl rfl ?_
  refine tg_down (φ := fun i : Nat => tg_V G 2 mX11_aboardNow 0 0 0 0 (fun v w => v = some (.int (oAt h (hS h))) ∧ w = (l, tm_cs h y)) 4 [(0, .ref 64), (1, .int (bI (fun i => decide (hT h i = hS h)) (i))), (2, .int (nI (i)))] [] (l, tm_cs h y)) (n := hM h) ?_ ?_ 0 (Nat.zero_le _) 
  · refine tg_steps 3 rfl ?_
    refine tg_icge rfl rfl (fun h9 => ?_) (fun h9 => ?_)
    · refine tg_steps 1 rfl ?_
      exact tg_iret (st := []) rfl rfl ⟨Nat.le_of_ble_eq_true rfl, Nat.le_of_ble_eq_true rfl⟩ ⟨rfl, rfl⟩
    · exact absurd (nI_le (Nat.le_refl _) (by omega)) h9
  · intro i hi4 ih4
    refine tg_steps 3 rfl ?_
    refine tg_icge rfl rfl (fun h9 => ?_) (fun h9 => ?_)
    · exact absurd h9 (nI_ge hi4 (by omega))
    · refine tg_steps 3 rfl ?_
      refine tg_callV rfl (m_isAboard hm i hi4) rfl rfl rfl rfl rfl (fun v15 w15 q15 => ?_)
      obtain ⟨rfl, rfl⟩ := q15
      rw [abB_j hm hi4]
      refine tg_ifbeq rfl rfl (fun h18 => ?_) (fun h18 => ?_)
      · refine tg_steps 5 rfl ?_
        refine tg_pkV [0, 1, 2] ?_
        refine tg_eqS (L2 := [(0, .ref 64), (1, .int (bI (fun i => decide (hT h i = hS h)) (i + 1))), (2, .int (nI (i + 1)))]) (st2 := []) (w2 := (l, tm_cs h y)) (by first | (simp (decide := true) only [nI_succ, bI_succ, Int32.or_zero, decide_true, decide_false, cond_true, cond_false, Bool.false_eq_true, if_true, if_false, ite_true, ite_false, h18]; done) | (simp (decide := true) only [nI_succ, bI_succ, Int32.or_zero, decide_true, decide_false, cond_true, cond_false, Bool.false_eq_true, if_true, if_false, ite_true, ite_false, h18]; rfl) | rfl) rfl (by first | (simp (decide := true) only [nI_succ, bI_succ, Int32.or_zero, decide_true, decide_false, cond_true, cond_false, Bool.false_eq_true, if_true, if_false, ite_true, ite_false, h18]; done) | (simp (decide := true) only [nI_succ, bI_succ, Int32.or_zero, decide_true, decide_false, cond_true, cond_false, Bool.false_eq_true, if_true, if_false, ite_true, ite_false, h18]; rfl) | rfl) ?_
        exact ih4
      · refine tg_steps 8 rfl ?_
        refine tg_pkV [0, 1, 2] ?_
        refine tg_eqS (L2 := [(0, .ref 64), (1, .int (bI (fun i => decide (hT h i = hS h)) (i + 1))), (2, .int (nI (i + 1)))]) (st2 := []) (w2 := (l, tm_cs h y)) (by first | (simp (decide := true) only [nI_succ, bI_succ, Int32.or_zero, decide_true, decide_false, cond_true, cond_false, Bool.false_eq_true, if_true, if_false, ite_true, ite_false, h18]; done) | (simp (decide := true) only [nI_succ, bI_succ, Int32.or_zero, decide_true, decide_false, cond_true, cond_false, Bool.false_eq_true, if_true, if_false, ite_true, ite_false, h18]; rfl) | rfl) rfl (by first | (simp (decide := true) only [nI_succ, bI_succ, Int32.or_zero, decide_true, decide_false, cond_true, cond_false, Bool.false_eq_true, if_true, if_false, ite_true, ite_false, h18]; done) | (simp (decide := true) only [nI_succ, bI_succ, Int32.or_zero, decide_true, decide_false, cond_true, cond_false, Bool.false_eq_true, if_true, if_false, ite_true, ite_false, h18]; rfl) | rfl) ?_
        exact ih4
set_option maxRecDepth 100000 in
set_option maxHeartbeats 2000000 in
theorem m_homesNow {G : tg_G} {l : List tg_Cl} {h : tp_H} {y : tp_Y} (hm : hM h ≤ 7) : tg_C G 1 mX11_homesNow 0 0 [.ref 64] (l, tm_cs h y) (fun v w => v = some (.int (hoM h)) ∧ w = (l, tm_cs h y)) := by
  refine tg_intro okX11_homesNow (Nat.le_of_ble_eq_true rfl) ?_
  refine tg_steps 4 rfl ?_
  refine tg_pkV [0, 1, 2] ?_
  refine tg_eqS (L2 := [(0, .ref 64), (1, .int (cI (fun i => decide (hT h i = hH h i)) (0))), (2, .int (nI (0)))]) (st2 := []) (w2 := (l, tm_cs h y)) rfl rfl rfl ?_
  refine tg_down (φ := fun i : Nat => tg_V G 1 mX11_homesNow 0 0 0 0 (fun v w => v = some (.int (hoM h)) ∧ w = (l, tm_cs h y)) 4 [(0, .ref 64), (1, .int (cI (fun i => decide (hT h i = hH h i)) (i))), (2, .int (nI (i)))] [] (l, tm_cs h y)) (n := hM h) ?_ ?_ 0 (Nat.zero_le _) 
  · refine tg_steps 3 rfl ?_
    refine tg_icge rfl rfl (fun h9 => ?_) (fun h9 => ?_)
    · refine tg_steps 1 rfl ?_
      exact tg_iret (st := []) rfl rfl ⟨Nat.le_of_ble_eq_true rfl, Nat.le_of_ble_eq_true rfl⟩ ⟨rfl, rfl⟩
    · exact absurd (nI_le (Nat.le_refl _) (by omega)) h9
  · intro i hi4 ih4
    refine tg_steps 3 rfl ?_
    refine tg_icge rfl rfl (fun h9 => ?_) (fun h9 => ?_)
    · exact absurd h9 (nI_ge hi4 (by omega))
    · refine tg_steps 4 rfl ?_
      refine tg_ialdN rfl rfl (i) rfl (by omega) (by decide) ?_
      refine tg_steps 3 rfl ?_
      refine tg_ialdN rfl rfl (i) rfl (by omega) (by decide) ?_
      refine tg_icne rfl rfl (fun h25 => ?_) (fun h25 => ?_)
      · refine tg_steps 5 rfl ?_
        refine tg_pkV [0, 1, 2] ?_
        refine tg_eqS (L2 := [(0, .ref 64), (1, .int (cI (fun i => decide (hT h i = hH h i)) (i + 1))), (2, .int (nI (i + 1)))]) (st2 := []) (w2 := (l, tm_cs h y)) (by first | (simp (decide := true) only [nI_succ, cI_succ, Int32.add_zero, decide_true, decide_false, cond_true, cond_false, Bool.false_eq_true, if_true, if_false, ite_true, ite_false, h25]; done) | (simp (decide := true) only [nI_succ, cI_succ, Int32.add_zero, decide_true, decide_false, cond_true, cond_false, Bool.false_eq_true, if_true, if_false, ite_true, ite_false, h25]; rfl) | rfl) rfl (by first | (simp (decide := true) only [nI_succ, cI_succ, Int32.add_zero, decide_true, decide_false, cond_true, cond_false, Bool.false_eq_true, if_true, if_false, ite_true, ite_false, h25]; done) | (simp (decide := true) only [nI_succ, cI_succ, Int32.add_zero, decide_true, decide_false, cond_true, cond_false, Bool.false_eq_true, if_true, if_false, ite_true, ite_false, h25]; rfl) | rfl) ?_
        exact ih4
      · refine tg_steps 6 rfl ?_
        refine tg_pkV [0, 1, 2] ?_
        refine tg_eqS (L2 := [(0, .ref 64), (1, .int (cI (fun i => decide (hT h i = hH h i)) (i + 1))), (2, .int (nI (i + 1)))]) (st2 := []) (w2 := (l, tm_cs h y)) (by first | (simp (decide := true) only [nI_succ, cI_succ, Int32.add_zero, decide_true, decide_false, cond_true, cond_false, Bool.false_eq_true, if_true, if_false, ite_true, ite_false, eq_true h25]; done) | (simp (decide := true) only [nI_succ, cI_succ, Int32.add_zero, decide_true, decide_false, cond_true, cond_false, Bool.false_eq_true, if_true, if_false, ite_true, ite_false, eq_true h25]; rfl) | rfl) rfl (by first | (simp (decide := true) only [nI_succ, cI_succ, Int32.add_zero, decide_true, decide_false, cond_true, cond_false, Bool.false_eq_true, if_true, if_false, ite_true, ite_false, eq_true h25]; done) | (simp (decide := true) only [nI_succ, cI_succ, Int32.add_zero, decide_true, decide_false, cond_true, cond_false, Bool.false_eq_true, if_true, if_false, ite_true, ite_false, eq_true h25]; rfl) | rfl) ?_
        exact ih4
set_option maxRecDepth 100000 in
set_option maxHeartbeats 2000000 in
theorem m_lostHomes {G : tg_G} {l : List tg_Cl} {h : tp_H} {y : tp_Y} (hm : hM h ≤ 7) : tg_C G 2 mX11_lostHomes 0 0 [.ref 64] (l, tm_cs h y) (fun v w => v = some (.int (loM h)) ∧ w = (l, tm_cs h y)) := by
  refine tg_intro okX11_lostHomes (Nat.le_of_ble_eq_true rfl) ?_
  refine tg_steps 4 rfl ?_
  refine tg_pkV [0, 1, 2] ?_
  refine tg_eqS (L2 := [(0, .ref 64), (1, .int (cI (fun i => hsB (hC h) (hH h i)) (0))), (2, .int (nI (0)))]) (st2 := []) (w2 := (l, tm_cs h y)) rfl rfl rfl ?_
  refine tg_down (φ := fun i : Nat => tg_V G 2 mX11_lostHomes 0 0 0 0 (fun v w => v = some (.int (loM h)) ∧ w = (l, tm_cs h y)) 4 [(0, .ref 64), (1, .int (cI (fun i => hsB (hC h) (hH h i)) (i))), (2, .int (nI (i)))] [] (l, tm_cs h y)) (n := hM h) ?_ ?_ 0 (Nat.zero_le _) 
  · refine tg_steps 3 rfl ?_
    refine tg_icge rfl rfl (fun h9 => ?_) (fun h9 => ?_)
    · refine tg_steps 1 rfl ?_
      exact tg_iret (st := []) rfl rfl ⟨Nat.le_of_ble_eq_true rfl, Nat.le_of_ble_eq_true rfl⟩ ⟨rfl, rfl⟩
    · exact absurd (nI_le (Nat.le_refl _) (by omega)) h9
  · intro i hi4 ih4
    refine tg_steps 3 rfl ?_
    refine tg_icge rfl rfl (fun h9 => ?_) (fun h9 => ?_)
    · exact absurd h9 (nI_ge hi4 (by omega))
    · refine tg_steps 6 rfl ?_
      refine tg_ialdN rfl rfl (i) rfl (by omega) (by decide) ?_
      refine tg_call1 rfl (m_has _ _) rfl rfl rfl  (fun v23 w23 q23 => ?_)
      obtain ⟨rfl, rfl⟩ := q23
      refine tg_ifbeq rfl rfl (fun h26 => ?_) (fun h26 => ?_)
      · refine tg_steps 5 rfl ?_
        refine tg_pkV [0, 1, 2] ?_
        refine tg_eqS (L2 := [(0, .ref 64), (1, .int (cI (fun i => hsB (hC h) (hH h i)) (i + 1))), (2, .int (nI (i + 1)))]) (st2 := []) (w2 := (l, tm_cs h y)) (by first | (simp (decide := true) only [nI_succ, cI_succ, Int32.add_zero, decide_true, decide_false, cond_true, cond_false, Bool.false_eq_true, if_true, if_false, ite_true, ite_false, h26]; done) | (simp (decide := true) only [nI_succ, cI_succ, Int32.add_zero, decide_true, decide_false, cond_true, cond_false, Bool.false_eq_true, if_true, if_false, ite_true, ite_false, h26]; rfl) | rfl) rfl (by first | (simp (decide := true) only [nI_succ, cI_succ, Int32.add_zero, decide_true, decide_false, cond_true, cond_false, Bool.false_eq_true, if_true, if_false, ite_true, ite_false, h26]; done) | (simp (decide := true) only [nI_succ, cI_succ, Int32.add_zero, decide_true, decide_false, cond_true, cond_false, Bool.false_eq_true, if_true, if_false, ite_true, ite_false, h26]; rfl) | rfl) ?_
        exact ih4
      · refine tg_steps 6 rfl ?_
        refine tg_pkV [0, 1, 2] ?_
        refine tg_eqS (L2 := [(0, .ref 64), (1, .int (cI (fun i => hsB (hC h) (hH h i)) (i + 1))), (2, .int (nI (i + 1)))]) (st2 := []) (w2 := (l, tm_cs h y)) (by first | (simp (decide := true) only [nI_succ, cI_succ, Int32.add_zero, decide_true, decide_false, cond_true, cond_false, Bool.false_eq_true, if_true, if_false, ite_true, ite_false, h26]; done) | (simp (decide := true) only [nI_succ, cI_succ, Int32.add_zero, decide_true, decide_false, cond_true, cond_false, Bool.false_eq_true, if_true, if_false, ite_true, ite_false, h26]; rfl) | rfl) rfl (by first | (simp (decide := true) only [nI_succ, cI_succ, Int32.add_zero, decide_true, decide_false, cond_true, cond_false, Bool.false_eq_true, if_true, if_false, ite_true, ite_false, h26]; done) | (simp (decide := true) only [nI_succ, cI_succ, Int32.add_zero, decide_true, decide_false, cond_true, cond_false, Bool.false_eq_true, if_true, if_false, ite_true, ite_false, h26]; rfl) | rfl) ?_
        exact ih4
set_option maxRecDepth 100000 in
set_option maxHeartbeats 2000000 in
theorem m_pinnedNow {G : tg_G} {l : List tg_Cl} {h : tp_H} {y : tp_Y} (hm : hM h ≤ 7) : tg_C G 1 mX11_pinnedNow 0 0 [.ref 64] (l, tm_cs h y) (fun v w => v = some (.int (piM h)) ∧ w = (l, tm_cs h y)) := by
  refine tg_intro okX11_pinnedNow (Nat.le_of_ble_eq_true rfl) ?_
  refine tg_steps 4 rfl ?_
  refine tg_pkV [0, 1, 2] ?_
  refine tg_eqS (L2 := [(0, .ref 64), (1, .int (cI (fun i => decide (0 < hP h i)) (0))), (2, .int (nI (0)))]) (st2 := []) (w2 := (l, tm_cs h y)) rfl rfl rfl ?_
  refine tg_down (φ := fun i : Nat => tg_V G 1 mX11_pinnedNow 0 0 0 0 (fun v w => v = some (.int (piM h)) ∧ w = (l, tm_cs h y)) 4 [(0, .ref 64), (1, .int (cI (fun i => decide (0 < hP h i)) (i))), (2, .int (nI (i)))] [] (l, tm_cs h y)) (n := hM h) ?_ ?_ 0 (Nat.zero_le _) 
  · refine tg_steps 3 rfl ?_
    refine tg_icge rfl rfl (fun h9 => ?_) (fun h9 => ?_)
    · refine tg_steps 1 rfl ?_
      exact tg_iret (st := []) rfl rfl ⟨Nat.le_of_ble_eq_true rfl, Nat.le_of_ble_eq_true rfl⟩ ⟨rfl, rfl⟩
    · exact absurd (nI_le (Nat.le_refl _) (by omega)) h9
  · intro i hi4 ih4
    refine tg_steps 3 rfl ?_
    refine tg_icge rfl rfl (fun h9 => ?_) (fun h9 => ?_)
    · exact absurd h9 (nI_ge hi4 (by omega))
    · refine tg_steps 4 rfl ?_
      refine tg_ialdN rfl rfl (i) rfl (by omega) (by decide) ?_
      refine tg_ifle rfl rfl (fun h19 => ?_) (fun h19 => ?_)
      · refine tg_steps 5 rfl ?_
        refine tg_pkV [0, 1, 2] ?_
        refine tg_eqS (L2 := [(0, .ref 64), (1, .int (cI (fun i => decide (0 < hP h i)) (i + 1))), (2, .int (nI (i + 1)))]) (st2 := []) (w2 := (l, tm_cs h y)) (by first | (simp (decide := true) only [nI_succ, cI_succ, Int32.add_zero, decide_true, decide_false, cond_true, cond_false, Bool.false_eq_true, if_true, if_false, ite_true, ite_false, h19, Int32.not_lt.mpr h19]; done) | (simp (decide := true) only [nI_succ, cI_succ, Int32.add_zero, decide_true, decide_false, cond_true, cond_false, Bool.false_eq_true, if_true, if_false, ite_true, ite_false, h19, Int32.not_lt.mpr h19]; rfl) | rfl) rfl (by first | (simp (decide := true) only [nI_succ, cI_succ, Int32.add_zero, decide_true, decide_false, cond_true, cond_false, Bool.false_eq_true, if_true, if_false, ite_true, ite_false, h19, Int32.not_lt.mpr h19]; done) | (simp (decide := true) only [nI_succ, cI_succ, Int32.add_zero, decide_true, decide_false, cond_true, cond_false, Bool.false_eq_true, if_true, if_false, ite_true, ite_false, h19, Int32.not_lt.mpr h19]; rfl) | rfl) ?_
        exact ih4
      · refine tg_steps 6 rfl ?_
        refine tg_pkV [0, 1, 2] ?_
        refine tg_eqS (L2 := [(0, .ref 64), (1, .int (cI (fun i => decide (0 < hP h i)) (i + 1))), (2, .int (nI (i + 1)))]) (st2 := []) (w2 := (l, tm_cs h y)) (by first | (simp (decide := true) only [nI_succ, cI_succ, Int32.add_zero, decide_true, decide_false, cond_true, cond_false, Bool.false_eq_true, if_true, if_false, ite_true, ite_false, h19, Int32.not_le.mp h19]; done) | (simp (decide := true) only [nI_succ, cI_succ, Int32.add_zero, decide_true, decide_false, cond_true, cond_false, Bool.false_eq_true, if_true, if_false, ite_true, ite_false, h19, Int32.not_le.mp h19]; rfl) | rfl) rfl (by first | (simp (decide := true) only [nI_succ, cI_succ, Int32.add_zero, decide_true, decide_false, cond_true, cond_false, Bool.false_eq_true, if_true, if_false, ite_true, ite_false, h19, Int32.not_le.mp h19]; done) | (simp (decide := true) only [nI_succ, cI_succ, Int32.add_zero, decide_true, decide_false, cond_true, cond_false, Bool.false_eq_true, if_true, if_false, ite_true, ite_false, h19, Int32.not_le.mp h19]; rfl) | rfl) ?_
        exact ih4
set_option maxRecDepth 100000 in
set_option maxHeartbeats 2000000 in
theorem m_besideNow {G : tg_G} {l : List tg_Cl} {h : tp_H} {y : tp_Y} (hm : hM h ≤ 7) : tg_C G 3 mX11_besideNow 0 0 [.ref 64] (l, tm_cs h y) (fun v w => v = some (.int (bsO h (hM h))) ∧ w = (l, tm_cs h y)) := by
  refine tg_intro okX11_besideNow (Nat.le_of_ble_eq_true rfl) ?_
  refine tg_steps 4 rfl ?_
  refine tg_pkV [0, 1, 2] ?_
  refine tg_eqS (L2 := [(0, .ref 64), (1, .int (bsO h (0))), (2, .int (nI (0)))]) (st2 := []) (w2 := (l, tm_cs h y)) rfl rfl rfl ?_
  refine tg_down (φ := fun i : Nat => tg_V G 3 mX11_besideNow 0 0 0 0 (fun v w => v = some (.int (bsO h (hM h))) ∧ w = (l, tm_cs h y)) 4 [(0, .ref 64), (1, .int (bsO h (i))), (2, .int (nI (i)))] [] (l, tm_cs h y)) (n := hM h) ?_ ?_ 0 (Nat.zero_le _) 
  · refine tg_steps 3 rfl ?_
    refine tg_icge rfl rfl (fun h9 => ?_) (fun h9 => ?_)
    · refine tg_steps 1 rfl ?_
      exact tg_iret (st := []) rfl rfl ⟨Nat.le_of_ble_eq_true rfl, Nat.le_of_ble_eq_true rfl⟩ ⟨rfl, rfl⟩
    · exact absurd (nI_le (Nat.le_refl _) (by omega)) h9
  · intro i hi4 ih4
    refine tg_steps 3 rfl ?_
    refine tg_icge rfl rfl (fun h9 => ?_) (fun h9 => ?_)
    · exact absurd h9 (nI_ge hi4 (by omega))
    · refine tg_steps 4 rfl ?_
      refine tg_pkV [0, 1, 2, 3] ?_
      refine tg_eqS (L2 := [(0, .ref 64), (1, .int (cB (bsO h i) (bsP h i) ((i + 1)))), (2, .int (nI i)), (3, .int (nI ((i + 1))))]) (st2 := []) (w2 := (l, tm_cs h y)) (by rw [bsO_init, nI_succ]; rfl) rfl rfl ?_
      refine tg_down (φ := fun k : Nat => (i < k) → tg_V G 3 mX11_besideNow 0 0 0 0 (fun v w => v = some (.int (bsO h (hM h))) ∧ w = (l, tm_cs h y)) 16 [(0, .ref 64), (1, .int (cB (bsO h i) (bsP h i) (k))), (2, .int (nI i)), (3, .int (nI (k)))] [] (l, tm_cs h y)) (n := hM h) ?_ ?_ (i + 1) (by omega) ((by omega))
      · intro hinv16
        refine tg_steps 3 rfl ?_
        refine tg_icge rfl rfl (fun h21 => ?_) (fun h21 => ?_)
        · refine tg_steps 2 rfl ?_
          refine tg_pkV [0, 1, 2] ?_
          refine tg_eqS (L2 := [(0, .ref 64), (1, .int (bsO h (i + 1))), (2, .int (nI (i + 1)))]) (st2 := []) (w2 := (l, tm_cs h y)) (by first | (simp (decide := true) only [nI_succ, bsO_succ, decide_true, decide_false, cond_true, cond_false, Bool.false_eq_true, if_true, if_false, ite_true, ite_false, hinv16]; done) | (simp (decide := true) only [nI_succ, bsO_succ, decide_true, decide_false, cond_true, cond_false, Bool.false_eq_true, if_true, if_false, ite_true, ite_false, hinv16]; rfl) | rfl) rfl (by first | (simp (decide := true) only [nI_succ, bsO_succ, decide_true, decide_false, cond_true, cond_false, Bool.false_eq_true, if_true, if_false, ite_true, ite_false, hinv16]; done) | (simp (decide := true) only [nI_succ, bsO_succ, decide_true, decide_false, cond_true, cond_false, Bool.false_eq_true, if_true, if_false, ite_true, ite_false, hinv16]; rfl) | rfl) ?_
          exact ih4
        · exact absurd (nI_le (Nat.le_refl _) (by omega)) h21
      · intro k hi16 ih16 hinv16
        refine tg_steps 3 rfl ?_
        refine tg_icge rfl rfl (fun h21 => ?_) (fun h21 => ?_)
        · exact absurd h21 (nI_ge hi16 (by omega))
        · refine tg_steps 4 rfl ?_
          refine tg_ialdN rfl rfl (i) rfl (by omega) (by decide) ?_
          refine tg_steps 3 rfl ?_
          refine tg_ialdN rfl rfl (k) rfl (by omega) (by decide) ?_
          refine tg_call1 rfl (m_apart _ _) rfl rfl rfl  (fun v37 w37 q37 => ?_)
          obtain ⟨rfl, rfl⟩ := q37
          refine tg_steps 1 rfl ?_
          refine tg_icne rfl rfl (fun h41 => ?_) (fun h41 => ?_)
          · refine tg_steps 5 rfl ?_
            refine tg_pkV [0, 1, 2, 3] ?_
            refine tg_eqS (L2 := [(0, .ref 64), (1, .int (cB (bsO h i) (bsP h i) (k + 1))), (2, .int (nI i)), (3, .int (nI (k + 1)))]) (st2 := []) (w2 := (l, tm_cs h y)) (by first | (simp (decide := true) only [nI_succ, cB_succ, bsP, Int32.add_zero, decide_true, decide_false, cond_true, cond_false, Bool.false_eq_true, if_true, if_false, ite_true, ite_false, hinv16, h41]; done) | (simp (decide := true) only [nI_succ, cB_succ, bsP, Int32.add_zero, decide_true, decide_false, cond_true, cond_false, Bool.false_eq_true, if_true, if_false, ite_true, ite_false, hinv16, h41]; rfl) | rfl) rfl (by first | (simp (decide := true) only [nI_succ, cB_succ, bsP, Int32.add_zero, decide_true, decide_false, cond_true, cond_false, Bool.false_eq_true, if_true, if_false, ite_true, ite_false, hinv16, h41]; done) | (simp (decide := true) only [nI_succ, cB_succ, bsP, Int32.add_zero, decide_true, decide_false, cond_true, cond_false, Bool.false_eq_true, if_true, if_false, ite_true, ite_false, hinv16, h41]; rfl) | rfl) ?_
            exact ih16 (by omega)
          · refine tg_steps 6 rfl ?_
            refine tg_pkV [0, 1, 2, 3] ?_
            refine tg_eqS (L2 := [(0, .ref 64), (1, .int (cB (bsO h i) (bsP h i) (k + 1))), (2, .int (nI i)), (3, .int (nI (k + 1)))]) (st2 := []) (w2 := (l, tm_cs h y)) (by first | (simp (decide := true) only [nI_succ, cB_succ, bsP, Int32.add_zero, decide_true, decide_false, cond_true, cond_false, Bool.false_eq_true, if_true, if_false, ite_true, ite_false, hinv16, eq_true h41]; done) | (simp (decide := true) only [nI_succ, cB_succ, bsP, Int32.add_zero, decide_true, decide_false, cond_true, cond_false, Bool.false_eq_true, if_true, if_false, ite_true, ite_false, hinv16, eq_true h41]; rfl) | rfl) rfl (by first | (simp (decide := true) only [nI_succ, cB_succ, bsP, Int32.add_zero, decide_true, decide_false, cond_true, cond_false, Bool.false_eq_true, if_true, if_false, ite_true, ite_false, hinv16, eq_true h41]; done) | (simp (decide := true) only [nI_succ, cB_succ, bsP, Int32.add_zero, decide_true, decide_false, cond_true, cond_false, Bool.false_eq_true, if_true, if_false, ite_true, ite_false, hinv16, eq_true h41]; rfl) | rfl) ?_
            exact ih16 (by omega)
set_option maxRecDepth 100000 in
set_option maxHeartbeats 2000000 in
theorem m_emptyTiles {G : tg_G} {l : List tg_Cl} {h : tp_H} {y : tp_Y} (hm : hM h ≤ 7) : tg_C G 2 mX11_emptyTiles 0 0 [.ref 64] (l, tm_cs h y) (fun v w => v = some (.int (bI (fun t => decide (mAt h (nI t) = 0)) 24)) ∧ w = (l, tm_cs h y)) := by
  refine tg_intro okX11_emptyTiles (Nat.le_of_ble_eq_true rfl) ?_
  refine tg_steps 4 rfl ?_
  refine tg_pkV [0, 1, 2] ?_
  refine tg_eqS (L2 := [(0, .ref 64), (1, .int (bI (fun t => decide (mAt h (nI t) = 0)) (0))), (2, .int (nI (0)))]) (st2 := []) (w2 := (l, tm_cs h y)) rfl rfl rfl ?_
  refine tg_down (φ := fun i : Nat => tg_V G 2 mX11_emptyTiles 0 0 0 0 (fun v w => v = some (.int (bI (fun t => decide (mAt h (nI t) = 0)) 24)) ∧ w = (l, tm_cs h y)) 4 [(0, .ref 64), (1, .int (bI (fun t => decide (mAt h (nI t) = 0)) (i))), (2, .int (nI (i)))] [] (l, tm_cs h y)) (n := 24) ?_ ?_ 0 (Nat.zero_le _) 
  · refine tg_steps 2 rfl ?_
    refine tg_icge rfl rfl (fun h7 => ?_) (fun h7 => ?_)
    · refine tg_steps 1 rfl ?_
      exact tg_iret (st := []) rfl rfl ⟨Nat.le_of_ble_eq_true rfl, Nat.le_of_ble_eq_true rfl⟩ ⟨rfl, rfl⟩
    · exact absurd (by decide) h7
  · intro i hi4 ih4
    refine tg_steps 2 rfl ?_
    refine tg_icge rfl rfl (fun h7 => ?_) (fun h7 => ?_)
    · exact absurd h7 (nI_ge (b := 24) hi4 (by decide))
    · refine tg_steps 3 rfl ?_
      refine tg_callV rfl (m_manyOn hm _) rfl rfl rfl rfl rfl (fun v13 w13 q13 => ?_)
      obtain ⟨rfl, rfl⟩ := q13
      refine tg_ifne rfl rfl (fun h16 => ?_) (fun h16 => ?_)
      · refine tg_steps 5 rfl ?_
        refine tg_pkV [0, 1, 2] ?_
        refine tg_eqS (L2 := [(0, .ref 64), (1, .int (bI (fun t => decide (mAt h (nI t) = 0)) (i + 1))), (2, .int (nI (i + 1)))]) (st2 := []) (w2 := (l, tm_cs h y)) (by first | (simp (decide := true) only [nI_succ, bI_succ, Int32.or_zero, decide_true, decide_false, cond_true, cond_false, Bool.false_eq_true, if_true, if_false, ite_true, ite_false, h16]; done) | (simp (decide := true) only [nI_succ, bI_succ, Int32.or_zero, decide_true, decide_false, cond_true, cond_false, Bool.false_eq_true, if_true, if_false, ite_true, ite_false, h16]; rfl) | rfl) rfl (by first | (simp (decide := true) only [nI_succ, bI_succ, Int32.or_zero, decide_true, decide_false, cond_true, cond_false, Bool.false_eq_true, if_true, if_false, ite_true, ite_false, h16]; done) | (simp (decide := true) only [nI_succ, bI_succ, Int32.or_zero, decide_true, decide_false, cond_true, cond_false, Bool.false_eq_true, if_true, if_false, ite_true, ite_false, h16]; rfl) | rfl) ?_
        exact ih4
      · refine tg_steps 8 rfl ?_
        refine tg_pkV [0, 1, 2] ?_
        refine tg_eqS (L2 := [(0, .ref 64), (1, .int (bI (fun t => decide (mAt h (nI t) = 0)) (i + 1))), (2, .int (nI (i + 1)))]) (st2 := []) (w2 := (l, tm_cs h y)) (by first | (simp (decide := true) only [nI_succ, bI_succ, Int32.or_zero, decide_true, decide_false, cond_true, cond_false, Bool.false_eq_true, if_true, if_false, ite_true, ite_false, eq_true h16]; done) | (simp (decide := true) only [nI_succ, bI_succ, Int32.or_zero, decide_true, decide_false, cond_true, cond_false, Bool.false_eq_true, if_true, if_false, ite_true, ite_false, eq_true h16]; rfl) | rfl) rfl (by first | (simp (decide := true) only [nI_succ, bI_succ, Int32.or_zero, decide_true, decide_false, cond_true, cond_false, Bool.false_eq_true, if_true, if_false, ite_true, ite_false, eq_true h16]; done) | (simp (decide := true) only [nI_succ, bI_succ, Int32.or_zero, decide_true, decide_false, cond_true, cond_false, Bool.false_eq_true, if_true, if_false, ite_true, ite_false, eq_true h16]; rfl) | rfl) ?_
        exact ih4
set_option maxRecDepth 100000 in
set_option maxHeartbeats 2000000 in
theorem m_crowded {G : tg_G} {l : List tg_Cl} {h : tp_H} {y : tp_Y} (hm : hM h ≤ 7) : tg_C G 2 mX11_crowded 0 0 [.ref 64] (l, tm_cs h y) (fun v w => v = some (.int (fuT h 24)) ∧ w = (l, tm_cs h y)) := by
  refine tg_intro okX11_crowded (Nat.le_of_ble_eq_true rfl) ?_
  refine tg_steps 4 rfl ?_
  refine tg_pkV [0, 1, 2] ?_
  refine tg_eqS (L2 := [(0, .ref 64), (1, .int (fuT h (1))), (2, .int (nI (1)))]) (st2 := []) (w2 := (l, tm_cs h y)) (by rw [fuT_1]; rfl) rfl rfl ?_
  refine tg_down (φ := fun i : Nat => tg_V G 2 mX11_crowded 0 0 0 0 (fun v w => v = some (.int (fuT h 24)) ∧ w = (l, tm_cs h y)) 4 [(0, .ref 64), (1, .int (fuT h (i))), (2, .int (nI (i)))] [] (l, tm_cs h y)) (n := 24) ?_ ?_ 1 (by decide) 
  · refine tg_steps 2 rfl ?_
    refine tg_icge rfl rfl (fun h7 => ?_) (fun h7 => ?_)
    · refine tg_steps 1 rfl ?_
      exact tg_iret (st := []) rfl rfl ⟨Nat.le_of_ble_eq_true rfl, Nat.le_of_ble_eq_true rfl⟩ ⟨rfl, rfl⟩
    · exact absurd (by decide) h7
  · intro i hi4 ih4
    refine tg_steps 2 rfl ?_
    refine tg_icge rfl rfl (fun h7 => ?_) (fun h7 => ?_)
    · exact absurd h7 (nI_ge (b := 24) hi4 (by decide))
    · refine tg_steps 2 rfl ?_
      refine tg_callV rfl (m_manyOn hm _) rfl rfl rfl rfl rfl (fun v12 w12 q12 => ?_)
      obtain ⟨rfl, rfl⟩ := q12
      refine tg_steps 2 rfl ?_
      refine tg_callV rfl (m_manyOn hm _) rfl rfl rfl rfl rfl (fun v17 w17 q17 => ?_)
      obtain ⟨rfl, rfl⟩ := q17
      refine tg_icle rfl rfl (fun h20 => ?_) (fun h20 => ?_)
      · refine tg_steps 4 rfl ?_
        refine tg_pkV [0, 1, 2] ?_
        refine tg_eqS (L2 := [(0, .ref 64), (1, .int (fuT h (i + 1))), (2, .int (nI (i + 1)))]) (st2 := []) (w2 := (l, tm_cs h y)) (by first | (simp (decide := true) only [nI_succ, fuT_succ, decide_true, decide_false, cond_true, cond_false, Bool.false_eq_true, if_true, if_false, ite_true, ite_false, h20, Int32.not_lt.mpr h20]; done) | (simp (decide := true) only [nI_succ, fuT_succ, decide_true, decide_false, cond_true, cond_false, Bool.false_eq_true, if_true, if_false, ite_true, ite_false, h20, Int32.not_lt.mpr h20]; rfl) | rfl) rfl (by first | (simp (decide := true) only [nI_succ, fuT_succ, decide_true, decide_false, cond_true, cond_false, Bool.false_eq_true, if_true, if_false, ite_true, ite_false, h20, Int32.not_lt.mpr h20]; done) | (simp (decide := true) only [nI_succ, fuT_succ, decide_true, decide_false, cond_true, cond_false, Bool.false_eq_true, if_true, if_false, ite_true, ite_false, h20, Int32.not_lt.mpr h20]; rfl) | rfl) ?_
        exact ih4
      · refine tg_steps 5 rfl ?_
        refine tg_pkV [0, 1, 2] ?_
        refine tg_eqS (L2 := [(0, .ref 64), (1, .int (fuT h (i + 1))), (2, .int (nI (i + 1)))]) (st2 := []) (w2 := (l, tm_cs h y)) (by first | (simp (decide := true) only [nI_succ, fuT_succ, decide_true, decide_false, cond_true, cond_false, Bool.false_eq_true, if_true, if_false, ite_true, ite_false, h20, Int32.not_le.mp h20]; done) | (simp (decide := true) only [nI_succ, fuT_succ, decide_true, decide_false, cond_true, cond_false, Bool.false_eq_true, if_true, if_false, ite_true, ite_false, h20, Int32.not_le.mp h20]; rfl) | rfl) rfl (by first | (simp (decide := true) only [nI_succ, fuT_succ, decide_true, decide_false, cond_true, cond_false, Bool.false_eq_true, if_true, if_false, ite_true, ite_false, h20, Int32.not_le.mp h20]; done) | (simp (decide := true) only [nI_succ, fuT_succ, decide_true, decide_false, cond_true, cond_false, Bool.false_eq_true, if_true, if_false, ite_true, ite_false, h20, Int32.not_le.mp h20]; rfl) | rfl) ?_
        exact ih4
set_option maxRecDepth 100000 in
set_option maxHeartbeats 2000000 in
theorem m_fromHome {G : tg_G} {l : List tg_Cl} {h : tp_H} {y : tp_Y} (hm : hM h ≤ 7) (j : Nat) (hj : j < hM h) : tg_C G 3 mX11_fromHome 0 0 [.ref 64, .int (nI j)] (l, tm_cs h y) (fun v w => v = some (.int (frH h (nI j))) ∧ w = (l, tm_cs h y)) := by
  refine tg_intro okX11_fromHome (Nat.le_of_ble_eq_true rfl) ?_
  refine tg_steps 3 rfl ?_
  refine tg_ialdN rfl rfl (j) rfl (by omega) (by decide) ?_
  refine tg_steps 3 rfl ?_
  refine tg_ialdN rfl rfl (j) rfl (by omega) (by decide) ?_
  refine tg_call1 rfl (m_apart _ _) rfl rfl rfl  (fun v12 w12 q12 => ?_)
  obtain ⟨rfl, rfl⟩ := q12
  exact tg_iret (st := []) rfl rfl ⟨Nat.le_of_ble_eq_true rfl, Nat.le_of_ble_eq_true rfl⟩ ⟨by unfold frH; rw [gO_nI hm hj, gO_nI hm hj], rfl⟩
set_option maxRecDepth 100000 in
set_option maxHeartbeats 2000000 in
theorem m_aheadOf0 {G : tg_G} {l : List tg_Cl} {h : tp_H} {y : tp_Y} (hw : wfH h) (j : Nat) (hj : j < hM h) : tg_C G 3 mX11_aheadOf 0 0 [.ref 64, .int (nI j)] (l, tm_cs h y) (fun v w => v = some (.int (cI (ahM h j) (hM h))) ∧ w = (l, tm_cs h y)) := by
  have hm := hw.1
  refine tg_intro okX11_aheadOf (Nat.le_of_ble_eq_true rfl) ?_
  refine tg_steps 4 rfl ?_
  refine tg_pkV [0, 1, 2, 3] ?_
  refine tg_eqS (L2 := [(0, .ref 64), (1, .int (nI j)), (2, .int (cI (ahM h j) (0))), (3, .int (nI (0)))]) (st2 := []) (w2 := (l, tm_cs h y)) rfl rfl rfl ?_
  refine tg_down (φ := fun i : Nat => tg_V G 3 mX11_aheadOf 0 0 0 0 (fun v w => v = some (.int (cI (ahM h j) (hM h))) ∧ w = (l, tm_cs h y)) 4 [(0, .ref 64), (1, .int (nI j)), (2, .int (cI (ahM h j) (i))), (3, .int (nI (i)))] [] (l, tm_cs h y)) (n := hM h) ?_ ?_ 0 (Nat.zero_le _) 
  · refine tg_steps 3 rfl ?_
    refine tg_icge rfl rfl (fun h9 => ?_) (fun h9 => ?_)
    · refine tg_steps 1 rfl ?_
      exact tg_iret (st := []) rfl rfl ⟨Nat.le_of_ble_eq_true rfl, Nat.le_of_ble_eq_true rfl⟩ ⟨rfl, rfl⟩
    · exact absurd (nI_le (Nat.le_refl _) (by omega)) h9
  · intro i hi4 ih4
    refine tg_steps 3 rfl ?_
    refine tg_icge rfl rfl (fun h9 => ?_) (fun h9 => ?_)
    · exact absurd h9 (nI_ge hi4 (by omega))
    · refine tg_steps 3 rfl ?_
      refine tg_ialdN rfl rfl (i) rfl (by omega) (by decide) ?_
      refine tg_steps 2 rfl ?_
      refine tg_call1 rfl (m_apart _ _) rfl rfl rfl  (fun v22 w22 q22 => ?_)
      obtain ⟨rfl, rfl⟩ := q22
      refine tg_steps 4 rfl ?_
      refine tg_ialdN rfl rfl (j) rfl (by omega) (by decide) ?_
      refine tg_steps 2 rfl ?_
      refine tg_call1 rfl (m_apart _ _) rfl rfl rfl  (fun v37 w37 q37 => ?_)
      obtain ⟨rfl, rfl⟩ := q37
      refine tg_steps 4 rfl ?_
      refine tg_callV rfl (m_isAboard hm i hi4) rfl rfl rfl rfl rfl (fun v45 w45 q45 => ?_)
      obtain ⟨rfl, rfl⟩ := q45
      rw [abB_j hm hi4]
      refine tg_ifbne rfl rfl (fun h48 => ?_) (fun h48 => ?_)
      · refine tg_steps 5 rfl ?_
        refine tg_pkV [0, 1, 2, 3] ?_
        refine tg_eqS (L2 := [(0, .ref 64), (1, .int (nI j)), (2, .int (cI (ahM h j) (i + 1))), (3, .int (nI (i + 1)))]) (st2 := []) (w2 := (l, tm_cs h y)) (by first | (simp (decide := true) only [nI_succ, cI_succ, ahM, Int32.add_zero, decide_true, decide_false, cond_true, cond_false, Bool.false_eq_true, if_true, if_false, ite_true, ite_false, h48]; done) | (simp (decide := true) only [nI_succ, cI_succ, ahM, Int32.add_zero, decide_true, decide_false, cond_true, cond_false, Bool.false_eq_true, if_true, if_false, ite_true, ite_false, h48]; rfl) | rfl) rfl (by first | (simp (decide := true) only [nI_succ, cI_succ, ahM, Int32.add_zero, decide_true, decide_false, cond_true, cond_false, Bool.false_eq_true, if_true, if_false, ite_true, ite_false, h48]; done) | (simp (decide := true) only [nI_succ, cI_succ, ahM, Int32.add_zero, decide_true, decide_false, cond_true, cond_false, Bool.false_eq_true, if_true, if_false, ite_true, ite_false, h48]; rfl) | rfl) ?_
        exact ih4
      · refine tg_steps 2 rfl ?_
        refine tg_iclt rfl rfl (fun h55 => ?_) (fun h55 => ?_)
        · refine tg_steps 6 rfl ?_
          refine tg_pkV [0, 1, 2, 3] ?_
          refine tg_eqS (L2 := [(0, .ref 64), (1, .int (nI j)), (2, .int (cI (ahM h j) (i + 1))), (3, .int (nI (i + 1)))]) (st2 := []) (w2 := (l, tm_cs h y)) (by first | (simp (decide := true) only [nI_succ, cI_succ, ahM, Int32.add_zero, decide_true, decide_false, cond_true, cond_false, Bool.false_eq_true, if_true, if_false, ite_true, ite_false, h48, h55, Int32.not_le.mpr h55]; done) | (simp (decide := true) only [nI_succ, cI_succ, ahM, Int32.add_zero, decide_true, decide_false, cond_true, cond_false, Bool.false_eq_true, if_true, if_false, ite_true, ite_false, h48, h55, Int32.not_le.mpr h55]; rfl) | rfl) rfl (by first | (simp (decide := true) only [nI_succ, cI_succ, ahM, Int32.add_zero, decide_true, decide_false, cond_true, cond_false, Bool.false_eq_true, if_true, if_false, ite_true, ite_false, h48, h55, Int32.not_le.mpr h55]; done) | (simp (decide := true) only [nI_succ, cI_succ, ahM, Int32.add_zero, decide_true, decide_false, cond_true, cond_false, Bool.false_eq_true, if_true, if_false, ite_true, ite_false, h48, h55, Int32.not_le.mpr h55]; rfl) | rfl) ?_
          exact ih4
        · refine tg_steps 2 rfl ?_
          refine tg_icne rfl rfl (fun h62 => ?_) (fun h62 => ?_)
          · refine tg_steps 5 rfl ?_
            refine tg_pkV [0, 1, 2, 3] ?_
            refine tg_eqS (L2 := [(0, .ref 64), (1, .int (nI j)), (2, .int (cI (ahM h j) (i + 1))), (3, .int (nI (i + 1)))]) (st2 := []) (w2 := (l, tm_cs h y)) (by first | (simp (decide := true) only [nI_succ, cI_succ, ahM, Int32.add_zero, decide_true, decide_false, cond_true, cond_false, Bool.false_eq_true, if_true, if_false, ite_true, ite_false, h48, h55, Int32.not_lt.mp h55, h62]; done) | (simp (decide := true) only [nI_succ, cI_succ, ahM, Int32.add_zero, decide_true, decide_false, cond_true, cond_false, Bool.false_eq_true, if_true, if_false, ite_true, ite_false, h48, h55, Int32.not_lt.mp h55, h62]; rfl) | rfl) rfl (by first | (simp (decide := true) only [nI_succ, cI_succ, ahM, Int32.add_zero, decide_true, decide_false, cond_true, cond_false, Bool.false_eq_true, if_true, if_false, ite_true, ite_false, h48, h55, Int32.not_lt.mp h55, h62]; done) | (simp (decide := true) only [nI_succ, cI_succ, ahM, Int32.add_zero, decide_true, decide_false, cond_true, cond_false, Bool.false_eq_true, if_true, if_false, ite_true, ite_false, h48, h55, Int32.not_lt.mp h55, h62]; rfl) | rfl) ?_
            exact ih4
          · refine tg_steps 2 rfl ?_
            refine tg_icge rfl rfl (fun h67 => ?_) (fun h67 => ?_)
            · refine tg_steps 5 rfl ?_
              refine tg_pkV [0, 1, 2, 3] ?_
              refine tg_eqS (L2 := [(0, .ref 64), (1, .int (nI j)), (2, .int (cI (ahM h j) (i + 1))), (3, .int (nI (i + 1)))]) (st2 := []) (w2 := (l, tm_cs h y)) (by first | (simp (decide := true) only [nI_succ, cI_succ, ahM, Int32.add_zero, decide_true, decide_false, cond_true, cond_false, Bool.false_eq_true, if_true, if_false, ite_true, ite_false, h48, h55, Int32.not_lt.mp h55, eq_true h62, h67, Int32.not_lt.mpr h67]; done) | (simp (decide := true) only [nI_succ, cI_succ, ahM, Int32.add_zero, decide_true, decide_false, cond_true, cond_false, Bool.false_eq_true, if_true, if_false, ite_true, ite_false, h48, h55, Int32.not_lt.mp h55, eq_true h62, h67, Int32.not_lt.mpr h67]; rfl) | rfl) rfl (by first | (simp (decide := true) only [nI_succ, cI_succ, ahM, Int32.add_zero, decide_true, decide_false, cond_true, cond_false, Bool.false_eq_true, if_true, if_false, ite_true, ite_false, h48, h55, Int32.not_lt.mp h55, eq_true h62, h67, Int32.not_lt.mpr h67]; done) | (simp (decide := true) only [nI_succ, cI_succ, ahM, Int32.add_zero, decide_true, decide_false, cond_true, cond_false, Bool.false_eq_true, if_true, if_false, ite_true, ite_false, h48, h55, Int32.not_lt.mp h55, eq_true h62, h67, Int32.not_lt.mpr h67]; rfl) | rfl) ?_
              exact ih4
            · refine tg_steps 6 rfl ?_
              refine tg_pkV [0, 1, 2, 3] ?_
              refine tg_eqS (L2 := [(0, .ref 64), (1, .int (nI j)), (2, .int (cI (ahM h j) (i + 1))), (3, .int (nI (i + 1)))]) (st2 := []) (w2 := (l, tm_cs h y)) (by first | (simp (decide := true) only [nI_succ, cI_succ, ahM, Int32.add_zero, decide_true, decide_false, cond_true, cond_false, Bool.false_eq_true, if_true, if_false, ite_true, ite_false, h48, h55, Int32.not_lt.mp h55, eq_true h62, h67, Int32.not_le.mp h67]; done) | (simp (decide := true) only [nI_succ, cI_succ, ahM, Int32.add_zero, decide_true, decide_false, cond_true, cond_false, Bool.false_eq_true, if_true, if_false, ite_true, ite_false, h48, h55, Int32.not_lt.mp h55, eq_true h62, h67, Int32.not_le.mp h67]; rfl) | rfl) rfl (by first | (simp (decide := true) only [nI_succ, cI_succ, ahM, Int32.add_zero, decide_true, decide_false, cond_true, cond_false, Bool.false_eq_true, if_true, if_false, ite_true, ite_false, h48, h55, Int32.not_lt.mp h55, eq_true h62, h67, Int32.not_le.mp h67]; done) | (simp (decide := true) only [nI_succ, cI_succ, ahM, Int32.add_zero, decide_true, decide_false, cond_true, cond_false, Bool.false_eq_true, if_true, if_false, ite_true, ite_false, h48, h55, Int32.not_lt.mp h55, eq_true h62, h67, Int32.not_le.mp h67]; rfl) | rfl) ?_
              exact ih4
theorem m_aheadOf {G : tg_G} {l : List tg_Cl} {h : tp_H} {y : tp_Y} (hw : wfH h) (j : Nat) (hj : j < hM h) : tg_C G 3 mX11_aheadOf 0 0 [.ref 64, .int (nI j)] (l, tm_cs h y) (fun v w => v = some (.int (ahO h (nI j))) ∧ w = (l, tm_cs h y)) := by
  rw [← ah_eq hw hj]
  exact m_aheadOf0 hw j hj
set_option maxRecDepth 100000 in
set_option maxHeartbeats 2000000 in
theorem m_endOf {G : tg_G} {l : List tg_Cl} {h : tp_H} {y : tp_Y} (hm : hM h ≤ 7) (j : Nat) (hj : j < hM h) : tg_C G 3 mX11_endOf 0 0 [.ref 64, .int (nI j)] (l, tm_cs h y) (fun v w => v = some (.int (enM h j)) ∧ w = (l, tm_cs h y)) := by
  refine tg_intro okX11_endOf (Nat.le_of_ble_eq_true rfl) ?_
  refine tg_steps 1 rfl ?_
  refine tg_callV rfl (m_aboardNow hm) rfl rfl rfl rfl rfl (fun v1 w1 q1 => ?_)
  obtain ⟨rfl, rfl⟩ := q1
  refine tg_steps 3 rfl ?_
  refine tg_call1 rfl (m_has _ _) rfl rfl rfl  (fun v7 w7 q7 => ?_)
  obtain ⟨rfl, rfl⟩ := q7
  refine tg_ifbeq rfl rfl (fun h10 => ?_) (fun h10 => ?_)
  · refine tg_steps 9 rfl ?_
    refine tg_call1 rfl (m_bits _) rfl rfl rfl  (fun v26 w26 q26 => ?_)
    obtain ⟨rfl, rfl⟩ := q26
    refine tg_steps 2 rfl ?_
    exact tg_iret (st := []) rfl rfl ⟨Nat.le_of_ble_eq_true rfl, Nat.le_of_ble_eq_true rfl⟩ ⟨by first | rfl | (simp (decide := true) only [enM, decide_true, decide_false, cond_true, cond_false, Bool.false_eq_true, if_true, if_false, ite_true, ite_false, h10]; done) | (simp (decide := true) only [enM, decide_true, decide_false, cond_true, cond_false, Bool.false_eq_true, if_true, if_false, ite_true, ite_false, h10]; done), rfl⟩
  · refine tg_steps 10 rfl ?_
    refine tg_call1 rfl (m_bits _) rfl rfl rfl  (fun v26 w26 q26 => ?_)
    obtain ⟨rfl, rfl⟩ := q26
    refine tg_steps 2 rfl ?_
    exact tg_iret (st := []) rfl rfl ⟨Nat.le_of_ble_eq_true rfl, Nat.le_of_ble_eq_true rfl⟩ ⟨by first | rfl | (simp (decide := true) only [enM, decide_true, decide_false, cond_true, cond_false, Bool.false_eq_true, if_true, if_false, ite_true, ite_false, h10]; done) | (simp (decide := true) only [enM, decide_true, decide_false, cond_true, cond_false, Bool.false_eq_true, if_true, if_false, ite_true, ite_false, h10]; done), rfl⟩
set_option maxRecDepth 100000 in
set_option maxHeartbeats 2000000 in
theorem m_draw {G : tg_G} {l : List tg_Cl} {h : tp_H} {y : tp_Y} (k : Int32) (h1 : 1 ≤ k) (h0 : ¬ k = 0) : tg_C G 1 mX11_draw 0 0 [.ref 64, .int k] (l, tm_cs h y) (fun v w => v = some (.int (drw k (nxS (yLo y)))) ∧ w = (l, tm_cs h (zLo y (nxS (yLo y))))) := by
  refine tg_intro okX11_draw (Nat.le_of_ble_eq_true rfl) ?_
  refine tg_steps 7 rfl ?_
  rw [show yLo y * 1664525 + 1013904223 = nxS (yLo y) from rfl]
  generalize nxS (yLo y) = z
  refine tg_steps 1 rfl ?_
  refine tg_eqW (m_Lo z) ?_
  refine tg_steps 7 rfl ?_
  refine tg_irem rfl h0 ?_
  exact tg_iret (st := []) rfl rfl ⟨Nat.le_of_ble_eq_true rfl, Nat.le_of_ble_eq_true rfl⟩ ⟨by rw [drw_1 h1, g_LoLo], rfl⟩
set_option maxRecDepth 100000 in
set_option maxHeartbeats 2000000 in
theorem m_no {G : tg_G} {l : List tg_Cl} {h : tp_H} {y : tp_Y} (k : Int32) (hk : rfB k = true) : tg_C G 1 mX11_no 0 0 [.ref 64, .int k] (l, tm_cs h y) (fun v w => v = some (.int k) ∧ w = (l, tm_cs h (zRf y (tg_u (yRf y) (-k).toNatClampNeg (yRf y (-k).toNatClampNeg + 1))))) := by
  obtain ⟨⟨k1, k2, -⟩, j, hj, ej, cj⟩ := rf_j hk
  refine tg_intro okX11_no (Nat.le_of_ble_eq_true rfl) ?_
  refine tg_steps 5 rfl ?_
  refine tg_ialdN rfl rfl (j) ej hj (by decide) ?_
  refine tg_steps 2 rfl ?_
  refine tg_iastN rfl rfl (j) ej hj (by decide) ?_
  refine tg_eqW (m_Rf _) ?_
  refine tg_steps 1 rfl ?_
  exact tg_iret (st := []) rfl rfl ⟨Nat.le_of_ble_eq_true rfl, Nat.le_of_ble_eq_true rfl⟩ ⟨rfl, by rw [cj]⟩
set_option maxRecDepth 100000 in
set_option maxHeartbeats 2000000 in
theorem m_lowestOf {G : tg_G} {l : List tg_Cl} {h : tp_H} {y : tp_Y} (k : Int32) (hk : rfB k = true) : tg_C G 1 mX11_lowestOf 0 0 [.ref 64, .int k] (l, tm_cs h y) (fun v w => v = some (.long (lrf k)) ∧ w = (l, tm_cs h (zRf y (tg_u (yRf y) (-k).toNatClampNeg (yRf y (-k).toNatClampNeg + 1))))) := by
  obtain ⟨⟨k1, k2, -⟩, j, hj, ej, cj⟩ := rf_j hk
  refine tg_intro okX11_lowestOf (Nat.le_of_ble_eq_true rfl) ?_
  refine tg_steps 5 rfl ?_
  refine tg_ialdN rfl rfl (j) ej hj (by decide) ?_
  refine tg_steps 2 rfl ?_
  refine tg_iastN rfl rfl (j) ej hj (by decide) ?_
  refine tg_eqW (m_Rf _) ?_
  refine tg_steps 4 rfl ?_
  exact tg_lret (st := []) rfl rfl ⟨Nat.le_of_ble_eq_true rfl, Nat.le_of_ble_eq_true rfl⟩ ⟨rfl, by rw [cj]⟩
set_option maxRecDepth 100000 in
set_option maxHeartbeats 2000000 in
theorem m_clear {G : tg_G} {l : List tg_Cl} {h : tp_H} {y : tp_Y} : tg_C G 1 mX11_clear 0 0 [.ref 64] (l, tm_cs h y) (fun v w => v = some (.int (nI (yRm y))) ∧ w = (l, tm_cs h (zRm y 0))) := by
  refine tg_intro okX11_clear (Nat.le_of_ble_eq_true rfl) ?_
  refine tg_steps 6 rfl ?_
  refine tg_eqW (m_Rm 0) ?_
  refine tg_steps 1 rfl ?_
  exact tg_iret (st := []) rfl rfl ⟨Nat.le_of_ble_eq_true rfl, Nat.le_of_ble_eq_true rfl⟩ ⟨rfl, rfl⟩
