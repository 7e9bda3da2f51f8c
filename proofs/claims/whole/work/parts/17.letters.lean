/-! contracts of Letters -/
def atL (x : tp_X) (k : Int32) : Int32 := if k < 0 then -9 else if nI (xLm x) ≤ k then -9 else xLe x k.toNatClampNeg
theorem atL_j {x : tp_X} {k : Int32} (hl : xLm x ≤ 96) (h1 : ¬ k < 0) (h2 : ¬ nI (xLm x) ≤ k) : ∃ j : Nat, j < xLm x ∧ k = nI j ∧ (nI j).toNatClampNeg = j := by
  obtain ⟨j, hj, rfl⟩ := nI_of h1
  refine ⟨j, ?_, rfl, nI_clamp hj⟩
  rcases Nat.lt_or_ge j (xLm x) with q | q
  · exact q
  · exact absurd (nI_le q hj) h2
def dgL (x : tp_X) (k : Int32) : Int32 := atL x k - 48
def nuL (x : tp_X) (k : Int32) : Int32 := 10 * dgL x k + dgL x (k + 1)
def klI (j : Nat) : Int32 := match j with | 0 => 107 | 1 => 104 | 2 => 102 | 3 => 115 | 4 => 119 | _ => 110
def koP (c : Int32) (i : Nat) : Bool := decide (klI i = c)
def koL (c : Int32) : Int32 := fiV (koP c) nI (-9) 6 0
def loL (c : Int32) : Int32 := if c = 108 then 6 else if c = 97 then 5 else if c = 99 then 4 else if c = 115 then 4 else if c = 112 then 4 else if c = 110 then 4 else 0
def msB (f b c : Int32) : Bool := if loL f - 1 < 0 then false else if b = 0 then true else if b = loL f - 1 then decide (c = 59) else if f = 108 then (if b = 1 then decide (¬ koL c = -9) else (if c < 48 then false else if 57 < c then false else true)) else (if c < 48 then false else if 57 < c then false else true)
def stS (x : tp_X) : Nat → Nat
  | 0 => 0
  | i + 1 => if xLe x i = 59 then i + 1 else stS x i
theorem stS_succ (x : tp_X) (i : Nat) : stS x (i + 1) = if xLe x i = 59 then i + 1 else stS x i := rfl
theorem stS_le (x : tp_X) (i : Nat) : stS x i ≤ i := by
  induction i with
  | zero => exact Nat.le_refl 0
  | succ i ih => rw [stS_succ]; split <;> omega
def ffP (x : tp_X) (i : Nat) : Bool := !msB (atL x (nI (stS x i))) (nI i - nI (stS x i)) (xLe x i)
def ffE (x : tp_X) : Int32 := if nI (xLm x) = 0 then nI (xLm x) else if nI (stS x (xLm x)) < nI (xLm x) then nI (xLm x) else -9
def ffL (x : tp_X) : Int32 := fiV (ffP x) nI (ffE x) (xLm x) 0
def tlB (t : tp_H) (ho : Int32) : Bool := bif isT ho then decide (hM t < 7) else false
def tlH (t : tp_H) (kd f ho : Int32) : tp_H := bif tlB t ho then comH t kd f ho else t
def saB (t : tp_H) (one ti : Int32) : Bool := bif hasB t one then isT ti else false
def saH (t : tp_H) (one ti : Int32) : tp_H := bif saB t one ti then putH t one ti else t
def scH (t : tp_H) (ti : Int32) : tp_H := bif isT ti then crkH t ti else t
def ssH (t : tp_H) (ti : Int32) : tp_H := bif isT ti then sS t ti else t
def spH (t : tp_H) (one k : Int32) : tp_H := bif hasB t one then senH t one k else t
def snB (t : tp_H) (k : Int32) : Bool := if k < 1 then false else if 60 < k then false else if hN t + k ≤ 999 then true else false
def snH (t : tp_H) (k : Int32) : tp_H := bif snB t k then pNs k.toNatClampNeg t else t
def tsB (x : tp_X) (t : tp_H) (s : Int32) : Bool :=
  if atL x s = 97 then saB t (dgL x (s + 1)) (nuL x (s + 2)) else if atL x s = 99 then isT (nuL x (s + 1)) else if atL x s = 108 then tlB t (nuL x (s + 3)) else if atL x s = 110 then snB t (nuL x (s + 1)) else if atL x s = 112 then hasB t (dgL x (s + 1)) else if atL x s = 115 then isT (nuL x (s + 1)) else false
def tsH (x : tp_X) (t : tp_H) (s : Int32) : tp_H :=
  if atL x s = 97 then saH t (dgL x (s + 1)) (nuL x (s + 2)) else if atL x s = 99 then scH t (nuL x (s + 1)) else if atL x s = 108 then tlH t (koL (atL x (s + 1))) (dgL x (s + 2)) (nuL x (s + 3)) else if atL x s = 110 then snH t (nuL x (s + 1)) else if atL x s = 112 then spH t (dgL x (s + 1)) (dgL x (s + 2)) else if atL x s = 115 then ssH t (nuL x (s + 1)) else t
/-- behind the first i letters: how many statements, the hearth -/
def tcN (x : tp_X) : Nat → Nat
  | 0 => 0
  | i + 1 => if xLe x i = 59 then tcN x i + 1 else tcN x i
def tcH (x : tp_X) (t : tp_H) : Nat → tp_H
  | 0 => t
  | i + 1 => if xLe x i = 59 then tsH x (tcH x t i) (nI (stS x i)) else tcH x t i
theorem tcN_succ (x : tp_X) (i : Nat) : tcN x (i + 1) = if xLe x i = 59 then tcN x i + 1 else tcN x i := rfl
theorem tcH_succ (x : tp_X) (t : tp_H) (i : Nat) : tcH x t (i + 1) = if xLe x i = 59 then tsH x (tcH x t i) (nI (stS x i)) else tcH x t i := rfl
def tcP (x : tp_X) (t : tp_H) (i : Nat) : Bool := if xLe x i = 59 then !tsB x (tcH x t i) (nI (stS x i)) else false
def tcV (x : tp_X) (i : Nat) : Int32 := -2000 - nI (stS x i)
theorem tlH_M {t : tp_H} {kd f ho : Int32} (h : hM t ≤ 7) : hM (tlH t kd f ho) ≤ 7 := by
  unfold tlH tlB
  cases isT ho with
  | false => exact h
  | true =>
    by_cases q : hM t < 7
    · rw [cond_true, decide_eq_true q]; show hM t + 1 ≤ 7; omega
    · rw [cond_true, decide_eq_false q]; exact h
theorem tsH_M {x : tp_X} {t : tp_H} {s : Int32} (h : hM t ≤ 7) : hM (tsH x t s) ≤ 7 := by
  unfold tsH
  split
  · unfold saH; cases saB t _ _ <;> exact h
  · split
    · unfold scH; cases isT _ <;> exact h
    · split
      · exact tlH_M h
      · split
        · unfold snH; cases snB t _
          · exact h
          · rw [cond_true, pNs_M]; exact h
        · split
          · unfold spH; cases hasB t _ <;> exact h
          · split
            · unfold ssH; cases isT _ <;> exact h
            · exact h
theorem tcH_M {x : tp_X} {t : tp_H} (h : hM t ≤ 7) (i : Nat) : hM (tcH x t i) ≤ 7 := by
  induction i with
  | zero => exact h
  | succ i ih => rw [tcH_succ]; split <;> first | exact tsH_M ih | exact ih
theorem nI_p1 (s : Nat) : nI s + 1 = nI (s + 1) := (nI_succ s).symm

set_option maxRecDepth 100000 in
set_option maxHeartbeats 2000000 in
theorem c_add {G : tg_G} {n p t : tp_H} {x : tp_X} {r : List tg_Cl} (hl : xLm x < 96) (c : Int32) : tg_C G 1 mX3_add 0 0 [.ref 43, .int c] (tp_cs n p t x, r) (fun v w => v = some (.int (nI (xLm x + 1))) ∧ w = (tp_cs n p t (yLm (yLe x (tg_u (xLe x) (xLm x) c)) (xLm x + 1)), r)) := by
  refine tg_intro okX3_add (Nat.le_of_ble_eq_true rfl) ?_
  refine tg_steps 3 rfl ?_
  refine tg_icge rfl rfl (fun h6 => ?_) (fun h6 => ?_)
  · exact absurd h6 (nI_ge (b := 96) hl (by decide))
  · refine tg_steps 5 rfl ?_
    refine tg_iastN rfl rfl (xLm x) rfl hl (by decide) ?_
    refine tg_eqW (w_Le _) ?_
    refine tg_steps 6 rfl ?_
    rw [nI_p1, e_LmLe]
    refine tg_eqW (w_Lm _) ?_
    refine tg_steps 2 rfl ?_
    exact tg_iret (st := []) rfl rfl ⟨Nat.le_of_ble_eq_true rfl, Nat.le_of_ble_eq_true rfl⟩ ⟨rfl, rfl⟩
set_option maxRecDepth 100000 in
set_option maxHeartbeats 2000000 in
theorem c_at {G : tg_G} {n p t : tp_H} {x : tp_X} {r : List tg_Cl} (hl : xLm x ≤ 96) (k : Int32) : tg_C G 1 mX3_at 0 0 [.ref 43, .int k] (tp_cs n p t x, r) (fun v w => v = some (.int (atL x k)) ∧ w = (tp_cs n p t x, r)) := by
  refine tg_intro okX3_at (Nat.le_of_ble_eq_true rfl) ?_
  refine tg_steps 1 rfl ?_
  refine tg_iflt rfl rfl (fun h1 => ?_) (fun h1 => ?_)
  · refine tg_steps 1 rfl ?_
    exact tg_iret (st := []) rfl rfl ⟨Nat.le_of_ble_eq_true rfl, Nat.le_of_ble_eq_true rfl⟩ ⟨by first | rfl | (simp (decide := true) only [atL, decide_true, decide_false, cond_true, cond_false, Bool.false_eq_true, if_true, if_false, ite_true, ite_false, h1, Int32.not_le.mpr h1]; done) | (simp (decide := true) only [atL, decide_true, decide_false, cond_true, cond_false, Bool.false_eq_true, if_true, if_false, ite_true, ite_false, h1, Int32.not_le.mpr h1]; done), rfl⟩
  · refine tg_steps 3 rfl ?_
    refine tg_icge rfl rfl (fun h9 => ?_) (fun h9 => ?_)
    · refine tg_steps 1 rfl ?_
      exact tg_iret (st := []) rfl rfl ⟨Nat.le_of_ble_eq_true rfl, Nat.le_of_ble_eq_true rfl⟩ ⟨by first | rfl | (simp (decide := true) only [atL, decide_true, decide_false, cond_true, cond_false, Bool.false_eq_true, if_true, if_false, ite_true, ite_false, h1, Int32.not_lt.mp h1, h9, Int32.not_lt.mpr h9]; done) | (simp (decide := true) only [atL, decide_true, decide_false, cond_true, cond_false, Bool.false_eq_true, if_true, if_false, ite_true, ite_false, h1, Int32.not_lt.mp h1, h9, Int32.not_lt.mpr h9]; done), rfl⟩
    · obtain ⟨j, hj, rfl, hcl⟩ := atL_j hl h1 h9
      refine tg_steps 3 rfl ?_
      refine tg_ialdN rfl rfl (j) rfl (by omega) (by decide) ?_
      refine tg_steps 1 rfl ?_
      exact tg_iret (st := []) rfl rfl ⟨Nat.le_of_ble_eq_true rfl, Nat.le_of_ble_eq_true rfl⟩ ⟨by first | rfl | (simp (decide := true) only [atL, decide_true, decide_false, cond_true, cond_false, Bool.false_eq_true, if_true, if_false, ite_true, ite_false, h1, Int32.not_lt.mp h1, h9, Int32.not_le.mp h9, hcl]; done) | (simp (decide := true) only [atL, decide_true, decide_false, cond_true, cond_false, Bool.false_eq_true, if_true, if_false, ite_true, ite_false, h1, Int32.not_lt.mp h1, h9, Int32.not_le.mp h9, hcl]; done), rfl⟩
set_option maxRecDepth 100000 in
set_option maxHeartbeats 2000000 in
theorem c_digit {G : tg_G} {n p t : tp_H} {x : tp_X} {r : List tg_Cl} (hl : xLm x ≤ 96) (k : Int32) : tg_C G 2 mX3_digit 0 0 [.ref 43, .int k] (tp_cs n p t x, r) (fun v w => v = some (.int (dgL x k)) ∧ w = (tp_cs n p t x, r)) := by
  refine tg_intro okX3_digit (Nat.le_of_ble_eq_true rfl) ?_
  refine tg_steps 2 rfl ?_
  refine tg_callV rfl (c_at hl k) rfl rfl rfl rfl rfl (fun v2 w2 q2 => ?_)
  obtain ⟨rfl, rfl⟩ := q2
  refine tg_steps 2 rfl ?_
  exact tg_iret (st := []) rfl rfl ⟨Nat.le_of_ble_eq_true rfl, Nat.le_of_ble_eq_true rfl⟩ ⟨rfl, rfl⟩
set_option maxRecDepth 100000 in
set_option maxHeartbeats 2000000 in
theorem c_number {G : tg_G} {n p t : tp_H} {x : tp_X} {r : List tg_Cl} (hl : xLm x ≤ 96) (k : Int32) : tg_C G 3 mX3_number 0 0 [.ref 43, .int k] (tp_cs n p t x, r) (fun v w => v = some (.int (nuL x k)) ∧ w = (tp_cs n p t x, r)) := by
  refine tg_intro okX3_number (Nat.le_of_ble_eq_true rfl) ?_
  refine tg_steps 3 rfl ?_
  refine tg_callV rfl (c_digit hl k) rfl rfl rfl rfl rfl (fun v4 w4 q4 => ?_)
  obtain ⟨rfl, rfl⟩ := q4
  refine tg_steps 5 rfl ?_
  refine tg_callV rfl (c_digit hl (k + 1)) rfl rfl rfl rfl rfl (fun v12 w12 q12 => ?_)
  obtain ⟨rfl, rfl⟩ := q12
  refine tg_steps 1 rfl ?_
  exact tg_iret (st := []) rfl rfl ⟨Nat.le_of_ble_eq_true rfl, Nat.le_of_ble_eq_true rfl⟩ ⟨rfl, rfl⟩
set_option maxRecDepth 100000 in
set_option maxHeartbeats 2000000 in
theorem c_kindOfLetter {G : tg_G} {w : tg_W} (c : Int32) : tg_C G 1 mX3_kindOfLetter 0 0 [.int c] w (fun v w2 => v = some (.int (koL c)) ∧ w2 = w) := by
  refine tg_intro okX3_kindOfLetter (Nat.le_of_ble_eq_true rfl) ?_
  refine tg_steps 2 rfl ?_
  refine tg_pkV [0, 1] ?_
  refine tg_eqS (L2 := [(0, .int c), (1, .int (nI (0)))]) (st2 := []) (w2 := w) rfl rfl rfl ?_
  refine tg_down (φ := fun i : Nat => (koL c = fiV (koP c) nI (-9) (6 - (i)) (i)) → tg_V G 1 mX3_kindOfLetter 0 0 0 0 (fun v w2 => v = some (.int (koL c)) ∧ w2 = w) 2 [(0, .int c), (1, .int (nI (i)))] [] w) (n := 6) ?_ ?_ 0 (Nat.zero_le _) (rfl)
  · intro hinv2
    refine tg_steps 1 rfl ?_
    refine tg_gets rfl ?_
    refine tg_klen rfl ?_
    refine tg_icge rfl rfl (fun h7 => ?_) (fun h7 => ?_)
    · refine tg_steps 1 rfl ?_
      exact tg_iret (st := []) rfl rfl ⟨Nat.le_of_ble_eq_true rfl, Nat.le_of_ble_eq_true rfl⟩ ⟨by rw [hinv2]; rfl, rfl⟩
    · exact absurd (by decide) h7
  · intro i hi2 ih2 hinv2
    rw [show 6 - i = 6 - (i + 1) + 1 by omega, fiV_succ _ _ _ (6 - (i + 1)) i] at hinv2
    refine tg_steps 1 rfl ?_
    refine tg_gets rfl ?_
    refine tg_klen rfl ?_
    refine tg_icge rfl rfl (fun h7 => ?_) (fun h7 => ?_)
    · exact absurd h7 (nI_ge (b := 6) hi2 (by decide))
    · refine tg_gets rfl ?_
      refine tg_steps 1 rfl ?_
      refine tg_kld rfl (nI_in hi2 (by decide)) (by rw [nI_clamp (by omega)]; exact (show tg_kl i = .int (klI i) from rfl)) ?_
      refine tg_steps 1 rfl ?_
      refine tg_icne rfl rfl (fun h16 => ?_) (fun h16 => ?_)
      · refine tg_steps 2 rfl ?_
        refine tg_pkV [0, 1] ?_
        refine tg_eqS (L2 := [(0, .int c), (1, .int (nI (i + 1)))]) (st2 := []) (w2 := w) (by first | rfl | (simp (decide := true) only [nI_succ, decide_true, decide_false, cond_true, cond_false, Bool.false_eq_true, if_true, if_false, ite_true, ite_false, h16]; done) | (simp (decide := true) only [nI_succ, decide_true, decide_false, cond_true, cond_false, Bool.false_eq_true, if_true, if_false, ite_true, ite_false, h16]; rfl)) rfl (by first | rfl | (simp (decide := true) only [nI_succ, decide_true, decide_false, cond_true, cond_false, Bool.false_eq_true, if_true, if_false, ite_true, ite_false, h16]; done) | (simp (decide := true) only [nI_succ, decide_true, decide_false, cond_true, cond_false, Bool.false_eq_true, if_true, if_false, ite_true, ite_false, h16]; rfl)) ?_
        exact ih2 (by simp only [koP, decide_true, decide_false, cond_true, cond_false, Bool.false_eq_true, if_true, if_false, ite_true, ite_false, h16] at hinv2; exact hinv2)
      · refine tg_steps 1 rfl ?_
        exact tg_iret (st := []) rfl rfl ⟨Nat.le_of_ble_eq_true rfl, Nat.le_of_ble_eq_true rfl⟩ ⟨by simp only [koP, decide_true, decide_false, cond_true, cond_false, Bool.false_eq_true, if_true, if_false, ite_true, ite_false, eq_true h16] at hinv2; rw [hinv2], rfl⟩
set_option maxRecDepth 100000 in
set_option maxHeartbeats 2000000 in
theorem c_lengthOf {G : tg_G} {w : tg_W} (c : Int32) : tg_C G 1 mX3_lengthOf 0 0 [.int c] w (fun v w2 => v = some (.int (loL c)) ∧ w2 = w) := by
  refine tg_intro okX3_lengthOf (Nat.le_of_ble_eq_true rfl) ?_
  refine tg_steps 1 rfl ?_
  refine tg_tsw rfl ?_
  refine And.intro (fun h1_0 => ?_) (fun h1_0 => ?_)
  · refine tg_steps 1 rfl ?_
    exact tg_iret (st := []) rfl rfl ⟨Nat.le_of_ble_eq_true rfl, Nat.le_of_ble_eq_true rfl⟩ ⟨by first | rfl | (simp (decide := true) only [loL, decide_true, decide_false, cond_true, cond_false, Bool.false_eq_true, if_true, if_false, ite_true, ite_false, eq_true h1_0]; done) | (simp (decide := true) only [loL, decide_true, decide_false, cond_true, cond_false, Bool.false_eq_true, if_true, if_false, ite_true, ite_false, h1_0]; done), rfl⟩
  refine And.intro (fun h1_1 => ?_) (fun h1_1 => ?_)
  · refine tg_steps 1 rfl ?_
    exact tg_iret (st := []) rfl rfl ⟨Nat.le_of_ble_eq_true rfl, Nat.le_of_ble_eq_true rfl⟩ ⟨by first | rfl | (simp (decide := true) only [loL, decide_true, decide_false, cond_true, cond_false, Bool.false_eq_true, if_true, if_false, ite_true, ite_false, h1_0, eq_true h1_1]; done) | (simp (decide := true) only [loL, decide_true, decide_false, cond_true, cond_false, Bool.false_eq_true, if_true, if_false, ite_true, ite_false, h1_0, h1_1]; done), rfl⟩
  refine And.intro (fun h1_2 => ?_) (fun h1_2 => ?_)
  · refine tg_steps 1 rfl ?_
    exact tg_iret (st := []) rfl rfl ⟨Nat.le_of_ble_eq_true rfl, Nat.le_of_ble_eq_true rfl⟩ ⟨by first | rfl | (simp (decide := true) only [loL, decide_true, decide_false, cond_true, cond_false, Bool.false_eq_true, if_true, if_false, ite_true, ite_false, h1_0, h1_1, eq_true h1_2]; done) | (simp (decide := true) only [loL, decide_true, decide_false, cond_true, cond_false, Bool.false_eq_true, if_true, if_false, ite_true, ite_false, h1_0, h1_1, h1_2]; done), rfl⟩
  refine And.intro (fun h1_3 => ?_) (fun h1_3 => ?_)
  · refine tg_steps 1 rfl ?_
    exact tg_iret (st := []) rfl rfl ⟨Nat.le_of_ble_eq_true rfl, Nat.le_of_ble_eq_true rfl⟩ ⟨by first | rfl | (simp (decide := true) only [loL, decide_true, decide_false, cond_true, cond_false, Bool.false_eq_true, if_true, if_false, ite_true, ite_false, h1_0, h1_1, h1_2, eq_true h1_3]; done) | (simp (decide := true) only [loL, decide_true, decide_false, cond_true, cond_false, Bool.false_eq_true, if_true, if_false, ite_true, ite_false, h1_0, h1_1, h1_2, h1_3]; done), rfl⟩
  refine And.intro (fun h1_4 => ?_) (fun h1_4 => ?_)
  · refine tg_steps 1 rfl ?_
    exact tg_iret (st := []) rfl rfl ⟨Nat.le_of_ble_eq_true rfl, Nat.le_of_ble_eq_true rfl⟩ ⟨by first | rfl | (simp (decide := true) only [loL, decide_true, decide_false, cond_true, cond_false, Bool.false_eq_true, if_true, if_false, ite_true, ite_false, h1_0, h1_1, h1_2, h1_3, eq_true h1_4]; done) | (simp (decide := true) only [loL, decide_true, decide_false, cond_true, cond_false, Bool.false_eq_true, if_true, if_false, ite_true, ite_false, h1_0, h1_1, h1_2, h1_3, h1_4]; done), rfl⟩
  refine And.intro (fun h1_5 => ?_) (fun h1_5 => ?_)
  · refine tg_steps 1 rfl ?_
    exact tg_iret (st := []) rfl rfl ⟨Nat.le_of_ble_eq_true rfl, Nat.le_of_ble_eq_true rfl⟩ ⟨by first | rfl | (simp (decide := true) only [loL, decide_true, decide_false, cond_true, cond_false, Bool.false_eq_true, if_true, if_false, ite_true, ite_false, h1_0, h1_1, h1_2, h1_3, h1_4, eq_true h1_5]; done) | (simp (decide := true) only [loL, decide_true, decide_false, cond_true, cond_false, Bool.false_eq_true, if_true, if_false, ite_true, ite_false, h1_0, h1_1, h1_2, h1_3, h1_4, h1_5]; done), rfl⟩
  refine And.intro (fun h1_6 => ?_) (fun h1_6 => ?_)
  · refine tg_steps 1 rfl ?_
    exact tg_iret (st := []) rfl rfl ⟨Nat.le_of_ble_eq_true rfl, Nat.le_of_ble_eq_true rfl⟩ ⟨by first | rfl | (simp (decide := true) only [loL, decide_true, decide_false, cond_true, cond_false, Bool.false_eq_true, if_true, if_false, ite_true, ite_false, h1_0, h1_1, h1_2, h1_3, h1_4, h1_5, eq_true h1_6]; done) | (simp (decide := true) only [loL, decide_true, decide_false, cond_true, cond_false, Bool.false_eq_true, if_true, if_false, ite_true, ite_false, h1_0, h1_1, h1_2, h1_3, h1_4, h1_5, h1_6]; done), rfl⟩
  refine And.intro (fun h1_7 => ?_) (fun h1_7 => ?_)
  · refine tg_steps 1 rfl ?_
    exact tg_iret (st := []) rfl rfl ⟨Nat.le_of_ble_eq_true rfl, Nat.le_of_ble_eq_true rfl⟩ ⟨by first | rfl | (simp (decide := true) only [loL, decide_true, decide_false, cond_true, cond_false, Bool.false_eq_true, if_true, if_false, ite_true, ite_false, h1_0, h1_1, h1_2, h1_3, h1_4, h1_5, h1_6, eq_true h1_7]; done) | (simp (decide := true) only [loL, decide_true, decide_false, cond_true, cond_false, Bool.false_eq_true, if_true, if_false, ite_true, ite_false, h1_0, h1_1, h1_2, h1_3, h1_4, h1_5, h1_6, h1_7]; done), rfl⟩
  refine And.intro (fun h1_8 => ?_) (fun h1_8 => ?_)
  · refine tg_steps 1 rfl ?_
    exact tg_iret (st := []) rfl rfl ⟨Nat.le_of_ble_eq_true rfl, Nat.le_of_ble_eq_true rfl⟩ ⟨by first | rfl | (simp (decide := true) only [loL, decide_true, decide_false, cond_true, cond_false, Bool.false_eq_true, if_true, if_false, ite_true, ite_false, h1_0, h1_1, h1_2, h1_3, h1_4, h1_5, h1_6, h1_7, eq_true h1_8]; done) | (simp (decide := true) only [loL, decide_true, decide_false, cond_true, cond_false, Bool.false_eq_true, if_true, if_false, ite_true, ite_false, h1_0, h1_1, h1_2, h1_3, h1_4, h1_5, h1_6, h1_7, h1_8]; done), rfl⟩
  refine And.intro (fun h1_9 => ?_) (fun h1_9 => ?_)
  · refine tg_steps 1 rfl ?_
    exact tg_iret (st := []) rfl rfl ⟨Nat.le_of_ble_eq_true rfl, Nat.le_of_ble_eq_true rfl⟩ ⟨by first | rfl | (simp (decide := true) only [loL, decide_true, decide_false, cond_true, cond_false, Bool.false_eq_true, if_true, if_false, ite_true, ite_false, h1_0, h1_1, h1_2, h1_3, h1_4, h1_5, h1_6, h1_7, h1_8, eq_true h1_9]; done) | (simp (decide := true) only [loL, decide_true, decide_false, cond_true, cond_false, Bool.false_eq_true, if_true, if_false, ite_true, ite_false, h1_0, h1_1, h1_2, h1_3, h1_4, h1_5, h1_6, h1_7, h1_8, h1_9]; done), rfl⟩
  refine And.intro (fun h1_10 => ?_) (fun h1_10 => ?_)
  · refine tg_steps 1 rfl ?_
    exact tg_iret (st := []) rfl rfl ⟨Nat.le_of_ble_eq_true rfl, Nat.le_of_ble_eq_true rfl⟩ ⟨by first | rfl | (simp (decide := true) only [loL, decide_true, decide_false, cond_true, cond_false, Bool.false_eq_true, if_true, if_false, ite_true, ite_false, h1_0, h1_1, h1_2, h1_3, h1_4, h1_5, h1_6, h1_7, h1_8, h1_9, eq_true h1_10]; done) | (simp (decide := true) only [loL, decide_true, decide_false, cond_true, cond_false, Bool.false_eq_true, if_true, if_false, ite_true, ite_false, h1_0, h1_1, h1_2, h1_3, h1_4, h1_5, h1_6, h1_7, h1_8, h1_9, h1_10]; done), rfl⟩
  refine And.intro (fun h1_11 => ?_) (fun h1_11 => ?_)
  · refine tg_steps 1 rfl ?_
    exact tg_iret (st := []) rfl rfl ⟨Nat.le_of_ble_eq_true rfl, Nat.le_of_ble_eq_true rfl⟩ ⟨by first | rfl | (simp (decide := true) only [loL, decide_true, decide_false, cond_true, cond_false, Bool.false_eq_true, if_true, if_false, ite_true, ite_false, h1_0, h1_1, h1_2, h1_3, h1_4, h1_5, h1_6, h1_7, h1_8, h1_9, h1_10, eq_true h1_11]; done) | (simp (decide := true) only [loL, decide_true, decide_false, cond_true, cond_false, Bool.false_eq_true, if_true, if_false, ite_true, ite_false, h1_0, h1_1, h1_2, h1_3, h1_4, h1_5, h1_6, h1_7, h1_8, h1_9, h1_10, h1_11]; done), rfl⟩
  refine And.intro (fun h1_12 => ?_) (fun h1_12 => ?_)
  · refine tg_steps 1 rfl ?_
    exact tg_iret (st := []) rfl rfl ⟨Nat.le_of_ble_eq_true rfl, Nat.le_of_ble_eq_true rfl⟩ ⟨by first | rfl | (simp (decide := true) only [loL, decide_true, decide_false, cond_true, cond_false, Bool.false_eq_true, if_true, if_false, ite_true, ite_false, h1_0, h1_1, h1_2, h1_3, h1_4, h1_5, h1_6, h1_7, h1_8, h1_9, h1_10, h1_11, eq_true h1_12]; done) | (simp (decide := true) only [loL, decide_true, decide_false, cond_true, cond_false, Bool.false_eq_true, if_true, if_false, ite_true, ite_false, h1_0, h1_1, h1_2, h1_3, h1_4, h1_5, h1_6, h1_7, h1_8, h1_9, h1_10, h1_11, h1_12]; done), rfl⟩
  refine And.intro (fun h1_13 => ?_) (fun h1_13 => ?_)
  · refine tg_steps 1 rfl ?_
    exact tg_iret (st := []) rfl rfl ⟨Nat.le_of_ble_eq_true rfl, Nat.le_of_ble_eq_true rfl⟩ ⟨by first | rfl | (simp (decide := true) only [loL, decide_true, decide_false, cond_true, cond_false, Bool.false_eq_true, if_true, if_false, ite_true, ite_false, h1_0, h1_1, h1_2, h1_3, h1_4, h1_5, h1_6, h1_7, h1_8, h1_9, h1_10, h1_11, h1_12, eq_true h1_13]; done) | (simp (decide := true) only [loL, decide_true, decide_false, cond_true, cond_false, Bool.false_eq_true, if_true, if_false, ite_true, ite_false, h1_0, h1_1, h1_2, h1_3, h1_4, h1_5, h1_6, h1_7, h1_8, h1_9, h1_10, h1_11, h1_12, h1_13]; done), rfl⟩
  refine And.intro (fun h1_14 => ?_) (fun h1_14 => ?_)
  · refine tg_steps 1 rfl ?_
    exact tg_iret (st := []) rfl rfl ⟨Nat.le_of_ble_eq_true rfl, Nat.le_of_ble_eq_true rfl⟩ ⟨by first | rfl | (simp (decide := true) only [loL, decide_true, decide_false, cond_true, cond_false, Bool.false_eq_true, if_true, if_false, ite_true, ite_false, h1_0, h1_1, h1_2, h1_3, h1_4, h1_5, h1_6, h1_7, h1_8, h1_9, h1_10, h1_11, h1_12, h1_13, eq_true h1_14]; done) | (simp (decide := true) only [loL, decide_true, decide_false, cond_true, cond_false, Bool.false_eq_true, if_true, if_false, ite_true, ite_false, h1_0, h1_1, h1_2, h1_3, h1_4, h1_5, h1_6, h1_7, h1_8, h1_9, h1_10, h1_11, h1_12, h1_13, h1_14]; done), rfl⟩
  refine And.intro (fun h1_15 => ?_) (fun h1_15 => ?_)
  · refine tg_steps 1 rfl ?_
    exact tg_iret (st := []) rfl rfl ⟨Nat.le_of_ble_eq_true rfl, Nat.le_of_ble_eq_true rfl⟩ ⟨by first | rfl | (simp (decide := true) only [loL, decide_true, decide_false, cond_true, cond_false, Bool.false_eq_true, if_true, if_false, ite_true, ite_false, h1_0, h1_1, h1_2, h1_3, h1_4, h1_5, h1_6, h1_7, h1_8, h1_9, h1_10, h1_11, h1_12, h1_13, h1_14, eq_true h1_15]; done) | (simp (decide := true) only [loL, decide_true, decide_false, cond_true, cond_false, Bool.false_eq_true, if_true, if_false, ite_true, ite_false, h1_0, h1_1, h1_2, h1_3, h1_4, h1_5, h1_6, h1_7, h1_8, h1_9, h1_10, h1_11, h1_12, h1_13, h1_14, h1_15]; done), rfl⟩
  refine And.intro (fun h1_16 => ?_) (fun h1_16 => ?_)
  · refine tg_steps 1 rfl ?_
    exact tg_iret (st := []) rfl rfl ⟨Nat.le_of_ble_eq_true rfl, Nat.le_of_ble_eq_true rfl⟩ ⟨by first | rfl | (simp (decide := true) only [loL, decide_true, decide_false, cond_true, cond_false, Bool.false_eq_true, if_true, if_false, ite_true, ite_false, h1_0, h1_1, h1_2, h1_3, h1_4, h1_5, h1_6, h1_7, h1_8, h1_9, h1_10, h1_11, h1_12, h1_13, h1_14, h1_15, eq_true h1_16]; done) | (simp (decide := true) only [loL, decide_true, decide_false, cond_true, cond_false, Bool.false_eq_true, if_true, if_false, ite_true, ite_false, h1_0, h1_1, h1_2, h1_3, h1_4, h1_5, h1_6, h1_7, h1_8, h1_9, h1_10, h1_11, h1_12, h1_13, h1_14, h1_15, h1_16]; done), rfl⟩
  refine And.intro (fun h1_17 => ?_) (fun h1_17 => ?_)
  · refine tg_steps 1 rfl ?_
    exact tg_iret (st := []) rfl rfl ⟨Nat.le_of_ble_eq_true rfl, Nat.le_of_ble_eq_true rfl⟩ ⟨by first | rfl | (simp (decide := true) only [loL, decide_true, decide_false, cond_true, cond_false, Bool.false_eq_true, if_true, if_false, ite_true, ite_false, h1_0, h1_1, h1_2, h1_3, h1_4, h1_5, h1_6, h1_7, h1_8, h1_9, h1_10, h1_11, h1_12, h1_13, h1_14, h1_15, h1_16, eq_true h1_17]; done) | (simp (decide := true) only [loL, decide_true, decide_false, cond_true, cond_false, Bool.false_eq_true, if_true, if_false, ite_true, ite_false, h1_0, h1_1, h1_2, h1_3, h1_4, h1_5, h1_6, h1_7, h1_8, h1_9, h1_10, h1_11, h1_12, h1_13, h1_14, h1_15, h1_16, h1_17]; done), rfl⟩
  refine And.intro (fun h1_18 => ?_) (fun h1_18 => ?_)
  · refine tg_steps 1 rfl ?_
    exact tg_iret (st := []) rfl rfl ⟨Nat.le_of_ble_eq_true rfl, Nat.le_of_ble_eq_true rfl⟩ ⟨by first | rfl | (simp (decide := true) only [loL, decide_true, decide_false, cond_true, cond_false, Bool.false_eq_true, if_true, if_false, ite_true, ite_false, h1_0, h1_1, h1_2, h1_3, h1_4, h1_5, h1_6, h1_7, h1_8, h1_9, h1_10, h1_11, h1_12, h1_13, h1_14, h1_15, h1_16, h1_17, eq_true h1_18]; done) | (simp (decide := true) only [loL, decide_true, decide_false, cond_true, cond_false, Bool.false_eq_true, if_true, if_false, ite_true, ite_false, h1_0, h1_1, h1_2, h1_3, h1_4, h1_5, h1_6, h1_7, h1_8, h1_9, h1_10, h1_11, h1_12, h1_13, h1_14, h1_15, h1_16, h1_17, h1_18]; done), rfl⟩
  refine tg_steps 1 rfl ?_
  exact tg_iret (st := []) rfl rfl ⟨Nat.le_of_ble_eq_true rfl, Nat.le_of_ble_eq_true rfl⟩ ⟨by first | rfl | (simp (decide := true) only [loL, decide_true, decide_false, cond_true, cond_false, Bool.false_eq_true, if_true, if_false, ite_true, ite_false, h1_0, h1_1, h1_2, h1_3, h1_4, h1_5, h1_6, h1_7, h1_8, h1_9, h1_10, h1_11, h1_12, h1_13, h1_14, h1_15, h1_16, h1_17, h1_18]; done) | (simp (decide := true) only [loL, decide_true, decide_false, cond_true, cond_false, Bool.false_eq_true, if_true, if_false, ite_true, ite_false, h1_0, h1_1, h1_2, h1_3, h1_4, h1_5, h1_6, h1_7, h1_8, h1_9, h1_10, h1_11, h1_12, h1_13, h1_14, h1_15, h1_16, h1_17, h1_18]; done), rfl⟩
set_option maxRecDepth 100000 in
set_option maxHeartbeats 2000000 in
theorem c_mayStand {G : tg_G} {w : tg_W} (f b c : Int32) : tg_C G 2 mX3_mayStand 0 0 [.int f, .int b, .int c] w (fun v w2 => v = some (.int (tg_b (msB f b c))) ∧ w2 = w) := by
  refine tg_intro okX3_mayStand (Nat.le_of_ble_eq_true rfl) ?_
  refine tg_steps 1 rfl ?_
  refine tg_call1 rfl (c_lengthOf f) rfl rfl rfl  (fun v1 w1 q1 => ?_)
  obtain ⟨rfl, rfl⟩ := q1
  refine tg_steps 4 rfl ?_
  refine tg_ifge rfl rfl (fun h8 => ?_) (fun h8 => ?_)
  · refine tg_steps 1 rfl ?_
    refine tg_ifne rfl rfl (fun h14 => ?_) (fun h14 => ?_)
    · refine tg_steps 2 rfl ?_
      refine tg_icne rfl rfl (fun h21 => ?_) (fun h21 => ?_)
      · refine tg_steps 2 rfl ?_
        refine tg_icne rfl rfl (fun h39 => ?_) (fun h39 => ?_)
        · refine tg_steps 2 rfl ?_
          refine tg_iclt rfl rfl (fun h65 => ?_) (fun h65 => ?_)
          · refine tg_steps 1 rfl ?_
            exact tg_zret (st := []) rfl rfl ⟨Nat.le_of_ble_eq_true rfl, Nat.le_of_ble_eq_true rfl⟩ (by first | exact tg_b1 _ | exact Or.inl rfl | exact Or.inr rfl) ⟨by first | rfl | (simp (decide := true) only [msB, tg_b, not_true, not_false_eq_true, decide_true, decide_false, cond_true, cond_false, Bool.false_eq_true, if_true, if_false, ite_true, ite_false, h8, Int32.not_lt.mpr h8, h14, h21, h39, h65, Int32.not_le.mpr h65]; done) | (simp (decide := true) only [msB, tg_b, not_true, not_false_eq_true, decide_true, decide_false, cond_true, cond_false, Bool.false_eq_true, if_true, if_false, ite_true, ite_false, h8, Int32.not_lt.mpr h8, h14, h21, h39, h65, Int32.not_le.mpr h65]; done), rfl⟩
          · refine tg_steps 2 rfl ?_
            refine tg_icgt rfl rfl (fun h71 => ?_) (fun h71 => ?_)
            · refine tg_steps 1 rfl ?_
              exact tg_zret (st := []) rfl rfl ⟨Nat.le_of_ble_eq_true rfl, Nat.le_of_ble_eq_true rfl⟩ (by first | exact tg_b1 _ | exact Or.inl rfl | exact Or.inr rfl) ⟨by first | rfl | (simp (decide := true) only [msB, tg_b, not_true, not_false_eq_true, decide_true, decide_false, cond_true, cond_false, Bool.false_eq_true, if_true, if_false, ite_true, ite_false, h8, Int32.not_lt.mpr h8, h14, h21, h39, h65, Int32.not_lt.mp h65, h71, Int32.not_le.mpr h71]; done) | (simp (decide := true) only [msB, tg_b, not_true, not_false_eq_true, decide_true, decide_false, cond_true, cond_false, Bool.false_eq_true, if_true, if_false, ite_true, ite_false, h8, Int32.not_lt.mpr h8, h14, h21, h39, h65, Int32.not_lt.mp h65, h71, Int32.not_le.mpr h71]; done), rfl⟩
            · refine tg_steps 2 rfl ?_
              exact tg_zret (st := []) rfl rfl ⟨Nat.le_of_ble_eq_true rfl, Nat.le_of_ble_eq_true rfl⟩ (by first | exact tg_b1 _ | exact Or.inl rfl | exact Or.inr rfl) ⟨by first | rfl | (simp (decide := true) only [msB, tg_b, not_true, not_false_eq_true, decide_true, decide_false, cond_true, cond_false, Bool.false_eq_true, if_true, if_false, ite_true, ite_false, h8, Int32.not_lt.mpr h8, h14, h21, h39, h65, Int32.not_lt.mp h65, h71, Int32.not_lt.mp h71]; done) | (simp (decide := true) only [msB, tg_b, not_true, not_false_eq_true, decide_true, decide_false, cond_true, cond_false, Bool.false_eq_true, if_true, if_false, ite_true, ite_false, h8, Int32.not_lt.mpr h8, h14, h21, h39, h65, Int32.not_lt.mp h65, h71, Int32.not_lt.mp h71]; done), rfl⟩
        · refine tg_steps 2 rfl ?_
          refine tg_icne rfl rfl (fun h44 => ?_) (fun h44 => ?_)
          · refine tg_steps 2 rfl ?_
            refine tg_iclt rfl rfl (fun h65 => ?_) (fun h65 => ?_)
            · refine tg_steps 1 rfl ?_
              exact tg_zret (st := []) rfl rfl ⟨Nat.le_of_ble_eq_true rfl, Nat.le_of_ble_eq_true rfl⟩ (by first | exact tg_b1 _ | exact Or.inl rfl | exact Or.inr rfl) ⟨by first | rfl | (simp (decide := true) only [msB, tg_b, not_true, not_false_eq_true, decide_true, decide_false, cond_true, cond_false, Bool.false_eq_true, if_true, if_false, ite_true, ite_false, h8, Int32.not_lt.mpr h8, h14, h21, eq_true h39, h44, h65, Int32.not_le.mpr h65]; done) | (simp (decide := true) only [msB, tg_b, not_true, not_false_eq_true, decide_true, decide_false, cond_true, cond_false, Bool.false_eq_true, if_true, if_false, ite_true, ite_false, h8, Int32.not_lt.mpr h8, h14, h21, h39, h44, h65, Int32.not_le.mpr h65]; done), rfl⟩
            · refine tg_steps 2 rfl ?_
              refine tg_icgt rfl rfl (fun h71 => ?_) (fun h71 => ?_)
              · refine tg_steps 1 rfl ?_
                exact tg_zret (st := []) rfl rfl ⟨Nat.le_of_ble_eq_true rfl, Nat.le_of_ble_eq_true rfl⟩ (by first | exact tg_b1 _ | exact Or.inl rfl | exact Or.inr rfl) ⟨by first | rfl | (simp (decide := true) only [msB, tg_b, not_true, not_false_eq_true, decide_true, decide_false, cond_true, cond_false, Bool.false_eq_true, if_true, if_false, ite_true, ite_false, h8, Int32.not_lt.mpr h8, h14, h21, eq_true h39, h44, h65, Int32.not_lt.mp h65, h71, Int32.not_le.mpr h71]; done) | (simp (decide := true) only [msB, tg_b, not_true, not_false_eq_true, decide_true, decide_false, cond_true, cond_false, Bool.false_eq_true, if_true, if_false, ite_true, ite_false, h8, Int32.not_lt.mpr h8, h14, h21, h39, h44, h65, Int32.not_lt.mp h65, h71, Int32.not_le.mpr h71]; done), rfl⟩
              · refine tg_steps 2 rfl ?_
                exact tg_zret (st := []) rfl rfl ⟨Nat.le_of_ble_eq_true rfl, Nat.le_of_ble_eq_true rfl⟩ (by first | exact tg_b1 _ | exact Or.inl rfl | exact Or.inr rfl) ⟨by first | rfl | (simp (decide := true) only [msB, tg_b, not_true, not_false_eq_true, decide_true, decide_false, cond_true, cond_false, Bool.false_eq_true, if_true, if_false, ite_true, ite_false, h8, Int32.not_lt.mpr h8, h14, h21, eq_true h39, h44, h65, Int32.not_lt.mp h65, h71, Int32.not_lt.mp h71]; done) | (simp (decide := true) only [msB, tg_b, not_true, not_false_eq_true, decide_true, decide_false, cond_true, cond_false, Bool.false_eq_true, if_true, if_false, ite_true, ite_false, h8, Int32.not_lt.mpr h8, h14, h21, h39, h44, h65, Int32.not_lt.mp h65, h71, Int32.not_lt.mp h71]; done), rfl⟩
          · refine tg_steps 1 rfl ?_
            refine tg_call1 rfl (c_kindOfLetter c) rfl rfl rfl  (fun v48 w48 q48 => ?_)
            obtain ⟨rfl, rfl⟩ := q48
            refine tg_steps 1 rfl ?_
            refine tg_iceq rfl rfl (fun h53 => ?_) (fun h53 => ?_)
            · refine tg_steps 1 rfl ?_
              exact tg_zret (st := []) rfl rfl ⟨Nat.le_of_ble_eq_true rfl, Nat.le_of_ble_eq_true rfl⟩ (by first | exact tg_b1 _ | exact Or.inl rfl | exact Or.inr rfl) ⟨by first | rfl | (simp (decide := true) only [msB, tg_b, not_true, not_false_eq_true, decide_true, decide_false, cond_true, cond_false, Bool.false_eq_true, if_true, if_false, ite_true, ite_false, h8, Int32.not_lt.mpr h8, h14, h21, eq_true h39, eq_true h44, eq_true h53]; done) | (simp (decide := true) only [msB, tg_b, not_true, not_false_eq_true, decide_true, decide_false, cond_true, cond_false, Bool.false_eq_true, if_true, if_false, ite_true, ite_false, h8, Int32.not_lt.mpr h8, h14, h21, h39, h44, h53]; done), rfl⟩
            · refine tg_steps 2 rfl ?_
              exact tg_zret (st := []) rfl rfl ⟨Nat.le_of_ble_eq_true rfl, Nat.le_of_ble_eq_true rfl⟩ (by first | exact tg_b1 _ | exact Or.inl rfl | exact Or.inr rfl) ⟨by first | rfl | (simp (decide := true) only [msB, tg_b, not_true, not_false_eq_true, decide_true, decide_false, cond_true, cond_false, Bool.false_eq_true, if_true, if_false, ite_true, ite_false, h8, Int32.not_lt.mpr h8, h14, h21, eq_true h39, eq_true h44, h53]; done) | (simp (decide := true) only [msB, tg_b, not_true, not_false_eq_true, decide_true, decide_false, cond_true, cond_false, Bool.false_eq_true, if_true, if_false, ite_true, ite_false, h8, Int32.not_lt.mpr h8, h14, h21, h39, h44, h53]; done), rfl⟩
      · refine tg_steps 2 rfl ?_
        refine tg_icne rfl rfl (fun h27 => ?_) (fun h27 => ?_)
        · refine tg_steps 1 rfl ?_
          exact tg_zret (st := []) rfl rfl ⟨Nat.le_of_ble_eq_true rfl, Nat.le_of_ble_eq_true rfl⟩ (by first | exact tg_b1 _ | exact Or.inl rfl | exact Or.inr rfl) ⟨by first | rfl | (simp (decide := true) only [msB, tg_b, not_true, not_false_eq_true, decide_true, decide_false, cond_true, cond_false, Bool.false_eq_true, if_true, if_false, ite_true, ite_false, h8, Int32.not_lt.mpr h8, h14, eq_true h21, h27]; done) | (simp (decide := true) only [msB, tg_b, not_true, not_false_eq_true, decide_true, decide_false, cond_true, cond_false, Bool.false_eq_true, if_true, if_false, ite_true, ite_false, h8, Int32.not_lt.mpr h8, h14, h21, h27]; done), rfl⟩
        · refine tg_steps 2 rfl ?_
          exact tg_zret (st := []) rfl rfl ⟨Nat.le_of_ble_eq_true rfl, Nat.le_of_ble_eq_true rfl⟩ (by first | exact tg_b1 _ | exact Or.inl rfl | exact Or.inr rfl) ⟨by first | rfl | (simp (decide := true) only [msB, tg_b, not_true, not_false_eq_true, decide_true, decide_false, cond_true, cond_false, Bool.false_eq_true, if_true, if_false, ite_true, ite_false, h8, Int32.not_lt.mpr h8, h14, eq_true h21, eq_true h27]; done) | (simp (decide := true) only [msB, tg_b, not_true, not_false_eq_true, decide_true, decide_false, cond_true, cond_false, Bool.false_eq_true, if_true, if_false, ite_true, ite_false, h8, Int32.not_lt.mpr h8, h14, h21, h27]; done), rfl⟩
    · refine tg_steps 1 rfl ?_
      exact tg_zret (st := []) rfl rfl ⟨Nat.le_of_ble_eq_true rfl, Nat.le_of_ble_eq_true rfl⟩ (by first | exact tg_b1 _ | exact Or.inl rfl | exact Or.inr rfl) ⟨by first | rfl | (simp (decide := true) only [msB, tg_b, not_true, not_false_eq_true, decide_true, decide_false, cond_true, cond_false, Bool.false_eq_true, if_true, if_false, ite_true, ite_false, h8, Int32.not_lt.mpr h8, eq_true h14]; done) | (simp (decide := true) only [msB, tg_b, not_true, not_false_eq_true, decide_true, decide_false, cond_true, cond_false, Bool.false_eq_true, if_true, if_false, ite_true, ite_false, h8, Int32.not_lt.mpr h8, h14]; done), rfl⟩
  · refine tg_steps 1 rfl ?_
    exact tg_zret (st := []) rfl rfl ⟨Nat.le_of_ble_eq_true rfl, Nat.le_of_ble_eq_true rfl⟩ (by first | exact tg_b1 _ | exact Or.inl rfl | exact Or.inr rfl) ⟨by first | rfl | (simp (decide := true) only [msB, tg_b, not_true, not_false_eq_true, decide_true, decide_false, cond_true, cond_false, Bool.false_eq_true, if_true, if_false, ite_true, ite_false, h8, Int32.not_le.mp h8]; done) | (simp (decide := true) only [msB, tg_b, not_true, not_false_eq_true, decide_true, decide_false, cond_true, cond_false, Bool.false_eq_true, if_true, if_false, ite_true, ite_false, h8, Int32.not_le.mp h8]; done), rfl⟩
set_option maxRecDepth 100000 in
set_option maxHeartbeats 2000000 in
theorem c_placeOfFormFault {G : tg_G} {n p t : tp_H} {x : tp_X} {r : List tg_Cl} (hl : xLm x ≤ 96) : tg_C G 3 mX3_placeOfFormFault 0 0 [.ref 43] (tp_cs n p t x, r) (fun v w => v = some (.int (ffL x)) ∧ w = (tp_cs n p t x, r)) := by
  refine tg_intro okX3_placeOfFormFault (Nat.le_of_ble_eq_true rfl) ?_
  refine tg_steps 4 rfl ?_
  refine tg_pkV [0, 1, 2] ?_
  refine tg_eqS (L2 := [(0, .ref 43), (1, .int (nI (stS x (0)))), (2, .int (nI (0)))]) (st2 := []) (w2 := (tp_cs n p t x, r)) rfl rfl rfl ?_
  refine tg_down (φ := fun i : Nat => (ffL x = fiV (ffP x) nI (ffE x) (xLm x - (i)) (i)) → tg_V G 3 mX3_placeOfFormFault 0 0 0 0 (fun v w => v = some (.int (ffL x)) ∧ w = (tp_cs n p t x, r)) 4 [(0, .ref 43), (1, .int (nI (stS x (i)))), (2, .int (nI (i)))] [] (tp_cs n p t x, r)) (n := xLm x) ?_ ?_ 0 (Nat.zero_le _) (rfl)
  · intro hinv4
    refine tg_steps 3 rfl ?_
    refine tg_icge rfl rfl (fun h9 => ?_) (fun h9 => ?_)
    · refine tg_steps 2 rfl ?_
      refine tg_ifeq rfl rfl (fun h59 => ?_) (fun h59 => ?_)
      · refine tg_steps 3 rfl ?_
        exact tg_iret (st := []) rfl rfl ⟨Nat.le_of_ble_eq_true rfl, Nat.le_of_ble_eq_true rfl⟩ ⟨by rw [hinv4, Nat.sub_self, show fiV (ffP x) nI (ffE x) 0 (xLm x) = ffE x from rfl]; simp (decide := true) only [ffE, decide_true, decide_false, cond_true, cond_false, Bool.false_eq_true, if_true, if_false, ite_true, ite_false, eq_true h59], rfl⟩
      · refine tg_steps 3 rfl ?_
        refine tg_icge rfl rfl (fun h67 => ?_) (fun h67 => ?_)
        · refine tg_steps 1 rfl ?_
          exact tg_iret (st := []) rfl rfl ⟨Nat.le_of_ble_eq_true rfl, Nat.le_of_ble_eq_true rfl⟩ ⟨by rw [hinv4, Nat.sub_self, show fiV (ffP x) nI (ffE x) 0 (xLm x) = ffE x from rfl]; simp (decide := true) only [ffE, decide_true, decide_false, cond_true, cond_false, Bool.false_eq_true, if_true, if_false, ite_true, ite_false, h59, h67, Int32.not_lt.mpr h67], rfl⟩
        · refine tg_steps 3 rfl ?_
          exact tg_iret (st := []) rfl rfl ⟨Nat.le_of_ble_eq_true rfl, Nat.le_of_ble_eq_true rfl⟩ ⟨by rw [hinv4, Nat.sub_self, show fiV (ffP x) nI (ffE x) 0 (xLm x) = ffE x from rfl]; simp (decide := true) only [ffE, decide_true, decide_false, cond_true, cond_false, Bool.false_eq_true, if_true, if_false, ite_true, ite_false, h59, h67, Int32.not_le.mp h67], rfl⟩
    · exact absurd (nI_le (Nat.le_refl _) (by omega)) h9
  · intro i hi4 ih4 hinv4
    rw [show xLm x - i = xLm x - (i + 1) + 1 by omega, fiV_succ _ _ _ (xLm x - (i + 1)) i] at hinv4
    refine tg_steps 3 rfl ?_
    refine tg_icge rfl rfl (fun h9 => ?_) (fun h9 => ?_)
    · exact absurd h9 (nI_ge hi4 (by omega))
    · refine tg_steps 2 rfl ?_
      refine tg_callV rfl (c_at hl _) rfl rfl rfl rfl rfl (fun v14 w14 q14 => ?_)
      obtain ⟨rfl, rfl⟩ := q14
      refine tg_steps 6 rfl ?_
      refine tg_ialdN rfl rfl (i) rfl (by omega) (by decide) ?_
      refine tg_call1 rfl (c_mayStand _ _ _) rfl rfl rfl  (fun v26 w26 q26 => ?_)
      obtain ⟨rfl, rfl⟩ := q26
      refine tg_ifbne rfl rfl (fun h29 => ?_) (fun h29 => ?_)
      · refine tg_steps 3 rfl ?_
        refine tg_ialdN rfl rfl (i) rfl (by omega) (by decide) ?_
        refine tg_steps 1 rfl ?_
        refine tg_icne rfl rfl (fun h42 => ?_) (fun h42 => ?_)
        · refine tg_steps 2 rfl ?_
          refine tg_pkV [0, 1, 2] ?_
          refine tg_eqS (L2 := [(0, .ref 43), (1, .int (nI (stS x (i + 1)))), (2, .int (nI (i + 1)))]) (st2 := []) (w2 := (tp_cs n p t x, r)) (by first | rfl | (simp (decide := true) only [nI_succ, stS_succ, decide_true, decide_false, cond_true, cond_false, Bool.false_eq_true, if_true, if_false, ite_true, ite_false, h29, h42]; done) | (simp (decide := true) only [nI_succ, stS_succ, decide_true, decide_false, cond_true, cond_false, Bool.false_eq_true, if_true, if_false, ite_true, ite_false, h29, h42]; rfl)) rfl (by first | rfl | (simp (decide := true) only [nI_succ, stS_succ, decide_true, decide_false, cond_true, cond_false, Bool.false_eq_true, if_true, if_false, ite_true, ite_false, h29, h42]; done) | (simp (decide := true) only [nI_succ, stS_succ, decide_true, decide_false, cond_true, cond_false, Bool.false_eq_true, if_true, if_false, ite_true, ite_false, h29, h42]; rfl)) ?_
          exact ih4 (by simp only [ffP, Bool.not_true, Bool.not_false, decide_true, decide_false, cond_true, cond_false, Bool.false_eq_true, if_true, if_false, ite_true, ite_false, h29, h42] at hinv4; exact hinv4)
        · refine tg_steps 6 rfl ?_
          refine tg_pkV [0, 1, 2] ?_
          refine tg_eqS (L2 := [(0, .ref 43), (1, .int (nI (stS x (i + 1)))), (2, .int (nI (i + 1)))]) (st2 := []) (w2 := (tp_cs n p t x, r)) (by first | rfl | (simp (decide := true) only [nI_succ, stS_succ, decide_true, decide_false, cond_true, cond_false, Bool.false_eq_true, if_true, if_false, ite_true, ite_false, h29, eq_true h42]; done) | (simp (decide := true) only [nI_succ, stS_succ, decide_true, decide_false, cond_true, cond_false, Bool.false_eq_true, if_true, if_false, ite_true, ite_false, h29, eq_true h42]; rfl)) rfl (by first | rfl | (simp (decide := true) only [nI_succ, stS_succ, decide_true, decide_false, cond_true, cond_false, Bool.false_eq_true, if_true, if_false, ite_true, ite_false, h29, eq_true h42]; done) | (simp (decide := true) only [nI_succ, stS_succ, decide_true, decide_false, cond_true, cond_false, Bool.false_eq_true, if_true, if_false, ite_true, ite_false, h29, eq_true h42]; rfl)) ?_
          exact ih4 (by simp only [ffP, Bool.not_true, Bool.not_false, decide_true, decide_false, cond_true, cond_false, Bool.false_eq_true, if_true, if_false, ite_true, ite_false, h29, eq_true h42] at hinv4; exact hinv4)
      · refine tg_steps 1 rfl ?_
        exact tg_iret (st := []) rfl rfl ⟨Nat.le_of_ble_eq_true rfl, Nat.le_of_ble_eq_true rfl⟩ ⟨by simp only [ffP, Bool.not_true, Bool.not_false, decide_true, decide_false, cond_true, cond_false, Bool.false_eq_true, if_true, if_false, ite_true, ite_false, h29] at hinv4; rw [hinv4], rfl⟩
theorem nI_ne9 {k : Nat} (h : k ≤ 7) : ¬ nI k = -9 := by
  have h8 : ∀ j : Fin 8, ¬ nI j.1 = -9 := by decide +kernel
  exact h8 ⟨k, by omega⟩
set_option maxRecDepth 100000 in
set_option maxHeartbeats 2000000 in
theorem c_tellLittle {G : tg_G} {n p t : tp_H} {x : tp_X} {r : List tg_Cl} (hm : hM t ≤ 7) (a b c : Int32) : tg_C G 4 mX3_tellLittle 0 0 [.ref 26, .int a, .int b, .int c] (tp_cs n p t x, r) (fun v w => v = some (.int (tg_b (tlB t c))) ∧ w = (tp_cs n p (tlH t a b c) x, r)) := by
  refine tg_intro okX3_tellLittle (Nat.le_of_ble_eq_true rfl) ?_
  refine tg_steps 1 rfl ?_
  refine tg_call4 rfl (c_isTile c) rfl rfl rfl  (fun v1 w1 q1 => ?_)
  obtain ⟨rfl, rfl⟩ := q1
  refine tg_ifbeq rfl rfl (fun h4 => ?_) (fun h4 => ?_)
  · refine tg_steps 1 rfl ?_
    exact tg_zret (st := []) rfl rfl ⟨Nat.le_of_ble_eq_true rfl, Nat.le_of_ble_eq_true rfl⟩ (by first | exact tg_b1 _ | exact Or.inl rfl | exact Or.inr rfl) ⟨by simp only [tlB, tg_b, decide_true, decide_false, cond_true, cond_false, Bool.false_eq_true, if_true, if_false, ite_true, ite_false, h4], by simp only [tlH, tlB, decide_true, decide_false, cond_true, cond_false, Bool.false_eq_true, if_true, if_false, ite_true, ite_false, h4]⟩
  · refine tg_steps 4 rfl ?_
    refine tg_callV rfl (tg_wk_C (c_comeIn_2 hm a b c) (Q' := fun v w => v = some (.int (if hM t < 7 then nI (hM t) else -9)) ∧ w = (tp_cs n p (if hM t < 7 then comH t a b c else t) x, r)) (by intro v w q; split at q <;> rename_i q7 <;> simp only [q7, if_true, if_false] <;> exact q)) rfl rfl rfl rfl rfl (fun v11 w11 q11 => ?_)
    obtain ⟨rfl, rfl⟩ := q11
    refine tg_steps 1 rfl ?_
    refine tg_iceq rfl rfl (fun h16 => ?_) (fun h16 => ?_)
    · refine tg_steps 1 rfl ?_
      exact tg_zret (st := []) rfl rfl ⟨Nat.le_of_ble_eq_true rfl, Nat.le_of_ble_eq_true rfl⟩ (by first | exact tg_b1 _ | exact Or.inl rfl | exact Or.inr rfl) ⟨by simp only [tlB, decide_true, decide_false, cond_true, cond_false, Bool.false_eq_true, if_true, if_false, ite_true, ite_false, h4, h16]; split at h16 <;> rename_i q7 <;> first | (rw [decide_eq_true q7]; rfl) | (rw [decide_eq_false q7]; rfl) | exact absurd h16 (nI_ne9 hm) | exact absurd rfl h16, by simp only [tlH, tlB, decide_true, decide_false, cond_true, cond_false, Bool.false_eq_true, if_true, if_false, ite_true, ite_false, h4, h16]; by_cases q7 : hM t < 7 <;> simp (decide := true) only [q7, if_true, if_false, decide_true, decide_false, cond_true, cond_false, Bool.false_eq_true, if_true, if_false, ite_true, ite_false]⟩
    · refine tg_steps 2 rfl ?_
      exact tg_zret (st := []) rfl rfl ⟨Nat.le_of_ble_eq_true rfl, Nat.le_of_ble_eq_true rfl⟩ (by first | exact tg_b1 _ | exact Or.inl rfl | exact Or.inr rfl) ⟨by simp only [tlB, decide_true, decide_false, cond_true, cond_false, Bool.false_eq_true, if_true, if_false, ite_true, ite_false, h4, h16]; split at h16 <;> rename_i q7 <;> first | (rw [decide_eq_true q7]; rfl) | (rw [decide_eq_false q7]; rfl) | exact absurd h16 (nI_ne9 hm) | exact absurd rfl h16, by simp only [tlH, tlB, decide_true, decide_false, cond_true, cond_false, Bool.false_eq_true, if_true, if_false, ite_true, ite_false, h4, h16]; by_cases q7 : hM t < 7 <;> simp (decide := true) only [q7, if_true, if_false, decide_true, decide_false, cond_true, cond_false, Bool.false_eq_true, if_true, if_false, ite_true, ite_false]⟩
set_option maxRecDepth 100000 in
set_option maxHeartbeats 2000000 in
theorem c_tellStands {G : tg_G} {n p t : tp_H} {x : tp_X} {r : List tg_Cl} (hm : hM t ≤ 7) (a b : Int32) : tg_C G 3 mX3_tellStands 0 0 [.ref 26, .int a, .int b] (tp_cs n p t x, r) (fun v w => v = some (.int (tg_b (saB t a b))) ∧ w = (tp_cs n p (saH t a b) x, r)) := by
  refine tg_intro okX3_tellStands (Nat.le_of_ble_eq_true rfl) ?_
  refine tg_steps 2 rfl ?_
  refine tg_callV rfl (c_has_2 a) rfl rfl rfl rfl rfl (fun v2 w2 q2 => ?_)
  obtain ⟨rfl, rfl⟩ := q2
  refine tg_ifbeq rfl rfl (fun h5 => ?_) (fun h5 => ?_)
  · refine tg_steps 1 rfl ?_
    exact tg_zret (st := []) rfl rfl ⟨Nat.le_of_ble_eq_true rfl, Nat.le_of_ble_eq_true rfl⟩ (by first | exact tg_b1 _ | exact Or.inl rfl | exact Or.inr rfl) ⟨by first | rfl | (simp (decide := true) only [saH, saB, tg_b, decide_true, decide_false, cond_true, cond_false, Bool.false_eq_true, if_true, if_false, ite_true, ite_false, h5]; done) | (simp (decide := true) only [saH, saB, tg_b, decide_true, decide_false, cond_true, cond_false, Bool.false_eq_true, if_true, if_false, ite_true, ite_false, h5]; done), by simp only [saH, saB, decide_true, decide_false, cond_true, cond_false, Bool.false_eq_true, if_true, if_false, ite_true, ite_false, h5]⟩
  · refine tg_steps 1 rfl ?_
    refine tg_call4 rfl (c_isTile b) rfl rfl rfl  (fun v9 w9 q9 => ?_)
    obtain ⟨rfl, rfl⟩ := q9
    refine tg_ifbne rfl rfl (fun h12 => ?_) (fun h12 => ?_)
    · refine tg_steps 3 rfl ?_
      refine tg_callV rfl (c_put_2 hm a b) rfl rfl rfl rfl rfl (fun v20 w20 q20 => ?_)
      obtain ⟨rfl, rfl⟩ := q20
      refine tg_steps 1 rfl ?_
      exact tg_zret (st := []) rfl rfl ⟨Nat.le_of_ble_eq_true rfl, Nat.le_of_ble_eq_true rfl⟩ (by first | exact tg_b1 _ | exact Or.inl rfl | exact Or.inr rfl) ⟨by first | rfl | (simp (decide := true) only [saH, saB, tg_b, decide_true, decide_false, cond_true, cond_false, Bool.false_eq_true, if_true, if_false, ite_true, ite_false, h5, h12]; done) | (simp (decide := true) only [saH, saB, tg_b, decide_true, decide_false, cond_true, cond_false, Bool.false_eq_true, if_true, if_false, ite_true, ite_false, h5, h12]; done), by simp only [saH, saB, decide_true, decide_false, cond_true, cond_false, Bool.false_eq_true, if_true, if_false, ite_true, ite_false, h5, h12]⟩
    · refine tg_steps 1 rfl ?_
      exact tg_zret (st := []) rfl rfl ⟨Nat.le_of_ble_eq_true rfl, Nat.le_of_ble_eq_true rfl⟩ (by first | exact tg_b1 _ | exact Or.inl rfl | exact Or.inr rfl) ⟨by first | rfl | (simp (decide := true) only [saH, saB, tg_b, decide_true, decide_false, cond_true, cond_false, Bool.false_eq_true, if_true, if_false, ite_true, ite_false, h5, h12]; done) | (simp (decide := true) only [saH, saB, tg_b, decide_true, decide_false, cond_true, cond_false, Bool.false_eq_true, if_true, if_false, ite_true, ite_false, h5, h12]; done), by simp only [saH, saB, decide_true, decide_false, cond_true, cond_false, Bool.false_eq_true, if_true, if_false, ite_true, ite_false, h5, h12]⟩
set_option maxRecDepth 100000 in
set_option maxHeartbeats 2000000 in
theorem c_tellCrack {G : tg_G} {n p t : tp_H} {x : tp_X} {r : List tg_Cl} (a : Int32) : tg_C G 2 mX3_tellCrack 0 0 [.ref 26, .int a] (tp_cs n p t x, r) (fun v w => v = some (.int (tg_b (isT a))) ∧ w = (tp_cs n p (scH t a) x, r)) := by
  refine tg_intro okX3_tellCrack (Nat.le_of_ble_eq_true rfl) ?_
  refine tg_steps 1 rfl ?_
  refine tg_call4 rfl (c_isTile a) rfl rfl rfl  (fun v1 w1 q1 => ?_)
  obtain ⟨rfl, rfl⟩ := q1
  refine tg_ifbne rfl rfl (fun h4 => ?_) (fun h4 => ?_)
  · refine tg_steps 2 rfl ?_
    refine tg_callV rfl (c_turnCrack_2 a) rfl rfl rfl rfl rfl (fun v11 w11 q11 => ?_)
    obtain ⟨rfl, rfl⟩ := q11
    refine tg_steps 1 rfl ?_
    exact tg_zret (st := []) rfl rfl ⟨Nat.le_of_ble_eq_true rfl, Nat.le_of_ble_eq_true rfl⟩ (by first | exact tg_b1 _ | exact Or.inl rfl | exact Or.inr rfl) ⟨by first | rfl | (simp (decide := true) only [scH, tg_b, decide_true, decide_false, cond_true, cond_false, Bool.false_eq_true, if_true, if_false, ite_true, ite_false, h4]; done) | (simp (decide := true) only [scH, tg_b, decide_true, decide_false, cond_true, cond_false, Bool.false_eq_true, if_true, if_false, ite_true, ite_false, h4]; done), by simp only [scH, decide_true, decide_false, cond_true, cond_false, Bool.false_eq_true, if_true, if_false, ite_true, ite_false, h4]⟩
  · refine tg_steps 1 rfl ?_
    exact tg_zret (st := []) rfl rfl ⟨Nat.le_of_ble_eq_true rfl, Nat.le_of_ble_eq_true rfl⟩ (by first | exact tg_b1 _ | exact Or.inl rfl | exact Or.inr rfl) ⟨by first | rfl | (simp (decide := true) only [scH, tg_b, decide_true, decide_false, cond_true, cond_false, Bool.false_eq_true, if_true, if_false, ite_true, ite_false, h4]; done) | (simp (decide := true) only [scH, tg_b, decide_true, decide_false, cond_true, cond_false, Bool.false_eq_true, if_true, if_false, ite_true, ite_false, h4]; done), by simp only [scH, decide_true, decide_false, cond_true, cond_false, Bool.false_eq_true, if_true, if_false, ite_true, ite_false, h4]⟩
set_option maxRecDepth 100000 in
set_option maxHeartbeats 2000000 in
theorem c_tellShip {G : tg_G} {n p t : tp_H} {x : tp_X} {r : List tg_Cl} (a : Int32) : tg_C G 2 mX3_tellShip 0 0 [.ref 26, .int a] (tp_cs n p t x, r) (fun v w => v = some (.int (tg_b (isT a))) ∧ w = (tp_cs n p (ssH t a) x, r)) := by
  refine tg_intro okX3_tellShip (Nat.le_of_ble_eq_true rfl) ?_
  refine tg_steps 1 rfl ?_
  refine tg_call4 rfl (c_isTile a) rfl rfl rfl  (fun v1 w1 q1 => ?_)
  obtain ⟨rfl, rfl⟩ := q1
  refine tg_ifbne rfl rfl (fun h4 => ?_) (fun h4 => ?_)
  · refine tg_steps 3 rfl ?_
    refine tg_eqW (w2 := (tp_cs n p (sS t a) x, r)) rfl ?_
    refine tg_steps 1 rfl ?_
    exact tg_zret (st := []) rfl rfl ⟨Nat.le_of_ble_eq_true rfl, Nat.le_of_ble_eq_true rfl⟩ (by first | exact tg_b1 _ | exact Or.inl rfl | exact Or.inr rfl) ⟨by first | rfl | (simp (decide := true) only [ssH, tg_b, decide_true, decide_false, cond_true, cond_false, Bool.false_eq_true, if_true, if_false, ite_true, ite_false, h4]; done) | (simp (decide := true) only [ssH, tg_b, decide_true, decide_false, cond_true, cond_false, Bool.false_eq_true, if_true, if_false, ite_true, ite_false, h4]; done), by simp only [ssH, decide_true, decide_false, cond_true, cond_false, Bool.false_eq_true, if_true, if_false, ite_true, ite_false, h4]⟩
  · refine tg_steps 1 rfl ?_
    exact tg_zret (st := []) rfl rfl ⟨Nat.le_of_ble_eq_true rfl, Nat.le_of_ble_eq_true rfl⟩ (by first | exact tg_b1 _ | exact Or.inl rfl | exact Or.inr rfl) ⟨by first | rfl | (simp (decide := true) only [ssH, tg_b, decide_true, decide_false, cond_true, cond_false, Bool.false_eq_true, if_true, if_false, ite_true, ite_false, h4]; done) | (simp (decide := true) only [ssH, tg_b, decide_true, decide_false, cond_true, cond_false, Bool.false_eq_true, if_true, if_false, ite_true, ite_false, h4]; done), by simp only [ssH, decide_true, decide_false, cond_true, cond_false, Bool.false_eq_true, if_true, if_false, ite_true, ite_false, h4]⟩
set_option maxRecDepth 100000 in
set_option maxHeartbeats 2000000 in
theorem c_tellPin {G : tg_G} {n p t : tp_H} {x : tp_X} {r : List tg_Cl} (hm : hM t ≤ 7) (a b : Int32) : tg_C G 4 mX3_tellPin 0 0 [.ref 26, .int a, .int b] (tp_cs n p t x, r) (fun v w => v = some (.int (tg_b (hasB t a))) ∧ w = (tp_cs n p (spH t a b) x, r)) := by
  refine tg_intro okX3_tellPin (Nat.le_of_ble_eq_true rfl) ?_
  refine tg_steps 2 rfl ?_
  refine tg_callV rfl (c_has_2 a) rfl rfl rfl rfl rfl (fun v2 w2 q2 => ?_)
  obtain ⟨rfl, rfl⟩ := q2
  refine tg_ifbne rfl rfl (fun h5 => ?_) (fun h5 => ?_)
  · refine tg_steps 3 rfl ?_
    refine tg_callV rfl (c_sendHome_2 hm a b) rfl rfl rfl rfl rfl (fun v13 w13 q13 => ?_)
    obtain ⟨rfl, rfl⟩ := q13
    refine tg_steps 1 rfl ?_
    exact tg_zret (st := []) rfl rfl ⟨Nat.le_of_ble_eq_true rfl, Nat.le_of_ble_eq_true rfl⟩ (by first | exact tg_b1 _ | exact Or.inl rfl | exact Or.inr rfl) ⟨by first | rfl | (simp (decide := true) only [spH, tg_b, decide_true, decide_false, cond_true, cond_false, Bool.false_eq_true, if_true, if_false, ite_true, ite_false, h5]; done) | (simp (decide := true) only [spH, tg_b, decide_true, decide_false, cond_true, cond_false, Bool.false_eq_true, if_true, if_false, ite_true, ite_false, h5]; done), by simp only [spH, decide_true, decide_false, cond_true, cond_false, Bool.false_eq_true, if_true, if_false, ite_true, ite_false, h5]⟩
  · refine tg_steps 1 rfl ?_
    exact tg_zret (st := []) rfl rfl ⟨Nat.le_of_ble_eq_true rfl, Nat.le_of_ble_eq_true rfl⟩ (by first | exact tg_b1 _ | exact Or.inl rfl | exact Or.inr rfl) ⟨by first | rfl | (simp (decide := true) only [spH, tg_b, decide_true, decide_false, cond_true, cond_false, Bool.false_eq_true, if_true, if_false, ite_true, ite_false, h5]; done) | (simp (decide := true) only [spH, tg_b, decide_true, decide_false, cond_true, cond_false, Bool.false_eq_true, if_true, if_false, ite_true, ite_false, h5]; done), by simp only [spH, decide_true, decide_false, cond_true, cond_false, Bool.false_eq_true, if_true, if_false, ite_true, ite_false, h5]⟩
set_option maxRecDepth 100000 in
set_option maxHeartbeats 2000000 in
theorem c_tellNights {G : tg_G} {n p t : tp_H} {x : tp_X} {r : List tg_Cl} (hm : hM t ≤ 7) (a : Int32) : tg_C G 5 mX3_tellNights 0 0 [.ref 26, .int a] (tp_cs n p t x, r) (fun v w => v = some (.int (tg_b (snB t a))) ∧ w = (tp_cs n p (snH t a) x, r)) := by
  refine tg_intro okX3_tellNights (Nat.le_of_ble_eq_true rfl) ?_
  refine tg_steps 2 rfl ?_
  refine tg_iclt rfl rfl (fun h2 => ?_) (fun h2 => ?_)
  · refine tg_steps 1 rfl ?_
    exact tg_zret (st := []) rfl rfl ⟨Nat.le_of_ble_eq_true rfl, Nat.le_of_ble_eq_true rfl⟩ (by first | exact tg_b1 _ | exact Or.inl rfl | exact Or.inr rfl) ⟨by simp only [snB, tg_b, decide_true, decide_false, cond_true, cond_false, Bool.false_eq_true, if_true, if_false, ite_true, ite_false, h2, Int32.not_le.mpr h2], by simp only [snH, snB, decide_true, decide_false, cond_true, cond_false, Bool.false_eq_true, if_true, if_false, ite_true, ite_false, h2, Int32.not_le.mpr h2]⟩
  · refine tg_steps 2 rfl ?_
    refine tg_icgt rfl rfl (fun h8 => ?_) (fun h8 => ?_)
    · refine tg_steps 1 rfl ?_
      exact tg_zret (st := []) rfl rfl ⟨Nat.le_of_ble_eq_true rfl, Nat.le_of_ble_eq_true rfl⟩ (by first | exact tg_b1 _ | exact Or.inl rfl | exact Or.inr rfl) ⟨by simp only [snB, tg_b, decide_true, decide_false, cond_true, cond_false, Bool.false_eq_true, if_true, if_false, ite_true, ite_false, h2, Int32.not_lt.mp h2, h8, Int32.not_le.mpr h8], by simp only [snH, snB, decide_true, decide_false, cond_true, cond_false, Bool.false_eq_true, if_true, if_false, ite_true, ite_false, h2, Int32.not_lt.mp h2, h8, Int32.not_le.mpr h8]⟩
    · refine tg_steps 5 rfl ?_
      refine tg_icle rfl rfl (fun h20 => ?_) (fun h20 => ?_)
      · have hsn : snB t a = true := by simp only [snB, decide_true, decide_false, cond_true, cond_false, Bool.false_eq_true, if_true, if_false, ite_true, ite_false, h2, Int32.not_lt.mp h2, h8, Int32.not_lt.mp h8, h20, Int32.not_lt.mpr h20]
        obtain ⟨k, hk, hka⟩ := nI_of2 (x := a) (M := 60) (n := 60) rfl (fun q => h2 (Int32.lt_trans q (by decide))) (Int32.not_lt.mp h8)
        have hcl : a.toNatClampNeg = k := by rw [hka]; exact nI_clamp (by omega)
        refine tg_steps 2 rfl ?_
        refine tg_pkV [0, 1, 2] ?_
        refine tg_eqS (L2 := [(0, .ref 26), (1, .int a), (2, .int (nI (0)))]) (st2 := []) (w2 := (tp_cs n p (pNs (0) t) x, r)) rfl rfl rfl ?_
        refine tg_down (φ := fun i : Nat => tg_V G 5 mX3_tellNights 0 0 0 0 (fun v w => v = some (.int (tg_b (snB t a))) ∧ w = (tp_cs n p (snH t a) x, r)) 27 [(0, .ref 26), (1, .int a), (2, .int (nI (i)))] [] (tp_cs n p (pNs (i) t) x, r)) (n := k) ?_ ?_ 0 (Nat.zero_le _) 
        · refine tg_steps 2 rfl ?_
          refine tg_icge rfl rfl (fun h29 => ?_) (fun h29 => ?_)
          · refine tg_steps 1 rfl ?_
            exact tg_zret (st := []) rfl rfl ⟨Nat.le_of_ble_eq_true rfl, Nat.le_of_ble_eq_true rfl⟩ (by first | exact tg_b1 _ | exact Or.inl rfl | exact Or.inr rfl) ⟨by rw [hsn]; rfl, by unfold snH; rw [hsn, cond_true, hcl]⟩
          · exact absurd (by rw [hka]; exact nI_le (Nat.le_refl _) (by omega)) h29
        · intro i hi27 ih27
          refine tg_steps 2 rfl ?_
          refine tg_icge rfl rfl (fun h29 => ?_) (fun h29 => ?_)
          · exact absurd (hka ▸ h29) (nI_ge hi27 (by omega))
          · refine tg_steps 1 rfl ?_
            refine tg_callV rfl (c_passNight_2 (pm7 hm i)) rfl rfl rfl rfl rfl (fun v33 w33 q33 => ?_)
            obtain ⟨rfl, rfl⟩ := q33
            refine tg_steps 3 rfl ?_
            refine tg_pkV [0, 1, 2] ?_
            refine tg_eqS (L2 := [(0, .ref 26), (1, .int a), (2, .int (nI (i + 1)))]) (st2 := []) (w2 := (tp_cs n p (pNs (i + 1) t) x, r)) (by first | rfl | (simp (decide := true) only [nI_succ, pNs_succ, decide_true, decide_false, cond_true, cond_false, Bool.false_eq_true, if_true, if_false, ite_true, ite_false, h2, Int32.not_lt.mp h2, h8, Int32.not_lt.mp h8, h20, Int32.not_lt.mpr h20]; done) | (simp (decide := true) only [nI_succ, pNs_succ, decide_true, decide_false, cond_true, cond_false, Bool.false_eq_true, if_true, if_false, ite_true, ite_false, h2, Int32.not_lt.mp h2, h8, Int32.not_lt.mp h8, h20, Int32.not_lt.mpr h20]; rfl)) rfl (by first | rfl | (simp (decide := true) only [nI_succ, pNs_succ, decide_true, decide_false, cond_true, cond_false, Bool.false_eq_true, if_true, if_false, ite_true, ite_false, h2, Int32.not_lt.mp h2, h8, Int32.not_lt.mp h8, h20, Int32.not_lt.mpr h20]; done) | (simp (decide := true) only [nI_succ, pNs_succ, decide_true, decide_false, cond_true, cond_false, Bool.false_eq_true, if_true, if_false, ite_true, ite_false, h2, Int32.not_lt.mp h2, h8, Int32.not_lt.mp h8, h20, Int32.not_lt.mpr h20]; rfl)) ?_
            exact ih27
      · refine tg_steps 1 rfl ?_
        exact tg_zret (st := []) rfl rfl ⟨Nat.le_of_ble_eq_true rfl, Nat.le_of_ble_eq_true rfl⟩ (by first | exact tg_b1 _ | exact Or.inl rfl | exact Or.inr rfl) ⟨by simp only [snB, tg_b, decide_true, decide_false, cond_true, cond_false, Bool.false_eq_true, if_true, if_false, ite_true, ite_false, h2, Int32.not_lt.mp h2, h8, Int32.not_lt.mp h8, h20, Int32.not_le.mp h20], by simp only [snH, snB, decide_true, decide_false, cond_true, cond_false, Bool.false_eq_true, if_true, if_false, ite_true, ite_false, h2, Int32.not_lt.mp h2, h8, Int32.not_lt.mp h8, h20, Int32.not_le.mp h20]⟩
theorem tsB_a {x : tp_X} {t : tp_H} {s : Int32} (h : atL x s = 97) : tsB x t s = saB t (dgL x (s + 1)) (nuL x (s + 2)) ∧ tsH x t s = saH t (dgL x (s + 1)) (nuL x (s + 2)) := by
  unfold tsB tsH
  rw [h]
  exact ⟨rfl, rfl⟩
theorem tsB_c {x : tp_X} {t : tp_H} {s : Int32} (h : atL x s = 99) : tsB x t s = isT (nuL x (s + 1)) ∧ tsH x t s = scH t (nuL x (s + 1)) := by
  unfold tsB tsH
  rw [h]
  exact ⟨rfl, rfl⟩
theorem tsB_l {x : tp_X} {t : tp_H} {s : Int32} (h : atL x s = 108) : tsB x t s = tlB t (nuL x (s + 3)) ∧ tsH x t s = tlH t (koL (atL x (s + 1))) (dgL x (s + 2)) (nuL x (s + 3)) := by
  unfold tsB tsH
  rw [h]
  exact ⟨rfl, rfl⟩
theorem tsB_n {x : tp_X} {t : tp_H} {s : Int32} (h : atL x s = 110) : tsB x t s = snB t (nuL x (s + 1)) ∧ tsH x t s = snH t (nuL x (s + 1)) := by
  unfold tsB tsH
  rw [h]
  exact ⟨rfl, rfl⟩
theorem tsB_p {x : tp_X} {t : tp_H} {s : Int32} (h : atL x s = 112) : tsB x t s = hasB t (dgL x (s + 1)) ∧ tsH x t s = spH t (dgL x (s + 1)) (dgL x (s + 2)) := by
  unfold tsB tsH
  rw [h]
  exact ⟨rfl, rfl⟩
theorem tsB_s {x : tp_X} {t : tp_H} {s : Int32} (h : atL x s = 115) : tsB x t s = isT (nuL x (s + 1)) ∧ tsH x t s = ssH t (nuL x (s + 1)) := by
  unfold tsB tsH
  rw [h]
  exact ⟨rfl, rfl⟩
theorem tsB_d {x : tp_X} {t : tp_H} {s : Int32} (h1 : ¬ atL x s = 97) (h2 : ¬ atL x s = 99) (h3 : ¬ atL x s = 108) (h4 : ¬ atL x s = 110) (h5 : ¬ atL x s = 112) (h6 : ¬ atL x s = 115) : tsB x t s = false ∧ tsH x t s = t := by
  unfold tsB tsH
  rw [if_neg h1, if_neg h2, if_neg h3, if_neg h4, if_neg h5, if_neg h6, if_neg h1, if_neg h2, if_neg h3, if_neg h4, if_neg h5, if_neg h6]
  exact ⟨rfl, rfl⟩
theorem tsB_o {x : tp_X} {t : tp_H} {s c : Int32} (h : atL x s = c) (hc : decide (¬ c = 97 ∧ ¬ c = 99 ∧ ¬ c = 108 ∧ ¬ c = 110 ∧ ¬ c = 112 ∧ ¬ c = 115) = true) : tsB x t s = false ∧ tsH x t s = t := by
  obtain ⟨h1, h2, h3, h4, h5, h6⟩ := of_decide_eq_true hc
  subst h
  exact tsB_d h1 h2 h3 h4 h5 h6
set_option maxRecDepth 100000 in
set_option maxHeartbeats 2000000 in
theorem c_tellStatement {G : tg_G} {n p t : tp_H} {x : tp_X} {r : List tg_Cl} (hl : xLm x ≤ 96) (hm : hM t ≤ 7) (s : Int32) : tg_C G 6 mX3_tellStatement 0 0 [.ref 43, .ref 26, .int s] (tp_cs n p t x, r) (fun v w => v = some (.int (tg_b (tsB x t s))) ∧ w = (tp_cs n p (tsH x t s) x, r)) := by
  refine tg_intro okX3_tellStatement (Nat.le_of_ble_eq_true rfl) ?_
  refine tg_steps 2 rfl ?_
  refine tg_callV rfl (c_at hl _) rfl rfl rfl rfl rfl (fun v2 w2 q2 => ?_)
  obtain ⟨rfl, rfl⟩ := q2
  refine tg_tsw rfl ?_
  refine And.intro (fun h5_0 => ?_) (fun h5_0 => ?_)
  · refine tg_steps 5 rfl ?_
    refine tg_callV rfl (c_digit hl _) rfl rfl rfl rfl rfl (fun v130 w130 q130 => ?_)
    obtain ⟨rfl, rfl⟩ := q130
    refine tg_steps 4 rfl ?_
    refine tg_callV rfl (c_number hl _) rfl rfl rfl rfl rfl (fun v137 w137 q137 => ?_)
    obtain ⟨rfl, rfl⟩ := q137
    refine tg_call1 rfl (c_tellStands hm _ _) rfl rfl rfl  (fun v140 w140 q140 => ?_)
    obtain ⟨rfl, rfl⟩ := q140
    exact tg_zret (st := []) rfl rfl ⟨Nat.le_of_ble_eq_true rfl, Nat.le_of_ble_eq_true rfl⟩ (by first | exact tg_b1 _ | exact Or.inl rfl | exact Or.inr rfl) ⟨by rw [(tsB_a h5_0).1], by rw [(tsB_a h5_0).2]⟩
  refine And.intro (fun h5_1 => ?_) (fun h5_1 => ?_)
  · refine tg_steps 1 rfl ?_
    exact tg_zret (st := []) rfl rfl ⟨Nat.le_of_ble_eq_true rfl, Nat.le_of_ble_eq_true rfl⟩ (by first | exact tg_b1 _ | exact Or.inl rfl | exact Or.inr rfl) ⟨by rw [(tsB_o h5_1 (by decide)).1]; rfl, by rw [(tsB_o h5_1 (by decide)).2]⟩
  refine And.intro (fun h5_2 => ?_) (fun h5_2 => ?_)
  · refine tg_steps 5 rfl ?_
    refine tg_callV rfl (c_number hl _) rfl rfl rfl rfl rfl (fun v149 w149 q149 => ?_)
    obtain ⟨rfl, rfl⟩ := q149
    refine tg_call1 rfl (c_tellCrack _) rfl rfl rfl  (fun v152 w152 q152 => ?_)
    obtain ⟨rfl, rfl⟩ := q152
    exact tg_zret (st := []) rfl rfl ⟨Nat.le_of_ble_eq_true rfl, Nat.le_of_ble_eq_true rfl⟩ (by first | exact tg_b1 _ | exact Or.inl rfl | exact Or.inr rfl) ⟨by rw [(tsB_c h5_2).1], by rw [(tsB_c h5_2).2]⟩
  refine And.intro (fun h5_3 => ?_) (fun h5_3 => ?_)
  · refine tg_steps 1 rfl ?_
    exact tg_zret (st := []) rfl rfl ⟨Nat.le_of_ble_eq_true rfl, Nat.le_of_ble_eq_true rfl⟩ (by first | exact tg_b1 _ | exact Or.inl rfl | exact Or.inr rfl) ⟨by rw [(tsB_o h5_3 (by decide)).1]; rfl, by rw [(tsB_o h5_3 (by decide)).2]⟩
  refine And.intro (fun h5_4 => ?_) (fun h5_4 => ?_)
  · refine tg_steps 1 rfl ?_
    exact tg_zret (st := []) rfl rfl ⟨Nat.le_of_ble_eq_true rfl, Nat.le_of_ble_eq_true rfl⟩ (by first | exact tg_b1 _ | exact Or.inl rfl | exact Or.inr rfl) ⟨by rw [(tsB_o h5_4 (by decide)).1]; rfl, by rw [(tsB_o h5_4 (by decide)).2]⟩
  refine And.intro (fun h5_5 => ?_) (fun h5_5 => ?_)
  · refine tg_steps 1 rfl ?_
    exact tg_zret (st := []) rfl rfl ⟨Nat.le_of_ble_eq_true rfl, Nat.le_of_ble_eq_true rfl⟩ (by first | exact tg_b1 _ | exact Or.inl rfl | exact Or.inr rfl) ⟨by rw [(tsB_o h5_5 (by decide)).1]; rfl, by rw [(tsB_o h5_5 (by decide)).2]⟩
  refine And.intro (fun h5_6 => ?_) (fun h5_6 => ?_)
  · refine tg_steps 1 rfl ?_
    exact tg_zret (st := []) rfl rfl ⟨Nat.le_of_ble_eq_true rfl, Nat.le_of_ble_eq_true rfl⟩ (by first | exact tg_b1 _ | exact Or.inl rfl | exact Or.inr rfl) ⟨by rw [(tsB_o h5_6 (by decide)).1]; rfl, by rw [(tsB_o h5_6 (by decide)).2]⟩
  refine And.intro (fun h5_7 => ?_) (fun h5_7 => ?_)
  · refine tg_steps 1 rfl ?_
    exact tg_zret (st := []) rfl rfl ⟨Nat.le_of_ble_eq_true rfl, Nat.le_of_ble_eq_true rfl⟩ (by first | exact tg_b1 _ | exact Or.inl rfl | exact Or.inr rfl) ⟨by rw [(tsB_o h5_7 (by decide)).1]; rfl, by rw [(tsB_o h5_7 (by decide)).2]⟩
  refine And.intro (fun h5_8 => ?_) (fun h5_8 => ?_)
  · refine tg_steps 1 rfl ?_
    exact tg_zret (st := []) rfl rfl ⟨Nat.le_of_ble_eq_true rfl, Nat.le_of_ble_eq_true rfl⟩ (by first | exact tg_b1 _ | exact Or.inl rfl | exact Or.inr rfl) ⟨by rw [(tsB_o h5_8 (by decide)).1]; rfl, by rw [(tsB_o h5_8 (by decide)).2]⟩
  refine And.intro (fun h5_9 => ?_) (fun h5_9 => ?_)
  · refine tg_steps 1 rfl ?_
    exact tg_zret (st := []) rfl rfl ⟨Nat.le_of_ble_eq_true rfl, Nat.le_of_ble_eq_true rfl⟩ (by first | exact tg_b1 _ | exact Or.inl rfl | exact Or.inr rfl) ⟨by rw [(tsB_o h5_9 (by decide)).1]; rfl, by rw [(tsB_o h5_9 (by decide)).2]⟩
  refine And.intro (fun h5_10 => ?_) (fun h5_10 => ?_)
  · refine tg_steps 1 rfl ?_
    exact tg_zret (st := []) rfl rfl ⟨Nat.le_of_ble_eq_true rfl, Nat.le_of_ble_eq_true rfl⟩ (by first | exact tg_b1 _ | exact Or.inl rfl | exact Or.inr rfl) ⟨by rw [(tsB_o h5_10 (by decide)).1]; rfl, by rw [(tsB_o h5_10 (by decide)).2]⟩
  refine And.intro (fun h5_11 => ?_) (fun h5_11 => ?_)
  · refine tg_steps 5 rfl ?_
    refine tg_callV rfl (c_at hl _) rfl rfl rfl rfl rfl (fun v101 w101 q101 => ?_)
    obtain ⟨rfl, rfl⟩ := q101
    refine tg_call1 rfl (c_kindOfLetter _) rfl rfl rfl  (fun v104 w104 q104 => ?_)
    obtain ⟨rfl, rfl⟩ := q104
    refine tg_steps 4 rfl ?_
    refine tg_callV rfl (c_digit hl _) rfl rfl rfl rfl rfl (fun v111 w111 q111 => ?_)
    obtain ⟨rfl, rfl⟩ := q111
    refine tg_steps 4 rfl ?_
    refine tg_callV rfl (c_number hl _) rfl rfl rfl rfl rfl (fun v118 w118 q118 => ?_)
    obtain ⟨rfl, rfl⟩ := q118
    refine tg_call1 rfl (c_tellLittle hm _ _ _) rfl rfl rfl  (fun v121 w121 q121 => ?_)
    obtain ⟨rfl, rfl⟩ := q121
    exact tg_zret (st := []) rfl rfl ⟨Nat.le_of_ble_eq_true rfl, Nat.le_of_ble_eq_true rfl⟩ (by first | exact tg_b1 _ | exact Or.inl rfl | exact Or.inr rfl) ⟨by rw [(tsB_l h5_11).1], by rw [(tsB_l h5_11).2]⟩
  refine And.intro (fun h5_12 => ?_) (fun h5_12 => ?_)
  · refine tg_steps 1 rfl ?_
    exact tg_zret (st := []) rfl rfl ⟨Nat.le_of_ble_eq_true rfl, Nat.le_of_ble_eq_true rfl⟩ (by first | exact tg_b1 _ | exact Or.inl rfl | exact Or.inr rfl) ⟨by rw [(tsB_o h5_12 (by decide)).1]; rfl, by rw [(tsB_o h5_12 (by decide)).2]⟩
  refine And.intro (fun h5_13 => ?_) (fun h5_13 => ?_)
  · refine tg_steps 5 rfl ?_
    refine tg_callV rfl (c_number hl _) rfl rfl rfl rfl rfl (fun v192 w192 q192 => ?_)
    obtain ⟨rfl, rfl⟩ := q192
    refine tg_call1 rfl (c_tellNights hm _) rfl rfl rfl  (fun v195 w195 q195 => ?_)
    obtain ⟨rfl, rfl⟩ := q195
    exact tg_zret (st := []) rfl rfl ⟨Nat.le_of_ble_eq_true rfl, Nat.le_of_ble_eq_true rfl⟩ (by first | exact tg_b1 _ | exact Or.inl rfl | exact Or.inr rfl) ⟨by rw [(tsB_n h5_13).1], by rw [(tsB_n h5_13).2]⟩
  refine And.intro (fun h5_14 => ?_) (fun h5_14 => ?_)
  · refine tg_steps 1 rfl ?_
    exact tg_zret (st := []) rfl rfl ⟨Nat.le_of_ble_eq_true rfl, Nat.le_of_ble_eq_true rfl⟩ (by first | exact tg_b1 _ | exact Or.inl rfl | exact Or.inr rfl) ⟨by rw [(tsB_o h5_14 (by decide)).1]; rfl, by rw [(tsB_o h5_14 (by decide)).2]⟩
  refine And.intro (fun h5_15 => ?_) (fun h5_15 => ?_)
  · refine tg_steps 5 rfl ?_
    refine tg_callV rfl (c_digit hl _) rfl rfl rfl rfl rfl (fun v173 w173 q173 => ?_)
    obtain ⟨rfl, rfl⟩ := q173
    refine tg_steps 4 rfl ?_
    refine tg_callV rfl (c_digit hl _) rfl rfl rfl rfl rfl (fun v180 w180 q180 => ?_)
    obtain ⟨rfl, rfl⟩ := q180
    refine tg_call1 rfl (c_tellPin hm _ _) rfl rfl rfl  (fun v183 w183 q183 => ?_)
    obtain ⟨rfl, rfl⟩ := q183
    exact tg_zret (st := []) rfl rfl ⟨Nat.le_of_ble_eq_true rfl, Nat.le_of_ble_eq_true rfl⟩ (by first | exact tg_b1 _ | exact Or.inl rfl | exact Or.inr rfl) ⟨by rw [(tsB_p h5_15).1], by rw [(tsB_p h5_15).2]⟩
  refine And.intro (fun h5_16 => ?_) (fun h5_16 => ?_)
  · refine tg_steps 1 rfl ?_
    exact tg_zret (st := []) rfl rfl ⟨Nat.le_of_ble_eq_true rfl, Nat.le_of_ble_eq_true rfl⟩ (by first | exact tg_b1 _ | exact Or.inl rfl | exact Or.inr rfl) ⟨by rw [(tsB_o h5_16 (by decide)).1]; rfl, by rw [(tsB_o h5_16 (by decide)).2]⟩
  refine And.intro (fun h5_17 => ?_) (fun h5_17 => ?_)
  · refine tg_steps 1 rfl ?_
    exact tg_zret (st := []) rfl rfl ⟨Nat.le_of_ble_eq_true rfl, Nat.le_of_ble_eq_true rfl⟩ (by first | exact tg_b1 _ | exact Or.inl rfl | exact Or.inr rfl) ⟨by rw [(tsB_o h5_17 (by decide)).1]; rfl, by rw [(tsB_o h5_17 (by decide)).2]⟩
  refine And.intro (fun h5_18 => ?_) (fun h5_18 => ?_)
  · refine tg_steps 5 rfl ?_
    refine tg_callV rfl (c_number hl _) rfl rfl rfl rfl rfl (fun v161 w161 q161 => ?_)
    obtain ⟨rfl, rfl⟩ := q161
    refine tg_call1 rfl (c_tellShip _) rfl rfl rfl  (fun v164 w164 q164 => ?_)
    obtain ⟨rfl, rfl⟩ := q164
    exact tg_zret (st := []) rfl rfl ⟨Nat.le_of_ble_eq_true rfl, Nat.le_of_ble_eq_true rfl⟩ (by first | exact tg_b1 _ | exact Or.inl rfl | exact Or.inr rfl) ⟨by rw [(tsB_s h5_18).1], by rw [(tsB_s h5_18).2]⟩
  refine tg_steps 1 rfl ?_
  exact tg_zret (st := []) rfl rfl ⟨Nat.le_of_ble_eq_true rfl, Nat.le_of_ble_eq_true rfl⟩ (by first | exact tg_b1 _ | exact Or.inl rfl | exact Or.inr rfl) ⟨by rw [(tsB_d h5_0 h5_2 h5_11 h5_13 h5_15 h5_18).1]; rfl, by rw [(tsB_d h5_0 h5_2 h5_11 h5_13 h5_15 h5_18).2]⟩
set_option maxRecDepth 100000 in
set_option maxHeartbeats 2000000 in
theorem c_tellTo {G : tg_G} {n p t : tp_H} {x : tp_X} {r : List tg_Cl} (hl : xLm x ≤ 96) (hm : hM n ≤ 7) : tg_C G 7 mX3_tellTo 0 0 [.ref 43, .ref 1, .ref 26] (tp_cs n p t x, r) (fun v w => if ffL x = -9 then v = some (.int (fiV (tcP x (cpF t n)) (tcV x) (nI (tcN x (xLm x))) (xLm x) 0)) ∧ (if (∃ i, i < xLm x ∧ tcP x (cpF t n) i = true) then ∃ t2, w = (tp_cs n p t2 x, r) else w = (tp_cs (cpF n (tcH x (cpF t n) (xLm x))) p (tcH x (cpF t n) (xLm x)) x, r)) else v = some (.int (-1000 - ffL x)) ∧ w = (tp_cs n p t x, r)) := by
  refine tg_intro okX3_tellTo (Nat.le_of_ble_eq_true rfl) ?_
  refine tg_steps 1 rfl ?_
  refine tg_callV rfl (c_placeOfFormFault hl) rfl rfl rfl rfl rfl (fun v1 w1 q1 => ?_)
  obtain ⟨rfl, rfl⟩ := q1
  refine tg_steps 3 rfl ?_
  refine tg_iceq rfl rfl (fun h8 => ?_) (fun h8 => ?_)
  · refine tg_steps 2 rfl ?_
    refine tg_callV rfl (c_copyFrom_20 hm) rfl rfl rfl rfl rfl (fun v19 w19 q19 => ?_)
    obtain ⟨rfl, rfl⟩ := q19
    refine tg_steps 6 rfl ?_
    refine tg_pkV [0, 1, 2, 4, 5, 6] ?_
    refine tg_eqS (L2 := [(0, .ref 43), (1, .ref 1), (2, .ref 26), (4, .int (nI (tcN x (0)))), (5, .int (nI (stS x (0)))), (6, .int (nI (0)))]) (st2 := []) (w2 := (tp_cs n p (tcH x (cpF t n) (0)) x, r)) rfl rfl rfl ?_
    refine tg_down (φ := fun i : Nat => (fiV (tcP x (cpF t n)) (tcV x) (nI (tcN x (xLm x))) (xLm x) 0 = fiV (tcP x (cpF t n)) (tcV x) (nI (tcN x (xLm x))) (xLm x - (i)) (i) ∧ ∀ j, j < i → tcP x (cpF t n) j = false) → tg_V G 7 mX3_tellTo 0 0 0 0 (fun v w => if ffL x = -9 then v = some (.int (fiV (tcP x (cpF t n)) (tcV x) (nI (tcN x (xLm x))) (xLm x) 0)) ∧ (if (∃ i, i < xLm x ∧ tcP x (cpF t n) i = true) then ∃ t2, w = (tp_cs n p t2 x, r) else w = (tp_cs (cpF n (tcH x (cpF t n) (xLm x))) p (tcH x (cpF t n) (xLm x)) x, r)) else v = some (.int (-1000 - ffL x)) ∧ w = (tp_cs n p t x, r)) 31 [(0, .ref 43), (1, .ref 1), (2, .ref 26), (4, .int (nI (tcN x (i)))), (5, .int (nI (stS x (i)))), (6, .int (nI (i)))] [] (tp_cs n p (tcH x (cpF t n) (i)) x, r)) (n := xLm x) ?_ ?_ 0 (Nat.zero_le _) (⟨rfl, fun j hj => absurd hj (Nat.not_lt_zero j)⟩)
    · intro hinv31
      refine tg_steps 3 rfl ?_
      refine tg_icge rfl rfl (fun h37 => ?_) (fun h37 => ?_)
      · refine tg_steps 2 rfl ?_
        refine tg_callV rfl (c_copyFrom_02 (tcH_M (t := cpF t n) hm (xLm x))) rfl rfl rfl rfl rfl (fun v86 w86 q86 => ?_)
        obtain ⟨rfl, rfl⟩ := q86
        refine tg_steps 1 rfl ?_
        exact tg_iret (st := []) rfl rfl ⟨Nat.le_of_ble_eq_true rfl, Nat.le_of_ble_eq_true rfl⟩ (Eq.mpr (if_pos h8) (by obtain ⟨hv, hall⟩ := hinv31; exact ⟨by rw [hv, Nat.sub_self]; rfl, by rw [if_neg (fun ⟨i, hi, hp⟩ => by rw [hall i hi] at hp; cases hp)]⟩))
      · exact absurd (nI_le (Nat.le_refl _) (by omega)) h37
    · intro i hi31 ih31 hinv31
      obtain ⟨hv, hall⟩ := hinv31
      rw [show xLm x - i = xLm x - (i + 1) + 1 by omega, fiV_succ _ _ _ (xLm x - (i + 1)) i] at hv
      refine tg_steps 3 rfl ?_
      refine tg_icge rfl rfl (fun h37 => ?_) (fun h37 => ?_)
      · exact absurd h37 (nI_ge hi31 (by omega))
      · refine tg_steps 3 rfl ?_
        refine tg_ialdN rfl rfl (i) rfl (by omega) (by decide) ?_
        refine tg_steps 1 rfl ?_
        refine tg_icne rfl rfl (fun h49 => ?_) (fun h49 => ?_)
        · refine tg_steps 2 rfl ?_
          refine tg_pkV [0, 1, 2, 4, 5, 6] ?_
          refine tg_eqS (L2 := [(0, .ref 43), (1, .ref 1), (2, .ref 26), (4, .int (nI (tcN x (i + 1)))), (5, .int (nI (stS x (i + 1)))), (6, .int (nI (i + 1)))]) (st2 := []) (w2 := (tp_cs n p (tcH x (cpF t n) (i + 1)) x, r)) (by first | rfl | (simp (decide := true) only [nI_succ, tcN_succ, stS_succ, tcH_succ, decide_true, decide_false, cond_true, cond_false, Bool.false_eq_true, if_true, if_false, ite_true, ite_false, h49]; done) | (simp (decide := true) only [nI_succ, tcN_succ, stS_succ, tcH_succ, decide_true, decide_false, cond_true, cond_false, Bool.false_eq_true, if_true, if_false, ite_true, ite_false, h49]; rfl)) rfl (by first | rfl | (simp (decide := true) only [nI_succ, tcN_succ, stS_succ, tcH_succ, decide_true, decide_false, cond_true, cond_false, Bool.false_eq_true, if_true, if_false, ite_true, ite_false, h49]; done) | (simp (decide := true) only [nI_succ, tcN_succ, stS_succ, tcH_succ, decide_true, decide_false, cond_true, cond_false, Bool.false_eq_true, if_true, if_false, ite_true, ite_false, h49]; rfl)) ?_
          exact ih31 (by have hp : tcP x (cpF t n) i = false := (by simp (decide := true) only [tcP, Bool.not_true, Bool.not_false, decide_true, decide_false, cond_true, cond_false, Bool.false_eq_true, if_true, if_false, ite_true, ite_false, h49]); rw [hp] at hv; exact ⟨hv, fun j hj => (by rcases Nat.lt_or_ge j i with q | q; exact hall j q; rw [show j = i by omega]; exact hp)⟩)
        · refine tg_steps 3 rfl ?_
          refine tg_callV rfl (c_tellStatement hl (tcH_M (t := cpF t n) hm i) _) rfl rfl rfl rfl rfl (fun v56 w56 q56 => ?_)
          obtain ⟨rfl, rfl⟩ := q56
          refine tg_ifbne rfl rfl (fun h59 => ?_) (fun h59 => ?_)
          · refine tg_steps 7 rfl ?_
            refine tg_pkV [0, 1, 2, 4, 5, 6] ?_
            refine tg_eqS (L2 := [(0, .ref 43), (1, .ref 1), (2, .ref 26), (4, .int (nI (tcN x (i + 1)))), (5, .int (nI (stS x (i + 1)))), (6, .int (nI (i + 1)))]) (st2 := []) (w2 := (tp_cs n p (tcH x (cpF t n) (i + 1)) x, r)) (by first | rfl | (simp (decide := true) only [nI_succ, tcN_succ, stS_succ, tcH_succ, decide_true, decide_false, cond_true, cond_false, Bool.false_eq_true, if_true, if_false, ite_true, ite_false, eq_true h49, h59]; done) | (simp (decide := true) only [nI_succ, tcN_succ, stS_succ, tcH_succ, decide_true, decide_false, cond_true, cond_false, Bool.false_eq_true, if_true, if_false, ite_true, ite_false, eq_true h49, h59]; rfl)) rfl (by first | rfl | (simp (decide := true) only [nI_succ, tcN_succ, stS_succ, tcH_succ, decide_true, decide_false, cond_true, cond_false, Bool.false_eq_true, if_true, if_false, ite_true, ite_false, eq_true h49, h59]; done) | (simp (decide := true) only [nI_succ, tcN_succ, stS_succ, tcH_succ, decide_true, decide_false, cond_true, cond_false, Bool.false_eq_true, if_true, if_false, ite_true, ite_false, eq_true h49, h59]; rfl)) ?_
            exact ih31 (by have hp : tcP x (cpF t n) i = false := (by simp (decide := true) only [tcP, Bool.not_true, Bool.not_false, decide_true, decide_false, cond_true, cond_false, Bool.false_eq_true, if_true, if_false, ite_true, ite_false, eq_true h49, h59]); rw [hp] at hv; exact ⟨hv, fun j hj => (by rcases Nat.lt_or_ge j i with q | q; exact hall j q; rw [show j = i by omega]; exact hp)⟩)
          · refine tg_steps 3 rfl ?_
            exact tg_iret (st := []) rfl rfl ⟨Nat.le_of_ble_eq_true rfl, Nat.le_of_ble_eq_true rfl⟩ (Eq.mpr (if_pos h8) (by have hp : tcP x (cpF t n) i = true := (by simp (decide := true) only [tcP, Bool.not_true, Bool.not_false, decide_true, decide_false, cond_true, cond_false, Bool.false_eq_true, if_true, if_false, ite_true, ite_false, eq_true h49, h59]); rw [hp] at hv; exact ⟨by rw [hv]; rfl, by rw [if_pos ⟨i, hi31, hp⟩]; exact ⟨_, rfl⟩⟩))
  · refine tg_steps 3 rfl ?_
    exact tg_iret (st := []) rfl rfl ⟨Nat.le_of_ble_eq_true rfl, Nat.le_of_ble_eq_true rfl⟩ (Eq.mpr (if_neg h8) ⟨rfl, rfl⟩)
