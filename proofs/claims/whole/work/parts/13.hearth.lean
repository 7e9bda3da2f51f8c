/-! contracts: ways, nights, the rest of Hearth -/
def wHo (t : Int32) : Int32 := if 18 ≤ t then wSk t else 2
def wFi (h : tp_H) (t k : Int32) : Int32 := if gO hF h k + 2 ≤ 0 then -9 else if ¬ hN h % (gO hF h k + 2) = 0 then -9 else wSk t
def wWi (h : tp_H) (t a : Int32) : Int32 := if a = -9 then a else if ¬ hN h % 2 = 0 then (if ¬ bes t ((a + 2) % 4) = -9 then (a + 2) % 4 else -9) else a
def wNo (h : tp_H) (t k : Int32) : Int32 := bif othB h k then wSa (hS h) t else -9
def way (h : tp_H) (kd t k : Int32) : Int32 := if kd = 1 then wHo t else if kd = 2 then wFi h t k else if kd = 3 then wSa (hS h) t else if kd = 4 then wWi h t (wSa (hS h) t) else if kd = 5 then wNo h t k else wSk t
def goR (B : Nat) (kd : Int32) : Nat := if kd = 1 then B + 7 else if kd = 2 then B + 8 else if kd = 3 then B + 9 else if kd = 4 then B + 10 else if kd = 5 then B + 11 else B + 6
def mGo (h : tp_H) (a b : Int32) : Bool := bif crB h a then false else bif crB h b then false else decide (mAt h b < 3)
def nGo (h : tp_H) (i : Nat) : Int32 := bes (hT h i) (way h (hK h i) (hT h i) (nI i))
def nOne (h : tp_H) (i : Nat) : tp_H := if hT h i = hS h then h else if hP h i ≤ 0 then (if nGo h i = -9 then h else bif mGo h (hT h i) (nGo h i) then sT h (tg_u (hT h) i (nGo h i)) else h) else sP h (tg_u (hP h) i (hP h i - 1))
def nGn (h : tp_H) (i : Nat) : Bool := if hT h i = hS h then false else if hP h i ≤ 0 then (if nGo h i = -9 then false else mGo h (hT h i) (nGo h i)) else false
def nTo (h : tp_H) : Nat → tp_H
  | 0 => h
  | i + 1 => nOne (nTo h i) i
def nGt (h : tp_H) : Nat → Bool
  | 0 => false
  | i + 1 => bif nGn (nTo h i) i then true else nGt h i
theorem nTo_succ (h : tp_H) (i : Nat) : nTo h (i + 1) = nOne (nTo h i) i := rfl
theorem nGt_succ (h : tp_H) (i : Nat) : nGt h (i + 1) = bif nGn (nTo h i) i then true else nGt h i := rfl
theorem nOne_M (h : tp_H) (i : Nat) : hM (nOne h i) = hM h := by
  unfold nOne
  split
  · rfl
  · split
    · split
      · rfl
      · cases mGo h (hT h i) (nGo h i) <;> rfl
    · rfl
theorem nTo_M (h : tp_H) (i : Nat) : hM (nTo h i) = hM h := by
  induction i with
  | zero => rfl
  | succ i ih => rw [nTo_succ, nOne_M, ih]
def pNt (h : tp_H) : tp_H := nTo (sN h (hN h + 1)) (hM h)
def pGn (h : tp_H) : Bool := nGt (sN h (hN h + 1)) (hM h)
theorem pNt_M (h : tp_H) : hM (pNt h) = hM h := nTo_M _ _
def pNs : Nat → tp_H → tp_H
  | 0, h => h
  | k + 1, h => pNt (pNs k h)
theorem pNs_succ (k : Nat) (h : tp_H) : pNs (k + 1) h = pNt (pNs k h) := rfl
theorem pNs_M (k : Nat) (h : tp_H) : hM (pNs k h) = hM h := by
  induction k with
  | zero => rfl
  | succ k ih => rw [pNs_succ, pNt_M, ih]
def uP (f : tp_A) (h : tp_H) (k v : Int32) : tp_A := bif hasB h k then tg_u f k.toNatClampNeg v else f
def pinH (h : tp_H) (k v : Int32) : tp_H := sP h (uP (hP h) h k v)
def putH (h : tp_H) (k v : Int32) : tp_H := sT h (uP (hT h) h k v)
def senH (h : tp_H) (k v : Int32) : tp_H := putH (pinH h k v) k (gO hH h k)
def becH (h : tp_H) (k kd f : Int32) : tp_H := sF (sK h (uP (hK h) h k kd)) (uP (hF h) h k f)
def crkH (h : tp_H) (t : Int32) : tp_H := sC h (hC h ^^^ (1 <<< (t &&& 31)))
def mix (i : Nat) (f g : tp_A) : tp_A := fun j => bif Nat.blt j i then g j else f j
theorem mix_succ (i : Nat) (f g : tp_A) : mix (i + 1) f g = tg_u (mix i f g) i (g i) := by
  funext j
  rw [tg_u_eq]
  unfold mix
  by_cases h1 : j = i
  · subst h1
    rw [if_pos rfl, show Nat.blt j (j + 1) = true from (by simp only [Nat.blt_eq]; omega)]
    rfl
  · rw [if_neg h1]
    by_cases h2 : j < i
    · rw [show Nat.blt j (i + 1) = true from (by simp only [Nat.blt_eq]; omega), show Nat.blt j i = true from (by simp only [Nat.blt_eq]; omega)]
    · rw [show Nat.blt j (i + 1) = false from (by
        cases hb : Nat.blt j (i + 1) with
        | false => rfl
        | true => simp only [Nat.blt_eq] at hb; omega), show Nat.blt j i = false from (by
        cases hb : Nat.blt j i with
        | false => rfl
        | true => simp only [Nat.blt_eq] at hb; omega)]
theorem mix_0 (f g : tp_A) : mix 0 f g = f := rfl
def cpT (g h : tp_H) (i : Nat) : tp_H := (hC h, hS h, hN h, hM h, mix i (hK g) (hK h), mix i (hF g) (hF h), mix i (hH g) (hH h), mix i (hT g) (hT h), mix i (hP g) (hP h))
def cpF (g h : tp_H) : tp_H := cpT g h (hM h)
theorem cpT_M (g h : tp_H) (i : Nat) : hM (cpT g h i) = hM h := rfl
def comH (h : tp_H) (kd f t : Int32) : tp_H := (hC h, hS h, hN h, hM h + 1, tg_u (hK h) (hM h) kd, tg_u (hF h) (hM h) f, tg_u (hH h) (hM h) t, tg_u (hT h) (hM h) t, tg_u (hP h) (hM h) 0)
def fuT (h : tp_H) : Nat → Int32
  | 0 => 0
  | i + 1 => if mAt h (nI i) ≤ mAt h (fuT h i) then fuT h i else nI i
theorem fuT_succ (h : tp_H) (i : Nat) : fuT h (i + 1) = if mAt h (nI i) ≤ mAt h (fuT h i) then fuT h i else nI i := rfl
theorem fuT_1 (h : tp_H) : fuT h 1 = 0 := by rw [fuT_succ]; exact if_pos (Int32.le_refl _)
def emT (h : tp_H) : Nat → Int32
  | 0 => 16777215
  | i + 1 => emT h i &&& ((1 <<< (hT h i &&& 31)) ^^^ (-1))
theorem emT_succ (h : tp_H) (i : Nat) : emT h (i + 1) = emT h i &&& ((1 <<< (hT h i &&& 31)) ^^^ (-1)) := rfl
def hoM (h : tp_H) : Int32 := cI (fun i => decide (hT h i = hH h i)) (hM h)
def loM (h : tp_H) : Int32 := cI (fun i => crB h (hH h i)) (hM h)
def piM (h : tp_H) : Int32 := cI (fun i => decide (0 < hP h i)) (hM h)
def cB (b : Int32) (p : Nat → Bool) : Nat → Int32
  | 0 => b
  | i + 1 => bif p i then cB b p i + 1 else cB b p i
theorem cB_succ (b : Int32) (p : Nat → Bool) (i : Nat) : cB b p (i + 1) = bif p i then cB b p i + 1 else cB b p i := rfl
theorem cB_skip (b : Int32) (p : Nat → Bool) : ∀ i : Nat, (∀ j, j < i → p j = false) → cB b p i = b := by
  intro i
  induction i with
  | zero => intro _; rfl
  | succ i ih => intro h; rw [cB_succ, h i (Nat.lt_succ_self i), cond_false]; exact ih (fun j hj => h j (by omega))
def bsP (h : tp_H) (i j : Nat) : Bool := bif decide (i < j) then decide (rcD (hT h i) (hT h j) = 1) else false
def bsO (h : tp_H) : Nat → Int32
  | 0 => 0
  | i + 1 => cB (bsO h i) (bsP h i) (hM h)
theorem bsO_succ (h : tp_H) (i : Nat) : bsO h (i + 1) = cB (bsO h i) (bsP h i) (hM h) := rfl
theorem bsO_init (h : tp_H) (i : Nat) : cB (bsO h i) (bsP h i) (i + 1) = bsO h i := cB_skip _ _ _ (fun j hj => by unfold bsP; rw [decide_eq_false (by omega)]; rfl)
def frH (h : tp_H) (k : Int32) : Int32 := rcD (gO hT h k) (gO hH h k)
def faT (h : tp_H) : Nat → Int32
  | 0 => -9
  | i + 1 => if faT h i = -9 then nI i else if frH h (nI i) ≤ frH h (faT h i) then faT h i else nI i
theorem faT_succ (h : tp_H) (i : Nat) : faT h (i + 1) = if faT h i = -9 then nI i else if frH h (nI i) ≤ frH h (faT h i) then faT h i else nI i := rfl
def ahP (h : tp_H) (own one : Int32) (q : Nat) : Bool := if rcD (hT h q) (hS h) ≤ 0 then false else if rcD (hT h q) (hS h) < own then true else if ¬ rcD (hT h q) (hS h) = own then false else if one ≤ nI q then false else true
def ahO (h : tp_H) (one : Int32) : Int32 := cI (ahP h (rcD (gO hT h one) (hS h)) one) (hM h)

set_option maxRecDepth 100000 in
set_option maxHeartbeats 2000000 in
theorem c_wSk {G : tg_G} {w : tg_W} (b c : Nat) (t k : Int32) : tg_C G 1 mX8_wayFrom 0 0 [.ref b, .int t, .int k, .ref c] w (fun v w2 => v = some (.int (wSk t)) ∧ w2 = w) := by
  refine tg_intro okX8_wayFrom (Nat.le_of_ble_eq_true rfl) ?_
  refine tg_steps 4 rfl ?_
  refine tg_icge rfl rfl (fun h5 => ?_) (fun h5 => ?_)
  · refine tg_steps 1 rfl ?_
    exact tg_iret (st := []) rfl rfl ⟨Nat.le_of_ble_eq_true rfl, Nat.le_of_ble_eq_true rfl⟩ ⟨by first | rfl | (simp (decide := true) only [wSk, decide_true, decide_false, cond_true, cond_false, Bool.false_eq_true, if_true, if_false, ite_true, ite_false, h5, Int32.not_lt.mpr h5]; done) | (simp (decide := true) only [wSk, decide_true, decide_false, cond_true, cond_false, Bool.false_eq_true, if_true, if_false, ite_true, ite_false, h5, Int32.not_lt.mpr h5]; done), rfl⟩
  · refine tg_steps 2 rfl ?_
    exact tg_iret (st := []) rfl rfl ⟨Nat.le_of_ble_eq_true rfl, Nat.le_of_ble_eq_true rfl⟩ ⟨by first | rfl | (simp (decide := true) only [wSk, decide_true, decide_false, cond_true, cond_false, Bool.false_eq_true, if_true, if_false, ite_true, ite_false, h5, Int32.not_le.mp h5]; done) | (simp (decide := true) only [wSk, decide_true, decide_false, cond_true, cond_false, Bool.false_eq_true, if_true, if_false, ite_true, ite_false, h5, Int32.not_le.mp h5]; done), rfl⟩
set_option maxRecDepth 100000 in
set_option maxHeartbeats 2000000 in
theorem c_wSa_0 {G : tg_G} {h p t : tp_H} {x : tp_X} {r : List tg_Cl} (b : Nat) (ti k : Int32) : tg_C G 1 mX7_wayFrom 0 0 [.ref b, .int ti, .int k, .ref 1] (tp_cs h p t x, r) (fun v w => v = some (.int (wSa (hS h) ti)) ∧ w = (tp_cs h p t x, r)) := by
  refine tg_intro okX7_wayFrom (Nat.le_of_ble_eq_true rfl) ?_
  refine tg_steps 12 rfl ?_
  refine tg_ifeq rfl rfl (fun h20 => ?_) (fun h20 => ?_)
  · refine tg_steps 2 rfl ?_
    refine tg_icne rfl rfl (fun h37 => ?_) (fun h37 => ?_)
    · refine tg_steps 2 rfl ?_
      refine tg_icle rfl rfl (fun h46 => ?_) (fun h46 => ?_)
      · refine tg_steps 1 rfl ?_
        exact tg_iret (st := []) rfl rfl ⟨Nat.le_of_ble_eq_true rfl, Nat.le_of_ble_eq_true rfl⟩ ⟨by first | rfl | (simp (decide := true) only [wSa, decide_true, decide_false, cond_true, cond_false, Bool.false_eq_true, if_true, if_false, ite_true, ite_false, eq_true h20, h37, h46, Int32.not_lt.mpr h46]; done) | (simp (decide := true) only [wSa, decide_true, decide_false, cond_true, cond_false, Bool.false_eq_true, if_true, if_false, ite_true, ite_false, h20, h37, h46, Int32.not_lt.mpr h46]; done), rfl⟩
      · refine tg_steps 2 rfl ?_
        exact tg_iret (st := []) rfl rfl ⟨Nat.le_of_ble_eq_true rfl, Nat.le_of_ble_eq_true rfl⟩ ⟨by first | rfl | (simp (decide := true) only [wSa, decide_true, decide_false, cond_true, cond_false, Bool.false_eq_true, if_true, if_false, ite_true, ite_false, eq_true h20, h37, h46, Int32.not_le.mp h46]; done) | (simp (decide := true) only [wSa, decide_true, decide_false, cond_true, cond_false, Bool.false_eq_true, if_true, if_false, ite_true, ite_false, h20, h37, h46, Int32.not_le.mp h46]; done), rfl⟩
    · refine tg_steps 1 rfl ?_
      exact tg_iret (st := []) rfl rfl ⟨Nat.le_of_ble_eq_true rfl, Nat.le_of_ble_eq_true rfl⟩ ⟨by first | rfl | (simp (decide := true) only [wSa, decide_true, decide_false, cond_true, cond_false, Bool.false_eq_true, if_true, if_false, ite_true, ite_false, eq_true h20, eq_true h37]; done) | (simp (decide := true) only [wSa, decide_true, decide_false, cond_true, cond_false, Bool.false_eq_true, if_true, if_false, ite_true, ite_false, h20, h37]; done), rfl⟩
  · refine tg_steps 1 rfl ?_
    refine tg_ifle rfl rfl (fun h25 => ?_) (fun h25 => ?_)
    · refine tg_steps 1 rfl ?_
      exact tg_iret (st := []) rfl rfl ⟨Nat.le_of_ble_eq_true rfl, Nat.le_of_ble_eq_true rfl⟩ ⟨by first | rfl | (simp (decide := true) only [wSa, decide_true, decide_false, cond_true, cond_false, Bool.false_eq_true, if_true, if_false, ite_true, ite_false, h20, h25, Int32.not_lt.mpr h25]; done) | (simp (decide := true) only [wSa, decide_true, decide_false, cond_true, cond_false, Bool.false_eq_true, if_true, if_false, ite_true, ite_false, h20, h25, Int32.not_lt.mpr h25]; done), rfl⟩
    · refine tg_steps 2 rfl ?_
      exact tg_iret (st := []) rfl rfl ⟨Nat.le_of_ble_eq_true rfl, Nat.le_of_ble_eq_true rfl⟩ ⟨by first | rfl | (simp (decide := true) only [wSa, decide_true, decide_false, cond_true, cond_false, Bool.false_eq_true, if_true, if_false, ite_true, ite_false, h20, h25, Int32.not_le.mp h25]; done) | (simp (decide := true) only [wSa, decide_true, decide_false, cond_true, cond_false, Bool.false_eq_true, if_true, if_false, ite_true, ite_false, h20, h25, Int32.not_le.mp h25]; done), rfl⟩
set_option maxRecDepth 100000 in
set_option maxHeartbeats 2000000 in
theorem c_wHo_0 {G : tg_G} {h p t : tp_H} {x : tp_X} {r : List tg_Cl} (ti k : Int32) : tg_C G 2 mX2_wayFrom 0 0 [.ref 8, .int ti, .int k, .ref 1] (tp_cs h p t x, r) (fun v w => v = some (.int (wHo ti)) ∧ w = (tp_cs h p t x, r)) := by
  refine tg_intro okX2_wayFrom (Nat.le_of_ble_eq_true rfl) ?_
  refine tg_steps 2 rfl ?_
  refine tg_icge rfl rfl (fun h3 => ?_) (fun h3 => ?_)
  · refine tg_steps 4 rfl ?_
    refine tg_call3 rfl (c_wSk 8 1 ti k) rfl rfl rfl rfl (by decide) (fun v14 w14 q14 => ?_)
    obtain ⟨rfl, rfl⟩ := q14
    exact tg_iret (st := []) rfl rfl ⟨Nat.le_of_ble_eq_true rfl, Nat.le_of_ble_eq_true rfl⟩ ⟨by first | rfl | (simp (decide := true) only [wHo, decide_true, decide_false, cond_true, cond_false, Bool.false_eq_true, if_true, if_false, ite_true, ite_false, h3, Int32.not_lt.mpr h3]; done) | (simp (decide := true) only [wHo, decide_true, decide_false, cond_true, cond_false, Bool.false_eq_true, if_true, if_false, ite_true, ite_false, h3, Int32.not_lt.mpr h3]; done), rfl⟩
  · refine tg_steps 2 rfl ?_
    exact tg_iret (st := []) rfl rfl ⟨Nat.le_of_ble_eq_true rfl, Nat.le_of_ble_eq_true rfl⟩ ⟨by first | rfl | (simp (decide := true) only [wHo, decide_true, decide_false, cond_true, cond_false, Bool.false_eq_true, if_true, if_false, ite_true, ite_false, h3, Int32.not_le.mp h3]; done) | (simp (decide := true) only [wHo, decide_true, decide_false, cond_true, cond_false, Bool.false_eq_true, if_true, if_false, ite_true, ite_false, h3, Int32.not_le.mp h3]; done), rfl⟩
set_option maxRecDepth 100000 in
set_option maxHeartbeats 2000000 in
theorem c_wFi_0 {G : tg_G} {h p t : tp_H} {x : tp_X} {r : List tg_Cl} (hm : hM h ≤ 7) (ti k : Int32) : tg_C G 3 mX0_wayFrom 0 0 [.ref 9, .int ti, .int k, .ref 1] (tp_cs h p t x, r) (fun v w => v = some (.int (wFi h ti k)) ∧ w = (tp_cs h p t x, r)) := by
  refine tg_intro okX0_wayFrom (Nat.le_of_ble_eq_true rfl) ?_
  refine tg_steps 2 rfl ?_
  refine tg_callV rfl (c_figureOf_0 hm k) rfl rfl rfl rfl rfl (fun v2 w2 q2 => ?_)
  obtain ⟨rfl, rfl⟩ := q2
  refine tg_steps 4 rfl ?_
  refine tg_ifle rfl rfl (fun h11 => ?_) (fun h11 => ?_)
  · refine tg_steps 3 rfl ?_
    refine tg_ifeq rfl rfl (fun h33 => ?_) (fun h33 => ?_)
    · refine tg_steps 1 rfl ?_
      exact tg_iret (st := []) rfl rfl ⟨Nat.le_of_ble_eq_true rfl, Nat.le_of_ble_eq_true rfl⟩ ⟨by first | rfl | (simp (decide := true) only [wFi, not_true, not_false_eq_true, Decidable.not_not, decide_true, decide_false, cond_true, cond_false, Bool.false_eq_true, if_true, if_false, ite_true, ite_false, h11, Int32.not_lt.mpr h11, eq_true h33]; done) | (simp (decide := true) only [wFi, not_true, not_false_eq_true, Decidable.not_not, decide_true, decide_false, cond_true, cond_false, Bool.false_eq_true, if_true, if_false, ite_true, ite_false, h11, Int32.not_lt.mpr h11, h33]; done) | exact absurd rfl h33 | exact absurd h33 (by decide), rfl⟩
    · refine tg_steps 4 rfl ?_
      refine tg_call3 rfl (c_wSk 9 1 ti k) rfl rfl rfl rfl (by decide) (fun v40 w40 q40 => ?_)
      obtain ⟨rfl, rfl⟩ := q40
      refine tg_steps 1 rfl ?_
      exact tg_iret (st := []) rfl rfl ⟨Nat.le_of_ble_eq_true rfl, Nat.le_of_ble_eq_true rfl⟩ ⟨by first | rfl | (simp (decide := true) only [wFi, not_true, not_false_eq_true, Decidable.not_not, decide_true, decide_false, cond_true, cond_false, Bool.false_eq_true, if_true, if_false, ite_true, ite_false, h11, Int32.not_lt.mpr h11, h33]; done) | (simp (decide := true) only [wFi, not_true, not_false_eq_true, Decidable.not_not, decide_true, decide_false, cond_true, cond_false, Bool.false_eq_true, if_true, if_false, ite_true, ite_false, h11, Int32.not_lt.mpr h11, h33]; done) | exact absurd rfl h33 | exact absurd h33 (by decide), rfl⟩
  · refine tg_steps 3 rfl ?_
    refine tg_irem rfl (fun e => h11 (by rw [e]; exact Int32.le_refl _)) ?_
    refine tg_ifne rfl rfl (fun h21 => ?_) (fun h21 => ?_)
    · refine tg_steps 3 rfl ?_
      refine tg_ifeq rfl rfl (fun h33 => ?_) (fun h33 => ?_)
      · refine tg_steps 1 rfl ?_
        exact tg_iret (st := []) rfl rfl ⟨Nat.le_of_ble_eq_true rfl, Nat.le_of_ble_eq_true rfl⟩ ⟨by first | rfl | (simp (decide := true) only [wFi, not_true, not_false_eq_true, Decidable.not_not, decide_true, decide_false, cond_true, cond_false, Bool.false_eq_true, if_true, if_false, ite_true, ite_false, h11, Int32.not_le.mp h11, h21, eq_true h33]; done) | (simp (decide := true) only [wFi, not_true, not_false_eq_true, Decidable.not_not, decide_true, decide_false, cond_true, cond_false, Bool.false_eq_true, if_true, if_false, ite_true, ite_false, h11, Int32.not_le.mp h11, h21, h33]; done) | exact absurd rfl h33 | exact absurd h33 (by decide), rfl⟩
      · refine tg_steps 4 rfl ?_
        refine tg_call3 rfl (c_wSk 9 1 ti k) rfl rfl rfl rfl (by decide) (fun v40 w40 q40 => ?_)
        obtain ⟨rfl, rfl⟩ := q40
        refine tg_steps 1 rfl ?_
        exact tg_iret (st := []) rfl rfl ⟨Nat.le_of_ble_eq_true rfl, Nat.le_of_ble_eq_true rfl⟩ ⟨by first | rfl | (simp (decide := true) only [wFi, not_true, not_false_eq_true, Decidable.not_not, decide_true, decide_false, cond_true, cond_false, Bool.false_eq_true, if_true, if_false, ite_true, ite_false, h11, Int32.not_le.mp h11, h21, h33]; done) | (simp (decide := true) only [wFi, not_true, not_false_eq_true, Decidable.not_not, decide_true, decide_false, cond_true, cond_false, Bool.false_eq_true, if_true, if_false, ite_true, ite_false, h11, Int32.not_le.mp h11, h21, h33]; done) | exact absurd rfl h33 | exact absurd h33 (by decide), rfl⟩
    · refine tg_steps 4 rfl ?_
      refine tg_ifeq rfl rfl (fun h33 => ?_) (fun h33 => ?_)
      · refine tg_steps 1 rfl ?_
        exact tg_iret (st := []) rfl rfl ⟨Nat.le_of_ble_eq_true rfl, Nat.le_of_ble_eq_true rfl⟩ ⟨by first | rfl | (simp (decide := true) only [wFi, not_true, not_false_eq_true, Decidable.not_not, decide_true, decide_false, cond_true, cond_false, Bool.false_eq_true, if_true, if_false, ite_true, ite_false, h11, Int32.not_le.mp h11, eq_true h21, eq_true h33]; done) | (simp (decide := true) only [wFi, not_true, not_false_eq_true, Decidable.not_not, decide_true, decide_false, cond_true, cond_false, Bool.false_eq_true, if_true, if_false, ite_true, ite_false, h11, Int32.not_le.mp h11, h21, h33]; done) | exact absurd rfl h33 | exact absurd h33 (by decide), rfl⟩
      · refine tg_steps 4 rfl ?_
        refine tg_call3 rfl (c_wSk 9 1 ti k) rfl rfl rfl rfl (by decide) (fun v40 w40 q40 => ?_)
        obtain ⟨rfl, rfl⟩ := q40
        refine tg_steps 1 rfl ?_
        exact tg_iret (st := []) rfl rfl ⟨Nat.le_of_ble_eq_true rfl, Nat.le_of_ble_eq_true rfl⟩ ⟨by first | rfl | (simp (decide := true) only [wFi, not_true, not_false_eq_true, Decidable.not_not, decide_true, decide_false, cond_true, cond_false, Bool.false_eq_true, if_true, if_false, ite_true, ite_false, h11, Int32.not_le.mp h11, eq_true h21, h33]; done) | (simp (decide := true) only [wFi, not_true, not_false_eq_true, Decidable.not_not, decide_true, decide_false, cond_true, cond_false, Bool.false_eq_true, if_true, if_false, ite_true, ite_false, h11, Int32.not_le.mp h11, h21, h33]; done) | exact absurd rfl h33 | exact absurd h33 (by decide), rfl⟩
set_option maxRecDepth 100000 in
set_option maxHeartbeats 2000000 in
theorem c_wWi_0 {G : tg_G} {h p t : tp_H} {x : tp_X} {r : List tg_Cl} (ti k : Int32) : tg_C G 2 mX9_wayFrom 0 0 [.ref 11, .int ti, .int k, .ref 1] (tp_cs h p t x, r) (fun v w => v = some (.int (wWi h ti (wSa (hS h) ti))) ∧ w = (tp_cs h p t x, r)) := by
  refine tg_intro okX9_wayFrom (Nat.le_of_ble_eq_true rfl) ?_
  refine tg_steps 4 rfl ?_
  refine tg_call3 rfl (c_wSa_0 11 ti k) rfl rfl rfl rfl (by decide) (fun v4 w4 q4 => ?_)
  obtain ⟨rfl, rfl⟩ := q4
  refine tg_steps 3 rfl ?_
  refine tg_iceq rfl rfl (fun h13 => ?_) (fun h13 => ?_)
  · refine tg_steps 1 rfl ?_
    exact tg_iret (st := []) rfl rfl ⟨Nat.le_of_ble_eq_true rfl, Nat.le_of_ble_eq_true rfl⟩ ⟨by first | rfl | (simp (decide := true) only [wWi, not_true, not_false_eq_true, Decidable.not_not, decide_true, decide_false, cond_true, cond_false, Bool.false_eq_true, if_true, if_false, ite_true, ite_false, eq_true h13]; done) | (simp (decide := true) only [wWi, not_true, not_false_eq_true, Decidable.not_not, decide_true, decide_false, cond_true, cond_false, Bool.false_eq_true, if_true, if_false, ite_true, ite_false, h13]; done), rfl⟩
  · refine tg_steps 4 rfl ?_
    refine tg_ifne rfl rfl (fun h22 => ?_) (fun h22 => ?_)
    · refine tg_steps 8 rfl ?_
      refine tg_call4 rfl (c_besideOf ti ((wSa (hS h) ti + 2) % 4)) rfl rfl rfl  (fun v39 w39 q39 => ?_)
      obtain ⟨rfl, rfl⟩ := q39
      refine tg_steps 1 rfl ?_
      refine tg_icne rfl rfl (fun h44 => ?_) (fun h44 => ?_)
      · refine tg_steps 1 rfl ?_
        exact tg_iret (st := []) rfl rfl ⟨Nat.le_of_ble_eq_true rfl, Nat.le_of_ble_eq_true rfl⟩ ⟨by first | rfl | (simp (decide := true) only [wWi, not_true, not_false_eq_true, Decidable.not_not, decide_true, decide_false, cond_true, cond_false, Bool.false_eq_true, if_true, if_false, ite_true, ite_false, h13, h22, h44]; done) | (simp (decide := true) only [wWi, not_true, not_false_eq_true, Decidable.not_not, decide_true, decide_false, cond_true, cond_false, Bool.false_eq_true, if_true, if_false, ite_true, ite_false, h13, h22, h44]; done), rfl⟩
      · refine tg_steps 2 rfl ?_
        exact tg_iret (st := []) rfl rfl ⟨Nat.le_of_ble_eq_true rfl, Nat.le_of_ble_eq_true rfl⟩ ⟨by first | rfl | (simp (decide := true) only [wWi, not_true, not_false_eq_true, Decidable.not_not, decide_true, decide_false, cond_true, cond_false, Bool.false_eq_true, if_true, if_false, ite_true, ite_false, h13, h22, eq_true h44]; done) | (simp (decide := true) only [wWi, not_true, not_false_eq_true, Decidable.not_not, decide_true, decide_false, cond_true, cond_false, Bool.false_eq_true, if_true, if_false, ite_true, ite_false, h13, h22, h44]; done), rfl⟩
    · refine tg_steps 1 rfl ?_
      exact tg_iret (st := []) rfl rfl ⟨Nat.le_of_ble_eq_true rfl, Nat.le_of_ble_eq_true rfl⟩ ⟨by first | rfl | (simp (decide := true) only [wWi, not_true, not_false_eq_true, Decidable.not_not, decide_true, decide_false, cond_true, cond_false, Bool.false_eq_true, if_true, if_false, ite_true, ite_false, h13, eq_true h22]; done) | (simp (decide := true) only [wWi, not_true, not_false_eq_true, Decidable.not_not, decide_true, decide_false, cond_true, cond_false, Bool.false_eq_true, if_true, if_false, ite_true, ite_false, h13, h22]; done), rfl⟩
set_option maxRecDepth 100000 in
set_option maxHeartbeats 2000000 in
theorem c_wNo_0 {G : tg_G} {h p t : tp_H} {x : tp_X} {r : List tg_Cl} (hm : hM h ≤ 7) (ti k : Int32) : tg_C G 2 mX5_wayFrom 0 0 [.ref 12, .int ti, .int k, .ref 1] (tp_cs h p t x, r) (fun v w => v = some (.int (wNo h ti k)) ∧ w = (tp_cs h p t x, r)) := by
  refine tg_intro okX5_wayFrom (Nat.le_of_ble_eq_true rfl) ?_
  refine tg_steps 2 rfl ?_
  refine tg_callV rfl (c_othersAboard_0 hm k) rfl rfl rfl rfl rfl (fun v2 w2 q2 => ?_)
  obtain ⟨rfl, rfl⟩ := q2
  refine tg_ifbeq rfl rfl (fun h5 => ?_) (fun h5 => ?_)
  · refine tg_steps 1 rfl ?_
    exact tg_iret (st := []) rfl rfl ⟨Nat.le_of_ble_eq_true rfl, Nat.le_of_ble_eq_true rfl⟩ ⟨by first | rfl | (simp (decide := true) only [wNo, decide_true, decide_false, cond_true, cond_false, Bool.false_eq_true, if_true, if_false, ite_true, ite_false, h5]; done) | (simp (decide := true) only [wNo, decide_true, decide_false, cond_true, cond_false, Bool.false_eq_true, if_true, if_false, ite_true, ite_false, h5]; done), rfl⟩
  · refine tg_steps 4 rfl ?_
    refine tg_call3 rfl (c_wSa_0 12 ti k) rfl rfl rfl rfl (by decide) (fun v12 w12 q12 => ?_)
    obtain ⟨rfl, rfl⟩ := q12
    refine tg_steps 1 rfl ?_
    exact tg_iret (st := []) rfl rfl ⟨Nat.le_of_ble_eq_true rfl, Nat.le_of_ble_eq_true rfl⟩ ⟨by first | rfl | (simp (decide := true) only [wNo, decide_true, decide_false, cond_true, cond_false, Bool.false_eq_true, if_true, if_false, ite_true, ite_false, h5]; done) | (simp (decide := true) only [wNo, decide_true, decide_false, cond_true, cond_false, Bool.false_eq_true, if_true, if_false, ite_true, ite_false, h5]; done), rfl⟩
set_option maxRecDepth 100000 in
set_option maxHeartbeats 2000000 in
theorem c_goerOf_0 {G : tg_G} {h p t : tp_H} {x : tp_X} {r : List tg_Cl} (k : Int32) : tg_C G 1 mX1_goerOf 0 0 [.ref 1, .int k] (tp_cs h p t x, r) (fun v w => v = some (.ref (goR 1 k)) ∧ w = (tp_cs h p t x, r)) := by
  refine tg_intro okX1_goerOf (Nat.le_of_ble_eq_true rfl) ?_
  refine tg_steps 1 rfl ?_
  refine tg_tsw rfl ?_
  refine And.intro (fun h1_0 => ?_) (fun h1_0 => ?_)
  · refine tg_steps 2 rfl ?_
    exact tg_aret (st := []) rfl rfl ⟨Nat.le_of_ble_eq_true rfl, Nat.le_of_ble_eq_true rfl⟩ ⟨by first | rfl | (simp (decide := true) only [goR, decide_true, decide_false, cond_true, cond_false, Bool.false_eq_true, if_true, if_false, ite_true, ite_false, eq_true h1_0]; done) | (simp (decide := true) only [goR, decide_true, decide_false, cond_true, cond_false, Bool.false_eq_true, if_true, if_false, ite_true, ite_false, h1_0]; done), rfl⟩
  refine And.intro (fun h1_1 => ?_) (fun h1_1 => ?_)
  · refine tg_steps 2 rfl ?_
    exact tg_aret (st := []) rfl rfl ⟨Nat.le_of_ble_eq_true rfl, Nat.le_of_ble_eq_true rfl⟩ ⟨by first | rfl | (simp (decide := true) only [goR, decide_true, decide_false, cond_true, cond_false, Bool.false_eq_true, if_true, if_false, ite_true, ite_false, h1_0, eq_true h1_1]; done) | (simp (decide := true) only [goR, decide_true, decide_false, cond_true, cond_false, Bool.false_eq_true, if_true, if_false, ite_true, ite_false, h1_0, h1_1]; done), rfl⟩
  refine And.intro (fun h1_2 => ?_) (fun h1_2 => ?_)
  · refine tg_steps 2 rfl ?_
    exact tg_aret (st := []) rfl rfl ⟨Nat.le_of_ble_eq_true rfl, Nat.le_of_ble_eq_true rfl⟩ ⟨by first | rfl | (simp (decide := true) only [goR, decide_true, decide_false, cond_true, cond_false, Bool.false_eq_true, if_true, if_false, ite_true, ite_false, h1_0, h1_1, eq_true h1_2]; done) | (simp (decide := true) only [goR, decide_true, decide_false, cond_true, cond_false, Bool.false_eq_true, if_true, if_false, ite_true, ite_false, h1_0, h1_1, h1_2]; done), rfl⟩
  refine And.intro (fun h1_3 => ?_) (fun h1_3 => ?_)
  · refine tg_steps 2 rfl ?_
    exact tg_aret (st := []) rfl rfl ⟨Nat.le_of_ble_eq_true rfl, Nat.le_of_ble_eq_true rfl⟩ ⟨by first | rfl | (simp (decide := true) only [goR, decide_true, decide_false, cond_true, cond_false, Bool.false_eq_true, if_true, if_false, ite_true, ite_false, h1_0, h1_1, h1_2, eq_true h1_3]; done) | (simp (decide := true) only [goR, decide_true, decide_false, cond_true, cond_false, Bool.false_eq_true, if_true, if_false, ite_true, ite_false, h1_0, h1_1, h1_2, h1_3]; done), rfl⟩
  refine And.intro (fun h1_4 => ?_) (fun h1_4 => ?_)
  · refine tg_steps 2 rfl ?_
    exact tg_aret (st := []) rfl rfl ⟨Nat.le_of_ble_eq_true rfl, Nat.le_of_ble_eq_true rfl⟩ ⟨by first | rfl | (simp (decide := true) only [goR, decide_true, decide_false, cond_true, cond_false, Bool.false_eq_true, if_true, if_false, ite_true, ite_false, h1_0, h1_1, h1_2, h1_3, eq_true h1_4]; done) | (simp (decide := true) only [goR, decide_true, decide_false, cond_true, cond_false, Bool.false_eq_true, if_true, if_false, ite_true, ite_false, h1_0, h1_1, h1_2, h1_3, h1_4]; done), rfl⟩
  refine tg_steps 2 rfl ?_
  exact tg_aret (st := []) rfl rfl ⟨Nat.le_of_ble_eq_true rfl, Nat.le_of_ble_eq_true rfl⟩ ⟨by first | rfl | (simp (decide := true) only [goR, decide_true, decide_false, cond_true, cond_false, Bool.false_eq_true, if_true, if_false, ite_true, ite_false, h1_0, h1_1, h1_2, h1_3, h1_4]; done) | (simp (decide := true) only [goR, decide_true, decide_false, cond_true, cond_false, Bool.false_eq_true, if_true, if_false, ite_true, ite_false, h1_0, h1_1, h1_2, h1_3, h1_4]; done), rfl⟩
set_option maxRecDepth 100000 in
set_option maxHeartbeats 2000000 in
theorem v_way_passNight_0 {G : tg_G} {lv : Nat} {h p t : tp_H} {x : tp_X} {r : List tg_Cl} (hm : hM h ≤ 7) {L : List (Nat × Value)} {rest : List Value} {Q : Option Value → tg_W → Prop} (hlv : lv = 4) (hrest : rest = [] ∨ ∃ z : Int32, rest = [.int z]) (kd ti k : Int32) (kk : tg_V G lv mX1_passNight 0 0 0 0 Q 79 L (.int (way h kd ti k) :: rest) (tp_cs h p t x, r)) : tg_V G lv mX1_passNight 0 0 0 0 Q 76 L (.ref 1 :: .int k :: .int ti :: .ref (goR 1 kd) :: rest) (tp_cs h p t x, r) := by
  subst hlv
  unfold goR
  unfold way at kk
  by_cases hk1 : kd = 1
  · rw [if_pos hk1] at kk ⊢
    refine tg_call5 (m' := mX2_wayFrom) (m0 := mX8_wayFrom) (g := [2, 89, 2, 87, 2, 98, 2, 99, 1, 4]) rfl (c_wHo_0 ti k) rfl (by rcases hrest with rfl | ⟨z, rfl⟩ <;> rfl) rfl rfl okX8_wayFrom rfl (by decide +kernel) (fun v w q => ?_)
    obtain ⟨rfl, rfl⟩ := q
    exact kk
  · rw [if_neg hk1] at kk ⊢
    by_cases hk2 : kd = 2
    · rw [if_pos hk2] at kk ⊢
      refine tg_call5 (m' := mX0_wayFrom) (m0 := mX8_wayFrom) (g := [2, 89, 2, 87, 2, 90, 2, 91, 1, 5]) rfl (c_wFi_0 hm ti k) rfl (by rcases hrest with rfl | ⟨z, rfl⟩ <;> rfl) rfl rfl okX8_wayFrom rfl (by decide +kernel) (fun v w q => ?_)
      obtain ⟨rfl, rfl⟩ := q
      exact kk
    · rw [if_neg hk2] at kk ⊢
      by_cases hk3 : kd = 3
      · rw [if_pos hk3] at kk ⊢
        refine tg_call5 (m' := mX7_wayFrom) (m0 := mX8_wayFrom) (g := [2, 89, 2, 87, 2, 112, 2, 110, 1, 6]) rfl (c_wSa_0 10 ti k) rfl (by rcases hrest with rfl | ⟨z, rfl⟩ <;> rfl) rfl rfl okX8_wayFrom rfl (by decide +kernel) (fun v w q => ?_)
        obtain ⟨rfl, rfl⟩ := q
        exact kk
      · rw [if_neg hk3] at kk ⊢
        by_cases hk4 : kd = 4
        · rw [if_pos hk4] at kk ⊢
          refine tg_call5 (m' := mX9_wayFrom) (m0 := mX8_wayFrom) (g := [2, 89, 2, 87, 2, 113, 2, 114, 1, 7]) rfl (c_wWi_0 ti k) rfl (by rcases hrest with rfl | ⟨z, rfl⟩ <;> rfl) rfl rfl okX8_wayFrom rfl (by decide +kernel) (fun v w q => ?_)
          obtain ⟨rfl, rfl⟩ := q
          exact kk
        · rw [if_neg hk4] at kk ⊢
          by_cases hk5 : kd = 5
          · rw [if_pos hk5] at kk ⊢
            refine tg_call5 (m' := mX5_wayFrom) (m0 := mX8_wayFrom) (g := [2, 89, 2, 87, 2, 102, 2, 103, 1, 8]) rfl (c_wNo_0 hm ti k) rfl (by rcases hrest with rfl | ⟨z, rfl⟩ <;> rfl) rfl rfl okX8_wayFrom rfl (by decide +kernel) (fun v w q => ?_)
            obtain ⟨rfl, rfl⟩ := q
            exact kk
          · rw [if_neg hk5] at kk ⊢
            refine tg_call5 (m' := mX8_wayFrom) (m0 := mX8_wayFrom) (g := [2, 89, 2, 87, 2, 88, 2, 87, 1, 3]) rfl (c_wSk 7 1 ti k) rfl (by rcases hrest with rfl | ⟨z, rfl⟩ <;> rfl) rfl rfl okX8_wayFrom rfl (by decide +kernel) (fun v w q => ?_)
            obtain ⟨rfl, rfl⟩ := q
            exact kk
set_option maxRecDepth 100000 in
set_option maxHeartbeats 2000000 in
theorem c_mayGo_0 {G : tg_G} {h p t : tp_H} {x : tp_X} {r : List tg_Cl} (hm : hM h ≤ 7) (a b : Int32) : tg_C G 2 mX1_mayGo 0 0 [.ref 1, .int a, .int b] (tp_cs h p t x, r) (fun v w => v = some (.int (tg_b (mGo h a b))) ∧ w = (tp_cs h p t x, r)) := by
  refine tg_intro okX1_mayGo (Nat.le_of_ble_eq_true rfl) ?_
  refine tg_steps 2 rfl ?_
  refine tg_callV rfl (c_isCracked_0 a) rfl rfl rfl rfl rfl (fun v2 w2 q2 => ?_)
  obtain ⟨rfl, rfl⟩ := q2
  refine tg_ifbne rfl rfl (fun h5 => ?_) (fun h5 => ?_)
  · refine tg_steps 1 rfl ?_
    exact tg_zret (st := []) rfl rfl ⟨Nat.le_of_ble_eq_true rfl, Nat.le_of_ble_eq_true rfl⟩ (by first | exact Or.inl rfl | exact Or.inr rfl | exact tg_b1 _) ⟨by first | rfl | (simp (decide := true) only [mGo, tg_b, decide_true, decide_false, cond_true, cond_false, Bool.false_eq_true, if_true, if_false, ite_true, ite_false, h5]; done) | (simp (decide := true) only [mGo, tg_b, decide_true, decide_false, cond_true, cond_false, Bool.false_eq_true, if_true, if_false, ite_true, ite_false, h5]; done), rfl⟩
  · refine tg_steps 2 rfl ?_
    refine tg_callV rfl (c_isCracked_0 b) rfl rfl rfl rfl rfl (fun v10 w10 q10 => ?_)
    obtain ⟨rfl, rfl⟩ := q10
    refine tg_ifbne rfl rfl (fun h13 => ?_) (fun h13 => ?_)
    · refine tg_steps 1 rfl ?_
      exact tg_zret (st := []) rfl rfl ⟨Nat.le_of_ble_eq_true rfl, Nat.le_of_ble_eq_true rfl⟩ (by first | exact Or.inl rfl | exact Or.inr rfl | exact tg_b1 _) ⟨by first | rfl | (simp (decide := true) only [mGo, tg_b, decide_true, decide_false, cond_true, cond_false, Bool.false_eq_true, if_true, if_false, ite_true, ite_false, h5, h13]; done) | (simp (decide := true) only [mGo, tg_b, decide_true, decide_false, cond_true, cond_false, Bool.false_eq_true, if_true, if_false, ite_true, ite_false, h5, h13]; done), rfl⟩
    · refine tg_steps 2 rfl ?_
      refine tg_callV rfl (c_manyAt_0 hm b) rfl rfl rfl rfl rfl (fun v18 w18 q18 => ?_)
      obtain ⟨rfl, rfl⟩ := q18
      refine tg_steps 1 rfl ?_
      refine tg_icge rfl rfl (fun h22 => ?_) (fun h22 => ?_)
      · refine tg_steps 1 rfl ?_
        exact tg_zret (st := []) rfl rfl ⟨Nat.le_of_ble_eq_true rfl, Nat.le_of_ble_eq_true rfl⟩ (by first | exact Or.inl rfl | exact Or.inr rfl | exact tg_b1 _) ⟨by first | rfl | (simp (decide := true) only [mGo, tg_b, decide_true, decide_false, cond_true, cond_false, Bool.false_eq_true, if_true, if_false, ite_true, ite_false, h5, h13, h22, Int32.not_lt.mpr h22]; done) | (simp (decide := true) only [mGo, tg_b, decide_true, decide_false, cond_true, cond_false, Bool.false_eq_true, if_true, if_false, ite_true, ite_false, h5, h13, h22, Int32.not_lt.mpr h22]; done), rfl⟩
      · refine tg_steps 2 rfl ?_
        exact tg_zret (st := []) rfl rfl ⟨Nat.le_of_ble_eq_true rfl, Nat.le_of_ble_eq_true rfl⟩ (by first | exact Or.inl rfl | exact Or.inr rfl | exact tg_b1 _) ⟨by first | rfl | (simp (decide := true) only [mGo, tg_b, decide_true, decide_false, cond_true, cond_false, Bool.false_eq_true, if_true, if_false, ite_true, ite_false, h5, h13, h22, Int32.not_le.mp h22]; done) | (simp (decide := true) only [mGo, tg_b, decide_true, decide_false, cond_true, cond_false, Bool.false_eq_true, if_true, if_false, ite_true, ite_false, h5, h13, h22, Int32.not_le.mp h22]; done), rfl⟩
set_option maxRecDepth 100000 in
set_option maxHeartbeats 2000000 in
theorem c_passNight_0 {G : tg_G} {h p t : tp_H} {x : tp_X} {r : List tg_Cl} (hm : hM h ≤ 7) : tg_C G 4 mX1_passNight 0 0 [.ref 1] (tp_cs h p t x, r) (fun v w => v = some (.int (tg_b (pGn h))) ∧ w = (tp_cs (pNt h) p t x, r)) := by
  refine tg_intro okX1_passNight (Nat.le_of_ble_eq_true rfl) ?_
  refine tg_steps 8 rfl ?_
  refine tg_eqW (w2 := (tp_cs (sN h (hN h + 1)) p t x, r)) rfl ?_
  refine tg_steps 2 rfl ?_
  refine tg_pkV [0, 1, 2] ?_
  refine tg_eqS (L2 := [(0, .ref 1), (1, .int (tg_b (nGt (sN h (hN h + 1)) (0)))), (2, .int (nI (0)))]) (st2 := []) (w2 := (tp_cs (nTo (sN h (hN h + 1)) (0)) p t x, r)) rfl rfl rfl ?_
  refine tg_down (φ := fun i : Nat => tg_V G 4 mX1_passNight 0 0 0 0 (fun v w => v = some (.int (tg_b (pGn h))) ∧ w = (tp_cs (pNt h) p t x, r)) 14 [(0, .ref 1), (1, .int (tg_b (nGt (sN h (hN h + 1)) (i)))), (2, .int (nI (i)))] [] (tp_cs (nTo (sN h (hN h + 1)) (i)) p t x, r)) (n := hM h) ?_ ?_ 0 (Nat.zero_le _) 
  · refine tg_steps 3 rfl ?_
    refine tg_icge rfl rfl (fun h19 => ?_) (fun h19 => ?_)
    · refine tg_steps 1 rfl ?_
      exact tg_zret (st := []) rfl rfl ⟨Nat.le_of_ble_eq_true rfl, Nat.le_of_ble_eq_true rfl⟩ (by first | exact Or.inl rfl | exact Or.inr rfl | exact tg_b1 _) ⟨rfl, rfl⟩
    · exact absurd (by rw [nTo_M]; exact nI_le (Nat.le_refl _) (by show hM h < _; omega)) h19
  · intro i hi14 ih14
    have hm2 : hM (nTo (sN h (hN h + 1)) i) ≤ 7 := by rw [nTo_M]; exact hm
    refine tg_steps 3 rfl ?_
    refine tg_icge rfl rfl (fun h19 => ?_) (fun h19 => ?_)
    · exact absurd h19 (by rw [nTo_M]; exact nI_ge hi14 (by show hM h < _; omega))
    · refine tg_steps 3 rfl ?_
      refine tg_ialdN rfl rfl (i) rfl (by omega) (by decide) ?_
      refine tg_steps 4 rfl ?_
      refine tg_icne rfl rfl (fun h34 => ?_) (fun h34 => ?_)
      · refine tg_steps 3 rfl ?_
        refine tg_ialdN rfl rfl (i) rfl (by omega) (by decide) ?_
        refine tg_ifle rfl rfl (fun h46 => ?_) (fun h46 => ?_)
        · refine tg_steps 5 rfl ?_
          refine tg_ialdN rfl rfl (i) rfl (by omega) (by decide) ?_
          refine tg_callV rfl (c_goerOf_0 _) rfl rfl rfl rfl rfl (fun v70 w70 q70 => ?_)
          obtain ⟨rfl, rfl⟩ := q70
          refine tg_steps 3 rfl ?_
          refine v_way_passNight_0 hm2 rfl (by first | exact Or.inl rfl | exact Or.inr ⟨_, rfl⟩) _ _ _ ?_
          refine tg_call4 rfl (c_besideOf _ _) rfl rfl rfl  (fun v79 w79 q79 => ?_)
          obtain ⟨rfl, rfl⟩ := q79
          refine tg_steps 3 rfl ?_
          refine tg_iceq rfl rfl (fun h88 => ?_) (fun h88 => ?_)
          · refine tg_steps 2 rfl ?_
            refine tg_pkV [0, 1, 2] ?_
            refine tg_eqS (L2 := [(0, .ref 1), (1, .int (tg_b (nGt (sN h (hN h + 1)) (i + 1)))), (2, .int (nI (i + 1)))]) (st2 := []) (w2 := (tp_cs (nTo (sN h (hN h + 1)) (i + 1)) p t x, r)) (by first | rfl | (simp (decide := true) only [nI_succ, nTo_succ, nOne, nGt_succ, nGn, nGo, decide_true, decide_false, cond_true, cond_false, Bool.false_eq_true, if_true, if_false, ite_true, ite_false, h34, h46, Int32.not_lt.mpr h46, eq_true h88]; done) | (simp (decide := true) only [nI_succ, nTo_succ, nOne, nGt_succ, nGn, nGo, decide_true, decide_false, cond_true, cond_false, Bool.false_eq_true, if_true, if_false, ite_true, ite_false, h34, h46, Int32.not_lt.mpr h46, eq_true h88]; rfl)) rfl (by first | rfl | (simp (decide := true) only [nI_succ, nTo_succ, nOne, nGt_succ, nGn, nGo, decide_true, decide_false, cond_true, cond_false, Bool.false_eq_true, if_true, if_false, ite_true, ite_false, h34, h46, Int32.not_lt.mpr h46, eq_true h88]; done) | (simp (decide := true) only [nI_succ, nTo_succ, nOne, nGt_succ, nGn, nGo, decide_true, decide_false, cond_true, cond_false, Bool.false_eq_true, if_true, if_false, ite_true, ite_false, h34, h46, Int32.not_lt.mpr h46, eq_true h88]; rfl)) ?_
            exact ih14
          · refine tg_steps 3 rfl ?_
            refine tg_callV rfl (c_mayGo_0 hm2 _ _) rfl rfl rfl rfl rfl (fun v95 w95 q95 => ?_)
            obtain ⟨rfl, rfl⟩ := q95
            refine tg_ifbeq rfl rfl (fun h98 => ?_) (fun h98 => ?_)
            · refine tg_steps 2 rfl ?_
              refine tg_pkV [0, 1, 2] ?_
              refine tg_eqS (L2 := [(0, .ref 1), (1, .int (tg_b (nGt (sN h (hN h + 1)) (i + 1)))), (2, .int (nI (i + 1)))]) (st2 := []) (w2 := (tp_cs (nTo (sN h (hN h + 1)) (i + 1)) p t x, r)) (by first | rfl | (simp (decide := true) only [nI_succ, nTo_succ, nOne, nGt_succ, nGn, nGo, decide_true, decide_false, cond_true, cond_false, Bool.false_eq_true, if_true, if_false, ite_true, ite_false, h34, h46, Int32.not_lt.mpr h46, h88, h98]; done) | (simp (decide := true) only [nI_succ, nTo_succ, nOne, nGt_succ, nGn, nGo, decide_true, decide_false, cond_true, cond_false, Bool.false_eq_true, if_true, if_false, ite_true, ite_false, h34, h46, Int32.not_lt.mpr h46, h88, h98]; rfl)) rfl (by first | rfl | (simp (decide := true) only [nI_succ, nTo_succ, nOne, nGt_succ, nGn, nGo, decide_true, decide_false, cond_true, cond_false, Bool.false_eq_true, if_true, if_false, ite_true, ite_false, h34, h46, Int32.not_lt.mpr h46, h88, h98]; done) | (simp (decide := true) only [nI_succ, nTo_succ, nOne, nGt_succ, nGn, nGo, decide_true, decide_false, cond_true, cond_false, Bool.false_eq_true, if_true, if_false, ite_true, ite_false, h34, h46, Int32.not_lt.mpr h46, h88, h98]; rfl)) ?_
              exact ih14
            · refine tg_steps 4 rfl ?_
              refine tg_iastN rfl rfl (i) rfl (by omega) (by decide) ?_
              refine tg_steps 4 rfl ?_
              refine tg_pkV [0, 1, 2] ?_
              refine tg_eqS (L2 := [(0, .ref 1), (1, .int (tg_b (nGt (sN h (hN h + 1)) (i + 1)))), (2, .int (nI (i + 1)))]) (st2 := []) (w2 := (tp_cs (nTo (sN h (hN h + 1)) (i + 1)) p t x, r)) (by first | rfl | (simp (decide := true) only [nI_succ, nTo_succ, nOne, nGt_succ, nGn, nGo, decide_true, decide_false, cond_true, cond_false, Bool.false_eq_true, if_true, if_false, ite_true, ite_false, h34, h46, Int32.not_lt.mpr h46, h88, h98]; done) | (simp (decide := true) only [nI_succ, nTo_succ, nOne, nGt_succ, nGn, nGo, decide_true, decide_false, cond_true, cond_false, Bool.false_eq_true, if_true, if_false, ite_true, ite_false, h34, h46, Int32.not_lt.mpr h46, h88, h98]; rfl)) rfl (by first | rfl | (simp (decide := true) only [nI_succ, nTo_succ, nOne, nGt_succ, nGn, nGo, decide_true, decide_false, cond_true, cond_false, Bool.false_eq_true, if_true, if_false, ite_true, ite_false, h34, h46, Int32.not_lt.mpr h46, h88, h98]; done) | (simp (decide := true) only [nI_succ, nTo_succ, nOne, nGt_succ, nGn, nGo, decide_true, decide_false, cond_true, cond_false, Bool.false_eq_true, if_true, if_false, ite_true, ite_false, h34, h46, Int32.not_lt.mpr h46, h88, h98]; rfl)) ?_
              exact ih14
        · refine tg_steps 4 rfl ?_
          refine tg_ialdN rfl rfl (i) rfl (by omega) (by decide) ?_
          refine tg_steps 2 rfl ?_
          refine tg_iastN rfl rfl (i) rfl (by omega) (by decide) ?_
          refine tg_steps 3 rfl ?_
          refine tg_pkV [0, 1, 2] ?_
          refine tg_eqS (L2 := [(0, .ref 1), (1, .int (tg_b (nGt (sN h (hN h + 1)) (i + 1)))), (2, .int (nI (i + 1)))]) (st2 := []) (w2 := (tp_cs (nTo (sN h (hN h + 1)) (i + 1)) p t x, r)) (by first | rfl | (simp (decide := true) only [nI_succ, nTo_succ, nOne, nGt_succ, nGn, nGo, decide_true, decide_false, cond_true, cond_false, Bool.false_eq_true, if_true, if_false, ite_true, ite_false, h34, h46, Int32.not_le.mp h46]; done) | (simp (decide := true) only [nI_succ, nTo_succ, nOne, nGt_succ, nGn, nGo, decide_true, decide_false, cond_true, cond_false, Bool.false_eq_true, if_true, if_false, ite_true, ite_false, h34, h46, Int32.not_le.mp h46]; rfl)) rfl (by first | rfl | (simp (decide := true) only [nI_succ, nTo_succ, nOne, nGt_succ, nGn, nGo, decide_true, decide_false, cond_true, cond_false, Bool.false_eq_true, if_true, if_false, ite_true, ite_false, h34, h46, Int32.not_le.mp h46]; done) | (simp (decide := true) only [nI_succ, nTo_succ, nOne, nGt_succ, nGn, nGo, decide_true, decide_false, cond_true, cond_false, Bool.false_eq_true, if_true, if_false, ite_true, ite_false, h34, h46, Int32.not_le.mp h46]; rfl)) ?_
          exact ih14
      · refine tg_steps 3 rfl ?_
        refine tg_pkV [0, 1, 2] ?_
        refine tg_eqS (L2 := [(0, .ref 1), (1, .int (tg_b (nGt (sN h (hN h + 1)) (i + 1)))), (2, .int (nI (i + 1)))]) (st2 := []) (w2 := (tp_cs (nTo (sN h (hN h + 1)) (i + 1)) p t x, r)) (by first | rfl | (simp (decide := true) only [nI_succ, nTo_succ, nOne, nGt_succ, nGn, nGo, decide_true, decide_false, cond_true, cond_false, Bool.false_eq_true, if_true, if_false, ite_true, ite_false, eq_true h34]; done) | (simp (decide := true) only [nI_succ, nTo_succ, nOne, nGt_succ, nGn, nGo, decide_true, decide_false, cond_true, cond_false, Bool.false_eq_true, if_true, if_false, ite_true, ite_false, eq_true h34]; rfl)) rfl (by first | rfl | (simp (decide := true) only [nI_succ, nTo_succ, nOne, nGt_succ, nGn, nGo, decide_true, decide_false, cond_true, cond_false, Bool.false_eq_true, if_true, if_false, ite_true, ite_false, eq_true h34]; done) | (simp (decide := true) only [nI_succ, nTo_succ, nOne, nGt_succ, nGn, nGo, decide_true, decide_false, cond_true, cond_false, Bool.false_eq_true, if_true, if_false, ite_true, ite_false, eq_true h34]; rfl)) ?_
        exact ih14
set_option maxRecDepth 100000 in
set_option maxHeartbeats 2000000 in
theorem c_passNights_0 {G : tg_G} {h p t : tp_H} {x : tp_X} {r : List tg_Cl} (hm : hM h ≤ 7) (k : Nat) (hk : k < 2 ^ 31) : tg_C G 5 mX1_passNights 0 0 [.ref 1, .int (nI k)] (tp_cs h p t x, r) (fun v w => v = none ∧ w = (tp_cs (pNs k h) p t x, r)) := by
  refine tg_intro okX1_passNights (Nat.le_of_ble_eq_true rfl) ?_
  refine tg_steps 2 rfl ?_
  refine tg_pkV [0, 1, 2] ?_
  refine tg_eqS (L2 := [(0, .ref 1), (1, .int (nI k)), (2, .int (nI (0)))]) (st2 := []) (w2 := (tp_cs (pNs (0) h) p t x, r)) rfl rfl rfl ?_
  refine tg_down (φ := fun i : Nat => tg_V G 5 mX1_passNights 0 0 0 0 (fun v w => v = none ∧ w = (tp_cs (pNs k h) p t x, r)) 2 [(0, .ref 1), (1, .int (nI k)), (2, .int (nI (i)))] [] (tp_cs (pNs (i) h) p t x, r)) (n := k) ?_ ?_ 0 (Nat.zero_le _) 
  · refine tg_steps 2 rfl ?_
    refine tg_icge rfl rfl (fun h4 => ?_) (fun h4 => ?_)
    · exact tg_vret (st := []) rfl rfl ⟨Nat.le_of_ble_eq_true rfl, Nat.le_of_ble_eq_true rfl⟩ ⟨rfl, rfl⟩
    · exact absurd (nI_le (Nat.le_refl _) (by omega)) h4
  · intro i hi2 ih2
    refine tg_steps 2 rfl ?_
    refine tg_icge rfl rfl (fun h4 => ?_) (fun h4 => ?_)
    · exact absurd h4 (nI_ge hi2 (by omega))
    · refine tg_steps 1 rfl ?_
      refine tg_callV rfl (c_passNight_0 (by rw [pNs_M]; exact hm)) rfl rfl rfl rfl rfl (fun v8 w8 q8 => ?_)
      obtain ⟨rfl, rfl⟩ := q8
      refine tg_steps 3 rfl ?_
      refine tg_pkV [0, 1, 2] ?_
      refine tg_eqS (L2 := [(0, .ref 1), (1, .int (nI k)), (2, .int (nI (i + 1)))]) (st2 := []) (w2 := (tp_cs (pNs (i + 1) h) p t x, r)) (by first | rfl | (simp (decide := true) only [nI_succ, pNs_succ, decide_true, decide_false, cond_true, cond_false, Bool.false_eq_true, if_true, if_false, ite_true, ite_false]; done) | (simp (decide := true) only [nI_succ, pNs_succ, decide_true, decide_false, cond_true, cond_false, Bool.false_eq_true, if_true, if_false, ite_true, ite_false]; rfl)) rfl (by first | rfl | (simp (decide := true) only [nI_succ, pNs_succ, decide_true, decide_false, cond_true, cond_false, Bool.false_eq_true, if_true, if_false, ite_true, ite_false]; done) | (simp (decide := true) only [nI_succ, pNs_succ, decide_true, decide_false, cond_true, cond_false, Bool.false_eq_true, if_true, if_false, ite_true, ite_false]; rfl)) ?_
      exact ih2
set_option maxRecDepth 100000 in
set_option maxHeartbeats 2000000 in
theorem c_put_0 {G : tg_G} {h p t : tp_H} {x : tp_X} {r : List tg_Cl} (hm : hM h ≤ 7) (k v : Int32) : tg_C G 2 mX1_put 0 0 [.ref 1, .int k, .int v] (tp_cs h p t x, r) (fun u w => u = none ∧ w = (tp_cs (putH h k v) p t x, r)) := by
  refine tg_intro okX1_put (Nat.le_of_ble_eq_true rfl) ?_
  refine tg_steps 2 rfl ?_
  refine tg_callV rfl (c_has_0 k) rfl rfl rfl rfl rfl (fun v2 w2 q2 => ?_)
  obtain ⟨rfl, rfl⟩ := q2
  refine tg_ifbeq rfl rfl (fun h5 => ?_) (fun h5 => ?_)
  · exact tg_vret (st := []) rfl rfl ⟨Nat.le_of_ble_eq_true rfl, Nat.le_of_ble_eq_true rfl⟩ ⟨rfl, by first | (simp (decide := true) only [putH, uP, decide_true, decide_false, cond_true, cond_false, Bool.false_eq_true, if_true, if_false, ite_true, ite_false, h5]; done) | (simp (decide := true) only [putH, uP, decide_true, decide_false, cond_true, cond_false, Bool.false_eq_true, if_true, if_false, ite_true, ite_false, h5]; rfl)⟩
  · obtain ⟨j, hj, rfl, hcl⟩ := has_j hm h5
    refine tg_steps 4 rfl ?_
    refine tg_iastN rfl rfl (j) rfl (by omega) (by decide) ?_
    exact tg_vret (st := []) rfl rfl ⟨Nat.le_of_ble_eq_true rfl, Nat.le_of_ble_eq_true rfl⟩ ⟨rfl, by first | (simp (decide := true) only [putH, uP, decide_true, decide_false, cond_true, cond_false, Bool.false_eq_true, if_true, if_false, ite_true, ite_false, h5, hcl]; done) | (simp (decide := true) only [putH, uP, decide_true, decide_false, cond_true, cond_false, Bool.false_eq_true, if_true, if_false, ite_true, ite_false, h5, hcl]; rfl)⟩
set_option maxRecDepth 100000 in
set_option maxHeartbeats 2000000 in
theorem c_pinWhereHeIs_0 {G : tg_G} {h p t : tp_H} {x : tp_X} {r : List tg_Cl} (hm : hM h ≤ 7) (k v : Int32) : tg_C G 2 mX1_pinWhereHeIs 0 0 [.ref 1, .int k, .int v] (tp_cs h p t x, r) (fun u w => u = none ∧ w = (tp_cs (pinH h k v) p t x, r)) := by
  refine tg_intro okX1_pinWhereHeIs (Nat.le_of_ble_eq_true rfl) ?_
  refine tg_steps 2 rfl ?_
  refine tg_callV rfl (c_has_0 k) rfl rfl rfl rfl rfl (fun v2 w2 q2 => ?_)
  obtain ⟨rfl, rfl⟩ := q2
  refine tg_ifbeq rfl rfl (fun h5 => ?_) (fun h5 => ?_)
  · exact tg_vret (st := []) rfl rfl ⟨Nat.le_of_ble_eq_true rfl, Nat.le_of_ble_eq_true rfl⟩ ⟨rfl, by first | (simp (decide := true) only [pinH, uP, decide_true, decide_false, cond_true, cond_false, Bool.false_eq_true, if_true, if_false, ite_true, ite_false, h5]; done) | (simp (decide := true) only [pinH, uP, decide_true, decide_false, cond_true, cond_false, Bool.false_eq_true, if_true, if_false, ite_true, ite_false, h5]; rfl)⟩
  · obtain ⟨j, hj, rfl, hcl⟩ := has_j hm h5
    refine tg_steps 4 rfl ?_
    refine tg_iastN rfl rfl (j) rfl (by omega) (by decide) ?_
    exact tg_vret (st := []) rfl rfl ⟨Nat.le_of_ble_eq_true rfl, Nat.le_of_ble_eq_true rfl⟩ ⟨rfl, by first | (simp (decide := true) only [pinH, uP, decide_true, decide_false, cond_true, cond_false, Bool.false_eq_true, if_true, if_false, ite_true, ite_false, h5, hcl]; done) | (simp (decide := true) only [pinH, uP, decide_true, decide_false, cond_true, cond_false, Bool.false_eq_true, if_true, if_false, ite_true, ite_false, h5, hcl]; rfl)⟩
set_option maxRecDepth 100000 in
set_option maxHeartbeats 2000000 in
theorem c_sendHome_0 {G : tg_G} {h p t : tp_H} {x : tp_X} {r : List tg_Cl} (hm : hM h ≤ 7) (k v : Int32) : tg_C G 3 mX1_sendHome 0 0 [.ref 1, .int k, .int v] (tp_cs h p t x, r) (fun u w => u = none ∧ w = (tp_cs (senH h k v) p t x, r)) := by
  refine tg_intro okX1_sendHome (Nat.le_of_ble_eq_true rfl) ?_
  refine tg_steps 3 rfl ?_
  refine tg_callV rfl (c_pinWhereHeIs_0 hm k v) rfl rfl rfl rfl rfl (fun v3 w3 q3 => ?_)
  obtain ⟨rfl, rfl⟩ := q3
  refine tg_steps 4 rfl ?_
  refine tg_callV rfl (c_homeOf_0 (h := pinH h k v) hm k) rfl rfl rfl rfl rfl (fun v10 w10 q10 => ?_)
  obtain ⟨rfl, rfl⟩ := q10
  refine tg_callV rfl (c_put_0 (h := pinH h k v) hm k _) rfl rfl rfl rfl rfl (fun v13 w13 q13 => ?_)
  obtain ⟨rfl, rfl⟩ := q13
  exact tg_vret (st := []) rfl rfl ⟨Nat.le_of_ble_eq_true rfl, Nat.le_of_ble_eq_true rfl⟩ ⟨rfl, rfl⟩
set_option maxRecDepth 100000 in
set_option maxHeartbeats 2000000 in
theorem c_become_0 {G : tg_G} {h p t : tp_H} {x : tp_X} {r : List tg_Cl} (hm : hM h ≤ 7) (k a b : Int32) : tg_C G 2 mX1_become 0 0 [.ref 1, .int k, .int a, .int b] (tp_cs h p t x, r) (fun u w => u = none ∧ w = (tp_cs (becH h k a b) p t x, r)) := by
  refine tg_intro okX1_become (Nat.le_of_ble_eq_true rfl) ?_
  refine tg_steps 2 rfl ?_
  refine tg_callV rfl (c_has_0 k) rfl rfl rfl rfl rfl (fun v2 w2 q2 => ?_)
  obtain ⟨rfl, rfl⟩ := q2
  refine tg_ifbeq rfl rfl (fun h5 => ?_) (fun h5 => ?_)
  · exact tg_vret (st := []) rfl rfl ⟨Nat.le_of_ble_eq_true rfl, Nat.le_of_ble_eq_true rfl⟩ ⟨rfl, by first | (simp (decide := true) only [becH, uP, decide_true, decide_false, cond_true, cond_false, Bool.false_eq_true, if_true, if_false, ite_true, ite_false, h5]; done) | (simp (decide := true) only [becH, uP, decide_true, decide_false, cond_true, cond_false, Bool.false_eq_true, if_true, if_false, ite_true, ite_false, h5]; rfl)⟩
  · obtain ⟨j, hj, rfl, hcl⟩ := has_j hm h5
    refine tg_steps 4 rfl ?_
    refine tg_iastN rfl rfl (j) rfl (by omega) (by decide) ?_
    refine tg_steps 4 rfl ?_
    refine tg_iastN rfl rfl (j) rfl (by omega) (by decide) ?_
    exact tg_vret (st := []) rfl rfl ⟨Nat.le_of_ble_eq_true rfl, Nat.le_of_ble_eq_true rfl⟩ ⟨rfl, by first | (simp (decide := true) only [becH, uP, decide_true, decide_false, cond_true, cond_false, Bool.false_eq_true, if_true, if_false, ite_true, ite_false, h5, hcl]; done) | (simp (decide := true) only [becH, uP, decide_true, decide_false, cond_true, cond_false, Bool.false_eq_true, if_true, if_false, ite_true, ite_false, h5, hcl]; rfl)⟩
set_option maxRecDepth 100000 in
set_option maxHeartbeats 2000000 in
theorem c_turnCrack_0 {G : tg_G} {h p t : tp_H} {x : tp_X} {r : List tg_Cl} (k : Int32) : tg_C G 1 mX1_turnCrack 0 0 [.ref 1, .int k] (tp_cs h p t x, r) (fun u w => u = none ∧ w = (tp_cs (crkH h k) p t x, r)) := by
  refine tg_intro okX1_turnCrack (Nat.le_of_ble_eq_true rfl) ?_
  refine tg_steps 8 rfl ?_
  exact tg_vret (st := []) rfl rfl ⟨Nat.le_of_ble_eq_true rfl, Nat.le_of_ble_eq_true rfl⟩ ⟨rfl, rfl⟩
set_option maxRecDepth 100000 in
set_option maxHeartbeats 2000000 in
theorem c_aboardOnes_0 {G : tg_G} {h p t : tp_H} {x : tp_X} {r : List tg_Cl} (hm : hM h ≤ 7) : tg_C G 2 mX1_aboardOnes 0 0 [.ref 1] (tp_cs h p t x, r) (fun v w => v = some (.int (oAt h (hS h))) ∧ w = (tp_cs h p t x, r)) := by
  refine tg_intro okX1_aboardOnes (Nat.le_of_ble_eq_true rfl) ?_
  refine tg_steps 3 rfl ?_
  refine tg_callV rfl (c_onesAt_0 hm _) rfl rfl rfl rfl rfl (fun v5 w5 q5 => ?_)
  obtain ⟨rfl, rfl⟩ := q5
  exact tg_iret (st := []) rfl rfl ⟨Nat.le_of_ble_eq_true rfl, Nat.le_of_ble_eq_true rfl⟩ ⟨rfl, rfl⟩
set_option maxRecDepth 100000 in
set_option maxHeartbeats 2000000 in
theorem c_aboardMany_0 {G : tg_G} {h p t : tp_H} {x : tp_X} {r : List tg_Cl} (hm : hM h ≤ 7) : tg_C G 2 mX1_aboardMany 0 0 [.ref 1] (tp_cs h p t x, r) (fun v w => v = some (.int (mAt h (hS h))) ∧ w = (tp_cs h p t x, r)) := by
  refine tg_intro okX1_aboardMany (Nat.le_of_ble_eq_true rfl) ?_
  refine tg_steps 3 rfl ?_
  refine tg_callV rfl (c_manyAt_0 hm _) rfl rfl rfl rfl rfl (fun v5 w5 q5 => ?_)
  obtain ⟨rfl, rfl⟩ := q5
  exact tg_iret (st := []) rfl rfl ⟨Nat.le_of_ble_eq_true rfl, Nat.le_of_ble_eq_true rfl⟩ ⟨rfl, rfl⟩
set_option maxRecDepth 100000 in
set_option maxHeartbeats 2000000 in
theorem c_homeMany_0 {G : tg_G} {h p t : tp_H} {x : tp_X} {r : List tg_Cl} (hm : hM h ≤ 7) : tg_C G 1 mX1_homeMany 0 0 [.ref 1] (tp_cs h p t x, r) (fun v w => v = some (.int (hoM h)) ∧ w = (tp_cs h p t x, r)) := by
  refine tg_intro okX1_homeMany (Nat.le_of_ble_eq_true rfl) ?_
  refine tg_steps 4 rfl ?_
  refine tg_pkV [0, 1, 2] ?_
  refine tg_eqS (L2 := [(0, .ref 1), (1, .int (cI (fun i => decide (hT h i = hH h i)) (0))), (2, .int (nI (0)))]) (st2 := []) (w2 := (tp_cs h p t x, r)) rfl rfl rfl ?_
  refine tg_down (φ := fun i : Nat => tg_V G 1 mX1_homeMany 0 0 0 0 (fun v w => v = some (.int (hoM h)) ∧ w = (tp_cs h p t x, r)) 4 [(0, .ref 1), (1, .int (cI (fun i => decide (hT h i = hH h i)) (i))), (2, .int (nI (i)))] [] (tp_cs h p t x, r)) (n := hM h) ?_ ?_ 0 (Nat.zero_le _) 
  · refine tg_steps 3 rfl ?_
    refine tg_icge rfl rfl (fun h9 => ?_) (fun h9 => ?_)
    · refine tg_steps 1 rfl ?_
      exact tg_iret (st := []) rfl rfl ⟨Nat.le_of_ble_eq_true rfl, Nat.le_of_ble_eq_true rfl⟩ ⟨rfl, rfl⟩
    · exact absurd (nI_le (Nat.le_refl _) (by omega)) h9
  · intro i hi4 ih4
    refine tg_steps 3 rfl ?_
    refine tg_icge rfl rfl (fun h9 => ?_) (fun h9 => ?_)
    · exact absurd h9 (nI_ge hi4 (by omega))
    · refine tg_steps 3 rfl ?_
      refine tg_ialdN rfl rfl (i) rfl (by omega) (by decide) ?_
      refine tg_steps 3 rfl ?_
      refine tg_ialdN rfl rfl (i) rfl (by omega) (by decide) ?_
      refine tg_icne rfl rfl (fun h24 => ?_) (fun h24 => ?_)
      · refine tg_steps 2 rfl ?_
        refine tg_pkV [0, 1, 2] ?_
        refine tg_eqS (L2 := [(0, .ref 1), (1, .int (cI (fun i => decide (hT h i = hH h i)) (i + 1))), (2, .int (nI (i + 1)))]) (st2 := []) (w2 := (tp_cs h p t x, r)) (by first | rfl | (simp (decide := true) only [nI_succ, cI_succ, decide_true, decide_false, cond_true, cond_false, Bool.false_eq_true, if_true, if_false, ite_true, ite_false, h24]; done) | (simp (decide := true) only [nI_succ, cI_succ, decide_true, decide_false, cond_true, cond_false, Bool.false_eq_true, if_true, if_false, ite_true, ite_false, h24]; rfl)) rfl (by first | rfl | (simp (decide := true) only [nI_succ, cI_succ, decide_true, decide_false, cond_true, cond_false, Bool.false_eq_true, if_true, if_false, ite_true, ite_false, h24]; done) | (simp (decide := true) only [nI_succ, cI_succ, decide_true, decide_false, cond_true, cond_false, Bool.false_eq_true, if_true, if_false, ite_true, ite_false, h24]; rfl)) ?_
        exact ih4
      · refine tg_steps 3 rfl ?_
        refine tg_pkV [0, 1, 2] ?_
        refine tg_eqS (L2 := [(0, .ref 1), (1, .int (cI (fun i => decide (hT h i = hH h i)) (i + 1))), (2, .int (nI (i + 1)))]) (st2 := []) (w2 := (tp_cs h p t x, r)) (by first | rfl | (simp (decide := true) only [nI_succ, cI_succ, decide_true, decide_false, cond_true, cond_false, Bool.false_eq_true, if_true, if_false, ite_true, ite_false, eq_true h24]; done) | (simp (decide := true) only [nI_succ, cI_succ, decide_true, decide_false, cond_true, cond_false, Bool.false_eq_true, if_true, if_false, ite_true, ite_false, eq_true h24]; rfl)) rfl (by first | rfl | (simp (decide := true) only [nI_succ, cI_succ, decide_true, decide_false, cond_true, cond_false, Bool.false_eq_true, if_true, if_false, ite_true, ite_false, eq_true h24]; done) | (simp (decide := true) only [nI_succ, cI_succ, decide_true, decide_false, cond_true, cond_false, Bool.false_eq_true, if_true, if_false, ite_true, ite_false, eq_true h24]; rfl)) ?_
        exact ih4
set_option maxRecDepth 100000 in
set_option maxHeartbeats 2000000 in
theorem c_fullestTile_0 {G : tg_G} {h p t : tp_H} {x : tp_X} {r : List tg_Cl} (hm : hM h ≤ 7) : tg_C G 2 mX1_fullestTile 0 0 [.ref 1] (tp_cs h p t x, r) (fun v w => v = some (.int (fuT h 24)) ∧ w = (tp_cs h p t x, r)) := by
  refine tg_intro okX1_fullestTile (Nat.le_of_ble_eq_true rfl) ?_
  refine tg_steps 4 rfl ?_
  refine tg_pkV [0, 1, 2] ?_
  refine tg_eqS (L2 := [(0, .ref 1), (1, .int (fuT h (1))), (2, .int (nI (1)))]) (st2 := []) (w2 := (tp_cs h p t x, r)) (by rw [fuT_1]; rfl) rfl rfl ?_
  refine tg_down (φ := fun i : Nat => tg_V G 2 mX1_fullestTile 0 0 0 0 (fun v w => v = some (.int (fuT h 24)) ∧ w = (tp_cs h p t x, r)) 4 [(0, .ref 1), (1, .int (fuT h (i))), (2, .int (nI (i)))] [] (tp_cs h p t x, r)) (n := 24) ?_ ?_ 1 (by decide) 
  · refine tg_steps 2 rfl ?_
    refine tg_icge rfl rfl (fun h7 => ?_) (fun h7 => ?_)
    · refine tg_steps 1 rfl ?_
      exact tg_iret (st := []) rfl rfl ⟨Nat.le_of_ble_eq_true rfl, Nat.le_of_ble_eq_true rfl⟩ ⟨rfl, rfl⟩
    · exact absurd (by decide) h7
  · intro i hi4 ih4
    refine tg_steps 2 rfl ?_
    refine tg_icge rfl rfl (fun h7 => ?_) (fun h7 => ?_)
    · exact absurd h7 (nI_ge (b := 24) hi4 (by decide))
    · refine tg_steps 2 rfl ?_
      refine tg_callV rfl (c_manyAt_0 hm _) rfl rfl rfl rfl rfl (fun v12 w12 q12 => ?_)
      obtain ⟨rfl, rfl⟩ := q12
      refine tg_steps 2 rfl ?_
      refine tg_callV rfl (c_manyAt_0 hm _) rfl rfl rfl rfl rfl (fun v17 w17 q17 => ?_)
      obtain ⟨rfl, rfl⟩ := q17
      refine tg_icle rfl rfl (fun h20 => ?_) (fun h20 => ?_)
      · refine tg_steps 2 rfl ?_
        refine tg_pkV [0, 1, 2] ?_
        refine tg_eqS (L2 := [(0, .ref 1), (1, .int (fuT h (i + 1))), (2, .int (nI (i + 1)))]) (st2 := []) (w2 := (tp_cs h p t x, r)) (by first | rfl | (simp (decide := true) only [nI_succ, fuT_succ, decide_true, decide_false, cond_true, cond_false, Bool.false_eq_true, if_true, if_false, ite_true, ite_false, h20, Int32.not_lt.mpr h20]; done) | (simp (decide := true) only [nI_succ, fuT_succ, decide_true, decide_false, cond_true, cond_false, Bool.false_eq_true, if_true, if_false, ite_true, ite_false, h20, Int32.not_lt.mpr h20]; rfl)) rfl (by first | rfl | (simp (decide := true) only [nI_succ, fuT_succ, decide_true, decide_false, cond_true, cond_false, Bool.false_eq_true, if_true, if_false, ite_true, ite_false, h20, Int32.not_lt.mpr h20]; done) | (simp (decide := true) only [nI_succ, fuT_succ, decide_true, decide_false, cond_true, cond_false, Bool.false_eq_true, if_true, if_false, ite_true, ite_false, h20, Int32.not_lt.mpr h20]; rfl)) ?_
        exact ih4
      · refine tg_steps 4 rfl ?_
        refine tg_pkV [0, 1, 2] ?_
        refine tg_eqS (L2 := [(0, .ref 1), (1, .int (fuT h (i + 1))), (2, .int (nI (i + 1)))]) (st2 := []) (w2 := (tp_cs h p t x, r)) (by first | rfl | (simp (decide := true) only [nI_succ, fuT_succ, decide_true, decide_false, cond_true, cond_false, Bool.false_eq_true, if_true, if_false, ite_true, ite_false, h20, Int32.not_le.mp h20]; done) | (simp (decide := true) only [nI_succ, fuT_succ, decide_true, decide_false, cond_true, cond_false, Bool.false_eq_true, if_true, if_false, ite_true, ite_false, h20, Int32.not_le.mp h20]; rfl)) rfl (by first | rfl | (simp (decide := true) only [nI_succ, fuT_succ, decide_true, decide_false, cond_true, cond_false, Bool.false_eq_true, if_true, if_false, ite_true, ite_false, h20, Int32.not_le.mp h20]; done) | (simp (decide := true) only [nI_succ, fuT_succ, decide_true, decide_false, cond_true, cond_false, Bool.false_eq_true, if_true, if_false, ite_true, ite_false, h20, Int32.not_le.mp h20]; rfl)) ?_
        exact ih4
set_option maxRecDepth 100000 in
set_option maxHeartbeats 2000000 in
theorem c_emptyTiles_0 {G : tg_G} {h p t : tp_H} {x : tp_X} {r : List tg_Cl} (hm : hM h ≤ 7) : tg_C G 1 mX1_emptyTiles 0 0 [.ref 1] (tp_cs h p t x, r) (fun v w => v = some (.int (emT h (hM h))) ∧ w = (tp_cs h p t x, r)) := by
  refine tg_intro okX1_emptyTiles (Nat.le_of_ble_eq_true rfl) ?_
  refine tg_steps 4 rfl ?_
  refine tg_pkV [0, 1, 2] ?_
  refine tg_eqS (L2 := [(0, .ref 1), (1, .int (emT h (0))), (2, .int (nI (0)))]) (st2 := []) (w2 := (tp_cs h p t x, r)) rfl rfl rfl ?_
  refine tg_down (φ := fun i : Nat => tg_V G 1 mX1_emptyTiles 0 0 0 0 (fun v w => v = some (.int (emT h (hM h))) ∧ w = (tp_cs h p t x, r)) 5 [(0, .ref 1), (1, .int (emT h (i))), (2, .int (nI (i)))] [] (tp_cs h p t x, r)) (n := hM h) ?_ ?_ 0 (Nat.zero_le _) 
  · refine tg_steps 3 rfl ?_
    refine tg_icge rfl rfl (fun h10 => ?_) (fun h10 => ?_)
    · refine tg_steps 1 rfl ?_
      exact tg_iret (st := []) rfl rfl ⟨Nat.le_of_ble_eq_true rfl, Nat.le_of_ble_eq_true rfl⟩ ⟨rfl, rfl⟩
    · exact absurd (nI_le (Nat.le_refl _) (by omega)) h10
  · intro i hi5 ih5
    refine tg_steps 3 rfl ?_
    refine tg_icge rfl rfl (fun h10 => ?_) (fun h10 => ?_)
    · exact absurd h10 (nI_ge hi5 (by omega))
    · refine tg_steps 5 rfl ?_
      refine tg_ialdN rfl rfl (i) rfl (by omega) (by decide) ?_
      refine tg_steps 7 rfl ?_
      refine tg_pkV [0, 1, 2] ?_
      refine tg_eqS (L2 := [(0, .ref 1), (1, .int (emT h (i + 1))), (2, .int (nI (i + 1)))]) (st2 := []) (w2 := (tp_cs h p t x, r)) (by first | rfl | (simp (decide := true) only [nI_succ, emT_succ, decide_true, decide_false, cond_true, cond_false, Bool.false_eq_true, if_true, if_false, ite_true, ite_false]; done) | (simp (decide := true) only [nI_succ, emT_succ, decide_true, decide_false, cond_true, cond_false, Bool.false_eq_true, if_true, if_false, ite_true, ite_false]; rfl)) rfl (by first | rfl | (simp (decide := true) only [nI_succ, emT_succ, decide_true, decide_false, cond_true, cond_false, Bool.false_eq_true, if_true, if_false, ite_true, ite_false]; done) | (simp (decide := true) only [nI_succ, emT_succ, decide_true, decide_false, cond_true, cond_false, Bool.false_eq_true, if_true, if_false, ite_true, ite_false]; rfl)) ?_
      exact ih5
set_option maxRecDepth 100000 in
set_option maxHeartbeats 2000000 in
theorem c_lostMany_0 {G : tg_G} {h p t : tp_H} {x : tp_X} {r : List tg_Cl} (hm : hM h ≤ 7) : tg_C G 2 mX1_lostMany 0 0 [.ref 1] (tp_cs h p t x, r) (fun v w => v = some (.int (loM h)) ∧ w = (tp_cs h p t x, r)) := by
  refine tg_intro okX1_lostMany (Nat.le_of_ble_eq_true rfl) ?_
  refine tg_steps 4 rfl ?_
  refine tg_pkV [0, 1, 2] ?_
  refine tg_eqS (L2 := [(0, .ref 1), (1, .int (cI (fun i => crB h (hH h i)) (0))), (2, .int (nI (0)))]) (st2 := []) (w2 := (tp_cs h p t x, r)) rfl rfl rfl ?_
  refine tg_down (φ := fun i : Nat => tg_V G 2 mX1_lostMany 0 0 0 0 (fun v w => v = some (.int (loM h)) ∧ w = (tp_cs h p t x, r)) 4 [(0, .ref 1), (1, .int (cI (fun i => crB h (hH h i)) (i))), (2, .int (nI (i)))] [] (tp_cs h p t x, r)) (n := hM h) ?_ ?_ 0 (Nat.zero_le _) 
  · refine tg_steps 3 rfl ?_
    refine tg_icge rfl rfl (fun h9 => ?_) (fun h9 => ?_)
    · refine tg_steps 1 rfl ?_
      exact tg_iret (st := []) rfl rfl ⟨Nat.le_of_ble_eq_true rfl, Nat.le_of_ble_eq_true rfl⟩ ⟨rfl, rfl⟩
    · exact absurd (nI_le (Nat.le_refl _) (by omega)) h9
  · intro i hi4 ih4
    refine tg_steps 3 rfl ?_
    refine tg_icge rfl rfl (fun h9 => ?_) (fun h9 => ?_)
    · exact absurd h9 (nI_ge hi4 (by omega))
    · refine tg_steps 4 rfl ?_
      refine tg_ialdN rfl rfl (i) rfl (by omega) (by decide) ?_
      refine tg_callV rfl (c_isCracked_0 _) rfl rfl rfl rfl rfl (fun v19 w19 q19 => ?_)
      obtain ⟨rfl, rfl⟩ := q19
      refine tg_ifbeq rfl rfl (fun h22 => ?_) (fun h22 => ?_)
      · refine tg_steps 2 rfl ?_
        refine tg_pkV [0, 1, 2] ?_
        refine tg_eqS (L2 := [(0, .ref 1), (1, .int (cI (fun i => crB h (hH h i)) (i + 1))), (2, .int (nI (i + 1)))]) (st2 := []) (w2 := (tp_cs h p t x, r)) (by first | rfl | (simp (decide := true) only [nI_succ, cI_succ, decide_true, decide_false, cond_true, cond_false, Bool.false_eq_true, if_true, if_false, ite_true, ite_false, h22]; done) | (simp (decide := true) only [nI_succ, cI_succ, decide_true, decide_false, cond_true, cond_false, Bool.false_eq_true, if_true, if_false, ite_true, ite_false, h22]; rfl)) rfl (by first | rfl | (simp (decide := true) only [nI_succ, cI_succ, decide_true, decide_false, cond_true, cond_false, Bool.false_eq_true, if_true, if_false, ite_true, ite_false, h22]; done) | (simp (decide := true) only [nI_succ, cI_succ, decide_true, decide_false, cond_true, cond_false, Bool.false_eq_true, if_true, if_false, ite_true, ite_false, h22]; rfl)) ?_
        exact ih4
      · refine tg_steps 3 rfl ?_
        refine tg_pkV [0, 1, 2] ?_
        refine tg_eqS (L2 := [(0, .ref 1), (1, .int (cI (fun i => crB h (hH h i)) (i + 1))), (2, .int (nI (i + 1)))]) (st2 := []) (w2 := (tp_cs h p t x, r)) (by first | rfl | (simp (decide := true) only [nI_succ, cI_succ, decide_true, decide_false, cond_true, cond_false, Bool.false_eq_true, if_true, if_false, ite_true, ite_false, h22]; done) | (simp (decide := true) only [nI_succ, cI_succ, decide_true, decide_false, cond_true, cond_false, Bool.false_eq_true, if_true, if_false, ite_true, ite_false, h22]; rfl)) rfl (by first | rfl | (simp (decide := true) only [nI_succ, cI_succ, decide_true, decide_false, cond_true, cond_false, Bool.false_eq_true, if_true, if_false, ite_true, ite_false, h22]; done) | (simp (decide := true) only [nI_succ, cI_succ, decide_true, decide_false, cond_true, cond_false, Bool.false_eq_true, if_true, if_false, ite_true, ite_false, h22]; rfl)) ?_
        exact ih4
set_option maxRecDepth 100000 in
set_option maxHeartbeats 2000000 in
theorem c_pinnedMany_0 {G : tg_G} {h p t : tp_H} {x : tp_X} {r : List tg_Cl} (hm : hM h ≤ 7) : tg_C G 1 mX1_pinnedMany 0 0 [.ref 1] (tp_cs h p t x, r) (fun v w => v = some (.int (piM h)) ∧ w = (tp_cs h p t x, r)) := by
  refine tg_intro okX1_pinnedMany (Nat.le_of_ble_eq_true rfl) ?_
  refine tg_steps 4 rfl ?_
  refine tg_pkV [0, 1, 2] ?_
  refine tg_eqS (L2 := [(0, .ref 1), (1, .int (cI (fun i => decide (0 < hP h i)) (0))), (2, .int (nI (0)))]) (st2 := []) (w2 := (tp_cs h p t x, r)) rfl rfl rfl ?_
  refine tg_down (φ := fun i : Nat => tg_V G 1 mX1_pinnedMany 0 0 0 0 (fun v w => v = some (.int (piM h)) ∧ w = (tp_cs h p t x, r)) 4 [(0, .ref 1), (1, .int (cI (fun i => decide (0 < hP h i)) (i))), (2, .int (nI (i)))] [] (tp_cs h p t x, r)) (n := hM h) ?_ ?_ 0 (Nat.zero_le _) 
  · refine tg_steps 3 rfl ?_
    refine tg_icge rfl rfl (fun h9 => ?_) (fun h9 => ?_)
    · refine tg_steps 1 rfl ?_
      exact tg_iret (st := []) rfl rfl ⟨Nat.le_of_ble_eq_true rfl, Nat.le_of_ble_eq_true rfl⟩ ⟨rfl, rfl⟩
    · exact absurd (nI_le (Nat.le_refl _) (by omega)) h9
  · intro i hi4 ih4
    refine tg_steps 3 rfl ?_
    refine tg_icge rfl rfl (fun h9 => ?_) (fun h9 => ?_)
    · exact absurd h9 (nI_ge hi4 (by omega))
    · refine tg_steps 3 rfl ?_
      refine tg_ialdN rfl rfl (i) rfl (by omega) (by decide) ?_
      refine tg_ifle rfl rfl (fun h18 => ?_) (fun h18 => ?_)
      · refine tg_steps 2 rfl ?_
        refine tg_pkV [0, 1, 2] ?_
        refine tg_eqS (L2 := [(0, .ref 1), (1, .int (cI (fun i => decide (0 < hP h i)) (i + 1))), (2, .int (nI (i + 1)))]) (st2 := []) (w2 := (tp_cs h p t x, r)) (by first | rfl | (simp (decide := true) only [nI_succ, cI_succ, decide_true, decide_false, cond_true, cond_false, Bool.false_eq_true, if_true, if_false, ite_true, ite_false, h18, Int32.not_lt.mpr h18]; done) | (simp (decide := true) only [nI_succ, cI_succ, decide_true, decide_false, cond_true, cond_false, Bool.false_eq_true, if_true, if_false, ite_true, ite_false, h18, Int32.not_lt.mpr h18]; rfl)) rfl (by first | rfl | (simp (decide := true) only [nI_succ, cI_succ, decide_true, decide_false, cond_true, cond_false, Bool.false_eq_true, if_true, if_false, ite_true, ite_false, h18, Int32.not_lt.mpr h18]; done) | (simp (decide := true) only [nI_succ, cI_succ, decide_true, decide_false, cond_true, cond_false, Bool.false_eq_true, if_true, if_false, ite_true, ite_false, h18, Int32.not_lt.mpr h18]; rfl)) ?_
        exact ih4
      · refine tg_steps 3 rfl ?_
        refine tg_pkV [0, 1, 2] ?_
        refine tg_eqS (L2 := [(0, .ref 1), (1, .int (cI (fun i => decide (0 < hP h i)) (i + 1))), (2, .int (nI (i + 1)))]) (st2 := []) (w2 := (tp_cs h p t x, r)) (by first | rfl | (simp (decide := true) only [nI_succ, cI_succ, decide_true, decide_false, cond_true, cond_false, Bool.false_eq_true, if_true, if_false, ite_true, ite_false, h18, Int32.not_le.mp h18]; done) | (simp (decide := true) only [nI_succ, cI_succ, decide_true, decide_false, cond_true, cond_false, Bool.false_eq_true, if_true, if_false, ite_true, ite_false, h18, Int32.not_le.mp h18]; rfl)) rfl (by first | rfl | (simp (decide := true) only [nI_succ, cI_succ, decide_true, decide_false, cond_true, cond_false, Bool.false_eq_true, if_true, if_false, ite_true, ite_false, h18, Int32.not_le.mp h18]; done) | (simp (decide := true) only [nI_succ, cI_succ, decide_true, decide_false, cond_true, cond_false, Bool.false_eq_true, if_true, if_false, ite_true, ite_false, h18, Int32.not_le.mp h18]; rfl)) ?_
        exact ih4
set_option maxRecDepth 100000 in
set_option maxHeartbeats 2000000 in
theorem c_besideMany_0 {G : tg_G} {h p t : tp_H} {x : tp_X} {r : List tg_Cl} (hm : hM h ≤ 7) : tg_C G 3 mX1_besideMany 0 0 [.ref 1] (tp_cs h p t x, r) (fun v w => v = some (.int (bsO h (hM h))) ∧ w = (tp_cs h p t x, r)) := by
  refine tg_intro okX1_besideMany (Nat.le_of_ble_eq_true rfl) ?_
  refine tg_steps 4 rfl ?_
  refine tg_pkV [0, 1, 2] ?_
  refine tg_eqS (L2 := [(0, .ref 1), (1, .int (bsO h (0))), (2, .int (nI (0)))]) (st2 := []) (w2 := (tp_cs h p t x, r)) rfl rfl rfl ?_
  refine tg_down (φ := fun i : Nat => tg_V G 3 mX1_besideMany 0 0 0 0 (fun v w => v = some (.int (bsO h (hM h))) ∧ w = (tp_cs h p t x, r)) 4 [(0, .ref 1), (1, .int (bsO h (i))), (2, .int (nI (i)))] [] (tp_cs h p t x, r)) (n := hM h) ?_ ?_ 0 (Nat.zero_le _) 
  · refine tg_steps 3 rfl ?_
    refine tg_icge rfl rfl (fun h9 => ?_) (fun h9 => ?_)
    · refine tg_steps 1 rfl ?_
      exact tg_iret (st := []) rfl rfl ⟨Nat.le_of_ble_eq_true rfl, Nat.le_of_ble_eq_true rfl⟩ ⟨rfl, rfl⟩
    · exact absurd (nI_le (Nat.le_refl _) (by omega)) h9
  · intro i hi4 ih4
    refine tg_steps 3 rfl ?_
    refine tg_icge rfl rfl (fun h9 => ?_) (fun h9 => ?_)
    · exact absurd h9 (nI_ge hi4 (by omega))
    · refine tg_steps 4 rfl ?_
      refine tg_pkV [0, 1, 2, 3] ?_
      refine tg_eqS (L2 := [(0, .ref 1), (1, .int (cB (bsO h i) (bsP h i) ((i + 1)))), (2, .int (nI i)), (3, .int (nI ((i + 1))))]) (st2 := []) (w2 := (tp_cs h p t x, r)) (by rw [bsO_init, nI_succ]; rfl) rfl rfl ?_
      refine tg_down (φ := fun j : Nat => (i < j) → tg_V G 3 mX1_besideMany 0 0 0 0 (fun v w => v = some (.int (bsO h (hM h))) ∧ w = (tp_cs h p t x, r)) 16 [(0, .ref 1), (1, .int (cB (bsO h i) (bsP h i) (j))), (2, .int (nI i)), (3, .int (nI (j)))] [] (tp_cs h p t x, r)) (n := hM h) ?_ ?_ (i + 1) (by omega) ((by omega))
      · intro hinv16
        refine tg_steps 3 rfl ?_
        refine tg_icge rfl rfl (fun h21 => ?_) (fun h21 => ?_)
        · refine tg_steps 2 rfl ?_
          refine tg_pkV [0, 1, 2] ?_
          refine tg_eqS (L2 := [(0, .ref 1), (1, .int (bsO h (i + 1))), (2, .int (nI (i + 1)))]) (st2 := []) (w2 := (tp_cs h p t x, r)) (by first | rfl | (simp (decide := true) only [nI_succ, bsO_succ, decide_true, decide_false, cond_true, cond_false, Bool.false_eq_true, if_true, if_false, ite_true, ite_false, hinv16]; done) | (simp (decide := true) only [nI_succ, bsO_succ, decide_true, decide_false, cond_true, cond_false, Bool.false_eq_true, if_true, if_false, ite_true, ite_false, hinv16]; rfl)) rfl (by first | rfl | (simp (decide := true) only [nI_succ, bsO_succ, decide_true, decide_false, cond_true, cond_false, Bool.false_eq_true, if_true, if_false, ite_true, ite_false, hinv16]; done) | (simp (decide := true) only [nI_succ, bsO_succ, decide_true, decide_false, cond_true, cond_false, Bool.false_eq_true, if_true, if_false, ite_true, ite_false, hinv16]; rfl)) ?_
          exact ih4
        · exact absurd (nI_le (Nat.le_refl _) (by omega)) h21
      · intro j hi16 ih16 hinv16
        refine tg_steps 3 rfl ?_
        refine tg_icge rfl rfl (fun h21 => ?_) (fun h21 => ?_)
        · exact absurd h21 (nI_ge hi16 (by omega))
        · refine tg_steps 3 rfl ?_
          refine tg_ialdN rfl rfl (i) rfl (by omega) (by decide) ?_
          refine tg_steps 3 rfl ?_
          refine tg_ialdN rfl rfl (j) rfl (by omega) (by decide) ?_
          refine tg_call4 rfl (c_rowsAndColumns _ _) rfl rfl rfl  (fun v36 w36 q36 => ?_)
          obtain ⟨rfl, rfl⟩ := q36
          refine tg_steps 1 rfl ?_
          refine tg_icne rfl rfl (fun h40 => ?_) (fun h40 => ?_)
          · refine tg_steps 2 rfl ?_
            refine tg_pkV [0, 1, 2, 3] ?_
            refine tg_eqS (L2 := [(0, .ref 1), (1, .int (cB (bsO h i) (bsP h i) (j + 1))), (2, .int (nI i)), (3, .int (nI (j + 1)))]) (st2 := []) (w2 := (tp_cs h p t x, r)) (by first | rfl | (simp (decide := true) only [nI_succ, cB_succ, bsP, decide_true, decide_false, cond_true, cond_false, Bool.false_eq_true, if_true, if_false, ite_true, ite_false, hinv16, h40]; done) | (simp (decide := true) only [nI_succ, cB_succ, bsP, decide_true, decide_false, cond_true, cond_false, Bool.false_eq_true, if_true, if_false, ite_true, ite_false, hinv16, h40]; rfl)) rfl (by first | rfl | (simp (decide := true) only [nI_succ, cB_succ, bsP, decide_true, decide_false, cond_true, cond_false, Bool.false_eq_true, if_true, if_false, ite_true, ite_false, hinv16, h40]; done) | (simp (decide := true) only [nI_succ, cB_succ, bsP, decide_true, decide_false, cond_true, cond_false, Bool.false_eq_true, if_true, if_false, ite_true, ite_false, hinv16, h40]; rfl)) ?_
            exact ih16 (by omega)
          · refine tg_steps 3 rfl ?_
            refine tg_pkV [0, 1, 2, 3] ?_
            refine tg_eqS (L2 := [(0, .ref 1), (1, .int (cB (bsO h i) (bsP h i) (j + 1))), (2, .int (nI i)), (3, .int (nI (j + 1)))]) (st2 := []) (w2 := (tp_cs h p t x, r)) (by first | rfl | (simp (decide := true) only [nI_succ, cB_succ, bsP, decide_true, decide_false, cond_true, cond_false, Bool.false_eq_true, if_true, if_false, ite_true, ite_false, hinv16, eq_true h40]; done) | (simp (decide := true) only [nI_succ, cB_succ, bsP, decide_true, decide_false, cond_true, cond_false, Bool.false_eq_true, if_true, if_false, ite_true, ite_false, hinv16, eq_true h40]; rfl)) rfl (by first | rfl | (simp (decide := true) only [nI_succ, cB_succ, bsP, decide_true, decide_false, cond_true, cond_false, Bool.false_eq_true, if_true, if_false, ite_true, ite_false, hinv16, eq_true h40]; done) | (simp (decide := true) only [nI_succ, cB_succ, bsP, decide_true, decide_false, cond_true, cond_false, Bool.false_eq_true, if_true, if_false, ite_true, ite_false, hinv16, eq_true h40]; rfl)) ?_
            exact ih16 (by omega)
set_option maxRecDepth 100000 in
set_option maxHeartbeats 2000000 in
theorem c_fromHome_0 {G : tg_G} {h p t : tp_H} {x : tp_X} {r : List tg_Cl} (hm : hM h ≤ 7) (k : Int32) : tg_C G 3 mX1_fromHome 0 0 [.ref 1, .int k] (tp_cs h p t x, r) (fun v w => v = some (.int (frH h k)) ∧ w = (tp_cs h p t x, r)) := by
  refine tg_intro okX1_fromHome (Nat.le_of_ble_eq_true rfl) ?_
  refine tg_steps 2 rfl ?_
  refine tg_callV rfl (c_tileOf_0 hm k) rfl rfl rfl rfl rfl (fun v2 w2 q2 => ?_)
  obtain ⟨rfl, rfl⟩ := q2
  refine tg_steps 2 rfl ?_
  refine tg_callV rfl (c_homeOf_0 hm k) rfl rfl rfl rfl rfl (fun v7 w7 q7 => ?_)
  obtain ⟨rfl, rfl⟩ := q7
  refine tg_call4 rfl (c_rowsAndColumns _ _) rfl rfl rfl  (fun v10 w10 q10 => ?_)
  obtain ⟨rfl, rfl⟩ := q10
  exact tg_iret (st := []) rfl rfl ⟨Nat.le_of_ble_eq_true rfl, Nat.le_of_ble_eq_true rfl⟩ ⟨rfl, rfl⟩
set_option maxRecDepth 100000 in
set_option maxHeartbeats 2000000 in
theorem c_farthestFromHome_0 {G : tg_G} {h p t : tp_H} {x : tp_X} {r : List tg_Cl} (hm : hM h ≤ 7) : tg_C G 4 mX1_farthestFromHome 0 0 [.ref 1] (tp_cs h p t x, r) (fun v w => v = some (.int (faT h (hM h))) ∧ w = (tp_cs h p t x, r)) := by
  refine tg_intro okX1_farthestFromHome (Nat.le_of_ble_eq_true rfl) ?_
  refine tg_steps 4 rfl ?_
  refine tg_pkV [0, 1, 2] ?_
  refine tg_eqS (L2 := [(0, .ref 1), (1, .int (faT h (0))), (2, .int (nI (0)))]) (st2 := []) (w2 := (tp_cs h p t x, r)) rfl rfl rfl ?_
  refine tg_down (φ := fun i : Nat => tg_V G 4 mX1_farthestFromHome 0 0 0 0 (fun v w => v = some (.int (faT h (hM h))) ∧ w = (tp_cs h p t x, r)) 5 [(0, .ref 1), (1, .int (faT h (i))), (2, .int (nI (i)))] [] (tp_cs h p t x, r)) (n := hM h) ?_ ?_ 0 (Nat.zero_le _) 
  · refine tg_steps 3 rfl ?_
    refine tg_icge rfl rfl (fun h10 => ?_) (fun h10 => ?_)
    · refine tg_steps 1 rfl ?_
      exact tg_iret (st := []) rfl rfl ⟨Nat.le_of_ble_eq_true rfl, Nat.le_of_ble_eq_true rfl⟩ ⟨rfl, rfl⟩
    · exact absurd (nI_le (Nat.le_refl _) (by omega)) h10
  · intro i hi5 ih5
    refine tg_steps 3 rfl ?_
    refine tg_icge rfl rfl (fun h10 => ?_) (fun h10 => ?_)
    · exact absurd h10 (nI_ge hi5 (by omega))
    · refine tg_steps 2 rfl ?_
      refine tg_iceq rfl rfl (fun h16 => ?_) (fun h16 => ?_)
      · refine tg_steps 4 rfl ?_
        refine tg_pkV [0, 1, 2] ?_
        refine tg_eqS (L2 := [(0, .ref 1), (1, .int (faT h (i + 1))), (2, .int (nI (i + 1)))]) (st2 := []) (w2 := (tp_cs h p t x, r)) (by first | rfl | (simp (decide := true) only [nI_succ, faT_succ, decide_true, decide_false, cond_true, cond_false, Bool.false_eq_true, if_true, if_false, ite_true, ite_false, eq_true h16]; done) | (simp (decide := true) only [nI_succ, faT_succ, decide_true, decide_false, cond_true, cond_false, Bool.false_eq_true, if_true, if_false, ite_true, ite_false, eq_true h16]; rfl)) rfl (by first | rfl | (simp (decide := true) only [nI_succ, faT_succ, decide_true, decide_false, cond_true, cond_false, Bool.false_eq_true, if_true, if_false, ite_true, ite_false, eq_true h16]; done) | (simp (decide := true) only [nI_succ, faT_succ, decide_true, decide_false, cond_true, cond_false, Bool.false_eq_true, if_true, if_false, ite_true, ite_false, eq_true h16]; rfl)) ?_
        exact ih5
      · refine tg_steps 2 rfl ?_
        refine tg_callV rfl (c_fromHome_0 hm _) rfl rfl rfl rfl rfl (fun v21 w21 q21 => ?_)
        obtain ⟨rfl, rfl⟩ := q21
        refine tg_steps 2 rfl ?_
        refine tg_callV rfl (c_fromHome_0 hm _) rfl rfl rfl rfl rfl (fun v26 w26 q26 => ?_)
        obtain ⟨rfl, rfl⟩ := q26
        refine tg_icle rfl rfl (fun h29 => ?_) (fun h29 => ?_)
        · refine tg_steps 2 rfl ?_
          refine tg_pkV [0, 1, 2] ?_
          refine tg_eqS (L2 := [(0, .ref 1), (1, .int (faT h (i + 1))), (2, .int (nI (i + 1)))]) (st2 := []) (w2 := (tp_cs h p t x, r)) (by first | rfl | (simp (decide := true) only [nI_succ, faT_succ, decide_true, decide_false, cond_true, cond_false, Bool.false_eq_true, if_true, if_false, ite_true, ite_false, h16, h29, Int32.not_lt.mpr h29]; done) | (simp (decide := true) only [nI_succ, faT_succ, decide_true, decide_false, cond_true, cond_false, Bool.false_eq_true, if_true, if_false, ite_true, ite_false, h16, h29, Int32.not_lt.mpr h29]; rfl)) rfl (by first | rfl | (simp (decide := true) only [nI_succ, faT_succ, decide_true, decide_false, cond_true, cond_false, Bool.false_eq_true, if_true, if_false, ite_true, ite_false, h16, h29, Int32.not_lt.mpr h29]; done) | (simp (decide := true) only [nI_succ, faT_succ, decide_true, decide_false, cond_true, cond_false, Bool.false_eq_true, if_true, if_false, ite_true, ite_false, h16, h29, Int32.not_lt.mpr h29]; rfl)) ?_
          exact ih5
        · refine tg_steps 4 rfl ?_
          refine tg_pkV [0, 1, 2] ?_
          refine tg_eqS (L2 := [(0, .ref 1), (1, .int (faT h (i + 1))), (2, .int (nI (i + 1)))]) (st2 := []) (w2 := (tp_cs h p t x, r)) (by first | rfl | (simp (decide := true) only [nI_succ, faT_succ, decide_true, decide_false, cond_true, cond_false, Bool.false_eq_true, if_true, if_false, ite_true, ite_false, h16, h29, Int32.not_le.mp h29]; done) | (simp (decide := true) only [nI_succ, faT_succ, decide_true, decide_false, cond_true, cond_false, Bool.false_eq_true, if_true, if_false, ite_true, ite_false, h16, h29, Int32.not_le.mp h29]; rfl)) rfl (by first | rfl | (simp (decide := true) only [nI_succ, faT_succ, decide_true, decide_false, cond_true, cond_false, Bool.false_eq_true, if_true, if_false, ite_true, ite_false, h16, h29, Int32.not_le.mp h29]; done) | (simp (decide := true) only [nI_succ, faT_succ, decide_true, decide_false, cond_true, cond_false, Bool.false_eq_true, if_true, if_false, ite_true, ite_false, h16, h29, Int32.not_le.mp h29]; rfl)) ?_
          exact ih5
set_option maxRecDepth 100000 in
set_option maxHeartbeats 2000000 in
theorem c_aheadOf_0 {G : tg_G} {h p t : tp_H} {x : tp_X} {r : List tg_Cl} (hm : hM h ≤ 7) (k : Int32) : tg_C G 3 mX1_aheadOf 0 0 [.ref 1, .int k] (tp_cs h p t x, r) (fun v w => v = some (.int (ahO h k)) ∧ w = (tp_cs h p t x, r)) := by
  refine tg_intro okX1_aheadOf (Nat.le_of_ble_eq_true rfl) ?_
  refine tg_steps 2 rfl ?_
  refine tg_callV rfl (c_tileOf_0 hm k) rfl rfl rfl rfl rfl (fun v2 w2 q2 => ?_)
  obtain ⟨rfl, rfl⟩ := q2
  refine tg_steps 2 rfl ?_
  refine tg_call4 rfl (c_rowsAndColumns _ _) rfl rfl rfl  (fun v9 w9 q9 => ?_)
  obtain ⟨rfl, rfl⟩ := q9
  refine tg_steps 5 rfl ?_
  refine tg_pkV [0, 1, 2, 3, 4] ?_
  refine tg_eqS (L2 := [(0, .ref 1), (1, .int k), (2, .int (rcD (gO hT h k) (hS h))), (3, .int (cI (ahP h (rcD (gO hT h k) (hS h)) k) (0))), (4, .int (nI (0)))]) (st2 := []) (w2 := (tp_cs h p t x, r)) rfl rfl rfl ?_
  refine tg_down (φ := fun i : Nat => tg_V G 3 mX1_aheadOf 0 0 0 0 (fun v w => v = some (.int (ahO h k)) ∧ w = (tp_cs h p t x, r)) 18 [(0, .ref 1), (1, .int k), (2, .int (rcD (gO hT h k) (hS h))), (3, .int (cI (ahP h (rcD (gO hT h k) (hS h)) k) (i))), (4, .int (nI (i)))] [] (tp_cs h p t x, r)) (n := hM h) ?_ ?_ 0 (Nat.zero_le _) 
  · refine tg_steps 3 rfl ?_
    refine tg_icge rfl rfl (fun h24 => ?_) (fun h24 => ?_)
    · refine tg_steps 1 rfl ?_
      exact tg_iret (st := []) rfl rfl ⟨Nat.le_of_ble_eq_true rfl, Nat.le_of_ble_eq_true rfl⟩ ⟨rfl, rfl⟩
    · exact absurd (nI_le (Nat.le_refl _) (by omega)) h24
  · intro i hi18 ih18
    refine tg_steps 3 rfl ?_
    refine tg_icge rfl rfl (fun h24 => ?_) (fun h24 => ?_)
    · exact absurd h24 (nI_ge hi18 (by omega))
    · refine tg_steps 3 rfl ?_
      refine tg_ialdN rfl rfl (i) rfl (by omega) (by decide) ?_
      refine tg_steps 2 rfl ?_
      refine tg_call4 rfl (c_rowsAndColumns _ _) rfl rfl rfl  (fun v38 w38 q38 => ?_)
      obtain ⟨rfl, rfl⟩ := q38
      refine tg_steps 2 rfl ?_
      refine tg_ifle rfl rfl (fun h45 => ?_) (fun h45 => ?_)
      · refine tg_steps 2 rfl ?_
        refine tg_pkV [0, 1, 2, 3, 4] ?_
        refine tg_eqS (L2 := [(0, .ref 1), (1, .int k), (2, .int (rcD (gO hT h k) (hS h))), (3, .int (cI (ahP h (rcD (gO hT h k) (hS h)) k) (i + 1))), (4, .int (nI (i + 1)))]) (st2 := []) (w2 := (tp_cs h p t x, r)) (by first | rfl | (simp (decide := true) only [nI_succ, cI_succ, ahP, not_true, not_false_eq_true, decide_true, decide_false, cond_true, cond_false, Bool.false_eq_true, if_true, if_false, ite_true, ite_false, h45, Int32.not_lt.mpr h45]; done) | (simp (decide := true) only [nI_succ, cI_succ, ahP, not_true, not_false_eq_true, decide_true, decide_false, cond_true, cond_false, Bool.false_eq_true, if_true, if_false, ite_true, ite_false, h45, Int32.not_lt.mpr h45]; rfl)) rfl (by first | rfl | (simp (decide := true) only [nI_succ, cI_succ, ahP, not_true, not_false_eq_true, decide_true, decide_false, cond_true, cond_false, Bool.false_eq_true, if_true, if_false, ite_true, ite_false, h45, Int32.not_lt.mpr h45]; done) | (simp (decide := true) only [nI_succ, cI_succ, ahP, not_true, not_false_eq_true, decide_true, decide_false, cond_true, cond_false, Bool.false_eq_true, if_true, if_false, ite_true, ite_false, h45, Int32.not_lt.mpr h45]; rfl)) ?_
        exact ih18
      · refine tg_steps 2 rfl ?_
        refine tg_iclt rfl rfl (fun h51 => ?_) (fun h51 => ?_)
        · refine tg_steps 3 rfl ?_
          refine tg_pkV [0, 1, 2, 3, 4] ?_
          refine tg_eqS (L2 := [(0, .ref 1), (1, .int k), (2, .int (rcD (gO hT h k) (hS h))), (3, .int (cI (ahP h (rcD (gO hT h k) (hS h)) k) (i + 1))), (4, .int (nI (i + 1)))]) (st2 := []) (w2 := (tp_cs h p t x, r)) (by first | rfl | (simp (decide := true) only [nI_succ, cI_succ, ahP, not_true, not_false_eq_true, decide_true, decide_false, cond_true, cond_false, Bool.false_eq_true, if_true, if_false, ite_true, ite_false, h45, Int32.not_le.mp h45, h51, Int32.not_le.mpr h51]; done) | (simp (decide := true) only [nI_succ, cI_succ, ahP, not_true, not_false_eq_true, decide_true, decide_false, cond_true, cond_false, Bool.false_eq_true, if_true, if_false, ite_true, ite_false, h45, Int32.not_le.mp h45, h51, Int32.not_le.mpr h51]; rfl)) rfl (by first | rfl | (simp (decide := true) only [nI_succ, cI_succ, ahP, not_true, not_false_eq_true, decide_true, decide_false, cond_true, cond_false, Bool.false_eq_true, if_true, if_false, ite_true, ite_false, h45, Int32.not_le.mp h45, h51, Int32.not_le.mpr h51]; done) | (simp (decide := true) only [nI_succ, cI_succ, ahP, not_true, not_false_eq_true, decide_true, decide_false, cond_true, cond_false, Bool.false_eq_true, if_true, if_false, ite_true, ite_false, h45, Int32.not_le.mp h45, h51, Int32.not_le.mpr h51]; rfl)) ?_
          exact ih18
        · refine tg_steps 2 rfl ?_
          refine tg_icne rfl rfl (fun h57 => ?_) (fun h57 => ?_)
          · refine tg_steps 2 rfl ?_
            refine tg_pkV [0, 1, 2, 3, 4] ?_
            refine tg_eqS (L2 := [(0, .ref 1), (1, .int k), (2, .int (rcD (gO hT h k) (hS h))), (3, .int (cI (ahP h (rcD (gO hT h k) (hS h)) k) (i + 1))), (4, .int (nI (i + 1)))]) (st2 := []) (w2 := (tp_cs h p t x, r)) (by first | rfl | (simp (decide := true) only [nI_succ, cI_succ, ahP, not_true, not_false_eq_true, decide_true, decide_false, cond_true, cond_false, Bool.false_eq_true, if_true, if_false, ite_true, ite_false, h45, Int32.not_le.mp h45, h51, Int32.not_lt.mp h51, h57]; done) | (simp (decide := true) only [nI_succ, cI_succ, ahP, not_true, not_false_eq_true, decide_true, decide_false, cond_true, cond_false, Bool.false_eq_true, if_true, if_false, ite_true, ite_false, h45, Int32.not_le.mp h45, h51, Int32.not_lt.mp h51, h57]; rfl)) rfl (by first | rfl | (simp (decide := true) only [nI_succ, cI_succ, ahP, not_true, not_false_eq_true, decide_true, decide_false, cond_true, cond_false, Bool.false_eq_true, if_true, if_false, ite_true, ite_false, h45, Int32.not_le.mp h45, h51, Int32.not_lt.mp h51, h57]; done) | (simp (decide := true) only [nI_succ, cI_succ, ahP, not_true, not_false_eq_true, decide_true, decide_false, cond_true, cond_false, Bool.false_eq_true, if_true, if_false, ite_true, ite_false, h45, Int32.not_le.mp h45, h51, Int32.not_lt.mp h51, h57]; rfl)) ?_
            exact ih18
          · refine tg_steps 2 rfl ?_
            refine tg_icge rfl rfl (fun h63 => ?_) (fun h63 => ?_)
            · refine tg_steps 2 rfl ?_
              refine tg_pkV [0, 1, 2, 3, 4] ?_
              refine tg_eqS (L2 := [(0, .ref 1), (1, .int k), (2, .int (rcD (gO hT h k) (hS h))), (3, .int (cI (ahP h (rcD (gO hT h k) (hS h)) k) (i + 1))), (4, .int (nI (i + 1)))]) (st2 := []) (w2 := (tp_cs h p t x, r)) (by first | rfl | (simp (decide := true) only [nI_succ, cI_succ, ahP, not_true, not_false_eq_true, decide_true, decide_false, cond_true, cond_false, Bool.false_eq_true, if_true, if_false, ite_true, ite_false, h45, Int32.not_le.mp h45, h51, Int32.not_lt.mp h51, eq_true h57, h63, Int32.not_lt.mpr h63]; done) | (simp (decide := true) only [nI_succ, cI_succ, ahP, not_true, not_false_eq_true, decide_true, decide_false, cond_true, cond_false, Bool.false_eq_true, if_true, if_false, ite_true, ite_false, h45, Int32.not_le.mp h45, h51, Int32.not_lt.mp h51, eq_true h57, h63, Int32.not_lt.mpr h63]; rfl)) rfl (by first | rfl | (simp (decide := true) only [nI_succ, cI_succ, ahP, not_true, not_false_eq_true, decide_true, decide_false, cond_true, cond_false, Bool.false_eq_true, if_true, if_false, ite_true, ite_false, h45, Int32.not_le.mp h45, h51, Int32.not_lt.mp h51, eq_true h57, h63, Int32.not_lt.mpr h63]; done) | (simp (decide := true) only [nI_succ, cI_succ, ahP, not_true, not_false_eq_true, decide_true, decide_false, cond_true, cond_false, Bool.false_eq_true, if_true, if_false, ite_true, ite_false, h45, Int32.not_le.mp h45, h51, Int32.not_lt.mp h51, eq_true h57, h63, Int32.not_lt.mpr h63]; rfl)) ?_
              exact ih18
            · refine tg_steps 3 rfl ?_
              refine tg_pkV [0, 1, 2, 3, 4] ?_
              refine tg_eqS (L2 := [(0, .ref 1), (1, .int k), (2, .int (rcD (gO hT h k) (hS h))), (3, .int (cI (ahP h (rcD (gO hT h k) (hS h)) k) (i + 1))), (4, .int (nI (i + 1)))]) (st2 := []) (w2 := (tp_cs h p t x, r)) (by first | rfl | (simp (decide := true) only [nI_succ, cI_succ, ahP, not_true, not_false_eq_true, decide_true, decide_false, cond_true, cond_false, Bool.false_eq_true, if_true, if_false, ite_true, ite_false, h45, Int32.not_le.mp h45, h51, Int32.not_lt.mp h51, eq_true h57, h63, Int32.not_le.mp h63]; done) | (simp (decide := true) only [nI_succ, cI_succ, ahP, not_true, not_false_eq_true, decide_true, decide_false, cond_true, cond_false, Bool.false_eq_true, if_true, if_false, ite_true, ite_false, h45, Int32.not_le.mp h45, h51, Int32.not_lt.mp h51, eq_true h57, h63, Int32.not_le.mp h63]; rfl)) rfl (by first | rfl | (simp (decide := true) only [nI_succ, cI_succ, ahP, not_true, not_false_eq_true, decide_true, decide_false, cond_true, cond_false, Bool.false_eq_true, if_true, if_false, ite_true, ite_false, h45, Int32.not_le.mp h45, h51, Int32.not_lt.mp h51, eq_true h57, h63, Int32.not_le.mp h63]; done) | (simp (decide := true) only [nI_succ, cI_succ, ahP, not_true, not_false_eq_true, decide_true, decide_false, cond_true, cond_false, Bool.false_eq_true, if_true, if_false, ite_true, ite_false, h45, Int32.not_le.mp h45, h51, Int32.not_lt.mp h51, eq_true h57, h63, Int32.not_le.mp h63]; rfl)) ?_
              exact ih18
set_option maxRecDepth 100000 in
set_option maxHeartbeats 2000000 in
theorem c_comeIn_0 {G : tg_G} {h p t : tp_H} {x : tp_X} {r : List tg_Cl} (hm : hM h ≤ 7) (a b c : Int32) : tg_C G 3 mX1_comeIn 0 0 [.ref 1, .int a, .int b, .int c] (tp_cs h p t x, r) (fun u w => if hM h < 7 then u = some (.int (nI (hM h))) ∧ w = (tp_cs (comH h a b c) p t x, r) else u = some (.int (-9)) ∧ w = (tp_cs h p t x, r)) := by
  refine tg_intro okX1_comeIn (Nat.le_of_ble_eq_true rfl) ?_
  refine tg_steps 3 rfl ?_
  refine tg_iclt rfl rfl (fun h6 => ?_) (fun h6 => ?_)
  · have hlt : hM h < 7 := by
      rcases Nat.lt_or_ge (hM h) 7 with q | q
      · exact q
      · exact absurd h6 (nI_nlt (b := 7) q (by omega))
    simp only [if_pos hlt]
    refine tg_steps 13 rfl ?_
    refine tg_eqW (w2 := (tp_cs (sM h (hM h + 1)) p t x, r)) (by rw [show sM h (hM h + 1) = sM h (hM h + 1) from rfl]; simp only [← nI_succ]; rfl) ?_
    refine tg_callV rfl (c_become_0 (h := sM h (hM h + 1)) (by show hM h + 1 ≤ 7; omega) (nI (hM h)) a b) rfl rfl rfl rfl rfl (fun v33 w33 q33 => ?_)
    obtain ⟨rfl, rfl⟩ := q33
    refine tg_steps 4 rfl ?_
    refine tg_iastN rfl rfl (hM h) rfl (by omega) (by decide) ?_
    refine tg_steps 4 rfl ?_
    refine tg_iastN rfl rfl (hM h) rfl (by omega) (by decide) ?_
    refine tg_steps 4 rfl ?_
    refine tg_iastN rfl rfl (hM h) rfl (by omega) (by decide) ?_
    refine tg_steps 1 rfl ?_
    exact tg_iret (st := []) rfl rfl ⟨Nat.le_of_ble_eq_true rfl, Nat.le_of_ble_eq_true rfl⟩ ⟨rfl, by rw [show becH (sM h (hM h + 1)) (nI (hM h)) a b = sF (sK (sM h (hM h + 1)) (tg_u (hK h) (hM h) a)) (tg_u (hF h) (hM h) b) from (by unfold becH uP; rw [has_nI (h := sM h (hM h + 1)) (by show hM h + 1 ≤ 7; omega) (by show hM h < hM h + 1; omega), nI_clamp (by omega)]; rfl)]; rfl⟩
  · have hnl : ¬ hM h < 7 := fun q => h6 (nI_lt q (by decide))
    simp only [if_neg hnl]
    refine tg_steps 1 rfl ?_
    exact tg_iret (st := []) rfl rfl ⟨Nat.le_of_ble_eq_true rfl, Nat.le_of_ble_eq_true rfl⟩ ⟨rfl, rfl⟩
set_option maxRecDepth 100000 in
set_option maxHeartbeats 2000000 in
theorem c_wSa_2 {G : tg_G} {n p h : tp_H} {x : tp_X} {r : List tg_Cl} (b : Nat) (ti k : Int32) : tg_C G 1 mX7_wayFrom 0 0 [.ref b, .int ti, .int k, .ref 26] (tp_cs n p h x, r) (fun v w => v = some (.int (wSa (hS h) ti)) ∧ w = (tp_cs n p h x, r)) := by
  refine tg_intro okX7_wayFrom (Nat.le_of_ble_eq_true rfl) ?_
  refine tg_steps 12 rfl ?_
  refine tg_ifeq rfl rfl (fun h20 => ?_) (fun h20 => ?_)
  · refine tg_steps 2 rfl ?_
    refine tg_icne rfl rfl (fun h37 => ?_) (fun h37 => ?_)
    · refine tg_steps 2 rfl ?_
      refine tg_icle rfl rfl (fun h46 => ?_) (fun h46 => ?_)
      · refine tg_steps 1 rfl ?_
        exact tg_iret (st := []) rfl rfl ⟨Nat.le_of_ble_eq_true rfl, Nat.le_of_ble_eq_true rfl⟩ ⟨by first | rfl | (simp (decide := true) only [wSa, decide_true, decide_false, cond_true, cond_false, Bool.false_eq_true, if_true, if_false, ite_true, ite_false, eq_true h20, h37, h46, Int32.not_lt.mpr h46]; done) | (simp (decide := true) only [wSa, decide_true, decide_false, cond_true, cond_false, Bool.false_eq_true, if_true, if_false, ite_true, ite_false, h20, h37, h46, Int32.not_lt.mpr h46]; done), rfl⟩
      · refine tg_steps 2 rfl ?_
        exact tg_iret (st := []) rfl rfl ⟨Nat.le_of_ble_eq_true rfl, Nat.le_of_ble_eq_true rfl⟩ ⟨by first | rfl | (simp (decide := true) only [wSa, decide_true, decide_false, cond_true, cond_false, Bool.false_eq_true, if_true, if_false, ite_true, ite_false, eq_true h20, h37, h46, Int32.not_le.mp h46]; done) | (simp (decide := true) only [wSa, decide_true, decide_false, cond_true, cond_false, Bool.false_eq_true, if_true, if_false, ite_true, ite_false, h20, h37, h46, Int32.not_le.mp h46]; done), rfl⟩
    · refine tg_steps 1 rfl ?_
      exact tg_iret (st := []) rfl rfl ⟨Nat.le_of_ble_eq_true rfl, Nat.le_of_ble_eq_true rfl⟩ ⟨by first | rfl | (simp (decide := true) only [wSa, decide_true, decide_false, cond_true, cond_false, Bool.false_eq_true, if_true, if_false, ite_true, ite_false, eq_true h20, eq_true h37]; done) | (simp (decide := true) only [wSa, decide_true, decide_false, cond_true, cond_false, Bool.false_eq_true, if_true, if_false, ite_true, ite_false, h20, h37]; done), rfl⟩
  · refine tg_steps 1 rfl ?_
    refine tg_ifle rfl rfl (fun h25 => ?_) (fun h25 => ?_)
    · refine tg_steps 1 rfl ?_
      exact tg_iret (st := []) rfl rfl ⟨Nat.le_of_ble_eq_true rfl, Nat.le_of_ble_eq_true rfl⟩ ⟨by first | rfl | (simp (decide := true) only [wSa, decide_true, decide_false, cond_true, cond_false, Bool.false_eq_true, if_true, if_false, ite_true, ite_false, h20, h25, Int32.not_lt.mpr h25]; done) | (simp (decide := true) only [wSa, decide_true, decide_false, cond_true, cond_false, Bool.false_eq_true, if_true, if_false, ite_true, ite_false, h20, h25, Int32.not_lt.mpr h25]; done), rfl⟩
    · refine tg_steps 2 rfl ?_
      exact tg_iret (st := []) rfl rfl ⟨Nat.le_of_ble_eq_true rfl, Nat.le_of_ble_eq_true rfl⟩ ⟨by first | rfl | (simp (decide := true) only [wSa, decide_true, decide_false, cond_true, cond_false, Bool.false_eq_true, if_true, if_false, ite_true, ite_false, h20, h25, Int32.not_le.mp h25]; done) | (simp (decide := true) only [wSa, decide_true, decide_false, cond_true, cond_false, Bool.false_eq_true, if_true, if_false, ite_true, ite_false, h20, h25, Int32.not_le.mp h25]; done), rfl⟩
set_option maxRecDepth 100000 in
set_option maxHeartbeats 2000000 in
theorem c_wHo_2 {G : tg_G} {n p h : tp_H} {x : tp_X} {r : List tg_Cl} (ti k : Int32) : tg_C G 2 mX2_wayFrom 0 0 [.ref 33, .int ti, .int k, .ref 26] (tp_cs n p h x, r) (fun v w => v = some (.int (wHo ti)) ∧ w = (tp_cs n p h x, r)) := by
  refine tg_intro okX2_wayFrom (Nat.le_of_ble_eq_true rfl) ?_
  refine tg_steps 2 rfl ?_
  refine tg_icge rfl rfl (fun h3 => ?_) (fun h3 => ?_)
  · refine tg_steps 4 rfl ?_
    refine tg_call3 rfl (c_wSk 33 26 ti k) rfl rfl rfl rfl (by decide) (fun v14 w14 q14 => ?_)
    obtain ⟨rfl, rfl⟩ := q14
    exact tg_iret (st := []) rfl rfl ⟨Nat.le_of_ble_eq_true rfl, Nat.le_of_ble_eq_true rfl⟩ ⟨by first | rfl | (simp (decide := true) only [wHo, decide_true, decide_false, cond_true, cond_false, Bool.false_eq_true, if_true, if_false, ite_true, ite_false, h3, Int32.not_lt.mpr h3]; done) | (simp (decide := true) only [wHo, decide_true, decide_false, cond_true, cond_false, Bool.false_eq_true, if_true, if_false, ite_true, ite_false, h3, Int32.not_lt.mpr h3]; done), rfl⟩
  · refine tg_steps 2 rfl ?_
    exact tg_iret (st := []) rfl rfl ⟨Nat.le_of_ble_eq_true rfl, Nat.le_of_ble_eq_true rfl⟩ ⟨by first | rfl | (simp (decide := true) only [wHo, decide_true, decide_false, cond_true, cond_false, Bool.false_eq_true, if_true, if_false, ite_true, ite_false, h3, Int32.not_le.mp h3]; done) | (simp (decide := true) only [wHo, decide_true, decide_false, cond_true, cond_false, Bool.false_eq_true, if_true, if_false, ite_true, ite_false, h3, Int32.not_le.mp h3]; done), rfl⟩
set_option maxRecDepth 100000 in
set_option maxHeartbeats 2000000 in
theorem c_wFi_2 {G : tg_G} {n p h : tp_H} {x : tp_X} {r : List tg_Cl} (hm : hM h ≤ 7) (ti k : Int32) : tg_C G 3 mX0_wayFrom 0 0 [.ref 34, .int ti, .int k, .ref 26] (tp_cs n p h x, r) (fun v w => v = some (.int (wFi h ti k)) ∧ w = (tp_cs n p h x, r)) := by
  refine tg_intro okX0_wayFrom (Nat.le_of_ble_eq_true rfl) ?_
  refine tg_steps 2 rfl ?_
  refine tg_callV rfl (c_figureOf_2 hm k) rfl rfl rfl rfl rfl (fun v2 w2 q2 => ?_)
  obtain ⟨rfl, rfl⟩ := q2
  refine tg_steps 4 rfl ?_
  refine tg_ifle rfl rfl (fun h11 => ?_) (fun h11 => ?_)
  · refine tg_steps 3 rfl ?_
    refine tg_ifeq rfl rfl (fun h33 => ?_) (fun h33 => ?_)
    · refine tg_steps 1 rfl ?_
      exact tg_iret (st := []) rfl rfl ⟨Nat.le_of_ble_eq_true rfl, Nat.le_of_ble_eq_true rfl⟩ ⟨by first | rfl | (simp (decide := true) only [wFi, not_true, not_false_eq_true, Decidable.not_not, decide_true, decide_false, cond_true, cond_false, Bool.false_eq_true, if_true, if_false, ite_true, ite_false, h11, Int32.not_lt.mpr h11, eq_true h33]; done) | (simp (decide := true) only [wFi, not_true, not_false_eq_true, Decidable.not_not, decide_true, decide_false, cond_true, cond_false, Bool.false_eq_true, if_true, if_false, ite_true, ite_false, h11, Int32.not_lt.mpr h11, h33]; done) | exact absurd rfl h33 | exact absurd h33 (by decide), rfl⟩
    · refine tg_steps 4 rfl ?_
      refine tg_call3 rfl (c_wSk 34 26 ti k) rfl rfl rfl rfl (by decide) (fun v40 w40 q40 => ?_)
      obtain ⟨rfl, rfl⟩ := q40
      refine tg_steps 1 rfl ?_
      exact tg_iret (st := []) rfl rfl ⟨Nat.le_of_ble_eq_true rfl, Nat.le_of_ble_eq_true rfl⟩ ⟨by first | rfl | (simp (decide := true) only [wFi, not_true, not_false_eq_true, Decidable.not_not, decide_true, decide_false, cond_true, cond_false, Bool.false_eq_true, if_true, if_false, ite_true, ite_false, h11, Int32.not_lt.mpr h11, h33]; done) | (simp (decide := true) only [wFi, not_true, not_false_eq_true, Decidable.not_not, decide_true, decide_false, cond_true, cond_false, Bool.false_eq_true, if_true, if_false, ite_true, ite_false, h11, Int32.not_lt.mpr h11, h33]; done) | exact absurd rfl h33 | exact absurd h33 (by decide), rfl⟩
  · refine tg_steps 3 rfl ?_
    refine tg_irem rfl (fun e => h11 (by rw [e]; exact Int32.le_refl _)) ?_
    refine tg_ifne rfl rfl (fun h21 => ?_) (fun h21 => ?_)
    · refine tg_steps 3 rfl ?_
      refine tg_ifeq rfl rfl (fun h33 => ?_) (fun h33 => ?_)
      · refine tg_steps 1 rfl ?_
        exact tg_iret (st := []) rfl rfl ⟨Nat.le_of_ble_eq_true rfl, Nat.le_of_ble_eq_true rfl⟩ ⟨by first | rfl | (simp (decide := true) only [wFi, not_true, not_false_eq_true, Decidable.not_not, decide_true, decide_false, cond_true, cond_false, Bool.false_eq_true, if_true, if_false, ite_true, ite_false, h11, Int32.not_le.mp h11, h21, eq_true h33]; done) | (simp (decide := true) only [wFi, not_true, not_false_eq_true, Decidable.not_not, decide_true, decide_false, cond_true, cond_false, Bool.false_eq_true, if_true, if_false, ite_true, ite_false, h11, Int32.not_le.mp h11, h21, h33]; done) | exact absurd rfl h33 | exact absurd h33 (by decide), rfl⟩
      · refine tg_steps 4 rfl ?_
        refine tg_call3 rfl (c_wSk 34 26 ti k) rfl rfl rfl rfl (by decide) (fun v40 w40 q40 => ?_)
        obtain ⟨rfl, rfl⟩ := q40
        refine tg_steps 1 rfl ?_
        exact tg_iret (st := []) rfl rfl ⟨Nat.le_of_ble_eq_true rfl, Nat.le_of_ble_eq_true rfl⟩ ⟨by first | rfl | (simp (decide := true) only [wFi, not_true, not_false_eq_true, Decidable.not_not, decide_true, decide_false, cond_true, cond_false, Bool.false_eq_true, if_true, if_false, ite_true, ite_false, h11, Int32.not_le.mp h11, h21, h33]; done) | (simp (decide := true) only [wFi, not_true, not_false_eq_true, Decidable.not_not, decide_true, decide_false, cond_true, cond_false, Bool.false_eq_true, if_true, if_false, ite_true, ite_false, h11, Int32.not_le.mp h11, h21, h33]; done) | exact absurd rfl h33 | exact absurd h33 (by decide), rfl⟩
    · refine tg_steps 4 rfl ?_
      refine tg_ifeq rfl rfl (fun h33 => ?_) (fun h33 => ?_)
      · refine tg_steps 1 rfl ?_
        exact tg_iret (st := []) rfl rfl ⟨Nat.le_of_ble_eq_true rfl, Nat.le_of_ble_eq_true rfl⟩ ⟨by first | rfl | (simp (decide := true) only [wFi, not_true, not_false_eq_true, Decidable.not_not, decide_true, decide_false, cond_true, cond_false, Bool.false_eq_true, if_true, if_false, ite_true, ite_false, h11, Int32.not_le.mp h11, eq_true h21, eq_true h33]; done) | (simp (decide := true) only [wFi, not_true, not_false_eq_true, Decidable.not_not, decide_true, decide_false, cond_true, cond_false, Bool.false_eq_true, if_true, if_false, ite_true, ite_false, h11, Int32.not_le.mp h11, h21, h33]; done) | exact absurd rfl h33 | exact absurd h33 (by decide), rfl⟩
      · refine tg_steps 4 rfl ?_
        refine tg_call3 rfl (c_wSk 34 26 ti k) rfl rfl rfl rfl (by decide) (fun v40 w40 q40 => ?_)
        obtain ⟨rfl, rfl⟩ := q40
        refine tg_steps 1 rfl ?_
        exact tg_iret (st := []) rfl rfl ⟨Nat.le_of_ble_eq_true rfl, Nat.le_of_ble_eq_true rfl⟩ ⟨by first | rfl | (simp (decide := true) only [wFi, not_true, not_false_eq_true, Decidable.not_not, decide_true, decide_false, cond_true, cond_false, Bool.false_eq_true, if_true, if_false, ite_true, ite_false, h11, Int32.not_le.mp h11, eq_true h21, h33]; done) | (simp (decide := true) only [wFi, not_true, not_false_eq_true, Decidable.not_not, decide_true, decide_false, cond_true, cond_false, Bool.false_eq_true, if_true, if_false, ite_true, ite_false, h11, Int32.not_le.mp h11, h21, h33]; done) | exact absurd rfl h33 | exact absurd h33 (by decide), rfl⟩
set_option maxRecDepth 100000 in
set_option maxHeartbeats 2000000 in
theorem c_wWi_2 {G : tg_G} {n p h : tp_H} {x : tp_X} {r : List tg_Cl} (ti k : Int32) : tg_C G 2 mX9_wayFrom 0 0 [.ref 36, .int ti, .int k, .ref 26] (tp_cs n p h x, r) (fun v w => v = some (.int (wWi h ti (wSa (hS h) ti))) ∧ w = (tp_cs n p h x, r)) := by
  refine tg_intro okX9_wayFrom (Nat.le_of_ble_eq_true rfl) ?_
  refine tg_steps 4 rfl ?_
  refine tg_call3 rfl (c_wSa_2 36 ti k) rfl rfl rfl rfl (by decide) (fun v4 w4 q4 => ?_)
  obtain ⟨rfl, rfl⟩ := q4
  refine tg_steps 3 rfl ?_
  refine tg_iceq rfl rfl (fun h13 => ?_) (fun h13 => ?_)
  · refine tg_steps 1 rfl ?_
    exact tg_iret (st := []) rfl rfl ⟨Nat.le_of_ble_eq_true rfl, Nat.le_of_ble_eq_true rfl⟩ ⟨by first | rfl | (simp (decide := true) only [wWi, not_true, not_false_eq_true, Decidable.not_not, decide_true, decide_false, cond_true, cond_false, Bool.false_eq_true, if_true, if_false, ite_true, ite_false, eq_true h13]; done) | (simp (decide := true) only [wWi, not_true, not_false_eq_true, Decidable.not_not, decide_true, decide_false, cond_true, cond_false, Bool.false_eq_true, if_true, if_false, ite_true, ite_false, h13]; done), rfl⟩
  · refine tg_steps 4 rfl ?_
    refine tg_ifne rfl rfl (fun h22 => ?_) (fun h22 => ?_)
    · refine tg_steps 8 rfl ?_
      refine tg_call4 rfl (c_besideOf ti ((wSa (hS h) ti + 2) % 4)) rfl rfl rfl  (fun v39 w39 q39 => ?_)
      obtain ⟨rfl, rfl⟩ := q39
      refine tg_steps 1 rfl ?_
      refine tg_icne rfl rfl (fun h44 => ?_) (fun h44 => ?_)
      · refine tg_steps 1 rfl ?_
        exact tg_iret (st := []) rfl rfl ⟨Nat.le_of_ble_eq_true rfl, Nat.le_of_ble_eq_true rfl⟩ ⟨by first | rfl | (simp (decide := true) only [wWi, not_true, not_false_eq_true, Decidable.not_not, decide_true, decide_false, cond_true, cond_false, Bool.false_eq_true, if_true, if_false, ite_true, ite_false, h13, h22, h44]; done) | (simp (decide := true) only [wWi, not_true, not_false_eq_true, Decidable.not_not, decide_true, decide_false, cond_true, cond_false, Bool.false_eq_true, if_true, if_false, ite_true, ite_false, h13, h22, h44]; done), rfl⟩
      · refine tg_steps 2 rfl ?_
        exact tg_iret (st := []) rfl rfl ⟨Nat.le_of_ble_eq_true rfl, Nat.le_of_ble_eq_true rfl⟩ ⟨by first | rfl | (simp (decide := true) only [wWi, not_true, not_false_eq_true, Decidable.not_not, decide_true, decide_false, cond_true, cond_false, Bool.false_eq_true, if_true, if_false, ite_true, ite_false, h13, h22, eq_true h44]; done) | (simp (decide := true) only [wWi, not_true, not_false_eq_true, Decidable.not_not, decide_true, decide_false, cond_true, cond_false, Bool.false_eq_true, if_true, if_false, ite_true, ite_false, h13, h22, h44]; done), rfl⟩
    · refine tg_steps 1 rfl ?_
      exact tg_iret (st := []) rfl rfl ⟨Nat.le_of_ble_eq_true rfl, Nat.le_of_ble_eq_true rfl⟩ ⟨by first | rfl | (simp (decide := true) only [wWi, not_true, not_false_eq_true, Decidable.not_not, decide_true, decide_false, cond_true, cond_false, Bool.false_eq_true, if_true, if_false, ite_true, ite_false, h13, eq_true h22]; done) | (simp (decide := true) only [wWi, not_true, not_false_eq_true, Decidable.not_not, decide_true, decide_false, cond_true, cond_false, Bool.false_eq_true, if_true, if_false, ite_true, ite_false, h13, h22]; done), rfl⟩
set_option maxRecDepth 100000 in
set_option maxHeartbeats 2000000 in
theorem c_wNo_2 {G : tg_G} {n p h : tp_H} {x : tp_X} {r : List tg_Cl} (hm : hM h ≤ 7) (ti k : Int32) : tg_C G 2 mX5_wayFrom 0 0 [.ref 37, .int ti, .int k, .ref 26] (tp_cs n p h x, r) (fun v w => v = some (.int (wNo h ti k)) ∧ w = (tp_cs n p h x, r)) := by
  refine tg_intro okX5_wayFrom (Nat.le_of_ble_eq_true rfl) ?_
  refine tg_steps 2 rfl ?_
  refine tg_callV rfl (c_othersAboard_2 hm k) rfl rfl rfl rfl rfl (fun v2 w2 q2 => ?_)
  obtain ⟨rfl, rfl⟩ := q2
  refine tg_ifbeq rfl rfl (fun h5 => ?_) (fun h5 => ?_)
  · refine tg_steps 1 rfl ?_
    exact tg_iret (st := []) rfl rfl ⟨Nat.le_of_ble_eq_true rfl, Nat.le_of_ble_eq_true rfl⟩ ⟨by first | rfl | (simp (decide := true) only [wNo, decide_true, decide_false, cond_true, cond_false, Bool.false_eq_true, if_true, if_false, ite_true, ite_false, h5]; done) | (simp (decide := true) only [wNo, decide_true, decide_false, cond_true, cond_false, Bool.false_eq_true, if_true, if_false, ite_true, ite_false, h5]; done), rfl⟩
  · refine tg_steps 4 rfl ?_
    refine tg_call3 rfl (c_wSa_2 37 ti k) rfl rfl rfl rfl (by decide) (fun v12 w12 q12 => ?_)
    obtain ⟨rfl, rfl⟩ := q12
    refine tg_steps 1 rfl ?_
    exact tg_iret (st := []) rfl rfl ⟨Nat.le_of_ble_eq_true rfl, Nat.le_of_ble_eq_true rfl⟩ ⟨by first | rfl | (simp (decide := true) only [wNo, decide_true, decide_false, cond_true, cond_false, Bool.false_eq_true, if_true, if_false, ite_true, ite_false, h5]; done) | (simp (decide := true) only [wNo, decide_true, decide_false, cond_true, cond_false, Bool.false_eq_true, if_true, if_false, ite_true, ite_false, h5]; done), rfl⟩
set_option maxRecDepth 100000 in
set_option maxHeartbeats 2000000 in
theorem c_goerOf_2 {G : tg_G} {n p h : tp_H} {x : tp_X} {r : List tg_Cl} (k : Int32) : tg_C G 1 mX1_goerOf 0 0 [.ref 26, .int k] (tp_cs n p h x, r) (fun v w => v = some (.ref (goR 26 k)) ∧ w = (tp_cs n p h x, r)) := by
  refine tg_intro okX1_goerOf (Nat.le_of_ble_eq_true rfl) ?_
  refine tg_steps 1 rfl ?_
  refine tg_tsw rfl ?_
  refine And.intro (fun h1_0 => ?_) (fun h1_0 => ?_)
  · refine tg_steps 2 rfl ?_
    exact tg_aret (st := []) rfl rfl ⟨Nat.le_of_ble_eq_true rfl, Nat.le_of_ble_eq_true rfl⟩ ⟨by first | rfl | (simp (decide := true) only [goR, decide_true, decide_false, cond_true, cond_false, Bool.false_eq_true, if_true, if_false, ite_true, ite_false, eq_true h1_0]; done) | (simp (decide := true) only [goR, decide_true, decide_false, cond_true, cond_false, Bool.false_eq_true, if_true, if_false, ite_true, ite_false, h1_0]; done), rfl⟩
  refine And.intro (fun h1_1 => ?_) (fun h1_1 => ?_)
  · refine tg_steps 2 rfl ?_
    exact tg_aret (st := []) rfl rfl ⟨Nat.le_of_ble_eq_true rfl, Nat.le_of_ble_eq_true rfl⟩ ⟨by first | rfl | (simp (decide := true) only [goR, decide_true, decide_false, cond_true, cond_false, Bool.false_eq_true, if_true, if_false, ite_true, ite_false, h1_0, eq_true h1_1]; done) | (simp (decide := true) only [goR, decide_true, decide_false, cond_true, cond_false, Bool.false_eq_true, if_true, if_false, ite_true, ite_false, h1_0, h1_1]; done), rfl⟩
  refine And.intro (fun h1_2 => ?_) (fun h1_2 => ?_)
  · refine tg_steps 2 rfl ?_
    exact tg_aret (st := []) rfl rfl ⟨Nat.le_of_ble_eq_true rfl, Nat.le_of_ble_eq_true rfl⟩ ⟨by first | rfl | (simp (decide := true) only [goR, decide_true, decide_false, cond_true, cond_false, Bool.false_eq_true, if_true, if_false, ite_true, ite_false, h1_0, h1_1, eq_true h1_2]; done) | (simp (decide := true) only [goR, decide_true, decide_false, cond_true, cond_false, Bool.false_eq_true, if_true, if_false, ite_true, ite_false, h1_0, h1_1, h1_2]; done), rfl⟩
  refine And.intro (fun h1_3 => ?_) (fun h1_3 => ?_)
  · refine tg_steps 2 rfl ?_
    exact tg_aret (st := []) rfl rfl ⟨Nat.le_of_ble_eq_true rfl, Nat.le_of_ble_eq_true rfl⟩ ⟨by first | rfl | (simp (decide := true) only [goR, decide_true, decide_false, cond_true, cond_false, Bool.false_eq_true, if_true, if_false, ite_true, ite_false, h1_0, h1_1, h1_2, eq_true h1_3]; done) | (simp (decide := true) only [goR, decide_true, decide_false, cond_true, cond_false, Bool.false_eq_true, if_true, if_false, ite_true, ite_false, h1_0, h1_1, h1_2, h1_3]; done), rfl⟩
  refine And.intro (fun h1_4 => ?_) (fun h1_4 => ?_)
  · refine tg_steps 2 rfl ?_
    exact tg_aret (st := []) rfl rfl ⟨Nat.le_of_ble_eq_true rfl, Nat.le_of_ble_eq_true rfl⟩ ⟨by first | rfl | (simp (decide := true) only [goR, decide_true, decide_false, cond_true, cond_false, Bool.false_eq_true, if_true, if_false, ite_true, ite_false, h1_0, h1_1, h1_2, h1_3, eq_true h1_4]; done) | (simp (decide := true) only [goR, decide_true, decide_false, cond_true, cond_false, Bool.false_eq_true, if_true, if_false, ite_true, ite_false, h1_0, h1_1, h1_2, h1_3, h1_4]; done), rfl⟩
  refine tg_steps 2 rfl ?_
  exact tg_aret (st := []) rfl rfl ⟨Nat.le_of_ble_eq_true rfl, Nat.le_of_ble_eq_true rfl⟩ ⟨by first | rfl | (simp (decide := true) only [goR, decide_true, decide_false, cond_true, cond_false, Bool.false_eq_true, if_true, if_false, ite_true, ite_false, h1_0, h1_1, h1_2, h1_3, h1_4]; done) | (simp (decide := true) only [goR, decide_true, decide_false, cond_true, cond_false, Bool.false_eq_true, if_true, if_false, ite_true, ite_false, h1_0, h1_1, h1_2, h1_3, h1_4]; done), rfl⟩
set_option maxRecDepth 100000 in
set_option maxHeartbeats 2000000 in
theorem v_way_passNight_2 {G : tg_G} {lv : Nat} {n p h : tp_H} {x : tp_X} {r : List tg_Cl} (hm : hM h ≤ 7) {L : List (Nat × Value)} {rest : List Value} {Q : Option Value → tg_W → Prop} (hlv : lv = 4) (hrest : rest = [] ∨ ∃ z : Int32, rest = [.int z]) (kd ti k : Int32) (kk : tg_V G lv mX1_passNight 0 0 0 0 Q 79 L (.int (way h kd ti k) :: rest) (tp_cs n p h x, r)) : tg_V G lv mX1_passNight 0 0 0 0 Q 76 L (.ref 26 :: .int k :: .int ti :: .ref (goR 26 kd) :: rest) (tp_cs n p h x, r) := by
  subst hlv
  unfold goR
  unfold way at kk
  by_cases hk1 : kd = 1
  · rw [if_pos hk1] at kk ⊢
    refine tg_call5 (m' := mX2_wayFrom) (m0 := mX8_wayFrom) (g := [2, 89, 2, 87, 2, 98, 2, 99, 1, 4]) rfl (c_wHo_2 ti k) rfl (by rcases hrest with rfl | ⟨z, rfl⟩ <;> rfl) rfl rfl okX8_wayFrom rfl (by decide +kernel) (fun v w q => ?_)
    obtain ⟨rfl, rfl⟩ := q
    exact kk
  · rw [if_neg hk1] at kk ⊢
    by_cases hk2 : kd = 2
    · rw [if_pos hk2] at kk ⊢
      refine tg_call5 (m' := mX0_wayFrom) (m0 := mX8_wayFrom) (g := [2, 89, 2, 87, 2, 90, 2, 91, 1, 5]) rfl (c_wFi_2 hm ti k) rfl (by rcases hrest with rfl | ⟨z, rfl⟩ <;> rfl) rfl rfl okX8_wayFrom rfl (by decide +kernel) (fun v w q => ?_)
      obtain ⟨rfl, rfl⟩ := q
      exact kk
    · rw [if_neg hk2] at kk ⊢
      by_cases hk3 : kd = 3
      · rw [if_pos hk3] at kk ⊢
        refine tg_call5 (m' := mX7_wayFrom) (m0 := mX8_wayFrom) (g := [2, 89, 2, 87, 2, 112, 2, 110, 1, 6]) rfl (c_wSa_2 35 ti k) rfl (by rcases hrest with rfl | ⟨z, rfl⟩ <;> rfl) rfl rfl okX8_wayFrom rfl (by decide +kernel) (fun v w q => ?_)
        obtain ⟨rfl, rfl⟩ := q
        exact kk
      · rw [if_neg hk3] at kk ⊢
        by_cases hk4 : kd = 4
        · rw [if_pos hk4] at kk ⊢
          refine tg_call5 (m' := mX9_wayFrom) (m0 := mX8_wayFrom) (g := [2, 89, 2, 87, 2, 113, 2, 114, 1, 7]) rfl (c_wWi_2 ti k) rfl (by rcases hrest with rfl | ⟨z, rfl⟩ <;> rfl) rfl rfl okX8_wayFrom rfl (by decide +kernel) (fun v w q => ?_)
          obtain ⟨rfl, rfl⟩ := q
          exact kk
        · rw [if_neg hk4] at kk ⊢
          by_cases hk5 : kd = 5
          · rw [if_pos hk5] at kk ⊢
            refine tg_call5 (m' := mX5_wayFrom) (m0 := mX8_wayFrom) (g := [2, 89, 2, 87, 2, 102, 2, 103, 1, 8]) rfl (c_wNo_2 hm ti k) rfl (by rcases hrest with rfl | ⟨z, rfl⟩ <;> rfl) rfl rfl okX8_wayFrom rfl (by decide +kernel) (fun v w q => ?_)
            obtain ⟨rfl, rfl⟩ := q
            exact kk
          · rw [if_neg hk5] at kk ⊢
            refine tg_call5 (m' := mX8_wayFrom) (m0 := mX8_wayFrom) (g := [2, 89, 2, 87, 2, 88, 2, 87, 1, 3]) rfl (c_wSk 32 26 ti k) rfl (by rcases hrest with rfl | ⟨z, rfl⟩ <;> rfl) rfl rfl okX8_wayFrom rfl (by decide +kernel) (fun v w q => ?_)
            obtain ⟨rfl, rfl⟩ := q
            exact kk
set_option maxRecDepth 100000 in
set_option maxHeartbeats 2000000 in
theorem v_way_wayOf_2 {G : tg_G} {lv : Nat} {n p h : tp_H} {x : tp_X} {r : List tg_Cl} (hm : hM h ≤ 7) {L : List (Nat × Value)} {rest : List Value} {Q : Option Value → tg_W → Prop} (hlv : lv = 4) (hrest : rest = [] ∨ ∃ z : Int32, rest = [.int z]) (kd ti k : Int32) (kk : tg_V G lv mX1_wayOf 0 0 0 0 Q 29 L (.int (way h kd ti k) :: rest) (tp_cs n p h x, r)) : tg_V G lv mX1_wayOf 0 0 0 0 Q 26 L (.ref 26 :: .int k :: .int ti :: .ref (goR 26 kd) :: rest) (tp_cs n p h x, r) := by
  subst hlv
  unfold goR
  unfold way at kk
  by_cases hk1 : kd = 1
  · rw [if_pos hk1] at kk ⊢
    refine tg_call5 (m' := mX2_wayFrom) (m0 := mX8_wayFrom) (g := [2, 89, 2, 87, 2, 98, 2, 99, 1, 4]) rfl (c_wHo_2 ti k) rfl (by rcases hrest with rfl | ⟨z, rfl⟩ <;> rfl) rfl rfl okX8_wayFrom rfl (by decide +kernel) (fun v w q => ?_)
    obtain ⟨rfl, rfl⟩ := q
    exact kk
  · rw [if_neg hk1] at kk ⊢
    by_cases hk2 : kd = 2
    · rw [if_pos hk2] at kk ⊢
      refine tg_call5 (m' := mX0_wayFrom) (m0 := mX8_wayFrom) (g := [2, 89, 2, 87, 2, 90, 2, 91, 1, 5]) rfl (c_wFi_2 hm ti k) rfl (by rcases hrest with rfl | ⟨z, rfl⟩ <;> rfl) rfl rfl okX8_wayFrom rfl (by decide +kernel) (fun v w q => ?_)
      obtain ⟨rfl, rfl⟩ := q
      exact kk
    · rw [if_neg hk2] at kk ⊢
      by_cases hk3 : kd = 3
      · rw [if_pos hk3] at kk ⊢
        refine tg_call5 (m' := mX7_wayFrom) (m0 := mX8_wayFrom) (g := [2, 89, 2, 87, 2, 112, 2, 110, 1, 6]) rfl (c_wSa_2 35 ti k) rfl (by rcases hrest with rfl | ⟨z, rfl⟩ <;> rfl) rfl rfl okX8_wayFrom rfl (by decide +kernel) (fun v w q => ?_)
        obtain ⟨rfl, rfl⟩ := q
        exact kk
      · rw [if_neg hk3] at kk ⊢
        by_cases hk4 : kd = 4
        · rw [if_pos hk4] at kk ⊢
          refine tg_call5 (m' := mX9_wayFrom) (m0 := mX8_wayFrom) (g := [2, 89, 2, 87, 2, 113, 2, 114, 1, 7]) rfl (c_wWi_2 ti k) rfl (by rcases hrest with rfl | ⟨z, rfl⟩ <;> rfl) rfl rfl okX8_wayFrom rfl (by decide +kernel) (fun v w q => ?_)
          obtain ⟨rfl, rfl⟩ := q
          exact kk
        · rw [if_neg hk4] at kk ⊢
          by_cases hk5 : kd = 5
          · rw [if_pos hk5] at kk ⊢
            refine tg_call5 (m' := mX5_wayFrom) (m0 := mX8_wayFrom) (g := [2, 89, 2, 87, 2, 102, 2, 103, 1, 8]) rfl (c_wNo_2 hm ti k) rfl (by rcases hrest with rfl | ⟨z, rfl⟩ <;> rfl) rfl rfl okX8_wayFrom rfl (by decide +kernel) (fun v w q => ?_)
            obtain ⟨rfl, rfl⟩ := q
            exact kk
          · rw [if_neg hk5] at kk ⊢
            refine tg_call5 (m' := mX8_wayFrom) (m0 := mX8_wayFrom) (g := [2, 89, 2, 87, 2, 88, 2, 87, 1, 3]) rfl (c_wSk 32 26 ti k) rfl (by rcases hrest with rfl | ⟨z, rfl⟩ <;> rfl) rfl rfl okX8_wayFrom rfl (by decide +kernel) (fun v w q => ?_)
            obtain ⟨rfl, rfl⟩ := q
            exact kk
set_option maxRecDepth 100000 in
set_option maxHeartbeats 2000000 in
theorem c_mayGo_2 {G : tg_G} {n p h : tp_H} {x : tp_X} {r : List tg_Cl} (hm : hM h ≤ 7) (a b : Int32) : tg_C G 2 mX1_mayGo 0 0 [.ref 26, .int a, .int b] (tp_cs n p h x, r) (fun v w => v = some (.int (tg_b (mGo h a b))) ∧ w = (tp_cs n p h x, r)) := by
  refine tg_intro okX1_mayGo (Nat.le_of_ble_eq_true rfl) ?_
  refine tg_steps 2 rfl ?_
  refine tg_callV rfl (c_isCracked_2 a) rfl rfl rfl rfl rfl (fun v2 w2 q2 => ?_)
  obtain ⟨rfl, rfl⟩ := q2
  refine tg_ifbne rfl rfl (fun h5 => ?_) (fun h5 => ?_)
  · refine tg_steps 1 rfl ?_
    exact tg_zret (st := []) rfl rfl ⟨Nat.le_of_ble_eq_true rfl, Nat.le_of_ble_eq_true rfl⟩ (by first | exact Or.inl rfl | exact Or.inr rfl | exact tg_b1 _) ⟨by first | rfl | (simp (decide := true) only [mGo, tg_b, decide_true, decide_false, cond_true, cond_false, Bool.false_eq_true, if_true, if_false, ite_true, ite_false, h5]; done) | (simp (decide := true) only [mGo, tg_b, decide_true, decide_false, cond_true, cond_false, Bool.false_eq_true, if_true, if_false, ite_true, ite_false, h5]; done), rfl⟩
  · refine tg_steps 2 rfl ?_
    refine tg_callV rfl (c_isCracked_2 b) rfl rfl rfl rfl rfl (fun v10 w10 q10 => ?_)
    obtain ⟨rfl, rfl⟩ := q10
    refine tg_ifbne rfl rfl (fun h13 => ?_) (fun h13 => ?_)
    · refine tg_steps 1 rfl ?_
      exact tg_zret (st := []) rfl rfl ⟨Nat.le_of_ble_eq_true rfl, Nat.le_of_ble_eq_true rfl⟩ (by first | exact Or.inl rfl | exact Or.inr rfl | exact tg_b1 _) ⟨by first | rfl | (simp (decide := true) only [mGo, tg_b, decide_true, decide_false, cond_true, cond_false, Bool.false_eq_true, if_true, if_false, ite_true, ite_false, h5, h13]; done) | (simp (decide := true) only [mGo, tg_b, decide_true, decide_false, cond_true, cond_false, Bool.false_eq_true, if_true, if_false, ite_true, ite_false, h5, h13]; done), rfl⟩
    · refine tg_steps 2 rfl ?_
      refine tg_callV rfl (c_manyAt_2 hm b) rfl rfl rfl rfl rfl (fun v18 w18 q18 => ?_)
      obtain ⟨rfl, rfl⟩ := q18
      refine tg_steps 1 rfl ?_
      refine tg_icge rfl rfl (fun h22 => ?_) (fun h22 => ?_)
      · refine tg_steps 1 rfl ?_
        exact tg_zret (st := []) rfl rfl ⟨Nat.le_of_ble_eq_true rfl, Nat.le_of_ble_eq_true rfl⟩ (by first | exact Or.inl rfl | exact Or.inr rfl | exact tg_b1 _) ⟨by first | rfl | (simp (decide := true) only [mGo, tg_b, decide_true, decide_false, cond_true, cond_false, Bool.false_eq_true, if_true, if_false, ite_true, ite_false, h5, h13, h22, Int32.not_lt.mpr h22]; done) | (simp (decide := true) only [mGo, tg_b, decide_true, decide_false, cond_true, cond_false, Bool.false_eq_true, if_true, if_false, ite_true, ite_false, h5, h13, h22, Int32.not_lt.mpr h22]; done), rfl⟩
      · refine tg_steps 2 rfl ?_
        exact tg_zret (st := []) rfl rfl ⟨Nat.le_of_ble_eq_true rfl, Nat.le_of_ble_eq_true rfl⟩ (by first | exact Or.inl rfl | exact Or.inr rfl | exact tg_b1 _) ⟨by first | rfl | (simp (decide := true) only [mGo, tg_b, decide_true, decide_false, cond_true, cond_false, Bool.false_eq_true, if_true, if_false, ite_true, ite_false, h5, h13, h22, Int32.not_le.mp h22]; done) | (simp (decide := true) only [mGo, tg_b, decide_true, decide_false, cond_true, cond_false, Bool.false_eq_true, if_true, if_false, ite_true, ite_false, h5, h13, h22, Int32.not_le.mp h22]; done), rfl⟩
set_option maxRecDepth 100000 in
set_option maxHeartbeats 2000000 in
theorem c_passNight_2 {G : tg_G} {n p h : tp_H} {x : tp_X} {r : List tg_Cl} (hm : hM h ≤ 7) : tg_C G 4 mX1_passNight 0 0 [.ref 26] (tp_cs n p h x, r) (fun v w => v = some (.int (tg_b (pGn h))) ∧ w = (tp_cs n p (pNt h) x, r)) := by
  refine tg_intro okX1_passNight (Nat.le_of_ble_eq_true rfl) ?_
  refine tg_steps 8 rfl ?_
  refine tg_eqW (w2 := (tp_cs n p (sN h (hN h + 1)) x, r)) rfl ?_
  refine tg_steps 2 rfl ?_
  refine tg_pkV [0, 1, 2] ?_
  refine tg_eqS (L2 := [(0, .ref 26), (1, .int (tg_b (nGt (sN h (hN h + 1)) (0)))), (2, .int (nI (0)))]) (st2 := []) (w2 := (tp_cs n p (nTo (sN h (hN h + 1)) (0)) x, r)) rfl rfl rfl ?_
  refine tg_down (φ := fun i : Nat => tg_V G 4 mX1_passNight 0 0 0 0 (fun v w => v = some (.int (tg_b (pGn h))) ∧ w = (tp_cs n p (pNt h) x, r)) 14 [(0, .ref 26), (1, .int (tg_b (nGt (sN h (hN h + 1)) (i)))), (2, .int (nI (i)))] [] (tp_cs n p (nTo (sN h (hN h + 1)) (i)) x, r)) (n := hM h) ?_ ?_ 0 (Nat.zero_le _) 
  · refine tg_steps 3 rfl ?_
    refine tg_icge rfl rfl (fun h19 => ?_) (fun h19 => ?_)
    · refine tg_steps 1 rfl ?_
      exact tg_zret (st := []) rfl rfl ⟨Nat.le_of_ble_eq_true rfl, Nat.le_of_ble_eq_true rfl⟩ (by first | exact Or.inl rfl | exact Or.inr rfl | exact tg_b1 _) ⟨rfl, rfl⟩
    · exact absurd (by rw [nTo_M]; exact nI_le (Nat.le_refl _) (by show hM h < _; omega)) h19
  · intro i hi14 ih14
    have hm2 : hM (nTo (sN h (hN h + 1)) i) ≤ 7 := by rw [nTo_M]; exact hm
    refine tg_steps 3 rfl ?_
    refine tg_icge rfl rfl (fun h19 => ?_) (fun h19 => ?_)
    · exact absurd h19 (by rw [nTo_M]; exact nI_ge hi14 (by show hM h < _; omega))
    · refine tg_steps 3 rfl ?_
      refine tg_ialdN rfl rfl (i) rfl (by omega) (by decide) ?_
      refine tg_steps 4 rfl ?_
      refine tg_icne rfl rfl (fun h34 => ?_) (fun h34 => ?_)
      · refine tg_steps 3 rfl ?_
        refine tg_ialdN rfl rfl (i) rfl (by omega) (by decide) ?_
        refine tg_ifle rfl rfl (fun h46 => ?_) (fun h46 => ?_)
        · refine tg_steps 5 rfl ?_
          refine tg_ialdN rfl rfl (i) rfl (by omega) (by decide) ?_
          refine tg_callV rfl (c_goerOf_2 _) rfl rfl rfl rfl rfl (fun v70 w70 q70 => ?_)
          obtain ⟨rfl, rfl⟩ := q70
          refine tg_steps 3 rfl ?_
          refine v_way_passNight_2 hm2 rfl (by first | exact Or.inl rfl | exact Or.inr ⟨_, rfl⟩) _ _ _ ?_
          refine tg_call4 rfl (c_besideOf _ _) rfl rfl rfl  (fun v79 w79 q79 => ?_)
          obtain ⟨rfl, rfl⟩ := q79
          refine tg_steps 3 rfl ?_
          refine tg_iceq rfl rfl (fun h88 => ?_) (fun h88 => ?_)
          · refine tg_steps 2 rfl ?_
            refine tg_pkV [0, 1, 2] ?_
            refine tg_eqS (L2 := [(0, .ref 26), (1, .int (tg_b (nGt (sN h (hN h + 1)) (i + 1)))), (2, .int (nI (i + 1)))]) (st2 := []) (w2 := (tp_cs n p (nTo (sN h (hN h + 1)) (i + 1)) x, r)) (by first | rfl | (simp (decide := true) only [nI_succ, nTo_succ, nOne, nGt_succ, nGn, nGo, decide_true, decide_false, cond_true, cond_false, Bool.false_eq_true, if_true, if_false, ite_true, ite_false, h34, h46, Int32.not_lt.mpr h46, eq_true h88]; done) | (simp (decide := true) only [nI_succ, nTo_succ, nOne, nGt_succ, nGn, nGo, decide_true, decide_false, cond_true, cond_false, Bool.false_eq_true, if_true, if_false, ite_true, ite_false, h34, h46, Int32.not_lt.mpr h46, eq_true h88]; rfl)) rfl (by first | rfl | (simp (decide := true) only [nI_succ, nTo_succ, nOne, nGt_succ, nGn, nGo, decide_true, decide_false, cond_true, cond_false, Bool.false_eq_true, if_true, if_false, ite_true, ite_false, h34, h46, Int32.not_lt.mpr h46, eq_true h88]; done) | (simp (decide := true) only [nI_succ, nTo_succ, nOne, nGt_succ, nGn, nGo, decide_true, decide_false, cond_true, cond_false, Bool.false_eq_true, if_true, if_false, ite_true, ite_false, h34, h46, Int32.not_lt.mpr h46, eq_true h88]; rfl)) ?_
            exact ih14
          · refine tg_steps 3 rfl ?_
            refine tg_callV rfl (c_mayGo_2 hm2 _ _) rfl rfl rfl rfl rfl (fun v95 w95 q95 => ?_)
            obtain ⟨rfl, rfl⟩ := q95
            refine tg_ifbeq rfl rfl (fun h98 => ?_) (fun h98 => ?_)
            · refine tg_steps 2 rfl ?_
              refine tg_pkV [0, 1, 2] ?_
              refine tg_eqS (L2 := [(0, .ref 26), (1, .int (tg_b (nGt (sN h (hN h + 1)) (i + 1)))), (2, .int (nI (i + 1)))]) (st2 := []) (w2 := (tp_cs n p (nTo (sN h (hN h + 1)) (i + 1)) x, r)) (by first | rfl | (simp (decide := true) only [nI_succ, nTo_succ, nOne, nGt_succ, nGn, nGo, decide_true, decide_false, cond_true, cond_false, Bool.false_eq_true, if_true, if_false, ite_true, ite_false, h34, h46, Int32.not_lt.mpr h46, h88, h98]; done) | (simp (decide := true) only [nI_succ, nTo_succ, nOne, nGt_succ, nGn, nGo, decide_true, decide_false, cond_true, cond_false, Bool.false_eq_true, if_true, if_false, ite_true, ite_false, h34, h46, Int32.not_lt.mpr h46, h88, h98]; rfl)) rfl (by first | rfl | (simp (decide := true) only [nI_succ, nTo_succ, nOne, nGt_succ, nGn, nGo, decide_true, decide_false, cond_true, cond_false, Bool.false_eq_true, if_true, if_false, ite_true, ite_false, h34, h46, Int32.not_lt.mpr h46, h88, h98]; done) | (simp (decide := true) only [nI_succ, nTo_succ, nOne, nGt_succ, nGn, nGo, decide_true, decide_false, cond_true, cond_false, Bool.false_eq_true, if_true, if_false, ite_true, ite_false, h34, h46, Int32.not_lt.mpr h46, h88, h98]; rfl)) ?_
              exact ih14
            · refine tg_steps 4 rfl ?_
              refine tg_iastN rfl rfl (i) rfl (by omega) (by decide) ?_
              refine tg_steps 4 rfl ?_
              refine tg_pkV [0, 1, 2] ?_
              refine tg_eqS (L2 := [(0, .ref 26), (1, .int (tg_b (nGt (sN h (hN h + 1)) (i + 1)))), (2, .int (nI (i + 1)))]) (st2 := []) (w2 := (tp_cs n p (nTo (sN h (hN h + 1)) (i + 1)) x, r)) (by first | rfl | (simp (decide := true) only [nI_succ, nTo_succ, nOne, nGt_succ, nGn, nGo, decide_true, decide_false, cond_true, cond_false, Bool.false_eq_true, if_true, if_false, ite_true, ite_false, h34, h46, Int32.not_lt.mpr h46, h88, h98]; done) | (simp (decide := true) only [nI_succ, nTo_succ, nOne, nGt_succ, nGn, nGo, decide_true, decide_false, cond_true, cond_false, Bool.false_eq_true, if_true, if_false, ite_true, ite_false, h34, h46, Int32.not_lt.mpr h46, h88, h98]; rfl)) rfl (by first | rfl | (simp (decide := true) only [nI_succ, nTo_succ, nOne, nGt_succ, nGn, nGo, decide_true, decide_false, cond_true, cond_false, Bool.false_eq_true, if_true, if_false, ite_true, ite_false, h34, h46, Int32.not_lt.mpr h46, h88, h98]; done) | (simp (decide := true) only [nI_succ, nTo_succ, nOne, nGt_succ, nGn, nGo, decide_true, decide_false, cond_true, cond_false, Bool.false_eq_true, if_true, if_false, ite_true, ite_false, h34, h46, Int32.not_lt.mpr h46, h88, h98]; rfl)) ?_
              exact ih14
        · refine tg_steps 4 rfl ?_
          refine tg_ialdN rfl rfl (i) rfl (by omega) (by decide) ?_
          refine tg_steps 2 rfl ?_
          refine tg_iastN rfl rfl (i) rfl (by omega) (by decide) ?_
          refine tg_steps 3 rfl ?_
          refine tg_pkV [0, 1, 2] ?_
          refine tg_eqS (L2 := [(0, .ref 26), (1, .int (tg_b (nGt (sN h (hN h + 1)) (i + 1)))), (2, .int (nI (i + 1)))]) (st2 := []) (w2 := (tp_cs n p (nTo (sN h (hN h + 1)) (i + 1)) x, r)) (by first | rfl | (simp (decide := true) only [nI_succ, nTo_succ, nOne, nGt_succ, nGn, nGo, decide_true, decide_false, cond_true, cond_false, Bool.false_eq_true, if_true, if_false, ite_true, ite_false, h34, h46, Int32.not_le.mp h46]; done) | (simp (decide := true) only [nI_succ, nTo_succ, nOne, nGt_succ, nGn, nGo, decide_true, decide_false, cond_true, cond_false, Bool.false_eq_true, if_true, if_false, ite_true, ite_false, h34, h46, Int32.not_le.mp h46]; rfl)) rfl (by first | rfl | (simp (decide := true) only [nI_succ, nTo_succ, nOne, nGt_succ, nGn, nGo, decide_true, decide_false, cond_true, cond_false, Bool.false_eq_true, if_true, if_false, ite_true, ite_false, h34, h46, Int32.not_le.mp h46]; done) | (simp (decide := true) only [nI_succ, nTo_succ, nOne, nGt_succ, nGn, nGo, decide_true, decide_false, cond_true, cond_false, Bool.false_eq_true, if_true, if_false, ite_true, ite_false, h34, h46, Int32.not_le.mp h46]; rfl)) ?_
          exact ih14
      · refine tg_steps 3 rfl ?_
        refine tg_pkV [0, 1, 2] ?_
        refine tg_eqS (L2 := [(0, .ref 26), (1, .int (tg_b (nGt (sN h (hN h + 1)) (i + 1)))), (2, .int (nI (i + 1)))]) (st2 := []) (w2 := (tp_cs n p (nTo (sN h (hN h + 1)) (i + 1)) x, r)) (by first | rfl | (simp (decide := true) only [nI_succ, nTo_succ, nOne, nGt_succ, nGn, nGo, decide_true, decide_false, cond_true, cond_false, Bool.false_eq_true, if_true, if_false, ite_true, ite_false, eq_true h34]; done) | (simp (decide := true) only [nI_succ, nTo_succ, nOne, nGt_succ, nGn, nGo, decide_true, decide_false, cond_true, cond_false, Bool.false_eq_true, if_true, if_false, ite_true, ite_false, eq_true h34]; rfl)) rfl (by first | rfl | (simp (decide := true) only [nI_succ, nTo_succ, nOne, nGt_succ, nGn, nGo, decide_true, decide_false, cond_true, cond_false, Bool.false_eq_true, if_true, if_false, ite_true, ite_false, eq_true h34]; done) | (simp (decide := true) only [nI_succ, nTo_succ, nOne, nGt_succ, nGn, nGo, decide_true, decide_false, cond_true, cond_false, Bool.false_eq_true, if_true, if_false, ite_true, ite_false, eq_true h34]; rfl)) ?_
        exact ih14
set_option maxRecDepth 100000 in
set_option maxHeartbeats 2000000 in
theorem c_passNights_2 {G : tg_G} {n p h : tp_H} {x : tp_X} {r : List tg_Cl} (hm : hM h ≤ 7) (k : Nat) (hk : k < 2 ^ 31) : tg_C G 5 mX1_passNights 0 0 [.ref 26, .int (nI k)] (tp_cs n p h x, r) (fun v w => v = none ∧ w = (tp_cs n p (pNs k h) x, r)) := by
  refine tg_intro okX1_passNights (Nat.le_of_ble_eq_true rfl) ?_
  refine tg_steps 2 rfl ?_
  refine tg_pkV [0, 1, 2] ?_
  refine tg_eqS (L2 := [(0, .ref 26), (1, .int (nI k)), (2, .int (nI (0)))]) (st2 := []) (w2 := (tp_cs n p (pNs (0) h) x, r)) rfl rfl rfl ?_
  refine tg_down (φ := fun i : Nat => tg_V G 5 mX1_passNights 0 0 0 0 (fun v w => v = none ∧ w = (tp_cs n p (pNs k h) x, r)) 2 [(0, .ref 26), (1, .int (nI k)), (2, .int (nI (i)))] [] (tp_cs n p (pNs (i) h) x, r)) (n := k) ?_ ?_ 0 (Nat.zero_le _) 
  · refine tg_steps 2 rfl ?_
    refine tg_icge rfl rfl (fun h4 => ?_) (fun h4 => ?_)
    · exact tg_vret (st := []) rfl rfl ⟨Nat.le_of_ble_eq_true rfl, Nat.le_of_ble_eq_true rfl⟩ ⟨rfl, rfl⟩
    · exact absurd (nI_le (Nat.le_refl _) (by omega)) h4
  · intro i hi2 ih2
    refine tg_steps 2 rfl ?_
    refine tg_icge rfl rfl (fun h4 => ?_) (fun h4 => ?_)
    · exact absurd h4 (nI_ge hi2 (by omega))
    · refine tg_steps 1 rfl ?_
      refine tg_callV rfl (c_passNight_2 (by rw [pNs_M]; exact hm)) rfl rfl rfl rfl rfl (fun v8 w8 q8 => ?_)
      obtain ⟨rfl, rfl⟩ := q8
      refine tg_steps 3 rfl ?_
      refine tg_pkV [0, 1, 2] ?_
      refine tg_eqS (L2 := [(0, .ref 26), (1, .int (nI k)), (2, .int (nI (i + 1)))]) (st2 := []) (w2 := (tp_cs n p (pNs (i + 1) h) x, r)) (by first | rfl | (simp (decide := true) only [nI_succ, pNs_succ, decide_true, decide_false, cond_true, cond_false, Bool.false_eq_true, if_true, if_false, ite_true, ite_false]; done) | (simp (decide := true) only [nI_succ, pNs_succ, decide_true, decide_false, cond_true, cond_false, Bool.false_eq_true, if_true, if_false, ite_true, ite_false]; rfl)) rfl (by first | rfl | (simp (decide := true) only [nI_succ, pNs_succ, decide_true, decide_false, cond_true, cond_false, Bool.false_eq_true, if_true, if_false, ite_true, ite_false]; done) | (simp (decide := true) only [nI_succ, pNs_succ, decide_true, decide_false, cond_true, cond_false, Bool.false_eq_true, if_true, if_false, ite_true, ite_false]; rfl)) ?_
      exact ih2
set_option maxRecDepth 100000 in
set_option maxHeartbeats 2000000 in
theorem c_put_2 {G : tg_G} {n p h : tp_H} {x : tp_X} {r : List tg_Cl} (hm : hM h ≤ 7) (k v : Int32) : tg_C G 2 mX1_put 0 0 [.ref 26, .int k, .int v] (tp_cs n p h x, r) (fun u w => u = none ∧ w = (tp_cs n p (putH h k v) x, r)) := by
  refine tg_intro okX1_put (Nat.le_of_ble_eq_true rfl) ?_
  refine tg_steps 2 rfl ?_
  refine tg_callV rfl (c_has_2 k) rfl rfl rfl rfl rfl (fun v2 w2 q2 => ?_)
  obtain ⟨rfl, rfl⟩ := q2
  refine tg_ifbeq rfl rfl (fun h5 => ?_) (fun h5 => ?_)
  · exact tg_vret (st := []) rfl rfl ⟨Nat.le_of_ble_eq_true rfl, Nat.le_of_ble_eq_true rfl⟩ ⟨rfl, by first | (simp (decide := true) only [putH, uP, decide_true, decide_false, cond_true, cond_false, Bool.false_eq_true, if_true, if_false, ite_true, ite_false, h5]; done) | (simp (decide := true) only [putH, uP, decide_true, decide_false, cond_true, cond_false, Bool.false_eq_true, if_true, if_false, ite_true, ite_false, h5]; rfl)⟩
  · obtain ⟨j, hj, rfl, hcl⟩ := has_j hm h5
    refine tg_steps 4 rfl ?_
    refine tg_iastN rfl rfl (j) rfl (by omega) (by decide) ?_
    exact tg_vret (st := []) rfl rfl ⟨Nat.le_of_ble_eq_true rfl, Nat.le_of_ble_eq_true rfl⟩ ⟨rfl, by first | (simp (decide := true) only [putH, uP, decide_true, decide_false, cond_true, cond_false, Bool.false_eq_true, if_true, if_false, ite_true, ite_false, h5, hcl]; done) | (simp (decide := true) only [putH, uP, decide_true, decide_false, cond_true, cond_false, Bool.false_eq_true, if_true, if_false, ite_true, ite_false, h5, hcl]; rfl)⟩
set_option maxRecDepth 100000 in
set_option maxHeartbeats 2000000 in
theorem c_pinWhereHeIs_2 {G : tg_G} {n p h : tp_H} {x : tp_X} {r : List tg_Cl} (hm : hM h ≤ 7) (k v : Int32) : tg_C G 2 mX1_pinWhereHeIs 0 0 [.ref 26, .int k, .int v] (tp_cs n p h x, r) (fun u w => u = none ∧ w = (tp_cs n p (pinH h k v) x, r)) := by
  refine tg_intro okX1_pinWhereHeIs (Nat.le_of_ble_eq_true rfl) ?_
  refine tg_steps 2 rfl ?_
  refine tg_callV rfl (c_has_2 k) rfl rfl rfl rfl rfl (fun v2 w2 q2 => ?_)
  obtain ⟨rfl, rfl⟩ := q2
  refine tg_ifbeq rfl rfl (fun h5 => ?_) (fun h5 => ?_)
  · exact tg_vret (st := []) rfl rfl ⟨Nat.le_of_ble_eq_true rfl, Nat.le_of_ble_eq_true rfl⟩ ⟨rfl, by first | (simp (decide := true) only [pinH, uP, decide_true, decide_false, cond_true, cond_false, Bool.false_eq_true, if_true, if_false, ite_true, ite_false, h5]; done) | (simp (decide := true) only [pinH, uP, decide_true, decide_false, cond_true, cond_false, Bool.false_eq_true, if_true, if_false, ite_true, ite_false, h5]; rfl)⟩
  · obtain ⟨j, hj, rfl, hcl⟩ := has_j hm h5
    refine tg_steps 4 rfl ?_
    refine tg_iastN rfl rfl (j) rfl (by omega) (by decide) ?_
    exact tg_vret (st := []) rfl rfl ⟨Nat.le_of_ble_eq_true rfl, Nat.le_of_ble_eq_true rfl⟩ ⟨rfl, by first | (simp (decide := true) only [pinH, uP, decide_true, decide_false, cond_true, cond_false, Bool.false_eq_true, if_true, if_false, ite_true, ite_false, h5, hcl]; done) | (simp (decide := true) only [pinH, uP, decide_true, decide_false, cond_true, cond_false, Bool.false_eq_true, if_true, if_false, ite_true, ite_false, h5, hcl]; rfl)⟩
set_option maxRecDepth 100000 in
set_option maxHeartbeats 2000000 in
theorem c_sendHome_2 {G : tg_G} {n p h : tp_H} {x : tp_X} {r : List tg_Cl} (hm : hM h ≤ 7) (k v : Int32) : tg_C G 3 mX1_sendHome 0 0 [.ref 26, .int k, .int v] (tp_cs n p h x, r) (fun u w => u = none ∧ w = (tp_cs n p (senH h k v) x, r)) := by
  refine tg_intro okX1_sendHome (Nat.le_of_ble_eq_true rfl) ?_
  refine tg_steps 3 rfl ?_
  refine tg_callV rfl (c_pinWhereHeIs_2 hm k v) rfl rfl rfl rfl rfl (fun v3 w3 q3 => ?_)
  obtain ⟨rfl, rfl⟩ := q3
  refine tg_steps 4 rfl ?_
  refine tg_callV rfl (c_homeOf_2 (h := pinH h k v) hm k) rfl rfl rfl rfl rfl (fun v10 w10 q10 => ?_)
  obtain ⟨rfl, rfl⟩ := q10
  refine tg_callV rfl (c_put_2 (h := pinH h k v) hm k _) rfl rfl rfl rfl rfl (fun v13 w13 q13 => ?_)
  obtain ⟨rfl, rfl⟩ := q13
  exact tg_vret (st := []) rfl rfl ⟨Nat.le_of_ble_eq_true rfl, Nat.le_of_ble_eq_true rfl⟩ ⟨rfl, rfl⟩
set_option maxRecDepth 100000 in
set_option maxHeartbeats 2000000 in
theorem c_become_2 {G : tg_G} {n p h : tp_H} {x : tp_X} {r : List tg_Cl} (hm : hM h ≤ 7) (k a b : Int32) : tg_C G 2 mX1_become 0 0 [.ref 26, .int k, .int a, .int b] (tp_cs n p h x, r) (fun u w => u = none ∧ w = (tp_cs n p (becH h k a b) x, r)) := by
  refine tg_intro okX1_become (Nat.le_of_ble_eq_true rfl) ?_
  refine tg_steps 2 rfl ?_
  refine tg_callV rfl (c_has_2 k) rfl rfl rfl rfl rfl (fun v2 w2 q2 => ?_)
  obtain ⟨rfl, rfl⟩ := q2
  refine tg_ifbeq rfl rfl (fun h5 => ?_) (fun h5 => ?_)
  · exact tg_vret (st := []) rfl rfl ⟨Nat.le_of_ble_eq_true rfl, Nat.le_of_ble_eq_true rfl⟩ ⟨rfl, by first | (simp (decide := true) only [becH, uP, decide_true, decide_false, cond_true, cond_false, Bool.false_eq_true, if_true, if_false, ite_true, ite_false, h5]; done) | (simp (decide := true) only [becH, uP, decide_true, decide_false, cond_true, cond_false, Bool.false_eq_true, if_true, if_false, ite_true, ite_false, h5]; rfl)⟩
  · obtain ⟨j, hj, rfl, hcl⟩ := has_j hm h5
    refine tg_steps 4 rfl ?_
    refine tg_iastN rfl rfl (j) rfl (by omega) (by decide) ?_
    refine tg_steps 4 rfl ?_
    refine tg_iastN rfl rfl (j) rfl (by omega) (by decide) ?_
    exact tg_vret (st := []) rfl rfl ⟨Nat.le_of_ble_eq_true rfl, Nat.le_of_ble_eq_true rfl⟩ ⟨rfl, by first | (simp (decide := true) only [becH, uP, decide_true, decide_false, cond_true, cond_false, Bool.false_eq_true, if_true, if_false, ite_true, ite_false, h5, hcl]; done) | (simp (decide := true) only [becH, uP, decide_true, decide_false, cond_true, cond_false, Bool.false_eq_true, if_true, if_false, ite_true, ite_false, h5, hcl]; rfl)⟩
set_option maxRecDepth 100000 in
set_option maxHeartbeats 2000000 in
theorem c_turnCrack_2 {G : tg_G} {n p h : tp_H} {x : tp_X} {r : List tg_Cl} (k : Int32) : tg_C G 1 mX1_turnCrack 0 0 [.ref 26, .int k] (tp_cs n p h x, r) (fun u w => u = none ∧ w = (tp_cs n p (crkH h k) x, r)) := by
  refine tg_intro okX1_turnCrack (Nat.le_of_ble_eq_true rfl) ?_
  refine tg_steps 8 rfl ?_
  exact tg_vret (st := []) rfl rfl ⟨Nat.le_of_ble_eq_true rfl, Nat.le_of_ble_eq_true rfl⟩ ⟨rfl, rfl⟩
set_option maxRecDepth 100000 in
set_option maxHeartbeats 2000000 in
theorem c_aboardOnes_2 {G : tg_G} {n p h : tp_H} {x : tp_X} {r : List tg_Cl} (hm : hM h ≤ 7) : tg_C G 2 mX1_aboardOnes 0 0 [.ref 26] (tp_cs n p h x, r) (fun v w => v = some (.int (oAt h (hS h))) ∧ w = (tp_cs n p h x, r)) := by
  refine tg_intro okX1_aboardOnes (Nat.le_of_ble_eq_true rfl) ?_
  refine tg_steps 3 rfl ?_
  refine tg_callV rfl (c_onesAt_2 hm _) rfl rfl rfl rfl rfl (fun v5 w5 q5 => ?_)
  obtain ⟨rfl, rfl⟩ := q5
  exact tg_iret (st := []) rfl rfl ⟨Nat.le_of_ble_eq_true rfl, Nat.le_of_ble_eq_true rfl⟩ ⟨rfl, rfl⟩
set_option maxRecDepth 100000 in
set_option maxHeartbeats 2000000 in
theorem c_aboardMany_2 {G : tg_G} {n p h : tp_H} {x : tp_X} {r : List tg_Cl} (hm : hM h ≤ 7) : tg_C G 2 mX1_aboardMany 0 0 [.ref 26] (tp_cs n p h x, r) (fun v w => v = some (.int (mAt h (hS h))) ∧ w = (tp_cs n p h x, r)) := by
  refine tg_intro okX1_aboardMany (Nat.le_of_ble_eq_true rfl) ?_
  refine tg_steps 3 rfl ?_
  refine tg_callV rfl (c_manyAt_2 hm _) rfl rfl rfl rfl rfl (fun v5 w5 q5 => ?_)
  obtain ⟨rfl, rfl⟩ := q5
  exact tg_iret (st := []) rfl rfl ⟨Nat.le_of_ble_eq_true rfl, Nat.le_of_ble_eq_true rfl⟩ ⟨rfl, rfl⟩
set_option maxRecDepth 100000 in
set_option maxHeartbeats 2000000 in
theorem c_homeMany_2 {G : tg_G} {n p h : tp_H} {x : tp_X} {r : List tg_Cl} (hm : hM h ≤ 7) : tg_C G 1 mX1_homeMany 0 0 [.ref 26] (tp_cs n p h x, r) (fun v w => v = some (.int (hoM h)) ∧ w = (tp_cs n p h x, r)) := by
  refine tg_intro okX1_homeMany (Nat.le_of_ble_eq_true rfl) ?_
  refine tg_steps 4 rfl ?_
  refine tg_pkV [0, 1, 2] ?_
  refine tg_eqS (L2 := [(0, .ref 26), (1, .int (cI (fun i => decide (hT h i = hH h i)) (0))), (2, .int (nI (0)))]) (st2 := []) (w2 := (tp_cs n p h x, r)) rfl rfl rfl ?_
  refine tg_down (φ := fun i : Nat => tg_V G 1 mX1_homeMany 0 0 0 0 (fun v w => v = some (.int (hoM h)) ∧ w = (tp_cs n p h x, r)) 4 [(0, .ref 26), (1, .int (cI (fun i => decide (hT h i = hH h i)) (i))), (2, .int (nI (i)))] [] (tp_cs n p h x, r)) (n := hM h) ?_ ?_ 0 (Nat.zero_le _) 
  · refine tg_steps 3 rfl ?_
    refine tg_icge rfl rfl (fun h9 => ?_) (fun h9 => ?_)
    · refine tg_steps 1 rfl ?_
      exact tg_iret (st := []) rfl rfl ⟨Nat.le_of_ble_eq_true rfl, Nat.le_of_ble_eq_true rfl⟩ ⟨rfl, rfl⟩
    · exact absurd (nI_le (Nat.le_refl _) (by omega)) h9
  · intro i hi4 ih4
    refine tg_steps 3 rfl ?_
    refine tg_icge rfl rfl (fun h9 => ?_) (fun h9 => ?_)
    · exact absurd h9 (nI_ge hi4 (by omega))
    · refine tg_steps 3 rfl ?_
      refine tg_ialdN rfl rfl (i) rfl (by omega) (by decide) ?_
      refine tg_steps 3 rfl ?_
      refine tg_ialdN rfl rfl (i) rfl (by omega) (by decide) ?_
      refine tg_icne rfl rfl (fun h24 => ?_) (fun h24 => ?_)
      · refine tg_steps 2 rfl ?_
        refine tg_pkV [0, 1, 2] ?_
        refine tg_eqS (L2 := [(0, .ref 26), (1, .int (cI (fun i => decide (hT h i = hH h i)) (i + 1))), (2, .int (nI (i + 1)))]) (st2 := []) (w2 := (tp_cs n p h x, r)) (by first | rfl | (simp (decide := true) only [nI_succ, cI_succ, decide_true, decide_false, cond_true, cond_false, Bool.false_eq_true, if_true, if_false, ite_true, ite_false, h24]; done) | (simp (decide := true) only [nI_succ, cI_succ, decide_true, decide_false, cond_true, cond_false, Bool.false_eq_true, if_true, if_false, ite_true, ite_false, h24]; rfl)) rfl (by first | rfl | (simp (decide := true) only [nI_succ, cI_succ, decide_true, decide_false, cond_true, cond_false, Bool.false_eq_true, if_true, if_false, ite_true, ite_false, h24]; done) | (simp (decide := true) only [nI_succ, cI_succ, decide_true, decide_false, cond_true, cond_false, Bool.false_eq_true, if_true, if_false, ite_true, ite_false, h24]; rfl)) ?_
        exact ih4
      · refine tg_steps 3 rfl ?_
        refine tg_pkV [0, 1, 2] ?_
        refine tg_eqS (L2 := [(0, .ref 26), (1, .int (cI (fun i => decide (hT h i = hH h i)) (i + 1))), (2, .int (nI (i + 1)))]) (st2 := []) (w2 := (tp_cs n p h x, r)) (by first | rfl | (simp (decide := true) only [nI_succ, cI_succ, decide_true, decide_false, cond_true, cond_false, Bool.false_eq_true, if_true, if_false, ite_true, ite_false, eq_true h24]; done) | (simp (decide := true) only [nI_succ, cI_succ, decide_true, decide_false, cond_true, cond_false, Bool.false_eq_true, if_true, if_false, ite_true, ite_false, eq_true h24]; rfl)) rfl (by first | rfl | (simp (decide := true) only [nI_succ, cI_succ, decide_true, decide_false, cond_true, cond_false, Bool.false_eq_true, if_true, if_false, ite_true, ite_false, eq_true h24]; done) | (simp (decide := true) only [nI_succ, cI_succ, decide_true, decide_false, cond_true, cond_false, Bool.false_eq_true, if_true, if_false, ite_true, ite_false, eq_true h24]; rfl)) ?_
        exact ih4
set_option maxRecDepth 100000 in
set_option maxHeartbeats 2000000 in
theorem c_wayOf_2 {G : tg_G} {n p h : tp_H} {x : tp_X} {r : List tg_Cl} (hm : hM h ≤ 7) (j : Nat) (hj : j < hM h) : tg_C G 4 mX1_wayOf 0 0 [.ref 26, .int (nI j)] (tp_cs n p h x, r) (fun v w => v = some (.int (way h (hK h j) (hT h j) (nI j))) ∧ w = (tp_cs n p h x, r)) := by
  refine tg_intro okX1_wayOf (Nat.le_of_ble_eq_true rfl) ?_
  refine tg_steps 2 rfl ?_
  refine tg_callV rfl (c_has_2 _) rfl rfl rfl rfl rfl (fun v2 w2 q2 => ?_)
  obtain ⟨rfl, rfl⟩ := q2
  refine tg_ifbeq rfl rfl (fun h5 => ?_) (fun h5 => ?_)
  · exact absurd h5 (by rw [has_nI hm hj]; decide)
  · refine tg_steps 4 rfl ?_
    refine tg_ialdN rfl rfl (j) rfl (by omega) (by decide) ?_
    refine tg_callV rfl (c_goerOf_2 _) rfl rfl rfl rfl rfl (fun v15 w15 q15 => ?_)
    obtain ⟨rfl, rfl⟩ := q15
    refine tg_steps 3 rfl ?_
    refine tg_ialdN rfl rfl (j) rfl (by omega) (by decide) ?_
    refine tg_steps 2 rfl ?_
    refine v_way_wayOf_2 hm rfl (by first | exact Or.inl rfl | exact Or.inr ⟨_, rfl⟩) _ _ _ ?_
    refine tg_steps 1 rfl ?_
    exact tg_iret (st := []) rfl rfl ⟨Nat.le_of_ble_eq_true rfl, Nat.le_of_ble_eq_true rfl⟩ ⟨rfl, rfl⟩
set_option maxRecDepth 100000 in
set_option maxHeartbeats 2000000 in
theorem c_comeIn_2 {G : tg_G} {n p h : tp_H} {x : tp_X} {r : List tg_Cl} (hm : hM h ≤ 7) (a b c : Int32) : tg_C G 3 mX1_comeIn 0 0 [.ref 26, .int a, .int b, .int c] (tp_cs n p h x, r) (fun u w => if hM h < 7 then u = some (.int (nI (hM h))) ∧ w = (tp_cs n p (comH h a b c) x, r) else u = some (.int (-9)) ∧ w = (tp_cs n p h x, r)) := by
  refine tg_intro okX1_comeIn (Nat.le_of_ble_eq_true rfl) ?_
  refine tg_steps 3 rfl ?_
  refine tg_iclt rfl rfl (fun h6 => ?_) (fun h6 => ?_)
  · have hlt : hM h < 7 := by
      rcases Nat.lt_or_ge (hM h) 7 with q | q
      · exact q
      · exact absurd h6 (nI_nlt (b := 7) q (by omega))
    simp only [if_pos hlt]
    refine tg_steps 13 rfl ?_
    refine tg_eqW (w2 := (tp_cs n p (sM h (hM h + 1)) x, r)) (by rw [show sM h (hM h + 1) = sM h (hM h + 1) from rfl]; simp only [← nI_succ]; rfl) ?_
    refine tg_callV rfl (c_become_2 (h := sM h (hM h + 1)) (by show hM h + 1 ≤ 7; omega) (nI (hM h)) a b) rfl rfl rfl rfl rfl (fun v33 w33 q33 => ?_)
    obtain ⟨rfl, rfl⟩ := q33
    refine tg_steps 4 rfl ?_
    refine tg_iastN rfl rfl (hM h) rfl (by omega) (by decide) ?_
    refine tg_steps 4 rfl ?_
    refine tg_iastN rfl rfl (hM h) rfl (by omega) (by decide) ?_
    refine tg_steps 4 rfl ?_
    refine tg_iastN rfl rfl (hM h) rfl (by omega) (by decide) ?_
    refine tg_steps 1 rfl ?_
    exact tg_iret (st := []) rfl rfl ⟨Nat.le_of_ble_eq_true rfl, Nat.le_of_ble_eq_true rfl⟩ ⟨rfl, by rw [show becH (sM h (hM h + 1)) (nI (hM h)) a b = sF (sK (sM h (hM h + 1)) (tg_u (hK h) (hM h) a)) (tg_u (hF h) (hM h) b) from (by unfold becH uP; rw [has_nI (h := sM h (hM h + 1)) (by show hM h + 1 ≤ 7; omega) (by show hM h < hM h + 1; omega), nI_clamp (by omega)]; rfl)]; rfl⟩
  · have hnl : ¬ hM h < 7 := fun q => h6 (nI_lt q (by decide))
    simp only [if_neg hnl]
    refine tg_steps 1 rfl ?_
    exact tg_iret (st := []) rfl rfl ⟨Nat.le_of_ble_eq_true rfl, Nat.le_of_ble_eq_true rfl⟩ ⟨rfl, rfl⟩
set_option maxRecDepth 100000 in
set_option maxHeartbeats 2000000 in
theorem c_copyFrom_20 {G : tg_G} {g h q : tp_H} {x : tp_X} {r : List tg_Cl} (hm : hM h ≤ 7) : tg_C G 1 mX1_copyFrom 0 0 [.ref 26, .ref 1] (tp_cs h q g x, r) (fun v w => v = none ∧ w = (tp_cs h q (cpF g h) x, r)) := by
  refine tg_intro okX1_copyFrom (Nat.le_of_ble_eq_true rfl) ?_
  refine tg_steps 18 rfl ?_
  refine tg_pkV [0, 1, 2] ?_
  refine tg_eqS (L2 := [(0, .ref 26), (1, .ref 1), (2, .int (nI (0)))]) (st2 := []) (w2 := (tp_cs h q (cpT g h (0)) x, r)) rfl rfl rfl ?_
  refine tg_down (φ := fun i : Nat => tg_V G 1 mX1_copyFrom 0 0 0 0 (fun v w => v = none ∧ w = (tp_cs h q (cpF g h) x, r)) 34 [(0, .ref 26), (1, .ref 1), (2, .int (nI (i)))] [] (tp_cs h q (cpT g h (i)) x, r)) (n := hM h) ?_ ?_ 0 (Nat.zero_le _) 
  · refine tg_steps 3 rfl ?_
    refine tg_icge rfl rfl (fun h39 => ?_) (fun h39 => ?_)
    · exact tg_vret (st := []) rfl rfl ⟨Nat.le_of_ble_eq_true rfl, Nat.le_of_ble_eq_true rfl⟩ ⟨rfl, rfl⟩
    · exact absurd (nI_le (Nat.le_refl _) (by show hM h < _; omega)) h39
  · intro i hi34 ih34
    refine tg_steps 3 rfl ?_
    refine tg_icge rfl rfl (fun h39 => ?_) (fun h39 => ?_)
    · exact absurd h39 (nI_ge hi34 (by show hM h < _; omega))
    · refine tg_steps 6 rfl ?_
      refine tg_ialdN rfl rfl (i) rfl (by omega) (by decide) ?_
      refine tg_iastN rfl rfl (i) rfl (by omega) (by decide) ?_
      refine tg_steps 6 rfl ?_
      refine tg_ialdN rfl rfl (i) rfl (by omega) (by decide) ?_
      refine tg_iastN rfl rfl (i) rfl (by omega) (by decide) ?_
      refine tg_steps 6 rfl ?_
      refine tg_ialdN rfl rfl (i) rfl (by omega) (by decide) ?_
      refine tg_iastN rfl rfl (i) rfl (by omega) (by decide) ?_
      refine tg_steps 6 rfl ?_
      refine tg_ialdN rfl rfl (i) rfl (by omega) (by decide) ?_
      refine tg_iastN rfl rfl (i) rfl (by omega) (by decide) ?_
      refine tg_steps 6 rfl ?_
      refine tg_ialdN rfl rfl (i) rfl (by omega) (by decide) ?_
      refine tg_iastN rfl rfl (i) rfl (by omega) (by decide) ?_
      refine tg_steps 2 rfl ?_
      refine tg_pkV [0, 1, 2] ?_
      refine tg_eqS (L2 := [(0, .ref 26), (1, .ref 1), (2, .int (nI (i + 1)))]) (st2 := []) (w2 := (tp_cs h q (cpT g h (i + 1)) x, r)) (by first | rfl | (simp (decide := true) only [nI_succ, decide_true, decide_false, cond_true, cond_false, Bool.false_eq_true, if_true, if_false, ite_true, ite_false]; done) | (simp (decide := true) only [nI_succ, decide_true, decide_false, cond_true, cond_false, Bool.false_eq_true, if_true, if_false, ite_true, ite_false]; rfl)) rfl (by unfold cpT; simp only [mix_succ]; rfl) ?_
      exact ih34
set_option maxRecDepth 100000 in
set_option maxHeartbeats 2000000 in
theorem c_copyFrom_10 {G : tg_G} {g h q : tp_H} {x : tp_X} {r : List tg_Cl} (hm : hM h ≤ 7) : tg_C G 1 mX1_copyFrom 0 0 [.ref 13, .ref 1] (tp_cs h g q x, r) (fun v w => v = none ∧ w = (tp_cs h (cpF g h) q x, r)) := by
  refine tg_intro okX1_copyFrom (Nat.le_of_ble_eq_true rfl) ?_
  refine tg_steps 18 rfl ?_
  refine tg_pkV [0, 1, 2] ?_
  refine tg_eqS (L2 := [(0, .ref 13), (1, .ref 1), (2, .int (nI (0)))]) (st2 := []) (w2 := (tp_cs h (cpT g h (0)) q x, r)) rfl rfl rfl ?_
  refine tg_down (φ := fun i : Nat => tg_V G 1 mX1_copyFrom 0 0 0 0 (fun v w => v = none ∧ w = (tp_cs h (cpF g h) q x, r)) 34 [(0, .ref 13), (1, .ref 1), (2, .int (nI (i)))] [] (tp_cs h (cpT g h (i)) q x, r)) (n := hM h) ?_ ?_ 0 (Nat.zero_le _) 
  · refine tg_steps 3 rfl ?_
    refine tg_icge rfl rfl (fun h39 => ?_) (fun h39 => ?_)
    · exact tg_vret (st := []) rfl rfl ⟨Nat.le_of_ble_eq_true rfl, Nat.le_of_ble_eq_true rfl⟩ ⟨rfl, rfl⟩
    · exact absurd (nI_le (Nat.le_refl _) (by show hM h < _; omega)) h39
  · intro i hi34 ih34
    refine tg_steps 3 rfl ?_
    refine tg_icge rfl rfl (fun h39 => ?_) (fun h39 => ?_)
    · exact absurd h39 (nI_ge hi34 (by show hM h < _; omega))
    · refine tg_steps 6 rfl ?_
      refine tg_ialdN rfl rfl (i) rfl (by omega) (by decide) ?_
      refine tg_iastN rfl rfl (i) rfl (by omega) (by decide) ?_
      refine tg_steps 6 rfl ?_
      refine tg_ialdN rfl rfl (i) rfl (by omega) (by decide) ?_
      refine tg_iastN rfl rfl (i) rfl (by omega) (by decide) ?_
      refine tg_steps 6 rfl ?_
      refine tg_ialdN rfl rfl (i) rfl (by omega) (by decide) ?_
      refine tg_iastN rfl rfl (i) rfl (by omega) (by decide) ?_
      refine tg_steps 6 rfl ?_
      refine tg_ialdN rfl rfl (i) rfl (by omega) (by decide) ?_
      refine tg_iastN rfl rfl (i) rfl (by omega) (by decide) ?_
      refine tg_steps 6 rfl ?_
      refine tg_ialdN rfl rfl (i) rfl (by omega) (by decide) ?_
      refine tg_iastN rfl rfl (i) rfl (by omega) (by decide) ?_
      refine tg_steps 2 rfl ?_
      refine tg_pkV [0, 1, 2] ?_
      refine tg_eqS (L2 := [(0, .ref 13), (1, .ref 1), (2, .int (nI (i + 1)))]) (st2 := []) (w2 := (tp_cs h (cpT g h (i + 1)) q x, r)) (by first | rfl | (simp (decide := true) only [nI_succ, decide_true, decide_false, cond_true, cond_false, Bool.false_eq_true, if_true, if_false, ite_true, ite_false]; done) | (simp (decide := true) only [nI_succ, decide_true, decide_false, cond_true, cond_false, Bool.false_eq_true, if_true, if_false, ite_true, ite_false]; rfl)) rfl (by unfold cpT; simp only [mix_succ]; rfl) ?_
      exact ih34
set_option maxRecDepth 100000 in
set_option maxHeartbeats 2000000 in
theorem c_copyFrom_01 {G : tg_G} {g h q : tp_H} {x : tp_X} {r : List tg_Cl} (hm : hM h ≤ 7) : tg_C G 1 mX1_copyFrom 0 0 [.ref 1, .ref 13] (tp_cs g h q x, r) (fun v w => v = none ∧ w = (tp_cs (cpF g h) h q x, r)) := by
  refine tg_intro okX1_copyFrom (Nat.le_of_ble_eq_true rfl) ?_
  refine tg_steps 18 rfl ?_
  refine tg_pkV [0, 1, 2] ?_
  refine tg_eqS (L2 := [(0, .ref 1), (1, .ref 13), (2, .int (nI (0)))]) (st2 := []) (w2 := (tp_cs (cpT g h (0)) h q x, r)) rfl rfl rfl ?_
  refine tg_down (φ := fun i : Nat => tg_V G 1 mX1_copyFrom 0 0 0 0 (fun v w => v = none ∧ w = (tp_cs (cpF g h) h q x, r)) 34 [(0, .ref 1), (1, .ref 13), (2, .int (nI (i)))] [] (tp_cs (cpT g h (i)) h q x, r)) (n := hM h) ?_ ?_ 0 (Nat.zero_le _) 
  · refine tg_steps 3 rfl ?_
    refine tg_icge rfl rfl (fun h39 => ?_) (fun h39 => ?_)
    · exact tg_vret (st := []) rfl rfl ⟨Nat.le_of_ble_eq_true rfl, Nat.le_of_ble_eq_true rfl⟩ ⟨rfl, rfl⟩
    · exact absurd (nI_le (Nat.le_refl _) (by show hM h < _; omega)) h39
  · intro i hi34 ih34
    refine tg_steps 3 rfl ?_
    refine tg_icge rfl rfl (fun h39 => ?_) (fun h39 => ?_)
    · exact absurd h39 (nI_ge hi34 (by show hM h < _; omega))
    · refine tg_steps 6 rfl ?_
      refine tg_ialdN rfl rfl (i) rfl (by omega) (by decide) ?_
      refine tg_iastN rfl rfl (i) rfl (by omega) (by decide) ?_
      refine tg_steps 6 rfl ?_
      refine tg_ialdN rfl rfl (i) rfl (by omega) (by decide) ?_
      refine tg_iastN rfl rfl (i) rfl (by omega) (by decide) ?_
      refine tg_steps 6 rfl ?_
      refine tg_ialdN rfl rfl (i) rfl (by omega) (by decide) ?_
      refine tg_iastN rfl rfl (i) rfl (by omega) (by decide) ?_
      refine tg_steps 6 rfl ?_
      refine tg_ialdN rfl rfl (i) rfl (by omega) (by decide) ?_
      refine tg_iastN rfl rfl (i) rfl (by omega) (by decide) ?_
      refine tg_steps 6 rfl ?_
      refine tg_ialdN rfl rfl (i) rfl (by omega) (by decide) ?_
      refine tg_iastN rfl rfl (i) rfl (by omega) (by decide) ?_
      refine tg_steps 2 rfl ?_
      refine tg_pkV [0, 1, 2] ?_
      refine tg_eqS (L2 := [(0, .ref 1), (1, .ref 13), (2, .int (nI (i + 1)))]) (st2 := []) (w2 := (tp_cs (cpT g h (i + 1)) h q x, r)) (by first | rfl | (simp (decide := true) only [nI_succ, decide_true, decide_false, cond_true, cond_false, Bool.false_eq_true, if_true, if_false, ite_true, ite_false]; done) | (simp (decide := true) only [nI_succ, decide_true, decide_false, cond_true, cond_false, Bool.false_eq_true, if_true, if_false, ite_true, ite_false]; rfl)) rfl (by unfold cpT; simp only [mix_succ]; rfl) ?_
      exact ih34
set_option maxRecDepth 100000 in
set_option maxHeartbeats 2000000 in
theorem c_copyFrom_02 {G : tg_G} {g h q : tp_H} {x : tp_X} {r : List tg_Cl} (hm : hM h ≤ 7) : tg_C G 1 mX1_copyFrom 0 0 [.ref 1, .ref 26] (tp_cs g q h x, r) (fun v w => v = none ∧ w = (tp_cs (cpF g h) q h x, r)) := by
  refine tg_intro okX1_copyFrom (Nat.le_of_ble_eq_true rfl) ?_
  refine tg_steps 18 rfl ?_
  refine tg_pkV [0, 1, 2] ?_
  refine tg_eqS (L2 := [(0, .ref 1), (1, .ref 26), (2, .int (nI (0)))]) (st2 := []) (w2 := (tp_cs (cpT g h (0)) q h x, r)) rfl rfl rfl ?_
  refine tg_down (φ := fun i : Nat => tg_V G 1 mX1_copyFrom 0 0 0 0 (fun v w => v = none ∧ w = (tp_cs (cpF g h) q h x, r)) 34 [(0, .ref 1), (1, .ref 26), (2, .int (nI (i)))] [] (tp_cs (cpT g h (i)) q h x, r)) (n := hM h) ?_ ?_ 0 (Nat.zero_le _) 
  · refine tg_steps 3 rfl ?_
    refine tg_icge rfl rfl (fun h39 => ?_) (fun h39 => ?_)
    · exact tg_vret (st := []) rfl rfl ⟨Nat.le_of_ble_eq_true rfl, Nat.le_of_ble_eq_true rfl⟩ ⟨rfl, rfl⟩
    · exact absurd (nI_le (Nat.le_refl _) (by show hM h < _; omega)) h39
  · intro i hi34 ih34
    refine tg_steps 3 rfl ?_
    refine tg_icge rfl rfl (fun h39 => ?_) (fun h39 => ?_)
    · exact absurd h39 (nI_ge hi34 (by show hM h < _; omega))
    · refine tg_steps 6 rfl ?_
      refine tg_ialdN rfl rfl (i) rfl (by omega) (by decide) ?_
      refine tg_iastN rfl rfl (i) rfl (by omega) (by decide) ?_
      refine tg_steps 6 rfl ?_
      refine tg_ialdN rfl rfl (i) rfl (by omega) (by decide) ?_
      refine tg_iastN rfl rfl (i) rfl (by omega) (by decide) ?_
      refine tg_steps 6 rfl ?_
      refine tg_ialdN rfl rfl (i) rfl (by omega) (by decide) ?_
      refine tg_iastN rfl rfl (i) rfl (by omega) (by decide) ?_
      refine tg_steps 6 rfl ?_
      refine tg_ialdN rfl rfl (i) rfl (by omega) (by decide) ?_
      refine tg_iastN rfl rfl (i) rfl (by omega) (by decide) ?_
      refine tg_steps 6 rfl ?_
      refine tg_ialdN rfl rfl (i) rfl (by omega) (by decide) ?_
      refine tg_iastN rfl rfl (i) rfl (by omega) (by decide) ?_
      refine tg_steps 2 rfl ?_
      refine tg_pkV [0, 1, 2] ?_
      refine tg_eqS (L2 := [(0, .ref 1), (1, .ref 26), (2, .int (nI (i + 1)))]) (st2 := []) (w2 := (tp_cs (cpT g h (i + 1)) q h x, r)) (by first | rfl | (simp (decide := true) only [nI_succ, decide_true, decide_false, cond_true, cond_false, Bool.false_eq_true, if_true, if_false, ite_true, ite_false]; done) | (simp (decide := true) only [nI_succ, decide_true, decide_false, cond_true, cond_false, Bool.false_eq_true, if_true, if_false, ite_true, ite_false]; rfl)) rfl (by unfold cpT; simp only [mix_succ]; rfl) ?_
      exact ih34
