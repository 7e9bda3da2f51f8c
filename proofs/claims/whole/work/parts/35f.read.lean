/-! contracts of the reference: reading -/
def rY (y : tp_Y) (la lt tl : tp_A) (r m : Nat) : tp_Y := (yRf y, yTp y, la, lt, tl, yTd y, r, m, yKe y, yHi y, yIk y, yCu y, yMo y, yEn y, yRo y, yRm y, yLo y)
def cAt (y : tp_Y) (s : Nat) : Int32 := if nI (yTd y) ≤ nI s then -1 else yTp y s
def isD (c : Int32) : Bool := inB c 48 57
def vL (y : tp_Y) (r : Nat) : Nat → Int32
  | 0 => 0
  | i + 1 => 10 * vL y r i + cAt y (r + i) - 48
def mtc (P : Nat → Int32 → Bool) (y : tp_Y) (r n : Nat) : Prop := ∀ j, j < n → P j (cAt y (r + j)) = true
def rdQ (l : List tg_Cl) (h : tp_H) (y : tp_Y) (la lt : tp_A) (r m : Nat) (P : Nat → Int32 → Bool) (n : Nat) (T : tp_A) : Option Value → tg_W → Prop := fun v w =>
  (v = some (.int (tg_b true)) ∧ w = (l, tm_cs h (rY y la lt T (r + n) m)) ∧ mtc P y r n) ∨ (∃ i t2, i < n ∧ v = some (.int (tg_b false)) ∧ w = (l, tm_cs h (rY y la lt t2 (r + i) m)) ∧ mtc P y r i ∧ P i (cAt y (r + i)) = false)
theorem nI_p2 (s : Nat) : nI s + 2 = nI (s + 2) := by
  rw [nI_succ, nI_succ, Int32.add_assoc]; rfl
theorem cAt_lt {y : tp_Y} {s : Nat} (hl : yTd y ≤ 96) (hs : s ≤ yTd y) (h : ¬ cAt y s = -1) : s < yTd y := by
  rcases Nat.lt_or_ge s (yTd y) with q | q
  · exact q
  · exfalso; apply h; unfold cAt; rw [if_pos (nI_le q (by omega))]
theorem cAt_in {y : tp_Y} {s : Nat} (hl : yTd y ≤ 96) (hs : s < yTd y) : cAt y s = yTp y s := by
  unfold cAt; rw [if_neg (nI_ge hs (by omega))]
theorem cAt_out {y : tp_Y} {s : Nat} (hs : yTd y ≤ s) (hb : s < 2 ^ 31) : cAt y s = -1 := by
  unfold cAt; rw [if_pos (nI_le hs hb)]
theorem mtc_0 (P : Nat → Int32 → Bool) (y : tp_Y) (r : Nat) : mtc P y r 0 := fun j hj => absurd hj (Nat.not_lt_zero j)
theorem mtc_s {P : Nat → Int32 → Bool} {y : tp_Y} {r i : Nat} (h : mtc P y r i) (e : P i (cAt y (r + i)) = true) : mtc P y r (i + 1) := by
  intro j hj
  rcases Nat.lt_or_ge j i with q | q
  · exact h j q
  · have : j = i := by omega
    subst this; exact e
theorem mtc_le {P : Nat → Int32 → Bool} {y : tp_Y} {r : Nat} (hl : yTd y ≤ 96) (hr : r ≤ yTd y) : ∀ {n : Nat}, (∀ j, j < n → P j (-1) = false) → mtc P y r n → r + n ≤ yTd y := by
  intro n
  induction n with
  | zero => intro _ _; exact hr
  | succ n ih =>
    intro hP h
    have h1 := ih (fun j hj => hP j (by omega)) (fun j hj => h j (by omega))
    have h2 := cAt_lt hl h1 (fun e => by have h3 := h n (by omega); rw [e, hP n (by omega)] at h3; cases h3)
    omega
theorem isD_m1 : isD (-1) = false := by decide
theorem mtc_app {P Q : Nat → Int32 → Bool} {y : tp_Y} {r a b : Nat} (h : mtc P y r a) (g : mtc Q y (r + a) b) (e : ∀ j, j < b → Q j = P (a + j)) : mtc P y r (a + b) := by
  intro j hj
  rcases Nat.lt_or_ge j a with q | q
  · exact h j q
  · have h1 := g (j - a) (by omega)
    rw [e (j - a) (by omega), show a + (j - a) = j by omega, show r + a + (j - a) = r + j by omega] at h1
    exact h1
theorem rdQ_f {l : List tg_Cl} {h : tp_H} {y : tp_Y} {la lt T t2 : tp_A} {r m : Nat} {P Q : Nat → Int32 → Bool} {n a i : Nat} (hP : mtc P y r a) (hn : a + i < n) (e : mtc Q y (r + a) i) (g : Q i (cAt y (r + a + i)) = false) (hq : ∀ j, j ≤ i → Q j = P (a + j)) : rdQ l h y la lt r m P n T (some (.int (tg_b false))) (l, tm_cs h (rY y la lt t2 (r + a + i) m)) := by
  refine Or.inr ⟨a + i, t2, hn, rfl, by rw [Nat.add_assoc], mtc_app hP e (fun j hj => hq j (by omega)), ?_⟩
  rw [hq i (Nat.le_refl i), Nat.add_assoc] at g
  exact g
theorem rdQ_t {l : List tg_Cl} {h : tp_H} {y : tp_Y} {la lt T : tp_A} {r m : Nat} {P Q : Nat → Int32 → Bool} {n a b : Nat} (hP : mtc P y r a) (hn : a + b = n) (e : mtc Q y (r + a) b) (hq : ∀ j, j < b → Q j = P (a + j)) : rdQ l h y la lt r m P n T (some (.int (tg_b true))) (l, tm_cs h (rY y la lt T (r + a + b) m)) := by
  subst hn
  exact Or.inl ⟨rfl, by rw [Nat.add_assoc], mtc_app hP e hq⟩
theorem r_Rd {l : List tg_Cl} {h : tp_H} {y : tp_Y} {la lt tl : tp_A} {r m r2 : Nat} {z : Int32} (hz : z = nI r2) : tg_up (l, tm_cs h (rY y la lt tl r m)) 64 (.inl (11, [.ref 65, .ref 66, .ref 67, .ref 68, .ref 69, .ref 70, .int (hC h), .int (hS h), .int (nI (hM h)), .int (hN h), .ref 71, .ref 72, .ref 73, .ref 74, .int (nI (yTd y)), .int z, .int (nI m), .ref 75, .int (tg_b (yHi y)), .int (tg_b (yIk y)), .int (nI (yCu y)), .int (yMo y), .ref 76, .ref 77, .int (nI (yRm y)), .int (yLo y)])) = (l, tm_cs h (rY y la lt tl r2 m)) := by
  subst hz; rfl
theorem r_Sm {l : List tg_Cl} {h : tp_H} {y : tp_Y} {la lt tl : tp_A} {r m m2 : Nat} {z : Int32} (hz : z = nI m2) : tg_up (l, tm_cs h (rY y la lt tl r m)) 64 (.inl (11, [.ref 65, .ref 66, .ref 67, .ref 68, .ref 69, .ref 70, .int (hC h), .int (hS h), .int (nI (hM h)), .int (hN h), .ref 71, .ref 72, .ref 73, .ref 74, .int (nI (yTd y)), .int (nI r), .int z, .ref 75, .int (tg_b (yHi y)), .int (tg_b (yIk y)), .int (nI (yCu y)), .int (yMo y), .ref 76, .ref 77, .int (nI (yRm y)), .int (yLo y)])) = (l, tm_cs h (rY y la lt tl r m2)) := by
  subst hz; rfl
def PL (j : Nat) (c : Int32) : Bool := if j = 0 then decide (0 ≤ koM c) else isD c
theorem PL_m1 (j : Nat) : PL j (-1) = false := by
  unfold PL; split
  · decide
  · exact isD_m1
def PA (f : Int32) (j : Nat) (c : Int32) : Bool := if f = 108 then PL j c else isD c
theorem PA_m1 (f : Int32) (j : Nat) : PA f j (-1) = false := by
  unfold PA; split
  · exact PL_m1 j
  · exact isD_m1
def nA (f : Int32) : Nat := if f = 108 then 4 else if f = 97 then 3 else 2
def TL (y : tp_Y) (r : Nat) (tl : tp_A) (k : Nat) : tp_A := tg_u (tg_u (tg_u tl k (koM (cAt y r))) (k + 1) (vL y (r + 1) 1)) (k + 2) (vL y (r + 1 + 1) 2)
def TA (f : Int32) (y : tp_Y) (r : Nat) (tl : tp_A) (k : Nat) : tp_A := if f = 108 then TL y r tl k else if f = 97 then tg_u (tg_u tl k (vL y r 1)) (k + 1) (vL y (r + 1) 2) else if f = 112 then tg_u (tg_u tl k (vL y r 1)) (k + 1) (vL y (r + 1) 1) else tg_u tl k (vL y r 2)
def isF (f : Int32) : Bool := if f = 108 then true else if f = 97 then true else if f = 99 then true else if f = 115 then true else if f = 112 then true else if f = 110 then true else false
def PS (f : Int32) (j : Nat) (c : Int32) : Bool := if j = 0 then isF f else if j = nA f + 1 then decide (c = 59) else PA f (j - 1) c
theorem PS_0 (f c : Int32) : PS f 0 c = isF f := rfl
theorem PS_e (f c : Int32) : PS f (nA f + 1) c = decide (c = 59) := by
  unfold PS; rw [if_neg (by omega), if_pos rfl]
theorem PS_p (f : Int32) {j : Nat} (hj : j < nA f) : PA f j = PS f (1 + j) := by
  funext c
  unfold PS; rw [if_neg (by omega), if_neg (by omega), show 1 + j - 1 = j by omega]
theorem n3 {m : Nat} (hm : m < 48) : 3 * nI m = nI (3 * m) := by
  have h : ∀ i : Fin 48, 3 * nI i.1 = nI (3 * i.1) := by decide +kernel
  exact h ⟨m, hm⟩

set_option maxRecDepth 100000 in
set_option maxHeartbeats 2000000 in
theorem m_readsDigits {G : tg_G} {l : List tg_Cl} {h : tp_H} {y : tp_Y} {la lt tl : tp_A} {r m : Nat} (hl : yTd y ≤ 96) (hr : r ≤ yTd y) {kI : Int32} {k cnt : Nat} (ek : kI = nI k) (hk : k < 144) (hc : cnt ≤ 2) : tg_C G 2 mX11_readsDigits 0 0 [.ref 64, .int kI, .int (nI cnt)] (l, tm_cs h (rY y la lt tl r m)) (rdQ l h y la lt r m (fun _ => isD) cnt (tg_u tl k (vL y r cnt))) := by
  subst ek
  refine tg_intro okX11_readsDigits (Nat.le_of_ble_eq_true rfl) ?_
  refine tg_steps 4 rfl ?_
  refine tg_pkV [0, 1, 2, 3, 4] ?_
  refine tg_eqS (L2 := [(0, .ref 64), (1, .int (nI k)), (2, .int (nI cnt)), (3, .int (vL y r (0))), (4, .int (nI (0)))]) (st2 := []) (w2 := (l, tm_cs h (rY y (la) (lt) (tl) (r + (0)) (m)))) rfl rfl rfl ?_
  refine tg_down (φ := fun i : Nat => (mtc (fun _ => isD) y r (i)) → tg_V G 2 mX11_readsDigits 0 0 0 0 (rdQ l h y la lt r m (fun _ => isD) cnt (tg_u tl k (vL y r cnt))) 5 [(0, .ref 64), (1, .int (nI k)), (2, .int (nI cnt)), (3, .int (vL y r (i))), (4, .int (nI (i)))] [] (l, tm_cs h (rY y (la) (lt) (tl) (r + (i)) (m)))) (n := cnt) ?_ ?_ 0 (Nat.zero_le _) (mtc_0 _ y r)
  · intro hinv5
    refine tg_steps 2 rfl ?_
    refine tg_icge rfl rfl (fun h8 => ?_) (fun h8 => ?_)
    · refine tg_steps 4 rfl ?_
      refine tg_iastN rfl rfl (k) rfl hk (by decide) ?_
      refine tg_eqW (w2 := (l, tm_cs h (rY y (la) (lt) (tg_u tl k (vL y r cnt)) (r + cnt) (m)))) rfl ?_
      refine tg_steps 1 rfl ?_
      exact tg_zret (st := []) rfl rfl ⟨Nat.le_of_ble_eq_true rfl, Nat.le_of_ble_eq_true rfl⟩ (by first | exact tg_b1 _ | exact Or.inl rfl | exact Or.inr rfl) (Or.inl ⟨rfl, rfl, hinv5⟩)
    · exact absurd (nI_le (Nat.le_refl _) (by omega)) h8
  · intro i hi5 ih5 hinv5
    refine tg_steps 2 rfl ?_
    refine tg_icge rfl rfl (fun h8 => ?_) (fun h8 => ?_)
    · exact absurd h8 (nI_ge hi5 (by omega))
    · refine tg_steps 1 rfl ?_
      refine tg_callV rfl (m_letterNow (l := l) (h := h) (y := rY y la lt tl (r + i) m) hl (Nat.le_trans (mtc_le hl hr (fun _ _ => isD_m1) hinv5) hl)) rfl rfl rfl rfl rfl (fun v12 w12 q12 => ?_)
      obtain ⟨rfl, rfl⟩ := q12
      refine tg_steps 2 rfl ?_
      refine tg_call1 rfl (m_isIn _ _ _) rfl rfl rfl  (fun v19 w19 q19 => ?_)
      obtain ⟨rfl, rfl⟩ := q19
      refine tg_ifbne rfl rfl (fun h22 => ?_) (fun h22 => ?_)
      · refine tg_steps 4 rfl ?_
        refine tg_callV rfl (m_letterNow (l := l) (h := h) (y := rY y la lt tl (r + i) m) hl (Nat.le_trans (mtc_le hl hr (fun _ _ => isD_m1) hinv5) hl)) rfl rfl rfl rfl rfl (fun v32 w32 q32 => ?_)
        obtain ⟨rfl, rfl⟩ := q32
        refine tg_steps 11 rfl ?_
        refine tg_eqW (r_Rd (r2 := r + (i + 1)) (nI_p1 (r + i))) ?_
        refine tg_steps 1 rfl ?_
        refine tg_pkV [0, 1, 2, 3, 4] ?_
        refine tg_eqS (L2 := [(0, .ref 64), (1, .int (nI k)), (2, .int (nI cnt)), (3, .int (vL y r (i + 1))), (4, .int (nI (i + 1)))]) (st2 := []) (w2 := (l, tm_cs h (rY y (la) (lt) (tl) (r + (i + 1)) (m)))) (by rw [nI_succ]; rfl) rfl rfl ?_
        exact ih5 (mtc_s hinv5 h22)
      · refine tg_steps 1 rfl ?_
        exact tg_zret (st := []) rfl rfl ⟨Nat.le_of_ble_eq_true rfl, Nat.le_of_ble_eq_true rfl⟩ (by first | exact tg_b1 _ | exact Or.inl rfl | exact Or.inr rfl) (Or.inr ⟨i, tl, hi5, rfl, rfl, hinv5, h22⟩)
set_option maxRecDepth 100000 in
set_option maxHeartbeats 2000000 in
theorem m_readsLittle {G : tg_G} {l : List tg_Cl} {h : tp_H} {y : tp_Y} {la lt tl : tp_A} {r m : Nat} (hl : yTd y ≤ 96) (hr : r ≤ yTd y) {kI : Int32} {k : Nat} (ek : kI = nI k) (hk : k + 2 < 144) : tg_C G 3 mX11_readsLittle 0 0 [.ref 64, .int kI] (l, tm_cs h (rY y la lt tl r m)) (rdQ l h y la lt r m PL 4 (TL y r tl k)) := by
  subst ek
  refine tg_intro okX11_readsLittle (Nat.le_of_ble_eq_true rfl) ?_
  refine tg_steps 4 rfl ?_
  refine tg_callV rfl (m_letterNow (l := l) (h := h) (y := rY y la lt tl r m) hl (Nat.le_trans hr hl)) rfl rfl rfl rfl rfl (fun v6 w6 q6 => ?_)
  obtain ⟨rfl, rfl⟩ := q6
  refine tg_call1 rfl (m_kindOf _) rfl rfl rfl  (fun v9 w9 q9 => ?_)
  obtain ⟨rfl, rfl⟩ := q9
  refine tg_iastN rfl rfl (k) rfl (by omega) (by decide) ?_
  refine tg_eqW (w2 := (l, tm_cs h (rY y (la) (lt) (tg_u tl k (koM (cAt y r))) (r) (m)))) rfl ?_
  refine tg_steps 3 rfl ?_
  refine tg_ialdN rfl rfl (k) rfl (by omega) (by decide) ?_
  refine tg_ifge rfl rfl (fun h19 => ?_) (fun h19 => ?_)
  · have h19b : 0 ≤ tg_u tl k (koM (cAt y r)) k := h19
    rw [tg_u_eq, if_pos rfl] at h19b
    have m1 : mtc PL y r 1 := mtc_s (mtc_0 PL y r) (decide_eq_true h19b)
    have hr1 : r + 1 ≤ yTd y := mtc_le hl hr (fun j _ => PL_m1 j) m1
    refine tg_steps 6 rfl ?_
    refine tg_eqW (r_Rd (r2 := r + 1) (nI_p1 r)) ?_
    refine tg_steps 5 rfl ?_
    refine tg_callV rfl (m_readsDigits (l := l) (h := h) (la := la) (lt := lt) (tl := tg_u tl k (koM (cAt y r))) (m := m) hl hr1 (kI := nI k + 1) (k := k + 1) (cnt := 1) (nI_p1 k) (by omega) (by omega)) rfl rfl rfl rfl rfl (fun v39 w39 q39 => ?_)
    obtain ⟨rfl, rfl, e39⟩ | ⟨i39, t39, b39, rfl, rfl, e39, g39⟩ := q39
    rotate_left
    · refine tg_ifbeq rfl rfl (fun _ => ?_) (fun hz => absurd hz (by decide))
      refine tg_steps 1 rfl ?_
      exact tg_zret (st := []) rfl rfl ⟨Nat.le_of_ble_eq_true rfl, Nat.le_of_ble_eq_true rfl⟩ (by first | exact tg_b1 _ | exact Or.inl rfl | exact Or.inr rfl) (rdQ_f (a := 1) m1 (by omega) e39 g39 (fun j hj => by funext c; unfold PL; rw [if_neg (by omega)]))
    refine tg_ifbeq rfl rfl (fun h42 => ?_) (fun h42 => ?_)
    · exact absurd h42 (by decide)
    · have m2 : mtc PL y r (1 + 1) := mtc_app m1 e39 (fun j hj => by funext c; unfold PL; rw [if_neg (by omega)])
      have hr2 : r + 1 + 1 ≤ yTd y := mtc_le hl hr (fun j _ => PL_m1 j) m2
      refine tg_steps 5 rfl ?_
      refine tg_callV rfl (m_readsDigits (l := l) (h := h) (la := la) (lt := lt) (tl := tg_u (tg_u tl k (koM (cAt y r))) (k + 1) (vL y (r + 1) 1)) (m := m) hl hr2 (kI := nI k + 2) (k := k + 2) (cnt := 2) (nI_p2 k) (by omega) (by omega)) rfl rfl rfl rfl rfl (fun v50 w50 q50 => ?_)
      obtain ⟨rfl, rfl, e50⟩ | ⟨i50, t50, b50, rfl, rfl, e50, g50⟩ := q50
      rotate_left
      · refine tg_ifbeq rfl rfl (fun _ => ?_) (fun hz => absurd hz (by decide))
        refine tg_steps 1 rfl ?_
        exact tg_zret (st := []) rfl rfl ⟨Nat.le_of_ble_eq_true rfl, Nat.le_of_ble_eq_true rfl⟩ (by first | exact tg_b1 _ | exact Or.inl rfl | exact Or.inr rfl) (rdQ_f (a := 1 + 1) m2 (by omega) e50 g50 (fun j hj => by funext c; unfold PL; rw [if_neg (by omega)]))
      refine tg_ifbeq rfl rfl (fun h53 => ?_) (fun h53 => ?_)
      · exact absurd h53 (by decide)
      · refine tg_steps 2 rfl ?_
        exact tg_zret (st := []) rfl rfl ⟨Nat.le_of_ble_eq_true rfl, Nat.le_of_ble_eq_true rfl⟩ (by first | exact tg_b1 _ | exact Or.inl rfl | exact Or.inr rfl) (rdQ_t (a := 1 + 1) m2 rfl e50 (fun j hj => by funext c; unfold PL; rw [if_neg (by omega)]))
  · have h19b : ¬ 0 ≤ tg_u tl k (koM (cAt y r)) k := h19
    rw [tg_u_eq, if_pos rfl] at h19b
    refine tg_steps 1 rfl ?_
    exact tg_zret (st := []) rfl rfl ⟨Nat.le_of_ble_eq_true rfl, Nat.le_of_ble_eq_true rfl⟩ (by first | exact tg_b1 _ | exact Or.inl rfl | exact Or.inr rfl) (Or.inr ⟨0, _, by omega, rfl, rfl, mtc_0 _ _ _, decide_eq_false h19b⟩)
set_option maxRecDepth 100000 in
set_option maxHeartbeats 2000000 in
theorem m_readsAll {G : tg_G} {l : List tg_Cl} {h : tp_H} {y : tp_Y} {la lt tl : tp_A} {r m : Nat} (hl : yTd y ≤ 96) (hr : r ≤ yTd y) (f : Int32) {kI : Int32} {k : Nat} (ek : kI = nI k) (hk : k + 2 < 144) : tg_C G 4 mX11_readsAll 0 0 [.ref 64, .int f, .int kI] (l, tm_cs h (rY y la lt tl r m)) (rdQ l h y la lt r m (PA f) (nA f) (TA f y r tl k)) := by
  subst ek
  refine tg_intro okX11_readsAll (Nat.le_of_ble_eq_true rfl) ?_
  refine tg_steps 1 rfl ?_
  refine tg_lsw rfl ?_
  refine And.intro (fun h1_0 => ?_) (fun h1_0 => ?_)
  · have h1_0 : f = 97 := h1_0
    subst h1_0
    refine tg_steps 3 rfl ?_
    refine tg_callV rfl (m_readsDigits (l := l) (h := h) (la := la) (lt := lt) (tl := tl) (m := m) hl hr (kI := nI k) (k := k) (cnt := 1) rfl (by omega) (by omega)) rfl rfl rfl rfl rfl (fun v45 w45 q45 => ?_)
    obtain ⟨rfl, rfl, e45⟩ | ⟨i45, t45, b45, rfl, rfl, e45, g45⟩ := q45
    rotate_left
    · refine tg_ifbeq rfl rfl (fun _ => ?_) (fun hz => absurd hz (by decide))
      refine tg_steps 1 rfl ?_
      exact tg_zret (st := []) rfl rfl ⟨Nat.le_of_ble_eq_true rfl, Nat.le_of_ble_eq_true rfl⟩ (by first | exact tg_b1 _ | exact Or.inl rfl | exact Or.inr rfl) (rdQ_f (a := 0) (mtc_0 _ _ _) (by have := b45; show 0 + i45 < 3; omega) e45 g45 (fun j hj => by funext c; unfold PA; rw [if_neg (by decide)]))
    refine tg_ifbeq rfl rfl (fun h48 => ?_) (fun h48 => ?_)
    · exact absurd h48 (by decide)
    · have mB : mtc (PA 97) y r 1 := mtc_app (a := 0) (b := 1) (mtc_0 _ _ _) e45 (fun j hj => by funext c; unfold PA; rw [if_neg (by decide)])
      have hrB : r + 1 ≤ yTd y := mtc_le hl hr (fun j _ => PA_m1 _ j) mB
      refine tg_steps 5 rfl ?_
      refine tg_callV rfl (m_readsDigits (l := l) (h := h) (la := la) (lt := lt) (tl := tg_u tl k (vL y r 1)) (m := m) hl hrB (kI := nI k + 1) (k := k + 1) (cnt := 2) (nI_p1 k) (by omega) (by omega)) rfl rfl rfl rfl rfl (fun v56 w56 q56 => ?_)
      obtain ⟨rfl, rfl, e56⟩ | ⟨i56, t56, b56, rfl, rfl, e56, g56⟩ := q56
      rotate_left
      · refine tg_ifbeq rfl rfl (fun _ => ?_) (fun hz => absurd hz (by decide))
        refine tg_steps 1 rfl ?_
        exact tg_zret (st := []) rfl rfl ⟨Nat.le_of_ble_eq_true rfl, Nat.le_of_ble_eq_true rfl⟩ (by first | exact tg_b1 _ | exact Or.inl rfl | exact Or.inr rfl) (rdQ_f (a := 1) mB (by have := b56; show 1 + i56 < 3; omega) e56 g56 (fun j hj => by funext c; unfold PA; rw [if_neg (by decide)]))
      refine tg_ifbeq rfl rfl (fun h59 => ?_) (fun h59 => ?_)
      · exact absurd h59 (by decide)
      · refine tg_steps 2 rfl ?_
        exact tg_zret (st := []) rfl rfl ⟨Nat.le_of_ble_eq_true rfl, Nat.le_of_ble_eq_true rfl⟩ (by first | exact tg_b1 _ | exact Or.inl rfl | exact Or.inr rfl) (rdQ_t (a := 1) mB rfl e56 (fun j hj => by funext c; unfold PA; rw [if_neg (by decide)]))
  refine And.intro (fun h1_1 => ?_) (fun h1_1 => ?_)
  · have h1_1 : f = 108 := h1_1
    subst h1_1
    refine tg_steps 2 rfl ?_
    refine tg_callV rfl (m_readsLittle (l := l) (h := h) (la := la) (lt := lt) (tl := tl) (m := m) hl hr (kI := nI k) (k := k) rfl hk) rfl rfl rfl rfl rfl (fun v38 w38 q38 => ?_)
    obtain ⟨rfl, rfl, e38⟩ | ⟨i38, t38, b38, rfl, rfl, e38, g38⟩ := q38
    rotate_left
    · exact tg_zret (st := []) rfl rfl ⟨Nat.le_of_ble_eq_true rfl, Nat.le_of_ble_eq_true rfl⟩ (by first | exact tg_b1 _ | exact Or.inl rfl | exact Or.inr rfl) (Or.inr ⟨i38, t38, b38, rfl, rfl, e38, g38⟩)
    exact tg_zret (st := []) rfl rfl ⟨Nat.le_of_ble_eq_true rfl, Nat.le_of_ble_eq_true rfl⟩ (by first | exact tg_b1 _ | exact Or.inl rfl | exact Or.inr rfl) (Or.inl ⟨rfl, rfl, e38⟩)
  refine And.intro (fun h1_2 => ?_) (fun h1_2 => ?_)
  · have h1_2 : f = 112 := h1_2
    subst h1_2
    refine tg_steps 3 rfl ?_
    refine tg_callV rfl (m_readsDigits (l := l) (h := h) (la := la) (lt := lt) (tl := tl) (m := m) hl hr (kI := nI k) (k := k) (cnt := 1) rfl (by omega) (by omega)) rfl rfl rfl rfl rfl (fun v71 w71 q71 => ?_)
    obtain ⟨rfl, rfl, e71⟩ | ⟨i71, t71, b71, rfl, rfl, e71, g71⟩ := q71
    rotate_left
    · refine tg_ifbeq rfl rfl (fun _ => ?_) (fun hz => absurd hz (by decide))
      refine tg_steps 1 rfl ?_
      exact tg_zret (st := []) rfl rfl ⟨Nat.le_of_ble_eq_true rfl, Nat.le_of_ble_eq_true rfl⟩ (by first | exact tg_b1 _ | exact Or.inl rfl | exact Or.inr rfl) (rdQ_f (a := 0) (mtc_0 _ _ _) (by have := b71; show 0 + i71 < 2; omega) e71 g71 (fun j hj => by funext c; unfold PA; rw [if_neg (by decide)]))
    refine tg_ifbeq rfl rfl (fun h74 => ?_) (fun h74 => ?_)
    · exact absurd h74 (by decide)
    · have mB : mtc (PA 112) y r 1 := mtc_app (a := 0) (b := 1) (mtc_0 _ _ _) e71 (fun j hj => by funext c; unfold PA; rw [if_neg (by decide)])
      have hrB : r + 1 ≤ yTd y := mtc_le hl hr (fun j _ => PA_m1 _ j) mB
      refine tg_steps 5 rfl ?_
      refine tg_callV rfl (m_readsDigits (l := l) (h := h) (la := la) (lt := lt) (tl := tg_u tl k (vL y r 1)) (m := m) hl hrB (kI := nI k + 1) (k := k + 1) (cnt := 1) (nI_p1 k) (by omega) (by omega)) rfl rfl rfl rfl rfl (fun v82 w82 q82 => ?_)
      obtain ⟨rfl, rfl, e82⟩ | ⟨i82, t82, b82, rfl, rfl, e82, g82⟩ := q82
      rotate_left
      · refine tg_ifbeq rfl rfl (fun _ => ?_) (fun hz => absurd hz (by decide))
        refine tg_steps 1 rfl ?_
        exact tg_zret (st := []) rfl rfl ⟨Nat.le_of_ble_eq_true rfl, Nat.le_of_ble_eq_true rfl⟩ (by first | exact tg_b1 _ | exact Or.inl rfl | exact Or.inr rfl) (rdQ_f (a := 1) mB (by have := b82; show 1 + i82 < 2; omega) e82 g82 (fun j hj => by funext c; unfold PA; rw [if_neg (by decide)]))
      refine tg_ifbeq rfl rfl (fun h85 => ?_) (fun h85 => ?_)
      · exact absurd h85 (by decide)
      · refine tg_steps 2 rfl ?_
        exact tg_zret (st := []) rfl rfl ⟨Nat.le_of_ble_eq_true rfl, Nat.le_of_ble_eq_true rfl⟩ (by first | exact tg_b1 _ | exact Or.inl rfl | exact Or.inr rfl) (rdQ_t (a := 1) mB rfl e82 (fun j hj => by funext c; unfold PA; rw [if_neg (by decide)]))
  have eN : nA f = 2 := by unfold nA; rw [if_neg h1_1, if_neg h1_0]
  have eT : TA f y r tl k = tg_u tl k (vL y r 2) := by unfold TA; rw [if_neg h1_1, if_neg h1_0, if_neg h1_2]
  refine tg_steps 3 rfl ?_
  refine tg_callV rfl (m_readsDigits (l := l) (h := h) (la := la) (lt := lt) (tl := tl) (m := m) hl hr (kI := nI k) (k := k) (cnt := 2) rfl (by omega) (by omega)) rfl rfl rfl rfl rfl (fun v97 w97 q97 => ?_)
  obtain ⟨rfl, rfl, e97⟩ | ⟨i97, t97, b97, rfl, rfl, e97, g97⟩ := q97
  rotate_left
  · exact tg_zret (st := []) rfl rfl ⟨Nat.le_of_ble_eq_true rfl, Nat.le_of_ble_eq_true rfl⟩ (by first | exact tg_b1 _ | exact Or.inl rfl | exact Or.inr rfl) (by rw [eN, eT]; exact rdQ_f (a := 0) (mtc_0 _ _ _) (by omega) e97 g97 (fun j hj => by funext c; unfold PA; rw [if_neg h1_1]))
  exact tg_zret (st := []) rfl rfl ⟨Nat.le_of_ble_eq_true rfl, Nat.le_of_ble_eq_true rfl⟩ (by first | exact tg_b1 _ | exact Or.inl rfl | exact Or.inr rfl) (by rw [eN, eT]; exact rdQ_t (a := 0) (mtc_0 _ _ _) rfl e97 (fun j hj => by funext c; unfold PA; rw [if_neg h1_1]))
set_option maxRecDepth 100000 in
set_option maxHeartbeats 2000000 in
theorem m_statement {G : tg_G} {l : List tg_Cl} {h : tp_H} {y : tp_Y} {la lt tl : tp_A} {r m : Nat} (hl : yTd y ≤ 96) (hr : r ≤ yTd y) (hm : m < 48) : tg_C G 5 mX11_statement 0 0 [.ref 64] (l, tm_cs h (rY y la lt tl r m)) (fun v w => (v = some (.int (tg_b true)) ∧ w = (l, tm_cs h (rY y (tg_u la m (cAt y r)) (tg_u lt m (nI r)) (TA (cAt y r) y (r + 1) tl (3 * m)) (r + (nA (cAt y r) + 1 + 1)) m)) ∧ mtc (PS (cAt y r)) y r (nA (cAt y r) + 1 + 1)) ∨ (∃ i la2 lt2 t2, i ≤ nA (cAt y r) + 1 ∧ v = some (.int (tg_b false)) ∧ w = (l, tm_cs h (rY y la2 lt2 t2 (r + i) m)) ∧ mtc (PS (cAt y r)) y r i ∧ PS (cAt y r) i (cAt y (r + i)) = false)) := by
  refine tg_intro okX11_statement (Nat.le_of_ble_eq_true rfl) ?_
  refine tg_steps 1 rfl ?_
  refine tg_callV rfl (m_letterNow (l := l) (h := h) (y := rY y la lt tl r m) hl (Nat.le_trans hr hl)) rfl rfl rfl rfl rfl (fun v1 w1 q1 => ?_)
  obtain ⟨rfl, rfl⟩ := q1
  refine tg_steps 3 rfl ?_
  refine tg_iceq rfl rfl (fun h8 => ?_) (fun h8 => ?_)
  · have hf : isF (cAt y r) = true := by unfold isF; rw [show cAt y r = 108 from h8]; decide
    have m1 : mtc (PS (cAt y r)) y r 1 := mtc_s (mtc_0 _ y r) hf
    have hr1 : r + 1 ≤ yTd y := by
      have h1 := cAt_lt hl hr (fun z => by rw [z] at hf; exact absurd hf (by decide))
      omega
    refine tg_steps 5 rfl ?_
    refine tg_iastN rfl rfl (m) rfl hm (by decide) ?_
    refine tg_eqW (w2 := (l, tm_cs h (rY y (tg_u la m (cAt y r)) (lt) (tl) (r) (m)))) rfl ?_
    refine tg_steps 6 rfl ?_
    refine tg_iastN rfl rfl (m) rfl hm (by decide) ?_
    refine tg_eqW (w2 := (l, tm_cs h (rY y (tg_u la m (cAt y r)) (tg_u lt m (nI r)) (tl) (r) (m)))) rfl ?_
    refine tg_steps 6 rfl ?_
    refine tg_eqW (r_Rd (r2 := r + 1) (nI_p1 r)) ?_
    refine tg_steps 6 rfl ?_
    refine tg_callV rfl (m_readsAll (l := l) (h := h) (la := tg_u la m (cAt y r)) (lt := tg_u lt m (nI r)) (tl := tl) (m := m) hl hr1 (cAt y r) (kI := 3 * nI m) (k := 3 * m) (n3 hm) (by omega)) rfl rfl rfl rfl rfl (fun v84 w84 q84 => ?_)
    obtain ⟨rfl, rfl, e84⟩ | ⟨i84, t84, b84, rfl, rfl, e84, g84⟩ := q84
    rotate_left
    · refine tg_ifbeq rfl rfl (fun _ => ?_) (fun hz => absurd hz (by decide))
      refine tg_steps 1 rfl ?_
      exact tg_zret (st := []) rfl rfl ⟨Nat.le_of_ble_eq_true rfl, Nat.le_of_ble_eq_true rfl⟩ (by first | exact tg_b1 _ | exact Or.inl rfl | exact Or.inr rfl) (Or.inr ⟨1 + i84, _, _, t84, by omega, rfl, by rw [Nat.add_assoc], mtc_app m1 e84 (fun j hj => PS_p _ (by omega)), by rw [← PS_p _ b84, ← Nat.add_assoc]; exact g84⟩)
    refine tg_ifbeq rfl rfl (fun h87 => ?_) (fun h87 => ?_)
    · exact absurd h87 (by decide)
    · have m2 : mtc (PS (cAt y r)) y r (nA (cAt y r) + 1) := by
        have h1 := mtc_app m1 e84 (fun j hj => PS_p _ hj)
        rw [Nat.add_comm 1] at h1
        exact h1
      have hr2 : r + (nA (cAt y r) + 1) ≤ 96 := by
        have h1 := mtc_le hl hr1 (fun j _ => PA_m1 _ j) e84
        omega
      refine tg_eqW (w2 := (l, tm_cs h (rY y (tg_u la m (cAt y r)) (tg_u lt m (nI r)) (TA (cAt y r) y (r + 1) tl (3 * m)) (r + (nA (cAt y r) + 1)) (m)))) (by rw [show r + 1 + nA (cAt y r) = r + (nA (cAt y r) + 1) by omega]) ?_
      refine tg_steps 1 rfl ?_
      refine tg_callV rfl (m_letterNow (l := l) (h := h) (y := rY y (tg_u la m (cAt y r)) (tg_u lt m (nI r)) (TA (cAt y r) y (r + 1) tl (3 * m)) (r + (nA (cAt y r) + 1)) m) hl hr2) rfl rfl rfl rfl rfl (fun v91 w91 q91 => ?_)
      obtain ⟨rfl, rfl⟩ := q91
      refine tg_steps 1 rfl ?_
      refine tg_iceq rfl rfl (fun h96 => ?_) (fun h96 => ?_)
      · have m3 : mtc (PS (cAt y r)) y r (nA (cAt y r) + 1 + 1) := mtc_s m2 (by rw [PS_e]; exact decide_eq_true h96)
        refine tg_steps 6 rfl ?_
        refine tg_eqW (r_Rd (r2 := r + (nA (cAt y r) + 1 + 1)) (nI_p1 (r + (nA (cAt y r) + 1)))) ?_
        refine tg_steps 1 rfl ?_
        exact tg_zret (st := []) rfl rfl ⟨Nat.le_of_ble_eq_true rfl, Nat.le_of_ble_eq_true rfl⟩ (by first | exact tg_b1 _ | exact Or.inl rfl | exact Or.inr rfl) (Or.inl ⟨rfl, rfl, m3⟩)
      · have g3 : PS (cAt y r) (nA (cAt y r) + 1) (cAt y (r + (nA (cAt y r) + 1))) = false := by rw [PS_e]; exact decide_eq_false h96
        refine tg_steps 1 rfl ?_
        exact tg_zret (st := []) rfl rfl ⟨Nat.le_of_ble_eq_true rfl, Nat.le_of_ble_eq_true rfl⟩ (by first | exact tg_b1 _ | exact Or.inl rfl | exact Or.inr rfl) (Or.inr ⟨nA (cAt y r) + 1, _, _, _, Nat.le_refl _, rfl, rfl, m2, g3⟩)
  · have k8 : ¬ cAt y r = 108 := h8
    refine tg_steps 2 rfl ?_
    refine tg_iceq rfl rfl (fun h14 => ?_) (fun h14 => ?_)
    · have hf : isF (cAt y r) = true := by unfold isF; rw [show cAt y r = 97 from h14]; decide
      have m1 : mtc (PS (cAt y r)) y r 1 := mtc_s (mtc_0 _ y r) hf
      have hr1 : r + 1 ≤ yTd y := by
        have h1 := cAt_lt hl hr (fun z => by rw [z] at hf; exact absurd hf (by decide))
        omega
      refine tg_steps 5 rfl ?_
      refine tg_iastN rfl rfl (m) rfl hm (by decide) ?_
      refine tg_eqW (w2 := (l, tm_cs h (rY y (tg_u la m (cAt y r)) (lt) (tl) (r) (m)))) rfl ?_
      refine tg_steps 6 rfl ?_
      refine tg_iastN rfl rfl (m) rfl hm (by decide) ?_
      refine tg_eqW (w2 := (l, tm_cs h (rY y (tg_u la m (cAt y r)) (tg_u lt m (nI r)) (tl) (r) (m)))) rfl ?_
      refine tg_steps 6 rfl ?_
      refine tg_eqW (r_Rd (r2 := r + 1) (nI_p1 r)) ?_
      refine tg_steps 6 rfl ?_
      refine tg_callV rfl (m_readsAll (l := l) (h := h) (la := tg_u la m (cAt y r)) (lt := tg_u lt m (nI r)) (tl := tl) (m := m) hl hr1 (cAt y r) (kI := 3 * nI m) (k := 3 * m) (n3 hm) (by omega)) rfl rfl rfl rfl rfl (fun v84 w84 q84 => ?_)
      obtain ⟨rfl, rfl, e84⟩ | ⟨i84, t84, b84, rfl, rfl, e84, g84⟩ := q84
      rotate_left
      · refine tg_ifbeq rfl rfl (fun _ => ?_) (fun hz => absurd hz (by decide))
        refine tg_steps 1 rfl ?_
        exact tg_zret (st := []) rfl rfl ⟨Nat.le_of_ble_eq_true rfl, Nat.le_of_ble_eq_true rfl⟩ (by first | exact tg_b1 _ | exact Or.inl rfl | exact Or.inr rfl) (Or.inr ⟨1 + i84, _, _, t84, by omega, rfl, by rw [Nat.add_assoc], mtc_app m1 e84 (fun j hj => PS_p _ (by omega)), by rw [← PS_p _ b84, ← Nat.add_assoc]; exact g84⟩)
      refine tg_ifbeq rfl rfl (fun h87 => ?_) (fun h87 => ?_)
      · exact absurd h87 (by decide)
      · have m2 : mtc (PS (cAt y r)) y r (nA (cAt y r) + 1) := by
          have h1 := mtc_app m1 e84 (fun j hj => PS_p _ hj)
          rw [Nat.add_comm 1] at h1
          exact h1
        have hr2 : r + (nA (cAt y r) + 1) ≤ 96 := by
          have h1 := mtc_le hl hr1 (fun j _ => PA_m1 _ j) e84
          omega
        refine tg_eqW (w2 := (l, tm_cs h (rY y (tg_u la m (cAt y r)) (tg_u lt m (nI r)) (TA (cAt y r) y (r + 1) tl (3 * m)) (r + (nA (cAt y r) + 1)) (m)))) (by rw [show r + 1 + nA (cAt y r) = r + (nA (cAt y r) + 1) by omega]) ?_
        refine tg_steps 1 rfl ?_
        refine tg_callV rfl (m_letterNow (l := l) (h := h) (y := rY y (tg_u la m (cAt y r)) (tg_u lt m (nI r)) (TA (cAt y r) y (r + 1) tl (3 * m)) (r + (nA (cAt y r) + 1)) m) hl hr2) rfl rfl rfl rfl rfl (fun v91 w91 q91 => ?_)
        obtain ⟨rfl, rfl⟩ := q91
        refine tg_steps 1 rfl ?_
        refine tg_iceq rfl rfl (fun h96 => ?_) (fun h96 => ?_)
        · have m3 : mtc (PS (cAt y r)) y r (nA (cAt y r) + 1 + 1) := mtc_s m2 (by rw [PS_e]; exact decide_eq_true h96)
          refine tg_steps 6 rfl ?_
          refine tg_eqW (r_Rd (r2 := r + (nA (cAt y r) + 1 + 1)) (nI_p1 (r + (nA (cAt y r) + 1)))) ?_
          refine tg_steps 1 rfl ?_
          exact tg_zret (st := []) rfl rfl ⟨Nat.le_of_ble_eq_true rfl, Nat.le_of_ble_eq_true rfl⟩ (by first | exact tg_b1 _ | exact Or.inl rfl | exact Or.inr rfl) (Or.inl ⟨rfl, rfl, m3⟩)
        · have g3 : PS (cAt y r) (nA (cAt y r) + 1) (cAt y (r + (nA (cAt y r) + 1))) = false := by rw [PS_e]; exact decide_eq_false h96
          refine tg_steps 1 rfl ?_
          exact tg_zret (st := []) rfl rfl ⟨Nat.le_of_ble_eq_true rfl, Nat.le_of_ble_eq_true rfl⟩ (by first | exact tg_b1 _ | exact Or.inl rfl | exact Or.inr rfl) (Or.inr ⟨nA (cAt y r) + 1, _, _, _, Nat.le_refl _, rfl, rfl, m2, g3⟩)
    · have k14 : ¬ cAt y r = 97 := h14
      refine tg_steps 2 rfl ?_
      refine tg_iceq rfl rfl (fun h20 => ?_) (fun h20 => ?_)
      · have hf : isF (cAt y r) = true := by unfold isF; rw [show cAt y r = 99 from h20]; decide
        have m1 : mtc (PS (cAt y r)) y r 1 := mtc_s (mtc_0 _ y r) hf
        have hr1 : r + 1 ≤ yTd y := by
          have h1 := cAt_lt hl hr (fun z => by rw [z] at hf; exact absurd hf (by decide))
          omega
        refine tg_steps 5 rfl ?_
        refine tg_iastN rfl rfl (m) rfl hm (by decide) ?_
        refine tg_eqW (w2 := (l, tm_cs h (rY y (tg_u la m (cAt y r)) (lt) (tl) (r) (m)))) rfl ?_
        refine tg_steps 6 rfl ?_
        refine tg_iastN rfl rfl (m) rfl hm (by decide) ?_
        refine tg_eqW (w2 := (l, tm_cs h (rY y (tg_u la m (cAt y r)) (tg_u lt m (nI r)) (tl) (r) (m)))) rfl ?_
        refine tg_steps 6 rfl ?_
        refine tg_eqW (r_Rd (r2 := r + 1) (nI_p1 r)) ?_
        refine tg_steps 6 rfl ?_
        refine tg_callV rfl (m_readsAll (l := l) (h := h) (la := tg_u la m (cAt y r)) (lt := tg_u lt m (nI r)) (tl := tl) (m := m) hl hr1 (cAt y r) (kI := 3 * nI m) (k := 3 * m) (n3 hm) (by omega)) rfl rfl rfl rfl rfl (fun v84 w84 q84 => ?_)
        obtain ⟨rfl, rfl, e84⟩ | ⟨i84, t84, b84, rfl, rfl, e84, g84⟩ := q84
        rotate_left
        · refine tg_ifbeq rfl rfl (fun _ => ?_) (fun hz => absurd hz (by decide))
          refine tg_steps 1 rfl ?_
          exact tg_zret (st := []) rfl rfl ⟨Nat.le_of_ble_eq_true rfl, Nat.le_of_ble_eq_true rfl⟩ (by first | exact tg_b1 _ | exact Or.inl rfl | exact Or.inr rfl) (Or.inr ⟨1 + i84, _, _, t84, by omega, rfl, by rw [Nat.add_assoc], mtc_app m1 e84 (fun j hj => PS_p _ (by omega)), by rw [← PS_p _ b84, ← Nat.add_assoc]; exact g84⟩)
        refine tg_ifbeq rfl rfl (fun h87 => ?_) (fun h87 => ?_)
        · exact absurd h87 (by decide)
        · have m2 : mtc (PS (cAt y r)) y r (nA (cAt y r) + 1) := by
            have h1 := mtc_app m1 e84 (fun j hj => PS_p _ hj)
            rw [Nat.add_comm 1] at h1
            exact h1
          have hr2 : r + (nA (cAt y r) + 1) ≤ 96 := by
            have h1 := mtc_le hl hr1 (fun j _ => PA_m1 _ j) e84
            omega
          refine tg_eqW (w2 := (l, tm_cs h (rY y (tg_u la m (cAt y r)) (tg_u lt m (nI r)) (TA (cAt y r) y (r + 1) tl (3 * m)) (r + (nA (cAt y r) + 1)) (m)))) (by rw [show r + 1 + nA (cAt y r) = r + (nA (cAt y r) + 1) by omega]) ?_
          refine tg_steps 1 rfl ?_
          refine tg_callV rfl (m_letterNow (l := l) (h := h) (y := rY y (tg_u la m (cAt y r)) (tg_u lt m (nI r)) (TA (cAt y r) y (r + 1) tl (3 * m)) (r + (nA (cAt y r) + 1)) m) hl hr2) rfl rfl rfl rfl rfl (fun v91 w91 q91 => ?_)
          obtain ⟨rfl, rfl⟩ := q91
          refine tg_steps 1 rfl ?_
          refine tg_iceq rfl rfl (fun h96 => ?_) (fun h96 => ?_)
          · have m3 : mtc (PS (cAt y r)) y r (nA (cAt y r) + 1 + 1) := mtc_s m2 (by rw [PS_e]; exact decide_eq_true h96)
            refine tg_steps 6 rfl ?_
            refine tg_eqW (r_Rd (r2 := r + (nA (cAt y r) + 1 + 1)) (nI_p1 (r + (nA (cAt y r) + 1)))) ?_
            refine tg_steps 1 rfl ?_
            exact tg_zret (st := []) rfl rfl ⟨Nat.le_of_ble_eq_true rfl, Nat.le_of_ble_eq_true rfl⟩ (by first | exact tg_b1 _ | exact Or.inl rfl | exact Or.inr rfl) (Or.inl ⟨rfl, rfl, m3⟩)
          · have g3 : PS (cAt y r) (nA (cAt y r) + 1) (cAt y (r + (nA (cAt y r) + 1))) = false := by rw [PS_e]; exact decide_eq_false h96
            refine tg_steps 1 rfl ?_
            exact tg_zret (st := []) rfl rfl ⟨Nat.le_of_ble_eq_true rfl, Nat.le_of_ble_eq_true rfl⟩ (by first | exact tg_b1 _ | exact Or.inl rfl | exact Or.inr rfl) (Or.inr ⟨nA (cAt y r) + 1, _, _, _, Nat.le_refl _, rfl, rfl, m2, g3⟩)
      · have k20 : ¬ cAt y r = 99 := h20
        refine tg_steps 2 rfl ?_
        refine tg_iceq rfl rfl (fun h26 => ?_) (fun h26 => ?_)
        · have hf : isF (cAt y r) = true := by unfold isF; rw [show cAt y r = 115 from h26]; decide
          have m1 : mtc (PS (cAt y r)) y r 1 := mtc_s (mtc_0 _ y r) hf
          have hr1 : r + 1 ≤ yTd y := by
            have h1 := cAt_lt hl hr (fun z => by rw [z] at hf; exact absurd hf (by decide))
            omega
          refine tg_steps 5 rfl ?_
          refine tg_iastN rfl rfl (m) rfl hm (by decide) ?_
          refine tg_eqW (w2 := (l, tm_cs h (rY y (tg_u la m (cAt y r)) (lt) (tl) (r) (m)))) rfl ?_
          refine tg_steps 6 rfl ?_
          refine tg_iastN rfl rfl (m) rfl hm (by decide) ?_
          refine tg_eqW (w2 := (l, tm_cs h (rY y (tg_u la m (cAt y r)) (tg_u lt m (nI r)) (tl) (r) (m)))) rfl ?_
          refine tg_steps 6 rfl ?_
          refine tg_eqW (r_Rd (r2 := r + 1) (nI_p1 r)) ?_
          refine tg_steps 6 rfl ?_
          refine tg_callV rfl (m_readsAll (l := l) (h := h) (la := tg_u la m (cAt y r)) (lt := tg_u lt m (nI r)) (tl := tl) (m := m) hl hr1 (cAt y r) (kI := 3 * nI m) (k := 3 * m) (n3 hm) (by omega)) rfl rfl rfl rfl rfl (fun v84 w84 q84 => ?_)
          obtain ⟨rfl, rfl, e84⟩ | ⟨i84, t84, b84, rfl, rfl, e84, g84⟩ := q84
          rotate_left
          · refine tg_ifbeq rfl rfl (fun _ => ?_) (fun hz => absurd hz (by decide))
            refine tg_steps 1 rfl ?_
            exact tg_zret (st := []) rfl rfl ⟨Nat.le_of_ble_eq_true rfl, Nat.le_of_ble_eq_true rfl⟩ (by first | exact tg_b1 _ | exact Or.inl rfl | exact Or.inr rfl) (Or.inr ⟨1 + i84, _, _, t84, by omega, rfl, by rw [Nat.add_assoc], mtc_app m1 e84 (fun j hj => PS_p _ (by omega)), by rw [← PS_p _ b84, ← Nat.add_assoc]; exact g84⟩)
          refine tg_ifbeq rfl rfl (fun h87 => ?_) (fun h87 => ?_)
          · exact absurd h87 (by decide)
          · have m2 : mtc (PS (cAt y r)) y r (nA (cAt y r) + 1) := by
              have h1 := mtc_app m1 e84 (fun j hj => PS_p _ hj)
              rw [Nat.add_comm 1] at h1
              exact h1
            have hr2 : r + (nA (cAt y r) + 1) ≤ 96 := by
              have h1 := mtc_le hl hr1 (fun j _ => PA_m1 _ j) e84
              omega
            refine tg_eqW (w2 := (l, tm_cs h (rY y (tg_u la m (cAt y r)) (tg_u lt m (nI r)) (TA (cAt y r) y (r + 1) tl (3 * m)) (r + (nA (cAt y r) + 1)) (m)))) (by rw [show r + 1 + nA (cAt y r) = r + (nA (cAt y r) + 1) by omega]) ?_
            refine tg_steps 1 rfl ?_
            refine tg_callV rfl (m_letterNow (l := l) (h := h) (y := rY y (tg_u la m (cAt y r)) (tg_u lt m (nI r)) (TA (cAt y r) y (r + 1) tl (3 * m)) (r + (nA (cAt y r) + 1)) m) hl hr2) rfl rfl rfl rfl rfl (fun v91 w91 q91 => ?_)
            obtain ⟨rfl, rfl⟩ := q91
            refine tg_steps 1 rfl ?_
            refine tg_iceq rfl rfl (fun h96 => ?_) (fun h96 => ?_)
            · have m3 : mtc (PS (cAt y r)) y r (nA (cAt y r) + 1 + 1) := mtc_s m2 (by rw [PS_e]; exact decide_eq_true h96)
              refine tg_steps 6 rfl ?_
              refine tg_eqW (r_Rd (r2 := r + (nA (cAt y r) + 1 + 1)) (nI_p1 (r + (nA (cAt y r) + 1)))) ?_
              refine tg_steps 1 rfl ?_
              exact tg_zret (st := []) rfl rfl ⟨Nat.le_of_ble_eq_true rfl, Nat.le_of_ble_eq_true rfl⟩ (by first | exact tg_b1 _ | exact Or.inl rfl | exact Or.inr rfl) (Or.inl ⟨rfl, rfl, m3⟩)
            · have g3 : PS (cAt y r) (nA (cAt y r) + 1) (cAt y (r + (nA (cAt y r) + 1))) = false := by rw [PS_e]; exact decide_eq_false h96
              refine tg_steps 1 rfl ?_
              exact tg_zret (st := []) rfl rfl ⟨Nat.le_of_ble_eq_true rfl, Nat.le_of_ble_eq_true rfl⟩ (by first | exact tg_b1 _ | exact Or.inl rfl | exact Or.inr rfl) (Or.inr ⟨nA (cAt y r) + 1, _, _, _, Nat.le_refl _, rfl, rfl, m2, g3⟩)
        · have k26 : ¬ cAt y r = 115 := h26
          refine tg_steps 2 rfl ?_
          refine tg_iceq rfl rfl (fun h32 => ?_) (fun h32 => ?_)
          · have hf : isF (cAt y r) = true := by unfold isF; rw [show cAt y r = 112 from h32]; decide
            have m1 : mtc (PS (cAt y r)) y r 1 := mtc_s (mtc_0 _ y r) hf
            have hr1 : r + 1 ≤ yTd y := by
              have h1 := cAt_lt hl hr (fun z => by rw [z] at hf; exact absurd hf (by decide))
              omega
            refine tg_steps 5 rfl ?_
            refine tg_iastN rfl rfl (m) rfl hm (by decide) ?_
            refine tg_eqW (w2 := (l, tm_cs h (rY y (tg_u la m (cAt y r)) (lt) (tl) (r) (m)))) rfl ?_
            refine tg_steps 6 rfl ?_
            refine tg_iastN rfl rfl (m) rfl hm (by decide) ?_
            refine tg_eqW (w2 := (l, tm_cs h (rY y (tg_u la m (cAt y r)) (tg_u lt m (nI r)) (tl) (r) (m)))) rfl ?_
            refine tg_steps 6 rfl ?_
            refine tg_eqW (r_Rd (r2 := r + 1) (nI_p1 r)) ?_
            refine tg_steps 6 rfl ?_
            refine tg_callV rfl (m_readsAll (l := l) (h := h) (la := tg_u la m (cAt y r)) (lt := tg_u lt m (nI r)) (tl := tl) (m := m) hl hr1 (cAt y r) (kI := 3 * nI m) (k := 3 * m) (n3 hm) (by omega)) rfl rfl rfl rfl rfl (fun v84 w84 q84 => ?_)
            obtain ⟨rfl, rfl, e84⟩ | ⟨i84, t84, b84, rfl, rfl, e84, g84⟩ := q84
            rotate_left
            · refine tg_ifbeq rfl rfl (fun _ => ?_) (fun hz => absurd hz (by decide))
              refine tg_steps 1 rfl ?_
              exact tg_zret (st := []) rfl rfl ⟨Nat.le_of_ble_eq_true rfl, Nat.le_of_ble_eq_true rfl⟩ (by first | exact tg_b1 _ | exact Or.inl rfl | exact Or.inr rfl) (Or.inr ⟨1 + i84, _, _, t84, by omega, rfl, by rw [Nat.add_assoc], mtc_app m1 e84 (fun j hj => PS_p _ (by omega)), by rw [← PS_p _ b84, ← Nat.add_assoc]; exact g84⟩)
            refine tg_ifbeq rfl rfl (fun h87 => ?_) (fun h87 => ?_)
            · exact absurd h87 (by decide)
            · have m2 : mtc (PS (cAt y r)) y r (nA (cAt y r) + 1) := by
                have h1 := mtc_app m1 e84 (fun j hj => PS_p _ hj)
                rw [Nat.add_comm 1] at h1
                exact h1
              have hr2 : r + (nA (cAt y r) + 1) ≤ 96 := by
                have h1 := mtc_le hl hr1 (fun j _ => PA_m1 _ j) e84
                omega
              refine tg_eqW (w2 := (l, tm_cs h (rY y (tg_u la m (cAt y r)) (tg_u lt m (nI r)) (TA (cAt y r) y (r + 1) tl (3 * m)) (r + (nA (cAt y r) + 1)) (m)))) (by rw [show r + 1 + nA (cAt y r) = r + (nA (cAt y r) + 1) by omega]) ?_
              refine tg_steps 1 rfl ?_
              refine tg_callV rfl (m_letterNow (l := l) (h := h) (y := rY y (tg_u la m (cAt y r)) (tg_u lt m (nI r)) (TA (cAt y r) y (r + 1) tl (3 * m)) (r + (nA (cAt y r) + 1)) m) hl hr2) rfl rfl rfl rfl rfl (fun v91 w91 q91 => ?_)
              obtain ⟨rfl, rfl⟩ := q91
              refine tg_steps 1 rfl ?_
              refine tg_iceq rfl rfl (fun h96 => ?_) (fun h96 => ?_)
              · have m3 : mtc (PS (cAt y r)) y r (nA (cAt y r) + 1 + 1) := mtc_s m2 (by rw [PS_e]; exact decide_eq_true h96)
                refine tg_steps 6 rfl ?_
                refine tg_eqW (r_Rd (r2 := r + (nA (cAt y r) + 1 + 1)) (nI_p1 (r + (nA (cAt y r) + 1)))) ?_
                refine tg_steps 1 rfl ?_
                exact tg_zret (st := []) rfl rfl ⟨Nat.le_of_ble_eq_true rfl, Nat.le_of_ble_eq_true rfl⟩ (by first | exact tg_b1 _ | exact Or.inl rfl | exact Or.inr rfl) (Or.inl ⟨rfl, rfl, m3⟩)
              · have g3 : PS (cAt y r) (nA (cAt y r) + 1) (cAt y (r + (nA (cAt y r) + 1))) = false := by rw [PS_e]; exact decide_eq_false h96
                refine tg_steps 1 rfl ?_
                exact tg_zret (st := []) rfl rfl ⟨Nat.le_of_ble_eq_true rfl, Nat.le_of_ble_eq_true rfl⟩ (by first | exact tg_b1 _ | exact Or.inl rfl | exact Or.inr rfl) (Or.inr ⟨nA (cAt y r) + 1, _, _, _, Nat.le_refl _, rfl, rfl, m2, g3⟩)
          · have k32 : ¬ cAt y r = 112 := h32
            refine tg_steps 2 rfl ?_
            refine tg_iceq rfl rfl (fun h38 => ?_) (fun h38 => ?_)
            · have hf : isF (cAt y r) = true := by unfold isF; rw [show cAt y r = 110 from h38]; decide
              have m1 : mtc (PS (cAt y r)) y r 1 := mtc_s (mtc_0 _ y r) hf
              have hr1 : r + 1 ≤ yTd y := by
                have h1 := cAt_lt hl hr (fun z => by rw [z] at hf; exact absurd hf (by decide))
                omega
              refine tg_steps 5 rfl ?_
              refine tg_iastN rfl rfl (m) rfl hm (by decide) ?_
              refine tg_eqW (w2 := (l, tm_cs h (rY y (tg_u la m (cAt y r)) (lt) (tl) (r) (m)))) rfl ?_
              refine tg_steps 6 rfl ?_
              refine tg_iastN rfl rfl (m) rfl hm (by decide) ?_
              refine tg_eqW (w2 := (l, tm_cs h (rY y (tg_u la m (cAt y r)) (tg_u lt m (nI r)) (tl) (r) (m)))) rfl ?_
              refine tg_steps 6 rfl ?_
              refine tg_eqW (r_Rd (r2 := r + 1) (nI_p1 r)) ?_
              refine tg_steps 6 rfl ?_
              refine tg_callV rfl (m_readsAll (l := l) (h := h) (la := tg_u la m (cAt y r)) (lt := tg_u lt m (nI r)) (tl := tl) (m := m) hl hr1 (cAt y r) (kI := 3 * nI m) (k := 3 * m) (n3 hm) (by omega)) rfl rfl rfl rfl rfl (fun v84 w84 q84 => ?_)
              obtain ⟨rfl, rfl, e84⟩ | ⟨i84, t84, b84, rfl, rfl, e84, g84⟩ := q84
              rotate_left
              · refine tg_ifbeq rfl rfl (fun _ => ?_) (fun hz => absurd hz (by decide))
                refine tg_steps 1 rfl ?_
                exact tg_zret (st := []) rfl rfl ⟨Nat.le_of_ble_eq_true rfl, Nat.le_of_ble_eq_true rfl⟩ (by first | exact tg_b1 _ | exact Or.inl rfl | exact Or.inr rfl) (Or.inr ⟨1 + i84, _, _, t84, by omega, rfl, by rw [Nat.add_assoc], mtc_app m1 e84 (fun j hj => PS_p _ (by omega)), by rw [← PS_p _ b84, ← Nat.add_assoc]; exact g84⟩)
              refine tg_ifbeq rfl rfl (fun h87 => ?_) (fun h87 => ?_)
              · exact absurd h87 (by decide)
              · have m2 : mtc (PS (cAt y r)) y r (nA (cAt y r) + 1) := by
                  have h1 := mtc_app m1 e84 (fun j hj => PS_p _ hj)
                  rw [Nat.add_comm 1] at h1
                  exact h1
                have hr2 : r + (nA (cAt y r) + 1) ≤ 96 := by
                  have h1 := mtc_le hl hr1 (fun j _ => PA_m1 _ j) e84
                  omega
                refine tg_eqW (w2 := (l, tm_cs h (rY y (tg_u la m (cAt y r)) (tg_u lt m (nI r)) (TA (cAt y r) y (r + 1) tl (3 * m)) (r + (nA (cAt y r) + 1)) (m)))) (by rw [show r + 1 + nA (cAt y r) = r + (nA (cAt y r) + 1) by omega]) ?_
                refine tg_steps 1 rfl ?_
                refine tg_callV rfl (m_letterNow (l := l) (h := h) (y := rY y (tg_u la m (cAt y r)) (tg_u lt m (nI r)) (TA (cAt y r) y (r + 1) tl (3 * m)) (r + (nA (cAt y r) + 1)) m) hl hr2) rfl rfl rfl rfl rfl (fun v91 w91 q91 => ?_)
                obtain ⟨rfl, rfl⟩ := q91
                refine tg_steps 1 rfl ?_
                refine tg_iceq rfl rfl (fun h96 => ?_) (fun h96 => ?_)
                · have m3 : mtc (PS (cAt y r)) y r (nA (cAt y r) + 1 + 1) := mtc_s m2 (by rw [PS_e]; exact decide_eq_true h96)
                  refine tg_steps 6 rfl ?_
                  refine tg_eqW (r_Rd (r2 := r + (nA (cAt y r) + 1 + 1)) (nI_p1 (r + (nA (cAt y r) + 1)))) ?_
                  refine tg_steps 1 rfl ?_
                  exact tg_zret (st := []) rfl rfl ⟨Nat.le_of_ble_eq_true rfl, Nat.le_of_ble_eq_true rfl⟩ (by first | exact tg_b1 _ | exact Or.inl rfl | exact Or.inr rfl) (Or.inl ⟨rfl, rfl, m3⟩)
                · have g3 : PS (cAt y r) (nA (cAt y r) + 1) (cAt y (r + (nA (cAt y r) + 1))) = false := by rw [PS_e]; exact decide_eq_false h96
                  refine tg_steps 1 rfl ?_
                  exact tg_zret (st := []) rfl rfl ⟨Nat.le_of_ble_eq_true rfl, Nat.le_of_ble_eq_true rfl⟩ (by first | exact tg_b1 _ | exact Or.inl rfl | exact Or.inr rfl) (Or.inr ⟨nA (cAt y r) + 1, _, _, _, Nat.le_refl _, rfl, rfl, m2, g3⟩)
            · have k38 : ¬ cAt y r = 110 := h38
              refine tg_steps 1 rfl ?_
              exact tg_zret (st := []) rfl rfl ⟨Nat.le_of_ble_eq_true rfl, Nat.le_of_ble_eq_true rfl⟩ (by first | exact tg_b1 _ | exact Or.inl rfl | exact Or.inr rfl) (Or.inr ⟨0, la, lt, tl, Nat.zero_le _, rfl, rfl, mtc_0 _ _ _, by rw [PS_0]; unfold isF; rw [if_neg k8, if_neg k14, if_neg k20, if_neg k26, if_neg k32, if_neg k38]⟩)
