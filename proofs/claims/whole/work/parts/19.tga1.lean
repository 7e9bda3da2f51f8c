/-! what the public methods answer: w.. the refusal (0: none), a.. the answer -/
def rfB (k : Int32) : Bool := decide (k = -1 ∨ k = -2 ∨ k = -3 ∨ k = -4 ∨ k = -6)
theorem rf_j {k : Int32} (h : rfB k = true) : (¬ 0 ≤ k ∧ ¬ k < -6 ∧ ¬ k = 0) ∧ ∃ j : Nat, j < 7 ∧ -k = nI j ∧ (-k).toNatClampNeg = j := by
  unfold rfB at h
  rcases of_decide_eq_true h with rfl | rfl | rfl | rfl | rfl
  · exact ⟨by decide, 1, by decide, by decide, by decide⟩
  · exact ⟨by decide, 2, by decide, by decide, by decide⟩
  · exact ⟨by decide, 3, by decide, by decide, by decide⟩
  · exact ⟨by decide, 4, by decide, by decide, by decide⟩
  · exact ⟨by decide, 6, by decide, by decide, by decide⟩
def bor (k : Int32) : Int32 := if k < 0 then -4 else -6
theorem rf_bor (k : Int32) : rfB (bor k) = true := by
  unfold bor
  split <;> decide
def rxb (x : tp_X) (k : Int32) : tp_X := yRe x (tg_u (xRe x) (-k).toNatClampNeg (xRe x (-k).toNatClampNeg + 1))
def lrf (w : Int32) : Int64 := 4000000000000000000 - w.toInt64
def xk (a b : tp_X) : Prop := xPd b = xPd a ∧ xTm b = xTm a ∧ xTo b = xTo a ∧ xRe b = xRe a ∧ xLm b = xLm a ∧ xLe b = xLe a
theorem xk_rf (a : tp_X) : xk a a := ⟨rfl, rfl, rfl, rfl, rfl, rfl⟩
def pQ (w : Int32) (rv a : Value) (n p : tp_H) (x : tp_X) (n1 p1 : tp_H) (X1 : tp_X) (r : List tg_Cl) : Option Value → tg_W → Prop := fun v wd =>
  v = some (if w = 0 then a else rv) ∧ ∃ n2 p2 t2 x2, wd = (tp_cs n2 p2 t2 x2, r) ∧ eqH n2 (if w = 0 then n1 else n) ∧ eqH p2 (if w = 0 then p1 else p) ∧ xk (if w = 0 then X1 else rxb x w) x2
theorem pQ_ref {w k : Int32} {rv a v : Value} {n p t n1 p1 : tp_H} {x X1 : tp_X} {r : List tg_Cl} (hw : w = k) (hk : rfB k = true) (hv : v = rv) : pQ w rv a n p x n1 p1 X1 r (some v) (tp_cs n p t (rxb x k), r) := by
  subst hw; subst hv
  have h0 := (rf_j hk).1.2.2
  unfold pQ
  rw [if_neg h0, if_neg h0, if_neg h0, if_neg h0]
  exact ⟨rfl, n, p, t, _, rfl, eqH_rf _, eqH_rf _, xk_rf _⟩
theorem pQ_refI {w k : Int32} {a : Value} {n p t n1 p1 : tp_H} {x X1 : tp_X} {r : List tg_Cl} (hw : w = k) (hk : rfB k = true) : pQ w (.int w) a n p x n1 p1 X1 r (some (.int k)) (tp_cs n p t (rxb x k), r) := pQ_ref hw hk (by rw [hw])
theorem pQ_refL {w k : Int32} {a : Value} {n p t n1 p1 : tp_H} {x X1 : tp_X} {r : List tg_Cl} (hw : w = k) (hk : rfB k = true) : pQ w (.long (lrf w)) a n p x n1 p1 X1 r (some (.long (lrf k))) (tp_cs n p t (rxb x k), r) := pQ_ref hw hk (by rw [hw])
theorem pQ_ok {w : Int32} {rv a v : Value} {n p n2 p2 t2 n1 p1 : tp_H} {x X1 x2 : tp_X} {r : List tg_Cl} (hw : w = 0) (hv : v = a) (hn : eqH n2 n1) (hp : eqH p2 p1) (hx : xk X1 x2) : pQ w rv a n p x n1 p1 X1 r (some v) (tp_cs n2 p2 t2 x2, r) := by
  subst hw; subst hv
  unfold pQ
  rw [if_pos rfl, if_pos rfl, if_pos rfl, if_pos rfl]
  exact ⟨rfl, n2, p2, t2, x2, rfl, hn, hp, hx⟩
theorem up_j {k g : Int32} {m : Nat} (hg : g.toInt = m) (h : upTo k g = true) : ∃ j : Nat, j ≤ m ∧ k = nI j := by
  unfold upTo at h
  by_cases h1 : k < 0
  · simp [h1] at h
  · by_cases h2 : g < k
    · simp [h1, h2] at h
    · exact nI_of2 hg h1 (Int32.not_lt.mp h2)
theorem eq_N {k : Nat} (h : k < 2 ^ 31) : (nI k).toNatClampNeg = k := nI_clamp h
/-- a hearth as it must be -/
def wfH (h : tp_H) : Prop := hM h ≤ 7 ∧ isT (hS h) = true ∧ ∀ i, i < hM h → isT (hT h i) = true ∧ isT (hH h i) = true ∧ upTo (hF h i) 9 = true
theorem gO_nI {f : tp_H → tp_A} {h : tp_H} {j : Nat} (hm : hM h ≤ 7) (hj : j < hM h) : gO f h (nI j) = f h j := by
  unfold gO
  rw [has_nI hm hj, nI_clamp (by omega)]
  rfl
def nN (k : Int32) : Nat := k.toNatClampNeg
def wLet (x : tp_X) (c : Int32) : Int32 := if c < 0 then -4 else if 255 < c then -6 else if nI (xLm x) < 96 then 0 else -6
def XLet (x : tp_X) (c : Int32) : tp_X := yLm (yLe x (tg_u (xLe x) (xLm x) c)) (xLm x + 1)
def wLit (n : tp_H) (one what : Int32) : Int32 := bif hasB n one then (if what = 0 then 0 else if what = 1 then 0 else if what = 2 then 0 else if what = 3 then 0 else if what = 4 then 0 else if what = 5 then 0 else if what = 6 then 0 else -2) else -1
def aLit (n : tp_H) (one what : Int32) : Int32 := if what = 0 then gO hK n one else if what = 1 then gO hF n one else if what = 2 then gO hH n one else if what = 3 then gO hT n one else if what = 4 then gO hP n one else if what = 5 then tg_b (abB n one) else nwH n (nN one)
def wTil (tile what : Int32) : Int32 := bif isT tile then (if what = 0 then 0 else if what = 1 then 0 else -2) else -1
def aTil (n : tp_H) (tile what : Int32) : Int32 := if what = 0 then tg_b (crB n tile) else oAt n tile
def wCom (n : tp_H) (kd f ho : Int32) : Int32 := bif upTo kd 5 then (bif upTo f 9 then (bif isT ho then (if nI (hM n) < 7 then 0 else -6) else -1) else bor f) else -2
def wSta (n : tp_H) (one tile : Int32) : Int32 := bif hasB n one then (bif isT tile then 0 else -1) else -1
def wTl (tile : Int32) : Int32 := bif isT tile then 0 else -1
def wPis (n : tp_H) (one k : Int32) : Int32 := bif hasB n one then (bif upTo k 9 then 0 else bor k) else -1
def wTur (n : tp_H) (one kd f : Int32) : Int32 := bif hasB n one then (bif upTo kd 5 then (bif upTo f 9 then 0 else bor f) else -2) else -1
def aTur (n : tp_H) (one : Int32) : Int32 := 10 * gO hK n one + gO hF n one
def wNis (n : tp_H) (k : Int32) : Int32 := if k < 1 then -4 else if 60 < k then -6 else if hN n + k ≤ 999 then 0 else -6
def wOne (n : tp_H) (one k what : Int32) : Int32 := bif hasB n one then (bif upTo k 60 then (bif upTo what 1 then 0 else -2) else bor k) else -1
def aOne (n : tp_H) (one k what : Int32) : Int32 := if what = 0 then gO hT (pNs (nN k) n) one else gO hP (pNs (nN k) n) one
def wUp (k g : Int32) : Int32 := bif upTo k g then 0 else bor k
def aAbo (n : tp_H) (k : Int32) : Int32 := oAt (pNs (nN k) n) (hS (pNs (nN k) n))
def aFir (n : tp_H) (one tile : Int32) : Int32 := fiV (fA n one tile) nI (-9) 61 0
def wSai (n : tp_H) (one : Int32) : Int32 := if one = -1 then 0 else if one = -2 then 0 else bif hasB n one then 0 else -1
def aAll (n : tp_H) : Int32 := fiV (fC n) nI (-9) 61 0
def aSai (n : tp_H) (one : Int32) : Int32 := if one = -1 then fB n 61 0 else if one = -2 then aAll n else aFir n one (hS n)
def wMee (n : tp_H) (a b : Int32) : Int32 := bif hasB n a then (bif hasB n b then (if a = b then -1 else 0) else -1) else -1
def aMee (n : tp_H) (a b : Int32) : Int32 := fiV (fD n a b) nI (-9) 61 0
def aSti (n : tp_H) : Int32 := fiV (fE n) (sqV n) (-9) 72 0
def wFar (a b : Int32) : Int32 := bif isT a then (bif isT b then 0 else -1) else -1
def bfD (n : tp_H) (a b : Nat) : Int32 := bfR n (fun _ => -9) (fun _ => 0) a b
def farD (n : tp_H) (a b : Int32) : Int32 := bfD n (nN a) (nN b)
def cuP (n : tp_H) (i : Nat) : Bool := decide (farD n (hT n i) (hS n) = -9)
def aCut (n : tp_H) : Int32 := bI (cuP n) (hM n)
def wUpW (k g what : Int32) : Int32 := bif upTo k g then (bif upTo what 1 then 0 else -2) else bor k
def shB (n : tp_H) (k : Nat) : Int32 := (mxQ (fun _ => true) (fun i => shW n k (nI i)) 0 (-1) 24).1
def aShB (n : tp_H) (k what : Int32) : Int32 := if what = 0 then shB n (nN k) else shW n (nN k) (shB n (nN k))
def meB (n : tp_H) (k : Nat) : Int32 := (mxQ (fun i => crB n (nI i)) (fun i => crW n k (nI i)) (-9) (abM (pNs k n)) 24).1
def spB (n : tp_H) (k : Nat) : Int32 := (mnQ (fun i => !crB n (nI i)) (fun i => crW n k (nI i)) (-9) (abM (pNs k n)) 24).1
def aMen (n : tp_H) (k what : Int32) : Int32 := if what = 0 then meB n (nN k) else spB n (nN k)
def aPin (n : tp_H) (k : Int32) : Int32 := (mnQ (fun _ => true) (fun i => piW n (nN k) (nI i)) (-9) (abM (pNs (nN k) n)) (hM n)).1
def aFew (n : tp_H) (k : Int32) : Int32 := (fwS n (nN k) (2 ^ hM n)).1
def wHaW (n : tp_H) (one what : Int32) : Int32 := bif hasB n one then (bif upTo what 1 then 0 else -2) else -1
def soK (n : tp_H) (one : Int32) : Int32 := (mnQ (fun _ => true) (fun i => soA n one (nI i)) 0 61 6).1
def aBes (n : tp_H) (one what : Int32) : Int32 := if what = 0 then soK n one else if 60 < soA n one (soK n one) then -9 else soA n one (soK n one)
def wCro (what : Int32) : Int32 := if what = 0 then 0 else if what = 1 then 0 else if what = 2 then 0 else if what = 3 then 0 else if what = 4 then 0 else if what = 5 then 0 else if what = 6 then 0 else -2
def aCro (n : tp_H) (what : Int32) : Int32 := if what = 0 then fuT n 24 else if what = 1 then bcJ (oAt n (fuT n 24)) else if what = 2 then hoM n else if what = 3 then loM n else if what = 4 then piM n else if what = 5 then bsO n (hM n) else emT n (hM n)
def wWh (what : Int32) : Int32 := bif upTo what 1 then 0 else -2
def aFaH (n : tp_H) (what : Int32) : Int32 := if what = 0 then faT n (hM n) else if faT n (hM n) = -9 then -9 else frH n (faT n (hM n))
def wOrd (i : Int32) : Int32 := if i < 0 then -4 else 0
def orP (n : tp_H) (i : Int32) (k : Nat) : Bool := bif abB n (nI k) then false else decide (ahO n (nI k) = i)
def aOrd (n : tp_H) (i : Int32) : Int32 := fiV (orP n i) nI (-9) (hM n) 0
def wTwo (n : tp_H) (a b k : Int32) : Int32 := bif hasB n a then (bif hasB n b then (if a = b then -1 else bif upTo k 9 then 0 else bor k) else -1) else -1
def aTwo (n : tp_H) (a b k : Int32) : Int32 := fiV (fsP n a b (nN k)) fsV (-9) 4 0
def eu (a b : Int64) : Nat → Int64 × Int64
  | 0 => (a, b)
  | i + 1 => if lg_cmp (eu a b i).2 0 = 0 then eu a b i else ((eu a b i).2, (eu a b i).1 % (eu a b i).2)
theorem eu_succ (a b : Int64) (i : Nat) : eu a b (i + 1) = if lg_cmp (eu a b i).2 0 = 0 then eu a b i else ((eu a b i).2, (eu a b i).1 % (eu a b i).2) := rfl
theorem eu_stop {a b : Int64} {i : Nat} (h : lg_cmp (eu a b i).2 0 = 0) : ∀ d, eu a b (i + d) = eu a b i := by
  intro d
  induction d with
  | zero => rfl
  | succ d ih => rw [show i + (d + 1) = (i + d) + 1 by omega, eu_succ, ih, if_pos h]
def cdv (a b : Int64) : Int64 := if lg_cmp (eu a b 128).1 0 = 0 then 1 else (eu a b 128).1
theorem lc_ne {a : Int64} (h : ¬ lg_cmp a 0 = 0) : ¬ a = 0 := fun e => h (by rw [e]; decide)
theorem cdv_ne (a b : Int64) : ¬ cdv a b = 0 := by
  unfold cdv
  split
  · decide
  · rename_i h; exact lc_ne h
def ptO (a b : Int64) (part : Int32) : Int64 := if lg_cmp a 0 = 0 then (if part = 0 then 0 else 1) else if lg_cmp b 0 = 0 then (if part = 0 then 0 else 1) else (if part = 0 then a else b) / cdv a b
def wCoa (n : tp_H) (one k t part : Int32) : Int32 := bif hasB n one then (if k < 0 then -4 else if t < 2 then -4 else if 7 < k then -6 else if 20 < t then -6 else bif upTo part 1 then 0 else -2) else -1
def aCoa (n : tp_H) (one k t part : Int32) : Int64 := ptO (coA n one (nN k) t (2 ^ nN k)) (powL t (nN k)) part
def meS (n : tp_H) : Nat → Int64
  | 0 => 0
  | i + 1 => meS n i + (frH n (nI i)).toInt64
theorem meS_succ (n : tp_H) (i : Nat) : meS n (i + 1) = meS n i + (frH n (nI i)).toInt64 := rfl
def aMea (n : tp_H) (part : Int32) : Int64 := ptO (meS n (hM n)) (nI (hM n)).toInt64 part
def wiP (n : tp_H) (x : tp_X) (one kd f : Int32) (i : Nat) : Bool := decide (gO hT (pNs i (becH n one kd f)) one = xTo x i)
def wiB (n : tp_H) (x : tp_X) (one kd f : Int32) : Bool := aI (wiP n x one kd f) (xTm x) 0
def laN (what : Int32) : Nat := if what = 0 then 5 else 9
theorem laN_le (what : Int32) : laN what ≤ 9 := by unfold laN; split <;> decide
theorem la_0 {what : Int32} (h : what = 0) : laN what = 5 := if_pos h
theorem la_1 {what : Int32} (h : ¬ what = 0) : laN what = 9 := if_neg h
def whP (n : tp_H) (x : tp_X) (one what : Int32) (g : Nat) : Bool := if what = 0 then wiB n x one (nI g) (gO hF n one) else wiB n x one (gO hK n one) (nI g)
def aWha (n : tp_H) (x : tp_X) (one what : Int32) : Int32 := bI (whP n x one what) (laN what + 1)
def wRow (x : tp_X) (v : Int32) : Int32 := if v < 0 then -4 else if 99 < v then -6 else if nI (xTm x) < 16 then 0 else -6
def XRow (x : tp_X) (v : Int32) : tp_X := yTm (yTo x (tg_u (xTo x) (xTm x) v)) (xTm x + 1)
def juP (n : tp_H) (x : tp_X) (i : Nat) : Bool := bif hasB n (nI i) then decide (¬ gO hH n (nI i) = xTo x i) else true
def aJud (n : tp_H) (x : tp_X) : Int32 := fiV (juP n x) nI (-9) (xTm x) 0
def wLot (k what : Int32) : Int32 := if k < 1 then -4 else if 20 < k then -6 else bif upTo what 1 then 0 else -2
def aLot (n : tp_H) (k z what : Int32) : Int32 := (wiO n z what (nN k)).2
def wOn (x : tp_X) : Int32 := bif xPd x then 0 else -3
def aCou (n : tp_H) (x : tp_X) (what : Int32) : Int32 := if what = 0 then nI (hM n) else if what = 1 then hN n else if what = 2 then hC n else if what = 3 then hS n else if what = 4 then oAt n (hS n) else if what = 5 then piM n else if what = 6 then nI (xTm x) else if what = 7 then nI (xLm x) else if what ≤ 10 then -9 else if 16 < what then -9 else xRe x (nN (what - 10))
theorem cou_j {what : Int32} (h1 : ¬ what ≤ 10) (h2 : ¬ 16 < what) : ∃ j : Nat, j < 7 ∧ what - 10 = nI j ∧ nN (what - 10) = j := by
  obtain ⟨k, hk, rfl⟩ := nI_of2 (x := what) (M := 16) (n := 16) rfl (fun q => h1 (Int32.le_of_lt (Int32.lt_trans q (by decide)))) (Int32.not_lt.mp h2)
  have h : ∀ q : Fin 17, ¬ nI q.1 ≤ 10 → nN (nI q.1 - 10) < 7 ∧ nI q.1 - 10 = nI (nN (nI q.1 - 10)) := by decide +kernel
  obtain ⟨a, b⟩ := h ⟨k, by omega⟩ h1
  exact ⟨_, a, b, rfl⟩
/-! the search over the hearth doesn't look at what stood in its rows -/
def bfS (q s : tp_B) : Prop := q.2.2 = s.2.2 ∧ (∀ j, j < 24 → q.1 j = s.1 j) ∧ ∀ j, j < q.2.2 → q.2.1 j = s.2.1 j
theorem bfS_W {h : tp_H} {ti : Int32} {q s : tp_B} {k : Nat} (ht : isT ti = true) (hs : bfS q s) : bfS (bfW h ti q k) (bfW h ti s k) := by
  obtain ⟨e1, e2, e3⟩ := hs
  unfold bfW
  by_cases hT : isT (bes ti (nI k)) = true
  · obtain ⟨v, hv, ev, cv⟩ := isT_j hT
    obtain ⟨u, hu, eu, cu⟩ := isT_j ht
    rw [show (bes ti (nI k)).toNatClampNeg = v by rw [ev]; exact cv, e1, e2 v hv]
    split
    · refine ⟨?_, fun j hj => ?_, fun j hj => ?_⟩
      · show q.2.2 + 1 = s.2.2 + 1
        rw [e1]
      · show tg_u q.1 _ (q.1 ti.toNatClampNeg + 1) j = tg_u s.1 _ (s.1 ti.toNatClampNeg + 1) j
        rw [tg_u_eq, tg_u_eq, show ti.toNatClampNeg = u by rw [eu]; exact cu, e2 u hu, e2 j hj]
      · have hj2 : j < q.2.2 + 1 := hj
        show tg_u q.2.1 q.2.2 _ j = tg_u s.2.1 s.2.2 _ j
        rw [tg_u_eq, tg_u_eq, e1]
        by_cases e : j = s.2.2
        · rw [if_pos e, if_pos e]
        · rw [if_neg e, if_neg e]; exact e3 j (by omega)
    · exact ⟨e1, e2, e3⟩
  · rw [if_neg (fun z => hT z.1), if_neg (fun z => hT z.1)]
    exact ⟨e1, e2, e3⟩
theorem bfS_I {h : tp_H} {ti : Int32} {q s : tp_B} (ht : isT ti = true) (hs : bfS q s) (k : Nat) : bfS (bfI h ti q k) (bfI h ti s k) := by
  induction k with
  | zero => exact hs
  | succ k ih => rw [bfI_succ, bfI_succ]; exact bfS_W ht ih
theorem bfS_O {h : tp_H} {q s : tp_B} (hv : bfV q) (hs : bfS q s) (i : Nat) : bfS (bfO h q i) (bfO h s i) := by
  induction i with
  | zero => exact hs
  | succ i ih =>
    rw [bfO_succ, bfO_succ, ← ih.1]
    split
    · rename_i hi
      have hV := bfV_O (h := h) hv i
      obtain ⟨v, h1, h2⟩ := hV.2 i hi
      rw [← ih.2.2 i hi]
      exact bfS_I (by rw [h2]; exact isT_nI h1) ih 4
    · exact ih
theorem bfR_D (h : tp_H) (F g : tp_A) {a b : Nat} (ha : a < 24) (hb : b < 24) : bfR h (mix 24 F (fun _ => -9)) g a b = bfD h a b := by
  have e0 : bfS (bf0 (mix 24 F (fun _ => -9)) g a) (bf0 (fun _ => -9) (fun _ => 0) a) := by
    refine ⟨rfl, fun j hj => ?_, fun j hj => ?_⟩
    · show tg_u (mix 24 F (fun _ => -9)) a 0 j = tg_u (fun _ => -9) a 0 j
      rw [tg_u_eq, tg_u_eq, mix_lt _ _ hj]
    · have hj2 : j < 1 := hj
      show tg_u g 0 (nI a) j = tg_u (fun _ => 0) 0 (nI a) j
      rw [tg_u_eq, tg_u_eq, if_pos (by omega), if_pos (by omega)]
  have e1 := bfS_O (h := h) (bfV_0 (mix 24 F (fun _ => -9)) g ha) e0 24
  exact e1.2.1 b hb

set_option maxRecDepth 100000 in
set_option maxHeartbeats 2000000 in
theorem c_refuse {G : tg_G} {n p t : tp_H} {x : tp_X} {r : List tg_Cl} (k : Int32) (hk : rfB k = true) : tg_C G 1 mX10_refuse 0 0 [.ref 0, .int k] (tp_cs n p t x, r) (fun v w => v = some (.int k) ∧ w = (tp_cs n p t (rxb x k), r)) := by
  obtain ⟨⟨k1, k2, -⟩, j, hj, ej, cj⟩ := rf_j hk
  refine tg_intro okX10_refuse (Nat.le_of_ble_eq_true rfl) ?_
  refine tg_steps 1 rfl ?_
  refine tg_ifge rfl rfl (fun h1 => ?_) (fun h1 => ?_)
  · exact absurd h1 k1
  · refine tg_steps 2 rfl ?_
    refine tg_iclt rfl rfl (fun h7 => ?_) (fun h7 => ?_)
    · exact absurd h7 k2
    · refine tg_steps 5 rfl ?_
      refine tg_ialdN rfl rfl (j) ej hj (by decide) ?_
      refine tg_steps 2 rfl ?_
      refine tg_iastN rfl rfl (j) ej hj (by decide) ?_
      refine tg_eqW (w_Re _) ?_
      refine tg_steps 1 rfl ?_
      exact tg_iret (st := []) rfl rfl ⟨Nat.le_of_ble_eq_true rfl, Nat.le_of_ble_eq_true rfl⟩ ⟨rfl, by unfold rxb; rw [cj]⟩
theorem c_bor {G : tg_G} {w : tg_W} (k : Int32) : tg_C G 1 mX10_belowOrRoom 0 0 [.int k] w (fun v w2 => v = some (.int (bor k)) ∧ w2 = w) := c_belowOrRoom k
set_option maxRecDepth 100000 in
set_option maxHeartbeats 2000000 in
theorem c_refuseLong {G : tg_G} {n p t : tp_H} {x : tp_X} {r : List tg_Cl} (k : Int32) (hk : rfB k = true) : tg_C G 2 mX10_refuseLong 0 0 [.ref 0, .int k] (tp_cs n p t x, r) (fun v w => v = some (.long (lrf k)) ∧ w = (tp_cs n p t (rxb x k), r)) := by
  refine tg_intro okX10_refuseLong (Nat.le_of_ble_eq_true rfl) ?_
  refine tg_steps 3 rfl ?_
  refine tg_callV rfl (c_refuse k hk) rfl rfl rfl rfl rfl (fun v5 w5 q5 => ?_)
  obtain ⟨rfl, rfl⟩ := q5
  refine tg_steps 2 rfl ?_
  exact tg_lret (st := []) rfl rfl ⟨Nat.le_of_ble_eq_true rfl, Nat.le_of_ble_eq_true rfl⟩ ⟨rfl, rfl⟩
theorem c_far {G : tg_G} {n p t : tp_H} {x : tp_X} {r : List tg_Cl} {a b : Int32} (ha : isT a = true) (hb : isT b = true) : tg_C G 2 mX6_between 0 0 [.ref 40, .ref 1, .int a, .int b] (tp_cs n p t x, r) (fun v w => v = some (.int (farD n a b)) ∧ ∃ f2 g2, w = (tp_cs n p t (yRc (ySt x f2) g2), r)) := by
  obtain ⟨u, hu, eu, cu⟩ := isT_j ha
  obtain ⟨v, hv, ev, cv⟩ := isT_j hb
  subst eu
  subst ev
  refine tg_wk_C (c_between u v hu hv) (fun y w' q => ?_)
  obtain ⟨q1, q2⟩ := q
  refine ⟨?_, q2⟩
  rw [q1, bfR_D _ _ _ hu hv]
  unfold farD nN
  rw [cu, cv]
theorem c_comeIn_y {G : tg_G} {h p t : tp_H} {x : tp_X} {r : List tg_Cl} (hm : hM h < 7) (a b c : Int32) : tg_C G 3 mX1_comeIn 0 0 [.ref 1, .int a, .int b, .int c] (tp_cs h p t x, r) (fun u w => u = some (.int (nI (hM h))) ∧ w = (tp_cs (comH h a b c) p t x, r)) := by
  refine tg_wk_C (c_comeIn_0 (Nat.le_of_lt hm) a b c) (fun y w' q => ?_)
  rw [if_pos hm] at q
  exact q
set_option maxRecDepth 100000 in
set_option maxHeartbeats 2000000 in
theorem q_letter {G : tg_G} {n p t : tp_H} {x : tp_X} {r : List tg_Cl} (hl : xLm x ≤ 96) (c : Int32) : tg_C G 2 mX10_letter 0 0 [.ref 0, .int c] (tp_cs n p t x, r) (pQ (wLet x c) (.int (wLet x c)) (.int (nI (xLm x + 1))) n p x (n) (p) (XLet x c) r) := by
  refine tg_intro okX10_letter (Nat.le_of_ble_eq_true rfl) ?_
  refine tg_steps 1 rfl ?_
  refine tg_ifge rfl rfl (fun h1 => ?_) (fun h1 => ?_)
  · refine tg_steps 2 rfl ?_
    refine tg_icgt rfl rfl (fun h15 => ?_) (fun h15 => ?_)
    · refine tg_steps 2 rfl ?_
      refine tg_callV rfl (c_refuse (-6) (by decide)) rfl rfl rfl rfl rfl (fun v33 w33 q33 => ?_)
      obtain ⟨rfl, rfl⟩ := q33
      exact tg_iret (st := []) rfl rfl ⟨Nat.le_of_ble_eq_true rfl, Nat.le_of_ble_eq_true rfl⟩ (pQ_refI (by first | (simp (decide := true) only [wLet, decide_true, decide_false, cond_true, cond_false, Bool.false_eq_true, if_true, if_false, ite_true, ite_false, h1, Int32.not_lt.mpr h1, h15, Int32.not_le.mpr h15]; done) | (simp (decide := true) only [wLet, decide_true, decide_false, cond_true, cond_false, Bool.false_eq_true, if_true, if_false, ite_true, ite_false, h1, Int32.not_lt.mpr h1, h15, Int32.not_le.mpr h15]; done) | (simp (decide := true) only [wLet, decide_true, decide_false, cond_true, cond_false, Bool.false_eq_true, if_true, if_false, ite_true, ite_false, h1, Int32.not_lt.mpr h1, h15, Int32.not_le.mpr h15]; rfl) | rfl) (by first | decide | exact rf_bor _))
    · refine tg_steps 4 rfl ?_
      refine tg_iclt rfl rfl (fun h27 => ?_) (fun h27 => ?_)
      · have hl2 : xLm x < 96 := by
          rcases Nat.lt_or_ge (xLm x) 96 with q | q
          · exact q
          · exact absurd h27 (nI_nlt (a := xLm x) (b := 96) q (by omega))
        refine tg_steps 3 rfl ?_
        refine tg_callV rfl (c_add hl2 c) rfl rfl rfl rfl rfl (fun v42 w42 q42 => ?_)
        obtain ⟨rfl, rfl⟩ := q42
        exact tg_iret (st := []) rfl rfl ⟨Nat.le_of_ble_eq_true rfl, Nat.le_of_ble_eq_true rfl⟩ (pQ_ok (by first | (simp (decide := true) only [wLet, decide_true, decide_false, cond_true, cond_false, Bool.false_eq_true, if_true, if_false, ite_true, ite_false, h1, Int32.not_lt.mpr h1, h15, Int32.not_lt.mp h15, h27, Int32.not_le.mpr h27]; done) | (simp (decide := true) only [wLet, decide_true, decide_false, cond_true, cond_false, Bool.false_eq_true, if_true, if_false, ite_true, ite_false, h1, Int32.not_lt.mpr h1, h15, Int32.not_lt.mp h15, h27, Int32.not_le.mpr h27]; done) | (simp (decide := true) only [wLet, decide_true, decide_false, cond_true, cond_false, Bool.false_eq_true, if_true, if_false, ite_true, ite_false, h1, Int32.not_lt.mpr h1, h15, Int32.not_lt.mp h15, h27, Int32.not_le.mpr h27]; rfl) | rfl) rfl (eqH_rf _) (eqH_rf _) ⟨rfl, rfl, rfl, rfl, rfl, rfl⟩)
      · refine tg_steps 2 rfl ?_
        refine tg_callV rfl (c_refuse (-6) (by decide)) rfl rfl rfl rfl rfl (fun v33 w33 q33 => ?_)
        obtain ⟨rfl, rfl⟩ := q33
        exact tg_iret (st := []) rfl rfl ⟨Nat.le_of_ble_eq_true rfl, Nat.le_of_ble_eq_true rfl⟩ (pQ_refI (by first | (simp (decide := true) only [wLet, decide_true, decide_false, cond_true, cond_false, Bool.false_eq_true, if_true, if_false, ite_true, ite_false, h1, Int32.not_lt.mpr h1, h15, Int32.not_lt.mp h15, h27, Int32.not_lt.mp h27]; done) | (simp (decide := true) only [wLet, decide_true, decide_false, cond_true, cond_false, Bool.false_eq_true, if_true, if_false, ite_true, ite_false, h1, Int32.not_lt.mpr h1, h15, Int32.not_lt.mp h15, h27, Int32.not_lt.mp h27]; done) | (simp (decide := true) only [wLet, decide_true, decide_false, cond_true, cond_false, Bool.false_eq_true, if_true, if_false, ite_true, ite_false, h1, Int32.not_lt.mpr h1, h15, Int32.not_lt.mp h15, h27, Int32.not_lt.mp h27]; rfl) | rfl) (by first | decide | exact rf_bor _))
  · refine tg_steps 2 rfl ?_
    refine tg_callV rfl (c_refuse (-4) (by decide)) rfl rfl rfl rfl rfl (fun v7 w7 q7 => ?_)
    obtain ⟨rfl, rfl⟩ := q7
    exact tg_iret (st := []) rfl rfl ⟨Nat.le_of_ble_eq_true rfl, Nat.le_of_ble_eq_true rfl⟩ (pQ_refI (by first | (simp (decide := true) only [wLet, decide_true, decide_false, cond_true, cond_false, Bool.false_eq_true, if_true, if_false, ite_true, ite_false, h1, Int32.not_le.mp h1]; done) | (simp (decide := true) only [wLet, decide_true, decide_false, cond_true, cond_false, Bool.false_eq_true, if_true, if_false, ite_true, ite_false, h1, Int32.not_le.mp h1]; done) | (simp (decide := true) only [wLet, decide_true, decide_false, cond_true, cond_false, Bool.false_eq_true, if_true, if_false, ite_true, ite_false, h1, Int32.not_le.mp h1]; rfl) | rfl) (by first | decide | exact rf_bor _))
set_option maxRecDepth 100000 in
set_option maxHeartbeats 2000000 in
theorem q_little {G : tg_G} {n p t : tp_H} {x : tp_X} {r : List tg_Cl} (hm : hM n ≤ 7) (one : Int32) (what : Int32) : tg_C G 6 mX10_little 0 0 [.ref 0, .int one, .int what] (tp_cs n p t x, r) (pQ (wLit n one what) (.int (wLit n one what)) (.int (aLit n one what)) n p x (n) (p) (x) r) := by
  refine tg_intro okX10_little (Nat.le_of_ble_eq_true rfl) ?_
  refine tg_steps 3 rfl ?_
  refine tg_callV rfl (c_has_0 _) rfl rfl rfl rfl rfl (fun v5 w5 q5 => ?_)
  obtain ⟨rfl, rfl⟩ := q5
  refine tg_ifbne rfl rfl (fun h8 => ?_) (fun h8 => ?_)
  · obtain ⟨j, hj, rfl, cj⟩ := has_j hm h8
    have cn : nN (nI j) = j := cj
    refine tg_steps 1 rfl ?_
    refine tg_tsw rfl ?_
    refine And.intro (fun h18_0 => ?_) (fun h18_0 => ?_)
    · refine tg_steps 3 rfl ?_
      refine tg_callV rfl (c_kindOf_0 hm _) rfl rfl rfl rfl rfl (fun v65 w65 q65 => ?_)
      obtain ⟨rfl, rfl⟩ := q65
      exact tg_iret (st := []) rfl rfl ⟨Nat.le_of_ble_eq_true rfl, Nat.le_of_ble_eq_true rfl⟩ (pQ_ok (by first | (simp (decide := true) only [wLit, decide_true, decide_false, cond_true, cond_false, Bool.false_eq_true, if_true, if_false, ite_true, ite_false, h8, cn, eq_true h18_0]; done) | (simp (decide := true) only [wLit, decide_true, decide_false, cond_true, cond_false, Bool.false_eq_true, if_true, if_false, ite_true, ite_false, h8, cn, h18_0]; done) | (simp (decide := true) only [wLit, decide_true, decide_false, cond_true, cond_false, Bool.false_eq_true, if_true, if_false, ite_true, ite_false, h8, cn, eq_true h18_0]; rfl) | rfl) (by first | (simp (decide := true) only [aLit, tg_b, decide_true, decide_false, cond_true, cond_false, Bool.false_eq_true, if_true, if_false, ite_true, ite_false, h8, cn, eq_true h18_0]; done) | (simp (decide := true) only [aLit, tg_b, decide_true, decide_false, cond_true, cond_false, Bool.false_eq_true, if_true, if_false, ite_true, ite_false, h8, cn, h18_0]; done) | (simp (decide := true) only [aLit, tg_b, decide_true, decide_false, cond_true, cond_false, Bool.false_eq_true, if_true, if_false, ite_true, ite_false, h8, cn, eq_true h18_0]; rfl) | rfl) (eqH_rf _) (eqH_rf _) ⟨rfl, rfl, rfl, rfl, rfl, rfl⟩)
    refine And.intro (fun h18_1 => ?_) (fun h18_1 => ?_)
    · refine tg_steps 3 rfl ?_
      refine tg_callV rfl (c_figureOf_0 hm _) rfl rfl rfl rfl rfl (fun v74 w74 q74 => ?_)
      obtain ⟨rfl, rfl⟩ := q74
      exact tg_iret (st := []) rfl rfl ⟨Nat.le_of_ble_eq_true rfl, Nat.le_of_ble_eq_true rfl⟩ (pQ_ok (by first | (simp (decide := true) only [wLit, decide_true, decide_false, cond_true, cond_false, Bool.false_eq_true, if_true, if_false, ite_true, ite_false, h8, cn, h18_0, eq_true h18_1]; done) | (simp (decide := true) only [wLit, decide_true, decide_false, cond_true, cond_false, Bool.false_eq_true, if_true, if_false, ite_true, ite_false, h8, cn, h18_0, h18_1]; done) | (simp (decide := true) only [wLit, decide_true, decide_false, cond_true, cond_false, Bool.false_eq_true, if_true, if_false, ite_true, ite_false, h8, cn, h18_0, eq_true h18_1]; rfl) | rfl) (by first | (simp (decide := true) only [aLit, tg_b, decide_true, decide_false, cond_true, cond_false, Bool.false_eq_true, if_true, if_false, ite_true, ite_false, h8, cn, h18_0, eq_true h18_1]; done) | (simp (decide := true) only [aLit, tg_b, decide_true, decide_false, cond_true, cond_false, Bool.false_eq_true, if_true, if_false, ite_true, ite_false, h8, cn, h18_0, h18_1]; done) | (simp (decide := true) only [aLit, tg_b, decide_true, decide_false, cond_true, cond_false, Bool.false_eq_true, if_true, if_false, ite_true, ite_false, h8, cn, h18_0, eq_true h18_1]; rfl) | rfl) (eqH_rf _) (eqH_rf _) ⟨rfl, rfl, rfl, rfl, rfl, rfl⟩)
    refine And.intro (fun h18_2 => ?_) (fun h18_2 => ?_)
    · refine tg_steps 3 rfl ?_
      refine tg_callV rfl (c_homeOf_0 hm _) rfl rfl rfl rfl rfl (fun v83 w83 q83 => ?_)
      obtain ⟨rfl, rfl⟩ := q83
      exact tg_iret (st := []) rfl rfl ⟨Nat.le_of_ble_eq_true rfl, Nat.le_of_ble_eq_true rfl⟩ (pQ_ok (by first | (simp (decide := true) only [wLit, decide_true, decide_false, cond_true, cond_false, Bool.false_eq_true, if_true, if_false, ite_true, ite_false, h8, cn, h18_0, h18_1, eq_true h18_2]; done) | (simp (decide := true) only [wLit, decide_true, decide_false, cond_true, cond_false, Bool.false_eq_true, if_true, if_false, ite_true, ite_false, h8, cn, h18_0, h18_1, h18_2]; done) | (simp (decide := true) only [wLit, decide_true, decide_false, cond_true, cond_false, Bool.false_eq_true, if_true, if_false, ite_true, ite_false, h8, cn, h18_0, h18_1, eq_true h18_2]; rfl) | rfl) (by first | (simp (decide := true) only [aLit, tg_b, decide_true, decide_false, cond_true, cond_false, Bool.false_eq_true, if_true, if_false, ite_true, ite_false, h8, cn, h18_0, h18_1, eq_true h18_2]; done) | (simp (decide := true) only [aLit, tg_b, decide_true, decide_false, cond_true, cond_false, Bool.false_eq_true, if_true, if_false, ite_true, ite_false, h8, cn, h18_0, h18_1, h18_2]; done) | (simp (decide := true) only [aLit, tg_b, decide_true, decide_false, cond_true, cond_false, Bool.false_eq_true, if_true, if_false, ite_true, ite_false, h8, cn, h18_0, h18_1, eq_true h18_2]; rfl) | rfl) (eqH_rf _) (eqH_rf _) ⟨rfl, rfl, rfl, rfl, rfl, rfl⟩)
    refine And.intro (fun h18_3 => ?_) (fun h18_3 => ?_)
    · refine tg_steps 3 rfl ?_
      refine tg_callV rfl (c_tileOf_0 hm _) rfl rfl rfl rfl rfl (fun v92 w92 q92 => ?_)
      obtain ⟨rfl, rfl⟩ := q92
      exact tg_iret (st := []) rfl rfl ⟨Nat.le_of_ble_eq_true rfl, Nat.le_of_ble_eq_true rfl⟩ (pQ_ok (by first | (simp (decide := true) only [wLit, decide_true, decide_false, cond_true, cond_false, Bool.false_eq_true, if_true, if_false, ite_true, ite_false, h8, cn, h18_0, h18_1, h18_2, eq_true h18_3]; done) | (simp (decide := true) only [wLit, decide_true, decide_false, cond_true, cond_false, Bool.false_eq_true, if_true, if_false, ite_true, ite_false, h8, cn, h18_0, h18_1, h18_2, h18_3]; done) | (simp (decide := true) only [wLit, decide_true, decide_false, cond_true, cond_false, Bool.false_eq_true, if_true, if_false, ite_true, ite_false, h8, cn, h18_0, h18_1, h18_2, eq_true h18_3]; rfl) | rfl) (by first | (simp (decide := true) only [aLit, tg_b, decide_true, decide_false, cond_true, cond_false, Bool.false_eq_true, if_true, if_false, ite_true, ite_false, h8, cn, h18_0, h18_1, h18_2, eq_true h18_3]; done) | (simp (decide := true) only [aLit, tg_b, decide_true, decide_false, cond_true, cond_false, Bool.false_eq_true, if_true, if_false, ite_true, ite_false, h8, cn, h18_0, h18_1, h18_2, h18_3]; done) | (simp (decide := true) only [aLit, tg_b, decide_true, decide_false, cond_true, cond_false, Bool.false_eq_true, if_true, if_false, ite_true, ite_false, h8, cn, h18_0, h18_1, h18_2, eq_true h18_3]; rfl) | rfl) (eqH_rf _) (eqH_rf _) ⟨rfl, rfl, rfl, rfl, rfl, rfl⟩)
    refine And.intro (fun h18_4 => ?_) (fun h18_4 => ?_)
    · refine tg_steps 3 rfl ?_
      refine tg_callV rfl (c_pinnedOf_0 hm _) rfl rfl rfl rfl rfl (fun v101 w101 q101 => ?_)
      obtain ⟨rfl, rfl⟩ := q101
      exact tg_iret (st := []) rfl rfl ⟨Nat.le_of_ble_eq_true rfl, Nat.le_of_ble_eq_true rfl⟩ (pQ_ok (by first | (simp (decide := true) only [wLit, decide_true, decide_false, cond_true, cond_false, Bool.false_eq_true, if_true, if_false, ite_true, ite_false, h8, cn, h18_0, h18_1, h18_2, h18_3, eq_true h18_4]; done) | (simp (decide := true) only [wLit, decide_true, decide_false, cond_true, cond_false, Bool.false_eq_true, if_true, if_false, ite_true, ite_false, h8, cn, h18_0, h18_1, h18_2, h18_3, h18_4]; done) | (simp (decide := true) only [wLit, decide_true, decide_false, cond_true, cond_false, Bool.false_eq_true, if_true, if_false, ite_true, ite_false, h8, cn, h18_0, h18_1, h18_2, h18_3, eq_true h18_4]; rfl) | rfl) (by first | (simp (decide := true) only [aLit, tg_b, decide_true, decide_false, cond_true, cond_false, Bool.false_eq_true, if_true, if_false, ite_true, ite_false, h8, cn, h18_0, h18_1, h18_2, h18_3, eq_true h18_4]; done) | (simp (decide := true) only [aLit, tg_b, decide_true, decide_false, cond_true, cond_false, Bool.false_eq_true, if_true, if_false, ite_true, ite_false, h8, cn, h18_0, h18_1, h18_2, h18_3, h18_4]; done) | (simp (decide := true) only [aLit, tg_b, decide_true, decide_false, cond_true, cond_false, Bool.false_eq_true, if_true, if_false, ite_true, ite_false, h8, cn, h18_0, h18_1, h18_2, h18_3, eq_true h18_4]; rfl) | rfl) (eqH_rf _) (eqH_rf _) ⟨rfl, rfl, rfl, rfl, rfl, rfl⟩)
    refine And.intro (fun h18_5 => ?_) (fun h18_5 => ?_)
    · refine tg_steps 3 rfl ?_
      refine tg_callV rfl (c_isAboard_0 hm _) rfl rfl rfl rfl rfl (fun v110 w110 q110 => ?_)
      obtain ⟨rfl, rfl⟩ := q110
      refine tg_ifbeq rfl rfl (fun h113 => ?_) (fun h113 => ?_)
      · refine tg_steps 1 rfl ?_
        exact tg_iret (st := []) rfl rfl ⟨Nat.le_of_ble_eq_true rfl, Nat.le_of_ble_eq_true rfl⟩ (pQ_ok (by first | (simp (decide := true) only [wLit, decide_true, decide_false, cond_true, cond_false, Bool.false_eq_true, if_true, if_false, ite_true, ite_false, h8, cn, h18_0, h18_1, h18_2, h18_3, h18_4, eq_true h18_5, h113]; done) | (simp (decide := true) only [wLit, decide_true, decide_false, cond_true, cond_false, Bool.false_eq_true, if_true, if_false, ite_true, ite_false, h8, cn, h18_0, h18_1, h18_2, h18_3, h18_4, h18_5, h113]; done) | (simp (decide := true) only [wLit, decide_true, decide_false, cond_true, cond_false, Bool.false_eq_true, if_true, if_false, ite_true, ite_false, h8, cn, h18_0, h18_1, h18_2, h18_3, h18_4, eq_true h18_5, h113]; rfl) | rfl) (by first | (simp (decide := true) only [aLit, tg_b, decide_true, decide_false, cond_true, cond_false, Bool.false_eq_true, if_true, if_false, ite_true, ite_false, h8, cn, h18_0, h18_1, h18_2, h18_3, h18_4, eq_true h18_5, h113]; done) | (simp (decide := true) only [aLit, tg_b, decide_true, decide_false, cond_true, cond_false, Bool.false_eq_true, if_true, if_false, ite_true, ite_false, h8, cn, h18_0, h18_1, h18_2, h18_3, h18_4, h18_5, h113]; done) | (simp (decide := true) only [aLit, tg_b, decide_true, decide_false, cond_true, cond_false, Bool.false_eq_true, if_true, if_false, ite_true, ite_false, h8, cn, h18_0, h18_1, h18_2, h18_3, h18_4, eq_true h18_5, h113]; rfl) | rfl) (eqH_rf _) (eqH_rf _) ⟨rfl, rfl, rfl, rfl, rfl, rfl⟩)
      · refine tg_steps 2 rfl ?_
        exact tg_iret (st := []) rfl rfl ⟨Nat.le_of_ble_eq_true rfl, Nat.le_of_ble_eq_true rfl⟩ (pQ_ok (by first | (simp (decide := true) only [wLit, decide_true, decide_false, cond_true, cond_false, Bool.false_eq_true, if_true, if_false, ite_true, ite_false, h8, cn, h18_0, h18_1, h18_2, h18_3, h18_4, eq_true h18_5, h113]; done) | (simp (decide := true) only [wLit, decide_true, decide_false, cond_true, cond_false, Bool.false_eq_true, if_true, if_false, ite_true, ite_false, h8, cn, h18_0, h18_1, h18_2, h18_3, h18_4, h18_5, h113]; done) | (simp (decide := true) only [wLit, decide_true, decide_false, cond_true, cond_false, Bool.false_eq_true, if_true, if_false, ite_true, ite_false, h8, cn, h18_0, h18_1, h18_2, h18_3, h18_4, eq_true h18_5, h113]; rfl) | rfl) (by first | (simp (decide := true) only [aLit, tg_b, decide_true, decide_false, cond_true, cond_false, Bool.false_eq_true, if_true, if_false, ite_true, ite_false, h8, cn, h18_0, h18_1, h18_2, h18_3, h18_4, eq_true h18_5, h113]; done) | (simp (decide := true) only [aLit, tg_b, decide_true, decide_false, cond_true, cond_false, Bool.false_eq_true, if_true, if_false, ite_true, ite_false, h8, cn, h18_0, h18_1, h18_2, h18_3, h18_4, h18_5, h113]; done) | (simp (decide := true) only [aLit, tg_b, decide_true, decide_false, cond_true, cond_false, Bool.false_eq_true, if_true, if_false, ite_true, ite_false, h8, cn, h18_0, h18_1, h18_2, h18_3, h18_4, eq_true h18_5, h113]; rfl) | rfl) (eqH_rf _) (eqH_rf _) ⟨rfl, rfl, rfl, rfl, rfl, rfl⟩)
    refine And.intro (fun h18_6 => ?_) (fun h18_6 => ?_)
    · refine tg_steps 5 rfl ?_
      refine tg_callV rfl (c_nextWay hm j hj) rfl rfl rfl rfl rfl (fun v131 w131 q131 => ?_)
      obtain ⟨rfl, t3, rfl⟩ := q131
      exact tg_iret (st := []) rfl rfl ⟨Nat.le_of_ble_eq_true rfl, Nat.le_of_ble_eq_true rfl⟩ (pQ_ok (by first | (simp (decide := true) only [wLit, decide_true, decide_false, cond_true, cond_false, Bool.false_eq_true, if_true, if_false, ite_true, ite_false, h8, cn, h18_0, h18_1, h18_2, h18_3, h18_4, h18_5, eq_true h18_6]; done) | (simp (decide := true) only [wLit, decide_true, decide_false, cond_true, cond_false, Bool.false_eq_true, if_true, if_false, ite_true, ite_false, h8, cn, h18_0, h18_1, h18_2, h18_3, h18_4, h18_5, h18_6]; done) | (simp (decide := true) only [wLit, decide_true, decide_false, cond_true, cond_false, Bool.false_eq_true, if_true, if_false, ite_true, ite_false, h8, cn, h18_0, h18_1, h18_2, h18_3, h18_4, h18_5, eq_true h18_6]; rfl) | rfl) (by first | (simp (decide := true) only [aLit, tg_b, decide_true, decide_false, cond_true, cond_false, Bool.false_eq_true, if_true, if_false, ite_true, ite_false, h8, cn, h18_0, h18_1, h18_2, h18_3, h18_4, h18_5, eq_true h18_6]; done) | (simp (decide := true) only [aLit, tg_b, decide_true, decide_false, cond_true, cond_false, Bool.false_eq_true, if_true, if_false, ite_true, ite_false, h8, cn, h18_0, h18_1, h18_2, h18_3, h18_4, h18_5, h18_6]; done) | (simp (decide := true) only [aLit, tg_b, decide_true, decide_false, cond_true, cond_false, Bool.false_eq_true, if_true, if_false, ite_true, ite_false, h8, cn, h18_0, h18_1, h18_2, h18_3, h18_4, h18_5, eq_true h18_6]; rfl) | rfl) (eqH_rf _) (eqH_rf _) ⟨rfl, rfl, rfl, rfl, rfl, rfl⟩)
    refine tg_steps 2 rfl ?_
    refine tg_callV rfl (c_refuse (-2) (by decide)) rfl rfl rfl rfl rfl (fun v138 w138 q138 => ?_)
    obtain ⟨rfl, rfl⟩ := q138
    exact tg_iret (st := []) rfl rfl ⟨Nat.le_of_ble_eq_true rfl, Nat.le_of_ble_eq_true rfl⟩ (pQ_refI (by first | (simp (decide := true) only [wLit, decide_true, decide_false, cond_true, cond_false, Bool.false_eq_true, if_true, if_false, ite_true, ite_false, h8, cn, h18_0, h18_1, h18_2, h18_3, h18_4, h18_5, h18_6]; done) | (simp (decide := true) only [wLit, decide_true, decide_false, cond_true, cond_false, Bool.false_eq_true, if_true, if_false, ite_true, ite_false, h8, cn, h18_0, h18_1, h18_2, h18_3, h18_4, h18_5, h18_6]; done) | (simp (decide := true) only [wLit, decide_true, decide_false, cond_true, cond_false, Bool.false_eq_true, if_true, if_false, ite_true, ite_false, h8, cn, h18_0, h18_1, h18_2, h18_3, h18_4, h18_5, h18_6]; rfl) | rfl) (by first | decide | exact rf_bor _))
  · refine tg_steps 2 rfl ?_
    refine tg_callV rfl (c_refuse (-1) (by decide)) rfl rfl rfl rfl rfl (fun v13 w13 q13 => ?_)
    obtain ⟨rfl, rfl⟩ := q13
    exact tg_iret (st := []) rfl rfl ⟨Nat.le_of_ble_eq_true rfl, Nat.le_of_ble_eq_true rfl⟩ (pQ_refI (by first | (simp (decide := true) only [wLit, decide_true, decide_false, cond_true, cond_false, Bool.false_eq_true, if_true, if_false, ite_true, ite_false, h8]; done) | (simp (decide := true) only [wLit, decide_true, decide_false, cond_true, cond_false, Bool.false_eq_true, if_true, if_false, ite_true, ite_false, h8]; done) | (simp (decide := true) only [wLit, decide_true, decide_false, cond_true, cond_false, Bool.false_eq_true, if_true, if_false, ite_true, ite_false, h8]; rfl) | rfl) (by first | decide | exact rf_bor _))
set_option maxRecDepth 100000 in
set_option maxHeartbeats 2000000 in
theorem q_tile {G : tg_G} {n p t : tp_H} {x : tp_X} {r : List tg_Cl} (hm : hM n ≤ 7) (tile : Int32) (what : Int32) : tg_C G 2 mX10_tile 0 0 [.ref 0, .int tile, .int what] (tp_cs n p t x, r) (pQ (wTil tile what) (.int (wTil tile what)) (.int (aTil n tile what)) n p x (n) (p) (x) r) := by
  refine tg_intro okX10_tile (Nat.le_of_ble_eq_true rfl) ?_
  refine tg_steps 1 rfl ?_
  refine tg_call1 rfl (c_isTile _) rfl rfl rfl  (fun v1 w1 q1 => ?_)
  obtain ⟨rfl, rfl⟩ := q1
  refine tg_ifbne rfl rfl (fun h4 => ?_) (fun h4 => ?_)
  · refine tg_steps 1 rfl ?_
    refine tg_lsw rfl ?_
    refine And.intro (fun h14_0 => ?_) (fun h14_0 => ?_)
    · refine tg_steps 3 rfl ?_
      refine tg_callV rfl (c_isCracked_0 _) rfl rfl rfl rfl rfl (fun v45 w45 q45 => ?_)
      obtain ⟨rfl, rfl⟩ := q45
      refine tg_ifbeq rfl rfl (fun h48 => ?_) (fun h48 => ?_)
      · refine tg_steps 1 rfl ?_
        exact tg_iret (st := []) rfl rfl ⟨Nat.le_of_ble_eq_true rfl, Nat.le_of_ble_eq_true rfl⟩ (pQ_ok (by first | (simp (decide := true) only [wTil, decide_true, decide_false, cond_true, cond_false, Bool.false_eq_true, if_true, if_false, ite_true, ite_false, h4, eq_true h14_0, h48]; done) | (simp (decide := true) only [wTil, decide_true, decide_false, cond_true, cond_false, Bool.false_eq_true, if_true, if_false, ite_true, ite_false, h4, h14_0, h48]; done) | (simp (decide := true) only [wTil, decide_true, decide_false, cond_true, cond_false, Bool.false_eq_true, if_true, if_false, ite_true, ite_false, h4, eq_true h14_0, h48]; rfl) | rfl) (by first | (simp (decide := true) only [aTil, tg_b, decide_true, decide_false, cond_true, cond_false, Bool.false_eq_true, if_true, if_false, ite_true, ite_false, h4, eq_true h14_0, h48]; done) | (simp (decide := true) only [aTil, tg_b, decide_true, decide_false, cond_true, cond_false, Bool.false_eq_true, if_true, if_false, ite_true, ite_false, h4, h14_0, h48]; done) | (simp (decide := true) only [aTil, tg_b, decide_true, decide_false, cond_true, cond_false, Bool.false_eq_true, if_true, if_false, ite_true, ite_false, h4, eq_true h14_0, h48]; rfl) | rfl) (eqH_rf _) (eqH_rf _) ⟨rfl, rfl, rfl, rfl, rfl, rfl⟩)
      · refine tg_steps 2 rfl ?_
        exact tg_iret (st := []) rfl rfl ⟨Nat.le_of_ble_eq_true rfl, Nat.le_of_ble_eq_true rfl⟩ (pQ_ok (by first | (simp (decide := true) only [wTil, decide_true, decide_false, cond_true, cond_false, Bool.false_eq_true, if_true, if_false, ite_true, ite_false, h4, eq_true h14_0, h48]; done) | (simp (decide := true) only [wTil, decide_true, decide_false, cond_true, cond_false, Bool.false_eq_true, if_true, if_false, ite_true, ite_false, h4, h14_0, h48]; done) | (simp (decide := true) only [wTil, decide_true, decide_false, cond_true, cond_false, Bool.false_eq_true, if_true, if_false, ite_true, ite_false, h4, eq_true h14_0, h48]; rfl) | rfl) (by first | (simp (decide := true) only [aTil, tg_b, decide_true, decide_false, cond_true, cond_false, Bool.false_eq_true, if_true, if_false, ite_true, ite_false, h4, eq_true h14_0, h48]; done) | (simp (decide := true) only [aTil, tg_b, decide_true, decide_false, cond_true, cond_false, Bool.false_eq_true, if_true, if_false, ite_true, ite_false, h4, h14_0, h48]; done) | (simp (decide := true) only [aTil, tg_b, decide_true, decide_false, cond_true, cond_false, Bool.false_eq_true, if_true, if_false, ite_true, ite_false, h4, eq_true h14_0, h48]; rfl) | rfl) (eqH_rf _) (eqH_rf _) ⟨rfl, rfl, rfl, rfl, rfl, rfl⟩)
    refine And.intro (fun h14_1 => ?_) (fun h14_1 => ?_)
    · refine tg_steps 3 rfl ?_
      refine tg_callV rfl (c_onesAt_0 hm _) rfl rfl rfl rfl rfl (fun v62 w62 q62 => ?_)
      obtain ⟨rfl, rfl⟩ := q62
      exact tg_iret (st := []) rfl rfl ⟨Nat.le_of_ble_eq_true rfl, Nat.le_of_ble_eq_true rfl⟩ (pQ_ok (by first | (simp (decide := true) only [wTil, decide_true, decide_false, cond_true, cond_false, Bool.false_eq_true, if_true, if_false, ite_true, ite_false, h4, h14_0, eq_true h14_1]; done) | (simp (decide := true) only [wTil, decide_true, decide_false, cond_true, cond_false, Bool.false_eq_true, if_true, if_false, ite_true, ite_false, h4, h14_0, h14_1]; done) | (simp (decide := true) only [wTil, decide_true, decide_false, cond_true, cond_false, Bool.false_eq_true, if_true, if_false, ite_true, ite_false, h4, h14_0, eq_true h14_1]; rfl) | rfl) (by first | (simp (decide := true) only [aTil, tg_b, decide_true, decide_false, cond_true, cond_false, Bool.false_eq_true, if_true, if_false, ite_true, ite_false, h4, h14_0, eq_true h14_1]; done) | (simp (decide := true) only [aTil, tg_b, decide_true, decide_false, cond_true, cond_false, Bool.false_eq_true, if_true, if_false, ite_true, ite_false, h4, h14_0, h14_1]; done) | (simp (decide := true) only [aTil, tg_b, decide_true, decide_false, cond_true, cond_false, Bool.false_eq_true, if_true, if_false, ite_true, ite_false, h4, h14_0, eq_true h14_1]; rfl) | rfl) (eqH_rf _) (eqH_rf _) ⟨rfl, rfl, rfl, rfl, rfl, rfl⟩)
    refine tg_steps 2 rfl ?_
    refine tg_callV rfl (c_refuse (-2) (by decide)) rfl rfl rfl rfl rfl (fun v69 w69 q69 => ?_)
    obtain ⟨rfl, rfl⟩ := q69
    exact tg_iret (st := []) rfl rfl ⟨Nat.le_of_ble_eq_true rfl, Nat.le_of_ble_eq_true rfl⟩ (pQ_refI (by first | (simp (decide := true) only [wTil, decide_true, decide_false, cond_true, cond_false, Bool.false_eq_true, if_true, if_false, ite_true, ite_false, h4, h14_0, h14_1]; done) | (simp (decide := true) only [wTil, decide_true, decide_false, cond_true, cond_false, Bool.false_eq_true, if_true, if_false, ite_true, ite_false, h4, h14_0, h14_1]; done) | (simp (decide := true) only [wTil, decide_true, decide_false, cond_true, cond_false, Bool.false_eq_true, if_true, if_false, ite_true, ite_false, h4, h14_0, h14_1]; rfl) | rfl) (by first | decide | exact rf_bor _))
  · refine tg_steps 2 rfl ?_
    refine tg_callV rfl (c_refuse (-1) (by decide)) rfl rfl rfl rfl rfl (fun v9 w9 q9 => ?_)
    obtain ⟨rfl, rfl⟩ := q9
    exact tg_iret (st := []) rfl rfl ⟨Nat.le_of_ble_eq_true rfl, Nat.le_of_ble_eq_true rfl⟩ (pQ_refI (by first | (simp (decide := true) only [wTil, decide_true, decide_false, cond_true, cond_false, Bool.false_eq_true, if_true, if_false, ite_true, ite_false, h4]; done) | (simp (decide := true) only [wTil, decide_true, decide_false, cond_true, cond_false, Bool.false_eq_true, if_true, if_false, ite_true, ite_false, h4]; done) | (simp (decide := true) only [wTil, decide_true, decide_false, cond_true, cond_false, Bool.false_eq_true, if_true, if_false, ite_true, ite_false, h4]; rfl) | rfl) (by first | decide | exact rf_bor _))
set_option maxRecDepth 100000 in
set_option maxHeartbeats 2000000 in
theorem q_comesIn {G : tg_G} {n p t : tp_H} {x : tp_X} {r : List tg_Cl} (hm : hM n ≤ 7) (kd : Int32) (f : Int32) (ho : Int32) : tg_C G 4 mX10_comesIn 0 0 [.ref 0, .int kd, .int f, .int ho] (tp_cs n p t x, r) (pQ (wCom n kd f ho) (.int (wCom n kd f ho)) (.int (nI (hM n))) n p x (comH n kd f ho) (p) (x) r) := by
  refine tg_intro okX10_comesIn (Nat.le_of_ble_eq_true rfl) ?_
  refine tg_steps 2 rfl ?_
  refine tg_call1 rfl (c_isUpTo _ _) rfl rfl rfl  (fun v2 w2 q2 => ?_)
  obtain ⟨rfl, rfl⟩ := q2
  refine tg_ifbne rfl rfl (fun h5 => ?_) (fun h5 => ?_)
  · refine tg_steps 2 rfl ?_
    refine tg_call1 rfl (c_isUpTo _ _) rfl rfl rfl  (fun v18 w18 q18 => ?_)
    obtain ⟨rfl, rfl⟩ := q18
    refine tg_ifbne rfl rfl (fun h21 => ?_) (fun h21 => ?_)
    · refine tg_steps 1 rfl ?_
      refine tg_call1 rfl (c_isTile _) rfl rfl rfl  (fun v34 w34 q34 => ?_)
      obtain ⟨rfl, rfl⟩ := q34
      refine tg_ifbne rfl rfl (fun h37 => ?_) (fun h37 => ?_)
      · refine tg_steps 4 rfl ?_
        refine tg_iclt rfl rfl (fun h55 => ?_) (fun h55 => ?_)
        · have hl2 : hM n < 7 := by
            rcases Nat.lt_or_ge (hM n) 7 with q | q
            · exact q
            · exact absurd h55 (nI_nlt (a := hM n) (b := 7) q (by omega))
          refine tg_steps 5 rfl ?_
          refine tg_callV rfl (c_comeIn_y hl2 kd f ho) rfl rfl rfl rfl rfl (fun v72 w72 q72 => ?_)
          obtain ⟨rfl, rfl⟩ := q72
          exact tg_iret (st := []) rfl rfl ⟨Nat.le_of_ble_eq_true rfl, Nat.le_of_ble_eq_true rfl⟩ (pQ_ok (by first | (simp (decide := true) only [wCom, decide_true, decide_false, cond_true, cond_false, Bool.false_eq_true, if_true, if_false, ite_true, ite_false, h5, h21, h37, h55, Int32.not_le.mpr h55]; done) | (simp (decide := true) only [wCom, decide_true, decide_false, cond_true, cond_false, Bool.false_eq_true, if_true, if_false, ite_true, ite_false, h5, h21, h37, h55, Int32.not_le.mpr h55]; done) | (simp (decide := true) only [wCom, decide_true, decide_false, cond_true, cond_false, Bool.false_eq_true, if_true, if_false, ite_true, ite_false, h5, h21, h37, h55, Int32.not_le.mpr h55]; rfl) | rfl) rfl (eqH_rf _) (eqH_rf _) ⟨rfl, rfl, rfl, rfl, rfl, rfl⟩)
        · refine tg_steps 2 rfl ?_
          refine tg_callV rfl (c_refuse (-6) (by decide)) rfl rfl rfl rfl rfl (fun v61 w61 q61 => ?_)
          obtain ⟨rfl, rfl⟩ := q61
          exact tg_iret (st := []) rfl rfl ⟨Nat.le_of_ble_eq_true rfl, Nat.le_of_ble_eq_true rfl⟩ (pQ_refI (by first | (simp (decide := true) only [wCom, decide_true, decide_false, cond_true, cond_false, Bool.false_eq_true, if_true, if_false, ite_true, ite_false, h5, h21, h37, h55, Int32.not_lt.mp h55]; done) | (simp (decide := true) only [wCom, decide_true, decide_false, cond_true, cond_false, Bool.false_eq_true, if_true, if_false, ite_true, ite_false, h5, h21, h37, h55, Int32.not_lt.mp h55]; done) | (simp (decide := true) only [wCom, decide_true, decide_false, cond_true, cond_false, Bool.false_eq_true, if_true, if_false, ite_true, ite_false, h5, h21, h37, h55, Int32.not_lt.mp h55]; rfl) | rfl) (by first | decide | exact rf_bor _))
      · refine tg_steps 2 rfl ?_
        refine tg_callV rfl (c_refuse (-1) (by decide)) rfl rfl rfl rfl rfl (fun v42 w42 q42 => ?_)
        obtain ⟨rfl, rfl⟩ := q42
        exact tg_iret (st := []) rfl rfl ⟨Nat.le_of_ble_eq_true rfl, Nat.le_of_ble_eq_true rfl⟩ (pQ_refI (by first | (simp (decide := true) only [wCom, decide_true, decide_false, cond_true, cond_false, Bool.false_eq_true, if_true, if_false, ite_true, ite_false, h5, h21, h37]; done) | (simp (decide := true) only [wCom, decide_true, decide_false, cond_true, cond_false, Bool.false_eq_true, if_true, if_false, ite_true, ite_false, h5, h21, h37]; done) | (simp (decide := true) only [wCom, decide_true, decide_false, cond_true, cond_false, Bool.false_eq_true, if_true, if_false, ite_true, ite_false, h5, h21, h37]; rfl) | rfl) (by first | decide | exact rf_bor _))
    · refine tg_steps 2 rfl ?_
      refine tg_call1 rfl (c_bor _) rfl rfl rfl  (fun v26 w26 q26 => ?_)
      obtain ⟨rfl, rfl⟩ := q26
      refine tg_callV rfl (c_refuse _ (rf_bor _)) rfl rfl rfl rfl rfl (fun v29 w29 q29 => ?_)
      obtain ⟨rfl, rfl⟩ := q29
      exact tg_iret (st := []) rfl rfl ⟨Nat.le_of_ble_eq_true rfl, Nat.le_of_ble_eq_true rfl⟩ (pQ_refI (by first | (simp (decide := true) only [wCom, decide_true, decide_false, cond_true, cond_false, Bool.false_eq_true, if_true, if_false, ite_true, ite_false, h5, h21]; done) | (simp (decide := true) only [wCom, decide_true, decide_false, cond_true, cond_false, Bool.false_eq_true, if_true, if_false, ite_true, ite_false, h5, h21]; done) | (simp (decide := true) only [wCom, decide_true, decide_false, cond_true, cond_false, Bool.false_eq_true, if_true, if_false, ite_true, ite_false, h5, h21]; rfl) | rfl) (by first | decide | exact rf_bor _))
  · refine tg_steps 2 rfl ?_
    refine tg_callV rfl (c_refuse (-2) (by decide)) rfl rfl rfl rfl rfl (fun v11 w11 q11 => ?_)
    obtain ⟨rfl, rfl⟩ := q11
    exact tg_iret (st := []) rfl rfl ⟨Nat.le_of_ble_eq_true rfl, Nat.le_of_ble_eq_true rfl⟩ (pQ_refI (by first | (simp (decide := true) only [wCom, decide_true, decide_false, cond_true, cond_false, Bool.false_eq_true, if_true, if_false, ite_true, ite_false, h5]; done) | (simp (decide := true) only [wCom, decide_true, decide_false, cond_true, cond_false, Bool.false_eq_true, if_true, if_false, ite_true, ite_false, h5]; done) | (simp (decide := true) only [wCom, decide_true, decide_false, cond_true, cond_false, Bool.false_eq_true, if_true, if_false, ite_true, ite_false, h5]; rfl) | rfl) (by first | decide | exact rf_bor _))
set_option maxRecDepth 100000 in
set_option maxHeartbeats 2000000 in
theorem q_stands {G : tg_G} {n p t : tp_H} {x : tp_X} {r : List tg_Cl} (hm : hM n ≤ 7) (one : Int32) (tile : Int32) : tg_C G 3 mX10_stands 0 0 [.ref 0, .int one, .int tile] (tp_cs n p t x, r) (pQ (wSta n one tile) (.int (wSta n one tile)) (.int (gO hT n one)) n p x (putH n one tile) (p) (x) r) := by
  refine tg_intro okX10_stands (Nat.le_of_ble_eq_true rfl) ?_
  refine tg_steps 3 rfl ?_
  refine tg_callV rfl (c_has_0 _) rfl rfl rfl rfl rfl (fun v5 w5 q5 => ?_)
  obtain ⟨rfl, rfl⟩ := q5
  refine tg_ifbeq rfl rfl (fun h8 => ?_) (fun h8 => ?_)
  · refine tg_steps 2 rfl ?_
    refine tg_callV rfl (c_refuse (-1) (by decide)) rfl rfl rfl rfl rfl (fun v20 w20 q20 => ?_)
    obtain ⟨rfl, rfl⟩ := q20
    exact tg_iret (st := []) rfl rfl ⟨Nat.le_of_ble_eq_true rfl, Nat.le_of_ble_eq_true rfl⟩ (pQ_refI (by first | (simp (decide := true) only [wSta, decide_true, decide_false, cond_true, cond_false, Bool.false_eq_true, if_true, if_false, ite_true, ite_false, h8]; done) | (simp (decide := true) only [wSta, decide_true, decide_false, cond_true, cond_false, Bool.false_eq_true, if_true, if_false, ite_true, ite_false, h8]; done) | (simp (decide := true) only [wSta, decide_true, decide_false, cond_true, cond_false, Bool.false_eq_true, if_true, if_false, ite_true, ite_false, h8]; rfl) | rfl) (by first | decide | exact rf_bor _))
  · refine tg_steps 1 rfl ?_
    refine tg_call1 rfl (c_isTile _) rfl rfl rfl  (fun v12 w12 q12 => ?_)
    obtain ⟨rfl, rfl⟩ := q12
    refine tg_ifbne rfl rfl (fun h15 => ?_) (fun h15 => ?_)
    · refine tg_steps 3 rfl ?_
      refine tg_callV rfl (c_tileOf_0 hm _) rfl rfl rfl rfl rfl (fun v29 w29 q29 => ?_)
      obtain ⟨rfl, rfl⟩ := q29
      refine tg_steps 5 rfl ?_
      refine tg_callV rfl (c_put_0 hm _ _) rfl rfl rfl rfl rfl (fun v39 w39 q39 => ?_)
      obtain ⟨rfl, rfl⟩ := q39
      refine tg_steps 1 rfl ?_
      exact tg_iret (st := []) rfl rfl ⟨Nat.le_of_ble_eq_true rfl, Nat.le_of_ble_eq_true rfl⟩ (pQ_ok (by first | (simp (decide := true) only [wSta, decide_true, decide_false, cond_true, cond_false, Bool.false_eq_true, if_true, if_false, ite_true, ite_false, h8, h15]; done) | (simp (decide := true) only [wSta, decide_true, decide_false, cond_true, cond_false, Bool.false_eq_true, if_true, if_false, ite_true, ite_false, h8, h15]; done) | (simp (decide := true) only [wSta, decide_true, decide_false, cond_true, cond_false, Bool.false_eq_true, if_true, if_false, ite_true, ite_false, h8, h15]; rfl) | rfl) rfl (eqH_rf _) (eqH_rf _) ⟨rfl, rfl, rfl, rfl, rfl, rfl⟩)
    · refine tg_steps 2 rfl ?_
      refine tg_callV rfl (c_refuse (-1) (by decide)) rfl rfl rfl rfl rfl (fun v20 w20 q20 => ?_)
      obtain ⟨rfl, rfl⟩ := q20
      exact tg_iret (st := []) rfl rfl ⟨Nat.le_of_ble_eq_true rfl, Nat.le_of_ble_eq_true rfl⟩ (pQ_refI (by first | (simp (decide := true) only [wSta, decide_true, decide_false, cond_true, cond_false, Bool.false_eq_true, if_true, if_false, ite_true, ite_false, h8, h15]; done) | (simp (decide := true) only [wSta, decide_true, decide_false, cond_true, cond_false, Bool.false_eq_true, if_true, if_false, ite_true, ite_false, h8, h15]; done) | (simp (decide := true) only [wSta, decide_true, decide_false, cond_true, cond_false, Bool.false_eq_true, if_true, if_false, ite_true, ite_false, h8, h15]; rfl) | rfl) (by first | decide | exact rf_bor _))
set_option maxRecDepth 100000 in
set_option maxHeartbeats 2000000 in
theorem q_cracks {G : tg_G} {n p t : tp_H} {x : tp_X} {r : List tg_Cl} (tile : Int32) : tg_C G 2 mX10_cracks 0 0 [.ref 0, .int tile] (tp_cs n p t x, r) (pQ (wTl tile) (.int (wTl tile)) (.int (tg_b (crB (crkH n tile) tile))) n p x (crkH n tile) (p) (x) r) := by
  refine tg_intro okX10_cracks (Nat.le_of_ble_eq_true rfl) ?_
  refine tg_steps 1 rfl ?_
  refine tg_call1 rfl (c_isTile _) rfl rfl rfl  (fun v1 w1 q1 => ?_)
  obtain ⟨rfl, rfl⟩ := q1
  refine tg_ifbne rfl rfl (fun h4 => ?_) (fun h4 => ?_)
  · refine tg_steps 3 rfl ?_
    refine tg_callV rfl (c_turnCrack_0 _) rfl rfl rfl rfl rfl (fun v18 w18 q18 => ?_)
    obtain ⟨rfl, rfl⟩ := q18
    refine tg_steps 3 rfl ?_
    refine tg_callV rfl (c_isCracked_0 (h := crkH n tile) _) rfl rfl rfl rfl rfl (fun v26 w26 q26 => ?_)
    obtain ⟨rfl, rfl⟩ := q26
    refine tg_ifbeq rfl rfl (fun h29 => ?_) (fun h29 => ?_)
    · refine tg_steps 1 rfl ?_
      exact tg_iret (st := []) rfl rfl ⟨Nat.le_of_ble_eq_true rfl, Nat.le_of_ble_eq_true rfl⟩ (pQ_ok (by first | (simp (decide := true) only [wTl, decide_true, decide_false, cond_true, cond_false, Bool.false_eq_true, if_true, if_false, ite_true, ite_false, h4, h29]; done) | (simp (decide := true) only [wTl, decide_true, decide_false, cond_true, cond_false, Bool.false_eq_true, if_true, if_false, ite_true, ite_false, h4, h29]; done) | (simp (decide := true) only [wTl, decide_true, decide_false, cond_true, cond_false, Bool.false_eq_true, if_true, if_false, ite_true, ite_false, h4, h29]; rfl) | rfl) (by first | (simp (decide := true) only [tg_b, decide_true, decide_false, cond_true, cond_false, Bool.false_eq_true, if_true, if_false, ite_true, ite_false, h4, h29]; done) | (simp (decide := true) only [tg_b, decide_true, decide_false, cond_true, cond_false, Bool.false_eq_true, if_true, if_false, ite_true, ite_false, h4, h29]; done) | (simp (decide := true) only [tg_b, decide_true, decide_false, cond_true, cond_false, Bool.false_eq_true, if_true, if_false, ite_true, ite_false, h4, h29]; rfl) | rfl) (eqH_rf _) (eqH_rf _) ⟨rfl, rfl, rfl, rfl, rfl, rfl⟩)
    · refine tg_steps 2 rfl ?_
      exact tg_iret (st := []) rfl rfl ⟨Nat.le_of_ble_eq_true rfl, Nat.le_of_ble_eq_true rfl⟩ (pQ_ok (by first | (simp (decide := true) only [wTl, decide_true, decide_false, cond_true, cond_false, Bool.false_eq_true, if_true, if_false, ite_true, ite_false, h4, h29]; done) | (simp (decide := true) only [wTl, decide_true, decide_false, cond_true, cond_false, Bool.false_eq_true, if_true, if_false, ite_true, ite_false, h4, h29]; done) | (simp (decide := true) only [wTl, decide_true, decide_false, cond_true, cond_false, Bool.false_eq_true, if_true, if_false, ite_true, ite_false, h4, h29]; rfl) | rfl) (by first | (simp (decide := true) only [tg_b, decide_true, decide_false, cond_true, cond_false, Bool.false_eq_true, if_true, if_false, ite_true, ite_false, h4, h29]; done) | (simp (decide := true) only [tg_b, decide_true, decide_false, cond_true, cond_false, Bool.false_eq_true, if_true, if_false, ite_true, ite_false, h4, h29]; done) | (simp (decide := true) only [tg_b, decide_true, decide_false, cond_true, cond_false, Bool.false_eq_true, if_true, if_false, ite_true, ite_false, h4, h29]; rfl) | rfl) (eqH_rf _) (eqH_rf _) ⟨rfl, rfl, rfl, rfl, rfl, rfl⟩)
  · refine tg_steps 2 rfl ?_
    refine tg_callV rfl (c_refuse (-1) (by decide)) rfl rfl rfl rfl rfl (fun v9 w9 q9 => ?_)
    obtain ⟨rfl, rfl⟩ := q9
    exact tg_iret (st := []) rfl rfl ⟨Nat.le_of_ble_eq_true rfl, Nat.le_of_ble_eq_true rfl⟩ (pQ_refI (by first | (simp (decide := true) only [wTl, decide_true, decide_false, cond_true, cond_false, Bool.false_eq_true, if_true, if_false, ite_true, ite_false, h4]; done) | (simp (decide := true) only [wTl, decide_true, decide_false, cond_true, cond_false, Bool.false_eq_true, if_true, if_false, ite_true, ite_false, h4]; done) | (simp (decide := true) only [wTl, decide_true, decide_false, cond_true, cond_false, Bool.false_eq_true, if_true, if_false, ite_true, ite_false, h4]; rfl) | rfl) (by first | decide | exact rf_bor _))
set_option maxRecDepth 100000 in
set_option maxHeartbeats 2000000 in
theorem q_ship {G : tg_G} {n p t : tp_H} {x : tp_X} {r : List tg_Cl} (tile : Int32) : tg_C G 2 mX10_ship 0 0 [.ref 0, .int tile] (tp_cs n p t x, r) (pQ (wTl tile) (.int (wTl tile)) (.int (hS n)) n p x (sS n tile) (p) (x) r) := by
  refine tg_intro okX10_ship (Nat.le_of_ble_eq_true rfl) ?_
  refine tg_steps 1 rfl ?_
  refine tg_call1 rfl (c_isTile _) rfl rfl rfl  (fun v1 w1 q1 => ?_)
  obtain ⟨rfl, rfl⟩ := q1
  refine tg_ifbne rfl rfl (fun h4 => ?_) (fun h4 => ?_)
  · refine tg_steps 8 rfl ?_
    refine tg_eqW (w2 := (tp_cs (sS n tile) p t x, r)) rfl ?_
    refine tg_steps 1 rfl ?_
    exact tg_iret (st := []) rfl rfl ⟨Nat.le_of_ble_eq_true rfl, Nat.le_of_ble_eq_true rfl⟩ (pQ_ok (by first | (simp (decide := true) only [wTl, decide_true, decide_false, cond_true, cond_false, Bool.false_eq_true, if_true, if_false, ite_true, ite_false, h4]; done) | (simp (decide := true) only [wTl, decide_true, decide_false, cond_true, cond_false, Bool.false_eq_true, if_true, if_false, ite_true, ite_false, h4]; done) | (simp (decide := true) only [wTl, decide_true, decide_false, cond_true, cond_false, Bool.false_eq_true, if_true, if_false, ite_true, ite_false, h4]; rfl) | rfl) rfl (eqH_rf _) (eqH_rf _) ⟨rfl, rfl, rfl, rfl, rfl, rfl⟩)
  · refine tg_steps 2 rfl ?_
    refine tg_callV rfl (c_refuse (-1) (by decide)) rfl rfl rfl rfl rfl (fun v9 w9 q9 => ?_)
    obtain ⟨rfl, rfl⟩ := q9
    exact tg_iret (st := []) rfl rfl ⟨Nat.le_of_ble_eq_true rfl, Nat.le_of_ble_eq_true rfl⟩ (pQ_refI (by first | (simp (decide := true) only [wTl, decide_true, decide_false, cond_true, cond_false, Bool.false_eq_true, if_true, if_false, ite_true, ite_false, h4]; done) | (simp (decide := true) only [wTl, decide_true, decide_false, cond_true, cond_false, Bool.false_eq_true, if_true, if_false, ite_true, ite_false, h4]; done) | (simp (decide := true) only [wTl, decide_true, decide_false, cond_true, cond_false, Bool.false_eq_true, if_true, if_false, ite_true, ite_false, h4]; rfl) | rfl) (by first | decide | exact rf_bor _))
set_option maxRecDepth 100000 in
set_option maxHeartbeats 2000000 in
theorem q_pins {G : tg_G} {n p t : tp_H} {x : tp_X} {r : List tg_Cl} (hm : hM n ≤ 7) (one : Int32) (k : Int32) : tg_C G 4 mX10_pins 0 0 [.ref 0, .int one, .int k] (tp_cs n p t x, r) (pQ (wPis n one k) (.int (wPis n one k)) (.int (gO hT n one)) n p x (senH n one k) (p) (x) r) := by
  refine tg_intro okX10_pins (Nat.le_of_ble_eq_true rfl) ?_
  refine tg_steps 3 rfl ?_
  refine tg_callV rfl (c_has_0 _) rfl rfl rfl rfl rfl (fun v5 w5 q5 => ?_)
  obtain ⟨rfl, rfl⟩ := q5
  refine tg_ifbne rfl rfl (fun h8 => ?_) (fun h8 => ?_)
  · refine tg_steps 2 rfl ?_
    refine tg_call1 rfl (c_isUpTo _ _) rfl rfl rfl  (fun v20 w20 q20 => ?_)
    obtain ⟨rfl, rfl⟩ := q20
    refine tg_ifbne rfl rfl (fun h23 => ?_) (fun h23 => ?_)
    · refine tg_steps 3 rfl ?_
      refine tg_callV rfl (c_tileOf_0 hm _) rfl rfl rfl rfl rfl (fun v40 w40 q40 => ?_)
      obtain ⟨rfl, rfl⟩ := q40
      refine tg_steps 5 rfl ?_
      refine tg_callV rfl (c_sendHome_0 hm _ _) rfl rfl rfl rfl rfl (fun v50 w50 q50 => ?_)
      obtain ⟨rfl, rfl⟩ := q50
      refine tg_steps 1 rfl ?_
      exact tg_iret (st := []) rfl rfl ⟨Nat.le_of_ble_eq_true rfl, Nat.le_of_ble_eq_true rfl⟩ (pQ_ok (by first | (simp (decide := true) only [wPis, decide_true, decide_false, cond_true, cond_false, Bool.false_eq_true, if_true, if_false, ite_true, ite_false, h8, h23]; done) | (simp (decide := true) only [wPis, decide_true, decide_false, cond_true, cond_false, Bool.false_eq_true, if_true, if_false, ite_true, ite_false, h8, h23]; done) | (simp (decide := true) only [wPis, decide_true, decide_false, cond_true, cond_false, Bool.false_eq_true, if_true, if_false, ite_true, ite_false, h8, h23]; rfl) | rfl) rfl (eqH_rf _) (eqH_rf _) ⟨rfl, rfl, rfl, rfl, rfl, rfl⟩)
    · refine tg_steps 2 rfl ?_
      refine tg_call1 rfl (c_bor _) rfl rfl rfl  (fun v28 w28 q28 => ?_)
      obtain ⟨rfl, rfl⟩ := q28
      refine tg_callV rfl (c_refuse _ (rf_bor _)) rfl rfl rfl rfl rfl (fun v31 w31 q31 => ?_)
      obtain ⟨rfl, rfl⟩ := q31
      exact tg_iret (st := []) rfl rfl ⟨Nat.le_of_ble_eq_true rfl, Nat.le_of_ble_eq_true rfl⟩ (pQ_refI (by first | (simp (decide := true) only [wPis, decide_true, decide_false, cond_true, cond_false, Bool.false_eq_true, if_true, if_false, ite_true, ite_false, h8, h23]; done) | (simp (decide := true) only [wPis, decide_true, decide_false, cond_true, cond_false, Bool.false_eq_true, if_true, if_false, ite_true, ite_false, h8, h23]; done) | (simp (decide := true) only [wPis, decide_true, decide_false, cond_true, cond_false, Bool.false_eq_true, if_true, if_false, ite_true, ite_false, h8, h23]; rfl) | rfl) (by first | decide | exact rf_bor _))
  · refine tg_steps 2 rfl ?_
    refine tg_callV rfl (c_refuse (-1) (by decide)) rfl rfl rfl rfl rfl (fun v13 w13 q13 => ?_)
    obtain ⟨rfl, rfl⟩ := q13
    exact tg_iret (st := []) rfl rfl ⟨Nat.le_of_ble_eq_true rfl, Nat.le_of_ble_eq_true rfl⟩ (pQ_refI (by first | (simp (decide := true) only [wPis, decide_true, decide_false, cond_true, cond_false, Bool.false_eq_true, if_true, if_false, ite_true, ite_false, h8]; done) | (simp (decide := true) only [wPis, decide_true, decide_false, cond_true, cond_false, Bool.false_eq_true, if_true, if_false, ite_true, ite_false, h8]; done) | (simp (decide := true) only [wPis, decide_true, decide_false, cond_true, cond_false, Bool.false_eq_true, if_true, if_false, ite_true, ite_false, h8]; rfl) | rfl) (by first | decide | exact rf_bor _))
set_option maxRecDepth 100000 in
set_option maxHeartbeats 2000000 in
theorem q_turn {G : tg_G} {n p t : tp_H} {x : tp_X} {r : List tg_Cl} (hm : hM n ≤ 7) (one : Int32) (kd : Int32) (f : Int32) : tg_C G 3 mX10_turn 0 0 [.ref 0, .int one, .int kd, .int f] (tp_cs n p t x, r) (pQ (wTur n one kd f) (.int (wTur n one kd f)) (.int (aTur n one)) n p x (becH n one kd f) (p) (x) r) := by
  refine tg_intro okX10_turn (Nat.le_of_ble_eq_true rfl) ?_
  refine tg_steps 3 rfl ?_
  refine tg_callV rfl (c_has_0 _) rfl rfl rfl rfl rfl (fun v5 w5 q5 => ?_)
  obtain ⟨rfl, rfl⟩ := q5
  refine tg_ifbne rfl rfl (fun h8 => ?_) (fun h8 => ?_)
  · refine tg_steps 2 rfl ?_
    refine tg_call1 rfl (c_isUpTo _ _) rfl rfl rfl  (fun v19 w19 q19 => ?_)
    obtain ⟨rfl, rfl⟩ := q19
    refine tg_ifbne rfl rfl (fun h22 => ?_) (fun h22 => ?_)
    · refine tg_steps 2 rfl ?_
      refine tg_call1 rfl (c_isUpTo _ _) rfl rfl rfl  (fun v35 w35 q35 => ?_)
      obtain ⟨rfl, rfl⟩ := q35
      refine tg_ifbne rfl rfl (fun h38 => ?_) (fun h38 => ?_)
      · refine tg_steps 4 rfl ?_
        refine tg_callV rfl (c_kindOf_0 hm _) rfl rfl rfl rfl rfl (fun v57 w57 q57 => ?_)
        obtain ⟨rfl, rfl⟩ := q57
        refine tg_steps 4 rfl ?_
        refine tg_callV rfl (c_figureOf_0 hm _) rfl rfl rfl rfl rfl (fun v66 w66 q66 => ?_)
        obtain ⟨rfl, rfl⟩ := q66
        refine tg_steps 7 rfl ?_
        refine tg_callV rfl (c_become_0 hm _ _ _) rfl rfl rfl rfl rfl (fun v79 w79 q79 => ?_)
        obtain ⟨rfl, rfl⟩ := q79
        refine tg_steps 1 rfl ?_
        exact tg_iret (st := []) rfl rfl ⟨Nat.le_of_ble_eq_true rfl, Nat.le_of_ble_eq_true rfl⟩ (pQ_ok (by first | (simp (decide := true) only [wTur, decide_true, decide_false, cond_true, cond_false, Bool.false_eq_true, if_true, if_false, ite_true, ite_false, h8, h22, h38]; done) | (simp (decide := true) only [wTur, decide_true, decide_false, cond_true, cond_false, Bool.false_eq_true, if_true, if_false, ite_true, ite_false, h8, h22, h38]; done) | (simp (decide := true) only [wTur, decide_true, decide_false, cond_true, cond_false, Bool.false_eq_true, if_true, if_false, ite_true, ite_false, h8, h22, h38]; rfl) | rfl) rfl (eqH_rf _) (eqH_rf _) ⟨rfl, rfl, rfl, rfl, rfl, rfl⟩)
      · refine tg_steps 2 rfl ?_
        refine tg_call1 rfl (c_bor _) rfl rfl rfl  (fun v43 w43 q43 => ?_)
        obtain ⟨rfl, rfl⟩ := q43
        refine tg_callV rfl (c_refuse _ (rf_bor _)) rfl rfl rfl rfl rfl (fun v46 w46 q46 => ?_)
        obtain ⟨rfl, rfl⟩ := q46
        exact tg_iret (st := []) rfl rfl ⟨Nat.le_of_ble_eq_true rfl, Nat.le_of_ble_eq_true rfl⟩ (pQ_refI (by first | (simp (decide := true) only [wTur, decide_true, decide_false, cond_true, cond_false, Bool.false_eq_true, if_true, if_false, ite_true, ite_false, h8, h22, h38]; done) | (simp (decide := true) only [wTur, decide_true, decide_false, cond_true, cond_false, Bool.false_eq_true, if_true, if_false, ite_true, ite_false, h8, h22, h38]; done) | (simp (decide := true) only [wTur, decide_true, decide_false, cond_true, cond_false, Bool.false_eq_true, if_true, if_false, ite_true, ite_false, h8, h22, h38]; rfl) | rfl) (by first | decide | exact rf_bor _))
    · refine tg_steps 2 rfl ?_
      refine tg_callV rfl (c_refuse (-2) (by decide)) rfl rfl rfl rfl rfl (fun v28 w28 q28 => ?_)
      obtain ⟨rfl, rfl⟩ := q28
      exact tg_iret (st := []) rfl rfl ⟨Nat.le_of_ble_eq_true rfl, Nat.le_of_ble_eq_true rfl⟩ (pQ_refI (by first | (simp (decide := true) only [wTur, decide_true, decide_false, cond_true, cond_false, Bool.false_eq_true, if_true, if_false, ite_true, ite_false, h8, h22]; done) | (simp (decide := true) only [wTur, decide_true, decide_false, cond_true, cond_false, Bool.false_eq_true, if_true, if_false, ite_true, ite_false, h8, h22]; done) | (simp (decide := true) only [wTur, decide_true, decide_false, cond_true, cond_false, Bool.false_eq_true, if_true, if_false, ite_true, ite_false, h8, h22]; rfl) | rfl) (by first | decide | exact rf_bor _))
  · refine tg_steps 2 rfl ?_
    refine tg_callV rfl (c_refuse (-1) (by decide)) rfl rfl rfl rfl rfl (fun v13 w13 q13 => ?_)
    obtain ⟨rfl, rfl⟩ := q13
    exact tg_iret (st := []) rfl rfl ⟨Nat.le_of_ble_eq_true rfl, Nat.le_of_ble_eq_true rfl⟩ (pQ_refI (by first | (simp (decide := true) only [wTur, decide_true, decide_false, cond_true, cond_false, Bool.false_eq_true, if_true, if_false, ite_true, ite_false, h8]; done) | (simp (decide := true) only [wTur, decide_true, decide_false, cond_true, cond_false, Bool.false_eq_true, if_true, if_false, ite_true, ite_false, h8]; done) | (simp (decide := true) only [wTur, decide_true, decide_false, cond_true, cond_false, Bool.false_eq_true, if_true, if_false, ite_true, ite_false, h8]; rfl) | rfl) (by first | decide | exact rf_bor _))
set_option maxRecDepth 100000 in
set_option maxHeartbeats 2000000 in
theorem q_nights {G : tg_G} {n p t : tp_H} {x : tp_X} {r : List tg_Cl} (hm : hM n ≤ 7) (k : Int32) : tg_C G 6 mX10_nights 0 0 [.ref 0, .int k] (tp_cs n p t x, r) (pQ (wNis n k) (.int (wNis n k)) (.int (abM (pNs (nN k) n))) n p x (pNs (nN k) n) (p) (x) r) := by
  refine tg_intro okX10_nights (Nat.le_of_ble_eq_true rfl) ?_
  refine tg_steps 2 rfl ?_
  refine tg_icge rfl rfl (fun h2 => ?_) (fun h2 => ?_)
  · refine tg_steps 2 rfl ?_
    refine tg_icgt rfl rfl (fun h15 => ?_) (fun h15 => ?_)
    · refine tg_steps 2 rfl ?_
      refine tg_callV rfl (c_refuse (-6) (by decide)) rfl rfl rfl rfl rfl (fun v36 w36 q36 => ?_)
      obtain ⟨rfl, rfl⟩ := q36
      exact tg_iret (st := []) rfl rfl ⟨Nat.le_of_ble_eq_true rfl, Nat.le_of_ble_eq_true rfl⟩ (pQ_refI (by first | (simp (decide := true) only [wNis, decide_true, decide_false, cond_true, cond_false, Bool.false_eq_true, if_true, if_false, ite_true, ite_false, h2, Int32.not_lt.mpr h2, h15, Int32.not_le.mpr h15]; done) | (simp (decide := true) only [wNis, decide_true, decide_false, cond_true, cond_false, Bool.false_eq_true, if_true, if_false, ite_true, ite_false, h2, Int32.not_lt.mpr h2, h15, Int32.not_le.mpr h15]; done) | (simp (decide := true) only [wNis, decide_true, decide_false, cond_true, cond_false, Bool.false_eq_true, if_true, if_false, ite_true, ite_false, h2, Int32.not_lt.mpr h2, h15, Int32.not_le.mpr h15]; rfl) | rfl) (by first | decide | exact rf_bor _))
    · refine tg_steps 6 rfl ?_
      refine tg_icle rfl rfl (fun h30 => ?_) (fun h30 => ?_)
      · obtain ⟨j, hj, rfl⟩ := nI_of2 (x := k) (M := 60) (n := 60) rfl (fun q => Int32.not_le.mpr (Int32.lt_trans q (by decide)) h2) (Int32.not_lt.mp h15)
        have cj : nN (nI j) = j := nI_clamp (by omega)
        refine tg_steps 3 rfl ?_
        refine tg_callV rfl (c_passNights_0 hm j (by omega)) rfl rfl rfl rfl rfl (fun v45 w45 q45 => ?_)
        obtain ⟨rfl, rfl⟩ := q45
        refine tg_steps 2 rfl ?_
        refine tg_callV rfl (c_aboardMany_0 (pm7 hm j)) rfl rfl rfl rfl rfl (fun v52 w52 q52 => ?_)
        obtain ⟨rfl, rfl⟩ := q52
        exact tg_iret (st := []) rfl rfl ⟨Nat.le_of_ble_eq_true rfl, Nat.le_of_ble_eq_true rfl⟩ (pQ_ok (by first | (simp (decide := true) only [wNis, decide_true, decide_false, cond_true, cond_false, Bool.false_eq_true, if_true, if_false, ite_true, ite_false, h2, Int32.not_lt.mpr h2, h15, Int32.not_lt.mp h15, h30, Int32.not_lt.mpr h30]; done) | (simp (decide := true) only [wNis, decide_true, decide_false, cond_true, cond_false, Bool.false_eq_true, if_true, if_false, ite_true, ite_false, h2, Int32.not_lt.mpr h2, h15, Int32.not_lt.mp h15, h30, Int32.not_lt.mpr h30]; done) | (simp (decide := true) only [wNis, decide_true, decide_false, cond_true, cond_false, Bool.false_eq_true, if_true, if_false, ite_true, ite_false, h2, Int32.not_lt.mpr h2, h15, Int32.not_lt.mp h15, h30, Int32.not_lt.mpr h30]; rfl) | rfl) (by rw [cj]; rfl) (by rw [cj]; exact eqH_rf _) (eqH_rf _) ⟨rfl, rfl, rfl, rfl, rfl, rfl⟩)
      · refine tg_steps 2 rfl ?_
        refine tg_callV rfl (c_refuse (-6) (by decide)) rfl rfl rfl rfl rfl (fun v36 w36 q36 => ?_)
        obtain ⟨rfl, rfl⟩ := q36
        exact tg_iret (st := []) rfl rfl ⟨Nat.le_of_ble_eq_true rfl, Nat.le_of_ble_eq_true rfl⟩ (pQ_refI (by first | (simp (decide := true) only [wNis, decide_true, decide_false, cond_true, cond_false, Bool.false_eq_true, if_true, if_false, ite_true, ite_false, h2, Int32.not_lt.mpr h2, h15, Int32.not_lt.mp h15, h30, Int32.not_le.mp h30]; done) | (simp (decide := true) only [wNis, decide_true, decide_false, cond_true, cond_false, Bool.false_eq_true, if_true, if_false, ite_true, ite_false, h2, Int32.not_lt.mpr h2, h15, Int32.not_lt.mp h15, h30, Int32.not_le.mp h30]; done) | (simp (decide := true) only [wNis, decide_true, decide_false, cond_true, cond_false, Bool.false_eq_true, if_true, if_false, ite_true, ite_false, h2, Int32.not_lt.mpr h2, h15, Int32.not_lt.mp h15, h30, Int32.not_le.mp h30]; rfl) | rfl) (by first | decide | exact rf_bor _))
  · refine tg_steps 2 rfl ?_
    refine tg_callV rfl (c_refuse (-4) (by decide)) rfl rfl rfl rfl rfl (fun v8 w8 q8 => ?_)
    obtain ⟨rfl, rfl⟩ := q8
    exact tg_iret (st := []) rfl rfl ⟨Nat.le_of_ble_eq_true rfl, Nat.le_of_ble_eq_true rfl⟩ (pQ_refI (by first | (simp (decide := true) only [wNis, decide_true, decide_false, cond_true, cond_false, Bool.false_eq_true, if_true, if_false, ite_true, ite_false, h2, Int32.not_le.mp h2]; done) | (simp (decide := true) only [wNis, decide_true, decide_false, cond_true, cond_false, Bool.false_eq_true, if_true, if_false, ite_true, ite_false, h2, Int32.not_le.mp h2]; done) | (simp (decide := true) only [wNis, decide_true, decide_false, cond_true, cond_false, Bool.false_eq_true, if_true, if_false, ite_true, ite_false, h2, Int32.not_le.mp h2]; rfl) | rfl) (by first | decide | exact rf_bor _))
theorem lp_P {t n : tp_H} (hm : hM n ≤ 7) (k : Nat) (one : Int32) : gO hP (pNs k (cpF t n)) one = gO hP (pNs k n) one := eq_gP (by rw [pNs_M]; exact hm) (eq_pNs (a := cpF t n) hm (eq_cpF t n) k) one
theorem lp_oS {t n : tp_H} (hm : hM n ≤ 7) (k : Nat) : oAt (pNs k (cpF t n)) (hS (pNs k (cpF t n))) = oAt (pNs k n) (hS (pNs k n)) := by
  have e := eq_pNs (a := cpF t n) hm (eq_cpF t n) k
  rw [e.2.1]
  exact eq_oAt e _
set_option maxRecDepth 100000 in
set_option maxHeartbeats 2000000 in
theorem q_oneThen {G : tg_G} {n p t : tp_H} {x : tp_X} {r : List tg_Cl} (hm : hM n ≤ 7) (one : Int32) (k : Int32) (what : Int32) : tg_C G 7 mX10_oneThen 0 0 [.ref 0, .int one, .int k, .int what] (tp_cs n p t x, r) (pQ (wOne n one k what) (.int (wOne n one k what)) (.int (aOne n one k what)) n p x (n) (p) (x) r) := by
  refine tg_intro okX10_oneThen (Nat.le_of_ble_eq_true rfl) ?_
  refine tg_steps 3 rfl ?_
  refine tg_callV rfl (c_has_0 _) rfl rfl rfl rfl rfl (fun v5 w5 q5 => ?_)
  obtain ⟨rfl, rfl⟩ := q5
  refine tg_ifbne rfl rfl (fun h8 => ?_) (fun h8 => ?_)
  · refine tg_steps 2 rfl ?_
    refine tg_call1 rfl (c_isUpTo _ _) rfl rfl rfl  (fun v20 w20 q20 => ?_)
    obtain ⟨rfl, rfl⟩ := q20
    refine tg_ifbne rfl rfl (fun h23 => ?_) (fun h23 => ?_)
    · obtain ⟨j, hj, rfl⟩ := up_j (m := 60) rfl h23
      have cj : nN (nI j) = j := nI_clamp (by omega)
      refine tg_steps 2 rfl ?_
      refine tg_call1 rfl (c_isUpTo _ _) rfl rfl rfl  (fun v37 w37 q37 => ?_)
      obtain ⟨rfl, rfl⟩ := q37
      refine tg_ifbne rfl rfl (fun h40 => ?_) (fun h40 => ?_)
      · refine tg_steps 5 rfl ?_
        refine tg_callV rfl (c_think hm j (by omega)) rfl rfl rfl rfl rfl (fun v59 w59 q59 => ?_)
        obtain ⟨rfl, rfl⟩ := q59
        refine tg_steps 1 rfl ?_
        refine tg_ifne rfl rfl (fun h63 => ?_) (fun h63 => ?_)
        · refine tg_steps 4 rfl ?_
          refine tg_callV rfl (c_pinnedOf_2 (lp_m7 hm j) _) rfl rfl rfl rfl rfl (fun v88 w88 q88 => ?_)
          obtain ⟨rfl, rfl⟩ := q88
          rw [lp_P hm]
          exact tg_iret (st := []) rfl rfl ⟨Nat.le_of_ble_eq_true rfl, Nat.le_of_ble_eq_true rfl⟩ (pQ_ok (by first | (simp (decide := true) only [wOne, decide_true, decide_false, cond_true, cond_false, Bool.false_eq_true, if_true, if_false, ite_true, ite_false, h8, h23, h40, h63]; done) | (simp (decide := true) only [wOne, decide_true, decide_false, cond_true, cond_false, Bool.false_eq_true, if_true, if_false, ite_true, ite_false, h8, h23, h40, h63]; done) | (simp (decide := true) only [wOne, decide_true, decide_false, cond_true, cond_false, Bool.false_eq_true, if_true, if_false, ite_true, ite_false, h8, h23, h40, h63]; rfl) | rfl) (by first | (simp (decide := true) only [aOne, cj, decide_true, decide_false, cond_true, cond_false, Bool.false_eq_true, if_true, if_false, ite_true, ite_false, h8, h23, h40, h63]; done) | (simp (decide := true) only [aOne, cj, decide_true, decide_false, cond_true, cond_false, Bool.false_eq_true, if_true, if_false, ite_true, ite_false, h8, h23, h40, h63]; done) | (simp (decide := true) only [aOne, cj, decide_true, decide_false, cond_true, cond_false, Bool.false_eq_true, if_true, if_false, ite_true, ite_false, h8, h23, h40, h63]; rfl) | rfl) (eqH_rf _) (eqH_rf _) ⟨rfl, rfl, rfl, rfl, rfl, rfl⟩)
        · refine tg_steps 4 rfl ?_
          refine tg_callV rfl (c_tileOf_2 (lp_m7 hm j) _) rfl rfl rfl rfl rfl (fun v74 w74 q74 => ?_)
          obtain ⟨rfl, rfl⟩ := q74
          rw [lp_T hm]
          refine tg_steps 1 rfl ?_
          exact tg_iret (st := []) rfl rfl ⟨Nat.le_of_ble_eq_true rfl, Nat.le_of_ble_eq_true rfl⟩ (pQ_ok (by first | (simp (decide := true) only [wOne, decide_true, decide_false, cond_true, cond_false, Bool.false_eq_true, if_true, if_false, ite_true, ite_false, h8, h23, h40, eq_true h63]; done) | (simp (decide := true) only [wOne, decide_true, decide_false, cond_true, cond_false, Bool.false_eq_true, if_true, if_false, ite_true, ite_false, h8, h23, h40, h63]; done) | (simp (decide := true) only [wOne, decide_true, decide_false, cond_true, cond_false, Bool.false_eq_true, if_true, if_false, ite_true, ite_false, h8, h23, h40, eq_true h63]; rfl) | rfl) (by first | (simp (decide := true) only [aOne, cj, decide_true, decide_false, cond_true, cond_false, Bool.false_eq_true, if_true, if_false, ite_true, ite_false, h8, h23, h40, eq_true h63]; done) | (simp (decide := true) only [aOne, cj, decide_true, decide_false, cond_true, cond_false, Bool.false_eq_true, if_true, if_false, ite_true, ite_false, h8, h23, h40, h63]; done) | (simp (decide := true) only [aOne, cj, decide_true, decide_false, cond_true, cond_false, Bool.false_eq_true, if_true, if_false, ite_true, ite_false, h8, h23, h40, eq_true h63]; rfl) | rfl) (eqH_rf _) (eqH_rf _) ⟨rfl, rfl, rfl, rfl, rfl, rfl⟩)
      · refine tg_steps 2 rfl ?_
        refine tg_callV rfl (c_refuse (-2) (by decide)) rfl rfl rfl rfl rfl (fun v46 w46 q46 => ?_)
        obtain ⟨rfl, rfl⟩ := q46
        exact tg_iret (st := []) rfl rfl ⟨Nat.le_of_ble_eq_true rfl, Nat.le_of_ble_eq_true rfl⟩ (pQ_refI (by first | (simp (decide := true) only [wOne, decide_true, decide_false, cond_true, cond_false, Bool.false_eq_true, if_true, if_false, ite_true, ite_false, h8, h23, h40]; done) | (simp (decide := true) only [wOne, decide_true, decide_false, cond_true, cond_false, Bool.false_eq_true, if_true, if_false, ite_true, ite_false, h8, h23, h40]; done) | (simp (decide := true) only [wOne, decide_true, decide_false, cond_true, cond_false, Bool.false_eq_true, if_true, if_false, ite_true, ite_false, h8, h23, h40]; rfl) | rfl) (by first | decide | exact rf_bor _))
    · refine tg_steps 2 rfl ?_
      refine tg_call1 rfl (c_bor _) rfl rfl rfl  (fun v28 w28 q28 => ?_)
      obtain ⟨rfl, rfl⟩ := q28
      refine tg_callV rfl (c_refuse _ (rf_bor _)) rfl rfl rfl rfl rfl (fun v31 w31 q31 => ?_)
      obtain ⟨rfl, rfl⟩ := q31
      exact tg_iret (st := []) rfl rfl ⟨Nat.le_of_ble_eq_true rfl, Nat.le_of_ble_eq_true rfl⟩ (pQ_refI (by first | (simp (decide := true) only [wOne, decide_true, decide_false, cond_true, cond_false, Bool.false_eq_true, if_true, if_false, ite_true, ite_false, h8, h23]; done) | (simp (decide := true) only [wOne, decide_true, decide_false, cond_true, cond_false, Bool.false_eq_true, if_true, if_false, ite_true, ite_false, h8, h23]; done) | (simp (decide := true) only [wOne, decide_true, decide_false, cond_true, cond_false, Bool.false_eq_true, if_true, if_false, ite_true, ite_false, h8, h23]; rfl) | rfl) (by first | decide | exact rf_bor _))
  · refine tg_steps 2 rfl ?_
    refine tg_callV rfl (c_refuse (-1) (by decide)) rfl rfl rfl rfl rfl (fun v13 w13 q13 => ?_)
    obtain ⟨rfl, rfl⟩ := q13
    exact tg_iret (st := []) rfl rfl ⟨Nat.le_of_ble_eq_true rfl, Nat.le_of_ble_eq_true rfl⟩ (pQ_refI (by first | (simp (decide := true) only [wOne, decide_true, decide_false, cond_true, cond_false, Bool.false_eq_true, if_true, if_false, ite_true, ite_false, h8]; done) | (simp (decide := true) only [wOne, decide_true, decide_false, cond_true, cond_false, Bool.false_eq_true, if_true, if_false, ite_true, ite_false, h8]; done) | (simp (decide := true) only [wOne, decide_true, decide_false, cond_true, cond_false, Bool.false_eq_true, if_true, if_false, ite_true, ite_false, h8]; rfl) | rfl) (by first | decide | exact rf_bor _))
set_option maxRecDepth 100000 in
set_option maxHeartbeats 2000000 in
theorem q_aboard {G : tg_G} {n p t : tp_H} {x : tp_X} {r : List tg_Cl} (hm : hM n ≤ 7) (k : Int32) : tg_C G 7 mX10_aboard 0 0 [.ref 0, .int k] (tp_cs n p t x, r) (pQ (wUp k 60) (.int (wUp k 60)) (.int (aAbo n k)) n p x (n) (p) (x) r) := by
  refine tg_intro okX10_aboard (Nat.le_of_ble_eq_true rfl) ?_
  refine tg_steps 2 rfl ?_
  refine tg_call1 rfl (c_isUpTo _ _) rfl rfl rfl  (fun v3 w3 q3 => ?_)
  obtain ⟨rfl, rfl⟩ := q3
  refine tg_ifbne rfl rfl (fun h6 => ?_) (fun h6 => ?_)
  · obtain ⟨j, hj, rfl⟩ := up_j (m := 60) rfl h6
    have cj : nN (nI j) = j := nI_clamp (by omega)
    refine tg_steps 5 rfl ?_
    refine tg_callV rfl (c_think hm j (by omega)) rfl rfl rfl rfl rfl (fun v27 w27 q27 => ?_)
    obtain ⟨rfl, rfl⟩ := q27
    refine tg_steps 3 rfl ?_
    refine tg_callV rfl (c_aboardOnes_2 (lp_m7 hm j)) rfl rfl rfl rfl rfl (fun v37 w37 q37 => ?_)
    obtain ⟨rfl, rfl⟩ := q37
    rw [lp_oS hm]
    exact tg_iret (st := []) rfl rfl ⟨Nat.le_of_ble_eq_true rfl, Nat.le_of_ble_eq_true rfl⟩ (pQ_ok (by first | (simp (decide := true) only [wUp, decide_true, decide_false, cond_true, cond_false, Bool.false_eq_true, if_true, if_false, ite_true, ite_false, h6]; done) | (simp (decide := true) only [wUp, decide_true, decide_false, cond_true, cond_false, Bool.false_eq_true, if_true, if_false, ite_true, ite_false, h6]; done) | (simp (decide := true) only [wUp, decide_true, decide_false, cond_true, cond_false, Bool.false_eq_true, if_true, if_false, ite_true, ite_false, h6]; rfl) | rfl) (by first | (simp (decide := true) only [aAbo, cj, decide_true, decide_false, cond_true, cond_false, Bool.false_eq_true, if_true, if_false, ite_true, ite_false, h6]; done) | (simp (decide := true) only [aAbo, cj, decide_true, decide_false, cond_true, cond_false, Bool.false_eq_true, if_true, if_false, ite_true, ite_false, h6]; done) | (simp (decide := true) only [aAbo, cj, decide_true, decide_false, cond_true, cond_false, Bool.false_eq_true, if_true, if_false, ite_true, ite_false, h6]; rfl) | rfl) (eqH_rf _) (eqH_rf _) ⟨rfl, rfl, rfl, rfl, rfl, rfl⟩)
  · refine tg_steps 2 rfl ?_
    refine tg_call1 rfl (c_bor _) rfl rfl rfl  (fun v11 w11 q11 => ?_)
    obtain ⟨rfl, rfl⟩ := q11
    refine tg_callV rfl (c_refuse _ (rf_bor _)) rfl rfl rfl rfl rfl (fun v14 w14 q14 => ?_)
    obtain ⟨rfl, rfl⟩ := q14
    exact tg_iret (st := []) rfl rfl ⟨Nat.le_of_ble_eq_true rfl, Nat.le_of_ble_eq_true rfl⟩ (pQ_refI (by first | (simp (decide := true) only [wUp, decide_true, decide_false, cond_true, cond_false, Bool.false_eq_true, if_true, if_false, ite_true, ite_false, h6]; done) | (simp (decide := true) only [wUp, decide_true, decide_false, cond_true, cond_false, Bool.false_eq_true, if_true, if_false, ite_true, ite_false, h6]; done) | (simp (decide := true) only [wUp, decide_true, decide_false, cond_true, cond_false, Bool.false_eq_true, if_true, if_false, ite_true, ite_false, h6]; rfl) | rfl) (by first | decide | exact rf_bor _))
set_option maxRecDepth 100000 in
set_option maxHeartbeats 2000000 in
theorem q_comes {G : tg_G} {n p t : tp_H} {x : tp_X} {r : List tg_Cl} (hm : hM n ≤ 7) (one : Int32) (tile : Int32) : tg_C G 6 mX10_comes 0 0 [.ref 0, .int one, .int tile] (tp_cs n p t x, r) (pQ (wSta n one tile) (.int (wSta n one tile)) (.int (aFir n one tile)) n p x (n) (p) (x) r) := by
  refine tg_intro okX10_comes (Nat.le_of_ble_eq_true rfl) ?_
  refine tg_steps 3 rfl ?_
  refine tg_callV rfl (c_has_0 _) rfl rfl rfl rfl rfl (fun v5 w5 q5 => ?_)
  obtain ⟨rfl, rfl⟩ := q5
  refine tg_ifbeq rfl rfl (fun h8 => ?_) (fun h8 => ?_)
  · refine tg_steps 2 rfl ?_
    refine tg_callV rfl (c_refuse (-1) (by decide)) rfl rfl rfl rfl rfl (fun v20 w20 q20 => ?_)
    obtain ⟨rfl, rfl⟩ := q20
    exact tg_iret (st := []) rfl rfl ⟨Nat.le_of_ble_eq_true rfl, Nat.le_of_ble_eq_true rfl⟩ (pQ_refI (by first | (simp (decide := true) only [wSta, decide_true, decide_false, cond_true, cond_false, Bool.false_eq_true, if_true, if_false, ite_true, ite_false, h8]; done) | (simp (decide := true) only [wSta, decide_true, decide_false, cond_true, cond_false, Bool.false_eq_true, if_true, if_false, ite_true, ite_false, h8]; done) | (simp (decide := true) only [wSta, decide_true, decide_false, cond_true, cond_false, Bool.false_eq_true, if_true, if_false, ite_true, ite_false, h8]; rfl) | rfl) (by first | decide | exact rf_bor _))
  · refine tg_steps 1 rfl ?_
    refine tg_call1 rfl (c_isTile _) rfl rfl rfl  (fun v12 w12 q12 => ?_)
    obtain ⟨rfl, rfl⟩ := q12
    refine tg_ifbne rfl rfl (fun h15 => ?_) (fun h15 => ?_)
    · refine tg_steps 6 rfl ?_
      refine tg_callV rfl (c_firstAt hm _ _) rfl rfl rfl rfl rfl (fun v34 w34 q34 => ?_)
      obtain ⟨rfl, t3, rfl⟩ := q34
      exact tg_iret (st := []) rfl rfl ⟨Nat.le_of_ble_eq_true rfl, Nat.le_of_ble_eq_true rfl⟩ (pQ_ok (by first | (simp (decide := true) only [wSta, decide_true, decide_false, cond_true, cond_false, Bool.false_eq_true, if_true, if_false, ite_true, ite_false, h8, h15]; done) | (simp (decide := true) only [wSta, decide_true, decide_false, cond_true, cond_false, Bool.false_eq_true, if_true, if_false, ite_true, ite_false, h8, h15]; done) | (simp (decide := true) only [wSta, decide_true, decide_false, cond_true, cond_false, Bool.false_eq_true, if_true, if_false, ite_true, ite_false, h8, h15]; rfl) | rfl) rfl (eqH_rf _) (eqH_rf _) ⟨rfl, rfl, rfl, rfl, rfl, rfl⟩)
    · refine tg_steps 2 rfl ?_
      refine tg_callV rfl (c_refuse (-1) (by decide)) rfl rfl rfl rfl rfl (fun v20 w20 q20 => ?_)
      obtain ⟨rfl, rfl⟩ := q20
      exact tg_iret (st := []) rfl rfl ⟨Nat.le_of_ble_eq_true rfl, Nat.le_of_ble_eq_true rfl⟩ (pQ_refI (by first | (simp (decide := true) only [wSta, decide_true, decide_false, cond_true, cond_false, Bool.false_eq_true, if_true, if_false, ite_true, ite_false, h8, h15]; done) | (simp (decide := true) only [wSta, decide_true, decide_false, cond_true, cond_false, Bool.false_eq_true, if_true, if_false, ite_true, ite_false, h8, h15]; done) | (simp (decide := true) only [wSta, decide_true, decide_false, cond_true, cond_false, Bool.false_eq_true, if_true, if_false, ite_true, ite_false, h8, h15]; rfl) | rfl) (by first | decide | exact rf_bor _))
set_option maxRecDepth 100000 in
set_option maxHeartbeats 2000000 in
theorem q_sails {G : tg_G} {n p t : tp_H} {x : tp_X} {r : List tg_Cl} (hm : hM n ≤ 7) (one : Int32) : tg_C G 6 mX10_sails 0 0 [.ref 0, .int one] (tp_cs n p t x, r) (pQ (wSai n one) (.int (wSai n one)) (.int (aSai n one)) n p x (n) (p) (x) r) := by
  refine tg_intro okX10_sails (Nat.le_of_ble_eq_true rfl) ?_
  refine tg_steps 2 rfl ?_
  refine tg_icne rfl rfl (fun h2 => ?_) (fun h2 => ?_)
  · refine tg_steps 2 rfl ?_
    refine tg_icne rfl rfl (fun h20 => ?_) (fun h20 => ?_)
    · refine tg_steps 3 rfl ?_
      refine tg_callV rfl (c_has_0 _) rfl rfl rfl rfl rfl (fun v40 w40 q40 => ?_)
      obtain ⟨rfl, rfl⟩ := q40
      refine tg_ifbne rfl rfl (fun h43 => ?_) (fun h43 => ?_)
      · refine tg_steps 8 rfl ?_
        refine tg_callV rfl (c_firstAt hm _ _) rfl rfl rfl rfl rfl (fun v68 w68 q68 => ?_)
        obtain ⟨rfl, t3, rfl⟩ := q68
        exact tg_iret (st := []) rfl rfl ⟨Nat.le_of_ble_eq_true rfl, Nat.le_of_ble_eq_true rfl⟩ (pQ_ok (by first | (simp (decide := true) only [wSai, decide_true, decide_false, cond_true, cond_false, Bool.false_eq_true, if_true, if_false, ite_true, ite_false, h2, h20, h43]; done) | (simp (decide := true) only [wSai, decide_true, decide_false, cond_true, cond_false, Bool.false_eq_true, if_true, if_false, ite_true, ite_false, h2, h20, h43]; done) | (simp (decide := true) only [wSai, decide_true, decide_false, cond_true, cond_false, Bool.false_eq_true, if_true, if_false, ite_true, ite_false, h2, h20, h43]; rfl) | rfl) (by first | (simp (decide := true) only [aSai, aAll, aFir, decide_true, decide_false, cond_true, cond_false, Bool.false_eq_true, if_true, if_false, ite_true, ite_false, h2, h20, h43]; done) | (simp (decide := true) only [aSai, aAll, aFir, decide_true, decide_false, cond_true, cond_false, Bool.false_eq_true, if_true, if_false, ite_true, ite_false, h2, h20, h43]; done) | (simp (decide := true) only [aSai, aAll, aFir, decide_true, decide_false, cond_true, cond_false, Bool.false_eq_true, if_true, if_false, ite_true, ite_false, h2, h20, h43]; rfl) | rfl) (eqH_rf _) (eqH_rf _) ⟨rfl, rfl, rfl, rfl, rfl, rfl⟩)
      · refine tg_steps 2 rfl ?_
        refine tg_callV rfl (c_refuse (-1) (by decide)) rfl rfl rfl rfl rfl (fun v48 w48 q48 => ?_)
        obtain ⟨rfl, rfl⟩ := q48
        exact tg_iret (st := []) rfl rfl ⟨Nat.le_of_ble_eq_true rfl, Nat.le_of_ble_eq_true rfl⟩ (pQ_refI (by first | (simp (decide := true) only [wSai, decide_true, decide_false, cond_true, cond_false, Bool.false_eq_true, if_true, if_false, ite_true, ite_false, h2, h20, h43]; done) | (simp (decide := true) only [wSai, decide_true, decide_false, cond_true, cond_false, Bool.false_eq_true, if_true, if_false, ite_true, ite_false, h2, h20, h43]; done) | (simp (decide := true) only [wSai, decide_true, decide_false, cond_true, cond_false, Bool.false_eq_true, if_true, if_false, ite_true, ite_false, h2, h20, h43]; rfl) | rfl) (by first | decide | exact rf_bor _))
    · refine tg_steps 4 rfl ?_
      refine tg_callV rfl (c_firstAllAboard hm) rfl rfl rfl rfl rfl (fun v31 w31 q31 => ?_)
      obtain ⟨rfl, t3, rfl⟩ := q31
      exact tg_iret (st := []) rfl rfl ⟨Nat.le_of_ble_eq_true rfl, Nat.le_of_ble_eq_true rfl⟩ (pQ_ok (by first | (simp (decide := true) only [wSai, decide_true, decide_false, cond_true, cond_false, Bool.false_eq_true, if_true, if_false, ite_true, ite_false, h2, eq_true h20]; done) | (simp (decide := true) only [wSai, decide_true, decide_false, cond_true, cond_false, Bool.false_eq_true, if_true, if_false, ite_true, ite_false, h2, h20]; done) | (simp (decide := true) only [wSai, decide_true, decide_false, cond_true, cond_false, Bool.false_eq_true, if_true, if_false, ite_true, ite_false, h2, eq_true h20]; rfl) | rfl) (by first | (simp (decide := true) only [aSai, aAll, aFir, decide_true, decide_false, cond_true, cond_false, Bool.false_eq_true, if_true, if_false, ite_true, ite_false, h2, eq_true h20]; done) | (simp (decide := true) only [aSai, aAll, aFir, decide_true, decide_false, cond_true, cond_false, Bool.false_eq_true, if_true, if_false, ite_true, ite_false, h2, h20]; done) | (simp (decide := true) only [aSai, aAll, aFir, decide_true, decide_false, cond_true, cond_false, Bool.false_eq_true, if_true, if_false, ite_true, ite_false, h2, eq_true h20]; rfl) | rfl) (eqH_rf _) (eqH_rf _) ⟨rfl, rfl, rfl, rfl, rfl, rfl⟩)
  · refine tg_steps 4 rfl ?_
    refine tg_callV rfl (c_firstAboard hm) rfl rfl rfl rfl rfl (fun v13 w13 q13 => ?_)
    obtain ⟨rfl, t3, rfl⟩ := q13
    exact tg_iret (st := []) rfl rfl ⟨Nat.le_of_ble_eq_true rfl, Nat.le_of_ble_eq_true rfl⟩ (pQ_ok (by first | (simp (decide := true) only [wSai, decide_true, decide_false, cond_true, cond_false, Bool.false_eq_true, if_true, if_false, ite_true, ite_false, eq_true h2]; done) | (simp (decide := true) only [wSai, decide_true, decide_false, cond_true, cond_false, Bool.false_eq_true, if_true, if_false, ite_true, ite_false, h2]; done) | (simp (decide := true) only [wSai, decide_true, decide_false, cond_true, cond_false, Bool.false_eq_true, if_true, if_false, ite_true, ite_false, eq_true h2]; rfl) | rfl) (by first | (simp (decide := true) only [aSai, aAll, aFir, decide_true, decide_false, cond_true, cond_false, Bool.false_eq_true, if_true, if_false, ite_true, ite_false, eq_true h2]; done) | (simp (decide := true) only [aSai, aAll, aFir, decide_true, decide_false, cond_true, cond_false, Bool.false_eq_true, if_true, if_false, ite_true, ite_false, h2]; done) | (simp (decide := true) only [aSai, aAll, aFir, decide_true, decide_false, cond_true, cond_false, Bool.false_eq_true, if_true, if_false, ite_true, ite_false, eq_true h2]; rfl) | rfl) (eqH_rf _) (eqH_rf _) ⟨rfl, rfl, rfl, rfl, rfl, rfl⟩)
set_option maxRecDepth 100000 in
set_option maxHeartbeats 2000000 in
theorem q_meets {G : tg_G} {n p t : tp_H} {x : tp_X} {r : List tg_Cl} (hm : hM n ≤ 7) (a : Int32) (b : Int32) : tg_C G 6 mX10_meets 0 0 [.ref 0, .int a, .int b] (tp_cs n p t x, r) (pQ (wMee n a b) (.int (wMee n a b)) (.int (aMee n a b)) n p x (n) (p) (x) r) := by
  refine tg_intro okX10_meets (Nat.le_of_ble_eq_true rfl) ?_
  refine tg_steps 3 rfl ?_
  refine tg_callV rfl (c_has_0 _) rfl rfl rfl rfl rfl (fun v5 w5 q5 => ?_)
  obtain ⟨rfl, rfl⟩ := q5
  refine tg_ifbeq rfl rfl (fun h8 => ?_) (fun h8 => ?_)
  · refine tg_steps 2 rfl ?_
    refine tg_callV rfl (c_refuse (-1) (by decide)) rfl rfl rfl rfl rfl (fun v29 w29 q29 => ?_)
    obtain ⟨rfl, rfl⟩ := q29
    exact tg_iret (st := []) rfl rfl ⟨Nat.le_of_ble_eq_true rfl, Nat.le_of_ble_eq_true rfl⟩ (pQ_refI (by first | (simp (decide := true) only [wMee, decide_true, decide_false, cond_true, cond_false, Bool.false_eq_true, if_true, if_false, ite_true, ite_false, h8]; done) | (simp (decide := true) only [wMee, decide_true, decide_false, cond_true, cond_false, Bool.false_eq_true, if_true, if_false, ite_true, ite_false, h8]; done) | (simp (decide := true) only [wMee, decide_true, decide_false, cond_true, cond_false, Bool.false_eq_true, if_true, if_false, ite_true, ite_false, h8]; rfl) | rfl) (by first | decide | exact rf_bor _))
  · refine tg_steps 3 rfl ?_
    refine tg_callV rfl (c_has_0 _) rfl rfl rfl rfl rfl (fun v16 w16 q16 => ?_)
    obtain ⟨rfl, rfl⟩ := q16
    refine tg_ifbeq rfl rfl (fun h19 => ?_) (fun h19 => ?_)
    · refine tg_steps 2 rfl ?_
      refine tg_callV rfl (c_refuse (-1) (by decide)) rfl rfl rfl rfl rfl (fun v29 w29 q29 => ?_)
      obtain ⟨rfl, rfl⟩ := q29
      exact tg_iret (st := []) rfl rfl ⟨Nat.le_of_ble_eq_true rfl, Nat.le_of_ble_eq_true rfl⟩ (pQ_refI (by first | (simp (decide := true) only [wMee, decide_true, decide_false, cond_true, cond_false, Bool.false_eq_true, if_true, if_false, ite_true, ite_false, h8, h19]; done) | (simp (decide := true) only [wMee, decide_true, decide_false, cond_true, cond_false, Bool.false_eq_true, if_true, if_false, ite_true, ite_false, h8, h19]; done) | (simp (decide := true) only [wMee, decide_true, decide_false, cond_true, cond_false, Bool.false_eq_true, if_true, if_false, ite_true, ite_false, h8, h19]; rfl) | rfl) (by first | decide | exact rf_bor _))
    · refine tg_steps 2 rfl ?_
      refine tg_icne rfl rfl (fun h24 => ?_) (fun h24 => ?_)
      · refine tg_steps 6 rfl ?_
        refine tg_callV rfl (c_firstMeeting hm _ _) rfl rfl rfl rfl rfl (fun v43 w43 q43 => ?_)
        obtain ⟨rfl, t3, rfl⟩ := q43
        exact tg_iret (st := []) rfl rfl ⟨Nat.le_of_ble_eq_true rfl, Nat.le_of_ble_eq_true rfl⟩ (pQ_ok (by first | (simp (decide := true) only [wMee, decide_true, decide_false, cond_true, cond_false, Bool.false_eq_true, if_true, if_false, ite_true, ite_false, h8, h19, h24]; done) | (simp (decide := true) only [wMee, decide_true, decide_false, cond_true, cond_false, Bool.false_eq_true, if_true, if_false, ite_true, ite_false, h8, h19, h24]; done) | (simp (decide := true) only [wMee, decide_true, decide_false, cond_true, cond_false, Bool.false_eq_true, if_true, if_false, ite_true, ite_false, h8, h19, h24]; rfl) | rfl) rfl (eqH_rf _) (eqH_rf _) ⟨rfl, rfl, rfl, rfl, rfl, rfl⟩)
      · refine tg_steps 2 rfl ?_
        refine tg_callV rfl (c_refuse (-1) (by decide)) rfl rfl rfl rfl rfl (fun v29 w29 q29 => ?_)
        obtain ⟨rfl, rfl⟩ := q29
        exact tg_iret (st := []) rfl rfl ⟨Nat.le_of_ble_eq_true rfl, Nat.le_of_ble_eq_true rfl⟩ (pQ_refI (by first | (simp (decide := true) only [wMee, decide_true, decide_false, cond_true, cond_false, Bool.false_eq_true, if_true, if_false, ite_true, ite_false, h8, h19, eq_true h24]; done) | (simp (decide := true) only [wMee, decide_true, decide_false, cond_true, cond_false, Bool.false_eq_true, if_true, if_false, ite_true, ite_false, h8, h19, h24]; done) | (simp (decide := true) only [wMee, decide_true, decide_false, cond_true, cond_false, Bool.false_eq_true, if_true, if_false, ite_true, ite_false, h8, h19, eq_true h24]; rfl) | rfl) (by first | decide | exact rf_bor _))
set_option maxRecDepth 100000 in
set_option maxHeartbeats 2000000 in
theorem q_still {G : tg_G} {n p t : tp_H} {x : tp_X} {r : List tg_Cl} (hm : hM n ≤ 7) : tg_C G 6 mX10_still 0 0 [.ref 0] (tp_cs n p t x, r) (pQ ((0 : Int32)) (.int ((0 : Int32))) (.int (aSti n)) n p x (n) (p) (x) r) := by
  refine tg_intro okX10_still (Nat.le_of_ble_eq_true rfl) ?_
  refine tg_steps 4 rfl ?_
  refine tg_callV rfl (c_firstQuiet hm) rfl rfl rfl rfl rfl (fun v8 w8 q8 => ?_)
  obtain ⟨rfl, t3, rfl⟩ := q8
  exact tg_iret (st := []) rfl rfl ⟨Nat.le_of_ble_eq_true rfl, Nat.le_of_ble_eq_true rfl⟩ (pQ_ok rfl rfl (eqH_rf _) (eqH_rf _) ⟨rfl, rfl, rfl, rfl, rfl, rfl⟩)
set_option maxRecDepth 100000 in
set_option maxHeartbeats 2000000 in
theorem q_far {G : tg_G} {n p t : tp_H} {x : tp_X} {r : List tg_Cl} (a : Int32) (b : Int32) : tg_C G 3 mX10_far 0 0 [.ref 0, .int a, .int b] (tp_cs n p t x, r) (pQ (wFar a b) (.int (wFar a b)) (.int (farD n a b)) n p x (n) (p) (x) r) := by
  refine tg_intro okX10_far (Nat.le_of_ble_eq_true rfl) ?_
  refine tg_steps 1 rfl ?_
  refine tg_call1 rfl (c_isTile _) rfl rfl rfl  (fun v1 w1 q1 => ?_)
  obtain ⟨rfl, rfl⟩ := q1
  refine tg_ifbeq rfl rfl (fun h4 => ?_) (fun h4 => ?_)
  · refine tg_steps 2 rfl ?_
    refine tg_callV rfl (c_refuse (-1) (by decide)) rfl rfl rfl rfl rfl (fun v16 w16 q16 => ?_)
    obtain ⟨rfl, rfl⟩ := q16
    exact tg_iret (st := []) rfl rfl ⟨Nat.le_of_ble_eq_true rfl, Nat.le_of_ble_eq_true rfl⟩ (pQ_refI (by first | (simp (decide := true) only [wFar, decide_true, decide_false, cond_true, cond_false, Bool.false_eq_true, if_true, if_false, ite_true, ite_false, h4]; done) | (simp (decide := true) only [wFar, decide_true, decide_false, cond_true, cond_false, Bool.false_eq_true, if_true, if_false, ite_true, ite_false, h4]; done) | (simp (decide := true) only [wFar, decide_true, decide_false, cond_true, cond_false, Bool.false_eq_true, if_true, if_false, ite_true, ite_false, h4]; rfl) | rfl) (by first | decide | exact rf_bor _))
  · refine tg_steps 1 rfl ?_
    refine tg_call1 rfl (c_isTile _) rfl rfl rfl  (fun v8 w8 q8 => ?_)
    obtain ⟨rfl, rfl⟩ := q8
    refine tg_ifbne rfl rfl (fun h11 => ?_) (fun h11 => ?_)
    · refine tg_steps 6 rfl ?_
      refine tg_callV rfl (c_far h4 h11) rfl rfl rfl rfl rfl (fun v30 w30 q30 => ?_)
      obtain ⟨rfl, f2, g2, rfl⟩ := q30
      exact tg_iret (st := []) rfl rfl ⟨Nat.le_of_ble_eq_true rfl, Nat.le_of_ble_eq_true rfl⟩ (pQ_ok (by first | (simp (decide := true) only [wFar, decide_true, decide_false, cond_true, cond_false, Bool.false_eq_true, if_true, if_false, ite_true, ite_false, h4, h11]; done) | (simp (decide := true) only [wFar, decide_true, decide_false, cond_true, cond_false, Bool.false_eq_true, if_true, if_false, ite_true, ite_false, h4, h11]; done) | (simp (decide := true) only [wFar, decide_true, decide_false, cond_true, cond_false, Bool.false_eq_true, if_true, if_false, ite_true, ite_false, h4, h11]; rfl) | rfl) rfl (eqH_rf _) (eqH_rf _) ⟨rfl, rfl, rfl, rfl, rfl, rfl⟩)
    · refine tg_steps 2 rfl ?_
      refine tg_callV rfl (c_refuse (-1) (by decide)) rfl rfl rfl rfl rfl (fun v16 w16 q16 => ?_)
      obtain ⟨rfl, rfl⟩ := q16
      exact tg_iret (st := []) rfl rfl ⟨Nat.le_of_ble_eq_true rfl, Nat.le_of_ble_eq_true rfl⟩ (pQ_refI (by first | (simp (decide := true) only [wFar, decide_true, decide_false, cond_true, cond_false, Bool.false_eq_true, if_true, if_false, ite_true, ite_false, h4, h11]; done) | (simp (decide := true) only [wFar, decide_true, decide_false, cond_true, cond_false, Bool.false_eq_true, if_true, if_false, ite_true, ite_false, h4, h11]; done) | (simp (decide := true) only [wFar, decide_true, decide_false, cond_true, cond_false, Bool.false_eq_true, if_true, if_false, ite_true, ite_false, h4, h11]; rfl) | rfl) (by first | decide | exact rf_bor _))
