/-! contracts of Mind -/
def ush (x n : Int32) : Int32 := (x.toUInt32 >>> (n.toUInt32 &&& Int32.toUInt32 31)).toInt32
def bq1 (x : Int32) : Int32 := x - (ush x 1 &&& 1431655765)
def bq2 (x : Int32) : Int32 := (x &&& 858993459) + (ush x 2 &&& 858993459)
def bq3 (x : Int32) : Int32 := (x + ush x 4) &&& 252645135
def bq4 (x : Int32) : Int32 := x + ush x 8
def bq5 (x : Int32) : Int32 := x + ush x 16
def bcJ (x : Int32) : Int32 := bq5 (bq4 (bq3 (bq2 (bq1 x)))) &&& 63
def powL (b : Int32) : Nat → Int64
  | 0 => 1
  | i + 1 => powL b i * b.toInt64
theorem powL_succ (b : Int32) (i : Nat) : powL b (i + 1) = powL b i * b.toInt64 := rfl
def nxS (z : Int32) : Int32 := z * 1664525 + 1013904223
def drw (m z : Int32) : Int32 := if 1 ≤ m then (z &&& 2147483647) / 256 % m else 0
theorem lp_T {t n : tp_H} (hm : hM n ≤ 7) (k : Nat) (one : Int32) : gO hT (pNs k (cpF t n)) one = gO hT (pNs k n) one := eq_gT (by rw [pNs_M]; exact hm) (eq_pNs (a := cpF t n) hm (eq_cpF t n) k) one
theorem lp_ab {t n : tp_H} (hm : hM n ≤ 7) (k : Nat) (one : Int32) : abB (pNs k (cpF t n)) one = abB (pNs k n) one := eq_abB (by rw [pNs_M]; exact hm) (eq_pNs (a := cpF t n) hm (eq_cpF t n) k) one
theorem lp_hM (t n : tp_H) (k : Nat) : hM (pNs k (cpF t n)) = hM n := by rw [pNs_M]; rfl
theorem lp_m7 {t n : tp_H} (hm : hM n ≤ 7) (k : Nat) : hM (pNs k (cpF t n)) ≤ 7 := by rw [lp_hM]; exact hm
theorem pm7 {n : tp_H} (hm : hM n ≤ 7) (k : Nat) : hM (pNs k n) ≤ 7 := by rw [pNs_M]; exact hm
theorem ab_fold (h : tp_H) : mAt h (hS h) = abM h := rfl
theorem lp_M {t n : tp_H} (hm : hM n ≤ 7) (k : Nat) : abM (pNs k (cpF t n)) = abM (pNs k n) := eq_abM (eq_pNs (a := cpF t n) hm (eq_cpF t n) k)
theorem lp_gn {t n : tp_H} (hm : hM n ≤ 7) (k : Nat) : pGn (pNs k (cpF t n)) = pGn (pNs k n) := (eq_pNt (lp_m7 hm k) (eq_pNs (a := cpF t n) hm (eq_cpF t n) k)).2
def nwH (n : tp_H) (j : Nat) : Int32 := way (sN n (hN n + 1)) (hK n j) (hT n j) (nI j)
theorem nw_eq {t n : tp_H} (hm : hM n ≤ 7) {j : Nat} (hj : j < hM n) : nwH (cpF t n) j = nwH n j := by
  unfold nwH
  have e := eq_cpF t n
  rw [(e.2.2.2.2 j hj).1, (e.2.2.2.2 j hj).2.2.2.1, e.2.2.1]
  exact eq_way (a := sN (cpF t n) (hN n + 1)) (b := sN n (hN n + 1)) hm (eq_sN e _) _ _ _
def fA (n : tp_H) (one tile : Int32) (k : Nat) : Bool := decide (gO hT (pNs k n) one = tile)
def fB (n : tp_H) : Nat → Nat → Int32
  | 0, _ => -9
  | d + 1, i => fiV (fun k => abB (pNs i n) (nI k)) nI (fB n d (i + 1)) (hM n) 0
theorem fB_succ (n : tp_H) (d i : Nat) : fB n (d + 1) i = fiV (fun k => abB (pNs i n) (nI k)) nI (fB n d (i + 1)) (hM n) 0 := rfl
def fC (n : tp_H) (k : Nat) : Bool := decide (abM (pNs k n) = nI (hM n))
def fD (n : tp_H) (a b : Int32) (k : Nat) : Bool := decide (gO hT (pNs k n) a = gO hT (pNs k n) b)
def sqS (n : tp_H) : Nat → Nat
  | 0 => 0
  | k + 1 => bif pGn (pNs k n) then k + 1 else sqS n k
theorem sqS_succ (n : tp_H) (k : Nat) : sqS n (k + 1) = bif pGn (pNs k n) then k + 1 else sqS n k := rfl
def sqV (n : tp_H) (k : Nat) : Int32 := nI (sqS n (k + 1))
def fE (n : tp_H) (k : Nat) : Bool := decide (nI (k + 1) - nI (sqS n (k + 1)) = 12)
def shW (n : tp_H) (k : Nat) (tile : Int32) : Int32 := abM (pNs k (sS n tile))
def crW (n : tp_H) (k : Nat) (tile : Int32) : Int32 := abM (pNs k (crkH n tile))
def piW (n : tp_H) (k : Nat) (one : Int32) : Int32 := abM (pNs k (senH n one 9))
theorem shW_eq {t n : tp_H} (hm : hM n ≤ 7) (k : Nat) (v : Int32) : shW (cpF t n) k v = shW n k v := eq_abM (eq_pNs (a := sS (cpF t n) v) hm (eq_sS (eq_cpF t n) v) k)
theorem crW_eq {t n : tp_H} (hm : hM n ≤ 7) (k : Nat) (v : Int32) : crW (cpF t n) k v = crW n k v := eq_abM (eq_pNs (a := crkH (cpF t n) v) hm (eq_crkH (eq_cpF t n) v) k)
theorem piW_eq {t n : tp_H} (hm : hM n ≤ 7) (k : Nat) (v : Int32) : piW (cpF t n) k v = piW n k v := eq_abM (eq_pNs (a := senH (cpF t n) v 9) hm (eq_senH (a := cpF t n) hm (eq_cpF t n) v 9) k)
def mxQ (q : Nat → Bool) (f : Nat → Int32) (b m : Int32) : Nat → Int32 × Int32
  | 0 => (b, m)
  | i + 1 => bif q i then (if f i ≤ (mxQ q f b m i).2 then mxQ q f b m i else (nI i, f i)) else mxQ q f b m i
def mnQ (q : Nat → Bool) (f : Nat → Int32) (b m : Int32) : Nat → Int32 × Int32
  | 0 => (b, m)
  | i + 1 => bif q i then (if (mnQ q f b m i).2 ≤ f i then mnQ q f b m i else (nI i, f i)) else mnQ q f b m i
theorem mxQ_succ (q : Nat → Bool) (f : Nat → Int32) (b m : Int32) (i : Nat) : mxQ q f b m (i + 1) = bif q i then (if f i ≤ (mxQ q f b m i).2 then mxQ q f b m i else (nI i, f i)) else mxQ q f b m i := rfl
theorem mnQ_succ (q : Nat → Bool) (f : Nat → Int32) (b m : Int32) (i : Nat) : mnQ q f b m (i + 1) = bif q i then (if (mnQ q f b m i).2 ≤ f i then mnQ q f b m i else (nI i, f i)) else mnQ q f b m i := rfl
def bit (c : Int32) (i : Nat) : Bool := decide ((c >>> (nI i &&& 31)) &&& 1 = 1)
def nbS (c : Int32) (h : tp_H) : Nat → tp_H
  | 0 => h
  | i + 1 => bif bit c i then senH (nbS c h i) (nI i) 9 else nbS c h i
theorem nbS_succ (c : Int32) (h : tp_H) (i : Nat) : nbS c h (i + 1) = bif bit c i then senH (nbS c h i) (nI i) 9 else nbS c h i := rfl
theorem nbS_M (c : Int32) (h : tp_H) (i : Nat) : hM (nbS c h i) = hM h := by
  induction i with
  | zero => rfl
  | succ i ih => rw [nbS_succ]; cases bit c i <;> exact ih
theorem eq_nbS {a b : tp_H} (hm : hM a ≤ 7) (e : eqH a b) (c : Int32) (i : Nat) : eqH (nbS c a i) (nbS c b i) := by
  induction i with
  | zero => exact e
  | succ i ih =>
    rw [nbS_succ, nbS_succ]
    cases bit c i
    · exact ih
    · exact eq_senH (by rw [nbS_M]; exact hm) ih _ _
def nbB (n : tp_H) (c : Int32) (k : Nat) : Bool := decide (abM (pNs k (nbS c n (hM n))) = 0)
theorem nbB_eq {t n : tp_H} (hm : hM n ≤ 7) (c : Int32) (k : Nat) : nbB (cpF t n) c k = nbB n c k := by
  unfold nbB
  rw [eq_abM (eq_pNs (a := nbS c (cpF t n) (hM (cpF t n))) (by rw [nbS_M]; exact hm) (eq_nbS (a := cpF t n) hm (eq_cpF t n) c _) k)]
  rfl
theorem shl7 : ∀ k : Nat, k ≤ 7 → (1 : Int32) <<< (nI k &&& 31) = nI (2 ^ k) ∧ 2 ^ k ≤ 128 := by
  intro k hk
  have h : ∀ j : Fin 8, (1 : Int32) <<< (nI j.1 &&& 31) = nI (2 ^ j.1) ∧ 2 ^ j.1 ≤ 128 := by decide +kernel
  exact h ⟨k, by omega⟩
def fwS (n : tp_H) (k : Nat) : Nat → Int32 × Int32
  | 0 => (-9, nI (hM n) + 1)
  | i + 1 => if (fwS n k i).2 ≤ bcJ (nI i) then fwS n k i else bif nbB n (nI i) k then (nI i, bcJ (nI i)) else fwS n k i
theorem fwS_succ (n : tp_H) (k i : Nat) : fwS n k (i + 1) = if (fwS n k i).2 ≤ bcJ (nI i) then fwS n k i else bif nbB n (nI i) k then (nI i, bcJ (nI i)) else fwS n k i := rfl
def soP (n : tp_H) (one kd : Int32) (k : Nat) : Bool := abB (pNs k (becH n one kd (gO hF n one))) one
def soA (n : tp_H) (one kd : Int32) : Int32 := fiV (soP n one kd) nI 61 61 0
theorem soP_eq {t n : tp_H} (hm : hM n ≤ 7) (one kd : Int32) (k : Nat) : abB (pNs k (becH (cpF t n) one kd (gO hF n one))) one = soP n one kd k := eq_abB (by rw [pNs_M]; exact hm) (eq_pNs (a := becH (cpF t n) one kd (gO hF n one)) hm (eq_becH (a := cpF t n) hm (eq_cpF t n) _ _ _) k) one
def prS (n : tp_H) (a b : Int32) (k i : Nat) : tp_H :=
  let h1 := if nI i &&& 2 = 0 then pinH n a (nI k) else n
  if nI i &&& 1 = 0 then pinH h1 b (nI k) else h1
def woH (h : tp_H) (one : Int32) : Int32 := bif abB h one then 5 + 2 * (abM h - 1) else 2 * abM h
def wAB (n : tp_H) (a b one : Int32) (k i : Nat) : Int32 := woH (pNs k (prS n a b k i)) one
theorem eq_woH {a b : tp_H} (hm : hM a ≤ 7) (e : eqH a b) (one : Int32) : woH a one = woH b one := by unfold woH; rw [eq_abB hm e, eq_abM e]
theorem prS_M (n : tp_H) (a b : Int32) (k i : Nat) : hM (prS n a b k i) = hM n := by
  unfold prS
  dsimp only
  split <;> split <;> rfl
theorem eq_prS {x y : tp_H} (hm : hM x ≤ 7) (e : eqH x y) (a b : Int32) (k i : Nat) : eqH (prS x a b k i) (prS y a b k i) := by
  unfold prS
  dsimp only
  split <;> split
  · exact eq_pinH (a := pinH x a (nI k)) hm (eq_pinH hm e _ _) _ _
  · exact eq_pinH hm e _ _
  · exact eq_pinH hm e _ _
  · exact e
theorem wAB_eq {t n : tp_H} (hm : hM n ≤ 7) (a b one : Int32) (k i : Nat) : woH (pNs k (prS (cpF t n) a b k i)) one = wAB n a b one k i := eq_woH (by rw [pNs_M, prS_M]; exact hm) (eq_pNs (by rw [prS_M]; exact hm) (eq_prS (x := cpF t n) hm (eq_cpF t n) a b k i) k) one
def fsP (n : tp_H) (a b : Int32) (k : Nat) (i : Nat) : Bool := if wAB n a b a k i < wAB n a b a k (i ^^^ 2) then false else if wAB n a b b k i < wAB n a b b k (i ^^^ 1) then false else true
def fsV (i : Nat) : Int32 := (10 : Int32) * (nI i >>> (1 &&& 31)) + (nI i &&& 1)
theorem xor4 : ∀ i, i < 4 → nI i ^^^ 2 = nI (i ^^^ 2) ∧ nI i ^^^ 1 = nI (i ^^^ 1) ∧ i ^^^ 2 < 4 ∧ i ^^^ 1 < 4 := by
  intro i hi
  have h : ∀ j : Fin 4, nI j.1 ^^^ 2 = nI (j.1 ^^^ 2) ∧ nI j.1 ^^^ 1 = nI (j.1 ^^^ 1) ∧ j.1 ^^^ 2 < 4 ∧ j.1 ^^^ 1 < 4 := by decide +kernel
  exact h ⟨i, hi⟩
def coC (n : tp_H) (c : Int32) (i : Nat) : Int32 := hC n ||| (((c >>> (nI i &&& 31)) &&& 1) <<< (hS n &&& 31))
def coN (n : tp_H) (c : Int32) (h : tp_H) : Nat → tp_H
  | 0 => h
  | i + 1 => pNt (sC (coN n c h i) (coC n c i))
theorem coN_succ (n : tp_H) (c : Int32) (h : tp_H) (i : Nat) : coN n c h (i + 1) = pNt (sC (coN n c h i) (coC n c i)) := rfl
theorem coN_M (n : tp_H) (c : Int32) (h : tp_H) (i : Nat) : hM (coN n c h i) = hM h := by
  induction i with
  | zero => rfl
  | succ i ih => rw [coN_succ, pNt_M]; exact ih
theorem eq_coN {a b : tp_H} (hm : hM a ≤ 7) (e : eqH a b) (n : tp_H) (c : Int32) (i : Nat) : eqH (coN n c a i) (coN n c b i) := by
  induction i with
  | zero => exact e
  | succ i ih => rw [coN_succ, coN_succ]; exact (eq_pNt (a := sC (coN n c a i) _) (by show hM (coN n c a i) ≤ 7; rw [coN_M]; exact hm) (eq_sC ih _)).1
def coA (n : tp_H) (one : Int32) (k : Nat) (td : Int32) : Nat → Int64
  | 0 => 0
  | c + 1 => bif abB (coN n (nI c) n k) one then coA n one k td c + powL (td - 1) (k - (bcJ (nI c)).toNatClampNeg) else coA n one k td c
theorem coA_succ (n : tp_H) (one : Int32) (k : Nat) (td : Int32) (c : Nat) : coA n one k td (c + 1) = bif abB (coN n (nI c) n k) one then coA n one k td c + powL (td - 1) (k - (bcJ (nI c)).toNatClampNeg) else coA n one k td c := rfl
theorem bc7 : ∀ k, k ≤ 7 → ∀ c, c < 2 ^ k → nI k - bcJ (nI c) = nI (k - (bcJ (nI c)).toNatClampNeg) := by
  intro k hk c hc
  have h : ∀ j : Fin 8, ∀ d : Fin 128, d.1 < 2 ^ j.1 → nI j.1 - bcJ (nI d.1) = nI (j.1 - (bcJ (nI d.1)).toNatClampNeg) := by decide +kernel
  have h2 := (shl7 k hk).2
  exact h ⟨k, by omega⟩ ⟨c, by omega⟩ hc
/-- the draws of one winter: the seed and the hearth behind the first i -/
def wiS (z : Int32) (h : tp_H) : Nat → Int32 × tp_H
  | 0 => (z, h)
  | i + 1 => (nxS (nxS (wiS z h i).1), pinH (putH (wiS z h i).2 (nI i) (drw 24 (nxS (wiS z h i).1))) (nI i) (drw 3 (nxS (nxS (wiS z h i).1))))
theorem wiS_succ (z : Int32) (h : tp_H) (i : Nat) : wiS z h (i + 1) = (nxS (nxS (wiS z h i).1), pinH (putH (wiS z h i).2 (nI i) (drw 24 (nxS (wiS z h i).1))) (nI i) (drw 3 (nxS (nxS (wiS z h i).1)))) := rfl
theorem wiS_M (z : Int32) (h : tp_H) (i : Nat) : hM (wiS z h i).2 = hM h := by
  induction i with
  | zero => rfl
  | succ i ih => rw [wiS_succ]; exact ih
theorem eq_wiS {a b : tp_H} (hm : hM a ≤ 7) (e : eqH a b) (z : Int32) (i : Nat) : (wiS z a i).1 = (wiS z b i).1 ∧ eqH (wiS z a i).2 (wiS z b i).2 := by
  induction i with
  | zero => exact ⟨rfl, e⟩
  | succ i ih =>
    rw [wiS_succ, wiS_succ, ← ih.1]
    exact ⟨rfl, eq_pinH (a := putH (wiS z a i).2 _ _) (by show hM (wiS z a i).2 ≤ 7; rw [wiS_M]; exact hm) (eq_putH (by rw [wiS_M]; exact hm) ih.2 _ _) _ _⟩
def wiE (n : tp_H) (z : Int32) : tp_H := pNs 10 (wiS z n (hM n)).2
def wiV (n : tp_H) (z what : Int32) : Int32 := if what = 0 then abM (wiE n z) else hoM (wiE n z)
/-- seed and sum behind the first i winters -/
def wiO (n : tp_H) (z what : Int32) : Nat → Int32 × Int32
  | 0 => (z, 0)
  | i + 1 => ((wiS (wiO n z what i).1 n (hM n)).1, (wiO n z what i).2 + wiV n (wiO n z what i).1 what)
theorem wiO_succ (n : tp_H) (z what : Int32) (i : Nat) : wiO n z what (i + 1) = ((wiS (wiO n z what i).1 n (hM n)).1, (wiO n z what i).2 + wiV n (wiO n z what i).1 what) := rfl

set_option maxRecDepth 100000 in
set_option maxHeartbeats 2000000 in
theorem c_bitCount {G : tg_G} {w : tg_W} (k : Int32) : tg_C G 1 mJ6_bitCount_0f7a4 0 0 [.int k] w (fun v w2 => v = some (.int (bcJ k)) ∧ w2 = w) := by
  refine tg_intro okJ6_bitCount_0f7a4 (Nat.le_of_ble_eq_true rfl) ?_
  refine tg_steps 41 rfl ?_
  exact tg_iret (st := []) rfl rfl ⟨Nat.le_of_ble_eq_true rfl, Nat.le_of_ble_eq_true rfl⟩ ⟨rfl, rfl⟩
set_option maxRecDepth 100000 in
set_option maxHeartbeats 2000000 in
theorem c_power {G : tg_G} {w : tg_W} (b : Int32) (k : Nat) (hk : k < 2 ^ 31) : tg_C G 1 mX10_power 0 0 [.int b, .int (nI k)] w (fun v w2 => v = some (.long (powL b k)) ∧ w2 = w) := by
  refine tg_intro okX10_power (Nat.le_of_ble_eq_true rfl) ?_
  refine tg_steps 4 rfl ?_
  refine tg_pkV [0, 1, 2, 4] ?_
  refine tg_eqS (L2 := [(0, .int b), (1, .int (nI k)), (2, .long (powL b (0))), (4, .int (nI (0)))]) (st2 := []) (w2 := w) rfl rfl rfl ?_
  refine tg_down (φ := fun i : Nat => tg_V G 1 mX10_power 0 0 0 0 (fun v w2 => v = some (.long (powL b k)) ∧ w2 = w) 5 [(0, .int b), (1, .int (nI k)), (2, .long (powL b (i))), (4, .int (nI (i)))] [] w) (n := k) ?_ ?_ 0 (Nat.zero_le _) 
  · refine tg_steps 2 rfl ?_
    refine tg_icge rfl rfl (fun h8 => ?_) (fun h8 => ?_)
    · refine tg_steps 1 rfl ?_
      exact tg_lret (st := []) rfl rfl ⟨Nat.le_of_ble_eq_true rfl, Nat.le_of_ble_eq_true rfl⟩ ⟨rfl, rfl⟩
    · exact absurd (nI_le (Nat.le_refl _) (by omega)) h8
  · intro i hi5 ih5
    refine tg_steps 2 rfl ?_
    refine tg_icge rfl rfl (fun h8 => ?_) (fun h8 => ?_)
    · exact absurd h8 (nI_ge hi5 (by omega))
    · refine tg_steps 7 rfl ?_
      refine tg_pkV [0, 1, 2, 4] ?_
      refine tg_eqS (L2 := [(0, .int b), (1, .int (nI k)), (2, .long (powL b (i + 1))), (4, .int (nI (i + 1)))]) (st2 := []) (w2 := w) (by first | rfl | (simp (decide := true) only [nI_succ, powL_succ, decide_true, decide_false, cond_true, cond_false, Bool.false_eq_true, if_true, if_false, ite_true, ite_false]; done) | (simp (decide := true) only [nI_succ, powL_succ, decide_true, decide_false, cond_true, cond_false, Bool.false_eq_true, if_true, if_false, ite_true, ite_false]; rfl)) rfl (by first | rfl | (simp (decide := true) only [nI_succ, powL_succ, decide_true, decide_false, cond_true, cond_false, Bool.false_eq_true, if_true, if_false, ite_true, ite_false]; done) | (simp (decide := true) only [nI_succ, powL_succ, decide_true, decide_false, cond_true, cond_false, Bool.false_eq_true, if_true, if_false, ite_true, ite_false]; rfl)) ?_
      exact ih5
set_option maxRecDepth 100000 in
set_option maxHeartbeats 2000000 in
theorem c_draw {G : tg_G} {n p t : tp_H} {x : tp_X} {r : List tg_Cl} (k : Int32) : tg_C G 1 mX4_draw 0 0 [.ref 25, .int k] (tp_cs n p t x, r) (fun v w => v = some (.int (drw k (nxS (xSe x)))) ∧ w = (tp_cs n p t (ySe x (nxS (xSe x))), r)) := by
  refine tg_intro okX4_draw (Nat.le_of_ble_eq_true rfl) ?_
  refine tg_steps 7 rfl ?_
  rw [show xSe x * 1664525 + 1013904223 = nxS (xSe x) from rfl]
  generalize nxS (xSe x) = z
  refine tg_steps 1 rfl ?_
  refine tg_eqW (w_Se z) ?_
  refine tg_steps 2 rfl ?_
  refine tg_icge rfl rfl (fun h16 => ?_) (fun h16 => ?_)
  · refine tg_steps 7 rfl ?_
    refine tg_irem rfl (fun e => absurd (e ▸ h16) (by decide)) ?_
    exact tg_iret (st := []) rfl rfl ⟨Nat.le_of_ble_eq_true rfl, Nat.le_of_ble_eq_true rfl⟩ ⟨by simp only [drw, e_SeSe, if_pos h16], rfl⟩
  · refine tg_steps 2 rfl ?_
    exact tg_iret (st := []) rfl rfl ⟨Nat.le_of_ble_eq_true rfl, Nat.le_of_ble_eq_true rfl⟩ ⟨by simp only [drw, e_SeSe, if_neg h16], rfl⟩
set_option maxRecDepth 100000 in
set_option maxHeartbeats 2000000 in
theorem c_think {G : tg_G} {n p t : tp_H} {x : tp_X} {r : List tg_Cl} (hm : hM n ≤ 7) (k : Nat) (hk : k < 2 ^ 31) : tg_C G 6 mX4_think 0 0 [.ref 25, .ref 1, .int (nI k)] (tp_cs n p t x, r) (fun v w => v = none ∧ w = (tp_cs n p (pNs k (cpF t n)) x, r)) := by
  refine tg_intro okX4_think (Nat.le_of_ble_eq_true rfl) ?_
  refine tg_steps 3 rfl ?_
  refine tg_callV rfl (c_copyFrom_20 hm) rfl rfl rfl rfl rfl (fun v5 w5 q5 => ?_)
  obtain ⟨rfl, rfl⟩ := q5
  refine tg_steps 3 rfl ?_
  refine tg_callV rfl (c_passNights_2 (h := cpF t n) hm k hk) rfl rfl rfl rfl rfl (fun v13 w13 q13 => ?_)
  obtain ⟨rfl, rfl⟩ := q13
  exact tg_vret (st := []) rfl rfl ⟨Nat.le_of_ble_eq_true rfl, Nat.le_of_ble_eq_true rfl⟩ ⟨rfl, rfl⟩
set_option maxRecDepth 100000 in
set_option maxHeartbeats 2000000 in
theorem c_nextWay {G : tg_G} {n p t : tp_H} {x : tp_X} {r : List tg_Cl} (hm : hM n ≤ 7) (j : Nat) (hj : j < hM n) : tg_C G 5 mX4_nextWay 0 0 [.ref 25, .ref 1, .int (nI j)] (tp_cs n p t x, r) (fun v w => v = some (.int (nwH n j)) ∧ ∃ t2, w = (tp_cs n p t2 x, r)) := by
  refine tg_intro okX4_nextWay (Nat.le_of_ble_eq_true rfl) ?_
  refine tg_steps 3 rfl ?_
  refine tg_callV rfl (c_copyFrom_20 hm) rfl rfl rfl rfl rfl (fun v5 w5 q5 => ?_)
  obtain ⟨rfl, rfl⟩ := q5
  refine tg_steps 7 rfl ?_
  refine tg_eqW (w2 := (tp_cs n p (sN (cpF t n) (hN (cpF t n) + 1)) x, r)) rfl ?_
  refine tg_steps 3 rfl ?_
  refine tg_callV rfl (c_wayOf_2 (h := sN (cpF t n) (hN (cpF t n) + 1)) hm j hj) rfl rfl rfl rfl rfl (fun v26 w26 q26 => ?_)
  obtain ⟨rfl, rfl⟩ := q26
  exact tg_iret (st := []) rfl rfl ⟨Nat.le_of_ble_eq_true rfl, Nat.le_of_ble_eq_true rfl⟩ ⟨by rw [← nw_eq (t := t) hm hj]; rfl, _, rfl⟩
set_option maxRecDepth 100000 in
set_option maxHeartbeats 2000000 in
theorem c_firstAt {G : tg_G} {n p t : tp_H} {x : tp_X} {r : List tg_Cl} (hm : hM n ≤ 7) (one tile : Int32) : tg_C G 5 mX4_firstAt 0 0 [.ref 25, .ref 1, .int one, .int tile] (tp_cs n p t x, r) (fun v w => v = some (.int (fiV (fA n one tile) nI (-9) 61 0)) ∧ ∃ t2, w = (tp_cs n p t2 x, r)) := by
  refine tg_intro okX4_firstAt (Nat.le_of_ble_eq_true rfl) ?_
  refine tg_steps 3 rfl ?_
  refine tg_callV rfl (c_copyFrom_20 hm) rfl rfl rfl rfl rfl (fun v5 w5 q5 => ?_)
  obtain ⟨rfl, rfl⟩ := q5
  refine tg_steps 2 rfl ?_
  refine tg_pkV [0, 1, 2, 3, 4] ?_
  refine tg_eqS (L2 := [(0, .ref 25), (1, .ref 1), (2, .int one), (3, .int tile), (4, .int (nI (0)))]) (st2 := []) (w2 := (tp_cs n p (pNs (0) (cpF t n)) x, r)) rfl rfl rfl ?_
  refine tg_down (φ := fun i : Nat => (fiV (fA n one tile) nI (-9) 61 0 = fiV (fA n one tile) nI (-9) (61 - (i)) (i)) → tg_V G 5 mX4_firstAt 0 0 0 0 (fun v w => v = some (.int (fiV (fA n one tile) nI (-9) 61 0)) ∧ ∃ t2, w = (tp_cs n p t2 x, r)) 11 [(0, .ref 25), (1, .ref 1), (2, .int one), (3, .int tile), (4, .int (nI (i)))] [] (tp_cs n p (pNs (i) (cpF t n)) x, r)) (n := 61) ?_ ?_ 0 (Nat.zero_le _) (rfl)
  · intro hinv11
    refine tg_steps 2 rfl ?_
    refine tg_icgt rfl rfl (fun h15 => ?_) (fun h15 => ?_)
    · refine tg_steps 1 rfl ?_
      exact tg_iret (st := []) rfl rfl ⟨Nat.le_of_ble_eq_true rfl, Nat.le_of_ble_eq_true rfl⟩ ⟨by rw [hinv11]; rfl, _, rfl⟩
    · exact absurd (by decide) h15
  · intro i hi11 ih11 hinv11
    rw [show 61 - i = 61 - (i + 1) + 1 by omega, fiV_succ _ _ _ (61 - (i + 1)) i] at hinv11
    refine tg_steps 2 rfl ?_
    refine tg_icgt rfl rfl (fun h15 => ?_) (fun h15 => ?_)
    · exact absurd h15 (nI_nlt (a := 60) (b := i) (by omega) (by decide))
    · refine tg_steps 3 rfl ?_
      refine tg_callV rfl (c_tileOf_2 (lp_m7 hm i) one) rfl rfl rfl rfl rfl (fun v23 w23 q23 => ?_)
      obtain ⟨rfl, rfl⟩ := q23
      rw [lp_T hm]
      refine tg_steps 1 rfl ?_
      refine tg_icne rfl rfl (fun h27 => ?_) (fun h27 => ?_)
      · refine tg_steps 2 rfl ?_
        refine tg_callV rfl (c_passNight_2 (lp_m7 hm i)) rfl rfl rfl rfl rfl (fun v37 w37 q37 => ?_)
        obtain ⟨rfl, rfl⟩ := q37
        refine tg_steps 3 rfl ?_
        refine tg_pkV [0, 1, 2, 3, 4] ?_
        refine tg_eqS (L2 := [(0, .ref 25), (1, .ref 1), (2, .int one), (3, .int tile), (4, .int (nI (i + 1)))]) (st2 := []) (w2 := (tp_cs n p (pNs (i + 1) (cpF t n)) x, r)) (by first | rfl | (simp (decide := true) only [nI_succ, decide_true, decide_false, cond_true, cond_false, Bool.false_eq_true, if_true, if_false, ite_true, ite_false, h27]; done) | (simp (decide := true) only [nI_succ, decide_true, decide_false, cond_true, cond_false, Bool.false_eq_true, if_true, if_false, ite_true, ite_false, h27]; rfl)) rfl (by first | rfl | (simp (decide := true) only [nI_succ, decide_true, decide_false, cond_true, cond_false, Bool.false_eq_true, if_true, if_false, ite_true, ite_false, h27]; done) | (simp (decide := true) only [nI_succ, decide_true, decide_false, cond_true, cond_false, Bool.false_eq_true, if_true, if_false, ite_true, ite_false, h27]; rfl)) ?_
        exact ih11 (by simp only [fA, decide_true, decide_false, cond_true, cond_false, Bool.false_eq_true, if_true, if_false, ite_true, ite_false, h27] at hinv11; exact hinv11)
      · refine tg_steps 1 rfl ?_
        exact tg_iret (st := []) rfl rfl ⟨Nat.le_of_ble_eq_true rfl, Nat.le_of_ble_eq_true rfl⟩ ⟨by simp only [fA, decide_true, decide_false, cond_true, cond_false, Bool.false_eq_true, if_true, if_false, ite_true, ite_false, eq_true h27] at hinv11; rw [hinv11], _, rfl⟩
set_option maxRecDepth 100000 in
set_option maxHeartbeats 2000000 in
theorem c_firstMeeting {G : tg_G} {n p t : tp_H} {x : tp_X} {r : List tg_Cl} (hm : hM n ≤ 7) (a b : Int32) : tg_C G 5 mX4_firstMeeting 0 0 [.ref 25, .ref 1, .int a, .int b] (tp_cs n p t x, r) (fun v w => v = some (.int (fiV (fD n a b) nI (-9) 61 0)) ∧ ∃ t2, w = (tp_cs n p t2 x, r)) := by
  refine tg_intro okX4_firstMeeting (Nat.le_of_ble_eq_true rfl) ?_
  refine tg_steps 3 rfl ?_
  refine tg_callV rfl (c_copyFrom_20 hm) rfl rfl rfl rfl rfl (fun v5 w5 q5 => ?_)
  obtain ⟨rfl, rfl⟩ := q5
  refine tg_steps 2 rfl ?_
  refine tg_pkV [0, 1, 2, 3, 4] ?_
  refine tg_eqS (L2 := [(0, .ref 25), (1, .ref 1), (2, .int a), (3, .int b), (4, .int (nI (0)))]) (st2 := []) (w2 := (tp_cs n p (pNs (0) (cpF t n)) x, r)) rfl rfl rfl ?_
  refine tg_down (φ := fun i : Nat => (fiV (fD n a b) nI (-9) 61 0 = fiV (fD n a b) nI (-9) (61 - (i)) (i)) → tg_V G 5 mX4_firstMeeting 0 0 0 0 (fun v w => v = some (.int (fiV (fD n a b) nI (-9) 61 0)) ∧ ∃ t2, w = (tp_cs n p t2 x, r)) 11 [(0, .ref 25), (1, .ref 1), (2, .int a), (3, .int b), (4, .int (nI (i)))] [] (tp_cs n p (pNs (i) (cpF t n)) x, r)) (n := 61) ?_ ?_ 0 (Nat.zero_le _) (rfl)
  · intro hinv11
    refine tg_steps 2 rfl ?_
    refine tg_icgt rfl rfl (fun h15 => ?_) (fun h15 => ?_)
    · refine tg_steps 1 rfl ?_
      exact tg_iret (st := []) rfl rfl ⟨Nat.le_of_ble_eq_true rfl, Nat.le_of_ble_eq_true rfl⟩ ⟨by rw [hinv11]; rfl, _, rfl⟩
    · exact absurd (by decide) h15
  · intro i hi11 ih11 hinv11
    rw [show 61 - i = 61 - (i + 1) + 1 by omega, fiV_succ _ _ _ (61 - (i + 1)) i] at hinv11
    refine tg_steps 2 rfl ?_
    refine tg_icgt rfl rfl (fun h15 => ?_) (fun h15 => ?_)
    · exact absurd h15 (nI_nlt (a := 60) (b := i) (by omega) (by decide))
    · refine tg_steps 3 rfl ?_
      refine tg_callV rfl (c_tileOf_2 (lp_m7 hm i) a) rfl rfl rfl rfl rfl (fun v23 w23 q23 => ?_)
      obtain ⟨rfl, rfl⟩ := q23
      rw [lp_T hm]
      refine tg_steps 3 rfl ?_
      refine tg_callV rfl (c_tileOf_2 (lp_m7 hm i) b) rfl rfl rfl rfl rfl (fun v31 w31 q31 => ?_)
      obtain ⟨rfl, rfl⟩ := q31
      rw [lp_T hm i b]
      refine tg_icne rfl rfl (fun h34 => ?_) (fun h34 => ?_)
      · refine tg_steps 2 rfl ?_
        refine tg_callV rfl (c_passNight_2 (lp_m7 hm i)) rfl rfl rfl rfl rfl (fun v44 w44 q44 => ?_)
        obtain ⟨rfl, rfl⟩ := q44
        refine tg_steps 3 rfl ?_
        refine tg_pkV [0, 1, 2, 3, 4] ?_
        refine tg_eqS (L2 := [(0, .ref 25), (1, .ref 1), (2, .int a), (3, .int b), (4, .int (nI (i + 1)))]) (st2 := []) (w2 := (tp_cs n p (pNs (i + 1) (cpF t n)) x, r)) (by first | rfl | (simp (decide := true) only [nI_succ, decide_true, decide_false, cond_true, cond_false, Bool.false_eq_true, if_true, if_false, ite_true, ite_false, h34]; done) | (simp (decide := true) only [nI_succ, decide_true, decide_false, cond_true, cond_false, Bool.false_eq_true, if_true, if_false, ite_true, ite_false, h34]; rfl)) rfl (by first | rfl | (simp (decide := true) only [nI_succ, decide_true, decide_false, cond_true, cond_false, Bool.false_eq_true, if_true, if_false, ite_true, ite_false, h34]; done) | (simp (decide := true) only [nI_succ, decide_true, decide_false, cond_true, cond_false, Bool.false_eq_true, if_true, if_false, ite_true, ite_false, h34]; rfl)) ?_
        exact ih11 (by simp only [fD, decide_true, decide_false, cond_true, cond_false, Bool.false_eq_true, if_true, if_false, ite_true, ite_false, h34] at hinv11; exact hinv11)
      · refine tg_steps 1 rfl ?_
        exact tg_iret (st := []) rfl rfl ⟨Nat.le_of_ble_eq_true rfl, Nat.le_of_ble_eq_true rfl⟩ ⟨by simp only [fD, decide_true, decide_false, cond_true, cond_false, Bool.false_eq_true, if_true, if_false, ite_true, ite_false, eq_true h34] at hinv11; rw [hinv11], _, rfl⟩
set_option maxRecDepth 100000 in
set_option maxHeartbeats 2000000 in
theorem c_firstAllAboard {G : tg_G} {n p t : tp_H} {x : tp_X} {r : List tg_Cl} (hm : hM n ≤ 7)  : tg_C G 5 mX4_firstAllAboard 0 0 [.ref 25, .ref 1] (tp_cs n p t x, r) (fun v w => v = some (.int (fiV (fC n) nI (-9) 61 0)) ∧ ∃ t2, w = (tp_cs n p t2 x, r)) := by
  refine tg_intro okX4_firstAllAboard (Nat.le_of_ble_eq_true rfl) ?_
  refine tg_steps 3 rfl ?_
  refine tg_callV rfl (c_copyFrom_20 hm) rfl rfl rfl rfl rfl (fun v5 w5 q5 => ?_)
  obtain ⟨rfl, rfl⟩ := q5
  refine tg_steps 2 rfl ?_
  refine tg_pkV [0, 1, 2] ?_
  refine tg_eqS (L2 := [(0, .ref 25), (1, .ref 1), (2, .int (nI (0)))]) (st2 := []) (w2 := (tp_cs n p (pNs (0) (cpF t n)) x, r)) rfl rfl rfl ?_
  refine tg_down (φ := fun i : Nat => (fiV (fC n) nI (-9) 61 0 = fiV (fC n) nI (-9) (61 - (i)) (i)) → tg_V G 5 mX4_firstAllAboard 0 0 0 0 (fun v w => v = some (.int (fiV (fC n) nI (-9) 61 0)) ∧ ∃ t2, w = (tp_cs n p t2 x, r)) 10 [(0, .ref 25), (1, .ref 1), (2, .int (nI (i)))] [] (tp_cs n p (pNs (i) (cpF t n)) x, r)) (n := 61) ?_ ?_ 0 (Nat.zero_le _) (rfl)
  · intro hinv10
    refine tg_steps 2 rfl ?_
    refine tg_icgt rfl rfl (fun h13 => ?_) (fun h13 => ?_)
    · refine tg_steps 1 rfl ?_
      exact tg_iret (st := []) rfl rfl ⟨Nat.le_of_ble_eq_true rfl, Nat.le_of_ble_eq_true rfl⟩ ⟨by rw [hinv10]; rfl, _, rfl⟩
    · exact absurd (by decide) h13
  · intro i hi10 ih10 hinv10
    rw [show 61 - i = 61 - (i + 1) + 1 by omega, fiV_succ _ _ _ (61 - (i + 1)) i] at hinv10
    refine tg_steps 2 rfl ?_
    refine tg_icgt rfl rfl (fun h13 => ?_) (fun h13 => ?_)
    · exact absurd h13 (nI_nlt (a := 60) (b := i) (by omega) (by decide))
    · refine tg_steps 2 rfl ?_
      refine tg_callV rfl (c_aboardMany_2 (lp_m7 hm i)) rfl rfl rfl rfl rfl (fun v20 w20 q20 => ?_)
      obtain ⟨rfl, rfl⟩ := q20
      rw [ab_fold, lp_M hm]
      refine tg_steps 3 rfl ?_
      rw [lp_hM]
      refine tg_icne rfl rfl (fun h30 => ?_) (fun h30 => ?_)
      · refine tg_steps 2 rfl ?_
        refine tg_callV rfl (c_passNight_2 (lp_m7 hm i)) rfl rfl rfl rfl rfl (fun v39 w39 q39 => ?_)
        obtain ⟨rfl, rfl⟩ := q39
        refine tg_steps 3 rfl ?_
        refine tg_pkV [0, 1, 2] ?_
        refine tg_eqS (L2 := [(0, .ref 25), (1, .ref 1), (2, .int (nI (i + 1)))]) (st2 := []) (w2 := (tp_cs n p (pNs (i + 1) (cpF t n)) x, r)) (by first | rfl | (simp (decide := true) only [nI_succ, decide_true, decide_false, cond_true, cond_false, Bool.false_eq_true, if_true, if_false, ite_true, ite_false, h30]; done) | (simp (decide := true) only [nI_succ, decide_true, decide_false, cond_true, cond_false, Bool.false_eq_true, if_true, if_false, ite_true, ite_false, h30]; rfl)) rfl (by first | rfl | (simp (decide := true) only [nI_succ, decide_true, decide_false, cond_true, cond_false, Bool.false_eq_true, if_true, if_false, ite_true, ite_false, h30]; done) | (simp (decide := true) only [nI_succ, decide_true, decide_false, cond_true, cond_false, Bool.false_eq_true, if_true, if_false, ite_true, ite_false, h30]; rfl)) ?_
        exact ih10 (by simp only [fC, decide_true, decide_false, cond_true, cond_false, Bool.false_eq_true, if_true, if_false, ite_true, ite_false, h30] at hinv10; exact hinv10)
      · refine tg_steps 1 rfl ?_
        exact tg_iret (st := []) rfl rfl ⟨Nat.le_of_ble_eq_true rfl, Nat.le_of_ble_eq_true rfl⟩ ⟨by simp only [fC, decide_true, decide_false, cond_true, cond_false, Bool.false_eq_true, if_true, if_false, ite_true, ite_false, eq_true h30] at hinv10; rw [hinv10], _, rfl⟩
set_option maxRecDepth 100000 in
set_option maxHeartbeats 2000000 in
theorem c_firstAboard {G : tg_G} {n p t : tp_H} {x : tp_X} {r : List tg_Cl} (hm : hM n ≤ 7)  : tg_C G 5 mX4_firstAboard 0 0 [.ref 25, .ref 1] (tp_cs n p t x, r) (fun v w => v = some (.int (fB n 61 0)) ∧ ∃ t2, w = (tp_cs n p t2 x, r)) := by
  refine tg_intro okX4_firstAboard (Nat.le_of_ble_eq_true rfl) ?_
  refine tg_steps 3 rfl ?_
  refine tg_callV rfl (c_copyFrom_20 hm) rfl rfl rfl rfl rfl (fun v5 w5 q5 => ?_)
  obtain ⟨rfl, rfl⟩ := q5
  refine tg_steps 2 rfl ?_
  refine tg_pkV [0, 1, 2] ?_
  refine tg_eqS (L2 := [(0, .ref 25), (1, .ref 1), (2, .int (nI (0)))]) (st2 := []) (w2 := (tp_cs n p (pNs (0) (cpF t n)) x, r)) rfl rfl rfl ?_
  refine tg_down (φ := fun i : Nat => (fB n 61 0 = fB n (61 - (i)) (i)) → tg_V G 5 mX4_firstAboard 0 0 0 0 (fun v w => v = some (.int (fB n 61 0)) ∧ ∃ t2, w = (tp_cs n p t2 x, r)) 10 [(0, .ref 25), (1, .ref 1), (2, .int (nI (i)))] [] (tp_cs n p (pNs (i) (cpF t n)) x, r)) (n := 61) ?_ ?_ 0 (Nat.zero_le _) (rfl)
  · intro hinv10
    refine tg_steps 2 rfl ?_
    refine tg_icgt rfl rfl (fun h13 => ?_) (fun h13 => ?_)
    · refine tg_steps 1 rfl ?_
      exact tg_iret (st := []) rfl rfl ⟨Nat.le_of_ble_eq_true rfl, Nat.le_of_ble_eq_true rfl⟩ ⟨by rw [hinv10]; rfl, _, rfl⟩
    · exact absurd (by decide) h13
  · intro i hi10 ih10 hinv10
    rw [show 61 - i = 61 - (i + 1) + 1 by omega, fB_succ n (61 - (i + 1)) i] at hinv10
    refine tg_steps 2 rfl ?_
    refine tg_icgt rfl rfl (fun h13 => ?_) (fun h13 => ?_)
    · exact absurd h13 (nI_nlt (a := 60) (b := i) (by omega) (by decide))
    · refine tg_steps 2 rfl ?_
      refine tg_pkV [0, 1, 2, 3] ?_
      refine tg_eqS (L2 := [(0, .ref 25), (1, .ref 1), (2, .int (nI i)), (3, .int (nI (0)))]) (st2 := []) (w2 := (tp_cs n p (pNs i (cpF t n)) x, r)) rfl rfl rfl ?_
      refine tg_down (φ := fun j : Nat => (fB n 61 0 = fiV (fun k => abB (pNs i n) (nI k)) nI (fB n (61 - (i + 1)) (i + 1)) (hM n - (j)) (j)) → tg_V G 5 mX4_firstAboard 0 0 0 0 (fun v w => v = some (.int (fB n 61 0)) ∧ ∃ t2, w = (tp_cs n p t2 x, r)) 18 [(0, .ref 25), (1, .ref 1), (2, .int (nI i)), (3, .int (nI (j)))] [] (tp_cs n p (pNs i (cpF t n)) x, r)) (n := hM n) ?_ ?_ 0 (Nat.zero_le _) (hinv10)
      · intro hinv18
        refine tg_steps 4 rfl ?_
        refine tg_icge rfl rfl (fun h26 => ?_) (fun h26 => ?_)
        · refine tg_steps 2 rfl ?_
          refine tg_callV rfl (c_passNight_2 (lp_m7 hm i)) rfl rfl rfl rfl rfl (fun v52 w52 q52 => ?_)
          obtain ⟨rfl, rfl⟩ := q52
          refine tg_steps 3 rfl ?_
          refine tg_pkV [0, 1, 2] ?_
          refine tg_eqS (L2 := [(0, .ref 25), (1, .ref 1), (2, .int (nI (i + 1)))]) (st2 := []) (w2 := (tp_cs n p (pNs (i + 1) (cpF t n)) x, r)) (by first | rfl | (simp (decide := true) only [nI_succ, decide_true, decide_false, cond_true, cond_false, Bool.false_eq_true, if_true, if_false, ite_true, ite_false]; done) | (simp (decide := true) only [nI_succ, decide_true, decide_false, cond_true, cond_false, Bool.false_eq_true, if_true, if_false, ite_true, ite_false]; rfl)) rfl (by first | rfl | (simp (decide := true) only [nI_succ, decide_true, decide_false, cond_true, cond_false, Bool.false_eq_true, if_true, if_false, ite_true, ite_false]; done) | (simp (decide := true) only [nI_succ, decide_true, decide_false, cond_true, cond_false, Bool.false_eq_true, if_true, if_false, ite_true, ite_false]; rfl)) ?_
          exact ih10 (by rw [Nat.sub_self] at hinv18; exact hinv18)
        · exact absurd (by rw [lp_hM]; exact nI_le (Nat.le_refl _) (by omega)) h26
      · intro j hi18 ih18 hinv18
        rw [show hM n - j = hM n - (j + 1) + 1 by omega, fiV_succ _ _ _ (hM n - (j + 1)) j] at hinv18
        refine tg_steps 4 rfl ?_
        refine tg_icge rfl rfl (fun h26 => ?_) (fun h26 => ?_)
        · exact absurd h26 (by rw [lp_hM]; exact nI_ge hi18 (by omega))
        · refine tg_steps 3 rfl ?_
          refine tg_callV rfl (c_isAboard_2 (lp_m7 hm i) _) rfl rfl rfl rfl rfl (fun v34 w34 q34 => ?_)
          obtain ⟨rfl, rfl⟩ := q34
          rw [lp_ab hm]
          refine tg_ifbeq rfl rfl (fun h37 => ?_) (fun h37 => ?_)
          · refine tg_steps 2 rfl ?_
            refine tg_pkV [0, 1, 2, 3] ?_
            refine tg_eqS (L2 := [(0, .ref 25), (1, .ref 1), (2, .int (nI i)), (3, .int (nI (j + 1)))]) (st2 := []) (w2 := (tp_cs n p (pNs i (cpF t n)) x, r)) (by first | rfl | (simp (decide := true) only [nI_succ, decide_true, decide_false, cond_true, cond_false, Bool.false_eq_true, if_true, if_false, ite_true, ite_false, h37]; done) | (simp (decide := true) only [nI_succ, decide_true, decide_false, cond_true, cond_false, Bool.false_eq_true, if_true, if_false, ite_true, ite_false, h37]; rfl)) rfl (by first | rfl | (simp (decide := true) only [nI_succ, decide_true, decide_false, cond_true, cond_false, Bool.false_eq_true, if_true, if_false, ite_true, ite_false, h37]; done) | (simp (decide := true) only [nI_succ, decide_true, decide_false, cond_true, cond_false, Bool.false_eq_true, if_true, if_false, ite_true, ite_false, h37]; rfl)) ?_
            exact ih18 (by simp only [decide_true, decide_false, cond_true, cond_false, Bool.false_eq_true, if_true, if_false, ite_true, ite_false, h37] at hinv18; exact hinv18)
          · refine tg_steps 1 rfl ?_
            exact tg_iret (st := []) rfl rfl ⟨Nat.le_of_ble_eq_true rfl, Nat.le_of_ble_eq_true rfl⟩ ⟨by simp only [decide_true, decide_false, cond_true, cond_false, Bool.false_eq_true, if_true, if_false, ite_true, ite_false, h37] at hinv18; rw [hinv18], _, rfl⟩
set_option maxRecDepth 100000 in
set_option maxHeartbeats 2000000 in
theorem c_firstQuiet {G : tg_G} {n p t : tp_H} {x : tp_X} {r : List tg_Cl} (hm : hM n ≤ 7)  : tg_C G 5 mX4_firstQuiet 0 0 [.ref 25, .ref 1] (tp_cs n p t x, r) (fun v w => v = some (.int (fiV (fE n) (sqV n) (-9) 72 0)) ∧ ∃ t2, w = (tp_cs n p t2 x, r)) := by
  refine tg_intro okX4_firstQuiet (Nat.le_of_ble_eq_true rfl) ?_
  refine tg_steps 3 rfl ?_
  refine tg_callV rfl (c_copyFrom_20 hm) rfl rfl rfl rfl rfl (fun v5 w5 q5 => ?_)
  obtain ⟨rfl, rfl⟩ := q5
  refine tg_steps 4 rfl ?_
  refine tg_pkV [0, 1, 2, 3] ?_
  refine tg_eqS (L2 := [(0, .ref 25), (1, .ref 1), (2, .int (nI (sqS n (0)))), (3, .int (nI (0 + 1)))]) (st2 := []) (w2 := (tp_cs n p (pNs (0) (cpF t n)) x, r)) rfl rfl rfl ?_
  refine tg_down (φ := fun i : Nat => (fiV (fE n) (sqV n) (-9) 72 0 = fiV (fE n) (sqV n) (-9) (72 - (i)) (i)) → tg_V G 5 mX4_firstQuiet 0 0 0 0 (fun v w => v = some (.int (fiV (fE n) (sqV n) (-9) 72 0)) ∧ ∃ t2, w = (tp_cs n p t2 x, r)) 12 [(0, .ref 25), (1, .ref 1), (2, .int (nI (sqS n (i)))), (3, .int (nI (i + 1)))] [] (tp_cs n p (pNs (i) (cpF t n)) x, r)) (n := 72) ?_ ?_ 0 (Nat.zero_le _) (rfl)
  · intro hinv12
    refine tg_steps 2 rfl ?_
    refine tg_icgt rfl rfl (fun h15 => ?_) (fun h15 => ?_)
    · refine tg_steps 1 rfl ?_
      exact tg_iret (st := []) rfl rfl ⟨Nat.le_of_ble_eq_true rfl, Nat.le_of_ble_eq_true rfl⟩ ⟨by rw [hinv12]; rfl, _, rfl⟩
    · exact absurd (by decide) h15
  · intro i hi12 ih12 hinv12
    rw [show 72 - i = 72 - (i + 1) + 1 by omega, fiV_succ _ _ _ (72 - (i + 1)) i] at hinv12
    refine tg_steps 2 rfl ?_
    refine tg_icgt rfl rfl (fun h15 => ?_) (fun h15 => ?_)
    · exact absurd h15 (nI_nlt (a := 72) (b := i + 1) (by omega) (by decide))
    · refine tg_steps 2 rfl ?_
      refine tg_callV rfl (c_passNight_2 (lp_m7 hm i)) rfl rfl rfl rfl rfl (fun v22 w22 q22 => ?_)
      obtain ⟨rfl, rfl⟩ := q22
      rw [lp_gn hm]
      refine tg_ifbeq rfl rfl (fun h25 => ?_) (fun h25 => ?_)
      · refine tg_steps 4 rfl ?_
        refine tg_icne rfl rfl (fun h35 => ?_) (fun h35 => ?_)
        · refine tg_steps 2 rfl ?_
          refine tg_pkV [0, 1, 2, 3] ?_
          refine tg_eqS (L2 := [(0, .ref 25), (1, .ref 1), (2, .int (nI (sqS n (i + 1)))), (3, .int (nI (i + 1 + 1)))]) (st2 := []) (w2 := (tp_cs n p (pNs (i + 1) (cpF t n)) x, r)) (by first | rfl | (simp (decide := true) only [nI_succ, sqS_succ, decide_true, decide_false, cond_true, cond_false, Bool.false_eq_true, if_true, if_false, ite_true, ite_false, h25, h35]; done) | (simp (decide := true) only [nI_succ, sqS_succ, decide_true, decide_false, cond_true, cond_false, Bool.false_eq_true, if_true, if_false, ite_true, ite_false, h25, h35]; rfl)) rfl (by first | rfl | (simp (decide := true) only [nI_succ, sqS_succ, decide_true, decide_false, cond_true, cond_false, Bool.false_eq_true, if_true, if_false, ite_true, ite_false, h25, h35]; done) | (simp (decide := true) only [nI_succ, sqS_succ, decide_true, decide_false, cond_true, cond_false, Bool.false_eq_true, if_true, if_false, ite_true, ite_false, h25, h35]; rfl)) ?_
          exact ih12 (by simp only [fE, sqV, sqS_succ, decide_true, decide_false, cond_true, cond_false, Bool.false_eq_true, if_true, if_false, ite_true, ite_false, h25, h35] at hinv12; exact hinv12)
        · refine tg_steps 1 rfl ?_
          exact tg_iret (st := []) rfl rfl ⟨Nat.le_of_ble_eq_true rfl, Nat.le_of_ble_eq_true rfl⟩ ⟨by simp only [fE, sqV, sqS_succ, decide_true, decide_false, cond_true, cond_false, Bool.false_eq_true, if_true, if_false, ite_true, ite_false, h25, eq_true h35] at hinv12; rw [hinv12], _, rfl⟩
      · refine tg_steps 6 rfl ?_
        refine tg_icne rfl rfl (fun h35 => ?_) (fun h35 => ?_)
        · refine tg_steps 2 rfl ?_
          refine tg_pkV [0, 1, 2, 3] ?_
          refine tg_eqS (L2 := [(0, .ref 25), (1, .ref 1), (2, .int (nI (sqS n (i + 1)))), (3, .int (nI (i + 1 + 1)))]) (st2 := []) (w2 := (tp_cs n p (pNs (i + 1) (cpF t n)) x, r)) (by first | rfl | (simp (decide := true) only [nI_succ, sqS_succ, decide_true, decide_false, cond_true, cond_false, Bool.false_eq_true, if_true, if_false, ite_true, ite_false, h25, h35]; done) | (simp (decide := true) only [nI_succ, sqS_succ, decide_true, decide_false, cond_true, cond_false, Bool.false_eq_true, if_true, if_false, ite_true, ite_false, h25, h35]; rfl)) rfl (by first | rfl | (simp (decide := true) only [nI_succ, sqS_succ, decide_true, decide_false, cond_true, cond_false, Bool.false_eq_true, if_true, if_false, ite_true, ite_false, h25, h35]; done) | (simp (decide := true) only [nI_succ, sqS_succ, decide_true, decide_false, cond_true, cond_false, Bool.false_eq_true, if_true, if_false, ite_true, ite_false, h25, h35]; rfl)) ?_
          exact ih12 (by simp only [fE, sqV, sqS_succ, decide_true, decide_false, cond_true, cond_false, Bool.false_eq_true, if_true, if_false, ite_true, ite_false, h25, h35] at hinv12; exact hinv12)
        · refine tg_steps 1 rfl ?_
          exact tg_iret (st := []) rfl rfl ⟨Nat.le_of_ble_eq_true rfl, Nat.le_of_ble_eq_true rfl⟩ ⟨by simp only [fE, sqV, sqS_succ, decide_true, decide_false, cond_true, cond_false, Bool.false_eq_true, if_true, if_false, ite_true, ite_false, h25, eq_true h35] at hinv12; rw [hinv12], _, rfl⟩
set_option maxRecDepth 100000 in
set_option maxHeartbeats 2000000 in
theorem c_aboardBehind {G : tg_G} {n p t : tp_H} {x : tp_X} {r : List tg_Cl} (hm : hM n ≤ 7) (k : Nat) (hk : k < 2 ^ 31) : tg_C G 6 mX4_aboardBehind 0 0 [.ref 25, .ref 1, .int (nI k)] (tp_cs n p t x, r) (fun v w => v = some (.int (abM (pNs k n))) ∧ ∃ t2, w = (tp_cs n p t2 x, r)) := by
  refine tg_intro okX4_aboardBehind (Nat.le_of_ble_eq_true rfl) ?_
  refine tg_steps 3 rfl ?_
  refine tg_callV rfl (c_copyFrom_20 hm) rfl rfl rfl rfl rfl (fun v5 w5 q5 => ?_)
  obtain ⟨rfl, rfl⟩ := q5
  refine tg_steps 3 rfl ?_
  refine tg_callV rfl (c_passNights_2 (h := cpF t n) hm k hk) rfl rfl rfl rfl rfl (fun v13 w13 q13 => ?_)
  obtain ⟨rfl, rfl⟩ := q13
  refine tg_steps 2 rfl ?_
  refine tg_callV rfl (c_aboardMany_2 (lp_m7 hm k)) rfl rfl rfl rfl rfl (fun v20 w20 q20 => ?_)
  obtain ⟨rfl, rfl⟩ := q20
  exact tg_iret (st := []) rfl rfl ⟨Nat.le_of_ble_eq_true rfl, Nat.le_of_ble_eq_true rfl⟩ ⟨by rw [← lp_M (t := t) hm]; rfl, _, rfl⟩
set_option maxRecDepth 100000 in
set_option maxHeartbeats 2000000 in
theorem c_aboardWithShip {G : tg_G} {n p t : tp_H} {x : tp_X} {r : List tg_Cl} (hm : hM n ≤ 7) (ti : Int32) (k : Nat) (hk : k < 2 ^ 31) : tg_C G 6 mX4_aboardWithShip 0 0 [.ref 25, .ref 1, .int ti, .int (nI k)] (tp_cs n p t x, r) (fun v w => v = some (.int (shW n k ti)) ∧ ∃ t2, w = (tp_cs n p t2 x, r)) := by
  refine tg_intro okX4_aboardWithShip (Nat.le_of_ble_eq_true rfl) ?_
  refine tg_steps 3 rfl ?_
  refine tg_callV rfl (c_copyFrom_20 hm) rfl rfl rfl rfl rfl (fun v5 w5 q5 => ?_)
  obtain ⟨rfl, rfl⟩ := q5
  refine tg_steps 4 rfl ?_
  refine tg_eqW (w2 := (tp_cs n p (sS (cpF t n) ti) x, r)) rfl ?_
  refine tg_steps 3 rfl ?_
  refine tg_callV rfl (c_passNights_2 (h := sS (cpF t n) ti) hm k hk) rfl rfl rfl rfl rfl (fun v21 w21 q21 => ?_)
  obtain ⟨rfl, rfl⟩ := q21
  refine tg_steps 2 rfl ?_
  refine tg_callV rfl (c_aboardMany_2 (pm7 (n := sS (cpF t n) ti) hm k)) rfl rfl rfl rfl rfl (fun v28 w28 q28 => ?_)
  obtain ⟨rfl, rfl⟩ := q28
  exact tg_iret (st := []) rfl rfl ⟨Nat.le_of_ble_eq_true rfl, Nat.le_of_ble_eq_true rfl⟩ ⟨by rw [← shW_eq (t := t) hm]; rfl, _, rfl⟩
set_option maxRecDepth 100000 in
set_option maxHeartbeats 2000000 in
theorem c_aboardWithTurnedCrack {G : tg_G} {n p t : tp_H} {x : tp_X} {r : List tg_Cl} (hm : hM n ≤ 7) (ti : Int32) (k : Nat) (hk : k < 2 ^ 31) : tg_C G 6 mX4_aboardWithTurnedCrack 0 0 [.ref 25, .ref 1, .int ti, .int (nI k)] (tp_cs n p t x, r) (fun v w => v = some (.int (crW n k ti)) ∧ ∃ t2, w = (tp_cs n p t2 x, r)) := by
  refine tg_intro okX4_aboardWithTurnedCrack (Nat.le_of_ble_eq_true rfl) ?_
  refine tg_steps 3 rfl ?_
  refine tg_callV rfl (c_copyFrom_20 hm) rfl rfl rfl rfl rfl (fun v5 w5 q5 => ?_)
  obtain ⟨rfl, rfl⟩ := q5
  refine tg_steps 3 rfl ?_
  refine tg_callV rfl (c_turnCrack_2 ti) rfl rfl rfl rfl rfl (fun v13 w13 q13 => ?_)
  obtain ⟨rfl, rfl⟩ := q13
  refine tg_steps 3 rfl ?_
  refine tg_callV rfl (c_passNights_2 (h := crkH (cpF t n) ti) hm k hk) rfl rfl rfl rfl rfl (fun v21 w21 q21 => ?_)
  obtain ⟨rfl, rfl⟩ := q21
  refine tg_steps 2 rfl ?_
  refine tg_callV rfl (c_aboardMany_2 (pm7 (n := crkH (cpF t n) ti) hm k)) rfl rfl rfl rfl rfl (fun v28 w28 q28 => ?_)
  obtain ⟨rfl, rfl⟩ := q28
  exact tg_iret (st := []) rfl rfl ⟨Nat.le_of_ble_eq_true rfl, Nat.le_of_ble_eq_true rfl⟩ ⟨by rw [← crW_eq (t := t) hm]; rfl, _, rfl⟩
set_option maxRecDepth 100000 in
set_option maxHeartbeats 2000000 in
theorem c_aboardWithPinned {G : tg_G} {n p t : tp_H} {x : tp_X} {r : List tg_Cl} (hm : hM n ≤ 7) (ti : Int32) (k : Nat) (hk : k < 2 ^ 31) : tg_C G 6 mX4_aboardWithPinned 0 0 [.ref 25, .ref 1, .int ti, .int (nI k)] (tp_cs n p t x, r) (fun v w => v = some (.int (piW n k ti)) ∧ ∃ t2, w = (tp_cs n p t2 x, r)) := by
  refine tg_intro okX4_aboardWithPinned (Nat.le_of_ble_eq_true rfl) ?_
  refine tg_steps 3 rfl ?_
  refine tg_callV rfl (c_copyFrom_20 hm) rfl rfl rfl rfl rfl (fun v5 w5 q5 => ?_)
  obtain ⟨rfl, rfl⟩ := q5
  refine tg_steps 4 rfl ?_
  refine tg_callV rfl (c_sendHome_2 (h := cpF t n) hm ti 9) rfl rfl rfl rfl rfl (fun v15 w15 q15 => ?_)
  obtain ⟨rfl, rfl⟩ := q15
  refine tg_steps 3 rfl ?_
  refine tg_callV rfl (c_passNights_2 (h := senH (cpF t n) ti 9) hm k hk) rfl rfl rfl rfl rfl (fun v23 w23 q23 => ?_)
  obtain ⟨rfl, rfl⟩ := q23
  refine tg_steps 2 rfl ?_
  refine tg_callV rfl (c_aboardMany_2 (pm7 (n := senH (cpF t n) ti 9) hm k)) rfl rfl rfl rfl rfl (fun v30 w30 q30 => ?_)
  obtain ⟨rfl, rfl⟩ := q30
  exact tg_iret (st := []) rfl rfl ⟨Nat.le_of_ble_eq_true rfl, Nat.le_of_ble_eq_true rfl⟩ ⟨by rw [← piW_eq (t := t) hm]; rfl, _, rfl⟩
set_option maxRecDepth 100000 in
set_option maxHeartbeats 2000000 in
theorem c_bestShip {G : tg_G} {n p t : tp_H} {x : tp_X} {r : List tg_Cl} (hm : hM n ≤ 7) (k : Nat) (hk : k < 2 ^ 31) : tg_C G 7 mX4_bestShip 0 0 [.ref 25, .ref 1, .int (nI k)] (tp_cs n p t x, r) (fun v w => v = some (.int ((mxQ (fun _ => true) (fun i => shW n k (nI i)) 0 (-1) 24).1)) ∧ ∃ t2, w = (tp_cs n p t2 x, r)) := by
  refine tg_intro okX4_bestShip (Nat.le_of_ble_eq_true rfl) ?_
  refine tg_steps 6 rfl ?_
  refine tg_pkV [0, 1, 2, 3, 4, 5] ?_
  refine tg_eqS (L2 := [(0, .ref 25), (1, .ref 1), (2, .int (nI k)), (3, .int (mxQ (fun _ => true) (fun i => shW n k (nI i)) 0 (-1) (0)).1), (4, .int (mxQ (fun _ => true) (fun i => shW n k (nI i)) 0 (-1) (0)).2), (5, .int (nI (0)))]) (st2 := []) (w2 := _) rfl rfl rfl ?_
  refine tg_down (φ := fun i : Nat => ∀ (t2 : tp_H), tg_V G 7 mX4_bestShip 0 0 0 0 (fun v w => v = some (.int ((mxQ (fun _ => true) (fun i => shW n k (nI i)) 0 (-1) 24).1)) ∧ ∃ t2, w = (tp_cs n p t2 x, r)) 8 [(0, .ref 25), (1, .ref 1), (2, .int (nI k)), (3, .int (mxQ (fun _ => true) (fun i => shW n k (nI i)) 0 (-1) (i)).1), (4, .int (mxQ (fun _ => true) (fun i => shW n k (nI i)) 0 (-1) (i)).2), (5, .int (nI (i)))] [] (tp_cs n p t2 x, r)) (n := 24) ?_ ?_ 0 (Nat.zero_le _) _ 
  · intro t2
    refine tg_steps 2 rfl ?_
    refine tg_icge rfl rfl (fun h12 => ?_) (fun h12 => ?_)
    · refine tg_steps 1 rfl ?_
      exact tg_iret (st := []) rfl rfl ⟨Nat.le_of_ble_eq_true rfl, Nat.le_of_ble_eq_true rfl⟩ ⟨rfl, _, rfl⟩
    · exact absurd (by decide) h12
  · intro i hi8 ih8 t2
    refine tg_steps 2 rfl ?_
    refine tg_icge rfl rfl (fun h12 => ?_) (fun h12 => ?_)
    · exact absurd h12 (nI_ge (b := 24) hi8 (by decide))
    · refine tg_steps 4 rfl ?_
      refine tg_callV rfl (c_aboardWithShip hm _ k hk) rfl rfl rfl rfl rfl (fun v20 w20 q20 => ?_)
      obtain ⟨rfl, t3, rfl⟩ := q20
      refine tg_steps 3 rfl ?_
      refine tg_icle rfl rfl (fun h29 => ?_) (fun h29 => ?_)
      · refine tg_steps 2 rfl ?_
        refine tg_pkV [0, 1, 2, 3, 4, 5] ?_
        refine tg_eqS (L2 := [(0, .ref 25), (1, .ref 1), (2, .int (nI k)), (3, .int (mxQ (fun _ => true) (fun i => shW n k (nI i)) 0 (-1) (i + 1)).1), (4, .int (mxQ (fun _ => true) (fun i => shW n k (nI i)) 0 (-1) (i + 1)).2), (5, .int (nI (i + 1)))]) (st2 := []) (w2 := _) (by first | rfl | (simp (decide := true) only [nI_succ, mxQ_succ, decide_true, decide_false, cond_true, cond_false, Bool.false_eq_true, if_true, if_false, ite_true, ite_false, h29, Int32.not_lt.mpr h29]; done) | (simp (decide := true) only [nI_succ, mxQ_succ, decide_true, decide_false, cond_true, cond_false, Bool.false_eq_true, if_true, if_false, ite_true, ite_false, h29, Int32.not_lt.mpr h29]; rfl)) rfl rfl ?_
        exact ih8 _
      · refine tg_steps 6 rfl ?_
        refine tg_pkV [0, 1, 2, 3, 4, 5] ?_
        refine tg_eqS (L2 := [(0, .ref 25), (1, .ref 1), (2, .int (nI k)), (3, .int (mxQ (fun _ => true) (fun i => shW n k (nI i)) 0 (-1) (i + 1)).1), (4, .int (mxQ (fun _ => true) (fun i => shW n k (nI i)) 0 (-1) (i + 1)).2), (5, .int (nI (i + 1)))]) (st2 := []) (w2 := _) (by first | rfl | (simp (decide := true) only [nI_succ, mxQ_succ, decide_true, decide_false, cond_true, cond_false, Bool.false_eq_true, if_true, if_false, ite_true, ite_false, h29, Int32.not_le.mp h29]; done) | (simp (decide := true) only [nI_succ, mxQ_succ, decide_true, decide_false, cond_true, cond_false, Bool.false_eq_true, if_true, if_false, ite_true, ite_false, h29, Int32.not_le.mp h29]; rfl)) rfl rfl ?_
        exact ih8 _
set_option maxRecDepth 100000 in
set_option maxHeartbeats 2000000 in
theorem c_bestMended {G : tg_G} {n p t : tp_H} {x : tp_X} {r : List tg_Cl} (hm : hM n ≤ 7) (k : Nat) (hk : k < 2 ^ 31) : tg_C G 7 mX4_bestMended 0 0 [.ref 25, .ref 1, .int (nI k)] (tp_cs n p t x, r) (fun v w => v = some (.int ((mxQ (fun i => crB n (nI i)) (fun i => crW n k (nI i)) (-9) (abM (pNs k n)) 24).1)) ∧ ∃ t2, w = (tp_cs n p t2 x, r)) := by
  refine tg_intro okX4_bestMended (Nat.le_of_ble_eq_true rfl) ?_
  refine tg_steps 5 rfl ?_
  refine tg_callV rfl (c_aboardBehind hm k hk) rfl rfl rfl rfl rfl (fun v6 w6 q6 => ?_)
  obtain ⟨rfl, t3, rfl⟩ := q6
  refine tg_steps 3 rfl ?_
  refine tg_pkV [0, 1, 2, 3, 4, 5] ?_
  refine tg_eqS (L2 := [(0, .ref 25), (1, .ref 1), (2, .int (nI k)), (3, .int (mxQ (fun i => crB n (nI i)) (fun i => crW n k (nI i)) (-9) (abM (pNs k n)) (0)).1), (4, .int (mxQ (fun i => crB n (nI i)) (fun i => crW n k (nI i)) (-9) (abM (pNs k n)) (0)).2), (5, .int (nI (0)))]) (st2 := []) (w2 := _) rfl rfl rfl ?_
  refine tg_down (φ := fun i : Nat => ∀ (t2 : tp_H), tg_V G 7 mX4_bestMended 0 0 0 0 (fun v w => v = some (.int ((mxQ (fun i => crB n (nI i)) (fun i => crW n k (nI i)) (-9) (abM (pNs k n)) 24).1)) ∧ ∃ t2, w = (tp_cs n p t2 x, r)) 14 [(0, .ref 25), (1, .ref 1), (2, .int (nI k)), (3, .int (mxQ (fun i => crB n (nI i)) (fun i => crW n k (nI i)) (-9) (abM (pNs k n)) (i)).1), (4, .int (mxQ (fun i => crB n (nI i)) (fun i => crW n k (nI i)) (-9) (abM (pNs k n)) (i)).2), (5, .int (nI (i)))] [] (tp_cs n p t2 x, r)) (n := 24) ?_ ?_ 0 (Nat.zero_le _) _ 
  · intro t2
    refine tg_steps 2 rfl ?_
    refine tg_icge rfl rfl (fun h18 => ?_) (fun h18 => ?_)
    · refine tg_steps 1 rfl ?_
      exact tg_iret (st := []) rfl rfl ⟨Nat.le_of_ble_eq_true rfl, Nat.le_of_ble_eq_true rfl⟩ ⟨rfl, _, rfl⟩
    · exact absurd (by decide) h18
  · intro i hi14 ih14 t2
    refine tg_steps 2 rfl ?_
    refine tg_icge rfl rfl (fun h18 => ?_) (fun h18 => ?_)
    · exact absurd h18 (nI_ge (b := 24) hi14 (by decide))
    · refine tg_steps 2 rfl ?_
      refine tg_callV rfl (c_isCracked_0 _) rfl rfl rfl rfl rfl (fun v24 w24 q24 => ?_)
      obtain ⟨rfl, rfl⟩ := q24
      refine tg_ifbeq rfl rfl (fun h27 => ?_) (fun h27 => ?_)
      · refine tg_steps 2 rfl ?_
        refine tg_pkV [0, 1, 2, 3, 4, 5] ?_
        refine tg_eqS (L2 := [(0, .ref 25), (1, .ref 1), (2, .int (nI k)), (3, .int (mxQ (fun i => crB n (nI i)) (fun i => crW n k (nI i)) (-9) (abM (pNs k n)) (i + 1)).1), (4, .int (mxQ (fun i => crB n (nI i)) (fun i => crW n k (nI i)) (-9) (abM (pNs k n)) (i + 1)).2), (5, .int (nI (i + 1)))]) (st2 := []) (w2 := _) (by first | rfl | (simp (decide := true) only [nI_succ, mxQ_succ, decide_true, decide_false, cond_true, cond_false, Bool.false_eq_true, if_true, if_false, ite_true, ite_false, h27]; done) | (simp (decide := true) only [nI_succ, mxQ_succ, decide_true, decide_false, cond_true, cond_false, Bool.false_eq_true, if_true, if_false, ite_true, ite_false, h27]; rfl)) rfl rfl ?_
        exact ih14 _
      · refine tg_steps 4 rfl ?_
        refine tg_callV rfl (c_aboardWithTurnedCrack hm _ k hk) rfl rfl rfl rfl rfl (fun v35 w35 q35 => ?_)
        obtain ⟨rfl, t3, rfl⟩ := q35
        refine tg_steps 3 rfl ?_
        refine tg_icle rfl rfl (fun h44 => ?_) (fun h44 => ?_)
        · refine tg_steps 2 rfl ?_
          refine tg_pkV [0, 1, 2, 3, 4, 5] ?_
          refine tg_eqS (L2 := [(0, .ref 25), (1, .ref 1), (2, .int (nI k)), (3, .int (mxQ (fun i => crB n (nI i)) (fun i => crW n k (nI i)) (-9) (abM (pNs k n)) (i + 1)).1), (4, .int (mxQ (fun i => crB n (nI i)) (fun i => crW n k (nI i)) (-9) (abM (pNs k n)) (i + 1)).2), (5, .int (nI (i + 1)))]) (st2 := []) (w2 := _) (by first | rfl | (simp (decide := true) only [nI_succ, mxQ_succ, decide_true, decide_false, cond_true, cond_false, Bool.false_eq_true, if_true, if_false, ite_true, ite_false, h27, h44, Int32.not_lt.mpr h44]; done) | (simp (decide := true) only [nI_succ, mxQ_succ, decide_true, decide_false, cond_true, cond_false, Bool.false_eq_true, if_true, if_false, ite_true, ite_false, h27, h44, Int32.not_lt.mpr h44]; rfl)) rfl rfl ?_
          exact ih14 _
        · refine tg_steps 6 rfl ?_
          refine tg_pkV [0, 1, 2, 3, 4, 5] ?_
          refine tg_eqS (L2 := [(0, .ref 25), (1, .ref 1), (2, .int (nI k)), (3, .int (mxQ (fun i => crB n (nI i)) (fun i => crW n k (nI i)) (-9) (abM (pNs k n)) (i + 1)).1), (4, .int (mxQ (fun i => crB n (nI i)) (fun i => crW n k (nI i)) (-9) (abM (pNs k n)) (i + 1)).2), (5, .int (nI (i + 1)))]) (st2 := []) (w2 := _) (by first | rfl | (simp (decide := true) only [nI_succ, mxQ_succ, decide_true, decide_false, cond_true, cond_false, Bool.false_eq_true, if_true, if_false, ite_true, ite_false, h27, h44, Int32.not_le.mp h44]; done) | (simp (decide := true) only [nI_succ, mxQ_succ, decide_true, decide_false, cond_true, cond_false, Bool.false_eq_true, if_true, if_false, ite_true, ite_false, h27, h44, Int32.not_le.mp h44]; rfl)) rfl rfl ?_
          exact ih14 _
set_option maxRecDepth 100000 in
set_option maxHeartbeats 2000000 in
theorem c_bestSpoilt {G : tg_G} {n p t : tp_H} {x : tp_X} {r : List tg_Cl} (hm : hM n ≤ 7) (k : Nat) (hk : k < 2 ^ 31) : tg_C G 7 mX4_bestSpoilt 0 0 [.ref 25, .ref 1, .int (nI k)] (tp_cs n p t x, r) (fun v w => v = some (.int ((mnQ (fun i => !crB n (nI i)) (fun i => crW n k (nI i)) (-9) (abM (pNs k n)) 24).1)) ∧ ∃ t2, w = (tp_cs n p t2 x, r)) := by
  refine tg_intro okX4_bestSpoilt (Nat.le_of_ble_eq_true rfl) ?_
  refine tg_steps 5 rfl ?_
  refine tg_callV rfl (c_aboardBehind hm k hk) rfl rfl rfl rfl rfl (fun v6 w6 q6 => ?_)
  obtain ⟨rfl, t3, rfl⟩ := q6
  refine tg_steps 3 rfl ?_
  refine tg_pkV [0, 1, 2, 3, 4, 5] ?_
  refine tg_eqS (L2 := [(0, .ref 25), (1, .ref 1), (2, .int (nI k)), (3, .int (mnQ (fun i => !crB n (nI i)) (fun i => crW n k (nI i)) (-9) (abM (pNs k n)) (0)).1), (4, .int (mnQ (fun i => !crB n (nI i)) (fun i => crW n k (nI i)) (-9) (abM (pNs k n)) (0)).2), (5, .int (nI (0)))]) (st2 := []) (w2 := _) rfl rfl rfl ?_
  refine tg_down (φ := fun i : Nat => ∀ (t2 : tp_H), tg_V G 7 mX4_bestSpoilt 0 0 0 0 (fun v w => v = some (.int ((mnQ (fun i => !crB n (nI i)) (fun i => crW n k (nI i)) (-9) (abM (pNs k n)) 24).1)) ∧ ∃ t2, w = (tp_cs n p t2 x, r)) 14 [(0, .ref 25), (1, .ref 1), (2, .int (nI k)), (3, .int (mnQ (fun i => !crB n (nI i)) (fun i => crW n k (nI i)) (-9) (abM (pNs k n)) (i)).1), (4, .int (mnQ (fun i => !crB n (nI i)) (fun i => crW n k (nI i)) (-9) (abM (pNs k n)) (i)).2), (5, .int (nI (i)))] [] (tp_cs n p t2 x, r)) (n := 24) ?_ ?_ 0 (Nat.zero_le _) _ 
  · intro t2
    refine tg_steps 2 rfl ?_
    refine tg_icge rfl rfl (fun h18 => ?_) (fun h18 => ?_)
    · refine tg_steps 1 rfl ?_
      exact tg_iret (st := []) rfl rfl ⟨Nat.le_of_ble_eq_true rfl, Nat.le_of_ble_eq_true rfl⟩ ⟨rfl, _, rfl⟩
    · exact absurd (by decide) h18
  · intro i hi14 ih14 t2
    refine tg_steps 2 rfl ?_
    refine tg_icge rfl rfl (fun h18 => ?_) (fun h18 => ?_)
    · exact absurd h18 (nI_ge (b := 24) hi14 (by decide))
    · refine tg_steps 2 rfl ?_
      refine tg_callV rfl (c_isCracked_0 _) rfl rfl rfl rfl rfl (fun v24 w24 q24 => ?_)
      obtain ⟨rfl, rfl⟩ := q24
      refine tg_ifbne rfl rfl (fun h27 => ?_) (fun h27 => ?_)
      · refine tg_steps 2 rfl ?_
        refine tg_pkV [0, 1, 2, 3, 4, 5] ?_
        refine tg_eqS (L2 := [(0, .ref 25), (1, .ref 1), (2, .int (nI k)), (3, .int (mnQ (fun i => !crB n (nI i)) (fun i => crW n k (nI i)) (-9) (abM (pNs k n)) (i + 1)).1), (4, .int (mnQ (fun i => !crB n (nI i)) (fun i => crW n k (nI i)) (-9) (abM (pNs k n)) (i + 1)).2), (5, .int (nI (i + 1)))]) (st2 := []) (w2 := _) (by first | rfl | (simp (decide := true) only [nI_succ, mnQ_succ, Bool.not_true, Bool.not_false, decide_true, decide_false, cond_true, cond_false, Bool.false_eq_true, if_true, if_false, ite_true, ite_false, h27]; done) | (simp (decide := true) only [nI_succ, mnQ_succ, Bool.not_true, Bool.not_false, decide_true, decide_false, cond_true, cond_false, Bool.false_eq_true, if_true, if_false, ite_true, ite_false, h27]; rfl)) rfl rfl ?_
        exact ih14 _
      · refine tg_steps 4 rfl ?_
        refine tg_callV rfl (c_aboardWithTurnedCrack hm _ k hk) rfl rfl rfl rfl rfl (fun v35 w35 q35 => ?_)
        obtain ⟨rfl, t3, rfl⟩ := q35
        refine tg_steps 3 rfl ?_
        refine tg_icge rfl rfl (fun h44 => ?_) (fun h44 => ?_)
        · refine tg_steps 2 rfl ?_
          refine tg_pkV [0, 1, 2, 3, 4, 5] ?_
          refine tg_eqS (L2 := [(0, .ref 25), (1, .ref 1), (2, .int (nI k)), (3, .int (mnQ (fun i => !crB n (nI i)) (fun i => crW n k (nI i)) (-9) (abM (pNs k n)) (i + 1)).1), (4, .int (mnQ (fun i => !crB n (nI i)) (fun i => crW n k (nI i)) (-9) (abM (pNs k n)) (i + 1)).2), (5, .int (nI (i + 1)))]) (st2 := []) (w2 := _) (by first | rfl | (simp (decide := true) only [nI_succ, mnQ_succ, Bool.not_true, Bool.not_false, decide_true, decide_false, cond_true, cond_false, Bool.false_eq_true, if_true, if_false, ite_true, ite_false, h27, h44, Int32.not_lt.mpr h44]; done) | (simp (decide := true) only [nI_succ, mnQ_succ, Bool.not_true, Bool.not_false, decide_true, decide_false, cond_true, cond_false, Bool.false_eq_true, if_true, if_false, ite_true, ite_false, h27, h44, Int32.not_lt.mpr h44]; rfl)) rfl rfl ?_
          exact ih14 _
        · refine tg_steps 6 rfl ?_
          refine tg_pkV [0, 1, 2, 3, 4, 5] ?_
          refine tg_eqS (L2 := [(0, .ref 25), (1, .ref 1), (2, .int (nI k)), (3, .int (mnQ (fun i => !crB n (nI i)) (fun i => crW n k (nI i)) (-9) (abM (pNs k n)) (i + 1)).1), (4, .int (mnQ (fun i => !crB n (nI i)) (fun i => crW n k (nI i)) (-9) (abM (pNs k n)) (i + 1)).2), (5, .int (nI (i + 1)))]) (st2 := []) (w2 := _) (by first | rfl | (simp (decide := true) only [nI_succ, mnQ_succ, Bool.not_true, Bool.not_false, decide_true, decide_false, cond_true, cond_false, Bool.false_eq_true, if_true, if_false, ite_true, ite_false, h27, h44, Int32.not_le.mp h44]; done) | (simp (decide := true) only [nI_succ, mnQ_succ, Bool.not_true, Bool.not_false, decide_true, decide_false, cond_true, cond_false, Bool.false_eq_true, if_true, if_false, ite_true, ite_false, h27, h44, Int32.not_le.mp h44]; rfl)) rfl rfl ?_
          exact ih14 _
set_option maxRecDepth 100000 in
set_option maxHeartbeats 2000000 in
theorem c_bestPinned {G : tg_G} {n p t : tp_H} {x : tp_X} {r : List tg_Cl} (hm : hM n ≤ 7) (k : Nat) (hk : k < 2 ^ 31) : tg_C G 7 mX4_bestPinned 0 0 [.ref 25, .ref 1, .int (nI k)] (tp_cs n p t x, r) (fun v w => v = some (.int ((mnQ (fun _ => true) (fun i => piW n k (nI i)) (-9) (abM (pNs k n)) (hM n)).1)) ∧ ∃ t2, w = (tp_cs n p t2 x, r)) := by
  refine tg_intro okX4_bestPinned (Nat.le_of_ble_eq_true rfl) ?_
  refine tg_steps 5 rfl ?_
  refine tg_callV rfl (c_aboardBehind hm k hk) rfl rfl rfl rfl rfl (fun v6 w6 q6 => ?_)
  obtain ⟨rfl, t3, rfl⟩ := q6
  refine tg_steps 3 rfl ?_
  refine tg_pkV [0, 1, 2, 3, 4, 5] ?_
  refine tg_eqS (L2 := [(0, .ref 25), (1, .ref 1), (2, .int (nI k)), (3, .int (mnQ (fun _ => true) (fun i => piW n k (nI i)) (-9) (abM (pNs k n)) (0)).1), (4, .int (mnQ (fun _ => true) (fun i => piW n k (nI i)) (-9) (abM (pNs k n)) (0)).2), (5, .int (nI (0)))]) (st2 := []) (w2 := _) rfl rfl rfl ?_
  refine tg_down (φ := fun i : Nat => ∀ (t2 : tp_H), tg_V G 7 mX4_bestPinned 0 0 0 0 (fun v w => v = some (.int ((mnQ (fun _ => true) (fun i => piW n k (nI i)) (-9) (abM (pNs k n)) (hM n)).1)) ∧ ∃ t2, w = (tp_cs n p t2 x, r)) 14 [(0, .ref 25), (1, .ref 1), (2, .int (nI k)), (3, .int (mnQ (fun _ => true) (fun i => piW n k (nI i)) (-9) (abM (pNs k n)) (i)).1), (4, .int (mnQ (fun _ => true) (fun i => piW n k (nI i)) (-9) (abM (pNs k n)) (i)).2), (5, .int (nI (i)))] [] (tp_cs n p t2 x, r)) (n := (hM n)) ?_ ?_ 0 (Nat.zero_le _) _ 
  · intro t2
    refine tg_steps 3 rfl ?_
    refine tg_icge rfl rfl (fun h20 => ?_) (fun h20 => ?_)
    · refine tg_steps 1 rfl ?_
      exact tg_iret (st := []) rfl rfl ⟨Nat.le_of_ble_eq_true rfl, Nat.le_of_ble_eq_true rfl⟩ ⟨rfl, _, rfl⟩
    · exact absurd (nI_le (Nat.le_refl _) (by omega)) h20
  · intro i hi14 ih14 t2
    refine tg_steps 3 rfl ?_
    refine tg_icge rfl rfl (fun h20 => ?_) (fun h20 => ?_)
    · exact absurd h20 (nI_ge hi14 (by omega))
    · refine tg_steps 4 rfl ?_
      refine tg_callV rfl (c_aboardWithPinned hm _ k hk) rfl rfl rfl rfl rfl (fun v28 w28 q28 => ?_)
      obtain ⟨rfl, t3, rfl⟩ := q28
      refine tg_steps 3 rfl ?_
      refine tg_icge rfl rfl (fun h37 => ?_) (fun h37 => ?_)
      · refine tg_steps 2 rfl ?_
        refine tg_pkV [0, 1, 2, 3, 4, 5] ?_
        refine tg_eqS (L2 := [(0, .ref 25), (1, .ref 1), (2, .int (nI k)), (3, .int (mnQ (fun _ => true) (fun i => piW n k (nI i)) (-9) (abM (pNs k n)) (i + 1)).1), (4, .int (mnQ (fun _ => true) (fun i => piW n k (nI i)) (-9) (abM (pNs k n)) (i + 1)).2), (5, .int (nI (i + 1)))]) (st2 := []) (w2 := _) (by first | rfl | (simp (decide := true) only [nI_succ, mnQ_succ, decide_true, decide_false, cond_true, cond_false, Bool.false_eq_true, if_true, if_false, ite_true, ite_false, h37, Int32.not_lt.mpr h37]; done) | (simp (decide := true) only [nI_succ, mnQ_succ, decide_true, decide_false, cond_true, cond_false, Bool.false_eq_true, if_true, if_false, ite_true, ite_false, h37, Int32.not_lt.mpr h37]; rfl)) rfl rfl ?_
        exact ih14 _
      · refine tg_steps 6 rfl ?_
        refine tg_pkV [0, 1, 2, 3, 4, 5] ?_
        refine tg_eqS (L2 := [(0, .ref 25), (1, .ref 1), (2, .int (nI k)), (3, .int (mnQ (fun _ => true) (fun i => piW n k (nI i)) (-9) (abM (pNs k n)) (i + 1)).1), (4, .int (mnQ (fun _ => true) (fun i => piW n k (nI i)) (-9) (abM (pNs k n)) (i + 1)).2), (5, .int (nI (i + 1)))]) (st2 := []) (w2 := _) (by first | rfl | (simp (decide := true) only [nI_succ, mnQ_succ, decide_true, decide_false, cond_true, cond_false, Bool.false_eq_true, if_true, if_false, ite_true, ite_false, h37, Int32.not_le.mp h37]; done) | (simp (decide := true) only [nI_succ, mnQ_succ, decide_true, decide_false, cond_true, cond_false, Bool.false_eq_true, if_true, if_false, ite_true, ite_false, h37, Int32.not_le.mp h37]; rfl)) rfl rfl ?_
        exact ih14 _
