/-! where class and reference go different ways to one answer: sets of bits -/
theorem gl_eq {x y : Int32} (e : ∀ k, k < 32 → x.toBitVec.getLsbD k = y.toBitVec.getLsbD k) : x = y := by
  apply Int32.toBitVec_inj.mp
  apply BitVec.eq_of_getLsbD_eq
  intro i hi
  exact e i hi
theorem gl_sh : ∀ (t : Fin 24) (k : Fin 32), ((1 : Int32) <<< (nI t.1 &&& 31)).toBitVec.getLsbD k.1 = decide (t.1 = k.1) ∧ (((1 : Int32) <<< (nI t.1 &&& 31)) ^^^ (-1)).toBitVec.getLsbD k.1 = !decide (t.1 = k.1) := by decide +kernel
theorem gl_ev : ∀ k : Fin 32, (16777215 : Int32).toBitVec.getLsbD k.1 = decide (k.1 < 24) := by decide +kernel
theorem gl_0 : ∀ k : Fin 32, (0 : Int32).toBitVec.getLsbD k.1 = false := by decide +kernel
theorem gl_bI (p : Nat → Bool) {k : Nat} (hk : k < 32) : ∀ n, n ≤ 24 → (bI p n).toBitVec.getLsbD k = (decide (k < n) && p k) := by
  intro n
  induction n with
  | zero => intro _; show (0 : Int32).toBitVec.getLsbD k = _; rw [gl_0 ⟨k, hk⟩]; simp
  | succ n ih =>
    intro hn
    have h0 := ih (by omega)
    rw [bI_succ]
    cases hp : p n with
    | false =>
      rw [cond_false, h0]
      by_cases e : k = n
      · rw [e, hp]; simp
      · rw [show decide (k < n) = decide (k < n + 1) from decide_eq_decide.mpr (by omega)]
    | true =>
      rw [cond_true, Int32.toBitVec_or, BitVec.getLsbD_or, h0, (gl_sh ⟨n, by omega⟩ ⟨k, hk⟩).1]
      show (decide (k < n) && p k || decide (n = k)) = (decide (k < n + 1) && p k)
      by_cases e : n = k
      · rw [← e, hp]; simp
      · rw [decide_eq_false e, Bool.or_false, show decide (k < n) = decide (k < n + 1) from decide_eq_decide.mpr (by omega)]
section
variable {h : tp_H}
theorem gl_em (hw : wfH h) {k : Nat} (hk : k < 32) : ∀ m, m ≤ hM h → (emT h m).toBitVec.getLsbD k = (decide (k < 24) && !decide (∃ i, i < m ∧ hT h i = nI k)) := by
  intro m
  induction m with
  | zero =>
    intro _
    show (16777215 : Int32).toBitVec.getLsbD k = _
    rw [gl_ev ⟨k, hk⟩]
    simp
  | succ m ih =>
    intro hm
    obtain ⟨v, hv, ev, -⟩ := isT_j (hw.2.2 m (by omega)).1
    rw [emT_succ, ev, Int32.toBitVec_and, BitVec.getLsbD_and, ih (by omega), (gl_sh ⟨v, hv⟩ ⟨k, hk⟩).2]
    show (decide (k < 24) && !decide (∃ i, i < m ∧ hT h i = nI k) && !decide (v = k)) = _
    rw [Bool.and_assoc]
    congr 1
    rw [← Bool.not_or]
    congr 1
    rw [Bool.eq_iff_iff, Bool.or_eq_true, decide_eq_true_eq, decide_eq_true_eq, decide_eq_true_eq]
    refine ⟨fun q => ?_, fun ⟨i, h1, h2⟩ => ?_⟩
    · rcases q with ⟨i, h1, h2⟩ | q
      · exact ⟨i, by omega, h2⟩
      · exact ⟨m, by omega, by rw [ev, q]⟩
    · rcases Nat.lt_or_ge i m with z | z
      · exact Or.inl ⟨i, z, h2⟩
      · rw [show i = m by omega, ev] at h2
        exact Or.inr ((nI_eq (by omega) (by omega)).mp h2)
theorem mAt_0 (hm : hM h ≤ 7) (t : Int32) : decide (mAt h t = 0) = !decide (∃ i, i < hM h ∧ hT h i = t) := by
  obtain ⟨c, h1, h2, h3⟩ := cI_n (fun i => decide (hT h i = t)) (hM h)
  have e : mAt h t = 0 ↔ ¬ ∃ i, i < hM h ∧ hT h i = t := by
    show cI (fun i => decide (hT h i = t)) (hM h) = 0 ↔ _
    rw [h2]
    refine ⟨fun q ⟨i, hi, ei⟩ => ?_, fun q => ?_⟩
    · have hc : c = 0 := (nI_eq (b := 0) (by omega) (by decide)).mp q
      exact of_decide_eq_false (h3.mp hc i hi) ei
    · rw [h3.mpr (fun i hi => decide_eq_false (fun z => q ⟨i, hi, z⟩))]
      rfl
  by_cases q : ∃ i, i < hM h ∧ hT h i = t
  · rw [decide_eq_true q, decide_eq_false (fun z => e.mp z q)]; rfl
  · rw [decide_eq_false q, decide_eq_true (e.mpr q)]; rfl
theorem k_empty (hw : wfH h) : emT h (hM h) = bI (fun t => decide (mAt h (nI t) = 0)) 24 := by
  refine gl_eq (fun k hk => ?_)
  rw [gl_em hw hk _ (Nat.le_refl _), gl_bI _ hk 24 (Nat.le_refl 24), mAt_0 hw.1]
theorem k_crowd (hw : wfH h) (what : Int32) : aCro h what = (if what = 0 then fuT h 24 else if what = 1 then mAt h (fuT h 24) else if what = 2 then hoM h else if what = 3 then loM h else if what = 4 then piM h else if what = 5 then bsO h (hM h) else bI (fun t => decide (mAt h (nI t) = 0)) 24) := by
  unfold aCro
  rw [k_empty hw, show bcJ (oAt h (fuT h 24)) = mAt h (fuT h 24) from (bt_c _ hw.1).2]
/-! the ends of two -/
theorem bI_pad (p : Nat → Bool) {m n : Nat} (hmn : m ≤ n) : bI p m = bI (fun i => decide (i < m) && p i) n ∧ cI p m = cI (fun i => decide (i < m) && p i) n := by
  induction n with
  | zero => rw [show m = 0 by omega]; exact ⟨rfl, rfl⟩
  | succ n ih =>
    rw [bI_succ, cI_succ]
    rcases Nat.lt_or_ge n m with q | q
    · have : m = n + 1 := by omega
      subst this
      rw [bI_succ, cI_succ, bI_eq (q := fun i => decide (i < n + 1) && p i) (n := n) (fun i hi => by rw [decide_eq_true (by omega)]; rfl), cI_eq (q := fun i => decide (i < n + 1) && p i) (n := n) (fun i hi => by rw [decide_eq_true (by omega)]; rfl)]
      rw [show (decide (n < n + 1) && p n) = p n by rw [decide_eq_true (by omega)]; rfl]
      exact ⟨rfl, rfl⟩
    · rw [show (decide (n < m) && p n) = false by rw [decide_eq_false (by omega)]; rfl]
      exact ih q
theorem en_dec : ∀ (j : Fin 7) (a b c d e f g : Bool), (if hsB (bI (b7 a b c d e f g) 7) (nI j.1) = true then (5 : Int32) else 0) + (2 : Int32) * btI (bI (b7 a b c d e f g) 7 &&& ((1 <<< (nI j.1 &&& 31)) ^^^ (-1))) = bif b7 a b c d e f g j.1 then 5 + 2 * (cI (b7 a b c d e f g) 7 - 1) else 2 * cI (b7 a b c d e f g) 7 := by decide +kernel
theorem en_wo {j : Nat} (hm : hM h ≤ 7) (hj : j < hM h) : enM h j = woH h (nI j) := by
  have hd := fun p => bI_pad p hm
  unfold enM woH oAt abM mAt
  rw [abB_j hm hj, (hd _).1, (hd _).2]
  have e7 : ∀ i, i < 7 → (decide (i < hM h) && decide (hT h i = hS h)) = b7 (decide (0 < hM h) && decide (hT h 0 = hS h)) (decide (1 < hM h) && decide (hT h 1 = hS h)) (decide (2 < hM h) && decide (hT h 2 = hS h)) (decide (3 < hM h) && decide (hT h 3 = hS h)) (decide (4 < hM h) && decide (hT h 4 = hS h)) (decide (5 < hM h) && decide (hT h 5 = hS h)) (decide (6 < hM h) && decide (hT h 6 = hS h)) i := fun i hi => b7_eq (fun i => decide (i < hM h) && decide (hT h i = hS h)) hi
  rw [bI_eq e7, cI_eq e7]
  have := en_dec ⟨j, by omega⟩ (decide (0 < hM h) && decide (hT h 0 = hS h)) (decide (1 < hM h) && decide (hT h 1 = hS h)) (decide (2 < hM h) && decide (hT h 2 = hS h)) (decide (3 < hM h) && decide (hT h 3 = hS h)) (decide (4 < hM h) && decide (hT h 4 = hS h)) (decide (5 < hM h) && decide (hT h 5 = hS h)) (decide (6 < hM h) && decide (hT h 6 = hS h))
  rw [this, ← e7 j (by omega), decide_eq_true hj, Bool.true_and]
theorem h4_2 : ∀ i : Nat, i < 4 → (nI i / 2 = 0 ↔ nI i &&& 2 = 0) ∧ (nI i % 2 = 0 ↔ nI i &&& 1 = 0) ∧ twV i = fsV i := by
  intro i hi
  have hd : ∀ k : Fin 4, (nI k.1 / 2 = 0 ↔ nI k.1 &&& 2 = 0) ∧ (nI k.1 % 2 = 0 ↔ nI k.1 &&& 1 = 0) ∧ twV k.1 = fsV k.1 := by decide +kernel
  exact hd ⟨i, hi⟩
theorem sPu_id (h : tp_H) (j : Nat) : sP h (tg_u (hP h) j (hP h j)) = h := by
  rw [tg_u_id]
  rfl
theorem pr_eq {a b k i : Nat} (hm : hM h ≤ 7) (ha : a < hM h) (hb : b < hM h) (hi : i < 4) : prM h a b k i = prS h (nI a) (nI b) k i := by
  obtain ⟨e1, e2, -⟩ := h4_2 i hi
  unfold prM
  have f1 : sP h (tg_u (hP h) a (if nI i / 2 = 0 then nI k else hP h a)) = if nI i &&& 2 = 0 then pinH h (nI a) (nI k) else h := by
    by_cases q : nI i / 2 = 0
    · rw [if_pos q, if_pos (e1.mp q), pinH_j hm ha]
    · rw [if_neg q, if_neg (fun z => q (e1.mpr z)), sPu_id]
  rw [f1]
  unfold prS
  dsimp only
  have hM1 : hM (if nI i &&& 2 = 0 then pinH h (nI a) (nI k) else h) = hM h := by split <;> rfl
  generalize (if nI i &&& 2 = 0 then pinH h (nI a) (nI k) else h) = g at hM1
  by_cases q : nI i % 2 = 0
  · rw [if_pos q, if_pos (e2.mp q), pinH_j (by rw [hM1]; exact hm) (by rw [hM1]; exact hb)]
  · rw [if_neg q, if_neg (fun z => q (e2.mpr z)), sPu_id]
theorem fe_in (f : tp_A) (a b k : Nat) : ∀ {e i : Nat}, i < e → feM h f a b k e (2 * i) = enM (pNs k (prM h a b k i)) a ∧ feM h f a b k e (2 * i + 1) = enM (pNs k (prM h a b k i)) b := by
  intro e
  induction e with
  | zero => intro i hi; omega
  | succ e ih =>
    intro i hi
    rw [feM_succ, tg_u_eq, tg_u_eq, tg_u_eq, tg_u_eq]
    by_cases q : i = e
    · subst q
      rw [if_neg (by omega), if_pos rfl, if_pos rfl]
      exact ⟨rfl, rfl⟩
    · rw [if_neg (by omega), if_neg (by omega), if_neg (by omega), if_neg (by omega)]
      exact ih (by omega)
theorem x4 : ∀ i : Nat, i < 4 → i ^^^ 2 < 4 ∧ i ^^^ 1 < 4 := by
  intro i hi
  have hd : ∀ k : Fin 4, k.1 ^^^ 2 < 4 ∧ k.1 ^^^ 1 < 4 := by decide +kernel
  exact hd ⟨i, hi⟩
theorem k_two (hw : wfH h) (y : tp_Y) {a b : Int32} (ha : hasB h a = true) (hb : hasB h b = true) (k : Int32) : aTwo h a b k = fiV (twM h (yEn y) (nN a) (nN b) (nN k)) twV (-9) 4 0 := by
  obtain ⟨i, hi, rfl, ci⟩ := has_j hw.1 ha
  obtain ⟨j, hj, rfl, cj⟩ := has_j hw.1 hb
  have cn : nN (nI i) = i := ci
  have cm : nN (nI j) = j := cj
  rw [cn, cm]
  unfold aTwo
  have ew : ∀ e, e < 4 → twE h (yEn y) i j (nN k) (2 * e) = wAB h (nI i) (nI j) (nI i) (nN k) e ∧ twE h (yEn y) i j (nN k) (2 * e + 1) = wAB h (nI i) (nI j) (nI j) (nN k) e := by
    intro e he
    unfold twE wAB
    obtain ⟨f1, f2⟩ := fe_in (h := h) (yEn y) i j (nN k) (e := 4) he
    rw [f1, f2, pr_eq hw.1 hi hj he, en_wo (by rw [pNs_M, prS_M]; exact hw.1) (by rw [pNs_M, prS_M]; exact hi), en_wo (by rw [pNs_M, prS_M]; exact hw.1) (by rw [pNs_M, prS_M]; exact hj)]
    exact ⟨rfl, rfl⟩
  refine fiV_eq rfl (fun e _ he => ⟨?_, (h4_2 e (by omega)).2.2.symm⟩)
  obtain ⟨x2, x1⟩ := x4 e (by omega)
  unfold fsP twM
  rw [(ew e (by omega)).1, (ew e (by omega)).2, (ew _ x2).1, (ew _ x1).2]
/-! whoever is aboard stays there -/
theorem ab_1 {i j : Nat} (e : hT h i = hS h) : hT (nOne h j) i = hS (nOne h j) := by
  unfold nOne
  split
  · exact e
  · rename_i q
    split
    · split
      · exact e
      · cases mGo h (hT h j) (nGo h j)
        · exact e
        · show tg_u (hT h) j _ i = hS h
          rw [tg_u_eq, if_neg (fun z => q (by rw [← z]; exact e))]
          exact e
    · exact e
theorem ab_to {i : Nat} (e : hT h i = hS h) : ∀ j, hT (nTo h j) i = hS (nTo h j) := by
  intro j
  induction j with
  | zero => exact e
  | succ j ih => rw [nTo_succ]; exact ab_1 ih
theorem ab_N {i : Nat} (e : hT h i = hS h) : hT (pNt h) i = hS (pNt h) := ab_to (h := sN h (hN h + 1)) e _
theorem ab_k {i k : Nat} (e : hT (pNs k h) i = hS h) : ∀ d, hT (pNs (k + d) h) i = hS h := by
  intro d
  induction d with
  | zero => exact e
  | succ d ih =>
    rw [show k + (d + 1) = (k + d) + 1 by omega, pNs_succ]
    have := ab_N (h := pNs (k + d) h) (i := i) (by rw [pNs_S]; exact ih)
    rw [this, ← pNs_succ, pNs_S]
theorem abM_0 (hm : hM h ≤ 7) : abM h = 0 ↔ ∀ i, i < hM h → ¬ hT h i = hS h := by
  have := mAt_0 hm (hS h)
  unfold abM
  by_cases q : mAt h (hS h) = 0
  · rw [decide_eq_true q] at this
    refine ⟨fun _ i hi z => ?_, fun _ => q⟩
    rw [decide_eq_true (show ∃ i, i < hM h ∧ hT h i = hS h from ⟨i, hi, z⟩)] at this
    cases this
  · rw [decide_eq_false q] at this
    refine ⟨fun z => absurd z q, fun z => ?_⟩
    rw [decide_eq_false (fun ⟨i, hi, w⟩ => z i hi w)] at this
    cases this
theorem oab_0 (hm : hM h ≤ 7) : oAt h (hS h) = 0 ↔ abM h = 0 := by
  have h1 := bt_m hm (hS h)
  refine ⟨fun q => ?_, fun q => ?_⟩
  · rw [q] at h1
    show mAt h (hS h) = 0
    rw [← h1]
    decide
  · obtain ⟨c, c1, c2, c3⟩ := cI_n (fun i => decide (hT h i = hS h)) (hM h)
    have hc : c = 0 := (nI_eq (b := 0) (by omega) (by decide)).mp (c2.symm.trans q)
    show bI (fun i => decide (hT h i = hS h)) (hM h) = 0
    rw [bI_eq (q := fun _ => false) (c3.mp hc)]
    have : ∀ m, bI (fun _ => false) m = 0 := by
      intro m
      induction m with
      | zero => rfl
      | succ m ih => rw [bI_succ, cond_false, ih]
    exact this _
theorem ie_all (hm : hM h ≤ 7) (k : Nat) : ieS h k = decide (abM (pNs k h) = 0) := by
  have hP : ∀ k, ieP h k = decide (abM (pNs k h) = 0) := fun k => decide_eq_decide.mpr (oab_0 (by rw [pNs_M]; exact hm))
  induction k with
  | zero => exact hP 0
  | succ k ih =>
    rw [ieS_succ, ih, hP]
    by_cases q : abM (pNs (k + 1) h) = 0
    · rw [decide_eq_true q, decide_eq_true ?_]
      · rfl
      · rw [abM_0 (by rw [pNs_M]; exact hm)] at q ⊢
        intro i hi z
        rw [pNs_M] at hi
        rw [pNs_S] at z
        refine q i (by rw [pNs_M]; exact hi) ?_
        rw [pNs_S]
        exact ab_k z 1
    · rw [decide_eq_false q]
      cases decide (abM (pNs k h) = 0) <;> rfl
theorem bc_dec : ∀ e : Fin 128, bcJ (nI e.1) = btI (nI e.1) ∧ ¬ btI (nI e.1) < 0 := by decide +kernel
theorem bc_top : ∀ (m : Fin 8) (e : Fin 128), e.1 < 2 ^ m.1 → ¬ nI m.1 + 1 ≤ btI (nI e.1) := by decide +kernel
theorem few_st (hw : wfH h) (k : Nat) : ∀ e, e ≤ 2 ^ hM h → feS h k e = (fwS h k e).1 ∧ ((fwS h k e).1 = -9 ∧ (fwS h k e).2 = nI (hM h) + 1 ∨ ∃ b, b < 2 ^ hM h ∧ (fwS h k e).1 = nI b ∧ (fwS h k e).2 = btI (nI b)) := by
  have h7 := (shl7 _ hw.1).2
  intro e
  induction e with
  | zero => intro _; exact ⟨rfl, Or.inl ⟨rfl, rfl⟩⟩
  | succ e ih =>
    intro he
    obtain ⟨i1, i2⟩ := ih (by omega)
    have hie : ieS (nbS (nI e) h (hM h)) k = nbB h (nI e) k := by
      rw [ie_all (by rw [nbS_M]; exact hw.1)]
      rfl
    obtain ⟨d1, d2⟩ := bc_dec ⟨e, by omega⟩
    have d1 : bcJ (nI e) = btI (nI e) := d1
    rw [feS_succ, fwS_succ, i1, hie, d1]
    rcases i2 with ⟨j1, j2⟩ | ⟨b, b1, j1, j2⟩
    · rw [j1, j2, if_pos (by decide), if_neg (bc_top ⟨hM h, by have := hw.1; omega⟩ ⟨e, by omega⟩ (by show e < 2 ^ hM h; omega))]
      cases nbB h (nI e) k
      · exact ⟨j1.symm, Or.inl ⟨j1, j2⟩⟩
      · exact ⟨rfl, Or.inr ⟨e, by omega, rfl, rfl⟩⟩
    · rw [j1, j2, if_neg (nI_pos (by omega))]
      by_cases q : btI (nI e) < btI (nI b)
      · rw [if_pos q, if_neg (Int32.not_le.mpr q)]
        cases nbB h (nI e) k
        · exact ⟨j1.symm, Or.inr ⟨b, b1, j1, j2⟩⟩
        · exact ⟨rfl, Or.inr ⟨e, by omega, rfl, rfl⟩⟩
      · rw [if_neg q, if_pos (Int32.not_lt.mp q)]
        exact ⟨j1.symm, Or.inr ⟨b, b1, j1, j2⟩⟩
theorem k_few (hw : wfH h) (k : Int32) : aFew h k = feS h (nN k) (2 ^ hM h) := ((few_st hw (nN k) _ (Nat.le_refl _)).1).symm
end
