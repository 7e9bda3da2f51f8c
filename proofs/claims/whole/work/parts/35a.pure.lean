/-! where class and reference go different ways to one answer: counts, bests -/
theorem cI_n (p : Nat → Bool) : ∀ m, ∃ c, c ≤ m ∧ cI p m = nI c ∧ (c = 0 ↔ ∀ i, i < m → p i = false) := by
  intro m
  induction m with
  | zero => exact ⟨0, Nat.le_refl 0, rfl, fun _ i hi => absurd hi (Nat.not_lt_zero i), fun _ => rfl⟩
  | succ m ih =>
    obtain ⟨c, h1, h2, h3⟩ := ih
    rw [cI_succ]
    cases hp : p m with
    | false =>
      refine ⟨c, by omega, h2, fun z i hi => ?_, fun z => h3.mpr (fun i hi => z i (by omega))⟩
      rcases Nat.lt_or_ge i m with q | q
      · exact h3.mp z i q
      · rw [show i = m by omega]; exact hp
    | true =>
      refine ⟨c + 1, by omega, ?_, fun z => absurd z (by omega), fun z => ?_⟩
      · show cI p m + 1 = nI (c + 1)
        rw [h2, nI_p1]
      · have := z m (Nat.lt_succ_self m)
        rw [hp] at this
        cases this
theorem cI_pos (p : Nat → Bool) {m : Nat} (hm : m ≤ 1000) : ¬ cI p m < 0 := by
  obtain ⟨c, h1, h2, -⟩ := cI_n p m
  rw [h2]
  exact nI_pos (by omega)
theorem abM_pos {h : tp_H} (hm : hM h ≤ 7) : ¬ abM h < 0 := cI_pos _ (by omega)
theorem nlt_le {x y : Int32} (h : ¬ x < 0) (hy : y < 0) : ¬ x ≤ y := by
  intro q
  exact h (Int32.lt_of_le_of_lt q hy)
theorem mx_ok {f : Nat → Int32} (n : Nat) (hf : ∀ i, i < n + 1 → ¬ f i < 0) : ∃ j, j < n + 1 ∧ mxQ (fun _ => true) f 0 (-1) (n + 1) = (nI j, f j) ∧ mxQ (fun _ => true) f (-9) (-9) (n + 1) = (nI j, f j) := by
  induction n with
  | zero =>
    refine ⟨0, by omega, ?_, ?_⟩
    · rw [mxQ_succ, cond_true]
      show (if f 0 ≤ -1 then _ else _) = _
      rw [if_neg (nlt_le (hf 0 (by omega)) (by decide))]
    · rw [mxQ_succ, cond_true]
      show (if f 0 ≤ -9 then _ else _) = _
      rw [if_neg (nlt_le (hf 0 (by omega)) (by decide))]
  | succ n ih =>
    obtain ⟨j, h1, h2, h3⟩ := ih (fun i hi => hf i (by omega))
    rw [mxQ_succ (fun _ => true) f 0 (-1) (n + 1), mxQ_succ (fun _ => true) f (-9) (-9) (n + 1), h2, h3, cond_true]
    by_cases c : f (n + 1) ≤ f j
    · refine ⟨j, by omega, ?_, ?_⟩ <;> exact if_pos c
    · refine ⟨n + 1, by omega, ?_, ?_⟩ <;> exact if_neg c
section
variable {h : tp_H}
theorem k_ship (hw : wfH h) (k what : Int32) : aShB h k what = aShM h k what := by
  obtain ⟨j, h1, h2, h3⟩ := mx_ok (f := fun i => shW h (nN k) (nI i)) 23 (fun i _ => by unfold shW; exact abM_pos (by rw [pNs_M]; exact hw.1))
  unfold aShB aShM shB smQ
  rw [h2, h3]
/-- a first with another answer where there is none -/
theorem fiV_c {p : Nat → Bool} {c : Int32} : ∀ {d i : Nat}, i + d ≤ 1000 → fiV p nI c d i = if 0 ≤ fiV p nI (-9) d i then fiV p nI (-9) d i else c := by
  intro d
  induction d with
  | zero => intro i _; rfl
  | succ d ih =>
    intro i hi
    rw [fiV_succ, fiV_succ]
    cases p i with
    | false => rw [cond_false, cond_false]; exact ih (by omega)
    | true => rw [cond_true, cond_true, if_pos (nI_pos' (by omega))]
theorem sF_id (g : tp_H) : sF g (hF g) = g := rfl
theorem pNs_S (k : Nat) (g : tp_H) : hS (pNs k g) = hS g := by
  induction k with
  | zero => rfl
  | succ k ih =>
    rw [pNs_succ, ← ih]
    generalize pNs k g = a
    have : ∀ i, hS (nTo (sN a (hN a + 1)) i) = hS a := by
      intro i
      induction i with
      | zero => rfl
      | succ i ih2 =>
        rw [nTo_succ, ← ih2]
        unfold nOne
        split
        · rfl
        · split
          · split
            · rfl
            · cases mGo (nTo (sN a (hN a + 1)) i) _ _ <;> rfl
          · rfl
    exact this _
theorem bec_K {j : Nat} (hw : wfH h) (hj : j < hM h) (g : Int32) : becH h (nI j) g (gO hF h (nI j)) = sK h (tg_u (hK h) j g) := by
  rw [becH_j hw.1 hj, gO_nI hw.1 hj, tg_u_id]
  rfl
theorem bec_F {j : Nat} (hw : wfH h) (hj : j < hM h) (g : Int32) : becH h (nI j) (gO hK h (nI j)) g = sF h (tg_u (hF h) j g) := by
  rw [becH_j hw.1 hj, gO_nI hw.1 hj, tg_u_id]
  rfl
theorem so_bk (hw : wfH h) {j : Nat} (hj : j < hM h) (g : Nat) : soA h (nI j) (nI g) = bkV h j g := by
  unfold soA bkV
  rw [fiV_c (by decide)]
  have e : fiV (soP h (nI j) (nI g)) nI (-9) 61 0 = aFir (sK h (tg_u (hK h) j (nI g))) (nI j) (hS h) := by
    refine fiV_eq rfl (fun i _ _ => ⟨?_, rfl⟩)
    unfold soP fA abB
    rw [bec_K hw hj, pNs_S]
    rfl
  rw [e]
theorem fi61 {p : Nat → Bool} : ∀ {d i : Nat}, i + d ≤ 61 → ∃ c, c ≤ 61 ∧ fiV p nI 61 d i = nI c := by
  intro d
  induction d with
  | zero => intro i _; exact ⟨61, by omega, rfl⟩
  | succ d ih =>
    intro i hi
    rw [fiV_succ]
    cases p i with
    | false => exact ih (by omega)
    | true => exact ⟨i, by omega, rfl⟩
theorem mn_ok {f : Nat → Int32} (n : Nat) (hf : ∀ i, i < n + 1 → ∃ c, c ≤ 61 ∧ f i = nI c) : ∃ j, j < n + 1 ∧ mnQ (fun _ => true) f 0 61 (n + 1) = (nI j, f j) ∧ mnQ (fun _ => true) f (-9) 62 (n + 1) = (nI j, f j) := by
  induction n with
  | zero =>
    obtain ⟨c, hc, ec⟩ := hf 0 (by omega)
    refine ⟨0, by omega, ?_, ?_⟩
    · rw [mnQ_succ, cond_true]
      show (if 61 ≤ f 0 then (0, 61) else (nI 0, f 0)) = _
      split
      · rename_i q
        have h62 : ∀ k : Fin 62, (61 : Int32) ≤ nI k.1 → nI k.1 = 61 := by decide +kernel
        rw [ec] at q ⊢
        rw [h62 ⟨c, by omega⟩ q]
        rfl
      · rfl
    · rw [mnQ_succ, cond_true]
      show (if 62 ≤ f 0 then _ else _) = _
      rw [ec, if_neg (show ¬ (62 : Int32) ≤ nI c from nI_ge (a := c) (b := 62) (by omega) (by decide))]
  | succ n ih =>
    obtain ⟨j, h1, h2, h3⟩ := ih (fun i hi => hf i (by omega))
    rw [mnQ_succ (fun _ => true) f 0 61 (n + 1), mnQ_succ (fun _ => true) f (-9) 62 (n + 1), h2, h3, cond_true]
    by_cases c : f j ≤ f (n + 1)
    · refine ⟨j, by omega, ?_, ?_⟩ <;> exact if_pos c
    · refine ⟨n + 1, by omega, ?_, ?_⟩ <;> exact if_neg c
theorem k_best (hw : wfH h) {one : Int32} (ho : hasB h one = true) (what : Int32) : aBes h one what = aBeM h one what := by
  obtain ⟨j, hj, rfl, cj⟩ := has_j hw.1 ho
  have cn : nN (nI j) = j := cj
  obtain ⟨i, h1, h2, h3⟩ := mn_ok (f := bkV h j) 5 (fun i _ => by
    obtain ⟨c, hc, ec⟩ := fi61 (p := soP h (nI j) (nI i)) (d := 61) (i := 0) (by decide)
    exact ⟨c, hc, (so_bk hw hj i).symm.trans ec⟩)
  unfold aBes aBeM soK bkQ
  rw [cn, mnQ_eq (q' := fun _ => true) (f' := bkV h j) rfl rfl (fun i _ => ⟨rfl, so_bk hw hj i⟩), h2, h3]
  show (if what = 0 then nI i else if 60 < soA h (nI j) (nI i) then -9 else soA h (nI j) (nI i)) = if what = 0 then nI i else if bkV h j i ≤ 60 then bkV h j i else -9
  rw [so_bk hw hj i]
  split
  · rfl
  · by_cases c : 60 < bkV h j i
    · rw [if_pos c, if_neg (Int32.not_le.mpr c)]
    · rw [if_neg c, if_pos (Int32.not_lt.mp c)]
/-- one of a row of Bools after the other -/
theorem aI_so {p : Nat → Bool} : ∀ {d i : Nat}, aI p d i = true ↔ ∀ k, i ≤ k → k < i + d → p k = true := by
  intro d
  induction d with
  | zero => intro i; exact ⟨fun _ k h1 h2 => by omega, fun _ => rfl⟩
  | succ d ih =>
    intro i
    rw [aI_succ]
    cases hp : p i with
    | false =>
      refine ⟨fun q => (by cases q), fun q => ?_⟩
      have := q i (Nat.le_refl i) (by omega)
      rw [hp] at this
      exact this
    | true =>
      rw [cond_true, ih]
      refine ⟨fun q k h1 h2 => ?_, fun q k h1 h2 => q k (by omega) (by omega)⟩
      rcases Nat.eq_or_lt_of_le h1 with z | z
      · rw [← z]; exact hp
      · exact q k (by omega) (by omega)
theorem so_all {g : tp_H} {f : tp_A} {j : Nat} : ∀ {m : Nat}, soS g f j m = true ↔ ∀ k, k < m → hT (pNs k g) j = f k := by
  intro m
  induction m with
  | zero => exact ⟨fun _ k hk => absurd hk (Nat.not_lt_zero k), fun _ => rfl⟩
  | succ m ih =>
    rw [soS_succ]
    cases hs : soS g f j m with
    | false =>
      refine ⟨fun q => (by cases q), fun q => ?_⟩
      have := ih.mpr (fun k hk => q k (by omega))
      rw [hs] at this
      exact this
    | true =>
      rw [cond_true, decide_eq_true_eq]
      have h1 := ih.mp hs
      refine ⟨fun q k hk => ?_, fun q => q m (by omega)⟩
      rcases Nat.lt_or_ge k m with z | z
      · exact h1 k z
      · rw [show k = m by omega]; exact q
theorem so_aI {g : tp_H} {f : tp_A} {j m : Nat} (hm : hM g ≤ 7) (hj : j < hM g) : aI (fun i => decide (gO hT (pNs i g) (nI j) = f i)) m 0 = soS g f j m := by
  have e : (aI (fun i => decide (gO hT (pNs i g) (nI j) = f i)) m 0 = true) ↔ (soS g f j m = true) := by
    rw [aI_so, so_all]
    refine ⟨fun q k hk => ?_, fun q k _ hk => ?_⟩
    · have := of_decide_eq_true (q k (Nat.zero_le k) (by omega))
      rw [gT_j hm hj] at this
      exact this
    · rw [gT_j hm hj]
      exact decide_eq_true (q k (by omega))
  cases h1 : aI (fun i => decide (gO hT (pNs i g) (nI j) = f i)) m 0 <;> cases h2 : soS g f j m
  · rfl
  · rw [h1] at e; rw [h2] at e; exact absurd (e.mpr rfl) (by decide)
  · rw [h1] at e; rw [h2] at e; exact absurd (e.mp rfl) (by decide)
  · rfl
theorem k_what {y : tp_Y} (hw : wfH h) {one : Int32} (ho : hasB h one = true) (what : Int32) : aWha h (xOf y) one what = (if what = 0 then bI (bfK h (yRo y) (yRm y) (nN one)) 6 else bI (bfF h (yRo y) (yRm y) (nN one)) 10) := by
  obtain ⟨j, hj, rfl, cj⟩ := has_j hw.1 ho
  have cn : nN (nI j) = j := cj
  rw [cn]
  unfold aWha
  by_cases h0 : what = 0
  · rw [if_pos h0, la_0 h0]
    refine bI_eq (fun g _ => ?_)
    unfold whP wiB bfK
    rw [if_pos h0]
    show aI (wiP h (xOf y) (nI j) (nI g) (gO hF h (nI j))) (yRm y) 0 = _
    unfold wiP
    rw [bec_K hw hj]
    exact so_aI (g := sK h (tg_u (hK h) j (nI g))) hw.1 hj
  · rw [if_neg h0, la_1 h0]
    refine bI_eq (fun g _ => ?_)
    unfold whP wiB bfF
    rw [if_neg h0]
    show aI (wiP h (xOf y) (nI j) (gO hK h (nI j)) (nI g)) (yRm y) 0 = _
    unfold wiP
    rw [bec_F hw hj]
    exact so_aI (g := sF h (tg_u (hF h) j (nI g))) hw.1 hj
end
