/-! the search in breadth and the spreading sets -/
def bE (h : tp_H) (s u k : Nat) : Prop := bes (nI s) (nI k) = nI u ∧ u < 24 ∧ crB h (nI u) = false
def bR (h : tp_H) (a : Nat) : Nat → Nat → Prop
  | 0, t => t = a
  | n + 1, t => bR h a n t ∨ ∃ s k, s < 24 ∧ k < 4 ∧ bR h a n s ∧ bE h s t k
theorem bR_mono {h : tp_H} {a n t : Nat} (q : bR h a n t) : ∀ d, bR h a (n + d) t := by
  intro d
  induction d with
  | zero => exact q
  | succ d ih => exact Or.inl ih
def cnN (p : Nat → Bool) : Nat → Nat
  | 0 => 0
  | n + 1 => bif p n then cnN p n + 1 else cnN p n
theorem cnN_succ (p : Nat → Bool) (n : Nat) : cnN p (n + 1) = bif p n then cnN p n + 1 else cnN p n := rfl
theorem cn_le (p : Nat → Bool) : ∀ n, cnN p n ≤ n ∧ (cnN p n = n → ∀ t, t < n → p t = true) := by
  intro n
  induction n with
  | zero => exact ⟨Nat.le_refl 0, fun _ t ht => absurd ht (Nat.not_lt_zero t)⟩
  | succ n ih =>
    rw [cnN_succ]
    cases hp : p n with
    | false => rw [cond_false]; exact ⟨by omega, fun z => by omega⟩
    | true =>
      rw [cond_true]
      refine ⟨by omega, fun z t ht => ?_⟩
      rcases Nat.lt_or_ge t n with q | q
      · exact ih.2 (by omega) t q
      · rw [show t = n by omega]; exact hp
theorem cn_eq {p p' : Nat → Bool} : ∀ n, (∀ t, t < n → p' t = p t) → cnN p' n = cnN p n := by
  intro n
  induction n with
  | zero => intro _; rfl
  | succ n ih => intro h; rw [cnN_succ, cnN_succ, h n (Nat.lt_succ_self n), ih (fun t ht => h t (by omega))]
theorem cn_up {p p' : Nat → Bool} {u : Nat} (h0 : p u = false) (h1 : p' u = true) (hx : ∀ t, ¬ t = u → p' t = p t) : ∀ n, u < n → cnN p' n = cnN p n + 1 := by
  intro n
  induction n with
  | zero => intro hu; omega
  | succ n ih =>
    intro hu
    rw [cnN_succ, cnN_succ]
    by_cases e : n = u
    · subst e
      rw [h0, h1, cond_true, cond_false, cn_eq n (fun t ht => hx t (by omega))]
    · rw [hx n e, ih (by omega)]
      cases p n <;> rfl
def bInv (h : tp_H) (a : Nat) (q : tp_B) (i : Nat) (T D : Nat → Nat) : Prop :=
  (∀ j, j < q.2.2 → T j < 24 ∧ q.2.1 j = nI (T j) ∧ q.1 (T j) = nI (D (T j)) ∧ D (T j) ≤ j ∧ bR h a (D (T j)) (T j)) ∧
  (∀ t, t < 24 → q.1 t = -9 ∨ ∃ j, j < q.2.2 ∧ T j = t) ∧
  (∀ j j', j ≤ j' → j' < q.2.2 → D (T j) ≤ D (T j')) ∧
  (∀ j, j < i → j < q.2.2 → ∀ u k, k < 4 → bE h (T j) u k → (∃ j', j' < q.2.2 ∧ T j' = u) ∧ D u ≤ D (T j) + 1) ∧
  q.2.2 = cnN (fun t => decide (¬ q.1 t = -9)) 24
theorem nI_n9 {n : Nat} (hn : n < 1000) : ¬ nI n = -9 := fun e => nI_pos (n := n) (by omega) (by rw [e]; decide)
/-- what is known while the tile at place i of the queue is looked at, before way k -/
def bCur (h : tp_H) (q : tp_B) (i k : Nat) (T D : Nat → Nat) : Prop :=
  i < q.2.2 ∧ (∀ j, j < q.2.2 → D (T j) ≤ D (T i) + 1) ∧ ∀ k' u, k' < k → bE h (T i) u k' → (∃ j, j < q.2.2 ∧ T j = u) ∧ D u ≤ D (T i) + 1
theorem bW_step {h : tp_H} {a i k : Nat} {q : tp_B} {T D : Nat → Nat} (ha : a < 24) (hk : k < 4) (hI : bInv h a q i T D) (hC : bCur h q i k T D) : ∃ T' D', bInv h a (bfW h (nI (T i)) q k) i T' D' ∧ bCur h (bfW h (nI (T i)) q k) i (k + 1) T' D' ∧ T' i = T i := by
  obtain ⟨v1, v2, v3, v4, v5⟩ := hI
  obtain ⟨c1, c2, c3⟩ := hC
  obtain ⟨i1, i2, i3, i4, i5⟩ := v1 i c1
  have hm24 : q.2.2 ≤ 24 := by rw [v5]; exact (cn_le _ 24).1
  by_cases hc : isT (bes (nI (T i)) (nI k)) = true ∧ q.2.2 < 24 ∧ q.1 (bes (nI (T i)) (nI k)).toNatClampNeg = -9 ∧ crB h (bes (nI (T i)) (nI k)) = false
  · obtain ⟨z1, z2, z3, z4⟩ := hc
    obtain ⟨u, hu, eu, cu⟩ := isT_j z1
    have eW : bfW h (nI (T i)) q k = (tg_u q.1 u (nI (D (T i)) + 1), tg_u q.2.1 q.2.2 (nI u), q.2.2 + 1) := by
      rw [bfW_y z1 z2 z3 z4]
      unfold bfY
      rw [eu, cu, nI_clamp (show T i < 2 ^ 31 by omega), i3]
    have hun : q.1 u = -9 := by rw [eu, cu] at z3; exact z3
    have hTu : ∀ j, j < q.2.2 → ¬ T j = u := by
      intro j hj e
      obtain ⟨_, _, w3, w4, _⟩ := v1 j hj
      rw [e] at w3 w4
      rw [w3] at hun
      exact nI_n9 (by omega) hun
    have hDi : D (T i) ≤ i := i4
    have hT' : ∀ j, j < q.2.2 → (fun j => if j = q.2.2 then u else T j) j = T j := fun j hj => if_neg (by omega)
    have hD' : ∀ j, j < q.2.2 → (fun t => if t = u then D (T i) + 1 else D t) (T j) = D (T j) := fun j hj => if_neg (hTu j hj)
    rw [eW]
    refine ⟨fun j => if j = q.2.2 then u else T j, fun t => if t = u then D (T i) + 1 else D t, ⟨?_, ?_, ?_, ?_, ?_⟩, ⟨?_, ?_, ?_⟩, hT' i c1⟩
    · intro j hj
      have hj : j < q.2.2 + 1 := hj
      by_cases e : j = q.2.2
      · show (if j = q.2.2 then u else T j) < 24 ∧ tg_u q.2.1 q.2.2 (nI u) j = nI (if j = q.2.2 then u else T j) ∧ tg_u q.1 u (nI (D (T i)) + 1) (if j = q.2.2 then u else T j) = nI (if (if j = q.2.2 then u else T j) = u then D (T i) + 1 else D (if j = q.2.2 then u else T j)) ∧ (if (if j = q.2.2 then u else T j) = u then D (T i) + 1 else D (if j = q.2.2 then u else T j)) ≤ j ∧ bR h a (if (if j = q.2.2 then u else T j) = u then D (T i) + 1 else D (if j = q.2.2 then u else T j)) (if j = q.2.2 then u else T j)
        rw [if_pos e, tg_u_eq, if_pos e, tg_u_eq, if_pos rfl, if_pos rfl]
        refine ⟨hu, rfl, nI_p1 _, by omega, Or.inr ⟨T i, k, i1, hk, i5, eu, hu, ?_⟩⟩
        rw [← eu]; exact z4
      · have hj2 : j < q.2.2 := by omega
        obtain ⟨w1, w2, w3, w4, w5⟩ := v1 j hj2
        show (if j = q.2.2 then u else T j) < 24 ∧ tg_u q.2.1 q.2.2 (nI u) j = nI (if j = q.2.2 then u else T j) ∧ tg_u q.1 u (nI (D (T i)) + 1) (if j = q.2.2 then u else T j) = nI (if (if j = q.2.2 then u else T j) = u then D (T i) + 1 else D (if j = q.2.2 then u else T j)) ∧ (if (if j = q.2.2 then u else T j) = u then D (T i) + 1 else D (if j = q.2.2 then u else T j)) ≤ j ∧ bR h a (if (if j = q.2.2 then u else T j) = u then D (T i) + 1 else D (if j = q.2.2 then u else T j)) (if j = q.2.2 then u else T j)
        rw [if_neg e, tg_u_eq, if_neg e, tg_u_eq, if_neg (hTu j hj2), if_neg (hTu j hj2)]
        exact ⟨w1, w2, w3, w4, w5⟩
    · intro t ht
      by_cases e : t = u
      · exact Or.inr ⟨q.2.2, Nat.lt_succ_self _, by show (if q.2.2 = q.2.2 then u else _) = t; rw [if_pos rfl, e]⟩
      · rcases v2 t ht with w | ⟨j, hj, w⟩
        · refine Or.inl ?_
          show tg_u q.1 u _ t = -9
          rw [tg_u_eq, if_neg e]
          exact w
        · exact Or.inr ⟨j, Nat.lt_succ_of_lt hj, by rw [← w]; exact hT' j hj⟩
    · intro j j' hjj hj'
      have hj' : j' < q.2.2 + 1 := hj'
      by_cases e' : j' = q.2.2
      · have r' : (fun j => if j = q.2.2 then u else T j) j' = u := if_pos e'
        rw [r']
        show _ ≤ (if u = u then D (T i) + 1 else D u)
        rw [if_pos rfl]
        by_cases e : j = q.2.2
        · rw [show (fun j => if j = q.2.2 then u else T j) j = u from if_pos e]
          show (if u = u then D (T i) + 1 else D u) ≤ _
          rw [if_pos rfl]
          exact Nat.le_refl _
        · have hj2 : j < q.2.2 := by omega
          rw [hT' j hj2, hD' j hj2]
          exact c2 j hj2
      · have hj2 : j' < q.2.2 := by omega
        have hj3 : j < q.2.2 := by omega
        rw [hT' j hj3, hT' j' hj2, hD' j hj3, hD' j' hj2]
        exact v3 j j' hjj hj2
    · intro j hji hj w kk hkk hE
      have hj2 : j < q.2.2 := by omega
      rw [hT' j hj2] at hE ⊢
      obtain ⟨⟨j', hj', ej'⟩, hd⟩ := v4 j hji hj2 w kk hkk hE
      refine ⟨⟨j', Nat.lt_succ_of_lt hj', by rw [hT' j' hj']; exact ej'⟩, ?_⟩
      rw [hD' j hj2, ← ej', hD' j' hj', ej']
      exact hd
    · show q.2.2 + 1 = cnN (fun t => decide (¬ tg_u q.1 u (nI (D (T i)) + 1) t = -9)) 24
      rw [cn_up (p := fun t => decide (¬ q.1 t = -9)) (u := u) ?_ ?_ ?_ 24 hu, ← v5]
      · exact decide_eq_false (fun z => z hun)
      · refine decide_eq_true ?_
        rw [tg_u_eq, if_pos rfl, nI_p1]
        exact nI_n9 (by omega)
      · intro t ht
        show decide (¬ tg_u q.1 u _ t = -9) = decide (¬ q.1 t = -9)
        rw [tg_u_eq, if_neg ht]
    · show i < q.2.2 + 1; omega
    · intro j hj
      have hj : j < q.2.2 + 1 := hj
      rw [hT' i c1, hD' i c1]
      by_cases e : j = q.2.2
      · rw [show (fun j => if j = q.2.2 then u else T j) j = u from if_pos e]
        show (if u = u then D (T i) + 1 else D u) ≤ _
        rw [if_pos rfl]
        exact Nat.le_refl _
      · rw [hT' j (by omega), hD' j (by omega)]
        exact c2 j (by omega)
    · intro k' w hk' hE
      rw [hT' i c1] at hE ⊢
      rw [hD' i c1]
      by_cases ek : k' = k
      · have ew : w = u := by
          have e1 := hE.1
          rw [ek, eu] at e1
          exact ((nI_eq (by omega) (by have := hE.2.1; omega)).mp e1).symm
        subst ew
        refine ⟨⟨q.2.2, Nat.lt_succ_self _, if_pos rfl⟩, ?_⟩
        show (if w = w then D (T i) + 1 else D w) ≤ _
        rw [if_pos rfl]
        exact Nat.le_refl _
      · obtain ⟨⟨j', hj', ej'⟩, hd⟩ := c3 k' w (by omega) hE
        refine ⟨⟨j', Nat.lt_succ_of_lt hj', by rw [hT' j' hj']; exact ej'⟩, ?_⟩
        rw [← ej', hD' j' hj', ej']
        exact hd
  · have eW : bfW h (nI (T i)) q k = q := if_neg hc
    rw [eW]
    refine ⟨T, D, ⟨v1, v2, v3, v4, v5⟩, ⟨c1, c2, fun k' w hk' hE => ?_⟩, rfl⟩
    by_cases ek : k' = k
    · obtain ⟨e1, e2, e3⟩ := hE
      rw [ek] at e1
      rcases v2 w e2 with z | ⟨j, hj, z⟩
      · exfalso
        apply hc
        rw [e1]
        refine ⟨isT_nI e2, ?_, by rw [nI_clamp (by omega)]; exact z, e3⟩
        rcases Nat.lt_or_ge q.2.2 24 with g | g
        · exact g
        · have := (cn_le (fun t => decide (¬ q.1 t = -9)) 24).2 (by omega) w e2
          exact absurd z (of_decide_eq_true this)
      · exact ⟨⟨j, hj, z⟩, by rw [← z]; exact c2 j hj⟩
    · exact c3 k' w (by omega) hE
theorem bI_all {h : tp_H} {a i : Nat} {q : tp_B} {T D : Nat → Nat} (ha : a < 24) (hI : bInv h a q i T D) (hC : bCur h q i 0 T D) : ∀ k, k ≤ 4 → ∃ T' D', bInv h a (bfI h (nI (T i)) q k) i T' D' ∧ bCur h (bfI h (nI (T i)) q k) i k T' D' ∧ T' i = T i := by
  intro k
  induction k with
  | zero => intro _; exact ⟨T, D, hI, hC, rfl⟩
  | succ k ih =>
    intro hk
    obtain ⟨T', D', h1, h2, h3⟩ := ih (by omega)
    rw [bfI_succ, ← h3]
    rw [← h3] at h1 h2
    obtain ⟨T2, D2, g1, g2, g3⟩ := bW_step ha (by omega) h1 h2
    exact ⟨T2, D2, g1, g2, g3⟩
theorem bO_all {h : tp_H} {a : Nat} {q : tp_B} {T D : Nat → Nat} (ha : a < 24) (hI : bInv h a q 0 T D) (hf : ∀ j, j < q.2.2 → D (T j) ≤ D (T 0) + 1) : ∀ i, ∃ T' D', bInv h a (bfO h q i) i T' D' ∧ (i < (bfO h q i).2.2 → ∀ j, j < (bfO h q i).2.2 → D' (T' j) ≤ D' (T' i) + 1) := by
  intro i
  induction i with
  | zero => exact ⟨T, D, hI, fun _ => hf⟩
  | succ i ih =>
    obtain ⟨T', D', h1, h2⟩ := ih
    rw [bfO_succ]
    by_cases hi : i < (bfO h q i).2.2
    · rw [if_pos hi]
      obtain ⟨w1, w2, w3, w4, w5⟩ := h1.1 i hi
      rw [w2]
      obtain ⟨T2, D2, g1, g2, g3⟩ := bI_all ha h1 (show bCur h (bfO h q i) i 0 T' D' from ⟨hi, h2 hi, fun k' u hk' => absurd hk' (Nat.not_lt_zero k')⟩) 4 (Nat.le_refl 4)
      obtain ⟨v1, v2, v3, v4, v5⟩ := g1
      obtain ⟨c1, c2, c3⟩ := g2
      refine ⟨T2, D2, ⟨v1, v2, v3, fun j hj hjm u k hk hE => ?_, v5⟩, fun hi2 j hj => ?_⟩
      · rcases Nat.lt_or_ge j i with z | z
        · exact v4 j z hjm u k hk hE
        · have : j = i := by omega
          subst this
          exact c3 k u hk hE
      · exact Nat.le_trans (c2 j hj) (Nat.succ_le_succ (v3 i (i + 1) (by omega) hi2))
    · rw [if_neg hi]
      obtain ⟨v1, v2, v3, v4, v5⟩ := h1
      refine ⟨T', D', ⟨v1, v2, v3, fun j hj hjm => v4 j (by omega) hjm, v5⟩, fun hi2 => by omega⟩
theorem b0_inv {h : tp_H} {a : Nat} (ha : a < 24) : bInv h a (bf0 (fun _ => -9) (fun _ => 0) a) 0 (fun _ => a) (fun _ => 0) := by
  refine ⟨fun j hj => ?_, fun t ht => ?_, fun _ _ _ _ => Nat.le_refl 0, fun j hj => absurd hj (Nat.not_lt_zero j), ?_⟩
  · have hj : j < 1 := hj
    refine ⟨ha, ?_, ?_, Nat.zero_le j, rfl⟩
    · show tg_u (fun _ => 0) 0 (nI a) j = nI a
      rw [tg_u_eq, if_pos (by omega)]
    · show tg_u (fun _ => -9) a 0 a = nI 0
      rw [tg_u_eq, if_pos rfl]
      rfl
  · by_cases e : t = a
    · exact Or.inr ⟨0, by show 0 < 1; omega, e.symm⟩
    · refine Or.inl ?_
      show tg_u (fun _ => -9) a 0 t = -9
      rw [tg_u_eq, if_neg e]
  · show 1 = cnN (fun t => decide (¬ tg_u (fun _ => -9) a 0 t = -9)) 24
    rw [cn_up (p := fun _ => false) (u := a) rfl ?_ ?_ 24 ha]
    · rfl
    · refine decide_eq_true ?_
      rw [tg_u_eq, if_pos rfl]
      decide
    · intro t ht
      refine decide_eq_false ?_
      rw [tg_u_eq, if_neg ht]
      exact fun z => z rfl
/-- what the search finds: the fewest steps, or none -/
theorem far_ch {h : tp_H} {a b : Nat} (ha : a < 24) (hb : b < 24) : (bfD h a b = -9 ∧ ∀ n, ¬ bR h a n b) ∨ ∃ n, n < 24 ∧ bfD h a b = nI n ∧ bR h a n b ∧ ∀ m, bR h a m b → n ≤ m := by
  obtain ⟨T, D, ⟨v1, v2, v3, v4, v5⟩, -⟩ := bO_all ha (b0_inv (h := h) ha) (fun _ _ => Nat.zero_le _) 24
  have hm24 : (bfO h (bf0 (fun _ => -9) (fun _ => 0) a) 24).2.2 ≤ 24 := by rw [v5]; exact (cn_le _ 24).1
  have key : ∀ n t, bR h a n t → t < 24 → (∃ j, j < (bfO h (bf0 (fun _ => -9) (fun _ => 0) a) 24).2.2 ∧ T j = t) ∧ D t ≤ n := by
    intro n
    induction n with
    | zero =>
      intro t ht ht24
      have ea : t = a := ht
      subst ea
      have h0 : bfO h (bf0 (fun _ => -9) (fun _ => 0) t) 24 = bfO h (bf0 (fun _ => -9) (fun _ => 0) t) 24 := rfl
      have hst : ∀ i, (bfO h (bf0 (fun _ => -9) (fun _ => 0) t) i).1 t = 0 ∧ ¬ (bfO h (bf0 (fun _ => -9) (fun _ => 0) t) i).1 t = -9 := by
        have hW : ∀ (ti : Int32) (q : tp_B) (k : Nat), q.1 t = 0 → (bfW h ti q k).1 t = 0 := by
          intro ti q k hq
          unfold bfW
          split
          · rename_i hc
            show tg_u q.1 _ _ t = 0
            rw [tg_u_eq]
            split
            · rename_i e
              rw [← e, hq] at hc
              exact absurd hc.2.2.1 (by decide)
            · exact hq
          · exact hq
        have hIk : ∀ (ti : Int32) (q : tp_B) (k : Nat), q.1 t = 0 → (bfI h ti q k).1 t = 0 := by
          intro ti q k hq
          induction k with
          | zero => exact hq
          | succ k ih => rw [bfI_succ]; exact hW _ _ _ ih
        intro i
        have : (bfO h (bf0 (fun _ => -9) (fun _ => 0) t) i).1 t = 0 := by
          induction i with
          | zero => show tg_u (fun _ => -9) t 0 t = 0; rw [tg_u_eq, if_pos rfl]
          | succ i ih =>
            rw [bfO_succ]
            split
            · exact hIk _ _ _ ih
            · exact ih
        exact ⟨this, by rw [this]; decide⟩
      rcases v2 t ht24 with z | ⟨j, hj, z⟩
      · exact absurd z (hst 24).2
      · refine ⟨⟨j, hj, z⟩, ?_⟩
        obtain ⟨_, _, w3, w4, _⟩ := v1 j hj
        rw [z, (hst 24).1] at w3
        have := (nI_eq (a := 0) (b := D t) (by decide) (by rw [z] at w4; omega)).mp w3
        omega
    | succ n ih =>
      intro t ht ht24
      rcases ht with ht | ⟨s, k, hs, hk, hR, hE⟩
      · obtain ⟨g1, g2⟩ := ih t ht ht24
        exact ⟨g1, by omega⟩
      · obtain ⟨⟨j, hj, ej⟩, g2⟩ := ih s hR hs
        obtain ⟨g3, g4⟩ := v4 j (by omega) hj t k hk (by rw [ej]; exact hE)
        rw [ej] at g4
        exact ⟨g3, by omega⟩
  rcases v2 b hb with z | ⟨j, hj, z⟩
  · refine Or.inl ⟨z, fun n hn => ?_⟩
    obtain ⟨⟨j, hj, ej⟩, -⟩ := key n b hn hb
    obtain ⟨_, _, w3, w4, _⟩ := v1 j hj
    rw [ej] at w3 w4
    have z2 : (bfO h (bf0 (fun _ => -9) (fun _ => 0) a) 24).1 b = -9 := z
    rw [z2] at w3
    exact nI_n9 (n := D b) (by omega) w3.symm
  · obtain ⟨w1, w2, w3, w4, w5⟩ := v1 j hj
    rw [z] at w3 w4 w5
    exact Or.inr ⟨D b, by omega, w3, w5, fun m hm => (key m b hm hb).2⟩
/-! the spreading sets -/
theorem hs_gl (x : Int32) {t : Nat} (ht : t < 24) : hsB x (nI t) = x.toBitVec.getLsbD t := by
  have e1 : ∀ k : Fin 24, (nI k.1 &&& 31).toBitVec.smod 32 = BitVec.ofNat 32 k.1 := by decide +kernel
  have h1 : (x >>> (nI t &&& 31)).toBitVec = x.toBitVec.sshiftRight t := by
    rw [Int32.toBitVec_shiftRight]
    show x.toBitVec.sshiftRight ((nI t &&& 31).toBitVec.smod 32).toNat = _
    rw [e1 ⟨t, ht⟩, BitVec.toNat_ofNat, Nat.mod_eq_of_lt (by omega)]
  have h2 : ((x >>> (nI t &&& 31)) &&& 1).toBitVec.getLsbD 0 = x.toBitVec.getLsbD t := by
    rw [Int32.toBitVec_and, BitVec.getLsbD_and, h1, BitVec.getLsbD_sshiftRight]
    simp (decide := true)
    intro h32
    omega
  have h3 : ∀ k, 0 < k → k < 32 → ((x >>> (nI t &&& 31)) &&& 1).toBitVec.getLsbD k = false := by
    intro k hk0 hk
    rw [Int32.toBitVec_and, BitVec.getLsbD_and]
    have : ∀ k : Fin 32, 0 < k.1 → (1 : Int32).toBitVec.getLsbD k.1 = false := by decide +kernel
    rw [this ⟨k, hk⟩ hk0, Bool.and_false]
  unfold hsB
  cases hb : x.toBitVec.getLsbD t with
  | true =>
    refine decide_eq_true (gl_eq (fun k hk => ?_))
    rcases Nat.eq_zero_or_pos k with z | z
    · rw [z, h2, hb]; decide
    · rw [h3 k z hk]
      have : ∀ k : Fin 32, 0 < k.1 → (1 : Int32).toBitVec.getLsbD k.1 = false := by decide +kernel
      rw [this ⟨k, hk⟩ z]
  | false =>
    refine decide_eq_false (fun q => ?_)
    have := congrArg (fun z : Int32 => z.toBitVec.getLsbD 0) q
    rw [show ((x >>> (nI t &&& 31)) &&& 1).toBitVec.getLsbD 0 = false from h2.trans hb] at this
    exact absurd this (by decide)
theorem hs_or (x : Int32) {u t : Nat} (hu : u < 24) (ht : t < 24) : hsB (x ||| (1 <<< (nI u &&& 31))) (nI t) = (hsB x (nI t) || decide (u = t)) := by
  rw [hs_gl _ ht, hs_gl _ ht, Int32.toBitVec_or, BitVec.getLsbD_or, (gl_sh ⟨u, hu⟩ ⟨t, by omega⟩).1]
theorem hs_1 {u t : Nat} (hu : u < 24) (ht : t < 24) : hsB (1 <<< (nI u &&& 31)) (nI t) = decide (u = t) := by
  rw [hs_gl _ ht, (gl_sh ⟨u, hu⟩ ⟨t, by omega⟩).1]
theorem k4 {k : Nat} (hk : k < 4) : nI k = 0 ∨ nI k = 1 ∨ nI k = 2 ∨ nI k = 3 := by
  have h : ∀ i : Fin 4, nI i.1 = 0 ∨ nI i.1 = 1 ∨ nI i.1 = 2 ∨ nI i.1 = 3 := by decide +kernel
  exact h ⟨k, hk⟩
theorem sp_T (h : tp_H) {s k t : Nat} (hs : s < 24) (hk : k < 4) (ht : t < 24) (x : Int32) : hsB (spT h (byM (nI s) (nI k)) x) (nI t) = true ↔ hsB x (nI t) = true ∨ bE h s t k := by
  rw [by_eq (isT_nI hs) (k4 hk)]
  unfold spT
  rcases bes_T (t := nI s) (k := nI k) (isT_nI hs) with z | z
  · rw [z, if_pos (by decide)]
    refine ⟨Or.inl, fun q => ?_⟩
    rcases q with q | q
    · exact q
    · have := q.1
      rw [z] at this
      exact absurd this.symm (nI_n9 (by omega))
  · obtain ⟨u, hu, eu, -⟩ := isT_j z
    rw [eu, if_neg (nI_pos (by omega))]
    cases hc : hsB (hC h) (nI u) with
    | true =>
      rw [cond_true]
      refine ⟨Or.inl, fun q => ?_⟩
      rcases q with q | ⟨e1, e2, e3⟩
      · exact q
      · rw [eu] at e1
        have : u = t := (nI_eq (by omega) (by omega)).mp e1
        subst this
        rw [show crB h (nI u) = hsB (hC h) (nI u) from rfl, hc] at e3
        cases e3
    | false =>
      rw [cond_false, hs_or x hu ht, Bool.or_eq_true, decide_eq_true_eq]
      refine ⟨fun q => ?_, fun q => ?_⟩
      · rcases q with q | q
        · exact Or.inl q
        · subst q; exact Or.inr ⟨eu, ht, hc⟩
      · rcases q with q | ⟨e1, -, -⟩
        · exact Or.inl q
        · rw [eu] at e1
          exact Or.inr ((nI_eq (by omega) (by omega)).mp e1)
theorem sp_W (h : tp_H) (s x : Int32) {v t : Nat} (hv : v < 24) (ht : t < 24) : ∀ k, k ≤ 4 → (hsB (spW h s x v k) (nI t) = true ↔ hsB x (nI t) = true ∨ (hsB s (nI v) = true ∧ ∃ k', k' < k ∧ bE h v t k')) := by
  intro k
  induction k with
  | zero => intro _; exact ⟨Or.inl, fun q => by rcases q with q | ⟨_, k', hk', _⟩; exact q; exact absurd hk' (Nat.not_lt_zero k')⟩
  | succ k ih =>
    intro hk
    rw [spW_succ]
    cases hs : hsB s (nI v) with
    | false =>
      rw [cond_false, ih (by omega), hs]
      refine ⟨fun q => ?_, fun q => ?_⟩
      · rcases q with q | ⟨q, _⟩
        · exact Or.inl q
        · cases q
      · rcases q with q | ⟨q, _⟩
        · exact Or.inl q
        · cases q
    | true =>
      rw [cond_true, sp_T h hv (by omega) ht, ih (by omega), hs]
      refine ⟨fun q => ?_, fun q => ?_⟩
      · rcases q with (q | ⟨_, k', h1, h2⟩) | q
        · exact Or.inl q
        · exact Or.inr ⟨rfl, k', by omega, h2⟩
        · exact Or.inr ⟨rfl, k, by omega, q⟩
      · rcases q with q | ⟨_, k', h1, h2⟩
        · exact Or.inl (Or.inl q)
        · rcases Nat.lt_or_ge k' k with z | z
          · exact Or.inl (Or.inr ⟨rfl, k', z, h2⟩)
          · rw [show k' = k by omega] at h2; exact Or.inr h2
theorem sp_O (h : tp_H) (s : Int32) {t : Nat} (ht : t < 24) : ∀ v, v ≤ 24 → (hsB (spO h s v) (nI t) = true ↔ hsB s (nI t) = true ∨ ∃ w k, w < v ∧ k < 4 ∧ hsB s (nI w) = true ∧ bE h w t k) := by
  intro v
  induction v with
  | zero => intro _; exact ⟨Or.inl, fun q => by rcases q with q | ⟨w, k, hw, _⟩; exact q; exact absurd hw (Nat.not_lt_zero w)⟩
  | succ v ih =>
    intro hv
    rw [spO_succ, sp_W h s _ (by omega) ht 4 (Nat.le_refl 4), ih (by omega)]
    refine ⟨fun q => ?_, fun q => ?_⟩
    · rcases q with (q | ⟨w, k, h1, h2, h3, h4⟩) | ⟨h3, k, h2, h4⟩
      · exact Or.inl q
      · exact Or.inr ⟨w, k, by omega, h2, h3, h4⟩
      · exact Or.inr ⟨v, k, by omega, h2, h3, h4⟩
    · rcases q with q | ⟨w, k, h1, h2, h3, h4⟩
      · exact Or.inl (Or.inl q)
      · rcases Nat.lt_or_ge w v with z | z
        · exact Or.inl (Or.inr ⟨w, k, z, h2, h3, h4⟩)
        · rw [show w = v by omega] at h3 h4; exact Or.inr ⟨h3, k, h2, h4⟩
theorem fs_R (h : tp_H) {a : Nat} (ha : a < 24) : ∀ n t, t < 24 → (hsB (fsI h (nI a) n) (nI t) = true ↔ bR h a n t) := by
  intro n
  induction n with
  | zero =>
    intro t ht
    show hsB (1 <<< (nI a &&& 31)) (nI t) = true ↔ t = a
    rw [hs_1 ha ht, decide_eq_true_eq]
    exact ⟨fun q => q.symm, fun q => q.symm⟩
  | succ n ih =>
    intro t ht
    rw [fsI_succ, sp_O h _ ht 24 (Nat.le_refl 24), ih t ht]
    refine ⟨fun q => ?_, fun q => ?_⟩
    · rcases q with q | ⟨w, k, h1, h2, h3, h4⟩
      · exact Or.inl q
      · exact Or.inr ⟨w, k, h1, h2, (ih w h1).mp h3, h4⟩
    · rcases q with q | ⟨w, k, h1, h2, h3, h4⟩
      · exact Or.inl q
      · exact Or.inr ⟨w, k, h1, h2, (ih w h1).mpr h3, h4⟩
theorem k_far {h : tp_H} {a b : Int32} (hw : wfH h) (ha : isT a = true) (hb : isT b = true) : farD h a b = frM h a b := by
  obtain ⟨u, hu, rfl, cu⟩ := isT_j ha
  obtain ⟨v, hv, rfl, cv⟩ := isT_j hb
  unfold farD frM
  rw [show nN (nI u) = u from cu, show nN (nI v) = v from cv]
  rcases far_ch (h := h) hu hv with ⟨e, hn⟩ | ⟨n, hn, e, h1, h2⟩
  · rw [e, fiV_no (fun k _ _ => ?_)]
    unfold frP
    cases hc : hsB (fsI h (nI u) k) (nI v)
    · rfl
    · exact absurd ((fs_R h hu k v hv).mp hc) (hn k)
  · rw [e, fiV_at (Nat.zero_le n) (by omega) ((fs_R h hu n v hv).mpr h1) (fun m _ hm => ?_)]
    unfold frP
    cases hc : hsB (fsI h (nI u) m) (nI v)
    · rfl
    · have := h2 m ((fs_R h hu m v hv).mp hc)
      omega
