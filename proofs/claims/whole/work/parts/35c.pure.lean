/-! where class and reference go different ways to one answer: fractions -/
theorem bif1 {b : Bool} {c d : Int32} (hd : ¬ d = 0) (h : (bif b then c else d) = 0) : b = true ∧ c = 0 := by
  cases b
  · exact absurd h hd
  · exact ⟨rfl, h⟩
theorem lc_0 {a : Int64} : lg_cmp a 0 = 0 ↔ a = 0 := by
  refine ⟨fun q => ?_, fun q => by rw [q]; decide⟩
  unfold lg_cmp at q
  by_cases h1 : 0 < a
  · rw [if_pos h1] at q; exact absurd q (by decide)
  · rw [if_neg h1] at q
    by_cases h2 : a = 0
    · exact h2
    · rw [if_neg h2] at q; exact absurd q (by decide)
theorem rem_lt {a b : Int64} (ha : 0 ≤ a.toInt) (hb : 0 < b.toInt) : 0 ≤ (a % b).toInt ∧ (a % b).toInt < b.toInt := by
  rw [Int64.toInt_mod]
  exact ⟨Int.tmod_nonneg _ ha, Int.tmod_lt_of_pos _ hb⟩
/-- both are not below 0, not both are 0 -/
theorem eu_pos {a b : Int64} (ha : 0 ≤ a.toInt) (hb : 0 ≤ b.toInt) (hab : 0 < a.toInt + b.toInt) : ∀ i, 0 ≤ (eu a b i).1.toInt ∧ 0 ≤ (eu a b i).2.toInt ∧ 0 < (eu a b i).1.toInt + (eu a b i).2.toInt := by
  intro i
  induction i with
  | zero => exact ⟨ha, hb, hab⟩
  | succ i ih =>
    obtain ⟨h1, h2, h3⟩ := ih
    rw [eu_succ]
    split
    · exact ⟨h1, h2, h3⟩
    · rename_i q
      have hp : 0 < (eu a b i).2.toInt := by
        rcases Int.lt_or_eq_of_le h2 with z | z
        · exact z
        · exact absurd (lc_0.mpr (Int64.toInt_inj.mp (show (eu a b i).2.toInt = (0 : Int64).toInt from z.symm))) q
      obtain ⟨r1, r2⟩ := rem_lt h1 hp
      exact ⟨h2, r1, by show 0 < (eu a b i).2.toInt + ((eu a b i).1 % (eu a b i).2).toInt; omega⟩
theorem eu_half {a b : Int64} (ha : 0 ≤ a.toInt) (hb : 0 ≤ b.toInt) (hab : 0 < a.toInt + b.toInt) (i : Nat) : 2 * (eu a b (i + 2)).2.toInt ≤ (eu a b i).2.toInt := by
  obtain ⟨h1, h2, h3⟩ := eu_pos ha hb hab i
  obtain ⟨g1, g2, g3⟩ := eu_pos ha hb hab (i + 1)
  by_cases q : lg_cmp (eu a b i).2 0 = 0
  · have e0 := lc_0.mp q
    have e2 := eu_stop q 2
    rw [e2, e0]
    decide
  · have e1 : eu a b (i + 1) = ((eu a b i).2, (eu a b i).1 % (eu a b i).2) := by rw [eu_succ, if_neg q]
    have hp : 0 < (eu a b i).2.toInt := by
      rcases Int.lt_or_eq_of_le h2 with z | z
      · exact z
      · exact absurd (lc_0.mpr (Int64.toInt_inj.mp (show (eu a b i).2.toInt = (0 : Int64).toInt from z.symm))) q
    obtain ⟨r1, r2⟩ := rem_lt h1 hp
    rw [show i + 2 = (i + 1) + 1 from rfl, eu_succ]
    by_cases q2 : lg_cmp (eu a b (i + 1)).2 0 = 0
    · rw [if_pos q2, lc_0.mp q2]
      show 2 * (0 : Int64).toInt ≤ _
      rw [show (0 : Int64).toInt = 0 from rfl]
      omega
    · rw [if_neg q2]
      show 2 * ((eu a b (i + 1)).1 % (eu a b (i + 1)).2).toInt ≤ _
      rw [e1]
      show 2 * ((eu a b i).2 % ((eu a b i).1 % (eu a b i).2)).toInt ≤ _
      have hr : 0 < ((eu a b i).1 % (eu a b i).2).toInt := by
        rcases Int.lt_or_eq_of_le r1 with z | z
        · exact z
        · refine absurd (lc_0.mpr ?_) q2
          rw [e1]
          exact Int64.toInt_inj.mp (show ((eu a b i).1 % (eu a b i).2).toInt = (0 : Int64).toInt from z.symm)
      generalize hR : ((eu a b i).1 % (eu a b i).2) = rr at hr r2
      rw [Int64.toInt_mod]
      have hB := hp
      generalize (eu a b i).2.toInt = B at hB r2 ⊢
      have h5 : B.tmod rr.toInt < rr.toInt := Int.tmod_lt_of_pos _ hr
      have h6 := Int.mul_tdiv_add_tmod B rr.toInt
      have h7 : 1 ≤ B.tdiv rr.toInt := by
        rw [Int.tdiv_eq_ediv_of_nonneg (by omega)]
        exact (Int.le_ediv_iff_mul_le hr).mpr (by omega)
      have h8 : rr.toInt * 1 ≤ rr.toInt * B.tdiv rr.toInt := Int.mul_le_mul_of_nonneg_left h7 (by omega)
      omega
theorem eu_sm {a b : Int64} (ha : 0 ≤ a.toInt) (hb : 0 ≤ b.toInt) (hab : 0 < a.toInt + b.toInt) (k : Nat) : 2 ^ k * (eu a b (2 * k)).2.toInt ≤ b.toInt := by
  induction k with
  | zero => show 1 * (eu a b 0).2.toInt ≤ _; rw [Int.one_mul]; exact Int.le_refl _
  | succ k ih =>
    have h := eu_half ha hb hab (2 * k)
    rw [show 2 * (k + 1) = 2 * k + 2 by omega, Int.pow_succ, Int.mul_assoc]
    have := Int.mul_le_mul_of_nonneg_left h (show (0 : Int) ≤ 2 ^ k from Int.le_of_lt (Int.pow_pos (by decide)))
    omega
theorem okE_of {a b : Int64} (ha : 0 ≤ a.toInt) (hb : 0 < b.toInt) : okE a b := by
  have h := eu_sm ha (Int.le_of_lt hb) (by omega) 64
  have h63 : b.toInt < 2 ^ 63 := Int64.toInt_lt b
  obtain ⟨p1, p2, p3⟩ := eu_pos ha (Int.le_of_lt hb) (by omega) 128
  have hz : (eu a b 128).2.toInt = 0 := by
    have h' : 2 ^ 64 * (eu a b 128).2.toInt ≤ b.toInt := h
    omega
  refine ⟨lc_0.mpr (Int64.toInt_inj.mp (show (eu a b 128).2.toInt = (0 : Int64).toInt from hz)), fun q => ?_⟩
  rw [q, hz] at p3
  exact absurd p3 (by decide)
theorem pt_eq {a b : Int64} (hb : ¬ b = 0) (h : okE a b) (part : Int32) : (if lg_cmp a 0 = 0 then (if part = 0 then (0 : Int64) else 1) else if lg_cmp b 0 = 0 then (if part = 0 then 0 else 1) else (if part = 0 then a else b) / cdv a b) = pdM a b part := by
  unfold pdM
  have hc : cdv a b = (eu a b 128).1 := by
    unfold cdv
    rw [if_neg (fun q => h.2 (lc_0.mp q))]
  by_cases q : lg_cmp a 0 = 0
  · have ha := lc_0.mp q
    subst ha
    have e1 : eu 0 b 1 = (b, 0) := by
      rw [show (1 : Nat) = 0 + 1 from rfl, eu_succ]
      show (if lg_cmp b 0 = 0 then ((0 : Int64), b) else (b, 0 % b)) = _
      rw [if_neg (fun z => hb (lc_0.mp z))]
      have : (0 : Int64) % b = 0 := Int64.toInt_inj.mp (by rw [Int64.toInt_mod, show (0 : Int64).toInt = 0 from rfl, Int.zero_tmod])
      rw [this]
    have e2 : eu 0 b 128 = (b, 0) := by
      have := eu_stop (a := 0) (b := b) (i := 1) (by rw [e1]; exact lc_0.mpr rfl) 127
      rw [show 1 + 127 = 128 from rfl] at this
      rw [this, e1]
    rw [if_pos q, e2]
    show (if part = 0 then (0 : Int64) else 1) = (if part = 0 then 0 else b) / b
    split
    · exact Int64.toInt_inj.mp (by rw [Int64.toInt_div, show (0 : Int64).toInt = 0 from rfl, Int.zero_tdiv]; rfl)
    · refine Int64.toInt_inj.mp ?_
      rw [Int64.toInt_div, Int.tdiv_self (fun z => hb (Int64.toInt_inj.mp (show b.toInt = (0 : Int64).toInt from z)))]
      rfl
  · rw [if_neg q, if_neg (fun z => hb (lc_0.mp z)), hc]
/-! what is above and below the line -/
def lNn (x : Int64) (n : Nat) : Prop := x.toInt = n
theorem ln_add {x z : Int64} {a b : Nat} (h1 : lNn x a) (h2 : lNn z b) (hb : a + b < 2 ^ 62) : lNn (x + z) (a + b) := by
  unfold lNn at *
  rw [Int64.toInt_add, h1, h2, Int.bmod_eq_of_le (by omega) (by omega)]
  omega
theorem ln_mul {x z : Int64} {a b : Nat} (h1 : lNn x a) (h2 : lNn z b) (hb : a * b < 2 ^ 62) : lNn (x * z) (a * b) := by
  unfold lNn at *
  rw [Int64.toInt_mul, h1, h2, ← Int.natCast_mul, Int.bmod_eq_of_le (by omega) (by omega)]
theorem fr_sm {h : tp_H} (hw : wfH h) {j : Nat} (hj : j < hM h) : ∃ v, v ≤ 8 ∧ frH h (nI j) = nI v := by
  unfold frH
  rw [gO_nI hw.1 hj, gO_nI hw.1 hj]
  obtain ⟨u, hu, eu, -⟩ := isT_j (hw.2.2 j hj).1
  obtain ⟨v, hv, ev, -⟩ := isT_j (hw.2.2 j hj).2.1
  rw [eu, ev]
  have hd : ∀ a b : Fin 24, (rcD (nI a.1) (nI b.1)).toNatClampNeg ≤ 8 ∧ rcD (nI a.1) (nI b.1) = nI (rcD (nI a.1) (nI b.1)).toNatClampNeg := by decide +kernel
  obtain ⟨d1, d2⟩ := hd ⟨u, hu⟩ ⟨v, hv⟩
  exact ⟨_, d1, d2⟩
theorem ln_nI {v : Nat} (hv : v < 2 ^ 31) : lNn (nI v).toInt64 v := by
  unfold lNn
  rw [Int32.toInt_toInt64, nI_toInt hv]
theorem me_ln {h : tp_H} (hw : wfH h) : ∀ i, i ≤ hM h → ∃ v, v ≤ 8 * i ∧ lNn (meS h i) v := by
  intro i
  induction i with
  | zero => intro _; exact ⟨0, by omega, rfl⟩
  | succ i ih =>
    intro hi
    obtain ⟨v, h1, h2⟩ := ih (by omega)
    obtain ⟨u, h3, h4⟩ := fr_sm hw (j := i) (by omega)
    have := hw.1
    refine ⟨v + u, by omega, ?_⟩
    rw [meS_succ, h4]
    exact ln_add h2 (ln_nI (by omega)) (by omega)
section
variable {h : tp_H}
theorem k_okM (hw : wfH h) : ¬ hM h = 0 → lg_cmp (eu (meS h (hM h)) (nI (hM h)).toInt64 128).2 0 = 0 ∧ ¬ (eu (meS h (hM h)) (nI (hM h)).toInt64 128).1 = 0 := by
  intro h0
  obtain ⟨v, h1, h2⟩ := me_ln hw _ (Nat.le_refl _)
  have h3 := ln_nI (v := hM h) (by have := hw.1; omega)
  unfold lNn at h2 h3
  exact okE_of (by rw [h2]; omega) (by rw [h3]; omega)
theorem k_mean (hw : wfH h) {part : Int32} (z : wWh part = 0) : aMea h part = (if hM h = 0 then part.toInt64 else pdM (meS h (hM h)) (nI (hM h)).toInt64 part) := by
  have hp : upTo part 1 = true := by
    unfold wWh at z
    cases hb : upTo part 1
    · rw [hb] at z; exact absurd z (by decide)
    · rfl
  unfold aMea
  by_cases h0 : hM h = 0
  · rw [if_pos h0, h0]
    show ptO 0 0 part = part.toInt64
    by_cases h1 : part = 1
    · rw [h1]; decide +kernel
    · rw [up1_0 hp h1]; decide +kernel
  · rw [if_neg h0]
    have h3 := ln_nI (v := hM h) (by have := hw.1; omega)
    unfold lNn at h3
    exact pt_eq (fun q => h0 (by rw [q] at h3; have : (0 : Int) = (hM h : Int) := h3; omega)) (k_okM hw h0) part
theorem pw_ln {td : Int32} {b : Nat} (hb : lNn td.toInt64 b) (hb20 : b ≤ 20) : ∀ i, i ≤ 7 → lNn (powL td i) (b ^ i) := by
  intro i
  induction i with
  | zero => intro _; rfl
  | succ i ih =>
    intro hi
    rw [powL_succ, Nat.pow_succ]
    refine ln_mul (ih (by omega)) hb ?_
    have h1 : b ^ i ≤ 20 ^ i := Nat.pow_le_pow_left hb20 i
    have h2 : 20 ^ i ≤ 20 ^ 6 := Nat.pow_le_pow_right (by decide) (by omega)
    have h3 : b ^ i * b ≤ 20 ^ 6 * 20 := Nat.mul_le_mul (Nat.le_trans h1 h2) hb20
    omega
theorem td_j {td : Int32} (h1 : ¬ td < 2) (h2 : ¬ 20 < td) : ∃ b, 2 ≤ b ∧ b ≤ 20 ∧ td = nI b := by
  obtain ⟨j, hj, e⟩ := nI_of2 (x := td) (M := 20) (n := 20) rfl (fun q => h1 (Int32.lt_trans q (by decide))) (Int32.not_lt.mp h2)
  refine ⟨j, ?_, hj, e⟩
  rcases Nat.lt_or_ge j 2 with q | q
  · rw [e] at h1
    exact absurd (nI_lt (a := j) (b := 2) q (by decide)) h1
  · exact q
theorem pt_ln {td s : Int32} {b : Nat} (hb : td = nI (b + 1)) (hb20 : b ≤ 19) : ∀ i, i ≤ 7 → ∃ v, v ≤ 19 ^ i ∧ lNn (ptM td s i) v := by
  intro i
  induction i with
  | zero => intro _; exact ⟨1, Nat.le_refl 1, rfl⟩
  | succ i ih =>
    intro hi
    obtain ⟨v, h1, h2⟩ := ih (by omega)
    rw [ptM_succ]
    have hp : 19 ^ i ≤ 19 ^ 6 := Nat.pow_le_pow_right (by decide) (by omega)
    cases hsB s (nI i) with
    | true =>
      refine ⟨v * 1, ?_, ln_mul h2 (show lNn 1 1 from rfl) (by omega)⟩
      rw [Nat.pow_succ]
      omega
    | false =>
      have e1 : td - 1 = nI b := by rw [hb]; exact nI_pred b
      refine ⟨v * b, ?_, ?_⟩
      · rw [Nat.pow_succ]; exact Nat.mul_le_mul h1 hb20
      · show lNn (ptM td s i * (td - 1).toInt64) (v * b)
        rw [e1]
        refine ln_mul h2 (ln_nI (by omega)) ?_
        have : v * b ≤ 19 ^ 6 * 19 := Nat.mul_le_mul (Nat.le_trans h1 hp) hb20
        omega
theorem up_ln (a k : Nat) {td : Int32} {b : Nat} (hb : td = nI (b + 1)) (hb20 : b ≤ 19) (hk : k ≤ 7) : ∀ s, s ≤ 128 → ∃ v, v ≤ s * 893871739 ∧ lNn (upM h a k td s) v := by
  intro s
  induction s with
  | zero => intro _; exact ⟨0, Nat.zero_le _, rfl⟩
  | succ s ih =>
    intro hs
    obtain ⟨v, h1, h2⟩ := ih (by omega)
    rw [upM_succ]
    have hp : 19 ^ k ≤ 893871739 := Nat.le_trans (Nat.pow_le_pow_right (by decide) hk) (by decide)
    have hv : v ≤ 128 * 893871739 := Nat.le_trans h1 (Nat.mul_le_mul_right _ (by omega))
    cases abB (chM h (nI s) k) (nI a) with
    | false =>
      refine ⟨v, Nat.le_trans h1 (Nat.mul_le_mul_right _ (Nat.le_succ s)), ?_⟩
      exact ln_add h2 (show lNn 0 0 from rfl) (Nat.lt_of_le_of_lt hv (by decide))
    | true =>
      obtain ⟨u, h3, h4⟩ := pt_ln (s := nI s) hb hb20 k hk
      have hu : u ≤ 893871739 := Nat.le_trans h3 hp
      refine ⟨v + u, ?_, ?_⟩
      · rw [Nat.succ_mul]; exact Nat.add_le_add h1 hu
      · exact ln_add h2 h4 (Nat.lt_of_le_of_lt (Nat.add_le_add hv hu) (by decide))
theorem k_okE (hw : wfH h) : ∀ a j td, a < hM h → j ≤ 7 → ¬ td < 2 → ¬ 20 < td → okE (upM h a j td (2 ^ j)) (powL td j) := by
  intro a j td _ hj h1 h2
  obtain ⟨b, b1, b2, eb⟩ := td_j h1 h2
  obtain ⟨v, v1, v2⟩ := up_ln (h := h) a j (td := td) (b := b - 1) (by rw [eb, show b - 1 + 1 = b by omega]) (by omega) hj (2 ^ j) (shl7 _ hj).2
  have hp := pw_ln (td := td) (b := b) (by rw [eb]; exact ln_nI (by omega)) b2 j hj
  unfold lNn at v2 hp
  refine okE_of (by rw [v2]; omega) ?_
  rw [hp]
  have : 0 < b ^ j := Nat.pow_pos (by omega)
  omega
end
