/-! what is read and told, on both sides -/
theorem bB_and {a b : Bool} (h : (bif a then b else false) = true) : a = true ∧ b = true := by
  cases a with
  | true => exact ⟨rfl, h⟩
  | false => cases h
theorem eq_comHo {a b : tp_H} (e : eqH a b) (kd f ho : Int32) : eqH (comH a kd f ho) (comH b kd f ho) := by
  obtain ⟨e1, e2, e3, e4, e5⟩ := e
  refine ⟨e1, e2, e3, by show hM a + 1 = hM b + 1; rw [e4], fun i hi => ?_⟩
  have hi2 : i < hM a + 1 := hi
  show tg_u (hK a) (hM a) kd i = tg_u (hK b) (hM b) kd i ∧ tg_u (hF a) (hM a) f i = tg_u (hF b) (hM b) f i ∧ tg_u (hH a) (hM a) ho i = tg_u (hH b) (hM b) ho i ∧ tg_u (hT a) (hM a) ho i = tg_u (hT b) (hM b) ho i ∧ tg_u (hP a) (hM a) 0 i = tg_u (hP b) (hM b) 0 i
  simp only [tg_u_eq, ← e4]
  by_cases q : i = hM a
  · simp only [q, if_true, and_self]
  · simp only [q, if_false]
    exact e5 i (by omega)
theorem wf_comHo {h : tp_H} (hw : wfH h) (hm : hM h < 7) {kd f ho : Int32} (h1 : isT ho = true) (h2 : upTo f 9 = true) : wfH (comH h kd f ho) := by
  refine ⟨by show hM h + 1 ≤ 7; omega, hw.2.1, fun i hi => ?_⟩
  have hi2 : i < hM h + 1 := hi
  show isT (tg_u (hT h) (hM h) ho i) = true ∧ isT (tg_u (hH h) (hM h) ho i) = true ∧ upTo (tg_u (hF h) (hM h) f i) 9 = true
  simp only [tg_u_eq]
  by_cases q : i = hM h
  · simp only [q, if_true]; exact ⟨h1, h1, h2⟩
  · simp only [q, if_false]; exact hw.2.2 i (by omega)
theorem wf_putHo {h : tp_H} (hw : wfH h) {one ti : Int32} (ho : hasB h one = true) (ht : isT ti = true) : wfH (putH h one ti) := by
  obtain ⟨j, hj, e, cj⟩ := has_j hw.1 ho
  rw [e, putH_j hw.1 hj]
  exact wf_sT hw ht
theorem nI_ne {a b : Nat} (h : a < b) (hb : b < 2 ^ 31) : ¬ nI a = nI b := fun e => absurd (nI_lt h hb) (by rw [e]; exact Int32.lt_irrefl)
theorem nI_sb (r j : Nat) : nI (r + j) - nI r = nI j := by
  induction j with
  | zero => exact Int32.sub_self _
  | succ j ih => rw [show r + (j + 1) = r + j + 1 from rfl, nI_succ, nI_succ, ← ih, Int32.sub_eq_add_neg, Int32.sub_eq_add_neg, Int32.add_assoc, Int32.add_assoc, Int32.add_comm 1]
theorem at_in {x : tp_X} {s : Nat} (hl : xLm x ≤ 96) (hs : s < xLm x) : atL x (nI s) = xLe x s := by
  unfold atL; rw [if_neg (nI_pos (by omega)), if_neg (nI_ge hs (by omega)), nI_clamp (by omega)]
theorem st_mid {x : tp_X} {s : Nat} : ∀ {i k : Nat}, stS x i = s → s ≤ k → k ≤ i → stS x k = s := by
  intro i
  induction i with
  | zero =>
    intro k h h1 h2
    rw [show k = 0 by omega]; exact h
  | succ i ih =>
    intro k h h1 h2
    rcases Nat.lt_or_ge k (i + 1) with q | q
    · rw [stS_succ] at h
      split at h
      · omega
      · exact ih h h1 (by omega)
    · rw [show k = i + 1 by omega]; exact h
theorem isD_eq (c : Int32) : isD c = (if c < 48 then false else if 57 < c then false else true) := by
  unfold isD inB
  by_cases h1 : c < 48
  · rw [if_pos h1, decide_eq_true h1]; rfl
  · rw [if_neg h1, decide_eq_false h1]
    by_cases h2 : 57 < c
    · rw [if_pos h2, decide_eq_true h2]; rfl
    · rw [if_neg h2, decide_eq_false h2]; rfl
theorem ko_no {c : Int32} (h0 : ¬ c = 107) (h1 : ¬ c = 104) (h2 : ¬ c = 102) (h3 : ¬ c = 115) (h4 : ¬ c = 119) (h5 : ¬ c = 110) : koL c = -9 ∧ koM c = -1 := by
  refine ⟨fiV_no (fun k hk hk2 => ?_), ?_⟩
  · have h : ∀ i : Fin 6, klI i.1 = 107 ∨ klI i.1 = 104 ∨ klI i.1 = 102 ∨ klI i.1 = 115 ∨ klI i.1 = 119 ∨ klI i.1 = 110 := by decide +kernel
    refine decide_eq_false (fun e => ?_)
    rcases h ⟨k, by omega⟩ with q | q | q | q | q | q <;> rw [q] at e <;> subst e <;> first | exact h0 rfl | exact h1 rfl | exact h2 rfl | exact h3 rfl | exact h4 rfl | exact h5 rfl
  · unfold koM; rw [if_neg h0, if_neg h1, if_neg h2, if_neg h3, if_neg h4, if_neg h5]
theorem ko_all (c : Int32) : (koM c = koL c ∧ 0 ≤ koM c ∧ ¬ koL c = -9) ∨ (koM c = -1 ∧ koL c = -9) := by
  by_cases h0 : c = 107
  · rw [h0]; exact Or.inl (by decide)
  · by_cases h1 : c = 104
    · rw [h1]; exact Or.inl (by decide)
    · by_cases h2 : c = 102
      · rw [h2]; exact Or.inl (by decide)
      · by_cases h3 : c = 115
        · rw [h3]; exact Or.inl (by decide)
        · by_cases h4 : c = 119
          · rw [h4]; exact Or.inl (by decide)
          · by_cases h5 : c = 110
            · rw [h5]; exact Or.inl (by decide)
            · exact Or.inr ⟨(ko_no h0 h1 h2 h3 h4 h5).2, (ko_no h0 h1 h2 h3 h4 h5).1⟩
theorem ko_iff (c : Int32) : decide (0 ≤ koM c) = decide (¬ koL c = -9) := by
  rcases ko_all c with ⟨-, h2, h3⟩ | ⟨h1, h2⟩
  · rw [decide_eq_true h2, decide_eq_true h3]
  · rw [h1, h2]; decide
theorem ko_eq {c : Int32} (h : 0 ≤ koM c) : koM c = koL c := by
  rcases ko_all c with ⟨h1, -, -⟩ | ⟨h1, -⟩
  · exact h1
  · rw [h1] at h; exact absurd h (by decide)
theorem lo_nA {f : Int32} (h : isF f = true) : loL f - 1 = nI (nA f + 1) ∧ nA f ≤ 4 ∧ 2 ≤ nA f ∧ ¬ f = 59 ∧ ¬ f = -1 := by
  by_cases h0 : f = 108
  · rw [h0]; decide
  · by_cases h1 : f = 97
    · rw [h1]; decide
    · by_cases h2 : f = 99
      · rw [h2]; decide
      · by_cases h3 : f = 115
        · rw [h3]; decide
        · by_cases h4 : f = 112
          · rw [h4]; decide
          · by_cases h5 : f = 110
            · rw [h5]; decide
            · unfold isF at h
              rw [if_neg h0, if_neg h1, if_neg h2, if_neg h3, if_neg h4, if_neg h5] at h
              cases h
theorem ms_nf {f : Int32} (h : isF f = false) (b c : Int32) : msB f b c = false := by
  have e : loL f = 0 := by
    unfold isF at h
    unfold loL
    by_cases h0 : f = 108
    · rw [if_pos h0] at h; cases h
    · rw [if_neg h0] at h ⊢
      by_cases h1 : f = 97
      · rw [if_pos h1] at h; cases h
      · rw [if_neg h1] at h ⊢
        by_cases h2 : f = 99
        · rw [if_pos h2] at h; cases h
        · rw [if_neg h2] at h ⊢
          by_cases h3 : f = 115
          · rw [if_pos h3] at h; cases h
          · rw [if_neg h3] at h ⊢
            by_cases h4 : f = 112
            · rw [if_pos h4] at h; cases h
            · rw [if_neg h4] at h ⊢
              by_cases h5 : f = 110
              · rw [if_pos h5] at h; cases h
              · rw [if_neg h5]
  unfold msB
  rw [e, if_pos (by decide)]
theorem ps_ms {f : Int32} (hf : isF f = true) {j : Nat} (hj : j ≤ nA f + 1) (c : Int32) : msB f (nI j) c = PS f j c := by
  obtain ⟨l1, l2, l3, -, -⟩ := lo_nA hf
  unfold msB
  rw [l1, if_neg (nI_pos (by omega))]
  rcases Nat.eq_zero_or_pos j with z | z
  · subst z
    rw [if_pos (show nI 0 = 0 from rfl), PS_0, hf]
  · rw [if_neg (fun e => nI_ne z (by omega) (show nI 0 = nI j from e.symm))]
    rcases Nat.lt_or_ge j (nA f + 1) with q | q
    · rw [if_neg (nI_ne q (by omega))]
      have e : PS f j c = PA f (j - 1) c := by unfold PS; rw [if_neg (by omega), if_neg (by omega)]
      rw [e]
      unfold PA
      by_cases h8 : f = 108
      · rw [if_pos h8, if_pos h8]
        unfold PL
        by_cases j1 : j = 1
        · subst j1
          rw [if_pos (show nI 1 = 1 from rfl), if_pos (show 1 - 1 = 0 from rfl), ko_iff]
        · rw [if_neg (fun e => nI_ne (a := 1) (b := j) (by omega) (by omega) (show nI 1 = nI j from e.symm)), if_neg (show ¬ j - 1 = 0 by omega), isD_eq]
      · rw [if_neg h8, if_neg h8, isD_eq]
    · rw [show j = nA f + 1 by omega, if_pos rfl, PS_e]
theorem PA_59 (f : Int32) (j : Nat) : PA f j 59 = false := by
  unfold PA PL
  split
  · split <;> decide
  · decide
/-- no letter of a matched run is wanting -/
theorem ps_rng {y : tp_Y} {r : Nat} (hl : yTd y ≤ 96) (hr : r ≤ yTd y) : ∀ {n : Nat}, mtc (PS (cAt y r)) y r n → r + n ≤ yTd y ∧ (0 < n → isF (cAt y r) = true) := by
  intro n
  induction n with
  | zero => intro _; exact ⟨hr, fun q => absurd q (by omega)⟩
  | succ n ih =>
    intro h
    obtain ⟨h1, h2⟩ := ih (fun j hj => h j (by omega))
    have hf : isF (cAt y r) = true := by have h3 := h 0 (by omega); rw [PS_0] at h3; exact h3
    refine ⟨?_, fun _ => hf⟩
    have h4 : ¬ cAt y (r + n) = -1 := by
      intro e
      rcases Nat.eq_zero_or_pos n with z | z
      · subst z; exact (lo_nA hf).2.2.2.2 e
      · have h5 := h n (by omega)
        rw [e] at h5
        unfold PS at h5
        rw [if_neg (by omega)] at h5
        split at h5
        · exact absurd h5 (by decide)
        · rw [PA_m1] at h5; cases h5
    have h6 := cAt_lt hl h1 h4
    omega
section
variable {x : tp_X} {y : tp_Y} {r : Nat}
theorem ps_st (hxl : xLm x = yTd y) (hxe : xLe x = yTp y) (hl : yTd y ≤ 96) (hr : r ≤ yTd y) (hs : stS x r = r) : ∀ {j i : Nat}, mtc (PS (cAt y r)) y r i → j ≤ i → j ≤ nA (cAt y r) + 1 → stS x (r + j) = r := by
  intro j
  induction j with
  | zero => intro i _ _ _; exact hs
  | succ j ih =>
    intro i h h1 h2
    rw [show r + (j + 1) = r + j + 1 from rfl, stS_succ, if_neg, ih h (by omega) (by omega)]
    obtain ⟨g1, g2⟩ := ps_rng hl hr h
    have hf := g2 (by omega)
    rw [hxe, ← cAt_in hl (show r + j < yTd y by omega)]
    intro e
    rcases Nat.eq_zero_or_pos j with z | z
    · subst z; exact (lo_nA hf).2.2.2.1 e
    · have h5 := h j (by omega)
      rw [e] at h5
      unfold PS at h5
      rw [if_neg (by omega), if_neg (by omega), PA_59] at h5
      cases h5
theorem ps_ff (hxl : xLm x = yTd y) (hxe : xLe x = yTp y) (hl : yTd y ≤ 96) {j : Nat} (hj : r + j < yTd y) (hs : stS x (r + j) = r) : ffP x (r + j) = !msB (cAt y r) (nI j) (cAt y (r + j)) := by
  unfold ffP
  rw [hs, nI_sb, at_in (by omega) (by omega), hxe, cAt_in hl (show r < yTd y by omega), cAt_in hl hj]
theorem ps_fn (hxl : xLm x = yTd y) (hxe : xLe x = yTp y) (hl : yTd y ≤ 96) (hr : r ≤ yTd y) (hs : stS x r = r) {i : Nat} (h : mtc (PS (cAt y r)) y r i) (hi : i ≤ nA (cAt y r) + 2) {j : Nat} (hj : j < i) : ffP x (r + j) = false := by
  obtain ⟨g1, g2⟩ := ps_rng hl hr h
  have hf := g2 (by omega)
  rw [ps_ff hxl hxe hl (by omega) (ps_st hxl hxe hl hr hs h (by omega) (by omega)), ps_ms hf (by omega), h j hj]
  rfl
theorem ff_fail (hxl : xLm x = yTd y) (hxe : xLe x = yTp y) (hl : yTd y ≤ 96) (hr : r ≤ yTd y) (hs : stS x r = r) (hrr : r < yTd y ∨ r = 0) (hb : ∀ k, k < r → ffP x k = false) {i : Nat} (h : mtc (PS (cAt y r)) y r i) (hi : i ≤ nA (cAt y r) + 1) (g : PS (cAt y r) i (cAt y (r + i)) = false) : ffL x = nI (r + i) ∧ r + i ≤ 96 := by
  obtain ⟨g1, g2⟩ := ps_rng hl hr h
  have hst := ps_st hxl hxe hl hr hs h (Nat.le_refl i) hi
  have hp : ∀ k, k < r + i → ffP x k = false := by
    intro k hk
    rcases Nat.lt_or_ge k r with q | q
    · exact hb k q
    · have := ps_fn hxl hxe hl hr hs h (by omega) (j := k - r) (by omega)
      rw [show r + (k - r) = k by omega] at this
      exact this
  refine ⟨?_, by omega⟩
  unfold ffL
  rcases Nat.lt_or_ge (r + i) (yTd y) with q | q
  · refine fiV_at (k := r + i) (Nat.zero_le _) (by omega) ?_ (fun m _ hm => hp m hm)
    rw [ps_ff hxl hxe hl q hst]
    cases hf : isF (cAt y r) with
    | true => rw [ps_ms hf hi, g]; rfl
    | false => rw [ms_nf hf]; rfl
  · rw [fiV_no (fun k _ hk => hp k (by omega))]
    have e : xLm x = r + i := by omega
    unfold ffE
    rcases Nat.eq_zero_or_pos (r + i) with z | z
    · rw [e, z, if_pos (show nI 0 = 0 from rfl)]
    · have hi0 : 0 < i := by
        rcases Nat.eq_zero_or_pos i with z2 | z2
        · subst z2; omega
        · exact z2
      rw [e, hst, if_neg (fun w => nI_ne z (by omega) (show nI 0 = nI (r + i) from w.symm)), if_pos (nI_lt (by omega) (by omega))]
theorem ff_end (hxl : xLm x = yTd y) (hl : yTd y ≤ 96) (hr : r = yTd y) (h0 : 0 < r) (hs : stS x r = r) (hb : ∀ k, k < r → ffP x k = false) : ffL x = -9 := by
  unfold ffL
  rw [fiV_no (fun k _ hk => hb k (by omega))]
  have e : xLm x = r := by omega
  unfold ffE
  rw [e, hs, if_neg (fun w => nI_ne h0 (by omega) (show nI 0 = nI r from w.symm)), if_neg Int32.lt_irrefl]
end
/-- one statement, from its first letter to behind its last -/
def stG (x : tp_X) (s e : Nat) : Prop := s < e ∧ e ≤ xLm x ∧ stS x s = s ∧ xLe x (e - 1) = 59 ∧ ∀ k, s ≤ k → k + 1 < e → ¬ xLe x k = 59
theorem stG_m {x : tp_X} {s e : Nat} (h : stG x s e) (t : tp_H) : ∀ {j : Nat}, s + j < e → stS x (s + j) = s ∧ tcN x (s + j) = tcN x s ∧ tcH x t (s + j) = tcH x t s := by
  intro j
  induction j with
  | zero => intro _; exact ⟨h.2.2.1, rfl, rfl⟩
  | succ j ih =>
    intro hj
    obtain ⟨a, b, c⟩ := ih (by omega)
    have n : ¬ xLe x (s + j) = 59 := h.2.2.2.2 (s + j) (by omega) (by omega)
    rw [show s + (j + 1) = s + j + 1 from rfl, stS_succ, tcN_succ, tcH_succ, if_neg n, if_neg n, if_neg n]
    exact ⟨a, b, c⟩
theorem stG_e {x : tp_X} {s e : Nat} (h : stG x s e) (t : tp_H) : stS x e = e ∧ tcN x e = tcN x s + 1 ∧ tcH x t e = tsH x (tcH x t s) (nI s) ∧ stS x (e - 1) = s ∧ tcP x t (e - 1) = !tsB x (tcH x t s) (nI s) := by
  obtain ⟨h1, h2, h3, h4, h5⟩ := h
  obtain ⟨a, b, c⟩ := stG_m ⟨h1, h2, h3, h4, h5⟩ t (j := e - 1 - s) (by omega)
  rw [show s + (e - 1 - s) = e - 1 by omega] at a b c
  have q : e = e - 1 + 1 := by omega
  have z1 := stS_succ x (e - 1)
  have z2 := tcN_succ x (e - 1)
  have z3 := tcH_succ x t (e - 1)
  rw [if_pos h4, ← q] at z1 z2 z3
  refine ⟨z1, by rw [z2, b], by rw [z3, c, a], a, ?_⟩
  unfold tcP
  rw [if_pos h4, c, a]
theorem stG_P {x : tp_X} {s e : Nat} (h : stG x s e) {t : tp_H} (hp : ∀ k, k < s → tcP x t k = false) : ∀ k, k < e - 1 → tcP x t k = false := by
  intro k hk
  rcases Nat.lt_or_ge k s with q | q
  · exact hp k q
  · unfold tcP
    rw [if_neg (h.2.2.2.2 k q (by omega))]
theorem stG_P1 {x : tp_X} {s e : Nat} (h : stG x s e) {t : tp_H} (hp : ∀ k, k < s → tcP x t k = false) (hb : tsB x (tcH x t s) (nI s) = true) : ∀ k, k < e → tcP x t k = false := by
  intro k hk
  rcases Nat.lt_or_ge k (e - 1) with q | q
  · exact stG_P h hp k q
  · rw [show k = e - 1 by omega, (stG_e h t).2.2.2.2, hb]; rfl
/-- the answer, and the hearth behind it -/
def chA (x : tp_X) (h : tp_H) : Int32 := if ffL x = -9 then fiV (tcP x h) (tcV x) (nI (tcN x (xLm x))) (xLm x) 0 else -1000 - ffL x
def chH (x : tp_X) (h : tp_H) : tp_H := if ffL x = -9 ∧ ∀ k, k < xLm x → tcP x h k = false then tcH x h (xLm x) else h
theorem ch_f {x : tp_X} {h : tp_H} {k : Nat} (e : ffL x = nI k) (hk : k ≤ 96) : chA x h = -1000 - nI k ∧ chH x h = h := by
  have n : ¬ ffL x = -9 := by rw [e]; exact nI_n9 (by omega)
  unfold chA chH
  rw [if_neg n, if_neg (fun q => n q.1), e]
  exact ⟨rfl, rfl⟩
theorem ch_bad {x : tp_X} {h : tp_H} {s e : Nat} (hff : ffL x = -9) (hG : stG x s e) (hp : ∀ k, k < s → tcP x h k = false) (hb : tsB x (tcH x h s) (nI s) = false) : chA x h = -2000 - nI s ∧ chH x h = h := by
  obtain ⟨a, b, c, d, f⟩ := stG_e hG h
  rw [hb] at f
  have h1 := hG.1
  have h2 := hG.2.1
  unfold chA chH
  refine ⟨?_, if_neg (fun q => ?_)⟩
  · rw [if_pos hff, fiV_at (k := e - 1) (Nat.zero_le _) (by omega) f (fun m _ hm => stG_P hG hp m hm)]
    unfold tcV
    rw [d]
  · have := q.2 (e - 1) (by omega)
    rw [f] at this
    cases this
theorem ch_ok {x : tp_X} {h : tp_H} (hff : ffL x = -9) (hp : ∀ k, k < xLm x → tcP x h k = false) : chA x h = nI (tcN x (xLm x)) ∧ chH x h = tcH x h (xLm x) := by
  unfold chA chH
  exact ⟨by rw [if_pos hff, fiV_no (fun k _ hk => hp k (by omega))], if_pos ⟨hff, hp⟩⟩
/-! rows alike, told alike -/
theorem ts_cong {x : tp_X} {a b : tp_H} (e : eqH a b) (hm : hM a ≤ 7) (s : Int32) : tsB x a s = tsB x b s ∧ eqH (tsH x a s) (tsH x b s) := by
  unfold tsB tsH
  by_cases h1 : atL x s = 97
  · rw [if_pos h1, if_pos h1, if_pos h1, if_pos h1]
    have : saB a (dgL x (s + 1)) (nuL x (s + 2)) = saB b (dgL x (s + 1)) (nuL x (s + 2)) := by unfold saB; rw [eq_has e]
    refine ⟨this, ?_⟩
    unfold saH
    rw [this]
    cases saB b (dgL x (s + 1)) (nuL x (s + 2)) with
    | true => exact eq_putH hm e _ _
    | false => exact e
  · rw [if_neg h1, if_neg h1, if_neg h1, if_neg h1]
    by_cases h2 : atL x s = 99
    · rw [if_pos h2, if_pos h2, if_pos h2, if_pos h2]
      refine ⟨rfl, ?_⟩
      unfold scH
      cases isT (nuL x (s + 1)) with
      | true => exact eq_crkH e _
      | false => exact e
    · rw [if_neg h2, if_neg h2, if_neg h2, if_neg h2]
      by_cases h3 : atL x s = 108
      · rw [if_pos h3, if_pos h3, if_pos h3, if_pos h3]
        have : tlB a (nuL x (s + 3)) = tlB b (nuL x (s + 3)) := by unfold tlB; rw [e.2.2.2.1]
        refine ⟨this, ?_⟩
        unfold tlH
        rw [this]
        cases tlB b (nuL x (s + 3)) with
        | true => exact eq_comHo e _ _ _
        | false => exact e
      · rw [if_neg h3, if_neg h3, if_neg h3, if_neg h3]
        by_cases h4 : atL x s = 110
        · rw [if_pos h4, if_pos h4, if_pos h4, if_pos h4]
          have : snB a (nuL x (s + 1)) = snB b (nuL x (s + 1)) := by unfold snB; rw [e.2.2.1]
          refine ⟨this, ?_⟩
          unfold snH
          rw [this]
          cases snB b (nuL x (s + 1)) with
          | true => exact eq_pNs hm e _
          | false => exact e
        · rw [if_neg h4, if_neg h4, if_neg h4, if_neg h4]
          by_cases h5 : atL x s = 112
          · rw [if_pos h5, if_pos h5, if_pos h5, if_pos h5]
            refine ⟨eq_has e _, ?_⟩
            unfold spH
            rw [eq_has e]
            cases hasB b (dgL x (s + 1)) with
            | true => exact eq_senH hm e _ _
            | false => exact e
          · rw [if_neg h5, if_neg h5, if_neg h5, if_neg h5]
            by_cases h6 : atL x s = 115
            · rw [if_pos h6, if_pos h6, if_pos h6]
              refine ⟨rfl, ?_⟩
              unfold ssH
              cases isT (nuL x (s + 1)) with
              | true => exact eq_sS e _
              | false => exact e
            · rw [if_neg h6, if_neg h6, if_neg h6]
              exact ⟨rfl, e⟩
theorem tc_cong {x : tp_X} {a b : tp_H} (e : eqH a b) (hm : hM a ≤ 7) (i : Nat) : eqH (tcH x a i) (tcH x b i) := by
  induction i with
  | zero => exact e
  | succ i ih =>
    rw [tcH_succ, tcH_succ]
    split
    · exact (ts_cong ih (tcH_M hm i) _).2
    · exact ih
theorem tcP_cong {x : tp_X} {a b : tp_H} (e : eqH a b) (hm : hM a ≤ 7) : tcP x a = tcP x b := by
  funext i
  unfold tcP
  rw [(ts_cong (tc_cong (x := x) e hm i) (tcH_M hm i) _).1]
theorem chA_cong {x : tp_X} {a b : tp_H} (e : eqH a b) (hm : hM a ≤ 7) : chA x a = chA x b := by
  unfold chA; rw [tcP_cong e hm]
theorem wf_ts {x : tp_X} {t : tp_H} {s : Int32} (hw : wfH t) (hf : atL x s = 108 → upTo (dgL x (s + 2)) 9 = true) : wfH (tsH x t s) := by
  unfold tsH
  split
  · unfold saH
    cases q : saB t (dgL x (s + 1)) (nuL x (s + 2)) with
    | true =>
      unfold saB at q
      obtain ⟨q1, q2⟩ := bB_and q
      exact wf_putHo hw q1 q2
    | false => exact hw
  · split
    · unfold scH
      cases isT (nuL x (s + 1)) with
      | true => exact wf_crkH hw _
      | false => exact hw
    · split
      · rename_i h3
        unfold tlH
        cases q : tlB t (nuL x (s + 3)) with
        | true =>
          unfold tlB at q
          obtain ⟨q1, q2⟩ := bB_and q
          exact wf_comHo hw (of_decide_eq_true q2) q1 (hf h3)
        | false => exact hw
      · split
        · unfold snH
          cases snB t (nuL x (s + 1)) with
          | true => exact wf_pNs hw _
          | false => exact hw
        · split
          · unfold spH
            cases q : hasB t (dgL x (s + 1)) with
            | true =>
              obtain ⟨j, hj, e, cj⟩ := has_j hw.1 q
              rw [e]
              exact wf_senH hw hj _
            | false => exact hw
          · split
            · unfold ssH
              cases q : isT (nuL x (s + 1)) with
              | true => exact wf_sS hw q
              | false => exact hw
            · exact hw
theorem dg_up {c : Int32} (h : (if c < 48 then false else if 57 < c then false else true) = true) : upTo (c - 48) 9 = true := by
  have h1 : ¬ c < 48 := fun q => by rw [if_pos q] at h; cases h
  rw [if_neg h1] at h
  have h2 : ¬ 57 < c := fun q => by rw [if_pos q] at h; cases h
  obtain ⟨j, hj, rfl⟩ := nI_of (fun q => h1 (Int32.lt_trans q (by decide)))
  have h3 : 48 ≤ j := by
    rcases Nat.lt_or_ge j 48 with q | q
    · exact absurd (show nI j < nI 48 from nI_lt q (by omega)) h1
    · exact q
  have h4 : j ≤ 57 := by
    rcases Nat.lt_or_ge 57 j with q | q
    · exact absurd (show nI 57 < nI j from nI_lt q hj) h2
    · exact q
  have hd : ∀ i : Fin 10, upTo (nI (48 + i.1) - 48) 9 = true := by decide +kernel
  have := hd ⟨j - 48, by omega⟩
  rw [show 48 + (⟨j - 48, by omega⟩ : Fin 10).1 = j by show 48 + (j - 48) = j; omega] at this
  exact this
/-- the hearth that is told stays in order -/
theorem wf_tc {x : tp_X} {h : tp_H} (hl : xLm x ≤ 96) (hw : wfH h) (hb : ∀ k, k < xLm x → ffP x k = false) : ∀ {i : Nat}, i ≤ xLm x → wfH (tcH x h i) := by
  intro i
  induction i with
  | zero => intro _; exact hw
  | succ i ih =>
    intro hi
    rw [tcH_succ]
    split
    · rename_i h59
      refine wf_ts (ih (by omega)) (fun h108 => ?_)
      have hs := stS_le x i
      obtain ⟨d, hd⟩ : ∃ d, i = stS x i + d := ⟨i - stS x i, by omega⟩
      have h1 := hb i (by omega)
      unfold ffP at h1
      rw [h108, h59] at h1
      have hsb : nI i - nI (stS x i) = nI d := by
        have := nI_sb (stS x i) d
        rw [← hd] at this
        exact this
      rw [hsb] at h1
      have hd3 : 3 ≤ d := by
        rcases Nat.lt_or_ge d 3 with q | q
        · exfalso
          rcases Nat.eq_zero_or_pos d with z | z
          · have e0 : stS x i = i := by omega
            rw [e0, at_in hl (by omega), h59] at h108
            exact absurd h108 (by decide)
          · have : d = 1 ∨ d = 2 := by omega
            rcases this with rfl | rfl
            · exact absurd h1 (by decide)
            · exact absurd h1 (by decide)
        · exact q
      have h2 := hb (stS x i + 2) (by omega)
      unfold ffP at h2
      rw [st_mid (i := i) (k := stS x i + 2) rfl (by omega) (by omega), h108, nI_sb] at h2
      have h3 : msB 108 (nI 2) (xLe x (stS x i + 2)) = true := by
        cases q : msB 108 (nI 2) (xLe x (stS x i + 2)) with
        | true => rfl
        | false => rw [q] at h2; cases h2
      rw [ps_ms (f := 108) (j := 2) (by decide) (by decide)] at h3
      have h4 : isD (xLe x (stS x i + 2)) = true := h3
      rw [isD_eq] at h4
      have h5 := dg_up h4
      unfold dgL
      rw [nI_p2, at_in hl (by omega)]
      exact h5
    · exact ih (by omega)
