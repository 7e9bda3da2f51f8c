/-! where class and reference go different ways to one answer: coals; who is aboard first, all aboard -/
section
variable {h : tp_H}
def cn0 (c : Int32) : Nat → Nat
  | 0 => 0
  | i + 1 => bif hsB c (nI i) then cn0 c i else cn0 c i + 1
theorem pt_cn (td c : Int32) : ∀ i, ptM td c i = powL (td - 1) (cn0 c i) := by
  intro i
  induction i with
  | zero => rfl
  | succ i ih =>
    rw [ptM_succ, ih]
    show _ = powL (td - 1) (bif hsB c (nI i) then cn0 c i else cn0 c i + 1)
    cases hsB c (nI i)
    · rfl
    · exact Int64.mul_one _
theorem cn_dec : ∀ (k : Fin 8) (c : Fin 128), c.1 < 2 ^ k.1 → k.1 - (bcJ (nI c.1)).toNatClampNeg = cn0 (nI c.1) k.1 := by decide +kernel
theorem sh_dec : ∀ (c : Fin 128) (i : Fin 8), ((nI c.1 >>> (nI i.1 &&& 31)) &&& 1 = 1 ∧ hsB (nI c.1) (nI i.1) = true) ∨ ((nI c.1 >>> (nI i.1 &&& 31)) &&& 1 = 0 ∧ hsB (nI c.1) (nI i.1) = false) := by decide +kernel
theorem chM_C (s : Int32) (i : Nat) : hC (chM h s i) = hC h := by
  induction i with
  | zero => rfl
  | succ i ih => rw [chM_succ]; exact ih
theorem pNt_S (g : tp_H) : hS (pNt g) = hS g := pNs_S 1 g
theorem chM_S (s : Int32) (i : Nat) : hS (chM h s i) = hS h := by
  induction i with
  | zero => rfl
  | succ i ih => rw [chM_succ]; show hS (pNt _) = _; rw [pNt_S]; exact ih
theorem sC_sC (g : tp_H) (a b : Int32) : sC (sC g a) b = sC g b := rfl
theorem co_ch {c : Nat} (hc : c < 128) : ∀ i, i ≤ 7 → sC (coN h (nI c) h i) (hC h) = chM h (nI c) i := by
  intro i
  induction i with
  | zero => intro _; rfl
  | succ i ih =>
    intro hi
    have h1 := ih (by omega)
    have eC : coC h (nI c) i = cbC (chM h (nI c) i) (hsB (nI c) (nI i)) := by
      unfold coC cbC
      rw [chM_C, chM_S]
      rcases sh_dec ⟨c, hc⟩ ⟨i, by omega⟩ with ⟨q1, q2⟩ | ⟨q1, q2⟩
      · have q1 : (nI c >>> (nI i &&& 31)) &&& 1 = 1 := q1
        have q2 : hsB (nI c) (nI i) = true := q2
        rw [q1, q2]
        rfl
      · have q1 : (nI c >>> (nI i &&& 31)) &&& 1 = 0 := q1
        have q2 : hsB (nI c) (nI i) = false := q2
        rw [q1, q2, cond_false, Int32.zero_shiftLeft, Int32.or_zero]
    rw [coN_succ, chM_succ]
    unfold cbS
    rw [chM_C, ← eC, ← h1, sC_sC]
theorem co_up (one : Nat) (k : Nat) (hk : k ≤ 7) (td : Int32) : ∀ c, c ≤ 2 ^ k → coA h (nI one) k td c = upM h one k td c := by
  intro c
  induction c with
  | zero => intro _; rfl
  | succ c ih =>
    intro hc
    have h7 := (shl7 _ hk).2
    rw [coA_succ, upM_succ, ih (by omega), pt_cn, cn_dec ⟨k, by omega⟩ ⟨c, by omega⟩ (by show c < 2 ^ k; omega)]
    have e : abB (coN h (nI c) h k) (nI one) = abB (chM h (nI c) k) (nI one) := by
      rw [← co_ch (h := h) (c := c) (by omega) k hk]
      rfl
    rw [e]
    cases abB (chM h (nI c) k) (nI one)
    · exact (Int64.add_zero _).symm
    · rfl
theorem k_coals (hw : wfH h) {one k td part : Int32} (z : wCoa h one k td part = 0) (part' : Int32) : aCoa h one k td part' = pdM (upM h (nN one) (nN k) td (2 ^ nN k)) (powL td (nN k)) part' := by
  obtain ⟨z1, z2⟩ := bif1 (by decide) z
  obtain ⟨j, hj, rfl, cj⟩ := has_j hw.1 z1
  by_cases q1 : k < 0
  · rw [if_pos q1] at z2; exact absurd z2 (by decide)
  · rw [if_neg q1] at z2
    by_cases q2 : td < 2
    · rw [if_pos q2] at z2; exact absurd z2 (by decide)
    · rw [if_neg q2] at z2
      by_cases q3 : 7 < k
      · rw [if_pos q3] at z2; exact absurd z2 (by decide)
      · rw [if_neg q3] at z2
        by_cases q4 : 20 < td
        · rw [if_pos q4] at z2; exact absurd z2 (by decide)
        · obtain ⟨i, hi, rfl⟩ := nI_of2 (x := k) (M := 7) (n := 7) rfl q1 (Int32.not_lt.mp q3)
          have ci : nN (nI i) = i := nI_clamp (by omega)
          have cj2 : nN (nI j) = j := cj
          unfold aCoa
          rw [ci, cj2, co_up j i hi td _ (Nat.le_refl _)]
          obtain ⟨b, b1, b2, eb⟩ := td_j q2 q4
          have hp := pw_ln (td := td) (b := b) (by rw [eb]; exact ln_nI (by omega)) b2 i hi
          refine pt_eq (fun q => ?_) (k_okE hw j i td hj hi q2 q4) part'
          unfold lNn at hp
          rw [q] at hp
          have : 0 < b ^ i := Nat.pow_pos (by omega)
          have : (0 : Int) = ((b ^ i : Nat) : Int) := hp
          omega
/-! who is aboard when -/
theorem fi_ch {p : Nat → Bool} {d : Nat} (hd : d ≤ 1000) : (fiV p nI (-9) d 0 = -9 ∧ ∀ k, k < d → p k = false) ∨ ∃ k, k < d ∧ p k = true ∧ (∀ m, m < k → p m = false) ∧ fiV p nI (-9) d 0 = nI k := by
  rw [← fo_nI hd]
  exact fo_ch d (fun k hk _ => nI_pos (by omega))
def aw (h : tp_H) (j k : Nat) : Bool := decide (hT (pNs k h) j = hS h)
theorem w_ch (hw : wfH h) {j : Nat} (hj : j < hM h) : (aFir h (nI j) (hS h) = -9 ∧ ∀ k, k < 61 → aw h j k = false) ∨ ∃ k, k < 61 ∧ aw h j k = true ∧ (∀ m, m < k → aw h j m = false) ∧ aFir h (nI j) (hS h) = nI k := by
  have e : aFir h (nI j) (hS h) = fiV (aw h j) nI (-9) 61 0 := fiV_eq rfl (fun k _ _ => ⟨by unfold fA aw; rw [gT_j hw.1 hj], rfl⟩)
  rw [e]
  exact fi_ch (by decide)
theorem aw_mono {j k m : Nat} (hkm : k ≤ m) (e : aw h j k = true) : aw h j m = true := by
  have := ab_k (h := h) (i := j) (k := k) (of_decide_eq_true e) (m - k)
  rw [show k + (m - k) = m by omega] at this
  exact decide_eq_true this
theorem cI_all (p : Nat → Bool) : ∀ m, m ≤ 1000 → (cI p m = nI m ↔ ∀ i, i < m → p i = true) := by
  have key : ∀ m, ∃ c, c ≤ m ∧ cI p m = nI c ∧ (c = m ↔ ∀ i, i < m → p i = true) := by
    intro m
    induction m with
    | zero => exact ⟨0, Nat.le_refl 0, rfl, fun _ i hi => absurd hi (Nat.not_lt_zero i), fun _ => rfl⟩
    | succ m ih =>
      obtain ⟨c, h1, h2, h3⟩ := ih
      rw [cI_succ]
      cases hp : p m with
      | false =>
        refine ⟨c, by omega, h2, fun z => absurd z (by omega), fun z => ?_⟩
        have := z m (Nat.lt_succ_self m)
        rw [hp] at this
        cases this
      | true =>
        refine ⟨c + 1, by omega, by show cI p m + 1 = nI (c + 1); rw [h2, nI_p1], fun z i hi => ?_, fun z => ?_⟩
        · rcases Nat.lt_or_ge i m with q | q
          · exact h3.mp (by omega) i q
          · rw [show i = m by omega]; exact hp
        · have := h3.mpr (fun i hi => z i (by omega))
          omega
  intro m hm
  obtain ⟨c, h1, h2, h3⟩ := key m
  rw [h2, nI_eq (by omega) (by omega)]
  exact h3
theorem fC_all (hw : wfH h) (k : Nat) : fC h k = true ↔ ∀ j, j < hM h → aw h j k = true := by
  have := hw.1
  unfold fC
  rw [decide_eq_true_eq]
  unfold abM mAt
  rw [pNs_M, cI_all _ _ (by omega)]
  refine ⟨fun q j hj => ?_, fun q j hj => ?_⟩
  · have := q j hj
    rw [pNs_S] at this
    exact this
  · have := q j hj
    rw [pNs_S]
    exact this
theorem al_ch (hw : wfH h) : ∀ (d i L : Nat), i + d = hM h → L ≤ 60 → (∀ j, j < i → aw h j L = true) → (L = 0 ∨ ∃ j, j < hM h ∧ aw h j (L - 1) = false) →
    (alV h d i (nI L) = -9 ∧ ∃ j, j < hM h ∧ ∀ k, k < 61 → aw h j k = false) ∨ ∃ N, N ≤ 60 ∧ alV h d i (nI L) = nI N ∧ (∀ j, j < hM h → aw h j N = true) ∧ (N = 0 ∨ ∃ j, j < hM h ∧ aw h j (N - 1) = false) := by
  intro d
  induction d with
  | zero =>
    intro i L hi hL hall hx
    exact Or.inr ⟨L, hL, rfl, fun j hj => hall j (by omega), hx⟩
  | succ d ih =>
    intro i L hi hL hall hx
    rw [alV_succ]
    rcases w_ch hw (j := i) (by omega) with ⟨e, hn⟩ | ⟨k, hk, a1, a2, e⟩
    · rw [e, if_pos (by decide)]
      exact Or.inl ⟨rfl, i, by omega, hn⟩
    · rw [e, if_neg (nI_pos (by omega))]
      by_cases q : nI k ≤ nI L
      · rw [if_pos q]
        have hkL : k ≤ L := (nI_leI (by omega) (by omega)).mp q
        refine ih (i + 1) L (by omega) hL (fun j hj => ?_) hx
        rcases Nat.lt_or_ge j i with z | z
        · exact hall j z
        · rw [show j = i by omega]; exact aw_mono hkL a1
      · rw [if_neg q]
        have hLk : L < k := by
          rcases Nat.lt_or_ge L k with z | z
          · exact z
          · exact absurd (nI_le z (by omega)) q
        refine ih (i + 1) k (by omega) (by omega) (fun j hj => ?_) (Or.inr ⟨i, by omega, a2 (k - 1) (by omega)⟩)
        rcases Nat.lt_or_ge j i with z | z
        · exact aw_mono (Nat.le_of_lt hLk) (hall j z)
        · rw [show j = i by omega]; exact a1
theorem k_all (hw : wfH h) : aAll h = alV h (hM h) 0 0 := by
  rcases al_ch hw (hM h) 0 0 (by omega) (by omega) (fun j hj => absurd hj (Nat.not_lt_zero j)) (Or.inl rfl) with ⟨e, j, hj, hn⟩ | ⟨N, hN, e, hall, hx⟩
  · have e' : alV h (hM h) 0 0 = -9 := e
    rw [e']
    refine fiV_no (fun k _ hk => ?_)
    cases hc : fC h k
    · rfl
    · have := (fC_all hw k).mp hc j hj
      rw [hn k (by omega)] at this
      cases this
  · have e' : alV h (hM h) 0 0 = nI N := e
    rw [e']
    refine fiV_at (Nat.zero_le N) (by omega) ((fC_all hw N).mpr hall) (fun m _ hm => ?_)
    cases hc : fC h m
    · rfl
    · rcases hx with z | ⟨j, hj, z⟩
      · omega
      · have := aw_mono (m := N - 1) (by omega) ((fC_all hw m).mp hc j hj)
        rw [z] at this
        cases this
/-- the one that is aboard first -/
def fst1 (h : tp_H) (j n : Nat) : Prop := j < hM h ∧ n < 61 ∧ aw h j n = true ∧ (∀ i m, i < hM h → m < n → aw h i m = false) ∧ ∀ i, i < j → aw h i n = false
theorem fB_ch (hw : wfH h) : ∀ d i, i + d = 61 → (∀ j m, j < hM h → m < i → aw h j m = false) → (fB h d i = -9 ∧ ∀ j m, j < hM h → m < 61 → aw h j m = false) ∨ ∃ j n, fst1 h j n ∧ fB h d i = nI j := by
  intro d
  induction d with
  | zero => intro i hi hall; exact Or.inl ⟨rfl, fun j m hj hm => hall j m hj (by omega)⟩
  | succ d ih =>
    intro i hi hall
    have h7 := hw.1
    have eA : ∀ k, k < hM h → abB (pNs i h) (nI k) = aw h k i := by
      intro k hk
      rw [abB_j (by rw [pNs_M]; exact h7) (by rw [pNs_M]; exact hk), pNs_S]
      rfl
    rw [fB_succ]
    by_cases q : ∃ k, k < hM h ∧ aw h k i = true
    · obtain ⟨k, k1, k2, k3⟩ : ∃ k, k < hM h ∧ aw h k i = true ∧ ∀ m, m < k → aw h m i = false := by
        rcases fi_ch (p := fun k => aw h k i) (d := hM h) (by omega) with ⟨-, z⟩ | ⟨k, k1, k2, k3, -⟩
        · obtain ⟨k, a, b⟩ := q
          rw [z k a] at b
          cases b
        · exact ⟨k, k1, k2, k3⟩
      refine Or.inr ⟨k, i, ⟨k1, by omega, k2, hall, k3⟩, ?_⟩
      exact fiV_at (Nat.zero_le k) (by omega) ((eA k k1).trans k2) (fun m _ hm => (eA m (by omega)).trans (k3 m hm))
    · have hno : ∀ k, k < hM h → aw h k i = false := by
        intro k hk
        cases z : aw h k i
        · rfl
        · exact absurd ⟨k, hk, z⟩ q
      rw [fiV_no (fun k _ hk => (eA k (by omega)).trans (hno k (by omega)))]
      refine ih (i + 1) (by omega) (fun j m hj hm => ?_)
      rcases Nat.lt_or_ge m i with z | z
      · exact hall j m hj z
      · rw [show m = i by omega]; exact hno j hj
theorem fb_ch (hw : wfH h) : ∀ e, e ≤ hM h → (fbM h e = (-9, 61) ∧ ∀ j m, j < e → m < 61 → aw h j m = false) ∨ ∃ j n, j < e ∧ n < 61 ∧ fbM h e = (nI j, nI n) ∧ aw h j n = true ∧ (∀ i m, i < e → m < n → aw h i m = false) ∧ ∀ i, i < j → aw h i n = false := by
  intro e
  induction e with
  | zero => intro _; exact Or.inl ⟨rfl, fun j m hj => absurd hj (Nat.not_lt_zero j)⟩
  | succ e ih =>
    intro he
    rw [fbM_succ]
    have hi := ih (by omega)
    rcases w_ch hw (j := e) (by omega) with ⟨z, hn⟩ | ⟨k, hk, a1, a2, z⟩
    · rw [z, if_pos (by decide)]
      rcases hi with ⟨f, g⟩ | ⟨j, n, j1, n1, f, b1, b2, b3⟩
      · refine Or.inl ⟨f, fun j m hj hm => ?_⟩
        rcases Nat.lt_or_ge j e with q | q
        · exact g j m q hm
        · rw [show j = e by omega]; exact hn m hm
      · refine Or.inr ⟨j, n, by omega, n1, f, b1, fun i m hi2 hm => ?_, b3⟩
        rcases Nat.lt_or_ge i e with q | q
        · exact b2 i m q hm
        · rw [show i = e by omega]; exact hn m (by omega)
    · rw [z, if_neg (nI_pos (by omega))]
      rcases hi with ⟨f, g⟩ | ⟨j, n, j1, n1, f, b1, b2, b3⟩
      · rw [f]
        show (_ ∨ _)
        rw [if_pos (show nI k < 61 from nI_lt (b := 61) hk (by decide))]
        refine Or.inr ⟨e, k, by omega, hk, rfl, a1, fun i m hi2 hm => ?_, fun i hi2 => g i k hi2 hk⟩
        rcases Nat.lt_or_ge i e with q | q
        · exact g i m q (by omega)
        · rw [show i = e by omega]; exact a2 m hm
      · rw [f]
        show (_ ∨ _)
        by_cases q : k < n
        · rw [if_pos (show nI k < nI n from nI_lt q (by omega))]
          refine Or.inr ⟨e, k, by omega, hk, rfl, a1, fun i m hi2 hm => ?_, fun i hi2 => b2 i k hi2 q⟩
          rcases Nat.lt_or_ge i e with w | w
          · exact b2 i m w (by omega)
          · rw [show i = e by omega]; exact a2 m hm
        · rw [if_neg (show ¬ nI k < nI n from nI_nlt (by omega) (by omega))]
          refine Or.inr ⟨j, n, by omega, n1, rfl, b1, fun i m hi2 hm => ?_, b3⟩
          rcases Nat.lt_or_ge i e with w | w
          · exact b2 i m w hm
          · rw [show i = e by omega]; exact a2 m (by omega)
theorem k_fB (hw : wfH h) : fB h 61 0 = (fbM h (hM h)).1 := by
  rcases fB_ch hw 61 0 (by omega) (fun j m _ hm => absurd hm (Nat.not_lt_zero m)) with ⟨f, g⟩ | ⟨j, n, ⟨h1, h2, h3, h4, h5⟩, f⟩
  · rcases fb_ch hw (hM h) (Nat.le_refl _) with ⟨f2, -⟩ | ⟨j, n, j1, n1, -, b1, -, -⟩
    · rw [f, f2]
    · rw [g j n j1 n1] at b1; cases b1
  · rcases fb_ch hw (hM h) (Nat.le_refl _) with ⟨-, g2⟩ | ⟨i, m, j1, n1, f2, b1, b2, b3⟩
    · rw [g2 j n h1 h2] at h3; cases h3
    · rw [f, f2]
      have hnm : n = m := by
        rcases Nat.lt_trichotomy n m with q | q | q
        · rw [b2 j n h1 q] at h3; cases h3
        · exact q
        · rw [h4 i m j1 q] at b1; cases b1
      subst hnm
      have hij : i = j := by
        rcases Nat.lt_trichotomy i j with q | q | q
        · rw [h5 i q] at b1; cases b1
        · exact q
        · rw [b3 j q] at h3; cases h3
      rw [hij]
end
