theorem ff_no1 {p : Nat → Bool} {c : Int32} : ∀ {d i : Nat}, i + d < 1000 → (∃ k, i ≤ k ∧ k < i + d ∧ p k = true) → ¬ fiV p nI c d i = -9 := by
  intro d
  induction d with
  | zero => intro i _ ⟨k, h1, h2, _⟩; omega
  | succ d ih =>
    intro i hb ⟨k, h1, h2, h3⟩
    rw [fiV_succ]
    cases q : p i with
    | true => exact nI_n9 (by omega)
    | false =>
      refine ih (by omega) ⟨k, ?_, by omega, h3⟩
      rcases Nat.lt_or_ge i k with z | z
      · exact z
      · have : k = i := by omega
        subst this
        rw [h3] at q; cases q
theorem ff_no {x : tp_X} {k : Nat} {c : Int32} (h : ffP x k = true) (hk : k < xLm x) (hl : xLm x < 1000) : ¬ fiV (ffP x) nI c (xLm x) 0 = -9 := ff_no1 (by omega) ⟨k, Nat.zero_le _, by omega, h⟩
def hH0 : tp_H := (0, 0, 0, 0, fun _ => 0, fun _ => 0, fun _ => 0, fun _ => 0, fun _ => 0)

/-! both chimneys -/
theorem vL1 (y : tp_Y) (s : Nat) : vL y s 1 = cAt y s - 48 := by
  show 10 * 0 + cAt y s - 48 = _
  rw [show (10 * 0 : Int32) = 0 from by decide, Int32.zero_add]
theorem vL2 (y : tp_Y) (s : Nat) : vL y s 2 = 10 * (cAt y s - 48) + (cAt y (s + 1) - 48) := by
  show 10 * vL y s 1 + cAt y (s + 1) - 48 = _
  rw [vL1, Int32.sub_eq_add_neg, Int32.sub_eq_add_neg, Int32.sub_eq_add_neg, Int32.add_assoc]
theorem TA_out (f : Int32) (y : tp_Y) (r : Nat) (tl : tp_A) (k : Nat) {i : Nat} (hi : i < k) : TA f y r tl k i = tl i := by
  unfold TA TL
  split
  · rw [tg_u_eq, if_neg (by omega), tg_u_eq, if_neg (by omega), tg_u_eq, if_neg (by omega)]
  · split
    · rw [tg_u_eq, if_neg (by omega), tg_u_eq, if_neg (by omega)]
    · split
      · rw [tg_u_eq, if_neg (by omega), tg_u_eq, if_neg (by omega)]
      · rw [tg_u_eq, if_neg (by omega)]
theorem tld_cg {x : tp_X} {la lt tl la2 lt2 tl2 : tp_A} {j s : Nat} (h : tld x la lt tl j s) (e1 : la2 j = la j) (e2 : lt2 j = lt j) (e3 : ∀ d, d < 3 → tl2 (3 * j + d) = tl (3 * j + d)) : tld x la2 lt2 tl2 j s := by
  have a0 := e3 0 (by omega)
  have a1 := e3 1 (by omega)
  have a2 := e3 2 (by omega)
  have a00 : tl2 (3 * j) = tl (3 * j) := a0
  unfold tld at *
  rw [e1, e2, a00, a1, a2]
  exact h
section
variable {x : tp_X} {y : tp_Y} {r c : Nat} {la lt tl : tp_A}
theorem at_c (hxl : xLm x = yTd y) (hxe : xLe x = yTp y) (hl : yTd y ≤ 96) {s : Nat} (hs : s < yTd y) : atL x (nI s) = cAt y s := by
  rw [at_in (by omega) (by omega), hxe, cAt_in hl hs]
theorem dg_c (hxl : xLm x = yTd y) (hxe : xLe x = yTp y) (hl : yTd y ≤ 96) {s : Nat} (hs : s < yTd y) : dgL x (nI s) = vL y s 1 := by
  unfold dgL
  rw [at_c hxl hxe hl hs, vL1]
theorem nu_c (hxl : xLm x = yTd y) (hxe : xLe x = yTp y) (hl : yTd y ≤ 96) {s : Nat} (hs : s + 1 < yTd y) : nuL x (nI s) = vL y s 2 := by
  unfold nuL
  rw [nI_p1, dg_c hxl hxe hl (by omega), dg_c hxl hxe hl hs, vL1, vL1, vL2]
theorem nI_p3 (s : Nat) : nI s + 3 = nI (s + 3) := by
  rw [nI_succ, nI_succ, nI_succ, Int32.add_assoc, Int32.add_assoc]; rfl
theorem ps_n59 (hxl : xLm x = yTd y) (hxe : xLe x = yTp y) (hl : yTd y ≤ 96) (hr : r ≤ yTd y) (hs : stS x r = r) {i j : Nat} (h : mtc (PS (cAt y r)) y r i) (hj : j < i) (hj2 : j < nA (cAt y r) + 1) : ¬ xLe x (r + j) = 59 := by
  intro e
  have h1 := ps_st hxl hxe hl hr hs h (j := j + 1) (by omega) (by omega)
  rw [show r + (j + 1) = r + j + 1 from rfl, stS_succ, if_pos e] at h1
  omega
theorem tld_new (hxl : xLm x = yTd y) (hxe : xLe x = yTp y) (hl : yTd y ≤ 96) (hr : r ≤ yTd y) (h : mtc (PS (cAt y r)) y r (nA (cAt y r) + 1 + 1)) : tld x (tg_u la c (cAt y r)) (tg_u lt c (nI r)) (TA (cAt y r) y (r + 1) tl (3 * c)) c r := by
  obtain ⟨g1, g2⟩ := ps_rng hl hr h
  have hf := g2 (by omega)
  obtain ⟨l1, l2, l3, -, -⟩ := lo_nA hf
  have ea : atL x (nI r) = cAt y r := at_c hxl hxe hl (by omega)
  unfold tld
  rw [ea, tg_u_eq, if_pos rfl, tg_u_eq, if_pos rfl, nI_p1, nI_p2, nI_p3]
  refine ⟨rfl, rfl, hf, fun h8 => ?_, fun h7 => ?_, fun h2 => ?_, fun n8 n7 n2 => ?_⟩
  · have n4 : nA (cAt y r) = 4 := by unfold nA; rw [if_pos h8]
    have eT : TA (cAt y r) y (r + 1) tl (3 * c) = TL y (r + 1) tl (3 * c) := by unfold TA; rw [if_pos h8]
    have h1 := h 1 (by omega)
    have h1b : 0 ≤ koM (cAt y (r + 1)) := by
      unfold PS PA PL at h1
      rw [if_neg (by omega), if_neg (by omega), if_pos h8, if_pos rfl] at h1
      exact of_decide_eq_true h1
    rw [eT]
    unfold TL
    refine ⟨?_, ?_, ?_⟩
    · rw [tg_u_eq, if_neg (by omega), tg_u_eq, if_neg (by omega), tg_u_eq, if_pos rfl, at_c hxl hxe hl (by omega), ko_eq h1b]
    · rw [tg_u_eq, if_neg (by omega), tg_u_eq, if_pos rfl, dg_c hxl hxe hl (by omega)]
    · rw [tg_u_eq, if_pos rfl, nu_c hxl hxe hl (by omega)]
  · have n8 : ¬ cAt y r = 108 := by rw [h7]; decide
    have n4 : nA (cAt y r) = 3 := by unfold nA; rw [if_neg n8, if_pos h7]
    have eT : TA (cAt y r) y (r + 1) tl (3 * c) = tg_u (tg_u tl (3 * c) (vL y (r + 1) 1)) (3 * c + 1) (vL y (r + 1 + 1) 2) := by unfold TA; rw [if_neg n8, if_pos h7]
    rw [eT]
    refine ⟨?_, ?_⟩
    · rw [tg_u_eq, if_neg (by omega), tg_u_eq, if_pos rfl, dg_c hxl hxe hl (by omega)]
    · rw [tg_u_eq, if_pos rfl, nu_c hxl hxe hl (by omega)]
  · have n8 : ¬ cAt y r = 108 := by rw [h2]; decide
    have n7 : ¬ cAt y r = 97 := by rw [h2]; decide
    have eT : TA (cAt y r) y (r + 1) tl (3 * c) = tg_u (tg_u tl (3 * c) (vL y (r + 1) 1)) (3 * c + 1) (vL y (r + 1 + 1) 1) := by unfold TA; rw [if_neg n8, if_neg n7, if_pos h2]
    rw [eT]
    refine ⟨?_, ?_⟩
    · rw [tg_u_eq, if_neg (by omega), tg_u_eq, if_pos rfl, dg_c hxl hxe hl (by omega)]
    · rw [tg_u_eq, if_pos rfl, dg_c hxl hxe hl (by omega)]
  · have eT : TA (cAt y r) y (r + 1) tl (3 * c) = tg_u tl (3 * c) (vL y (r + 1) 2) := by unfold TA; rw [if_neg n8, if_neg n7, if_neg n2]
    rw [eT, tg_u_eq, if_pos rfl, nu_c hxl hxe hl (by omega)]
end
/-- behind c statements, the next letter at r -/
def rdI (y : tp_Y) (x : tp_X) (r c : Nat) (la lt tl : tp_A) : Prop := ∃ S : Nat → Nat, S 0 = 0 ∧ S c = r ∧ (∀ j, j < c → stG x (S j) (S (j + 1)) ∧ tld x la lt tl j (S j)) ∧ stS x r = r ∧ tcN x r = c ∧ (∀ k, k < r → ffP x k = false) ∧ 4 * c ≤ r ∧ r ≤ yTd y
section
variable {x : tp_X} {y : tp_Y} {r c : Nat} {la lt tl : tp_A}
theorem rdI_i : rdI y x 0 0 la lt tl := ⟨fun _ => 0, rfl, rfl, fun j hj => absurd hj (by omega), rfl, rfl, fun k hk => absurd hk (by omega), by omega, Nat.zero_le _⟩
theorem rdI_r (R : rdI y x r c la lt tl) : r ≤ yTd y ∧ 4 * c ≤ r ∧ stS x r = r ∧ (∀ k, k < r → ffP x k = false) ∧ (c = 0 → r = 0) := by
  obtain ⟨S, s1, s2, s3, s4, s5, s6, s7, s8⟩ := R
  exact ⟨s8, s7, s4, s6, fun z => by rw [z] at s2; omega⟩
theorem rdI_s (hxl : xLm x = yTd y) (hxe : xLe x = yTp y) (hl : yTd y ≤ 96) (R : rdI y x r c la lt tl) (h : mtc (PS (cAt y r)) y r (nA (cAt y r) + 1 + 1)) : rdI y x (r + (nA (cAt y r) + 1 + 1)) (c + 1) (tg_u la c (cAt y r)) (tg_u lt c (nI r)) (TA (cAt y r) y (r + 1) tl (3 * c)) := by
  obtain ⟨S, s1, s2, s3, s4, s5, s6, s7, s8⟩ := R
  obtain ⟨g1, g2⟩ := ps_rng hl s8 h
  have hf := g2 (by omega)
  obtain ⟨l1, l2, l3, -, -⟩ := lo_nA hf
  have hG : stG x r (r + (nA (cAt y r) + 1 + 1)) := by
    refine ⟨by omega, by omega, s4, ?_, fun k hk1 hk2 => ?_⟩
    · have h1 := h (nA (cAt y r) + 1) (by omega)
      rw [PS_e] at h1
      rw [show r + (nA (cAt y r) + 1 + 1) - 1 = r + (nA (cAt y r) + 1) by omega, hxe, ← cAt_in hl (show r + (nA (cAt y r) + 1) < yTd y by omega)]
      exact of_decide_eq_true h1
    · have := ps_n59 hxl hxe hl s8 s4 h (j := k - r) (by omega) (by omega)
      rw [show r + (k - r) = k by omega] at this
      exact this
  obtain ⟨e1, e2, -, -, -⟩ := stG_e hG hH0
  refine ⟨fun j => if j ≤ c then S j else r + (nA (cAt y r) + 1 + 1), ?_, ?_, fun j hj => ?_, e1, by rw [e2, s5], fun k hk => ?_, by omega, g1⟩
  · show (if 0 ≤ c then S 0 else _) = 0
    rw [if_pos (Nat.zero_le c), s1]
  · show (if c + 1 ≤ c then S (c + 1) else _) = _
    rw [if_neg (by omega)]
  · show stG x (if j ≤ c then S j else _) (if j + 1 ≤ c then S (j + 1) else _) ∧ tld x _ _ _ j (if j ≤ c then S j else _)
    rw [if_pos (show j ≤ c by omega)]
    rcases Nat.lt_or_ge j c with q | q
    · rw [if_pos (show j + 1 ≤ c by omega)]
      refine ⟨(s3 j q).1, tld_cg (s3 j q).2 ?_ ?_ (fun d hd => TA_out _ _ _ _ _ (by omega))⟩
      · rw [tg_u_eq, if_neg (by omega)]
      · rw [tg_u_eq, if_neg (by omega)]
    · have jc : j = c := by omega
      subst jc
      rw [if_neg (by omega), s2]
      exact ⟨hG, tld_new hxl hxe hl s8 h⟩
  · rcases Nat.lt_or_ge k r with q | q
    · exact s6 k q
    · have := ps_fn hxl hxe hl s8 s4 h (by omega) (j := k - r) (by omega)
      rw [show r + (k - r) = k by omega] at this
      exact this
end
def chQ (l : List tg_Cl) (h : tp_H) (y : tp_Y) (x : tp_X) : Option Value → tg_W → Prop := fun v w => v = some (.int (chA x h)) ∧ ∃ y2, w = (l, tm_cs (chH x h) y2) ∧ yk 39 (zTd y 0) y2
theorem chQ_f {l : List tg_Cl} {h : tp_H} {y y2 : tp_Y} {x : tp_X} {k : Nat} (e : ffL x = nI k) (hk : k ≤ 96) (hy : yk 39 (zTd y 0) y2) : chQ l h y x (some (.int (-1000 - nI k))) (l, tm_cs h y2) := by
  obtain ⟨e1, e2⟩ := ch_f (h := h) e hk
  exact ⟨by rw [e1], y2, by rw [e2], hy⟩
theorem chQ_b {l : List tg_Cl} {h : tp_H} {y y2 : tp_Y} {x : tp_X} {s e : Nat} {z : Int32} (hff : ffL x = -9) (hG : stG x s e) (hp : ∀ k, k < s → tcP x h k = false) (hb : tsB x (tcH x h s) (nI s) = false) (hz : z = nI s) (hy : yk 39 (zTd y 0) y2) : chQ l h y x (some (.int (-2000 - z))) (l, tm_cs h y2) := by
  obtain ⟨e1, e2⟩ := ch_bad hff hG hp hb
  exact ⟨by rw [e1, hz], y2, by rw [e2], hy⟩
theorem chQ_o {l : List tg_Cl} {h : tp_H} {y y2 : tp_Y} {x : tp_X} {k c : Nat} {z : Int32} (hff : ffL x = -9) (hk : k = xLm x) (hp : ∀ i, i < k → tcP x h i = false) (hc : tcN x k = c) (hz : z = nI c) (hy : yk 39 (zTd y 0) y2) : chQ l h y x (some (.int z)) (l, tm_cs (tcH x h k) y2) := by
  subst hk
  obtain ⟨e1, e2⟩ := ch_ok hff hp
  exact ⟨by rw [e1, hc, hz], y2, by rw [e2], hy⟩
theorem ch_gen (h : tp_H) (y : tp_Y) (la lt tl : tp_A) (r m : Nat) : ∃ y3, zIk (zCu (zKe (zTd (rY y la lt tl r m) 0) (svA h (yKe (zTd (rY y la lt tl r m) 0)) (39 * 1))) (39 * 1 + 39)) true = y3 ∧ yLa y3 = la ∧ yLt y3 = lt ∧ yTl y3 = tl ∧ ySm y3 = m ∧ hld (yKe y3) (39 * 1) h ∧ yk 39 (zTd y 0) y3 :=
  ⟨_, rfl, rfl, rfl, rfl, rfl, svA_hld h _ _, rfl, rfl, rfl, rfl, rfl, rfl, fun j hj => svA_out h _ _ (Or.inl (by omega))⟩
theorem tcH_0 (x : tp_X) (t : tp_H) : tcH x t 0 = t := rfl

set_option maxRecDepth 100000 in
set_option maxHeartbeats 2000000 in
theorem r_chimney0 {G : tg_G} {l : List tg_Cl} {h : tp_H} {y : tp_Y} {x : tp_X} (hw : wfH h) (hxl : xLm x = yTd y) (hxe : xLe x = yTp y) (hl : yTd y ≤ 96) : tg_C G 9 mX11_chimney 0 0 [.ref 64] (l, tm_cs h y) (chQ l h y x) := by
  refine tg_intro okX11_chimney (Nat.le_of_ble_eq_true rfl) ?_
  refine tg_steps 6 rfl ?_
  refine tg_eqW (w2 := (l, tm_cs h (rY y (yLa y) (yLt y) (yTl y) 0 0))) rfl ?_
  refine tg_steps 2 rfl ?_
  refine tg_pkV [0, 1] ?_
  refine tg_eqS (L2 := [(0, .ref 64), (1, .int 1)]) (st2 := []) (w2 := (l, tm_cs h (rY y (yLa y) (yLt y) (yTl y) 0 0))) rfl rfl rfl ?_
  refine tg_down (φ := fun i : Nat => ∀ (r : Nat) (la lt tl : tp_A), (rdI y x r (i) la lt tl) → tg_V G 9 mX11_chimney 0 0 0 0 (chQ l h y x) 12 [(0, .ref 64), (1, .int 1)] [] (l, tm_cs h (rY y la lt tl r (i)))) (n := 25) ?_ ?_ 0 (Nat.zero_le _) 0 (yLa y) (yLt y) (yTl y) (rdI_i)
  · intro r la lt tl
    intro hinv12
    refine tg_steps 1 rfl ?_
    refine tg_ifeq rfl rfl (fun h13 => ?_) (fun h13 => ?_)
    · exact absurd h13 (by decide)
    · exfalso
      have hrd := rdI_r hinv12
      omega
  · intro i hi12 ih12 r la lt tl hinv12
    refine tg_steps 1 rfl ?_
    refine tg_ifeq rfl rfl (fun h13 => ?_) (fun h13 => ?_)
    · exact absurd h13 (by decide)
    · have hrd := rdI_r hinv12
      refine tg_steps 4 rfl ?_
      refine tg_iclt rfl rfl (fun h24 => ?_) (fun h24 => ?_)
      · have hrr : r < yTd y ∨ r = 0 := by
          rcases Nat.lt_or_ge r (yTd y) with q | q
          · exact Or.inl q
          · exact absurd h24 (nI_nlt (a := r) (b := yTd y) q (by omega))
        refine tg_steps 1 rfl ?_
        refine tg_callV rfl (m_statement (l := l) (h := h) (y := y) (la := la) (lt := lt) (tl := tl) (r := r) (m := i) hl hrd.1 (by omega)) rfl rfl rfl rfl rfl (fun v35 w35 q35 => ?_)
        obtain ⟨rfl, rfl, e35⟩ | ⟨i35, la2, lt2, t2, b35, rfl, rfl, e35, g35⟩ := q35
        rotate_left
        · refine tg_steps 5 rfl ?_
          refine tg_ifeq rfl rfl (fun _ => ?_) (fun hz => absurd rfl hz)
          refine tg_steps 3 rfl ?_
          refine tg_eqW (r_Sm (m2 := i) (Int32.add_zero _)) ?_
          refine tg_steps 2 rfl ?_
          refine tg_ifeq rfl rfl (fun _ => ?_) (fun hz => absurd rfl hz)
          refine tg_steps 3 rfl ?_
          refine tg_eqW (w2 := (l, tm_cs h (zTd (rY y la2 lt2 t2 (r + i35) i) 0))) (m_Td 0) ?_
          refine tg_steps 1 rfl ?_
          refine tg_ifne rfl rfl (fun hz => absurd rfl hz) (fun _ => ?_)
          refine tg_steps 4 rfl ?_
          have ef := ff_fail hxl hxe hl hrd.1 hrd.2.2.1 hrr hrd.2.2.2.1 e35 b35 g35
          exact tg_iret (st := []) rfl rfl ⟨Nat.le_of_ble_eq_true rfl, Nat.le_of_ble_eq_true rfl⟩ (chQ_f ef.1 ef.2 ⟨rfl, rfl, rfl, rfl, rfl, rfl, fun _ _ => rfl⟩)
        refine tg_steps 5 rfl ?_
        refine tg_ifeq rfl rfl (fun h45 => ?_) (fun h45 => ?_)
        · exact absurd h45 (by decide)
        · refine tg_steps 4 rfl ?_
          refine tg_eqW (r_Sm (m2 := i + 1) (nI_p1 i)) ?_
          refine tg_steps 1 rfl ?_
          refine tg_pkV [0, 1] ?_
          refine tg_eqS (L2 := [(0, .ref 64), (1, .int 1)]) (st2 := []) (w2 := _) rfl rfl rfl ?_
          exact ih12 (r + (nA (cAt y r) + 1 + 1)) _ _ _ (rdI_s hxl hxe hl hinv12 e35)
      · have hre : r = yTd y := by
          rcases Nat.lt_or_ge r (yTd y) with q | q
          · exact absurd (nI_lt q (by omega)) h24
          · omega
        refine tg_steps 2 rfl ?_
        refine tg_ifne rfl rfl (fun h31 => ?_) (fun h31 => ?_)
        · have hi0 : 0 < i := by
            rcases Nat.eq_zero_or_pos i with q | q
            · exact absurd (show nI i = 0 by rw [q]; rfl) h31
            · exact q
          have hff := ff_end hxl hl hre (by omega) hrd.2.2.1 hrd.2.2.2.1
          refine tg_steps 3 rfl ?_
          refine tg_eqW (w2 := (l, tm_cs h (zTd (rY y la lt tl r i) 0))) (m_Td 0) ?_
          refine tg_steps 1 rfl ?_
          refine tg_ifne rfl rfl (fun h66 => ?_) (fun h66 => ?_)
          · refine tg_steps 3 rfl ?_
            refine tg_callV rfl (m_keep 1 (by decide)) rfl rfl rfl rfl rfl (fun v81 w81 q81 => ?_)
            obtain ⟨rfl, rfl⟩ := q81
            obtain ⟨y3, e3, f1, f2, f3, f4, f5, f6⟩ := ch_gen h y la lt tl r i
            rw [e3]
            obtain ⟨S, s1, s2, s3, s4, s5, s6, s7, s8⟩ := hinv12
            have hSl : ∀ k, k ≤ i → S k ≤ xLm x := by
              intro k hk
              rcases Nat.lt_or_ge k i with q | q
              · have h1 := (s3 k q).1.1
                have h2 := (s3 k q).1.2.1
                omega
              · rw [show k = i by omega, s2]; omega
            refine tg_steps 2 rfl ?_
            refine tg_pkV [0, 1, 2] ?_
            refine tg_eqS (L2 := [(0, .ref 64), (1, .int 1), (2, .int (nI (0)))]) (st2 := []) (w2 := (l, tm_cs (tcH x h (S 0)) (zMo y3 (yMo y3)))) rfl rfl (by rw [s1, w_Mo0, tcH_0]) ?_
            refine tg_down (φ := fun j : Nat => ∀ (mo : Int32), (∀ k, k < S (j) → tcP x h k = false) → tg_V G 9 mX11_chimney 0 0 0 0 (chQ l h y x) 86 [(0, .ref 64), (1, .int 1), (2, .int (nI (j)))] [] (l, tm_cs (tcH x h (S (j))) (zMo y3 mo))) (n := ySm y3) ?_ ?_ 0 (Nat.zero_le _) (yMo y3) (fun k hk => absurd hk (by omega))
            · intro mo
              intro hinv86
              refine tg_steps 3 rfl ?_
              refine tg_icge rfl rfl (fun h91 => ?_) (fun h91 => ?_)
              · refine tg_steps 2 rfl ?_
                exact tg_iret (st := []) rfl rfl ⟨Nat.le_of_ble_eq_true rfl, Nat.le_of_ble_eq_true rfl⟩ (chQ_o hff (by rw [f4, s2]; omega) hinv86 (by rw [f4, s2]; exact s5) (congrArg nI f4) f6)
              · exact absurd (nI_le (Nat.le_refl _) (by show ySm y3 < 2 ^ 31; omega)) h91
            · intro j hi86 ih86 mo hinv86
              refine tg_steps 3 rfl ?_
              refine tg_icge rfl rfl (fun h91 => ?_) (fun h91 => ?_)
              · exact absurd h91 (nI_ge hi86 (by show ySm y3 < 2 ^ 31; omega))
              · refine tg_steps 2 rfl ?_
                refine tg_callV rfl (m_comesTold (l := l) (h := tcH x h (S j)) (y := zMo y3 mo) (x := x) (j := j) (s := S j) (wf_tc (by omega) hw (fun k hk => s6 k (by omega)) (hSl j (by omega))) (by omega) (by show tld x (yLa y3) (yLt y3) (yTl y3) j (S j); rw [f1, f2, f3]; exact (s3 j (by omega)).2)) rfl rfl rfl rfl rfl (fun v96 w96 q96 => ?_)
                obtain ⟨rfl, mo2, rfl⟩ := q96
                rw [w_MoMo]
                refine tg_ifbeq rfl rfl (fun h99 => ?_) (fun h99 => ?_)
                · refine tg_steps 3 rfl ?_
                  refine tg_callV rfl (m_back (g := h) 1 (by decide) f5) rfl rfl rfl rfl rfl (fun v108 w108 q108 => ?_)
                  obtain ⟨rfl, rfl⟩ := q108
                  refine tg_steps 4 rfl ?_
                  refine tg_ialdN rfl rfl (j) rfl (by omega) (by decide) ?_
                  refine tg_steps 1 rfl ?_
                  exact tg_iret (st := []) rfl rfl ⟨Nat.le_of_ble_eq_true rfl, Nat.le_of_ble_eq_true rfl⟩ (chQ_b hff (s3 j (by omega)).1 hinv86 h99 ((congrFun f2 j).trans (s3 j (by omega)).2.2.1) f6)
                · rw [← (stG_e (s3 j (by omega)).1 h).2.2.1]
                  refine tg_steps 3 rfl ?_
                  refine tg_pkV [0, 1, 2] ?_
                  refine tg_eqS (L2 := [(0, .ref 64), (1, .int 1), (2, .int (nI (j + 1)))]) (st2 := []) (w2 := _) (by first | (simp (decide := true) only [nI_succ, decide_true, decide_false, cond_true, cond_false, Bool.false_eq_true, if_true, if_false, ite_true, ite_false, h66]; done) | (simp (decide := true) only [nI_succ, decide_true, decide_false, cond_true, cond_false, Bool.false_eq_true, if_true, if_false, ite_true, ite_false, h66]; rfl) | rfl) rfl rfl ?_
                  exact ih86 mo2 (stG_P1 (s3 j (by omega)).1 hinv86 h99)
          · exact absurd h66 (by decide)
        · have hrr : r < yTd y ∨ r = 0 := by
            rcases Nat.eq_zero_or_pos i with q | q
            · exact Or.inr (hrd.2.2.2.2 q)
            · exact absurd (show nI 0 = nI i from (show nI i = 0 from h31).symm) (nI_ne q (by omega))
          refine tg_steps 1 rfl ?_
          refine tg_callV rfl (m_statement (l := l) (h := h) (y := y) (la := la) (lt := lt) (tl := tl) (r := r) (m := i) hl hrd.1 (by omega)) rfl rfl rfl rfl rfl (fun v35 w35 q35 => ?_)
          obtain ⟨rfl, rfl, e35⟩ | ⟨i35, la2, lt2, t2, b35, rfl, rfl, e35, g35⟩ := q35
          rotate_left
          · refine tg_steps 5 rfl ?_
            refine tg_ifeq rfl rfl (fun _ => ?_) (fun hz => absurd rfl hz)
            refine tg_steps 3 rfl ?_
            refine tg_eqW (r_Sm (m2 := i) (Int32.add_zero _)) ?_
            refine tg_steps 2 rfl ?_
            refine tg_ifeq rfl rfl (fun _ => ?_) (fun hz => absurd rfl hz)
            refine tg_steps 3 rfl ?_
            refine tg_eqW (w2 := (l, tm_cs h (zTd (rY y la2 lt2 t2 (r + i35) i) 0))) (m_Td 0) ?_
            refine tg_steps 1 rfl ?_
            refine tg_ifne rfl rfl (fun hz => absurd rfl hz) (fun _ => ?_)
            refine tg_steps 4 rfl ?_
            have ef := ff_fail hxl hxe hl hrd.1 hrd.2.2.1 hrr hrd.2.2.2.1 e35 b35 g35
            exact tg_iret (st := []) rfl rfl ⟨Nat.le_of_ble_eq_true rfl, Nat.le_of_ble_eq_true rfl⟩ (chQ_f ef.1 ef.2 ⟨rfl, rfl, rfl, rfl, rfl, rfl, fun _ _ => rfl⟩)
          refine tg_steps 5 rfl ?_
          refine tg_ifeq rfl rfl (fun h45 => ?_) (fun h45 => ?_)
          · exact absurd h45 (by decide)
          · refine tg_steps 4 rfl ?_
            refine tg_eqW (r_Sm (m2 := i + 1) (nI_p1 i)) ?_
            refine tg_steps 1 rfl ?_
            refine tg_pkV [0, 1] ?_
            refine tg_eqS (L2 := [(0, .ref 64), (1, .int 1)]) (st2 := []) (w2 := _) rfl rfl rfl ?_
            exact ih12 (r + (nA (cAt y r) + 1 + 1)) _ _ _ (rdI_s hxl hxe hl hinv12 e35)
theorem r_chimney {G : tg_G} {l : List tg_Cl} {h : tp_H} {y : tp_Y} {x : tp_X} (hw : wfH h) (hxl : xLm x = yTd y) (hxe : xLe x = yTp y) (hl : yTd y ≤ 96) : tg_C G 9 mX11_chimney 0 0 [.ref 64] (l, tm_cs h y) (pM l 0 (.int 0) (.int (chA x h)) h y (chH x h) (zTd y 0)) :=
  tg_wk_C (r_chimney0 hw hxl hxe hl) (fun v w q => by
    obtain ⟨q1, y2, q2, q3⟩ := q
    unfold pM
    rw [if_pos rfl, if_pos rfl, if_pos rfl]
    exact ⟨q1, y2, q2, q3⟩)
def cqH (n : tp_H) (x : tp_X) (a : tp_H) : tp_H := if ffL x = -9 ∧ ∀ k, k < xLm x → tcP x a k = false then cpF n (tcH x a (xLm x)) else n
theorem tell_q {n p t : tp_H} {x : tp_X} {r : List tg_Cl} {v : Option Value} {w : tg_W} (q : if ffL x = -9 then v = some (.int (fiV (tcP x (cpF t n)) (tcV x) (nI (tcN x (xLm x))) (xLm x) 0)) ∧ (if (∃ i, i < xLm x ∧ tcP x (cpF t n) i = true) then ∃ t2, w = (tp_cs n p t2 x, r) else w = (tp_cs (cpF n (tcH x (cpF t n) (xLm x))) p (tcH x (cpF t n) (xLm x)) x, r)) else v = some (.int (-1000 - ffL x)) ∧ w = (tp_cs n p t x, r)) : v = some (.int (chA x (cpF t n))) ∧ ∃ t2, w = (tp_cs (cqH n x (cpF t n)) p t2 x, r) := by
  unfold chA cqH
  by_cases hff : ffL x = -9
  · rw [if_pos hff] at q
    obtain ⟨q1, q2⟩ := q
    refine ⟨by rw [q1, if_pos hff], ?_⟩
    by_cases he : ∃ i, i < xLm x ∧ tcP x (cpF t n) i = true
    · rw [if_pos he] at q2
      rw [if_neg (fun z => by obtain ⟨i, hi, hp⟩ := he; rw [z.2 i hi] at hp; cases hp)]
      exact q2
    · rw [if_neg he] at q2
      rw [if_pos ⟨hff, fun k hk => by
        cases hp : tcP x (cpF t n) k with
        | true => exact absurd ⟨k, hk, hp⟩ he
        | false => rfl⟩]
      exact ⟨_, q2⟩
  · rw [if_neg hff] at q
    obtain ⟨q1, q2⟩ := q
    rw [if_neg hff, if_neg (fun z => hff z.1)]
    exact ⟨q1, t, q2⟩
set_option maxRecDepth 100000 in
set_option maxHeartbeats 2000000 in
theorem q_chimney {G : tg_G} {n p t : tp_H} {x : tp_X} {r : List tg_Cl} (hl : xLm x ≤ 96) (hm : hM n ≤ 7) : tg_C G 8 mX10_chimney 0 0 [.ref 0] (tp_cs n p t x, r) (pQ 0 (.int 0) (.int (chA x (cpF t n))) n p x (cqH n x (cpF t n)) p (yLm x 0) r) := by
  refine tg_intro okX10_chimney (Nat.le_of_ble_eq_true rfl) ?_
  refine tg_steps 7 rfl ?_
  refine tg_callV rfl (tg_wk_C (c_tellTo (n := n) (p := p) (t := t) (x := x) (r := r) hl hm) (fun v w q => tell_q q)) rfl rfl rfl rfl rfl (fun v15 w15 q15 => ?_)
  obtain ⟨rfl, t2, rfl⟩ := q15
  refine tg_steps 5 rfl ?_
  refine tg_eqW (w_Lm 0) ?_
  refine tg_steps 1 rfl ?_
  exact tg_iret (st := []) rfl rfl ⟨Nat.le_of_ble_eq_true rfl, Nat.le_of_ble_eq_true rfl⟩ (pQ_ok rfl rfl (eqH_rf _) (eqH_rf _) (xk_rf _))
/-- both chimneys leave hearths alike -/
theorem ch_cong {n h a : tp_H} {x : tp_X} (hl : xLm x ≤ 96) (e : eqH n h) (ea : eqH a h) (hm : hM a ≤ 7) (hw : wfH h) : eqH (cqH n x a) (chH x h) ∧ wfH (chH x h) := by
  unfold cqH chH
  rw [tcP_cong ea hm]
  by_cases q : ffL x = -9 ∧ ∀ k, k < xLm x → tcP x h k = false
  · rw [if_pos q, if_pos q]
    refine ⟨eqH_tr (eq_cpF _ _) (tc_cong ea hm _), wf_tc hl hw (fun k hk => ?_) (Nat.le_refl _)⟩
    cases z : ffP x k with
    | false => rfl
    | true =>
      exfalso
      have h1 := q.1
      unfold ffL at h1
      exact ff_no z hk (by omega) h1
  · rw [if_neg q, if_neg q]
    exact ⟨e, hw⟩
