/-! contracts of the reference: nights -/
theorem wf_pres {h g : tp_H} (hw : wfH h) (e2 : hS g = hS h) (e4 : hM g = hM h) (e5 : ∀ i, i < hM h → hF g i = hF h i ∧ hH g i = hH h i) (e6 : ∀ i, i < hM h → isT (hT g i) = true) : wfH g := by
  refine ⟨by rw [e4]; exact hw.1, by rw [e2]; exact hw.2.1, fun i hi => ?_⟩
  rw [e4] at hi
  exact ⟨e6 i hi, by rw [(e5 i hi).2]; exact (hw.2.2 i hi).2.1, by rw [(e5 i hi).1]; exact (hw.2.2 i hi).2.2⟩
theorem wf_sN {h : tp_H} (hw : wfH h) (v : Int32) : wfH (sN h v) := hw
theorem wf_sC {h : tp_H} (hw : wfH h) (v : Int32) : wfH (sC h v) := hw
theorem wf_sP {h : tp_H} (hw : wfH h) (f : tp_A) : wfH (sP h f) := hw
theorem wf_sK {h : tp_H} (hw : wfH h) (f : tp_A) : wfH (sK h f) := hw
theorem wf_sS {h : tp_H} (hw : wfH h) {v : Int32} (hv : isT v = true) : wfH (sS h v) := ⟨hw.1, hv, hw.2.2⟩
theorem wf_sT {h : tp_H} (hw : wfH h) {i : Nat} {v : Int32} (hv : isT v = true) : wfH (sT h (tg_u (hT h) i v)) := by
  refine wf_pres hw rfl rfl (fun i hi => ⟨rfl, rfl⟩) (fun j hj => ?_)
  show isT (tg_u (hT h) i v j) = true
  rw [tg_u_eq]
  split
  · exact hv
  · exact (hw.2.2 j hj).1
theorem wf_senH {h : tp_H} (hw : wfH h) {j : Nat} (hj : j < hM h) (v : Int32) : wfH (senH h (nI j) v) := by
  rw [senH_j hw.1 hj]
  exact wf_sT (h := sP h (tg_u (hP h) j v)) (wf_sP hw _) (hw.2.2 j hj).2.1
theorem wf_crkH {h : tp_H} (hw : wfH h) (v : Int32) : wfH (crkH h v) := hw
theorem wf_nOne {h : tp_H} (hw : wfH h) {i : Nat} (hi : i < hM h) : wfH (nOne h i) := by
  unfold nOne
  split
  · exact hw
  · split
    · split
      · exact hw
      · rename_i e
        cases mGo h (hT h i) (nGo h i)
        · exact hw
        · refine wf_sT hw ?_
          rcases bes_T (k := way h (hK h i) (hT h i) (nI i)) (hw.2.2 i hi).1 with z | z
          · exact absurd z e
          · exact z
    · exact wf_sP hw _
theorem wf_nTo {h : tp_H} (hw : wfH h) : ∀ i, i ≤ hM h → wfH (nTo h i) := by
  intro i
  induction i with
  | zero => intro _; exact hw
  | succ i ih =>
    intro hi
    rw [nTo_succ]
    exact wf_nOne (ih (by omega)) (by rw [nTo_M]; omega)
theorem wf_pNt {h : tp_H} (hw : wfH h) : wfH (pNt h) := wf_nTo (h := sN h (hN h + 1)) (wf_sN hw _) (hM h) (Nat.le_refl _)
theorem wf_pNs {h : tp_H} (hw : wfH h) (k : Nat) : wfH (pNs k h) := by
  induction k with
  | zero => exact hw
  | succ k ih => rw [pNs_succ]; exact wf_pNt ih
theorem sN_id (h : tp_H) : sN h (hN h) = h := rfl
theorem wSk_r (t : Int32) : wSk t = 1 ∨ wSk t = 3 := by
  unfold wSk
  split
  · exact Or.inr rfl
  · exact Or.inl rfl
theorem way_r {h : tp_H} (hs : isT (hS h) = true) {t : Int32} (ht : isT t = true) (kd k : Int32) : way h kd t k = -9 ∨ way h kd t k = 0 ∨ way h kd t k = 1 ∨ way h kd t k = 2 ∨ way h kd t k = 3 := by
  have hsk : wSk t = -9 ∨ wSk t = 0 ∨ wSk t = 1 ∨ wSk t = 2 ∨ wSk t = 3 := by
    rcases wSk_r t with e | e
    · exact Or.inr (Or.inr (Or.inl e))
    · exact Or.inr (Or.inr (Or.inr (Or.inr e)))
  unfold way
  split
  · unfold wHo
    split
    · exact hsk
    · exact Or.inr (Or.inr (Or.inr (Or.inl rfl)))
  · split
    · unfold wFi
      split
      · exact Or.inl rfl
      · split
        · exact Or.inl rfl
        · exact hsk
    · split
      · exact wSa_4 _ _
      · split
        · unfold wWi
          have h4 := wSa_4 (hS h) t
          generalize wSa (hS h) t = a at h4
          split
          · exact h4
          · split
            · split
              · rcases h4 with e | e | e | e | e <;> first | exact absurd e (by assumption) | (rw [e]; decide)
              · exact Or.inl rfl
            · exact h4
        · split
          · unfold wNo
            cases othB h k
            · exact Or.inl rfl
            · exact wSa_4 _ _
          · exact hsk
theorem bes_lt {t k : Int32} (ht : isT t = true) (h : bes t k < 0) : bes t k = -9 := by
  rcases bes_T (k := k) ht with e | e
  · exact e
  · exact absurd h (isT_lt e)
theorem le2_lt3 {x : Int32} : x ≤ 2 ↔ x < 3 := by
  rw [Int32.le_iff_toInt_le, Int32.lt_iff_toInt_lt, show (2 : Int32).toInt = 2 from rfl, show (3 : Int32).toInt = 3 from rfl]
  omega
theorem nGo_nw {h : tp_H} {j : Nat} (hw : wfH h) (hj : j < hM h) (h1 : way h (hK h j) (hT h j) (nI j) < 0) : nGo h j = -9 := by
  unfold nGo
  have e : way h (hK h j) (hT h j) (nI j) = -9 := by
    rcases way_r hw.2.1 (hw.2.2 j hj).1 (hK h j) (nI j) with e | e | e | e | e
    · exact e
    all_goals (rw [e] at h1; exact absurd h1 (by decide))
  rw [e]
  rfl
/-- what one does in a night, as the reference goes through it -/
theorem n1_ab {h : tp_H} {j : Nat} (e : hT h j = hS h) : nOne h j = h ∧ nGn h j = false := by
  unfold nOne nGn
  rw [if_pos e, if_pos e]
  exact ⟨rfl, rfl⟩
theorem n1_pin {h : tp_H} {j : Nat} (e : ¬ hT h j = hS h) (p : ¬ hP h j ≤ 0) : nOne h j = sP h (tg_u (hP h) j (hP h j - 1)) ∧ nGn h j = false := by
  unfold nOne nGn
  rw [if_neg e, if_neg e, if_neg p, if_neg p]
  exact ⟨rfl, rfl⟩
theorem n1_no {h : tp_H} {j : Nat} (e : ¬ hT h j = hS h) (p : hP h j ≤ 0) (g : nGo h j = -9) : nOne h j = h ∧ nGn h j = false := by
  unfold nOne nGn
  rw [if_neg e, if_neg e, if_pos p, if_pos p, if_pos g, if_pos g]
  exact ⟨rfl, rfl⟩
theorem n1_st {h : tp_H} {j : Nat} (e : ¬ hT h j = hS h) (p : hP h j ≤ 0) (g : mGo h (hT h j) (nGo h j) = false) : nOne h j = h ∧ nGn h j = false := by
  unfold nOne nGn
  rw [if_neg e, if_neg e, if_pos p, if_pos p, g]
  split
  · exact ⟨rfl, rfl⟩
  · exact ⟨rfl, rfl⟩
theorem n1_go {h : tp_H} {j : Nat} (e : ¬ hT h j = hS h) (p : hP h j ≤ 0) (g : ¬ nGo h j = -9) (m : mGo h (hT h j) (nGo h j) = true) : nOne h j = sT h (tg_u (hT h) j (nGo h j)) ∧ nGn h j = true := by
  unfold nOne nGn
  rw [if_neg e, if_neg e, if_pos p, if_pos p, if_neg g, if_neg g, m]
  exact ⟨rfl, rfl⟩
theorem mGo_f {h : tp_H} {a b : Int32} (c : crB h b = true ∨ crB h a = true ∨ ¬ mAt h b ≤ 2) : mGo h a b = false := by
  unfold mGo
  rcases c with c | c | c
  · rw [c]; cases crB h a <;> rfl
  · rw [c]; rfl
  · rw [decide_eq_false (fun q => c (le2_lt3.mpr q))]
    cases crB h a <;> cases crB h b <;> rfl
theorem mGo_t {h : tp_H} {a b : Int32} (c1 : crB h b = false) (c2 : crB h a = false) (c3 : mAt h b ≤ 2) : mGo h a b = true := by
  unfold mGo
  rw [c1, c2, decide_eq_true (le2_lt3.mp c3)]
  rfl
def mv1 (h : tp_H) (j : Nat) (m : Int32) : Int32 := bif nGn h j then m + 1 else m
def mvC (h : tp_H) (m : Int32) : Nat → Int32
  | 0 => m
  | i + 1 => mv1 (nTo h i) i (mvC h m i)
theorem mvC_succ (h : tp_H) (m : Int32) (i : Nat) : mvC h m (i + 1) = mv1 (nTo h i) i (mvC h m i) := rfl
def mvN (h : tp_H) (m : Int32) : Int32 := mvC (sN h (hN h + 1)) m (hM h)
theorem mvC_0 (h : tp_H) : ∀ i, i ≤ 7 → ∃ c : Nat, c ≤ i ∧ mvC h 0 i = nI c ∧ (nGt h i = false ↔ c = 0) := by
  intro i
  induction i with
  | zero => intro _; exact ⟨0, Nat.le_refl 0, rfl, by simp [nGt]⟩
  | succ i ih =>
    intro hi
    obtain ⟨c, h1, h2, h3⟩ := ih (by omega)
    rw [mvC_succ, nGt_succ, h2]
    unfold mv1
    cases nGn (nTo h i) i with
    | false => exact ⟨c, by omega, rfl, h3⟩
    | true => exact ⟨c + 1, by omega, nI_p1 c, ⟨fun q => (by cases q), fun q => (by omega)⟩⟩
theorem mvN_0 {h : tp_H} (hm : hM h ≤ 7) : mvN h 0 = 0 ↔ pGn h = false := by
  obtain ⟨c, h1, h2, h3⟩ := mvC_0 (sN h (hN h + 1)) (hM h) hm
  unfold mvN pGn
  rw [h2, h3]
  constructor
  · intro q
    rcases Nat.eq_zero_or_pos c with z | z
    · exact z
    · exact absurd q (nI_ne0 z (by omega))
  · intro q; rw [q]; rfl

set_option maxRecDepth 100000 in
set_option maxHeartbeats 2000000 in
theorem m_goesOne {G : tg_G} {l : List tg_Cl} {h : tp_H} {y : tp_Y} (hw : wfH h) (j : Nat) (hj : j < hM h) : tg_C G 4 mX11_goesOne 0 0 [.ref 64, .int (nI j)] (l, tm_cs h y) (fun v w => v = none ∧ w = (l, tm_cs (nOne h j) (zMo y (mv1 h j (yMo y))))) := by
  have hm := hw.1
  have htj := (hw.2.2 j hj).1
  refine tg_intro okX11_goesOne (Nat.le_of_ble_eq_true rfl) ?_
  refine tg_steps 2 rfl ?_
  refine tg_callV rfl (m_isAboard hm j hj) rfl rfl rfl rfl rfl (fun v2 w2 q2 => ?_)
  obtain ⟨rfl, rfl⟩ := q2
  rw [abB_j hm hj]
  refine tg_ifbeq rfl rfl (fun h5 => ?_) (fun h5 => ?_)
  · have hab : ¬ hT h j = hS h := of_decide_eq_false h5
    refine tg_steps 3 rfl ?_
    refine tg_ialdN rfl rfl (j) rfl (by omega) (by decide) ?_
    refine tg_ifle rfl rfl (fun h15 => ?_) (fun h15 => ?_)
    · have hpp : hP h j ≤ 0 := h15
      refine tg_steps 4 rfl ?_
      refine tg_callV rfl (m_wayOf hw j hj (hN h)) rfl rfl rfl rfl rfl (fun v35 w35 q35 => ?_)
      obtain ⟨rfl, rfl⟩ := q35
      rw [sN_id]
      refine tg_steps 2 rfl ?_
      refine tg_ifge rfl rfl (fun h40 => ?_) (fun h40 => ?_)
      · have hby : byM (hT h j) (way h (hK h j) (hT h j) (nI j)) = nGo h j := by
          unfold nGo
          refine by_eq htj ?_
          rcases way_r hw.2.1 htj (hK h j) (nI j) with e | e | e | e | e
          · rw [e] at h40; exact absurd h40 (by decide)
          · exact Or.inl e
          · exact Or.inr (Or.inl e)
          · exact Or.inr (Or.inr (Or.inl e))
          · exact Or.inr (Or.inr (Or.inr e))
        refine tg_steps 3 rfl ?_
        refine tg_ialdN rfl rfl (j) rfl (by omega) (by decide) ?_
        refine tg_steps 1 rfl ?_
        refine tg_call1 rfl (m_beyond _ _) rfl rfl rfl  (fun v55 w55 q55 => ?_)
        obtain ⟨rfl, rfl⟩ := q55
        rw [hby]
        refine tg_steps 2 rfl ?_
        refine tg_iflt rfl rfl (fun h60 => ?_) (fun h60 => ?_)
        · first | exact tg_vret (st := []) rfl rfl ⟨Nat.le_of_ble_eq_true rfl, Nat.le_of_ble_eq_true rfl⟩ ⟨rfl, by rw [(n1_no hab hpp hgo).1]; unfold mv1; rw [(n1_no hab hpp hgo).2]; rfl⟩ | exact tg_vret (st := []) rfl rfl ⟨Nat.le_of_ble_eq_true rfl, Nat.le_of_ble_eq_true rfl⟩ ⟨rfl, by rw [(n1_no hab hpp (bes_lt htj h60)).1]; unfold mv1; rw [(n1_no hab hpp (bes_lt htj h60)).2]; rfl⟩ | exact tg_vret (st := []) rfl rfl ⟨Nat.le_of_ble_eq_true rfl, Nat.le_of_ble_eq_true rfl⟩ ⟨rfl, by rw [(n1_st hab hpp (mGo_f (Or.inl h71))).1]; unfold mv1; rw [(n1_st hab hpp (mGo_f (Or.inl h71))).2]; rfl⟩ | exact tg_vret (st := []) rfl rfl ⟨Nat.le_of_ble_eq_true rfl, Nat.le_of_ble_eq_true rfl⟩ ⟨rfl, by rw [(n1_st hab hpp (mGo_f (Or.inr (Or.inl h87)))).1]; unfold mv1; rw [(n1_st hab hpp (mGo_f (Or.inr (Or.inl h87)))).2]; rfl⟩ | exact tg_vret (st := []) rfl rfl ⟨Nat.le_of_ble_eq_true rfl, Nat.le_of_ble_eq_true rfl⟩ ⟨rfl, by rw [(n1_st hab hpp (mGo_f (Or.inr (Or.inr h96)))).1]; unfold mv1; rw [(n1_st hab hpp (mGo_f (Or.inr (Or.inr h96)))).2]; rfl⟩
        · refine tg_steps 3 rfl ?_
          refine tg_call1 rfl (m_has _ _) rfl rfl rfl  (fun v68 w68 q68 => ?_)
          obtain ⟨rfl, rfl⟩ := q68
          refine tg_ifbne rfl rfl (fun h71 => ?_) (fun h71 => ?_)
          · first | exact tg_vret (st := []) rfl rfl ⟨Nat.le_of_ble_eq_true rfl, Nat.le_of_ble_eq_true rfl⟩ ⟨rfl, by rw [(n1_no hab hpp hgo).1]; unfold mv1; rw [(n1_no hab hpp hgo).2]; rfl⟩ | exact tg_vret (st := []) rfl rfl ⟨Nat.le_of_ble_eq_true rfl, Nat.le_of_ble_eq_true rfl⟩ ⟨rfl, by rw [(n1_no hab hpp (bes_lt htj h60)).1]; unfold mv1; rw [(n1_no hab hpp (bes_lt htj h60)).2]; rfl⟩ | exact tg_vret (st := []) rfl rfl ⟨Nat.le_of_ble_eq_true rfl, Nat.le_of_ble_eq_true rfl⟩ ⟨rfl, by rw [(n1_st hab hpp (mGo_f (Or.inl h71))).1]; unfold mv1; rw [(n1_st hab hpp (mGo_f (Or.inl h71))).2]; rfl⟩ | exact tg_vret (st := []) rfl rfl ⟨Nat.le_of_ble_eq_true rfl, Nat.le_of_ble_eq_true rfl⟩ ⟨rfl, by rw [(n1_st hab hpp (mGo_f (Or.inr (Or.inl h87)))).1]; unfold mv1; rw [(n1_st hab hpp (mGo_f (Or.inr (Or.inl h87)))).2]; rfl⟩ | exact tg_vret (st := []) rfl rfl ⟨Nat.le_of_ble_eq_true rfl, Nat.le_of_ble_eq_true rfl⟩ ⟨rfl, by rw [(n1_st hab hpp (mGo_f (Or.inr (Or.inr h96)))).1]; unfold mv1; rw [(n1_st hab hpp (mGo_f (Or.inr (Or.inr h96)))).2]; rfl⟩
          · refine tg_steps 5 rfl ?_
            refine tg_ialdN rfl rfl (j) rfl (by omega) (by decide) ?_
            refine tg_call1 rfl (m_has _ _) rfl rfl rfl  (fun v84 w84 q84 => ?_)
            obtain ⟨rfl, rfl⟩ := q84
            refine tg_ifbne rfl rfl (fun h87 => ?_) (fun h87 => ?_)
            · first | exact tg_vret (st := []) rfl rfl ⟨Nat.le_of_ble_eq_true rfl, Nat.le_of_ble_eq_true rfl⟩ ⟨rfl, by rw [(n1_no hab hpp hgo).1]; unfold mv1; rw [(n1_no hab hpp hgo).2]; rfl⟩ | exact tg_vret (st := []) rfl rfl ⟨Nat.le_of_ble_eq_true rfl, Nat.le_of_ble_eq_true rfl⟩ ⟨rfl, by rw [(n1_no hab hpp (bes_lt htj h60)).1]; unfold mv1; rw [(n1_no hab hpp (bes_lt htj h60)).2]; rfl⟩ | exact tg_vret (st := []) rfl rfl ⟨Nat.le_of_ble_eq_true rfl, Nat.le_of_ble_eq_true rfl⟩ ⟨rfl, by rw [(n1_st hab hpp (mGo_f (Or.inl h71))).1]; unfold mv1; rw [(n1_st hab hpp (mGo_f (Or.inl h71))).2]; rfl⟩ | exact tg_vret (st := []) rfl rfl ⟨Nat.le_of_ble_eq_true rfl, Nat.le_of_ble_eq_true rfl⟩ ⟨rfl, by rw [(n1_st hab hpp (mGo_f (Or.inr (Or.inl h87)))).1]; unfold mv1; rw [(n1_st hab hpp (mGo_f (Or.inr (Or.inl h87)))).2]; rfl⟩ | exact tg_vret (st := []) rfl rfl ⟨Nat.le_of_ble_eq_true rfl, Nat.le_of_ble_eq_true rfl⟩ ⟨rfl, by rw [(n1_st hab hpp (mGo_f (Or.inr (Or.inr h96)))).1]; unfold mv1; rw [(n1_st hab hpp (mGo_f (Or.inr (Or.inr h96)))).2]; rfl⟩
            · refine tg_steps 2 rfl ?_
              refine tg_callV rfl (m_manyOn hm _) rfl rfl rfl rfl rfl (fun v92 w92 q92 => ?_)
              obtain ⟨rfl, rfl⟩ := q92
              refine tg_steps 1 rfl ?_
              refine tg_icle rfl rfl (fun h96 => ?_) (fun h96 => ?_)
              · have hg9 : ¬ nGo h j = -9 := fun e => absurd (e ▸ h60) (by decide)
                have hmg := mGo_t (h := h) h71 h87 h96
                refine tg_steps 4 rfl ?_
                refine tg_iastN rfl rfl (j) rfl (by omega) (by decide) ?_
                refine tg_eqW (m_T _) ?_
                refine tg_steps 6 rfl ?_
                exact tg_vret (st := []) rfl rfl ⟨Nat.le_of_ble_eq_true rfl, Nat.le_of_ble_eq_true rfl⟩ ⟨rfl, by rw [(n1_go hab hpp hg9 hmg).1]; unfold mv1; rw [(n1_go hab hpp hg9 hmg).2]; rfl⟩
              · first | exact tg_vret (st := []) rfl rfl ⟨Nat.le_of_ble_eq_true rfl, Nat.le_of_ble_eq_true rfl⟩ ⟨rfl, by rw [(n1_no hab hpp hgo).1]; unfold mv1; rw [(n1_no hab hpp hgo).2]; rfl⟩ | exact tg_vret (st := []) rfl rfl ⟨Nat.le_of_ble_eq_true rfl, Nat.le_of_ble_eq_true rfl⟩ ⟨rfl, by rw [(n1_no hab hpp (bes_lt htj h60)).1]; unfold mv1; rw [(n1_no hab hpp (bes_lt htj h60)).2]; rfl⟩ | exact tg_vret (st := []) rfl rfl ⟨Nat.le_of_ble_eq_true rfl, Nat.le_of_ble_eq_true rfl⟩ ⟨rfl, by rw [(n1_st hab hpp (mGo_f (Or.inl h71))).1]; unfold mv1; rw [(n1_st hab hpp (mGo_f (Or.inl h71))).2]; rfl⟩ | exact tg_vret (st := []) rfl rfl ⟨Nat.le_of_ble_eq_true rfl, Nat.le_of_ble_eq_true rfl⟩ ⟨rfl, by rw [(n1_st hab hpp (mGo_f (Or.inr (Or.inl h87)))).1]; unfold mv1; rw [(n1_st hab hpp (mGo_f (Or.inr (Or.inl h87)))).2]; rfl⟩ | exact tg_vret (st := []) rfl rfl ⟨Nat.le_of_ble_eq_true rfl, Nat.le_of_ble_eq_true rfl⟩ ⟨rfl, by rw [(n1_st hab hpp (mGo_f (Or.inr (Or.inr h96)))).1]; unfold mv1; rw [(n1_st hab hpp (mGo_f (Or.inr (Or.inr h96)))).2]; rfl⟩
      · have hgo : nGo h j = -9 := nGo_nw hw hj (Int32.not_le.mp h40)
        refine tg_steps 4 rfl ?_
        refine tg_iflt rfl rfl (fun h60 => ?_) (fun h60 => absurd h60 (by decide))
        first | exact tg_vret (st := []) rfl rfl ⟨Nat.le_of_ble_eq_true rfl, Nat.le_of_ble_eq_true rfl⟩ ⟨rfl, by rw [(n1_no hab hpp hgo).1]; unfold mv1; rw [(n1_no hab hpp hgo).2]; rfl⟩ | exact tg_vret (st := []) rfl rfl ⟨Nat.le_of_ble_eq_true rfl, Nat.le_of_ble_eq_true rfl⟩ ⟨rfl, by rw [(n1_no hab hpp (bes_lt htj h60)).1]; unfold mv1; rw [(n1_no hab hpp (bes_lt htj h60)).2]; rfl⟩ | exact tg_vret (st := []) rfl rfl ⟨Nat.le_of_ble_eq_true rfl, Nat.le_of_ble_eq_true rfl⟩ ⟨rfl, by rw [(n1_st hab hpp (mGo_f (Or.inl h71))).1]; unfold mv1; rw [(n1_st hab hpp (mGo_f (Or.inl h71))).2]; rfl⟩ | exact tg_vret (st := []) rfl rfl ⟨Nat.le_of_ble_eq_true rfl, Nat.le_of_ble_eq_true rfl⟩ ⟨rfl, by rw [(n1_st hab hpp (mGo_f (Or.inr (Or.inl h87)))).1]; unfold mv1; rw [(n1_st hab hpp (mGo_f (Or.inr (Or.inl h87)))).2]; rfl⟩ | exact tg_vret (st := []) rfl rfl ⟨Nat.le_of_ble_eq_true rfl, Nat.le_of_ble_eq_true rfl⟩ ⟨rfl, by rw [(n1_st hab hpp (mGo_f (Or.inr (Or.inr h96)))).1]; unfold mv1; rw [(n1_st hab hpp (mGo_f (Or.inr (Or.inr h96)))).2]; rfl⟩
    · have hpp : ¬ hP h j ≤ 0 := h15
      refine tg_steps 4 rfl ?_
      refine tg_ialdN rfl rfl (j) rfl (by omega) (by decide) ?_
      refine tg_steps 2 rfl ?_
      refine tg_iastN rfl rfl (j) rfl (by omega) (by decide) ?_
      refine tg_eqW (m_P _) ?_
      exact tg_vret (st := []) rfl rfl ⟨Nat.le_of_ble_eq_true rfl, Nat.le_of_ble_eq_true rfl⟩ ⟨rfl, by rw [(n1_pin hab hpp).1]; unfold mv1; rw [(n1_pin hab hpp).2]; rfl⟩
  · have hab : hT h j = hS h := of_decide_eq_true h5
    exact tg_vret (st := []) rfl rfl ⟨Nat.le_of_ble_eq_true rfl, Nat.le_of_ble_eq_true rfl⟩ ⟨rfl, by rw [(n1_ab hab).1]; unfold mv1; rw [(n1_ab hab).2]; rfl⟩
set_option maxRecDepth 100000 in
set_option maxHeartbeats 2000000 in
theorem m_goesNight {G : tg_G} {l : List tg_Cl} {h : tp_H} {y : tp_Y} (hw : wfH h) : tg_C G 5 mX11_goesNight 0 0 [.ref 64] (l, tm_cs h y) (fun v w => v = none ∧ w = (l, tm_cs (pNt h) (zMo y (mvN h (yMo y))))) := by
  have hm := hw.1
  refine tg_intro okX11_goesNight (Nat.le_of_ble_eq_true rfl) ?_
  refine tg_steps 6 rfl ?_
  refine tg_eqW (w2 := (l, tm_cs (sN h (hN h + 1)) y)) rfl ?_
  refine tg_steps 2 rfl ?_
  refine tg_pkV [0, 1] ?_
  refine tg_eqS (L2 := [(0, .ref 64), (1, .int (nI (0)))]) (st2 := []) (w2 := (l, tm_cs (nTo (sN h (hN h + 1)) (0)) (zMo y (mvC (sN h (hN h + 1)) (yMo y) (0))))) rfl rfl rfl ?_
  refine tg_down (φ := fun i : Nat => tg_V G 5 mX11_goesNight 0 0 0 0 (fun v w => v = none ∧ w = (l, tm_cs (pNt h) (zMo y (mvN h (yMo y))))) 12 [(0, .ref 64), (1, .int (nI (i)))] [] (l, tm_cs (nTo (sN h (hN h + 1)) (i)) (zMo y (mvC (sN h (hN h + 1)) (yMo y) (i))))) (n := hM h) ?_ ?_ 0 (Nat.zero_le _) 
  · refine tg_steps 3 rfl ?_
    refine tg_icge rfl rfl (fun h17 => ?_) (fun h17 => ?_)
    · exact tg_vret (st := []) rfl rfl ⟨Nat.le_of_ble_eq_true rfl, Nat.le_of_ble_eq_true rfl⟩ ⟨rfl, rfl⟩
    · exact absurd (by rw [nTo_M]; exact nI_le (Nat.le_refl _) (by show hM h < _; omega)) h17
  · intro i hi12 ih12
    have hwi : wfH (nTo (sN h (hN h + 1)) i) := wf_nTo (h := (sN h (hN h + 1))) (wf_sN hw _) i (Nat.le_of_lt hi12)
    refine tg_steps 3 rfl ?_
    refine tg_icge rfl rfl (fun h17 => ?_) (fun h17 => ?_)
    · exact absurd h17 (by rw [nTo_M]; exact nI_ge hi12 (by show hM h < _; omega))
    · refine tg_steps 2 rfl ?_
      refine tg_callV rfl (m_goesOne hwi i (by rw [nTo_M]; exact hi12)) rfl rfl rfl rfl rfl (fun v22 w22 q22 => ?_)
      obtain ⟨rfl, rfl⟩ := q22
      refine tg_steps 2 rfl ?_
      refine tg_pkV [0, 1] ?_
      refine tg_eqS (L2 := [(0, .ref 64), (1, .int (nI (i + 1)))]) (st2 := []) (w2 := (l, tm_cs (nTo (sN h (hN h + 1)) (i + 1)) (zMo y (mvC (sN h (hN h + 1)) (yMo y) (i + 1))))) (by first | (simp (decide := true) only [nI_succ, nTo_succ, mvC_succ, decide_true, decide_false, cond_true, cond_false, Bool.false_eq_true, if_true, if_false, ite_true, ite_false]; done) | (simp (decide := true) only [nI_succ, nTo_succ, mvC_succ, decide_true, decide_false, cond_true, cond_false, Bool.false_eq_true, if_true, if_false, ite_true, ite_false]; rfl) | rfl) rfl (by first | (simp (decide := true) only [nI_succ, nTo_succ, mvC_succ, decide_true, decide_false, cond_true, cond_false, Bool.false_eq_true, if_true, if_false, ite_true, ite_false]; done) | (simp (decide := true) only [nI_succ, nTo_succ, mvC_succ, decide_true, decide_false, cond_true, cond_false, Bool.false_eq_true, if_true, if_false, ite_true, ite_false]; rfl) | rfl) ?_
      exact ih12
set_option maxRecDepth 100000 in
set_option maxHeartbeats 2000000 in
theorem m_goes {G : tg_G} {l : List tg_Cl} {h : tp_H} {y : tp_Y} (hw : wfH h) (k : Nat) (hk : k < 2 ^ 31) : tg_C G 6 mX11_goes 0 0 [.ref 64, .int (nI k)] (l, tm_cs h y) (fun v w => v = none ∧ ∃ mo, w = (l, tm_cs (pNs k h) (zMo y mo))) := by
  refine tg_intro okX11_goes (Nat.le_of_ble_eq_true rfl) ?_
  refine tg_steps 2 rfl ?_
  refine tg_pkV [0, 1, 2] ?_
  refine tg_eqS (L2 := [(0, .ref 64), (1, .int (nI k)), (2, .int (nI (0)))]) (st2 := []) (w2 := _) rfl rfl rfl ?_
  refine tg_down (φ := fun i : Nat => ∀ (mo : Int32), tg_V G 6 mX11_goes 0 0 0 0 (fun v w => v = none ∧ ∃ mo, w = (l, tm_cs (pNs k h) (zMo y mo))) 2 [(0, .ref 64), (1, .int (nI k)), (2, .int (nI (i)))] [] (l, tm_cs (pNs (i) h) (zMo y mo))) (n := k) ?_ ?_ 0 (Nat.zero_le _) (yMo y) 
  · intro mo
    refine tg_steps 2 rfl ?_
    refine tg_icge rfl rfl (fun h4 => ?_) (fun h4 => ?_)
    · exact tg_vret (st := []) rfl rfl ⟨Nat.le_of_ble_eq_true rfl, Nat.le_of_ble_eq_true rfl⟩ ⟨rfl, _, rfl⟩
    · exact absurd (nI_le (Nat.le_refl _) (by omega)) h4
  · intro i hi2 ih2 mo
    refine tg_steps 2 rfl ?_
    refine tg_icge rfl rfl (fun h4 => ?_) (fun h4 => ?_)
    · exact absurd h4 (nI_ge hi2 (by omega))
    · refine tg_steps 1 rfl ?_
      refine tg_callV rfl (m_goesNight (wf_pNs hw i)) rfl rfl rfl rfl rfl (fun v8 w8 q8 => ?_)
      obtain ⟨rfl, rfl⟩ := q8
      refine tg_steps 2 rfl ?_
      refine tg_pkV [0, 1, 2] ?_
      refine tg_eqS (L2 := [(0, .ref 64), (1, .int (nI k)), (2, .int (nI (i + 1)))]) (st2 := []) (w2 := _) (by first | (simp (decide := true) only [nI_succ, pNs_succ, decide_true, decide_false, cond_true, cond_false, Bool.false_eq_true, if_true, if_false, ite_true, ite_false]; done) | (simp (decide := true) only [nI_succ, pNs_succ, decide_true, decide_false, cond_true, cond_false, Bool.false_eq_true, if_true, if_false, ite_true, ite_false]; rfl) | rfl) rfl rfl ?_
      exact ih2 _
