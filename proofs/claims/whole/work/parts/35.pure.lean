/-! where class and reference go different ways to one answer -/
section
variable {n h : tp_H}
theorem g_crBc (e : hC n = hC h) (t : Int32) : crB n t = crB h t := by unfold crB; rw [e]
theorem g_bfW (e : hC n = hC h) (ti : Int32) (q : tp_B) (k : Nat) : bfW n ti q k = bfW h ti q k := by
  unfold bfW
  rw [g_crBc e]
theorem g_bfI (e : hC n = hC h) (ti : Int32) (q : tp_B) (k : Nat) : bfI n ti q k = bfI h ti q k := by
  induction k with
  | zero => rfl
  | succ k ih => rw [bfI_succ, bfI_succ, ih, g_bfW e]
theorem g_bfO (e : hC n = hC h) (q : tp_B) (i : Nat) : bfO n q i = bfO h q i := by
  induction i with
  | zero => rfl
  | succ i ih => rw [bfO_succ, bfO_succ, ih, g_bfI e]
theorem g_farD (e : eqH n h) (a b : Int32) : farD n a b = farD h a b := by
  unfold farD bfD bfR
  rw [g_bfO e.1]
theorem g_aCut (e : eqH n h) : aCut n = aCut h := by
  unfold aCut
  rw [← e.2.2.2.1]
  refine bI_eq (fun i hi => ?_)
  unfold cuP
  rw [g_farD e, (e.2.2.2.2 i hi).2.2.2.1, e.2.1]
theorem k_fB (hw : wfH h) : fB h 61 0 = (fbM h (hM h)).1 := by sorry
theorem k_all (hw : wfH h) : aAll h = alV h (hM h) 0 0 := by sorry
theorem k_sails (hw : wfH h) (one : Int32) : aSai h one = (if one = -1 then (fbM h (hM h)).1 else if one = -2 then alV h (hM h) 0 0 else aFir h one (hS h)) := by
  unfold aSai
  rw [k_fB hw, k_all hw]
theorem k_far {a b : Int32} (hw : wfH h) (ha : isT a = true) (hb : isT b = true) : farD h a b = frM h a b := by sorry
theorem fiV_9 {p : Nat → Bool} : ∀ {d i : Nat}, i + d ≤ 1000 → fiV p nI (-9) d i = -9 ∨ ¬ fiV p nI (-9) d i < 0 := by
  intro d
  induction d with
  | zero => intro i _; exact Or.inl rfl
  | succ d ih =>
    intro i h
    rw [fiV_succ]
    cases p i
    · exact ih (by omega)
    · exact Or.inr (nI_pos (by omega))
theorem k_cut (hw : wfH h) : aCut h = bI (cuM h) (hM h) := by
  unfold aCut
  refine bI_eq (fun i hi => ?_)
  unfold cuP cuM
  rw [k_far hw (hw.2.2 i hi).1 hw.2.1]
  rcases fiV_9 (p := frP h (hT h i) (hS h)) (d := 25) (i := 0) (by decide) with q | q
  · rw [show frM h (hT h i) (hS h) = -9 from q]; rfl
  · rw [decide_eq_false (fun z => q (by rw [show fiV (frP h (hT h i) (hS h)) nI (-9) 25 0 = -9 from z]; decide)), decide_eq_false q]
theorem k_ship (hw : wfH h) (k what : Int32) : aShB h k what = aShM h k what := by sorry
theorem k_mend (h : tp_H) (k what : Int32) : aMen h k what = (mdS h (nN k) what 24).1 := by
  unfold aMen mdS
  split <;> rfl
theorem k_few (hw : wfH h) (k : Int32) : aFew h k = feS h (nN k) (2 ^ hM h) := by sorry
theorem k_best (hw : wfH h) {one : Int32} (ho : hasB h one = true) (what : Int32) : aBes h one what = aBeM h one what := by sorry
theorem k_crowd (hw : wfH h) (what : Int32) : aCro h what = (if what = 0 then fuT h 24 else if what = 1 then mAt h (fuT h 24) else if what = 2 then hoM h else if what = 3 then loM h else if what = 4 then piM h else if what = 5 then bsO h (hM h) else bI (fun t => decide (mAt h (nI t) = 0)) 24) := by sorry
theorem k_two (hw : wfH h) (y : tp_Y) {a b : Int32} (ha : hasB h a = true) (hb : hasB h b = true) (k : Int32) : aTwo h a b k = fiV (twM h (yEn y) (nN a) (nN b) (nN k)) twV (-9) 4 0 := by sorry
theorem k_okE (hw : wfH h) : ∀ a j td, a < hM h → j ≤ 7 → ¬ td < 2 → ¬ 20 < td → okE (upM h a j td (2 ^ j)) (powL td j) := by sorry
theorem k_okM (hw : wfH h) : ¬ hM h = 0 → lg_cmp (eu (meS h (hM h)) (nI (hM h)).toInt64 128).2 0 = 0 ∧ ¬ (eu (meS h (hM h)) (nI (hM h)).toInt64 128).1 = 0 := by sorry
theorem k_coals (hw : wfH h) {one k td part : Int32} (z : wCoa h one k td part = 0) (part' : Int32) : aCoa h one k td part' = pdM (upM h (nN one) (nN k) td (2 ^ nN k)) (powL td (nN k)) part' := by sorry
theorem k_mean (hw : wfH h) {part : Int32} (z : wWh part = 0) : aMea h part = (if hM h = 0 then part.toInt64 else pdM (meS h (hM h)) (nI (hM h)).toInt64 part) := by sorry
theorem k_what {y : tp_Y} (hw : wfH h) {one : Int32} (ho : hasB h one = true) (what : Int32) : aWha h (xOf y) one what = (if what = 0 then bI (bfK h (yRo y) (yRm y) (nN one)) 6 else bI (bfF h (yRo y) (yRm y) (nN one)) 10) := by sorry
end
