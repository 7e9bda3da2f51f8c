/-! where class and reference go different ways to one answer -/
section
variable {n h : tp_H}
theorem g_crBc (e : hC n = hC h) (t : Int32) : crB n t = crB h t := by unfold crB; rw [e]
theorem g_bfW (e : hC n = hC h) (ti : Int32) (q : tp_B) (k : Nat) : bfW n ti q k = bfW h ti q k := by
  unfold bfW
  rw [g_crBc e]
theorem g_bfI (e : hC n = hC h) (ti : Int32) (q : tp_B) (k : Nat) : bfI n ti q k = bfI h ti q k := by
  induction k with
  | zero => rfl
  | succ k ih => rw [bfI_succ, bfI_succ, ih, g_bfW e]
theorem g_bfO (e : hC n = hC h) (q : tp_B) (i : Nat) : bfO n q i = bfO h q i := by
  induction i with
  | zero => rfl
  | succ i ih => rw [bfO_succ, bfO_succ, ih, g_bfI e]
theorem g_farD (e : eqH n h) (a b : Int32) : farD n a b = farD h a b := by
  unfold farD bfD bfR
  rw [g_bfO e.1]
theorem g_aCut (e : eqH n h) : aCut n = aCut h := by
  unfold aCut
  rw [← e.2.2.2.1]
  refine bI_eq (fun i hi => ?_)
  unfold cuP
  rw [g_farD e, (e.2.2.2.2 i hi).2.2.2.1, e.2.1]
theorem k_sails (hw : wfH h) (one : Int32) : aSai h one = (if one = -1 then (fbM h (hM h)).1 else if one = -2 then alV h (hM h) 0 0 else aFir h one (hS h)) := by
  unfold aSai
  rw [k_fB hw, k_all hw]
theorem fiV_9 {p : Nat → Bool} : ∀ {d i : Nat}, i + d ≤ 1000 → fiV p nI (-9) d i = -9 ∨ ¬ fiV p nI (-9) d i < 0 := by
  intro d
  induction d with
  | zero => intro i _; exact Or.inl rfl
  | succ d ih =>
    intro i h
    rw [fiV_succ]
    cases p i
    · exact ih (by omega)
    · exact Or.inr (nI_pos (by omega))
theorem k_cut (hw : wfH h) : aCut h = bI (cuM h) (hM h) := by
  unfold aCut
  refine bI_eq (fun i hi => ?_)
  unfold cuP cuM
  rw [k_far hw (hw.2.2 i hi).1 hw.2.1]
  rcases fiV_9 (p := frP h (hT h i) (hS h)) (d := 25) (i := 0) (by decide) with q | q
  · rw [show frM h (hT h i) (hS h) = -9 from q]; rfl
  · rw [decide_eq_false (fun z => q (by rw [show fiV (frP h (hT h i) (hS h)) nI (-9) 25 0 = -9 from z]; decide)), decide_eq_false (show ¬ frM h (hT h i) (hS h) < 0 from q)]
theorem k_mend (h : tp_H) (k what : Int32) : aMen h k what = (mdS h (nN k) what 24).1 := by
  unfold aMen mdS
  split <;> rfl
end
