/-! two hearths that are the same as far as their little ones go -/
def abM (h : tp_H) : Int32 := mAt h (hS h)
def eqH (a b : tp_H) : Prop := hC a = hC b ∧ hS a = hS b ∧ hN a = hN b ∧ hM a = hM b ∧ ∀ i, i < hM a → hK a i = hK b i ∧ hF a i = hF b i ∧ hH a i = hH b i ∧ hT a i = hT b i ∧ hP a i = hP b i
theorem eqH_rf (a : tp_H) : eqH a a := ⟨rfl, rfl, rfl, rfl, fun _ _ => ⟨rfl, rfl, rfl, rfl, rfl⟩⟩
theorem eqH_sy {a b : tp_H} (e : eqH a b) : eqH b a := by
  obtain ⟨e1, e2, e3, e4, e5⟩ := e
  refine ⟨e1.symm, e2.symm, e3.symm, e4.symm, fun i hi => ?_⟩
  obtain ⟨f1, f2, f3, f4, f5⟩ := e5 i (by omega)
  exact ⟨f1.symm, f2.symm, f3.symm, f4.symm, f5.symm⟩
theorem eqH_tr {a b c : tp_H} (e : eqH a b) (f : eqH b c) : eqH a c := by
  obtain ⟨e1, e2, e3, e4, e5⟩ := e
  obtain ⟨f1, f2, f3, f4, f5⟩ := f
  refine ⟨e1.trans f1, e2.trans f2, e3.trans f3, e4.trans f4, fun i hi => ?_⟩
  obtain ⟨g1, g2, g3, g4, g5⟩ := e5 i hi
  obtain ⟨k1, k2, k3, k4, k5⟩ := f5 i (by omega)
  exact ⟨g1.trans k1, g2.trans k2, g3.trans k3, g4.trans k4, g5.trans k5⟩
theorem mix_lt {i j : Nat} (f g : tp_A) (h : j < i) : mix i f g j = g j := by
  unfold mix
  rw [show Nat.blt j i = true from (by simp only [Nat.blt_eq]; exact h)]
  rfl
theorem eq_cpF (g h : tp_H) : eqH (cpF g h) h :=
  ⟨rfl, rfl, rfl, rfl, fun i hi => ⟨mix_lt _ _ hi, mix_lt _ _ hi, mix_lt _ _ hi, mix_lt _ _ hi, mix_lt _ _ hi⟩⟩
theorem cI_eq {p q : Nat → Bool} {n : Nat} (h : ∀ i, i < n → p i = q i) : cI p n = cI q n := by
  induction n with
  | zero => rfl
  | succ n ih => rw [cI_succ, cI_succ, h n (Nat.lt_succ_self n), ih (fun i hi => h i (by omega))]
theorem bI_eq {p q : Nat → Bool} {n : Nat} (h : ∀ i, i < n → p i = q i) : bI p n = bI q n := by
  induction n with
  | zero => rfl
  | succ n ih => rw [bI_succ, bI_succ, h n (Nat.lt_succ_self n), ih (fun i hi => h i (by omega))]
theorem aI_eq {p q : Nat → Bool} : ∀ {d i : Nat}, (∀ j, i ≤ j → j < i + d → p j = q j) → aI p d i = aI q d i := by
  intro d
  induction d with
  | zero => intro i _; rfl
  | succ d ih => intro i h; rw [aI_succ, aI_succ, h i (Nat.le_refl i) (by omega), ih (fun j h1 h2 => h j (by omega) (by omega))]
theorem eq_has {a b : tp_H} (e : eqH a b) (k : Int32) : hasB a k = hasB b k := by unfold hasB; rw [e.2.2.2.1]
theorem eq_gO {f : tp_H → tp_A} {a b : tp_H} (hm : hM a ≤ 7) (e : eqH a b) (hf : ∀ i, i < hM a → f a i = f b i) (k : Int32) : gO f a k = gO f b k := by
  unfold gO
  rw [← eq_has e]
  cases hb : hasB a k with
  | false => rfl
  | true =>
    obtain ⟨j, hj, rfl, hc⟩ := has_j hm hb
    rw [hc]
    exact hf j hj
theorem eq_gK {a b : tp_H} (hm : hM a ≤ 7) (e : eqH a b) (k : Int32) : gO hK a k = gO hK b k := eq_gO hm e (fun i hi => (e.2.2.2.2 i hi).1) k
theorem eq_gF {a b : tp_H} (hm : hM a ≤ 7) (e : eqH a b) (k : Int32) : gO hF a k = gO hF b k := eq_gO hm e (fun i hi => (e.2.2.2.2 i hi).2.1) k
theorem eq_gH {a b : tp_H} (hm : hM a ≤ 7) (e : eqH a b) (k : Int32) : gO hH a k = gO hH b k := eq_gO hm e (fun i hi => (e.2.2.2.2 i hi).2.2.1) k
theorem eq_gT {a b : tp_H} (hm : hM a ≤ 7) (e : eqH a b) (k : Int32) : gO hT a k = gO hT b k := eq_gO hm e (fun i hi => (e.2.2.2.2 i hi).2.2.2.1) k
theorem eq_gP {a b : tp_H} (hm : hM a ≤ 7) (e : eqH a b) (k : Int32) : gO hP a k = gO hP b k := eq_gO hm e (fun i hi => (e.2.2.2.2 i hi).2.2.2.2) k
theorem eq_abB {a b : tp_H} (hm : hM a ≤ 7) (e : eqH a b) (k : Int32) : abB a k = abB b k := by unfold abB; rw [eq_gT hm e, e.2.1]
theorem eq_crB {a b : tp_H} (e : eqH a b) (k : Int32) : crB a k = crB b k := by unfold crB; rw [e.1]
theorem eq_mAt {a b : tp_H} (e : eqH a b) (k : Int32) : mAt a k = mAt b k := by
  unfold mAt
  rw [← e.2.2.2.1]
  exact cI_eq (fun i hi => by rw [(e.2.2.2.2 i hi).2.2.2.1])
theorem eq_oAt {a b : tp_H} (e : eqH a b) (k : Int32) : oAt a k = oAt b k := by
  unfold oAt
  rw [← e.2.2.2.1]
  exact bI_eq (fun i hi => by rw [(e.2.2.2.2 i hi).2.2.2.1])
theorem eq_abM {a b : tp_H} (e : eqH a b) : abM a = abM b := by unfold abM; rw [eq_mAt e, e.2.1]
theorem eq_hoM {a b : tp_H} (e : eqH a b) : hoM a = hoM b := by
  unfold hoM
  rw [← e.2.2.2.1]
  exact cI_eq (fun i hi => by rw [(e.2.2.2.2 i hi).2.2.2.1, (e.2.2.2.2 i hi).2.2.1])
theorem eq_othB {a b : tp_H} (e : eqH a b) (k : Int32) : othB a k = othB b k := by
  unfold othB
  rw [← e.2.2.2.1]
  exact aI_eq (fun i _ hi => by rw [(e.2.2.2.2 i (by omega)).2.2.2.1, e.2.1])
theorem eq_way {a b : tp_H} (hm : hM a ≤ 7) (e : eqH a b) (kd t k : Int32) : way a kd t k = way b kd t k := by
  unfold way wFi wWi wNo
  rw [eq_gF hm e, e.2.1, e.2.2.1, eq_othB e]
theorem eq_mGo {a b : tp_H} (e : eqH a b) (x y : Int32) : mGo a x y = mGo b x y := by
  unfold mGo
  rw [eq_crB e, eq_crB e, eq_mAt e]
theorem eq_nGo {a b : tp_H} (hm : hM a ≤ 7) (e : eqH a b) {i : Nat} (hi : i < hM a) : nGo a i = nGo b i := by
  unfold nGo
  rw [eq_way hm e, (e.2.2.2.2 i hi).1, (e.2.2.2.2 i hi).2.2.2.1]
theorem eq_sC {a b : tp_H} (e : eqH a b) (v : Int32) : eqH (sC a v) (sC b v) := ⟨rfl, e.2⟩
theorem eq_sS {a b : tp_H} (e : eqH a b) (v : Int32) : eqH (sS a v) (sS b v) := ⟨e.1, rfl, e.2.2⟩
theorem eq_sN {a b : tp_H} (e : eqH a b) (v : Int32) : eqH (sN a v) (sN b v) := ⟨e.1, e.2.1, rfl, e.2.2.2⟩
theorem eq_sT {a b : tp_H} (e : eqH a b) {f g : tp_A} (h : ∀ i, i < hM a → f i = g i) : eqH (sT a f) (sT b g) := ⟨e.1, e.2.1, e.2.2.1, e.2.2.2.1, fun i hi => ⟨(e.2.2.2.2 i hi).1, (e.2.2.2.2 i hi).2.1, (e.2.2.2.2 i hi).2.2.1, h i hi, (e.2.2.2.2 i hi).2.2.2.2⟩⟩
theorem eq_sP {a b : tp_H} (e : eqH a b) {f g : tp_A} (h : ∀ i, i < hM a → f i = g i) : eqH (sP a f) (sP b g) := ⟨e.1, e.2.1, e.2.2.1, e.2.2.2.1, fun i hi => ⟨(e.2.2.2.2 i hi).1, (e.2.2.2.2 i hi).2.1, (e.2.2.2.2 i hi).2.2.1, (e.2.2.2.2 i hi).2.2.2.1, h i hi⟩⟩
theorem eq_sK {a b : tp_H} (e : eqH a b) {f g : tp_A} (h : ∀ i, i < hM a → f i = g i) : eqH (sK a f) (sK b g) := ⟨e.1, e.2.1, e.2.2.1, e.2.2.2.1, fun i hi => ⟨h i hi, (e.2.2.2.2 i hi).2.1, (e.2.2.2.2 i hi).2.2.1, (e.2.2.2.2 i hi).2.2.2.1, (e.2.2.2.2 i hi).2.2.2.2⟩⟩
theorem eq_sF {a b : tp_H} (e : eqH a b) {f g : tp_A} (h : ∀ i, i < hM a → f i = g i) : eqH (sF a f) (sF b g) := ⟨e.1, e.2.1, e.2.2.1, e.2.2.2.1, fun i hi => ⟨(e.2.2.2.2 i hi).1, h i hi, (e.2.2.2.2 i hi).2.2.1, (e.2.2.2.2 i hi).2.2.2.1, (e.2.2.2.2 i hi).2.2.2.2⟩⟩
theorem eq_u {f g : tp_A} {n : Nat} (h : ∀ i, i < n → f i = g i) (k : Nat) (v : Int32) : ∀ i, i < n → tg_u f k v i = tg_u g k v i := by
  intro i hi
  rw [tg_u_eq, tg_u_eq, h i hi]
theorem eq_nOne {a b : tp_H} (hm : hM a ≤ 7) (e : eqH a b) {i : Nat} (hi : i < hM a) : eqH (nOne a i) (nOne b i) ∧ nGn a i = nGn b i := by
  have g := eq_nGo hm e hi
  have m := eq_mGo e
  obtain ⟨eK, eF, eH, eT, eP⟩ := e.2.2.2.2 i hi
  have eS := e.2.1
  unfold nOne nGn
  rw [eT, eS, eP, g, m]
  refine ⟨?_, rfl⟩
  split
  · exact e
  · split
    · split
      · exact e
      · cases mGo b (hT b i) (nGo b i)
        · exact e
        · exact eq_sT e (eq_u (fun j hj => (e.2.2.2.2 j hj).2.2.2.1) i _)
    · exact eq_sP e (eq_u (fun j hj => (e.2.2.2.2 j hj).2.2.2.2) i _)
theorem eq_nTo {a b : tp_H} (hm : hM a ≤ 7) (e : eqH a b) : ∀ i, i ≤ hM a → eqH (nTo a i) (nTo b i) ∧ nGt a i = nGt b i := by
  intro i
  induction i with
  | zero => intro _; exact ⟨e, rfl⟩
  | succ i ih =>
    intro hi
    obtain ⟨h1, h2⟩ := ih (by omega)
    obtain ⟨h3, h4⟩ := eq_nOne (by rw [nTo_M]; exact hm) h1 (i := i) (by rw [nTo_M]; omega)
    rw [nTo_succ, nTo_succ, nGt_succ, nGt_succ, h4, h2]
    exact ⟨h3, rfl⟩
theorem eq_pNt {a b : tp_H} (hm : hM a ≤ 7) (e : eqH a b) : eqH (pNt a) (pNt b) ∧ pGn a = pGn b := by
  unfold pNt pGn
  rw [← e.2.2.2.1, ← e.2.2.1]
  exact eq_nTo (a := sN a (hN a + 1)) (b := sN b (hN a + 1)) hm (eq_sN e _) (hM a) (Nat.le_refl _)
theorem eq_pNs {a b : tp_H} (hm : hM a ≤ 7) (e : eqH a b) (k : Nat) : eqH (pNs k a) (pNs k b) := by
  induction k with
  | zero => exact e
  | succ k ih => rw [pNs_succ, pNs_succ]; exact (eq_pNt (by rw [pNs_M]; exact hm) ih).1
theorem eq_uP {f g : tp_A} {a b : tp_H} (hm : hM a ≤ 7) (e : eqH a b) (h : ∀ i, i < hM a → f i = g i) (k v : Int32) : ∀ i, i < hM a → uP f a k v i = uP g b k v i := by
  intro i hi
  unfold uP
  rw [← eq_has e]
  cases hasB a k
  · exact h i hi
  · exact eq_u h _ _ i hi
theorem eq_pinH {a b : tp_H} (hm : hM a ≤ 7) (e : eqH a b) (k v : Int32) : eqH (pinH a k v) (pinH b k v) := eq_sP e (eq_uP hm e (fun j hj => (e.2.2.2.2 j hj).2.2.2.2) k v)
theorem eq_putH {a b : tp_H} (hm : hM a ≤ 7) (e : eqH a b) (k v : Int32) : eqH (putH a k v) (putH b k v) := eq_sT e (eq_uP hm e (fun j hj => (e.2.2.2.2 j hj).2.2.2.1) k v)
theorem eq_senH {a b : tp_H} (hm : hM a ≤ 7) (e : eqH a b) (k v : Int32) : eqH (senH a k v) (senH b k v) := by
  unfold senH
  rw [← eq_gH hm e]
  exact eq_putH (a := pinH a k v) hm (eq_pinH hm e k v) k _
theorem eq_becH {a b : tp_H} (hm : hM a ≤ 7) (e : eqH a b) (k x y : Int32) : eqH (becH a k x y) (becH b k x y) :=
  eq_sF (eq_sK e (eq_uP hm e (fun j hj => (e.2.2.2.2 j hj).1) k x)) (eq_uP hm e (fun j hj => (e.2.2.2.2 j hj).2.1) k y)
theorem eq_crkH {a b : tp_H} (e : eqH a b) (k : Int32) : eqH (crkH a k) (crkH b k) := by
  unfold crkH
  rw [e.1]
  exact eq_sC e _
theorem pinH_M (h : tp_H) (k v : Int32) : hM (pinH h k v) = hM h := rfl
theorem putH_M (h : tp_H) (k v : Int32) : hM (putH h k v) = hM h := rfl
theorem senH_M (h : tp_H) (k v : Int32) : hM (senH h k v) = hM h := rfl
theorem becH_M (h : tp_H) (k v z : Int32) : hM (becH h k v z) = hM h := rfl
theorem crkH_M (h : tp_H) (k : Int32) : hM (crkH h k) = hM h := rfl
/-- the first of i .. i + d - 1 -/
def fiV (p : Nat → Bool) (v : Nat → Int32) (c : Int32) : Nat → Nat → Int32
  | 0, _ => c
  | d + 1, i => bif p i then v i else fiV p v c d (i + 1)
theorem fiV_succ (p : Nat → Bool) (v : Nat → Int32) (c : Int32) (d i : Nat) : fiV p v c (d + 1) i = bif p i then v i else fiV p v c d (i + 1) := rfl
theorem fiV_eq {p q : Nat → Bool} {v u : Nat → Int32} {c c' : Int32} (hc : c = c') : ∀ {d i : Nat}, (∀ j, i ≤ j → j < i + d → p j = q j ∧ v j = u j) → fiV p v c d i = fiV q u c' d i := by
  intro d
  induction d with
  | zero => intro i _; exact hc
  | succ d ih =>
    intro i h
    rw [fiV_succ, fiV_succ, (h i (Nat.le_refl i) (by omega)).1, (h i (Nat.le_refl i) (by omega)).2, ih (fun j h1 h2 => h j (by omega) (by omega))]
