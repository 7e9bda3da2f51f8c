/-! class and reference side by side -/
def Rel (n p : tp_H) (x : tp_X) (h : tp_H) (y : tp_Y) : Prop := eqH n h ∧ wfH h ∧ xk (xOf y) x ∧ yTd y ≤ 96 ∧ yRm y ≤ 16 ∧ hM p ≤ 7 ∧ (yHi y = true → ∃ g, hld (yKe y) 0 g ∧ eqH p g ∧ wfH g)
theorem rel_m {n p : tp_H} {x : tp_X} {h : tp_H} {y : tp_Y} (R : Rel n p x h y) : hM n ≤ 7 := by rw [R.1.2.2.2.1]; exact R.2.1.1
theorem wf_eq {a b : tp_H} (e : eqH a b) (hw : wfH b) : wfH a := by
  obtain ⟨e1, e2, e3, e4, e5⟩ := e
  refine ⟨by rw [e4]; exact hw.1, by rw [e2]; exact hw.2.1, fun i hi => ?_⟩
  obtain ⟨f1, f2, f3, f4, f5⟩ := e5 i hi
  rw [f4, f3, f2]
  exact hw.2.2 i (by rw [← e4]; exact hi)
theorem rel_wf {n p : tp_H} {x : tp_X} {h : tp_H} {y : tp_Y} (R : Rel n p x h y) : wfH n := wf_eq R.1 R.2.1
theorem xk_tr {a b c : tp_X} (h : xk a b) (g : xk b c) : xk a c := ⟨g.1.trans h.1, g.2.1.trans h.2.1, g.2.2.1.trans h.2.2.1, g.2.2.2.1.trans h.2.2.2.1, g.2.2.2.2.1.trans h.2.2.2.2.1, g.2.2.2.2.2.trans h.2.2.2.2.2⟩
theorem xk_sy {a b : tp_X} (h : xk a b) : xk b a := ⟨h.1.symm, h.2.1.symm, h.2.2.1.symm, h.2.2.2.1.symm, h.2.2.2.2.1.symm, h.2.2.2.2.2.symm⟩
theorem xk_of {y z : tp_Y} (h : yk 39 y z) : xk (xOf y) (xOf z) := ⟨h.2.2.2.1, h.2.2.2.2.2.1, h.2.2.2.2.1, h.1, h.2.2.1, h.2.1⟩
/-- behind a call -/
theorem rel_go {n p n2 p2 : tp_H} {x x2 : tp_X} {h : tp_H} {y y2 : tp_Y} (R : Rel n p x h y) (e1 : eqH n2 n) (e2 : eqH p2 p) (e3 : xk x x2) (e4 : yk 39 y y2) : Rel n2 p2 x2 h y2 := by
  obtain ⟨r1, r2, r3, r4, r5, r6, r7⟩ := R
  refine ⟨eqH_tr e1 r1, r2, xk_tr (xk_tr (xk_sy (xk_of e4)) r3) e3, ?_, ?_, ?_, fun hb => ?_⟩
  · rw [e4.2.2.1]; exact r4
  · rw [e4.2.2.2.2.2.1]; exact r5
  · rw [e2.2.2.2.1]; exact r6
  · rw [e4.2.2.2.1] at hb
    obtain ⟨g, g1, g2, g3⟩ := r7 hb
    exact ⟨g, hld_eq g1 (fun j _ hj => e4.2.2.2.2.2.2 j (by omega)), eqH_tr e2 g2, g3⟩
theorem rel_ref {n p : tp_H} {x : tp_X} {h : tp_H} {y : tp_Y} (R : Rel n p x h y) (k : Int32) : Rel n p (rxb x k) h (ryb y k) := by
  obtain ⟨r1, r2, r3, r4, r5, r6, r7⟩ := R
  refine ⟨r1, r2, ⟨r3.1, r3.2.1, r3.2.2.1, ?_, r3.2.2.2.2.1, r3.2.2.2.2.2⟩, r4, r5, r6, r7⟩
  show tg_u (xRe x) _ (xRe x _ + 1) = tg_u (yRf y) _ (yRf y _ + 1)
  rw [show xRe x = yRf y from r3.2.2.2.1]
/-- the answers of both, and what stands behind them -/
def Pair (G : tg_G) (la : Nat) (mA : tg_M) (lb : Nat) (mB : tg_M) (as bs : List Value) (n p t : tp_H) (x : tp_X) (h : tp_H) (y : tp_Y) (A : Value) : Prop :=
  ∃ Z : tp_H → tp_H → tp_X → Prop, tg_C G la mA 0 0 as (tp_cs n p t x, tm_cs h y) (fun v w => v = some A ∧ ∃ n2 p2 t2 x2, w = (tp_cs n2 p2 t2 x2, tm_cs h y) ∧ Z n2 p2 x2) ∧
    ∀ n2 p2 t2 x2, Z n2 p2 x2 → tg_C G lb mB 0 0 bs (tp_cs n2 p2 t2 x2, tm_cs h y) (fun v w => v = some A ∧ ∃ h2 y2, w = (tp_cs n2 p2 t2 x2, tm_cs h2 y2) ∧ Rel n2 p2 x2 h2 y2)
theorem pairX {G : tg_G} {la : Nat} {mA : tg_M} {lb : Nat} {mB : tg_M} {as bs : List Value} {n p t : tp_H} {x : tp_X} {h : tp_H} {y : tp_Y} {w w' : Int32} {rv rv' a a' : Value} {n1 p1 h1 : tp_H} {X1 : tp_X} {Y1 : tp_Y}
    (hq : tg_C G la mA 0 0 as (tp_cs n p t x, tm_cs h y) (pQ w rv a n p x n1 p1 X1 (tm_cs h y))) (hr : ∀ l, tg_C G lb mB 0 0 bs (l, tm_cs h y) (pM l w' rv' a' h y h1 Y1)) (R : Rel n p x h y) (ew : w = w') (erv : rv = rv') (ea : w = 0 → a = a') (eR : w = 0 → Rel n1 p1 X1 h1 Y1) : ∃ A, (A = a ∨ A = rv) ∧ Pair G la mA lb mB as bs n p t x h y A := by
  subst ew
  subst erv
  refine ⟨if w = 0 then a else rv, by split; exact Or.inl rfl; exact Or.inr rfl, fun n2 p2 x2 => eqH n2 (if w = 0 then n1 else n) ∧ eqH p2 (if w = 0 then p1 else p) ∧ xk (if w = 0 then X1 else rxb x w) x2, tg_wk_C hq (fun v wd q => ?_), fun n2 p2 t2 x2 z => tg_wk_C (hr _) (fun v wd q => ?_)⟩
  · obtain ⟨q1, n2, p2, t2, x2, q2, q3, q4, q5⟩ := q
    exact ⟨q1, n2, p2, t2, x2, q2, q3, q4, q5⟩
  · obtain ⟨q1, y2, q2, q3⟩ := q
    obtain ⟨z1, z2, z3⟩ := z
    by_cases hw : w = 0
    · rw [if_pos hw] at q1 q2 q3 z1 z2 z3 ⊢
      exact ⟨by rw [q1, ea hw], h1, y2, q2, rel_go (eR hw) z1 z2 z3 q3⟩
    · rw [if_neg hw] at q1 q2 q3 z1 z2 z3 ⊢
      exact ⟨q1, h, y2, q2, rel_go (rel_ref R w) z1 z2 z3 q3⟩
def PairI (G : tg_G) (la : Nat) (mA : tg_M) (lb : Nat) (mB : tg_M) (as bs : List Value) (n p t : tp_H) (x : tp_X) (h : tp_H) (y : tp_Y) : Prop := ∃ A : Int32, Pair G la mA lb mB as bs n p t x h y (.int A)
def PairL (G : tg_G) (la : Nat) (mA : tg_M) (lb : Nat) (mB : tg_M) (as bs : List Value) (n p t : tp_H) (x : tp_X) (h : tp_H) (y : tp_Y) : Prop := ∃ A : Int64, Pair G la mA lb mB as bs n p t x h y (.long A)
theorem pairI {G : tg_G} {la : Nat} {mA : tg_M} {lb : Nat} {mB : tg_M} {as bs : List Value} {n p t : tp_H} {x : tp_X} {h : tp_H} {y : tp_Y} {w w' a a' : Int32} {n1 p1 h1 : tp_H} {X1 : tp_X} {Y1 : tp_Y}
    (hq : tg_C G la mA 0 0 as (tp_cs n p t x, tm_cs h y) (pQ w (.int w) (.int a) n p x n1 p1 X1 (tm_cs h y))) (hr : ∀ l, tg_C G lb mB 0 0 bs (l, tm_cs h y) (pM l w' (.int w') (.int a') h y h1 Y1)) (R : Rel n p x h y) (ew : w = w') (ea : w = 0 → a = a') (eR : w = 0 → Rel n1 p1 X1 h1 Y1) : PairI G la mA lb mB as bs n p t x h y := by
  obtain ⟨A, e | e, hp⟩ := pairX hq hr R ew (by rw [ew]) (fun z => by rw [ea z]) eR
  · exact ⟨a, e ▸ hp⟩
  · exact ⟨w, e ▸ hp⟩
theorem pairL {G : tg_G} {la : Nat} {mA : tg_M} {lb : Nat} {mB : tg_M} {as bs : List Value} {n p t : tp_H} {x : tp_X} {h : tp_H} {y : tp_Y} {w w' : Int32} {a a' : Int64} {n1 p1 h1 : tp_H} {X1 : tp_X} {Y1 : tp_Y}
    (hq : tg_C G la mA 0 0 as (tp_cs n p t x, tm_cs h y) (pQ w (.long (lrf w)) (.long a) n p x n1 p1 X1 (tm_cs h y))) (hr : ∀ l, tg_C G lb mB 0 0 bs (l, tm_cs h y) (pM l w' (.long (lrf w')) (.long a') h y h1 Y1)) (R : Rel n p x h y) (ew : w = w') (ea : w = 0 → a = a') (eR : w = 0 → Rel n1 p1 X1 h1 Y1) : PairL G la mA lb mB as bs n p t x h y := by
  obtain ⟨A, e | e, hp⟩ := pairX hq hr R ew (by rw [ew]) (fun z => by rw [ea z]) eR
  · exact ⟨a, e ▸ hp⟩
  · exact ⟨lrf w, e ▸ hp⟩
