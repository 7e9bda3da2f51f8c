/-! several straight steps; branches; divisions; rows; returns -/
def tg_run (R : List (Nat × List tg_E)) : Nat → Nat → List (Nat × Value) → List Value → tg_W → Option tg_S
  | 0, pc, L, st, w => some (pc, L, st, w)
  | n + 1, pc, L, st, w => match tg_f R pc with
    | some (ins, nx, f, _, v, _) => match tg_ex ins nx f v L st w with
      | some (pc', L', st', w') => tg_run R n pc' L' st' w'
      | none => none
    | none => none
theorem tg_steps {G : tg_G} {lv : Nat} {m : tg_M} {kc ks mc ms : Nat} {Q : Option Value → tg_W → Prop} (n : Nat) : ∀ {pc : Nat} {L : List (Nat × Value)} {st : List Value} {w : tg_W} {pc' : Nat} {L' : List (Nat × Value)} {st' : List Value} {w' : tg_W} (_ : tg_run m.2.2.2.2.2 n pc L st w = some (pc', L', st', w')) (_ : tg_V G lv m kc ks mc ms Q pc' L' st' w'), tg_V G lv m kc ks mc ms Q pc L st w := by
  induction n with
  | zero =>
    intro pc L st w pc' L' st' w' h k
    cases h
    exact k
  | succ n ih =>
    intro pc L st w pc' L' st' w' h k
    unfold tg_run at h
    split at h
    · rename_i ins nx f y v cs he
      split at h
      · rename_i pc1 L1 st1 w1 hx
        exact tg_step he hx (ih h k)
      · cases h
    · cases h
theorem tg_wk {G : tg_G} {lv : Nat} {m : tg_M} {kc ks mc ms : Nat} {Q : Option Value → tg_W → Prop} {pc : Nat} {L : List (Nat × Value)} {st : List Value} {w : tg_W} {Q' : Option Value → tg_W → Prop} (h : tg_V G lv m kc ks mc ms Q' pc L st w) (hQ : ∀ r w', Q' r w' → Q r w') : tg_V G lv m kc ks mc ms Q pc L st w := by
  intro p l en R s mi args below meth c H locs ls C hS hR hl T hT X
  obtain ⟨t, a, o, b1, b2, ⟨⟨r, w', c1, c2, c3⟩, c4⟩, b4⟩ := h p l en R s mi args below meth c H locs ls C hS hR hl T hT X
  exact ⟨t, a, o, b1, b2, ⟨⟨r, w', c1, hQ r w' c2, c3⟩, c4⟩, b4⟩
theorem tg_eqW {G : tg_G} {lv : Nat} {m : tg_M} {kc ks mc ms : Nat} {Q : Option Value → tg_W → Prop} {pc : Nat} {L : List (Nat × Value)} {st : List Value} {w : tg_W} {w2 : tg_W} (e : w = w2) (h : tg_V G lv m kc ks mc ms Q pc L st w2) : tg_V G lv m kc ks mc ms Q pc L st w := e ▸ h
theorem tg_eqS {G : tg_G} {lv : Nat} {m : tg_M} {kc ks mc ms : Nat} {Q : Option Value → tg_W → Prop} {pc : Nat} {L : List (Nat × Value)} {st : List Value} {w : tg_W} {L2 : List (Nat × Value)} {st2 : List Value} {w2 : tg_W} (e1 : L = L2) (e2 : st = st2) (e : w = w2) (h : tg_V G lv m kc ks mc ms Q pc L2 st2 w2) : tg_V G lv m kc ks mc ms Q pc L st w := by
  subst e1; subst e2; subst e; exact h
/-- fewer locals -/
theorem tg_sub {G : tg_G} {lv : Nat} {m : tg_M} {kc ks mc ms : Nat} {Q : Option Value → tg_W → Prop} {pc : Nat} {L : List (Nat × Value)} {st : List Value} {w : tg_W} {L2 : List (Nat × Value)} (hs : ∀ k u, tg_get L2 k = some u → tg_get L k = some u) (h0 : ∀ q ∈ L2, tg_get L2 q.1 = some q.2) (h : tg_V G lv m kc ks mc ms Q pc L2 st w) : tg_V G lv m kc ks mc ms Q pc L st w := by
  intro p l en R s mi args below meth c H locs ls C hS hR hl
  refine h p l en R s mi args below meth c H locs ls C hS hR (tg_has_sub hl fun q hq => ?_)
  obtain ⟨a, ha, rfl⟩ := List.mem_map.mp hq
  exact List.mem_map.mpr ⟨a, tg_get_mem (hs _ _ (h0 a ha)), rfl⟩
/-- an induction from above -/
theorem tg_down {φ : Nat → Prop} {n : Nat} (hn : φ n) (hs : ∀ i, i < n → φ (i + 1) → φ i) : ∀ i, i ≤ n → φ i := by
  intro i hi
  obtain ⟨d, hd⟩ := Nat.exists_eq_add_of_le hi
  induction d generalizing i with
  | zero => rw [hd] at hn; exact hn
  | succ d ih => exact hs i (by omega) (ih (i + 1) (by omega) (by omega))
theorem tg_ifeq {G : tg_G} {lv : Nat} {m : tg_M} {kc ks mc ms : Nat} {Q : Option Value → tg_W → Prop} {pc : Nat} {L : List (Nat × Value)} {st : List Value} {w : tg_W} {o : Int} {x : Int32} {nx : Nat} {f : List Nat} {y : MethodName} {v : Value} {cs : List (Int32 × Nat)} {tgt : Nat} (he : tg_f m.2.2.2.2.2 pc = some (.ifCond .eq o, nx, f, y, v, cs)) (ht : tg_gd f 0 = tgt) (kt : x = 0 → tg_V G lv m kc ks mc ms Q tgt L st w) (kf : ¬ x = 0 → tg_V G lv m kc ks mc ms Q nx L st w) : tg_V G lv m kc ks mc ms Q pc L (.int x :: st) w := by
  intro p l en R s mi args below meth c H locs ls C hS hR hl
  obtain ⟨hok, hx, hb, hmx, hr, hlk, hnm, hown, hts, hfix, hbase, hroom⟩ := id C
  obtain ⟨hd, hn, hI⟩ := tg_dec hok he
  obtain ⟨hd1, hn1⟩ := tg_len1 hd hn rfl
  subst hn1
  subst ht
  exact lv_if_eq hx hb hd1 (of_decide_eq_true hI) (fun z => kt z p l en R s mi args below meth c H locs ls C hS hR hl) (fun z => kf z p l en R s mi args below meth c H locs ls C hS hR hl)
theorem tg_iceq {G : tg_G} {lv : Nat} {m : tg_M} {kc ks mc ms : Nat} {Q : Option Value → tg_W → Prop} {pc : Nat} {L : List (Nat × Value)} {st : List Value} {w : tg_W} {o : Int} {x z : Int32} {nx : Nat} {f : List Nat} {y : MethodName} {v : Value} {cs : List (Int32 × Nat)} {tgt : Nat} (he : tg_f m.2.2.2.2.2 pc = some (.if_icmp .eq o, nx, f, y, v, cs)) (ht : tg_gd f 0 = tgt) (kt : x = z → tg_V G lv m kc ks mc ms Q tgt L st w) (kf : ¬ x = z → tg_V G lv m kc ks mc ms Q nx L st w) : tg_V G lv m kc ks mc ms Q pc L (.int z :: .int x :: st) w := by
  intro p l en R s mi args below meth c H locs ls C hS hR hl
  obtain ⟨hok, hx, hb, hmx, hr, hlk, hnm, hown, hts, hfix, hbase, hroom⟩ := id C
  obtain ⟨hd, hn, hI⟩ := tg_dec hok he
  obtain ⟨hd1, hn1⟩ := tg_len1 hd hn rfl
  subst hn1
  subst ht
  exact lv_icmp_eq hx hb hd1 (of_decide_eq_true hI) (fun z => kt z p l en R s mi args below meth c H locs ls C hS hR hl) (fun z => kf z p l en R s mi args below meth c H locs ls C hS hR hl)
theorem tg_ifne {G : tg_G} {lv : Nat} {m : tg_M} {kc ks mc ms : Nat} {Q : Option Value → tg_W → Prop} {pc : Nat} {L : List (Nat × Value)} {st : List Value} {w : tg_W} {o : Int} {x : Int32} {nx : Nat} {f : List Nat} {y : MethodName} {v : Value} {cs : List (Int32 × Nat)} {tgt : Nat} (he : tg_f m.2.2.2.2.2 pc = some (.ifCond .ne o, nx, f, y, v, cs)) (ht : tg_gd f 0 = tgt) (kt : ¬ x = 0 → tg_V G lv m kc ks mc ms Q tgt L st w) (kf : x = 0 → tg_V G lv m kc ks mc ms Q nx L st w) : tg_V G lv m kc ks mc ms Q pc L (.int x :: st) w := by
  intro p l en R s mi args below meth c H locs ls C hS hR hl
  obtain ⟨hok, hx, hb, hmx, hr, hlk, hnm, hown, hts, hfix, hbase, hroom⟩ := id C
  obtain ⟨hd, hn, hI⟩ := tg_dec hok he
  obtain ⟨hd1, hn1⟩ := tg_len1 hd hn rfl
  subst hn1
  subst ht
  exact lv_if_ne hx hb hd1 (of_decide_eq_true hI) (fun z => kt z p l en R s mi args below meth c H locs ls C hS hR hl) (fun z => kf z p l en R s mi args below meth c H locs ls C hS hR hl)
theorem tg_icne {G : tg_G} {lv : Nat} {m : tg_M} {kc ks mc ms : Nat} {Q : Option Value → tg_W → Prop} {pc : Nat} {L : List (Nat × Value)} {st : List Value} {w : tg_W} {o : Int} {x z : Int32} {nx : Nat} {f : List Nat} {y : MethodName} {v : Value} {cs : List (Int32 × Nat)} {tgt : Nat} (he : tg_f m.2.2.2.2.2 pc = some (.if_icmp .ne o, nx, f, y, v, cs)) (ht : tg_gd f 0 = tgt) (kt : ¬ x = z → tg_V G lv m kc ks mc ms Q tgt L st w) (kf : x = z → tg_V G lv m kc ks mc ms Q nx L st w) : tg_V G lv m kc ks mc ms Q pc L (.int z :: .int x :: st) w := by
  intro p l en R s mi args below meth c H locs ls C hS hR hl
  obtain ⟨hok, hx, hb, hmx, hr, hlk, hnm, hown, hts, hfix, hbase, hroom⟩ := id C
  obtain ⟨hd, hn, hI⟩ := tg_dec hok he
  obtain ⟨hd1, hn1⟩ := tg_len1 hd hn rfl
  subst hn1
  subst ht
  exact lv_icmp_ne hx hb hd1 (of_decide_eq_true hI) (fun z => kt z p l en R s mi args below meth c H locs ls C hS hR hl) (fun z => kf z p l en R s mi args below meth c H locs ls C hS hR hl)
theorem tg_iflt {G : tg_G} {lv : Nat} {m : tg_M} {kc ks mc ms : Nat} {Q : Option Value → tg_W → Prop} {pc : Nat} {L : List (Nat × Value)} {st : List Value} {w : tg_W} {o : Int} {x : Int32} {nx : Nat} {f : List Nat} {y : MethodName} {v : Value} {cs : List (Int32 × Nat)} {tgt : Nat} (he : tg_f m.2.2.2.2.2 pc = some (.ifCond .lt o, nx, f, y, v, cs)) (ht : tg_gd f 0 = tgt) (kt : x < 0 → tg_V G lv m kc ks mc ms Q tgt L st w) (kf : ¬ x < 0 → tg_V G lv m kc ks mc ms Q nx L st w) : tg_V G lv m kc ks mc ms Q pc L (.int x :: st) w := by
  intro p l en R s mi args below meth c H locs ls C hS hR hl
  obtain ⟨hok, hx, hb, hmx, hr, hlk, hnm, hown, hts, hfix, hbase, hroom⟩ := id C
  obtain ⟨hd, hn, hI⟩ := tg_dec hok he
  obtain ⟨hd1, hn1⟩ := tg_len1 hd hn rfl
  subst hn1
  subst ht
  exact lv_if_lt hx hb hd1 (of_decide_eq_true hI) (fun z => kt z p l en R s mi args below meth c H locs ls C hS hR hl) (fun z => kf z p l en R s mi args below meth c H locs ls C hS hR hl)
theorem tg_iclt {G : tg_G} {lv : Nat} {m : tg_M} {kc ks mc ms : Nat} {Q : Option Value → tg_W → Prop} {pc : Nat} {L : List (Nat × Value)} {st : List Value} {w : tg_W} {o : Int} {x z : Int32} {nx : Nat} {f : List Nat} {y : MethodName} {v : Value} {cs : List (Int32 × Nat)} {tgt : Nat} (he : tg_f m.2.2.2.2.2 pc = some (.if_icmp .lt o, nx, f, y, v, cs)) (ht : tg_gd f 0 = tgt) (kt : x < z → tg_V G lv m kc ks mc ms Q tgt L st w) (kf : ¬ x < z → tg_V G lv m kc ks mc ms Q nx L st w) : tg_V G lv m kc ks mc ms Q pc L (.int z :: .int x :: st) w := by
  intro p l en R s mi args below meth c H locs ls C hS hR hl
  obtain ⟨hok, hx, hb, hmx, hr, hlk, hnm, hown, hts, hfix, hbase, hroom⟩ := id C
  obtain ⟨hd, hn, hI⟩ := tg_dec hok he
  obtain ⟨hd1, hn1⟩ := tg_len1 hd hn rfl
  subst hn1
  subst ht
  exact lv_icmp_lt hx hb hd1 (of_decide_eq_true hI) (fun z => kt z p l en R s mi args below meth c H locs ls C hS hR hl) (fun z => kf z p l en R s mi args below meth c H locs ls C hS hR hl)
theorem tg_ifge {G : tg_G} {lv : Nat} {m : tg_M} {kc ks mc ms : Nat} {Q : Option Value → tg_W → Prop} {pc : Nat} {L : List (Nat × Value)} {st : List Value} {w : tg_W} {o : Int} {x : Int32} {nx : Nat} {f : List Nat} {y : MethodName} {v : Value} {cs : List (Int32 × Nat)} {tgt : Nat} (he : tg_f m.2.2.2.2.2 pc = some (.ifCond .ge o, nx, f, y, v, cs)) (ht : tg_gd f 0 = tgt) (kt : 0 ≤ x → tg_V G lv m kc ks mc ms Q tgt L st w) (kf : ¬ 0 ≤ x → tg_V G lv m kc ks mc ms Q nx L st w) : tg_V G lv m kc ks mc ms Q pc L (.int x :: st) w := by
  intro p l en R s mi args below meth c H locs ls C hS hR hl
  obtain ⟨hok, hx, hb, hmx, hr, hlk, hnm, hown, hts, hfix, hbase, hroom⟩ := id C
  obtain ⟨hd, hn, hI⟩ := tg_dec hok he
  obtain ⟨hd1, hn1⟩ := tg_len1 hd hn rfl
  subst hn1
  subst ht
  exact lv_if_ge hx hb hd1 (of_decide_eq_true hI) (fun z => kt z p l en R s mi args below meth c H locs ls C hS hR hl) (fun z => kf z p l en R s mi args below meth c H locs ls C hS hR hl)
theorem tg_icge {G : tg_G} {lv : Nat} {m : tg_M} {kc ks mc ms : Nat} {Q : Option Value → tg_W → Prop} {pc : Nat} {L : List (Nat × Value)} {st : List Value} {w : tg_W} {o : Int} {x z : Int32} {nx : Nat} {f : List Nat} {y : MethodName} {v : Value} {cs : List (Int32 × Nat)} {tgt : Nat} (he : tg_f m.2.2.2.2.2 pc = some (.if_icmp .ge o, nx, f, y, v, cs)) (ht : tg_gd f 0 = tgt) (kt : z ≤ x → tg_V G lv m kc ks mc ms Q tgt L st w) (kf : ¬ z ≤ x → tg_V G lv m kc ks mc ms Q nx L st w) : tg_V G lv m kc ks mc ms Q pc L (.int z :: .int x :: st) w := by
  intro p l en R s mi args below meth c H locs ls C hS hR hl
  obtain ⟨hok, hx, hb, hmx, hr, hlk, hnm, hown, hts, hfix, hbase, hroom⟩ := id C
  obtain ⟨hd, hn, hI⟩ := tg_dec hok he
  obtain ⟨hd1, hn1⟩ := tg_len1 hd hn rfl
  subst hn1
  subst ht
  exact lv_icmp_ge hx hb hd1 (of_decide_eq_true hI) (fun z => kt z p l en R s mi args below meth c H locs ls C hS hR hl) (fun z => kf z p l en R s mi args below meth c H locs ls C hS hR hl)
theorem tg_ifgt {G : tg_G} {lv : Nat} {m : tg_M} {kc ks mc ms : Nat} {Q : Option Value → tg_W → Prop} {pc : Nat} {L : List (Nat × Value)} {st : List Value} {w : tg_W} {o : Int} {x : Int32} {nx : Nat} {f : List Nat} {y : MethodName} {v : Value} {cs : List (Int32 × Nat)} {tgt : Nat} (he : tg_f m.2.2.2.2.2 pc = some (.ifCond .gt o, nx, f, y, v, cs)) (ht : tg_gd f 0 = tgt) (kt : 0 < x → tg_V G lv m kc ks mc ms Q tgt L st w) (kf : ¬ 0 < x → tg_V G lv m kc ks mc ms Q nx L st w) : tg_V G lv m kc ks mc ms Q pc L (.int x :: st) w := by
  intro p l en R s mi args below meth c H locs ls C hS hR hl
  obtain ⟨hok, hx, hb, hmx, hr, hlk, hnm, hown, hts, hfix, hbase, hroom⟩ := id C
  obtain ⟨hd, hn, hI⟩ := tg_dec hok he
  obtain ⟨hd1, hn1⟩ := tg_len1 hd hn rfl
  subst hn1
  subst ht
  exact lv_if_gt hx hb hd1 (of_decide_eq_true hI) (fun z => kt z p l en R s mi args below meth c H locs ls C hS hR hl) (fun z => kf z p l en R s mi args below meth c H locs ls C hS hR hl)
theorem tg_icgt {G : tg_G} {lv : Nat} {m : tg_M} {kc ks mc ms : Nat} {Q : Option Value → tg_W → Prop} {pc : Nat} {L : List (Nat × Value)} {st : List Value} {w : tg_W} {o : Int} {x z : Int32} {nx : Nat} {f : List Nat} {y : MethodName} {v : Value} {cs : List (Int32 × Nat)} {tgt : Nat} (he : tg_f m.2.2.2.2.2 pc = some (.if_icmp .gt o, nx, f, y, v, cs)) (ht : tg_gd f 0 = tgt) (kt : z < x → tg_V G lv m kc ks mc ms Q tgt L st w) (kf : ¬ z < x → tg_V G lv m kc ks mc ms Q nx L st w) : tg_V G lv m kc ks mc ms Q pc L (.int z :: .int x :: st) w := by
  intro p l en R s mi args below meth c H locs ls C hS hR hl
  obtain ⟨hok, hx, hb, hmx, hr, hlk, hnm, hown, hts, hfix, hbase, hroom⟩ := id C
  obtain ⟨hd, hn, hI⟩ := tg_dec hok he
  obtain ⟨hd1, hn1⟩ := tg_len1 hd hn rfl
  subst hn1
  subst ht
  exact lv_icmp_gt hx hb hd1 (of_decide_eq_true hI) (fun z => kt z p l en R s mi args below meth c H locs ls C hS hR hl) (fun z => kf z p l en R s mi args below meth c H locs ls C hS hR hl)
theorem tg_ifle {G : tg_G} {lv : Nat} {m : tg_M} {kc ks mc ms : Nat} {Q : Option Value → tg_W → Prop} {pc : Nat} {L : List (Nat × Value)} {st : List Value} {w : tg_W} {o : Int} {x : Int32} {nx : Nat} {f : List Nat} {y : MethodName} {v : Value} {cs : List (Int32 × Nat)} {tgt : Nat} (he : tg_f m.2.2.2.2.2 pc = some (.ifCond .le o, nx, f, y, v, cs)) (ht : tg_gd f 0 = tgt) (kt : x ≤ 0 → tg_V G lv m kc ks mc ms Q tgt L st w) (kf : ¬ x ≤ 0 → tg_V G lv m kc ks mc ms Q nx L st w) : tg_V G lv m kc ks mc ms Q pc L (.int x :: st) w := by
  intro p l en R s mi args below meth c H locs ls C hS hR hl
  obtain ⟨hok, hx, hb, hmx, hr, hlk, hnm, hown, hts, hfix, hbase, hroom⟩ := id C
  obtain ⟨hd, hn, hI⟩ := tg_dec hok he
  obtain ⟨hd1, hn1⟩ := tg_len1 hd hn rfl
  subst hn1
  subst ht
  exact lv_if_le hx hb hd1 (of_decide_eq_true hI) (fun z => kt z p l en R s mi args below meth c H locs ls C hS hR hl) (fun z => kf z p l en R s mi args below meth c H locs ls C hS hR hl)
theorem tg_icle {G : tg_G} {lv : Nat} {m : tg_M} {kc ks mc ms : Nat} {Q : Option Value → tg_W → Prop} {pc : Nat} {L : List (Nat × Value)} {st : List Value} {w : tg_W} {o : Int} {x z : Int32} {nx : Nat} {f : List Nat} {y : MethodName} {v : Value} {cs : List (Int32 × Nat)} {tgt : Nat} (he : tg_f m.2.2.2.2.2 pc = some (.if_icmp .le o, nx, f, y, v, cs)) (ht : tg_gd f 0 = tgt) (kt : x ≤ z → tg_V G lv m kc ks mc ms Q tgt L st w) (kf : ¬ x ≤ z → tg_V G lv m kc ks mc ms Q nx L st w) : tg_V G lv m kc ks mc ms Q pc L (.int z :: .int x :: st) w := by
  intro p l en R s mi args below meth c H locs ls C hS hR hl
  obtain ⟨hok, hx, hb, hmx, hr, hlk, hnm, hown, hts, hfix, hbase, hroom⟩ := id C
  obtain ⟨hd, hn, hI⟩ := tg_dec hok he
  obtain ⟨hd1, hn1⟩ := tg_len1 hd hn rfl
  subst hn1
  subst ht
  exact lv_icmp_le hx hb hd1 (of_decide_eq_true hI) (fun z => kt z p l en R s mi args below meth c H locs ls C hS hR hl) (fun z => kf z p l en R s mi args below meth c H locs ls C hS hR hl)
def tg_b (b : Bool) : Int32 := bif b then 1 else 0
theorem tg_b1 (b : Bool) : tg_b b = 0 ∨ tg_b b = 1 := by cases b <;> simp [tg_b]
theorem tg_ifbeq {G : tg_G} {lv : Nat} {m : tg_M} {kc ks mc ms : Nat} {Q : Option Value → tg_W → Prop} {pc : Nat} {L : List (Nat × Value)} {st : List Value} {w : tg_W} {o : Int} {x : Bool} {nx : Nat} {f : List Nat} {y : MethodName} {v : Value} {cs : List (Int32 × Nat)} {tgt : Nat} (he : tg_f m.2.2.2.2.2 pc = some (.ifCond .eq o, nx, f, y, v, cs)) (ht : tg_gd f 0 = tgt) (kt : x = false → tg_V G lv m kc ks mc ms Q tgt L st w) (kf : x = true → tg_V G lv m kc ks mc ms Q nx L st w) : tg_V G lv m kc ks mc ms Q pc L (.int (tg_b x) :: st) w := by
  refine tg_ifeq he ht (fun z => kt ?_) (fun z => kf ?_) <;> cases x <;> revert z <;> decide
theorem tg_ifbne {G : tg_G} {lv : Nat} {m : tg_M} {kc ks mc ms : Nat} {Q : Option Value → tg_W → Prop} {pc : Nat} {L : List (Nat × Value)} {st : List Value} {w : tg_W} {o : Int} {x : Bool} {nx : Nat} {f : List Nat} {y : MethodName} {v : Value} {cs : List (Int32 × Nat)} {tgt : Nat} (he : tg_f m.2.2.2.2.2 pc = some (.ifCond .ne o, nx, f, y, v, cs)) (ht : tg_gd f 0 = tgt) (kt : x = true → tg_V G lv m kc ks mc ms Q tgt L st w) (kf : x = false → tg_V G lv m kc ks mc ms Q nx L st w) : tg_V G lv m kc ks mc ms Q pc L (.int (tg_b x) :: st) w := by
  refine tg_ifne he ht (fun z => kt ?_) (fun z => kf ?_) <;> cases x <;> revert z <;> decide
theorem tg_idiv {G : tg_G} {lv : Nat} {m : tg_M} {kc ks mc ms : Nat} {Q : Option Value → tg_W → Prop} {pc : Nat} {L : List (Nat × Value)} {st : List Value} {w : tg_W} {x z : Int32} {nx : Nat} {f : List Nat} {y : MethodName} {v : Value} {cs : List (Int32 × Nat)} (he : tg_f m.2.2.2.2.2 pc = some (.idiv, nx, f, y, v, cs)) (hz : ¬ z = 0) (k : tg_V G lv m kc ks mc ms Q nx L (.int (x / z) :: st) w) : tg_V G lv m kc ks mc ms Q pc L (.int z :: .int x :: st) w := by
  intro p l en R s mi args below meth c H locs ls C hS hR hl
  obtain ⟨hok, hx, hb, hmx, hr, hlk, hnm, hown, hts, hfix, hbase, hroom⟩ := id C
  obtain ⟨hd, hn, hI⟩ := tg_dec hok he
  obtain ⟨hd1, hn1⟩ := tg_len1 hd hn rfl
  subst hn1
  exact lv_idiv hx hb hd1 hz (k p l en R s mi args below meth c H locs ls C hS hR hl)
theorem tg_irem {G : tg_G} {lv : Nat} {m : tg_M} {kc ks mc ms : Nat} {Q : Option Value → tg_W → Prop} {pc : Nat} {L : List (Nat × Value)} {st : List Value} {w : tg_W} {x z : Int32} {nx : Nat} {f : List Nat} {y : MethodName} {v : Value} {cs : List (Int32 × Nat)} (he : tg_f m.2.2.2.2.2 pc = some (.irem, nx, f, y, v, cs)) (hz : ¬ z = 0) (k : tg_V G lv m kc ks mc ms Q nx L (.int (x % z) :: st) w) : tg_V G lv m kc ks mc ms Q pc L (.int z :: .int x :: st) w := by
  intro p l en R s mi args below meth c H locs ls C hS hR hl
  obtain ⟨hok, hx, hb, hmx, hr, hlk, hnm, hown, hts, hfix, hbase, hroom⟩ := id C
  obtain ⟨hd, hn, hI⟩ := tg_dec hok he
  obtain ⟨hd1, hn1⟩ := tg_len1 hd hn rfl
  subst hn1
  exact lv_irem hx hb hd1 hz (by rw [tg_rem]; exact k p l en R s mi args below meth c H locs ls C hS hR hl)
theorem tg_ldivv {G : tg_G} {lv : Nat} {m : tg_M} {kc ks mc ms : Nat} {Q : Option Value → tg_W → Prop} {pc : Nat} {L : List (Nat × Value)} {st : List Value} {w : tg_W} {x z : Int64} {nx : Nat} {f : List Nat} {y : MethodName} {v : Value} {cs : List (Int32 × Nat)} (he : tg_f m.2.2.2.2.2 pc = some (.ldiv, nx, f, y, v, cs)) (hz : ¬ z = 0) (k : tg_V G lv m kc ks mc ms Q nx L (.long (x / z) :: st) w) : tg_V G lv m kc ks mc ms Q pc L (.long z :: .long x :: st) w := by
  intro p l en R s mi args below meth c H locs ls C hS hR hl
  obtain ⟨hok, hx, hb, hmx, hr, hlk, hnm, hown, hts, hfix, hbase, hroom⟩ := id C
  obtain ⟨hd, hn, hI⟩ := tg_dec hok he
  obtain ⟨hd1, hn1⟩ := tg_len1 hd hn rfl
  subst hn1
  exact lv_ldiv hx hb hd1 hz (k p l en R s mi args below meth c H locs ls C hS hR hl)
theorem tg_lremv {G : tg_G} {lv : Nat} {m : tg_M} {kc ks mc ms : Nat} {Q : Option Value → tg_W → Prop} {pc : Nat} {L : List (Nat × Value)} {st : List Value} {w : tg_W} {x z : Int64} {nx : Nat} {f : List Nat} {y : MethodName} {v : Value} {cs : List (Int32 × Nat)} (he : tg_f m.2.2.2.2.2 pc = some (.lrem, nx, f, y, v, cs)) (hz : ¬ z = 0) (k : tg_V G lv m kc ks mc ms Q nx L (.long (x % z) :: st) w) : tg_V G lv m kc ks mc ms Q pc L (.long z :: .long x :: st) w := by
  intro p l en R s mi args below meth c H locs ls C hS hR hl
  obtain ⟨hok, hx, hb, hmx, hr, hlk, hnm, hown, hts, hfix, hbase, hroom⟩ := id C
  obtain ⟨hd, hn, hI⟩ := tg_dec hok he
  obtain ⟨hd1, hn1⟩ := tg_len1 hd hn rfl
  subst hn1
  exact lv_lrem hx hb hd1 hz (by rw [tg_lrem]; exact k p l en R s mi args below meth c H locs ls C hS hR hl)
def tg_u (g : Nat → Int32) (k : Nat) (x : Int32) : Nat → Int32 := fun j => bif Nat.beq j k then x else g j
theorem tg_u_eq (g : Nat → Int32) (k : Nat) (x : Int32) (j : Nat) : tg_u g k x j = if j = k then x else g j := by
  unfold tg_u
  by_cases h : j = k
  · rw [if_pos h, h, Nat.beq_refl]; rfl
  · rw [if_neg h]
    cases hb : Nat.beq j k with
    | true => exact absurd (Nat.eq_of_beq_eq_true hb) h
    | false => rfl
theorem tg_iald {G : tg_G} {lv : Nat} {m : tg_M} {kc ks mc ms : Nat} {Q : Option Value → tg_W → Prop} {pc : Nat} {L : List (Nat × Value)} {st : List Value} {w : tg_W} {a n : Nat} {g : Nat → Int32} {i : Int32} {nx : Nat} {f : List Nat} {y : MethodName} {v : Value} {cs : List (Int32 × Nat)} (he : tg_f m.2.2.2.2.2 pc = some (.iaload, nx, f, y, v, cs)) (ha : tg_lk w a = some (.inr (n, g))) (hi : vp_in i n) (k : tg_V G lv m kc ks mc ms Q nx L (.int (g i.toNatClampNeg) :: st) w) : tg_V G lv m kc ks mc ms Q pc L (.int i :: .ref a :: st) w := by
  intro p l en R s mi args below meth c H locs ls C hS hR hl
  obtain ⟨hok, hx, hb, hmx, hr, hlk, hnm, hown, hts, hfix, hbase, hroom⟩ := id C
  obtain ⟨hd, hn, hI⟩ := tg_dec hok he
  obtain ⟨hd1, hn1⟩ := tg_len1 hd hn rfl
  subst hn1
  exact va_iald hx hb hfix.1 hR.1 (tg_pc w a) 0 (tg_lk_ws (G := G) ha) rfl hi hd1 (k p l en R s mi args below meth c H locs ls C hS hR hl)
theorem tg_ialdN {G : tg_G} {lv : Nat} {m : tg_M} {kc ks mc ms : Nat} {Q : Option Value → tg_W → Prop} {pc : Nat} {L : List (Nat × Value)} {st : List Value} {w : tg_W} {a n : Nat} {g : Nat → Int32} {i : Int32} {nx : Nat} {f : List Nat} {y : MethodName} {v : Value} {cs : List (Int32 × Nat)} (he : tg_f m.2.2.2.2.2 pc = some (.iaload, nx, f, y, v, cs)) (ha : tg_lk w a = some (.inr (n, g))) (j : Nat) (hj : i = nI j) (hjn : j < n) (hn : n < 2 ^ 31) (k : tg_V G lv m kc ks mc ms Q nx L (.int (g j) :: st) w) : tg_V G lv m kc ks mc ms Q pc L (.int i :: .ref a :: st) w := by
  subst hj
  have hc : (nI j).toNatClampNeg = j := nI_clamp (by omega)
  exact tg_iald he ha (nI_in hjn hn) (by rw [hc]; exact k)
theorem tg_iast {G : tg_G} {lv : Nat} {m : tg_M} {kc ks mc ms : Nat} {Q : Option Value → tg_W → Prop} {pc : Nat} {L : List (Nat × Value)} {st : List Value} {w : tg_W} {a n : Nat} {g : Nat → Int32} {i x : Int32} {nx : Nat} {f : List Nat} {y : MethodName} {v : Value} {cs : List (Int32 × Nat)} (he : tg_f m.2.2.2.2.2 pc = some (.iastore, nx, f, y, v, cs)) (ha : tg_lk w a = some (.inr (n, g))) (hi : vp_in i n) (k : tg_V G lv m kc ks mc ms Q nx L st (tg_up w a (.inr (n, tg_u g i.toNatClampNeg x)))) : tg_V G lv m kc ks mc ms Q pc L (.int x :: .int i :: .ref a :: st) w := by
  intro p l en R s mi args below meth c H locs ls C hS hR hl
  obtain ⟨hok, hx, hb, hmx, hr, hlk, hnm, hown, hts, hfix, hbase, hroom⟩ := id C
  obtain ⟨hd, hn, hI⟩ := tg_dec hok he
  obtain ⟨hd1, hn1⟩ := tg_len1 hd hn rfl
  subst hn1
  have hD : va_D (fun q => G.1 ≤ q) (tg_ws G w) := tg_D hR.2.2.1 hR.2.2.2.1
  have hg := tg_lk_ws (G := G) ha
  refine W.iast hx hb (hR.1 (tg_pc w a) _ hg) ((hfix.1.2 0 _ rfl).1 n (fun j => .int (g j))) (fun q => by cases q) (by show ¬ (i < 0 ∨ (arrV _ _ _).slots.size ≤ _); rw [arrV_size]; exact hi) rfl rfl hd1 fun H1 e z oq => ?_
  refine k p l en R s mi args below meth c H1 _ ls C (hS.put z oq (hD.2 _ _ hg)) (tg_R_up hR ha (hR.1.set hD hg ?_ oq) z) hl
  show H1[tg_ad G a]? = some (vp_cell _ _)
  rw [e]
  show some ((arrV _ n fun j => .int (g j)).setSlot _ _) = some (arrV _ n fun j => .int (tg_u g i.toNatClampNeg x j))
  rw [arrV_store]
  congr 2
  funext q
  rw [tg_u_eq]
  by_cases hq : q = i.toNatClampNeg
  · subst hq
    simp [updV]
  · simp [updV, hq]
theorem tg_iastN {G : tg_G} {lv : Nat} {m : tg_M} {kc ks mc ms : Nat} {Q : Option Value → tg_W → Prop} {pc : Nat} {L : List (Nat × Value)} {st : List Value} {w : tg_W} {a n : Nat} {g : Nat → Int32} {i x : Int32} {nx : Nat} {f : List Nat} {y : MethodName} {v : Value} {cs : List (Int32 × Nat)} (he : tg_f m.2.2.2.2.2 pc = some (.iastore, nx, f, y, v, cs)) (ha : tg_lk w a = some (.inr (n, g))) (j : Nat) (hj : i = nI j) (hjn : j < n) (hn : n < 2 ^ 31) (k : tg_V G lv m kc ks mc ms Q nx L st (tg_up w a (.inr (n, tg_u g j x)))) : tg_V G lv m kc ks mc ms Q pc L (.int x :: .int i :: .ref a :: st) w := by
  subst hj
  have hc : (nI j).toNatClampNeg = j := nI_clamp (by omega)
  exact tg_iast he ha (nI_in hjn hn) (by rw [hc]; exact k)
theorem tg_putz {G : tg_G} {lv : Nat} {m : tg_M} {kc ks mc ms : Nat} {Q : Option Value → tg_W → Prop} {pc : Nat} {L : List (Nat × Value)} {st : List Value} {w : tg_W} {a : Nat} {o : Nat × List Value} {x : Int32} {idx : Nat} {nx : Nat} {f : List Nat} {y : MethodName} {v : Value} {cs : List (Int32 × Nat)} (he : tg_f m.2.2.2.2.2 pc = some (.putfield idx, nx, f, y, v, cs)) (ha : tg_lk w a = some (.inl o)) (hx01 : x = 0 ∨ x = 1) (hs : (Nat.beq o.1 (tg_gd f 0) && Nat.blt (tg_gd f 1) o.2.length && Nat.beq (tg_gd f 4) 1) = true) (k : tg_V G lv m kc ks mc ms Q nx L st (tg_up w a (.inl (o.1, tg_setn o.2 (tg_gd f 1) (.int x))))) : tg_V G lv m kc ks mc ms Q pc L (.int x :: .ref a :: st) w := by
  intro p l en R s mi args below meth c H locs ls C hS hR hl
  obtain ⟨hok, hx, hb, hmx, hr, hlk, hnm, hown, hts, hfix, hbase, hroom⟩ := id C
  obtain ⟨hd, hn, hI⟩ := tg_dec hok he
  obtain ⟨hd1, hn1⟩ := tg_len1 hd hn rfl
  subst hn1
  simp only [tg_okI, Bool.and_eq_true, decide_eq_true_eq] at hI
  obtain ⟨⟨⟨hci, hkN⟩, hw⟩, hfl⟩ := hI
  simp only [Bool.and_eq_true] at hs
  have e0 := Nat.eq_of_beq_eq_true hs.1.1
  have e4 := Nat.eq_of_beq_eq_true hs.2
  rw [e4] at hfl
  have hfl := of_decide_eq_true hfl
  have hlen : tg_gd f 1 < o.2.length := by have := hs.1.2; simp only [Nat.blt_eq] at this; exact this
  exact tg_wput (u := .int x) hx hb hts hown hfix.1 hR hS ha (by rw [e0]; exact hci) (tg_gd f 1) (by rw [e0]; exact hkN) (by rw [e0]; exact hts _ (tg_wdG (tg_is_mem hw))) (by rw [e0]; exact hfl.2) (by rw [e0]; exact hfl.1) (by rcases hx01 with rfl | rfl <;> rfl) (by rcases hx01 with rfl | rfl <;> rfl) hlen hd1 (fun H1 locs1 hS1 hR1 => k p l en R s mi args below meth c H1 locs1 ls C hS1 hR1 hl)
theorem tg_iret {G : tg_G} {lv : Nat} {m : tg_M} {kc ks mc ms : Nat} {Q : Option Value → tg_W → Prop} {pc : Nat} {L : List (Nat × Value)} {st : List Value} {w : tg_W} {x : Int32} {nx : Nat} {f : List Nat} {y : MethodName} {v : Value} {cs : List (Int32 × Nat)} (he : tg_f m.2.2.2.2.2 pc = some (.ireturn, nx, f, y, v, cs)) (hrt : m.2.2.2.1 = some .int) (hk : kc ≤ mc ∧ ks ≤ ms) (hQ : Q (some (.int x)) w) : tg_V G lv m kc ks mc ms Q pc L [.int x] w := by
  intro p l en R s mi args below meth c H locs ls C hS hR hl
  obtain ⟨hok, hx, hb, hmx, hr, hlk, hnm, hown, hts, hfix, hbase, hroom⟩ := id C
  obtain ⟨hd, hn, hI⟩ := tg_dec hok he
  obtain ⟨hd1, hn1⟩ := tg_len1 hd hn rfl
  subst hn1
  exact W.widen hk.1 hk.2 (W.iret hx hb (hr.trans hrt) (fun t ht hW => ⟨⟨some (.int x), w, rfl, hQ, by rw [ht]; exact hR⟩, hS.F ht⟩) hS.2.2 hd1 hlk)
theorem tg_zret {G : tg_G} {lv : Nat} {m : tg_M} {kc ks mc ms : Nat} {Q : Option Value → tg_W → Prop} {pc : Nat} {L : List (Nat × Value)} {st : List Value} {w : tg_W} {x : Int32} {nx : Nat} {f : List Nat} {y : MethodName} {v : Value} {cs : List (Int32 × Nat)} (he : tg_f m.2.2.2.2.2 pc = some (.ireturn, nx, f, y, v, cs)) (hrt : m.2.2.2.1 = some .boolean) (hk : kc ≤ mc ∧ ks ≤ ms) (hx01 : x = 0 ∨ x = 1) (hQ : Q (some (.int x)) w) : tg_V G lv m kc ks mc ms Q pc L [.int x] w := by
  intro p l en R s mi args below meth c H locs ls C hS hR hl
  obtain ⟨hok, hx, hb, hmx, hr, hlk, hnm, hown, hts, hfix, hbase, hroom⟩ := id C
  obtain ⟨hd, hn, hI⟩ := tg_dec hok he
  obtain ⟨hd1, hn1⟩ := tg_len1 hd hn rfl
  subst hn1
  exact W.widen hk.1 hk.2 (W.zret (ty := .boolean) hx hb (hr.trans hrt) (by rcases hx01 with rfl | rfl <;> rfl) (fun t ht hW => ⟨⟨some (.int x), w, rfl, hQ, by rw [ht]; exact hR⟩, hS.F ht⟩) hS.2.2 hd1 hlk)
theorem tg_lret {G : tg_G} {lv : Nat} {m : tg_M} {kc ks mc ms : Nat} {Q : Option Value → tg_W → Prop} {pc : Nat} {L : List (Nat × Value)} {st : List Value} {w : tg_W} {x : Int64} {nx : Nat} {f : List Nat} {y : MethodName} {v : Value} {cs : List (Int32 × Nat)} (he : tg_f m.2.2.2.2.2 pc = some (.lreturn, nx, f, y, v, cs)) (hrt : m.2.2.2.1 = some .long) (hk : kc ≤ mc ∧ ks ≤ ms) (hQ : Q (some (.long x)) w) : tg_V G lv m kc ks mc ms Q pc L [.long x] w := by
  intro p l en R s mi args below meth c H locs ls C hS hR hl
  obtain ⟨hok, hx, hb, hmx, hr, hlk, hnm, hown, hts, hfix, hbase, hroom⟩ := id C
  obtain ⟨hd, hn, hI⟩ := tg_dec hok he
  obtain ⟨hd1, hn1⟩ := tg_len1 hd hn rfl
  subst hn1
  exact W.widen hk.1 hk.2 (W.lret hx hb (hr.trans hrt) (fun t ht hW => ⟨⟨some (.long x), w, rfl, hQ, by rw [ht]; exact hR⟩, hS.F ht⟩) hS.2.2 hd1 hlk)
theorem tg_vret {G : tg_G} {lv : Nat} {m : tg_M} {kc ks mc ms : Nat} {Q : Option Value → tg_W → Prop} {pc : Nat} {L : List (Nat × Value)} {st : List Value} {w : tg_W} {nx : Nat} {f : List Nat} {y : MethodName} {v : Value} {cs : List (Int32 × Nat)} (he : tg_f m.2.2.2.2.2 pc = some (.return_, nx, f, y, v, cs)) (hrt : m.2.2.2.1 = none) (hk : kc ≤ mc ∧ ks ≤ ms) (hQ : Q none w) : tg_V G lv m kc ks mc ms Q pc L [] w := by
  intro p l en R s mi args below meth c H locs ls C hS hR hl
  obtain ⟨hok, hx, hb, hmx, hr, hlk, hnm, hown, hts, hfix, hbase, hroom⟩ := id C
  obtain ⟨hd, hn, hI⟩ := tg_dec hok he
  obtain ⟨hd1, hn1⟩ := tg_len1 hd hn rfl
  subst hn1
  exact W.widen hk.1 hk.2 (W.vret hx hb (hr.trans hrt) (fun t ht hW => ⟨⟨none, w, rfl, hQ, by rw [ht]; exact hR⟩, hS.F ht⟩) hS.2.2 hd1 hlk)
theorem tg_aret {G : tg_G} {lv : Nat} {m : tg_M} {kc ks mc ms : Nat} {Q : Option Value → tg_W → Prop} {pc : Nat} {L : List (Nat × Value)} {st : List Value} {w : tg_W} {a : Nat} {nx : Nat} {f : List Nat} {y : MethodName} {v : Value} {cs : List (Int32 × Nat)} (he : tg_f m.2.2.2.2.2 pc = some (.areturn, nx, f, y, v, cs)) {nm : String} (hrt : m.2.2.2.1 = some (.object nm)) (hk : kc ≤ mc ∧ ks ≤ ms) (hQ : Q (some (.ref a)) w) : tg_V G lv m kc ks mc ms Q pc L [.ref a] w := by
  intro p l en R s mi args below meth c H locs ls C hS hR hl
  obtain ⟨hok, hx, hb, hmx, hr, hlk, hnm, hown, hts, hfix, hbase, hroom⟩ := id C
  obtain ⟨hd, hn, hI⟩ := tg_dec hok he
  obtain ⟨hd1, hn1⟩ := tg_len1 hd hn rfl
  subst hn1
  exact W.widen hk.1 hk.2 (W.aret (v := .ref (tg_ad G a)) hx hb (hr.trans hrt) (Or.inl ⟨_, rfl⟩) (Or.inr ⟨_, rfl⟩) (fun t ht hW => ⟨⟨some (.ref a), w, rfl, hQ, by rw [ht]; exact hR⟩, hS.F ht⟩) hS.2.2 hd1 hlk)
theorem tg_gets {G : tg_G} {lv : Nat} {m : tg_M} {kc ks mc ms : Nat} {Q : Option Value → tg_W → Prop} {pc : Nat} {L : List (Nat × Value)} {st : List Value} {w : tg_W} {idx : Nat} {nx : Nat} {f : List Nat} {y : MethodName} {v : Value} {cs : List (Int32 × Nat)} (he : tg_f m.2.2.2.2.2 pc = some (.getstatic idx, nx, f, y, v, cs)) (k : tg_V G lv m kc ks mc ms Q nx L (.ref 1001 :: st) w) : tg_V G lv m kc ks mc ms Q pc L st w := by
  intro p l en R s mi args below meth c H locs ls C hS hR hl
  obtain ⟨hok, hx, hb, hmx, hr, hlk, hnm, hown, hts, hfix, hbase, hroom⟩ := id C
  obtain ⟨hd, hn, hI⟩ := tg_dec hok he
  obtain ⟨hd1, hn1⟩ := tg_len1 hd hn rfl
  subst hn1
  simp only [tg_okI, Bool.and_eq_true, decide_eq_true_eq] at hI
  obtain ⟨hCl, hw⟩ := hI
  exact va_gets hx hb hfix.2.2.2.1 hS hown (hts _ (tg_wdG (tg_is_mem hw))) (fun x hx => hx) hd1 (k p l en R s mi args below meth c H locs ls C hS hR hl)
theorem tg_klen {G : tg_G} {lv : Nat} {m : tg_M} {kc ks mc ms : Nat} {Q : Option Value → tg_W → Prop} {pc : Nat} {L : List (Nat × Value)} {st : List Value} {w : tg_W} {nx : Nat} {f : List Nat} {y : MethodName} {v : Value} {cs : List (Int32 × Nat)} (he : tg_f m.2.2.2.2.2 pc = some (.arraylength, nx, f, y, v, cs)) (k : tg_V G lv m kc ks mc ms Q nx L (.int 6 :: st) w) : tg_V G lv m kc ks mc ms Q pc L (.ref 1001 :: st) w := by
  intro p l en R s mi args below meth c H locs ls C hS hR hl
  obtain ⟨hok, hx, hb, hmx, hr, hlk, hnm, hown, hts, hfix, hbase, hroom⟩ := id C
  obtain ⟨hd, hn, hI⟩ := tg_dec hok he
  obtain ⟨hd1, hn1⟩ := tg_len1 hd hn rfl
  subst hn1
  exact va_tlen hx hb hfix.2.2.2.2.1 hS rfl hd1 (k p l en R s mi args below meth c H locs ls C hS hR hl)
theorem tg_kld {G : tg_G} {lv : Nat} {m : tg_M} {kc ks mc ms : Nat} {Q : Option Value → tg_W → Prop} {pc : Nat} {L : List (Nat × Value)} {st : List Value} {w : tg_W} {i : Int32} {x : Int32} {nx : Nat} {f : List Nat} {y : MethodName} {v : Value} {cs : List (Int32 × Nat)} (he : tg_f m.2.2.2.2.2 pc = some (.caload, nx, f, y, v, cs)) (hi : vp_in i 6) (hv : tg_kl i.toNatClampNeg = .int x) (k : tg_V G lv m kc ks mc ms Q nx L (.int x :: st) w) : tg_V G lv m kc ks mc ms Q pc L (.int i :: .ref 1001 :: st) w := by
  intro p l en R s mi args below meth c H locs ls C hS hR hl
  obtain ⟨hok, hx, hb, hmx, hr, hlk, hnm, hown, hts, hfix, hbase, hroom⟩ := id C
  obtain ⟨hd, hn, hI⟩ := tg_dec hok he
  obtain ⟨hd1, hn1⟩ := tg_len1 hd hn rfl
  subst hn1
  exact va_tc hx hb hfix.2.2.2.2.1 hS hi hv hd1 (k p l en R s mi args below meth c H locs ls C hS hR hl)
theorem tg_slen {G : tg_G} {lv : Nat} {m : tg_M} {kc ks mc ms : Nat} {Q : Option Value → tg_W → Prop} {pc : Nat} {L : List (Nat × Value)} {st : List Value} {w : tg_W} {nx : Nat} {f : List Nat} {y : MethodName} {v : Value} {cs : List (Int32 × Nat)} (he : tg_f m.2.2.2.2.2 pc = some (.arraylength, nx, f, y, v, cs)) (k : tg_V G lv m kc ks mc ms Q nx L (.int (Int32.ofNat G.2.2.1) :: st) w) : tg_V G lv m kc ks mc ms Q pc L (.ref 1000 :: st) w := by
  intro p l en R s mi args below meth c H locs ls C hS hR hl
  obtain ⟨hok, hx, hb, hmx, hr, hlk, hnm, hown, hts, hfix, hbase, hroom⟩ := id C
  obtain ⟨hd, hn, hI⟩ := tg_dec hok he
  obtain ⟨hd1, hn1⟩ := tg_len1 hd hn rfl
  subst hn1
  exact va_slen hx hb hfix.2.1 (Nat.lt_of_lt_of_le hfix.2.2.1 hbase) (Nat.not_le.mpr hfix.2.2.1) hS hd1 (k p l en R s mi args below meth c H locs ls C hS hR hl)
theorem tg_sld {G : tg_G} {lv : Nat} {m : tg_M} {kc ks mc ms : Nat} {Q : Option Value → tg_W → Prop} {pc : Nat} {L : List (Nat × Value)} {st : List Value} {w : tg_W} {i : Int32} {nx : Nat} {f : List Nat} {y : MethodName} {v : Value} {cs : List (Int32 × Nat)} (he : tg_f m.2.2.2.2.2 pc = some (.iaload, nx, f, y, v, cs)) (hi : vp_in i G.2.2.1) (k : tg_V G lv m kc ks mc ms Q nx L (.int (G.2.2.2.1 i.toNatClampNeg) :: st) w) : tg_V G lv m kc ks mc ms Q pc L (.int i :: .ref 1000 :: st) w := by
  intro p l en R s mi args below meth c H locs ls C hS hR hl
  obtain ⟨hok, hx, hb, hmx, hr, hlk, hnm, hown, hts, hfix, hbase, hroom⟩ := id C
  obtain ⟨hd, hn, hI⟩ := tg_dec hok he
  obtain ⟨hd1, hn1⟩ := tg_len1 hd hn rfl
  subst hn1
  exact va_sld hx hb hfix.2.1 (Nat.lt_of_lt_of_le hfix.2.2.1 hbase) (Nat.not_le.mpr hfix.2.2.1) hS hi hd1 (k p l en R s mi args below meth c H locs ls C hS hR hl)
def tg_sws (x : Int32) : List (Int32 × Nat) → Nat → (Nat → Prop) → Prop
  | [], d, K => K d
  | q :: r, d, K => (x = q.1 → K q.2) ∧ (¬ x = q.1 → tg_sws x r d K)
theorem tg_sws_none {x : Int32} {cs : List (Int32 × Nat)} {d : Nat} {K : Nat → Prop} (h : tg_sws x cs d K) (hn : ∀ q ∈ cs, ¬ x = q.1) : K d := by
  induction cs with
  | nil => exact h
  | cons q r ih => exact ih (h.2 (hn q List.mem_cons_self)) (fun q' hq' => hn q' (List.mem_cons_of_mem _ hq'))
theorem tg_sws_some {x : Int32} {cs : List (Int32 × Nat)} {d : Nat} {K : Nat → Prop} (h : tg_sws x cs d K) {j : Nat} {q : Int32 × Nat} (hj : cs[j]? = some q) (hx : x = q.1) (hf : ∀ i q', i < j → cs[i]? = some q' → ¬ x = q'.1) : K q.2 := by
  induction cs generalizing j with
  | nil => simp at hj
  | cons a r ih =>
    cases j with
    | zero => simp at hj; subst hj; exact h.1 hx
    | succ j =>
      exact ih (h.2 (hf 0 a (Nat.zero_lt_succ j) rfl)) (by simpa using hj) (fun i q' hi hq' => hf (i + 1) q' (by omega) (by simpa using hq'))
theorem tg_tsw {G : tg_G} {lv : Nat} {m : tg_M} {kc ks mc ms : Nat} {Q : Option Value → tg_W → Prop} {pc : Nat} {L : List (Nat × Value)} {st : List Value} {w : tg_W} {x : Int32} {d lo hi : Int} {os : Array Int} {nx : Nat} {f : List Nat} {y : MethodName} {v : Value} {cs : List (Int32 × Nat)} (he : tg_f m.2.2.2.2.2 pc = some (.tableswitch d lo hi os, nx, f, y, v, cs)) (h : tg_sws x cs (tg_gd f 0) (fun t => tg_V G lv m kc ks mc ms Q t L st w)) : tg_V G lv m kc ks mc ms Q pc L (.int x :: st) w := by
  intro p l en R s mi args below meth c H locs ls C hS hR hl
  obtain ⟨hok, hx, hb, hmx, hr, hlk, hnm, hown, hts, hfix, hbase, hroom⟩ := id C
  obtain ⟨hd, hn, hI⟩ := tg_dec hok he
  simp only [tg_okI, Bool.and_eq_true, decide_eq_true_eq] at hI
  obtain ⟨hdf, h1, h2, h3, h4⟩ := hI
  have key : ∀ (i : Nat) (q : Int32 × Nat), cs[i]? = some q → q.1.toInt = lo + (i : Int) ∧ ∃ o, os[i]? = some o ∧ (pc : Int) + o = (q.2 : Nat) := by
    intro i q hq
    have hl' := (List.getElem?_eq_some_iff.mp hq).1
    have e1 : (cs.map (fun q => q.1.toInt))[i]? = some q.1.toInt := by rw [List.getElem?_map, hq]; rfl
    rw [h3, List.getElem?_map, List.getElem?_range hl'] at e1
    have e2 : (cs.map (fun q => (q.2 : Int)))[i]? = some (q.2 : Int) := by rw [List.getElem?_map, hq]; rfl
    rw [← h4, List.getElem?_map] at e2
    obtain ⟨o, ho, e3⟩ := Option.map_eq_some_iff.mp e2
    exact ⟨(Option.some.inj e1).symm, o, by rw [← Array.getElem?_toList]; exact ho, e3⟩
  by_cases hlo : x.toInt < lo ∨ hi < x.toInt
  · refine lv_tableOut hx hb hd hlo hdf ?_
    refine tg_sws_none h (fun q hq e => ?_) p l en R s mi args below meth c H locs ls C hS hR hl
    obtain ⟨i, hi'⟩ := List.getElem?_of_mem hq
    have hl' := (List.getElem?_eq_some_iff.mp hi').1
    have := (key i q hi').1
    rw [← e] at this
    omega
  · have a1 : ¬ x.toInt < lo := fun z => hlo (Or.inl z)
    have a2 : ¬ hi < x.toInt := fun z => hlo (Or.inr z)
    have hj : (x.toInt - lo).toNat < cs.length := by omega
    obtain ⟨k1, o, k2, k3⟩ := key (x.toInt - lo).toNat _ (List.getElem?_eq_getElem hj)
    refine lv_tableIn hx hb hd a1 a2 k2 k3 ?_
    refine tg_sws_some h (List.getElem?_eq_getElem hj) (Int32.toInt_inj.mp (by rw [k1]; omega)) (fun i q' hi' hq' e => ?_) p l en R s mi args below meth c H locs ls C hS hR hl
    have := (key i q' hq').1
    rw [← e] at this
    omega
theorem tg_lsw_off {x : Int32} {d : Int} {pc : Nat} {t : Nat} {K : Nat → Prop} (hd : (pc : Int) + d = (t : Nat)) : ∀ {ps : List (Int × Int)} {cs : List (Int32 × Nat)}, ps.map (fun q => (q.1, (pc : Int) + q.2)) = cs.map (fun q => (q.1.toInt, (q.2 : Int))) → tg_sws x cs t K → ∃ tg : Nat, (pc : Int) + Op.lookupswitch.offset ps d x.toInt = (tg : Nat) ∧ K tg := by
  intro ps
  induction ps with
  | nil =>
    intro cs h hs
    cases cs with
    | nil => exact ⟨t, hd, hs⟩
    | cons a r => cases h
  | cons b r ih =>
    intro cs h hs
    cases cs with
    | nil => cases h
    | cons a r' =>
      simp only [List.map_cons, List.cons.injEq, Prod.mk.injEq] at h
      obtain ⟨⟨e1, e2⟩, e3⟩ := h
      obtain ⟨b1, b2⟩ := b
      rw [Op.lookupswitch.offset_cons]
      by_cases hb : b1 = x.toInt
      · rw [if_pos hb]
        have : x = a.1 := Int32.toInt_inj.mp (by rw [← e1]; exact hb.symm)
        exact ⟨a.2, e2, hs.1 this⟩
      · rw [if_neg hb]
        exact ih e3 (hs.2 (fun e => hb (by rw [e]; exact e1)))
theorem tg_lsw {G : tg_G} {lv : Nat} {m : tg_M} {kc ks mc ms : Nat} {Q : Option Value → tg_W → Prop} {pc : Nat} {L : List (Nat × Value)} {st : List Value} {w : tg_W} {x : Int32} {d : Int} {ps : Array (Int × Int)} {nx : Nat} {f : List Nat} {y : MethodName} {v : Value} {cs : List (Int32 × Nat)} (he : tg_f m.2.2.2.2.2 pc = some (.lookupswitch d ps, nx, f, y, v, cs)) (h : tg_sws x cs (tg_gd f 0) (fun t => tg_V G lv m kc ks mc ms Q t L st w)) : tg_V G lv m kc ks mc ms Q pc L (.int x :: st) w := by
  intro p l en R s mi args below meth c H locs ls C hS hR hl
  obtain ⟨hok, hx, hb, hmx, hr, hlk, hnm, hown, hts, hfix, hbase, hroom⟩ := id C
  obtain ⟨hd, hn, hI⟩ := tg_dec hok he
  simp only [tg_okI, Bool.and_eq_true, decide_eq_true_eq] at hI
  obtain ⟨⟨hdf, h1⟩, h2⟩ := hI
  obtain ⟨t, e1, e2⟩ := tg_lsw_off (x := x) hdf h2 h
  exact lv_lookup hx hb hd h1 rfl e1 (e2 p l en R s mi args below meth c H locs ls C hS hR hl)
