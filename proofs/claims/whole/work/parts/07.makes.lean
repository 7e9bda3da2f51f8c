/-! new objects and rows -/
theorem tg_l_app (G : tg_G) (c : tg_Cl) (l : List tg_Cl) : ∀ k : Nat, tg_l G k (l ++ [c]) = tg_l G k l ++ [(tg_ad G (k + l.length), tg_c G c)] := by
  induction l with
  | nil => intro k; simp [tg_l]
  | cons x r ih =>
    intro k
    simp only [List.cons_append, tg_l, ih, List.length_cons]
    rw [show k + 1 + r.length = k + (r.length + 1) by omega]
theorem tg_push {G : tg_G} {w w2 : tg_W} {a : Nat} {c : tg_Cl} {H H1 : Heap} (hR : tg_R G w H) (hw : tg_ws G w2 = tg_ws G w ++ [(H.size, tg_c G c)]) (hz2 : w2.1.length + w2.2.length = w.1.length + w.2.length + 1) (h1 : w2.1.length ≤ 47) (h2 : w2.2.length ≤ 64) (h3 : w2.2 = [] ∨ w2.1.length = 47) (hat : va_at G.2.2.2.2.2.1 vwCl (H.size, tg_c G c) H1) (z : H1.size = H.size + 1) (o : ∀ q, q < H.size → H1[q]? = H[q]?) : tg_R G w2 H1 := by
  obtain ⟨r1, r2, r3, r4, r5⟩ := hR
  refine ⟨?_, by omega, h1, h2, h3⟩
  rw [hw]
  refine (r1.kept fun k x hx => o x.1 ((r1 k x hx).lt)).app (fun k x hx => ?_)
  have hz : k < 1 := (List.getElem?_eq_some_iff.mp hx).1
  rw [show k = 0 by omega] at hx
  cases hx
  exact hat
theorem tg_pushA {G : tg_G} {l : List tg_Cl} {c : tg_Cl} {H H1 : Heap} (hR : tg_R G (l, []) H) (hl : l.length < 47) (hat : va_at G.2.2.2.2.2.1 vwCl (H.size, tg_c G c) H1) (z : H1.size = H.size + 1) (o : ∀ q, q < H.size → H1[q]? = H[q]?) : tg_ad G l.length = H.size ∧ tg_R G (l ++ [c], []) H1 := by
  have e : tg_ad G l.length = H.size := by
    rw [tg_ad_lo (by omega), hR.2.1]; simp
  refine ⟨e, tg_push (a := 0) hR ?_ (by simp) (by simp; omega) (by simp) (Or.inl rfl) hat z o⟩
  show tg_l G 0 (l ++ [c]) ++ [] = (tg_l G 0 l ++ []) ++ _
  rw [List.append_nil, List.append_nil, tg_l_app, Nat.zero_add, e]
theorem tg_pushB {G : tg_G} {l r : List tg_Cl} {c : tg_Cl} {H H1 : Heap} (hR : tg_R G (l, r) H) (hl : l.length = 47) (hr : r.length < 64) (hat : va_at G.2.2.2.2.2.1 vwCl (H.size, tg_c G c) H1) (z : H1.size = H.size + 1) (o : ∀ q, q < H.size → H1[q]? = H[q]?) : tg_ad G (64 + r.length) = H.size ∧ tg_R G (l, r ++ [c]) H1 := by
  have e : tg_ad G (64 + r.length) = H.size := by
    rw [tg_ad_hi (by omega) (by omega), hR.2.1]; show _ = G.1 + l.length + r.length; omega
  refine ⟨e, tg_push (a := 0) hR ?_ (by simp; omega) (by simp; omega) (by simp; omega) (Or.inr hl) hat z o⟩
  show tg_l G 0 l ++ tg_l G 64 (r ++ [c]) = (tg_l G 0 l ++ tg_l G 64 r) ++ _
  rw [tg_l_app, List.append_assoc, e]
section TGN
variable {G : tg_G} {lv : Nat} {m : tg_M} {kc ks mc ms : Nat} {Q : Option Value → tg_W → Prop} {pc : Nat} {L : List (Nat × Value)}
theorem tg_newW {p : Program} {l : Launch} {en : Env} {R : Room} {s : State} {mi : MethodId} {args : Array Value} {below : List Frame} {meth : Method} {c : Code} {H : Heap} {locs : List Loc} {ls : Array Slot} {st : List Value} {w : tg_W} {idx : Nat} {Qf : State → Prop} {own : String} {cc : ByteArray} (ci : Nat) {fs : List Value}
    (hx : p.tables.exec = Jvm.exec) (hb : c.code = cc) (hown : s.vm.findClass own = some mi.cls) (hts : ∀ w ∈ tg_GW, w.before args s = true) (hfix : tg_fix G s) (hR : tg_R G w H) (hS : va_S (fun q => G.1 ≤ q) s.heap H locs)
    (hci : ci < 12) (h1 : (Jvm.Cond.classLink own idx (tg_cls ci).1).before args s = true) (h2 : (Jvm.Cond.instantiable (tg_cls ci).1 (tg_cls ci).2.2).before args s = true) (h3 : (Jvm.Cond.initialized (tg_cls ci).1).before args s = true)
    (hfs : ∀ j, j < (tg_cls ci).2.2 → defaultValue (tg_ty ci j) = vp_V fs j) (hv : fs.map (tg_v G) = fs) (hcells : kc + 1 ≤ R.cells) (hslots : ks + (tg_cls ci).2.2 ≤ R.slots) (hdg : decode cc pc = .ok (.new idx, 3))
    (kk : ∀ H1 : Heap, va_at G.2.2.2.2.2.1 vwCl (H.size, tg_c G (.inl (ci, fs))) H1 → H1.size = H.size + 1 → (∀ q, q < H.size → H1[q]? = H[q]?) → va_S (fun q => G.1 ≤ q) s.heap H1 locs → W p l en R s mi args below meth c H1 locs (kc + 1) (ks + (tg_cls ci).2.2) Qf (F0 mi (pc + 3) ls (.ref H.size :: st))) : W p l en R s mi args below meth c H locs kc ks Qf (F0 mi pc ls st) := by
  have hc := tg_clsok ci hci
  have hKn := hfix.1.1 ci _ hc
  have hin : ∀ w ∈ u_ws (tg_cls ci).1 (tg_cls ci).2.1 (tg_cls ci).2.2, w ∈ tg_GW := fun w hw => tg_wdG (tg_lays ci hci w hw)
  refine W.newcK hx hb hown h1 h2 h3 rfl hdg hcells hslots hKn.2.1 rfl fun H1 kC hkC e1 z1 o1 => ?_
  refine kk H1 ?_ z1 o1 ⟨Nat.le_trans hS.1 (by omega), fun x h1 h2 => (o1 x (Nat.lt_of_lt_of_le h1 hS.1)).trans (hS.2.1 x h1 h2), hS.2.2⟩
  show va_at _ _ (H.size, .inr (ci, fs.map (tg_v G))) H1
  rw [hv]
  exact ⟨_, hc, (u_born (tg_ty ci) hts hin hKn hkC e1 (tg_tyok ci hci)).to hfs⟩
theorem tg_newA {idx : Nat} {nx : Nat} {f : List Nat} {y : MethodName} {v : Value} {cs : List (Int32 × Nat)} {st : List Value} {lc : List tg_Cl} (fs : List Value)
    (he : tg_f m.2.2.2.2.2 pc = some (.new idx, nx, f, y, v, cs)) (hfs : ∀ j, j < (tg_cls (tg_gd f 0)).2.2 → defaultValue (tg_ty (tg_gd f 0) j) = vp_V fs j) (hv : fs.map (tg_v G) = fs) (hs : (Nat.ble (kc + 1) mc && Nat.ble (ks + (tg_cls (tg_gd f 0)).2.2) ms && Nat.blt lc.length 47) = true)
    (k : tg_V G lv m (kc + 1) (ks + (tg_cls (tg_gd f 0)).2.2) mc ms Q nx L (.ref lc.length :: st) (lc ++ [.inl (tg_gd f 0, fs)], [])) : tg_V G lv m kc ks mc ms Q pc L st (lc, []) := by
  intro p l en R s mi args below meth c H locs ls C hS hR hl
  obtain ⟨hok, hx, hb, hmx, hr, hlk, hnm, hown, hts, hfix, hbase, hroom⟩ := id C
  obtain ⟨hd, hn, hI⟩ := tg_dec hok he
  obtain ⟨hd1, hn1⟩ := tg_len1 hd hn rfl
  subst hn1
  simp only [Bool.and_eq_true] at hs
  obtain ⟨⟨h1, h2⟩, h3⟩ := hs
  have h1 := Nat.le_of_ble_eq_true h1
  have h2 := Nat.le_of_ble_eq_true h2
  have h3 : lc.length < 47 := by simp only [Nat.blt_eq] at h3; exact h3
  simp only [tg_okI, Bool.and_eq_true, decide_eq_true_eq] at hI
  obtain ⟨⟨⟨hci, w1⟩, w2⟩, w3⟩ := hI
  refine tg_newW (tg_gd f 0) hx hb hown hts hfix hR hS hci (hts _ (tg_wdG (tg_is_mem w1))) (hts _ (tg_wdG (tg_is_mem w2))) (hts _ (tg_wdG (tg_is_mem w3))) hfs hv (Nat.le_trans h1 hroom.2.2.1) (Nat.le_trans h2 hroom.2.2.2) hd1 fun H1 a1 a2 a3 a4 => ?_
  obtain ⟨e, hR1⟩ := tg_pushA hR h3 a1 a2 a3
  have := k p l en R s mi args below meth c H1 locs ls C a4 hR1 hl
  rw [← e]
  exact this
theorem tg_newB {idx : Nat} {nx : Nat} {f : List Nat} {y : MethodName} {v : Value} {cs : List (Int32 × Nat)} {st : List Value} {lc lr : List tg_Cl} (fs : List Value)
    (he : tg_f m.2.2.2.2.2 pc = some (.new idx, nx, f, y, v, cs)) (hfs : ∀ j, j < (tg_cls (tg_gd f 0)).2.2 → defaultValue (tg_ty (tg_gd f 0) j) = vp_V fs j) (hv : fs.map (tg_v G) = fs) (hlc : lc.length = 47) (hs : (Nat.ble (kc + 1) mc && Nat.ble (ks + (tg_cls (tg_gd f 0)).2.2) ms && Nat.blt lr.length 64) = true)
    (k : tg_V G lv m (kc + 1) (ks + (tg_cls (tg_gd f 0)).2.2) mc ms Q nx L (.ref (64 + lr.length) :: st) (lc, lr ++ [.inl (tg_gd f 0, fs)])) : tg_V G lv m kc ks mc ms Q pc L st (lc, lr) := by
  intro p l en R s mi args below meth c H locs ls C hS hR hl
  obtain ⟨hok, hx, hb, hmx, hr, hlk, hnm, hown, hts, hfix, hbase, hroom⟩ := id C
  obtain ⟨hd, hn, hI⟩ := tg_dec hok he
  obtain ⟨hd1, hn1⟩ := tg_len1 hd hn rfl
  subst hn1
  simp only [Bool.and_eq_true] at hs
  obtain ⟨⟨h1, h2⟩, h3⟩ := hs
  have h1 := Nat.le_of_ble_eq_true h1
  have h2 := Nat.le_of_ble_eq_true h2
  have h3 : lr.length < 64 := by simp only [Nat.blt_eq] at h3; exact h3
  simp only [tg_okI, Bool.and_eq_true, decide_eq_true_eq] at hI
  obtain ⟨⟨⟨hci, w1⟩, w2⟩, w3⟩ := hI
  refine tg_newW (tg_gd f 0) hx hb hown hts hfix hR hS hci (hts _ (tg_wdG (tg_is_mem w1))) (hts _ (tg_wdG (tg_is_mem w2))) (hts _ (tg_wdG (tg_is_mem w3))) hfs hv (Nat.le_trans h1 hroom.2.2.1) (Nat.le_trans h2 hroom.2.2.2) hd1 fun H1 a1 a2 a3 a4 => ?_
  obtain ⟨e, hR1⟩ := tg_pushB hR hlc h3 a1 a2 a3
  have := k p l en R s mi args below meth c H1 locs ls C a4 hR1 hl
  rw [← e]
  exact this
theorem tg_arrW {p : Program} {l : Launch} {en : Env} {R : Room} {s : State} {mi : MethodId} {args : Array Value} {below : List Frame} {meth : Method} {c : Code} {H : Heap} {locs : List Loc} {ls : Array Slot} {st : List Value} {w : tg_W} {Qf : State → Prop} {cc : ByteArray} {n : Int32} {N : Nat}
    (hx : p.tables.exec = Jvm.exec) (hb : c.code = cc) (hfix : tg_fix G s) (hS : va_S (fun q => G.1 ≤ q) s.heap H locs) (harr : (Jvm.Cond.arrayClass .int).before args s = true)
    (hn0 : ¬ n < 0) (hN : n.toNatClampNeg = N) (hsm : N ≤ 1000) (hcells : kc + 1 ≤ R.cells) (hslots : ks + N ≤ R.slots) (hdg : decode cc pc = .ok (.newarray .int, 2))
    (kk : ∀ H1 : Heap, va_at G.2.2.2.2.2.1 vwCl (H.size, tg_c G (.inr (N, fun _ => 0))) H1 → H1.size = H.size + 1 → (∀ q, q < H.size → H1[q]? = H[q]?) → va_S (fun q => G.1 ≤ q) s.heap H1 locs → W p l en R s mi args below meth c H1 locs (kc + 1) (ks + N) Qf (F0 mi (pc + 2) ls (.ref H.size :: st))) : W p l en R s mi args below meth c H locs kc ks Qf (F0 mi pc ls (.int n :: st)) := by
  refine va_newaK hx hb (atype := .int) harr rfl hdg rfl hn0 hN (by show N * 4 ≤ _; omega) hcells hslots rfl fun H1 cA e1 z1 o1 hAr hNm => ?_
  have hcI : G.2.2.2.2.2.2 = cA := Option.some.inj ((hfix.1.2 0 _ rfl).2.symm.trans hNm)
  refine kk H1 ?_ z1 o1 ⟨Nat.le_trans hS.1 (by omega), fun x h1 h2 => (o1 x (Nat.lt_of_lt_of_le h1 hS.1)).trans (hS.2.1 x h1 h2), hS.2.2⟩
  show H1[H.size]? = some (vp_cell G.2.2.2.2.2.2 (N, .inl fun _ => 0))
  rw [hcI]
  exact e1
theorem tg_arrA {t : ArrayType} {nx : Nat} {f : List Nat} {y : MethodName} {v : Value} {cs : List (Int32 × Nat)} {st : List Value} {lc : List tg_Cl} {n : Int32} (N : Nat)
    (he : tg_f m.2.2.2.2.2 pc = some (.newarray t, nx, f, y, v, cs)) (hN : (decide (¬ n < 0) && Nat.beq n.toNatClampNeg N && Nat.ble N 1000) = true) (hs : (Nat.ble (kc + 1) mc && Nat.ble (ks + N) ms && Nat.blt lc.length 47) = true)
    (k : tg_V G lv m (kc + 1) (ks + N) mc ms Q nx L (.ref lc.length :: st) (lc ++ [.inr (N, fun _ => 0)], [])) : tg_V G lv m kc ks mc ms Q pc L (.int n :: st) (lc, []) := by
  intro p l en R s mi args below meth c H locs ls C hS hR hl
  obtain ⟨hok, hx, hb, hmx, hr, hlk, hnm, hown, hts, hfix, hbase, hroom⟩ := id C
  obtain ⟨hd, hn, hI⟩ := tg_dec hok he
  obtain ⟨hd1, hn1⟩ := tg_len1 hd hn rfl
  subst hn1
  simp only [Bool.and_eq_true, decide_eq_true_eq] at hs hN
  obtain ⟨⟨h1, h2⟩, h3⟩ := hs
  obtain ⟨⟨n1, n2⟩, n3⟩ := hN
  have h1 := Nat.le_of_ble_eq_true h1
  have h2 := Nat.le_of_ble_eq_true h2
  have h3 : lc.length < 47 := by simp only [Nat.blt_eq] at h3; exact h3
  simp only [tg_okI, Bool.and_eq_true, decide_eq_true_eq] at hI
  obtain ⟨rfl, w1⟩ := hI
  refine tg_arrW (w := (lc, [])) hx hb hfix hS (hts _ (tg_wdG (tg_is_mem w1))) n1 (Nat.eq_of_beq_eq_true n2) (Nat.le_of_ble_eq_true n3) (Nat.le_trans h1 hroom.2.2.1) (Nat.le_trans h2 hroom.2.2.2) hd1 fun H1 a1 a2 a3 a4 => ?_
  obtain ⟨e, hR1⟩ := tg_pushA hR h3 a1 a2 a3
  have := k p l en R s mi args below meth c H1 locs ls C a4 hR1 hl
  rw [← e]
  exact this
theorem tg_arrB {t : ArrayType} {nx : Nat} {f : List Nat} {y : MethodName} {v : Value} {cs : List (Int32 × Nat)} {st : List Value} {lc lr : List tg_Cl} {n : Int32} (N : Nat)
    (he : tg_f m.2.2.2.2.2 pc = some (.newarray t, nx, f, y, v, cs)) (hN : (decide (¬ n < 0) && Nat.beq n.toNatClampNeg N && Nat.ble N 1000) = true) (hlc : lc.length = 47) (hs : (Nat.ble (kc + 1) mc && Nat.ble (ks + N) ms && Nat.blt lr.length 64) = true)
    (k : tg_V G lv m (kc + 1) (ks + N) mc ms Q nx L (.ref (64 + lr.length) :: st) (lc, lr ++ [.inr (N, fun _ => 0)])) : tg_V G lv m kc ks mc ms Q pc L (.int n :: st) (lc, lr) := by
  intro p l en R s mi args below meth c H locs ls C hS hR hl
  obtain ⟨hok, hx, hb, hmx, hr, hlk, hnm, hown, hts, hfix, hbase, hroom⟩ := id C
  obtain ⟨hd, hn, hI⟩ := tg_dec hok he
  obtain ⟨hd1, hn1⟩ := tg_len1 hd hn rfl
  subst hn1
  simp only [Bool.and_eq_true, decide_eq_true_eq] at hs hN
  obtain ⟨⟨h1, h2⟩, h3⟩ := hs
  obtain ⟨⟨n1, n2⟩, n3⟩ := hN
  have h1 := Nat.le_of_ble_eq_true h1
  have h2 := Nat.le_of_ble_eq_true h2
  have h3 : lr.length < 64 := by simp only [Nat.blt_eq] at h3; exact h3
  simp only [tg_okI, Bool.and_eq_true, decide_eq_true_eq] at hI
  obtain ⟨rfl, w1⟩ := hI
  refine tg_arrW (w := (lc, lr)) hx hb hfix hS (hts _ (tg_wdG (tg_is_mem w1))) n1 (Nat.eq_of_beq_eq_true n2) (Nat.le_of_ble_eq_true n3) (Nat.le_trans h1 hroom.2.2.1) (Nat.le_trans h2 hroom.2.2.2) hd1 fun H1 a1 a2 a3 a4 => ?_
  obtain ⟨e, hR1⟩ := tg_pushB hR hlc h3 a1 a2 a3
  have := k p l en R s mi args below meth c H1 locs ls C a4 hR1 hl
  rw [← e]
  exact this
end TGN
