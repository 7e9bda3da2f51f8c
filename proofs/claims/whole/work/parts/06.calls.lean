/-! contracts; calls -/
def tg_P (G : tg_G) (As : List Value) (w : tg_W) : Array Value → State → Prop := va_Pc (As.map (tg_v G)) (fun U => tg_fix G U ∧ G.1 ≤ U.heap.size ∧ tg_R G w U.heap)
def tg_rm (lv mc ms : Nat) : Room := { frames := lv, cells := mc, slots := ms, locals := 40 * lv }
/-- the contract of a method: from this world, with these arguments, it returns, and Q holds of the answer and the world behind it -/
def tg_C (G : tg_G) (lv : Nat) (m : tg_M) (mc ms : Nat) (As : List Value) (w : tg_W) (Q : Option Value → tg_W → Prop) : Prop :=
  tg_okM m = true ∧ ∀ l : Launch, Met l m.1 (tg_wd m) (tg_rm lv mc ms) (tg_P G As w) (tg_Qc G Q) mc ms (fun q => G.1 ≤ q)
theorem tg_wk_C {G : tg_G} {lv : Nat} {m : tg_M} {mc ms : Nat} {As : List Value} {w : tg_W} {Q Q' : Option Value → tg_W → Prop} (h : tg_C G lv m mc ms As w Q) (hQ : ∀ r w', Q r w' → Q' r w') : tg_C G lv m mc ms As w Q' := by
  refine ⟨h.1, fun l p e ha hc hk s mi args below hf hn hP hK => ?_⟩
  obtain ⟨t, o, h1, h2, h3, ⟨⟨r, w', c1, c2, c3⟩, c4⟩, h5⟩ := h.2 l p e ha hc hk s mi args below hf hn hP hK
  exact ⟨t, o, h1, h2, h3, ⟨⟨r, w', c1, hQ r w' c2, c3⟩, c4⟩, h5⟩
theorem tg_args (G : tg_G) (As : List Value) : ∀ i : Nat, lv_args i (As.map (tg_v G)) = tg_ml G (lv_args i As) := by
  induction As with
  | nil => intro i; rfl
  | cons a r ih =>
    intro i
    simp only [List.map_cons, lv_args, tg_ml, tg_vcat, ih]
theorem tg_slots (G : tg_G) (As : List Value) : (lg_sl (As.map (tg_v G))).length = (lg_sl As).length := by
  induction As with
  | nil => rfl
  | cons a r ih =>
    simp only [lg_sl, List.map_cons, List.flatMap_cons, List.length_append, tg_vcat] at ih ⊢
    rw [ih]
    congr 1
    split <;> rfl
theorem tg_intro {G : tg_G} {lv : Nat} {m : tg_M} {mc ms : Nat} {As : List Value} {w : tg_W} {Q : Option Value → tg_W → Prop} (hok : tg_okM m = true) (hsl : (lg_sl As).length ≤ m.2.2.1) (k : tg_V G lv m 0 0 mc ms Q 0 (lv_args 0 As) [] w) : tg_C G lv m mc ms As w Q := by
  refine ⟨hok, fun l => ?_⟩
  refine Met.ofW (cc := m.2.1) (maxL := m.2.2.1) (ret := m.2.2.2.1) (tg_ok_plain (tg_okM_ok hok)) rfl ?_
  intro p e s mi args below meth c s₁ B hml hv
  obtain ⟨rfl, hfix, hbase, hR⟩ := hv
  have hlk := B.notSynchronized
  have hts := atoms_spec (ws := tg_wd m) B.pre
  have hl := lv_entry (As.map (tg_v G)) (n := m.2.2.1) (by rw [tg_slots]; exact hsl)
  rw [lg_entry_eq]
  rw [tg_args] at hl
  exact k p l e _ s mi _ below meth c s.heap [] _ ⟨tg_okM_ok hok, B.exec, B.bytes, hml, B.returns, hlk, (name_of_methodNamed B.named B.method).1, findClass_of_methodNamed B.named, fun w hw => hts w (List.mem_cons_of_mem _ hw), hfix, hbase, Nat.le_refl _, Nat.le_refl _, Nat.le_refl _, Nat.le_refl _⟩ va_S.rf hR hl
theorem tg_fix_moved {G : tg_G} {u U : State} (hvm : u.vm = U.vm) (hh : U.heap = u.heap) (h : tg_fix G u) : tg_fix G U := by
  obtain ⟨h1, h2, h3, h4, h5, h6⟩ := h
  have ha : u.vm.Alike U.vm := by rw [hvm]; exact Vm.Alike.refl U.vm
  refine ⟨h1.moved ha, ?_, h3, ?_, ?_, fun w hw => va_Nw.same ?_ hvm (h6 w hw)⟩
  · rw [hh]; exact h2.moved ha
  · rw [hh]; exact h4.moved ha
  · rw [hh]; exact h5.moved ha
  · have := (List.mem_filter.mp hw).2
    cases w <;> first | rfl | cases this
theorem tg_fix_warm {G : tg_G} {s U : State} {H : Heap} {locs : List Loc} (hb : G.1 ≤ s.heap.size) (hS : va_S (fun q => G.1 ≤ q) s.heap H locs) (hU : U.heap = H) (hW : s.WarmedH U.vm) (h : tg_fix G s) : tg_fix G U := by
  obtain ⟨h1, h2, h3, h4, h5, h6⟩ := h
  have ha : s.vm.Alike U.vm := hW.alike
  refine ⟨h1.moved ha, ?_, h3, ?_, ?_, fun w hw => ?_⟩
  · rw [hU]
    exact (h2.kept (hS.2.1 _ (Nat.lt_of_lt_of_le h3 hb) (Nat.not_le.mpr h3))).moved ha
  · rw [hU]
    exact (h4.kept hS.2.1).moved ha
  · rw [hU]
    exact (h5.kept hS.2.1).moved ha
  · have h7 := (List.mem_filter.mp hw).2
    have h8 := h6 w hw
    cases w <;> first | exact va_Nw.warmM hW h8 | cases h7
theorem tg_blind (G : tg_G) (As : List Value) (w : tg_W) : FrameBlind (tg_P G As w) := fun a U g mk h => ⟨h.1, tg_fix_moved (u := U) rfl rfl h.2.1, h.2.2.1, h.2.2.2⟩
theorem tg_good {m' : tg_M} (h' : tg_okM m' = true) {ws : List Jvm.Cond} (hw : ∀ w ∈ ws, w ∈ tg_GW) : GoodIn tg_GW (ws ++ tg_wd m') := by
  have hg : ∀ w ∈ tg_GW, w ∈ tg_GW ∧ ((w.onTables && w.keeps) = true ∨ ∃ ty, w = .arrayClass ty) := fun w hw => ⟨tg_wdG hw, good_of_word (List.mem_filter.mp hw).2⟩
  intro w hw'
  rcases List.mem_append.mp hw' with q | q
  · exact hg w (hw w q)
  · rcases List.mem_cons.mp q with rfl | q
    · exact hg _ (tg_ok_code h')
    · exact hg w q
theorem tg_ini {y : MethodName} {c i : Nat} (h : tg_is c i (.initialized y.cls) = true) : Jvm.Cond.initialized y.cls ∈ tg_GW := tg_is_mem h
section TGC
variable {G : tg_G} {lv : Nat} {m : tg_M} {kc ks mc ms : Nat} {Q : Option Value → tg_W → Prop} {pc : Nat} {L : List (Nat × Value)} {w : tg_W}
theorem tg_after {p : Program} {l : Launch} {en : Env} {R : Room} {s : State} {mi : MethodId} {args : Array Value} {below : List Frame} {meth : Method} {c : Code} {H : Heap} {locs : List Loc} {ls : Array Slot} {mc' ms' : Nat} {st0 : List Value} {rest : List Value} {Q' : Option Value → tg_W → Prop} {a : Array Value}
    (hS : va_S (fun q => G.1 ≤ q) s.heap H locs)
    (hr : va_Run p l en R s mi args below meth c H locs kc ks mc' ms' (F0 mi pc ls st0) (rest.map (tg_v G)) (tg_Qc G Q' a) (fun q => G.1 ≤ q))
    {Qf : State → Prop}
    (k : ∀ (r : Option Value) (w' : tg_W) (H1 : Heap) (locs1 : List Loc), Q' r w' → va_S (fun q => G.1 ≤ q) s.heap H1 locs1 → tg_R G w' H1 → W p l en R s mi args below meth c H1 locs1 (kc + mc') (ks + ms') Qf (F0 mi (pc + 3) ls ((r.toList ++ rest).map (tg_v G)))) :
    W p l en R s mi args below meth c H locs kc ks Qf (F0 mi pc ls st0) := by
  intro T hT X
  obtain ⟨v, st₀, t, T', L', h0, X', hL, e1, e2, ⟨⟨r, w', hv, hQ, hR'⟩, hz, hk⟩, stp⟩ := hr T hT X
  have hv : v = r.map (tg_v G) := by cases hv; rfl
  subst hv
  rw [h0] at hz hk
  obtain ⟨t2, a1, b1⟩ := k r w' T'.heap (locs ++ L') hQ
    ⟨Nat.le_trans hS.1 (by rw [e1]; exact hz), fun q h1 h2 => by rw [e1, hk q (Nat.lt_of_lt_of_le h1 hS.1) h2]; exact hS.2.1 q h1 h2, fun q hq => by
      rcases List.mem_append.mp hq with h | h
      · exact hS.2.2 q h
      · exact hL q h⟩ (by rw [e1]; exact hR') T' rfl X'
  refine ⟨t2, stp t2 ?_, b1⟩
  have e3 : (r.toList ++ rest).map (tg_v G) = (r.map (tg_v G)).toList ++ rest.map (tg_v G) := by
    cases r <;> rfl
  rw [e3] at a1
  exact a1

theorem tg_callV {idx : Nat} {nx : Nat} {f : List Nat} {y : MethodName} {v : Value} {cs : List (Int32 × Nat)} {lv' mc' ms' : Nat} {m' : tg_M} {As rest st : List Value} {Q' : Option Value → tg_W → Prop} {b : Nat} {o : Nat × List Value} 
    (he : tg_f m.2.2.2.2.2 pc = some (.invokevirtual idx, nx, f, y, v, cs)) (hC : tg_C G lv' m' mc' ms' (.ref b :: As) w Q') (hy : m'.1 = y) (hst : st = (.ref b :: As).reverse ++ rest) (hs : (Nat.beq (tg_gd f 0) 0 && Nat.beq As.length (tg_gd f 1) && Nat.blt lv' lv && Nat.ble (kc + mc') mc && Nat.ble (ks + ms') ms && Nat.ble ((rest.map fun v => v.category).sum) 8) = true) (ho : tg_lk w b = some (.inl o)) (hoc : Nat.beq o.1 (tg_gd f 2) = true) 
    (k : ∀ r w', Q' r w' → tg_V G lv m (kc + mc') (ks + ms') mc ms Q nx L (r.toList ++ rest) w') : tg_V G lv m kc ks mc ms Q pc L st w := by
  subst hst
  intro p l en R s mi args below meth c H locs ls C hS hR hl
  obtain ⟨hok, hx, hb, hmx, hr, hlk, hnm, hown, hts, hfix, hbase, hroom⟩ := id C
  obtain ⟨hd, hn, hI⟩ := tg_dec hok he
  obtain ⟨hd1, hn1⟩ := tg_len1 hd hn rfl
  subst hn1
  obtain ⟨hok', hM⟩ := hC
  subst hy
  simp only [Bool.and_eq_true] at hs
  obtain ⟨⟨⟨⟨⟨h0, h1⟩, h2⟩, h3⟩, h4⟩, h5⟩ := hs
  have h0 := Nat.eq_of_beq_eq_true h0
  have h1 := Nat.eq_of_beq_eq_true h1
  have h2 : lv' + 1 ≤ lv := by simp only [Nat.blt_eq] at h2; exact h2
  have h3 := Nat.le_of_ble_eq_true h3
  have h4 := Nat.le_of_ble_eq_true h4
  have h5 := Nat.le_of_ble_eq_true h5
  have hmx' := tg_ok_mx (tg_okM_ok hok')
  have hcat : ((rest.map (tg_v G)).map fun v => v.category).sum ≤ 8 := by
    rw [List.map_map]
    have : ((fun v : Value => v.category) ∘ tg_v G) = fun v : Value => v.category := by funext v; exact tg_vcat G v
    rw [this]; exact h5
  have hRm : (tg_rm lv' mc' ms').frames + 1 ≤ R.frames ∧ 8 + (m'.2.2.1 + 11) + (tg_rm lv' mc' ms').locals ≤ R.locals := ⟨Nat.le_trans h2 hroom.1, by
    show 8 + (m'.2.2.1 + 11) + 40 * lv' ≤ R.locals
    have := hroom.2.1
    omega⟩
  have hf : kc + mc' ≤ R.cells ∧ ks + ms' ≤ R.slots := ⟨Nat.le_trans h3 hroom.2.2.1, Nat.le_trans h4 hroom.2.2.2⟩
  simp only [tg_okI, tg_okc, h0, Bool.and_eq_true, decide_eq_true_eq] at hI
  obtain ⟨⟨⟨⟨⟨⟨⟨-, hMH⟩, har⟩, hcl⟩, w1⟩, w2⟩, w3⟩, w4⟩ := hI
  have hMH := of_decide_eq_true hMH
  have har := of_decide_eq_true har
  have hstk : ((.ref b :: As).reverse ++ rest).map (tg_v G) = (As.map (tg_v G)).reverse ++ .ref (tg_ad G b) :: rest.map (tg_v G) := by
    simp [List.map_reverse, tg_v]
  rw [hstk]
  have hPU : ∀ U : State, U.heap = H → s.WarmedH U.vm → tg_P G (.ref b :: As) w (Value.ref (tg_ad G b) :: As.map (tg_v G)).toArray U := fun U hU hW => ⟨rfl, tg_fix_warm hbase hS hU hW hfix, by rw [hU]; exact Nat.le_trans hbase hS.1, by rw [hU]; exact hR⟩
  have hoc := Nat.eq_of_beq_eq_true hoc
  have hcls : ∃ cellB : Cell, H[tg_ad G b]? = some cellB ∧ cellB.vm.isStatics = false ∧ s.vm.findClass m'.1.cls = some cellB.cls := by
    obtain ⟨q, hq1, hq2⟩ := Option.map_eq_some_iff.mp hcl
    have := va_recv hfix.1 hR.1 hq1 (by rw [← hoc]; exact tg_lk_ws (G := G) ho)
    rw [hq2] at this
    exact this
  refine tg_after hS (va_runV (As := As.map (tg_v G)) (rest := rest.map (tg_v G)) (g := F0 mi pc ls _) ⟨hx, hb, hmx, hown, hts⟩ (hM l) (cwV (As.map (tg_v G)).length hts (tg_good (ws := [.methodLink m.1.cls idx m'.1, .instanceMethod m'.1, .selects m'.1.cls m'.1 m'.1, .initialized m'.1.cls]) hok' ?_) rfl rfl rfl ⟨rfl, hMH.1, hMH.2, by rw [List.length_map, h1]; exact har⟩ hRm) ⟨tg_blind G _ w, hcls, hPU⟩ rfl rfl (by exact hl.1) rfl (lv_room hcat) hd1 hf) (fun r w' H1 locs1 hQ' hS1 hR1 => k r w' hQ' p l en R s mi args below meth c H1 locs1 ls C hS1 hR1 hl)
  intro w' hw'
  simp only [List.mem_cons, List.not_mem_nil, or_false] at hw'
  rcases hw' with rfl | rfl | rfl | rfl
  · exact tg_is_mem w1
  · exact tg_is_mem w2
  · exact tg_is_mem w3
  · exact tg_is_mem w4
theorem tg_call1 {idx : Nat} {nx : Nat} {f : List Nat} {y : MethodName} {v : Value} {cs : List (Int32 × Nat)} {lv' mc' ms' : Nat} {m' : tg_M} {As rest st : List Value} {Q' : Option Value → tg_W → Prop} 
    (he : tg_f m.2.2.2.2.2 pc = some (.invokestatic idx, nx, f, y, v, cs)) (hC : tg_C G lv' m' mc' ms' (As) w Q') (hy : m'.1 = y) (hst : st = (As).reverse ++ rest) (hs : (Nat.beq (tg_gd f 0) 1 && Nat.beq As.length (tg_gd f 1) && Nat.blt lv' lv && Nat.ble (kc + mc') mc && Nat.ble (ks + ms') ms && Nat.ble ((rest.map fun v => v.category).sum) 8) = true) 
    (k : ∀ r w', Q' r w' → tg_V G lv m (kc + mc') (ks + ms') mc ms Q nx L (r.toList ++ rest) w') : tg_V G lv m kc ks mc ms Q pc L st w := by
  subst hst
  intro p l en R s mi args below meth c H locs ls C hS hR hl
  obtain ⟨hok, hx, hb, hmx, hr, hlk, hnm, hown, hts, hfix, hbase, hroom⟩ := id C
  obtain ⟨hd, hn, hI⟩ := tg_dec hok he
  obtain ⟨hd1, hn1⟩ := tg_len1 hd hn rfl
  subst hn1
  obtain ⟨hok', hM⟩ := hC
  subst hy
  simp only [Bool.and_eq_true] at hs
  obtain ⟨⟨⟨⟨⟨h0, h1⟩, h2⟩, h3⟩, h4⟩, h5⟩ := hs
  have h0 := Nat.eq_of_beq_eq_true h0
  have h1 := Nat.eq_of_beq_eq_true h1
  have h2 : lv' + 1 ≤ lv := by simp only [Nat.blt_eq] at h2; exact h2
  have h3 := Nat.le_of_ble_eq_true h3
  have h4 := Nat.le_of_ble_eq_true h4
  have h5 := Nat.le_of_ble_eq_true h5
  have hmx' := tg_ok_mx (tg_okM_ok hok')
  have hcat : ((rest.map (tg_v G)).map fun v => v.category).sum ≤ 8 := by
    rw [List.map_map]
    have : ((fun v : Value => v.category) ∘ tg_v G) = fun v : Value => v.category := by funext v; exact tg_vcat G v
    rw [this]; exact h5
  have hRm : (tg_rm lv' mc' ms').frames + 1 ≤ R.frames ∧ 8 + (m'.2.2.1 + 11) + (tg_rm lv' mc' ms').locals ≤ R.locals := ⟨Nat.le_trans h2 hroom.1, by
    show 8 + (m'.2.2.1 + 11) + 40 * lv' ≤ R.locals
    have := hroom.2.1
    omega⟩
  have hf : kc + mc' ≤ R.cells ∧ ks + ms' ≤ R.slots := ⟨Nat.le_trans h3 hroom.2.2.1, Nat.le_trans h4 hroom.2.2.2⟩
  simp only [tg_okI, tg_okc, h0, Bool.and_eq_true, decide_eq_true_eq] at hI
  obtain ⟨⟨⟨⟨⟨-, hMH⟩, har⟩, w1⟩, w2⟩, w4⟩ := hI
  have hMH := of_decide_eq_true hMH
  have har := of_decide_eq_true har
  have hstk : (As.reverse ++ rest).map (tg_v G) = (As.map (tg_v G)).reverse ++ rest.map (tg_v G) := by
    simp [List.map_reverse]
  rw [hstk]
  have hPU : ∀ U : State, U.heap = H → s.WarmedH U.vm → tg_P G As w (As.map (tg_v G)).toArray U := fun U hU hW => ⟨rfl, tg_fix_warm hbase hS hU hW hfix, by rw [hU]; exact Nat.le_trans hbase hS.1, by rw [hU]; exact hR⟩
  refine tg_after hS (va_runS (As := As.map (tg_v G)) (rest := rest.map (tg_v G)) (g := F0 mi pc ls _) ⟨hx, hb, hmx, hown, hts⟩ (hM l) (va_cwS (As.map (tg_v G)).length hts (tg_good (ws := [.methodLink m.1.cls idx m'.1, .static m'.1, .initialized m'.1.cls]) hok' ?_) rfl rfl rfl ⟨hMH.1, hMH.2, by rw [List.length_map, h1]; exact har⟩ hRm) ⟨tg_blind G _ w, hPU⟩ rfl rfl (by exact hl.1) rfl (lv_room hcat) hd1 hf) (fun r w' H1 locs1 hQ' hS1 hR1 => k r w' hQ' p l en R s mi args below meth c H1 locs1 ls C hS1 hR1 hl)
  intro w' hw'
  simp only [List.mem_cons, List.not_mem_nil, or_false] at hw'
  rcases hw' with rfl | rfl | rfl
  · exact tg_is_mem w1
  · exact tg_is_mem w2
  · exact tg_is_mem w4
theorem tg_call4 {idx : Nat} {nx : Nat} {f : List Nat} {y : MethodName} {v : Value} {cs : List (Int32 × Nat)} {lv' mc' ms' : Nat} {m' : tg_M} {As rest st : List Value} {Q' : Option Value → tg_W → Prop} 
    (he : tg_f m.2.2.2.2.2 pc = some (.invokestatic idx, nx, f, y, v, cs)) (hC : tg_C G lv' m' mc' ms' (As) w Q') (hy : m'.1 = y) (hst : st = (As).reverse ++ rest) (hs : (Nat.beq (tg_gd f 0) 4 && Nat.beq As.length (tg_gd f 1) && Nat.blt lv' lv && Nat.ble (kc + mc') mc && Nat.ble (ks + ms') ms && Nat.ble ((rest.map fun v => v.category).sum) 8) = true) 
    (k : ∀ r w', Q' r w' → tg_V G lv m (kc + mc') (ks + ms') mc ms Q nx L (r.toList ++ rest) w') : tg_V G lv m kc ks mc ms Q pc L st w := by
  subst hst
  intro p l en R s mi args below meth c H locs ls C hS hR hl
  obtain ⟨hok, hx, hb, hmx, hr, hlk, hnm, hown, hts, hfix, hbase, hroom⟩ := id C
  obtain ⟨hd, hn, hI⟩ := tg_dec hok he
  obtain ⟨hd1, hn1⟩ := tg_len1 hd hn rfl
  subst hn1
  obtain ⟨hok', hM⟩ := hC
  subst hy
  simp only [Bool.and_eq_true] at hs
  obtain ⟨⟨⟨⟨⟨h0, h1⟩, h2⟩, h3⟩, h4⟩, h5⟩ := hs
  have h0 := Nat.eq_of_beq_eq_true h0
  have h1 := Nat.eq_of_beq_eq_true h1
  have h2 : lv' + 1 ≤ lv := by simp only [Nat.blt_eq] at h2; exact h2
  have h3 := Nat.le_of_ble_eq_true h3
  have h4 := Nat.le_of_ble_eq_true h4
  have h5 := Nat.le_of_ble_eq_true h5
  have hmx' := tg_ok_mx (tg_okM_ok hok')
  have hcat : ((rest.map (tg_v G)).map fun v => v.category).sum ≤ 8 := by
    rw [List.map_map]
    have : ((fun v : Value => v.category) ∘ tg_v G) = fun v : Value => v.category := by funext v; exact tg_vcat G v
    rw [this]; exact h5
  have hRm : (tg_rm lv' mc' ms').frames + 1 ≤ R.frames ∧ 8 + (m'.2.2.1 + 11) + (tg_rm lv' mc' ms').locals ≤ R.locals := ⟨Nat.le_trans h2 hroom.1, by
    show 8 + (m'.2.2.1 + 11) + 40 * lv' ≤ R.locals
    have := hroom.2.1
    omega⟩
  have hf : kc + mc' ≤ R.cells ∧ ks + ms' ≤ R.slots := ⟨Nat.le_trans h3 hroom.2.2.1, Nat.le_trans h4 hroom.2.2.2⟩
  simp only [tg_okI, tg_okc, h0, Bool.and_eq_true, decide_eq_true_eq] at hI
  obtain ⟨⟨⟨⟨⟨-, hMH⟩, har⟩, w1⟩, w2⟩, w4⟩ := hI
  have hMH := of_decide_eq_true hMH
  have har := of_decide_eq_true har
  have hstk : (As.reverse ++ rest).map (tg_v G) = (As.map (tg_v G)).reverse ++ rest.map (tg_v G) := by
    simp [List.map_reverse]
  rw [hstk]
  have hPU : ∀ U : State, U.heap = H → s.WarmedH U.vm → tg_P G As w (As.map (tg_v G)).toArray U := fun U hU hW => ⟨rfl, tg_fix_warm hbase hS hU hW hfix, by rw [hU]; exact Nat.le_trans hbase hS.1, by rw [hU]; exact hR⟩
  refine tg_after hS (va_runSN (As := As.map (tg_v G)) (rest := rest.map (tg_v G)) (g := F0 mi pc ls _) ⟨hx, hb, hmx, hown, hts⟩ (hM l) ⟨va_cnB (host := "TilesGoAbout") (As.map (tg_v G)).length hts (tg_good (ws := []) hok' (fun _ h => by cases h)) rfl rfl rfl (hfix.2.2.2.2.2 _ (tg_isN_mem w1)) (hts _ (tg_wdG (tg_is_mem w4))) ⟨hMH.1, hMH.2, by rw [List.length_map, h1]; exact har⟩ hRm, hts _ (tg_wdG (tg_is_mem w2)), trivial⟩ ⟨tg_blind G _ w, hPU⟩ rfl rfl (by exact hl.1) rfl (lv_room hcat) hd1 hf) (fun r w' H1 locs1 hQ' hS1 hR1 => k r w' hQ' p l en R s mi args below meth c H1 locs1 ls C hS1 hR1 hl)
theorem tg_call2 {idx : Nat} {nx : Nat} {f : List Nat} {y : MethodName} {v : Value} {cs : List (Int32 × Nat)} {lv' mc' ms' : Nat} {m' : tg_M} {As rest st : List Value} {Q' : Option Value → tg_W → Prop} {b : Nat} 
    (he : tg_f m.2.2.2.2.2 pc = some (.invokespecial idx, nx, f, y, v, cs)) (hC : tg_C G lv' m' mc' ms' (.ref b :: As) w Q') (hy : m'.1 = y) (hrt : m'.2.2.2.1 = none) (hst : st = (.ref b :: As).reverse ++ rest) (hs : (Nat.beq (tg_gd f 0) 2 && Nat.beq As.length (tg_gd f 1) && Nat.blt lv' lv && Nat.ble (kc + mc') mc && Nat.ble (ks + ms') ms && Nat.ble ((rest.map fun v => v.category).sum) 8) = true) 
    (k : ∀ r w', Q' r w' → tg_V G lv m (kc + mc') (ks + ms') mc ms Q nx L (r.toList ++ rest) w') : tg_V G lv m kc ks mc ms Q pc L st w := by
  subst hst
  intro p l en R s mi args below meth c H locs ls C hS hR hl
  obtain ⟨hok, hx, hb, hmx, hr, hlk, hnm, hown, hts, hfix, hbase, hroom⟩ := id C
  obtain ⟨hd, hn, hI⟩ := tg_dec hok he
  obtain ⟨hd1, hn1⟩ := tg_len1 hd hn rfl
  subst hn1
  obtain ⟨hok', hM⟩ := hC
  subst hy
  simp only [Bool.and_eq_true] at hs
  obtain ⟨⟨⟨⟨⟨h0, h1⟩, h2⟩, h3⟩, h4⟩, h5⟩ := hs
  have h0 := Nat.eq_of_beq_eq_true h0
  have h1 := Nat.eq_of_beq_eq_true h1
  have h2 : lv' + 1 ≤ lv := by simp only [Nat.blt_eq] at h2; exact h2
  have h3 := Nat.le_of_ble_eq_true h3
  have h4 := Nat.le_of_ble_eq_true h4
  have h5 := Nat.le_of_ble_eq_true h5
  have hmx' := tg_ok_mx (tg_okM_ok hok')
  have hcat : ((rest.map (tg_v G)).map fun v => v.category).sum ≤ 8 := by
    rw [List.map_map]
    have : ((fun v : Value => v.category) ∘ tg_v G) = fun v : Value => v.category := by funext v; exact tg_vcat G v
    rw [this]; exact h5
  have hRm : (tg_rm lv' mc' ms').frames + 1 ≤ R.frames ∧ 8 + (m'.2.2.1 + 11) + (tg_rm lv' mc' ms').locals ≤ R.locals := ⟨Nat.le_trans h2 hroom.1, by
    show 8 + (m'.2.2.1 + 11) + 40 * lv' ≤ R.locals
    have := hroom.2.1
    omega⟩
  have hf : kc + mc' ≤ R.cells ∧ ks + ms' ≤ R.slots := ⟨Nat.le_trans h3 hroom.2.2.1, Nat.le_trans h4 hroom.2.2.2⟩
  simp only [tg_okI, tg_okc, h0, Bool.and_eq_true, decide_eq_true_eq] at hI
  obtain ⟨⟨⟨⟨⟨⟨-, hMH⟩, har⟩, hnm2⟩, w1⟩, w2⟩, w4⟩ := hI
  have hMH := of_decide_eq_true hMH
  have har := of_decide_eq_true har
  have hstk : ((.ref b :: As).reverse ++ rest).map (tg_v G) = (As.map (tg_v G)).reverse ++ .ref (tg_ad G b) :: rest.map (tg_v G) := by
    simp [List.map_reverse, tg_v]
  rw [hstk]
  have hPU : ∀ U : State, U.heap = H → s.WarmedH U.vm → tg_P G (.ref b :: As) w (Value.ref (tg_ad G b) :: As.map (tg_v G)).toArray U := fun U hU hW => ⟨rfl, tg_fix_warm hbase hS hU hW hfix, by rw [hU]; exact Nat.le_trans hbase hS.1, by rw [hU]; exact hR⟩
  refine tg_after hS (va_runI (As := As.map (tg_v G)) (rest := rest.map (tg_v G)) (g := F0 mi pc ls _) ⟨hx, hb, hmx, hown, hts⟩ (hM l) ⟨by rw [← hrt]; exact callB_of (As.map (tg_v G)).length hts (tg_good (ws := []) hok' (fun _ h => by cases h)) rfl rfl rfl (hts _ (tg_wdG (tg_is_mem w4))) (hts _ (tg_wdG (tg_is_mem w1))) ⟨hMH.1, hMH.2, by rw [List.length_map, h1]; exact har⟩ hRm, hnm2, hts _ (tg_wdG (tg_is_mem w2))⟩ ⟨tg_blind G _ w, hPU⟩ rfl rfl (by exact hl.1) rfl (lv_room hcat) hd1 hf) (fun r w' H1 locs1 hQ' hS1 hR1 => k r w' hQ' p l en R s mi args below meth c H1 locs1 ls C hS1 hR1 hl)
theorem tg_call3 {idx : Nat} {nx : Nat} {f : List Nat} {y : MethodName} {v : Value} {cs : List (Int32 × Nat)} {lv' mc' ms' : Nat} {m' : tg_M} {As rest st : List Value} {Q' : Option Value → tg_W → Prop} {b : Nat} {o : Nat × List Value} 
    (he : tg_f m.2.2.2.2.2 pc = some (.invokespecial idx, nx, f, y, v, cs)) (hC : tg_C G lv' m' mc' ms' (.ref b :: As) w Q') (hy : m'.1 = y) (hst : st = (.ref b :: As).reverse ++ rest) (hs : (Nat.beq (tg_gd f 0) 3 && Nat.beq As.length (tg_gd f 1) && Nat.blt lv' lv && Nat.ble (kc + mc') mc && Nat.ble (ks + ms') ms && Nat.ble ((rest.map fun v => v.category).sum) 8) = true) (ho : tg_lk w b = some (.inl o)) (hoc : o.1 < 12) 
    (k : ∀ r w', Q' r w' → tg_V G lv m (kc + mc') (ks + ms') mc ms Q nx L (r.toList ++ rest) w') : tg_V G lv m kc ks mc ms Q pc L st w := by
  subst hst
  intro p l en R s mi args below meth c H locs ls C hS hR hl
  obtain ⟨hok, hx, hb, hmx, hr, hlk, hnm, hown, hts, hfix, hbase, hroom⟩ := id C
  obtain ⟨hd, hn, hI⟩ := tg_dec hok he
  obtain ⟨hd1, hn1⟩ := tg_len1 hd hn rfl
  subst hn1
  obtain ⟨hok', hM⟩ := hC
  subst hy
  simp only [Bool.and_eq_true] at hs
  obtain ⟨⟨⟨⟨⟨h0, h1⟩, h2⟩, h3⟩, h4⟩, h5⟩ := hs
  have h0 := Nat.eq_of_beq_eq_true h0
  have h1 := Nat.eq_of_beq_eq_true h1
  have h2 : lv' + 1 ≤ lv := by simp only [Nat.blt_eq] at h2; exact h2
  have h3 := Nat.le_of_ble_eq_true h3
  have h4 := Nat.le_of_ble_eq_true h4
  have h5 := Nat.le_of_ble_eq_true h5
  have hmx' := tg_ok_mx (tg_okM_ok hok')
  have hcat : ((rest.map (tg_v G)).map fun v => v.category).sum ≤ 8 := by
    rw [List.map_map]
    have : ((fun v : Value => v.category) ∘ tg_v G) = fun v : Value => v.category := by funext v; exact tg_vcat G v
    rw [this]; exact h5
  have hRm : (tg_rm lv' mc' ms').frames + 1 ≤ R.frames ∧ 8 + (m'.2.2.1 + 11) + (tg_rm lv' mc' ms').locals ≤ R.locals := ⟨Nat.le_trans h2 hroom.1, by
    show 8 + (m'.2.2.1 + 11) + 40 * lv' ≤ R.locals
    have := hroom.2.1
    omega⟩
  have hf : kc + mc' ≤ R.cells ∧ ks + ms' ≤ R.slots := ⟨Nat.le_trans h3 hroom.2.2.1, Nat.le_trans h4 hroom.2.2.2⟩
  simp only [tg_okI, tg_okc, h0, Bool.and_eq_true, decide_eq_true_eq] at hI
  obtain ⟨⟨⟨⟨⟨⟨⟨-, har⟩, hnm2⟩, w1⟩, w2⟩, w3⟩, w4⟩, w5⟩ := hI
  have har := of_decide_eq_true har
  have hstk : ((.ref b :: As).reverse ++ rest).map (tg_v G) = (As.map (tg_v G)).reverse ++ .ref (tg_ad G b) :: rest.map (tg_v G) := by
    simp [List.map_reverse, tg_v]
  rw [hstk]
  have hPU : ∀ U : State, U.heap = H → s.WarmedH U.vm → tg_P G (.ref b :: As) w (Value.ref (tg_ad G b) :: As.map (tg_v G)).toArray U := fun U hU hW => ⟨rfl, tg_fix_warm hbase hS hU hW hfix, by rw [hU]; exact Nat.le_trans hbase hS.1, by rw [hU]; exact hR⟩
  have hco := tg_clsok o.1 hoc
  have hcls : ∃ cellB : Cell, H[tg_ad G b]? = some cellB ∧ cellB.vm.isStatics = false ∧ s.vm.findClass (tg_cls o.1).1 = some cellB.cls := va_recv hfix.1 hR.1 hco (tg_lk_ws (G := G) ho)
  refine tg_after hS (va_runSU (C := (tg_cls o.1).1) (As := As.map (tg_v G)) (rest := rest.map (tg_v G)) (g := F0 mi pc ls _) (hfix.1.1 o.1 _ hco).2 ⟨hx, hb, hmx, hown, hts⟩ (hM l) (va_cwSU (As.map (tg_v G)).length hts (tg_good (ws := [.methodLink m.1.cls idx m'.1, .sameMethod m'.1.cls m'.1.cls m'.1.name m'.1.desc, .superclass m.1.cls m'.1.cls, .instanceMethod m'.1, .initialized m'.1.cls]) hok' ?_) rfl rfl rfl ⟨hnm2, by rw [List.length_map, h1]; exact har⟩ hRm) ⟨tg_blind G _ w, hcls, hPU⟩ rfl rfl (by exact hl.1) rfl (lv_room hcat) hd1 hf) (fun r w' H1 locs1 hQ' hS1 hR1 => k r w' hQ' p l en R s mi args below meth c H1 locs1 ls C hS1 hR1 hl)
  intro w' hw'
  simp only [List.mem_cons, List.not_mem_nil, or_false] at hw'
  rcases hw' with rfl | rfl | rfl | rfl | rfl
  · exact tg_is_mem w1
  · exact tg_is_mem w5
  · exact tg_is_mem w3
  · exact tg_is_mem w2
  · exact tg_is_mem w4
def tg_okO (own : String) (idx : Nat) (x y : MethodName) (g : List Nat) : Bool :=
  decide (x.cls ≠ "java/lang/invoke/MethodHandle" ∧ x.cls ≠ "java/lang/invoke/VarHandle" ∧ y.name = x.name ∧ y.desc = x.desc) && tg_is (tg_gd g 0) (tg_gd g 1) (.sameMethod x.cls x.cls x.name x.desc) && tg_is (tg_gd g 2) (tg_gd g 3) (.instanceMethod x) && tg_is (tg_gd g 4) (tg_gd g 5) (.selects y.cls x y) && tg_is (tg_gd g 6) (tg_gd g 7) (.instanceMethod y) && tg_is (tg_gd g 8) (tg_gd g 9) (.initialized y.cls)
theorem tg_call5 {idx : Nat} {nx : Nat} {f : List Nat} {y : MethodName} {v : Value} {cs : List (Int32 × Nat)} {lv' mc' ms' : Nat} {m' : tg_M} {As rest st : List Value} {Q' : Option Value → tg_W → Prop} {b : Nat} {o : Nat × List Value} 
    (he : tg_f m.2.2.2.2.2 pc = some (.invokevirtual idx, nx, f, y, v, cs)) (hC : tg_C G lv' m' mc' ms' (.ref b :: As) w Q') (hst : st = (.ref b :: As).reverse ++ rest) (hs : (Nat.beq (tg_gd f 0) 5 && Nat.beq As.length (tg_gd f 1) && Nat.blt lv' lv && Nat.ble (kc + mc') mc && Nat.ble (ks + ms') ms && Nat.ble ((rest.map fun v => v.category).sum) 8) = true) (ho : tg_lk w b = some (.inl o)) (hoc : ((vwCl[o.1]?).map fun q => q.1) = some m'.1.cls) {m0 : tg_M} (hok0 : tg_okM m0 = true) (hy0 : m0.1 = y) {g : List Nat} (hO : tg_okO m.1.cls idx y m'.1 g = true) 
    (k : ∀ r w', Q' r w' → tg_V G lv m (kc + mc') (ks + ms') mc ms Q nx L (r.toList ++ rest) w') : tg_V G lv m kc ks mc ms Q pc L st w := by
  subst hst
  intro p l en R s mi args below meth c H locs ls C hS hR hl
  obtain ⟨hok, hx, hb, hmx, hr, hlk, hnm, hown, hts, hfix, hbase, hroom⟩ := id C
  obtain ⟨hd, hn, hI⟩ := tg_dec hok he
  obtain ⟨hd1, hn1⟩ := tg_len1 hd hn rfl
  subst hn1
  obtain ⟨hok', hM⟩ := hC
  simp only [Bool.and_eq_true] at hs
  obtain ⟨⟨⟨⟨⟨h0, h1⟩, h2⟩, h3⟩, h4⟩, h5⟩ := hs
  have h0 := Nat.eq_of_beq_eq_true h0
  have h1 := Nat.eq_of_beq_eq_true h1
  have h2 : lv' + 1 ≤ lv := by simp only [Nat.blt_eq] at h2; exact h2
  have h3 := Nat.le_of_ble_eq_true h3
  have h4 := Nat.le_of_ble_eq_true h4
  have h5 := Nat.le_of_ble_eq_true h5
  have hmx' := tg_ok_mx (tg_okM_ok hok')
  have hcat : ((rest.map (tg_v G)).map fun v => v.category).sum ≤ 8 := by
    rw [List.map_map]
    have : ((fun v : Value => v.category) ∘ tg_v G) = fun v : Value => v.category := by funext v; exact tg_vcat G v
    rw [this]; exact h5
  have hRm : (tg_rm lv' mc' ms').frames + 1 ≤ R.frames ∧ 8 + (m'.2.2.1 + 11) + (tg_rm lv' mc' ms').locals ≤ R.locals := ⟨Nat.le_trans h2 hroom.1, by
    show 8 + (m'.2.2.1 + 11) + 40 * lv' ≤ R.locals
    have := hroom.2.1
    omega⟩
  have hf : kc + mc' ≤ R.cells ∧ ks + ms' ≤ R.slots := ⟨Nat.le_trans h3 hroom.2.2.1, Nat.le_trans h4 hroom.2.2.2⟩
  simp only [tg_okI, tg_okc, h0, Bool.and_eq_true, decide_eq_true_eq] at hI
  obtain ⟨⟨-, har⟩, w1⟩ := hI
  have har := of_decide_eq_true har
  simp only [tg_okO, Bool.and_eq_true, decide_eq_true_eq] at hO
  obtain ⟨⟨⟨⟨⟨⟨hMH1, hMH2, hyn, hyd⟩, w2⟩, w3⟩, w4⟩, w5⟩, w6⟩ := hO
  have hstk : ((.ref b :: As).reverse ++ rest).map (tg_v G) = (As.map (tg_v G)).reverse ++ .ref (tg_ad G b) :: rest.map (tg_v G) := by
    simp [List.map_reverse, tg_v]
  rw [hstk]
  have hPU : ∀ U : State, U.heap = H → s.WarmedH U.vm → tg_P G (.ref b :: As) w (Value.ref (tg_ad G b) :: As.map (tg_v G)).toArray U := fun U hU hW => ⟨rfl, tg_fix_warm hbase hS hU hW hfix, by rw [hU]; exact Nat.le_trans hbase hS.1, by rw [hU]; exact hR⟩
  have hcls : ∃ cellB : Cell, H[tg_ad G b]? = some cellB ∧ cellB.vm.isStatics = false ∧ s.vm.findClass m'.1.cls = some cellB.cls := by
    obtain ⟨q, hq1, hq2⟩ := Option.map_eq_some_iff.mp hoc
    have := va_recv hfix.1 hR.1 hq1 (tg_lk_ws (G := G) ho)
    rw [hq2] at this
    exact this
  refine tg_after hS (va_runU (C := m'.1.cls) (owner := y.cls) (As := As.map (tg_v G)) (rest := rest.map (tg_v G)) (g := F0 mi pc ls _) ⟨hx, hb, hmx, hown, hts⟩ (hM l) (va_cwO (b0 := m0.2.1) (m0 := m0.2.2.1) (r0 := m0.2.2.2.1) (As.map (tg_v G)).length hts (tg_good (ws := [.methodLink m.1.cls idx y, .sameMethod y.cls y.cls y.name y.desc, .instanceMethod ⟨y.cls, y.name, y.desc⟩, .selects m'.1.cls y m'.1, .instanceMethod m'.1, .initialized m'.1.cls]) hok' ?_) rfl rfl rfl (by have := tg_wdG (tg_ok_code hok0); rw [hy0] at this; exact this) ⟨hMH1, hMH2, by rw [List.length_map, h1]; exact har⟩ hRm) ⟨tg_blind G _ w, hcls, hPU⟩ rfl rfl (by exact hl.1) rfl (lv_room hcat) hd1 hf) (fun r w' H1 locs1 hQ' hS1 hR1 => k r w' hQ' p l en R s mi args below meth c H1 locs1 ls C hS1 hR1 hl)
  intro w' hw'
  simp only [List.mem_cons, List.not_mem_nil, or_false] at hw'
  rcases hw' with rfl | rfl | rfl | rfl | rfl | rfl
  · exact tg_is_mem w1
  · exact tg_is_mem w2
  · exact tg_is_mem w3
  · exact tg_is_mem w4
  · exact tg_is_mem w5
  · exact tg_is_mem w6
theorem tg_objI {idx : Nat} {nx : Nat} {f : List Nat} {y : MethodName} {v : Value} {cs : List (Int32 × Nat)} {b : Nat} {rest : List Value}
    (he : tg_f m.2.2.2.2.2 pc = some (.invokespecial idx, nx, f, y, v, cs)) (hs : (Nat.beq (tg_gd f 0) 6 && Nat.blt 0 lv && Nat.ble ((rest.map fun v => v.category).sum) 8) = true)
    (k : tg_V G lv m kc ks mc ms Q nx L rest w) : tg_V G lv m kc ks mc ms Q pc L (.ref b :: rest) w := by
  intro p l en R s mi args below meth c H locs ls C hS hR hl
  obtain ⟨hok, hx, hb, hmx, hr, hlk, hnm, hown, hts, hfix, hbase, hroom⟩ := id C
  obtain ⟨hd, hn, hI⟩ := tg_dec hok he
  obtain ⟨hd1, hn1⟩ := tg_len1 hd hn rfl
  subst hn1
  simp only [Bool.and_eq_true] at hs
  obtain ⟨⟨h0, h2⟩, h5⟩ := hs
  have h0 := Nat.eq_of_beq_eq_true h0
  have h2 : 0 + 1 ≤ lv := by simp only [Nat.blt_eq] at h2; exact h2
  have h5 := Nat.le_of_ble_eq_true h5
  simp only [tg_okI, tg_okc, h0, Bool.and_eq_true, decide_eq_true_eq] at hI
  obtain ⟨⟨⟨⟨-, rfl⟩, w1⟩, w2⟩, w3⟩ := hI
  have hcat : ((rest.map (tg_v G)).map fun v => v.category).sum ≤ 8 := by
    rw [List.map_map]
    have : ((fun v : Value => v.category) ∘ tg_v G) = fun v : Value => v.category := by funext v; exact tg_vcat G v
    rw [this]; exact h5
  refine W.objInit (g := F0 mi pc ls _) hx hb hown (hts _ (tg_wdG (tg_is_mem w1))) (hts _ (tg_wdG (tg_is_mem w2))) (hts _ (tg_wdG (tg_is_mem w3))) rfl (by rw [hmx]; exact hl.1) rfl hd1 (by have := hroom.1; omega) (by
    have h9 := lv_room (m := mi) (pc := pc) (ls := ls) (rest := []) hcat
    have := hroom.2.1
    show 2 * 0 + _ + 12 ≤ _
    omega) ?_
  exact k p l en R s mi args below meth c H locs ls C hS hR hl
end TGC
theorem tg_mabs {G : tg_G} {lv : Nat} {m : tg_M} {kc ks mc ms : Nat} {Q : Option Value → tg_W → Prop} {pc : Nat} {L : List (Nat × Value)} {w : tg_W} {idx : Nat} {nx : Nat} {f : List Nat} {y : MethodName} {v : Value} {cs : List (Int32 × Nat)} {rest : List Value} {x : Int32}
    (he : tg_f m.2.2.2.2.2 pc = some (.invokestatic idx, nx, f, y, v, cs)) (hy : y = Lib.Math.abs.name) (hcode : Jvm.Cond.code Lib.Math.abs.name Lib.Math.abs.code 1 (some .int) ∈ tg_GW) (hs : (Nat.beq (tg_gd f 0) 1 && Nat.blt 0 lv && Nat.ble kc mc && Nat.ble ks ms && Nat.ble ((rest.map fun v => v.category).sum) 8) = true)
    (k : tg_V G lv m kc ks mc ms Q nx L (.int (if 0 ≤ x then x else 0 - x) :: rest) w) : tg_V G lv m kc ks mc ms Q pc L (.int x :: rest) w := by
  intro p l en R s mi args below meth c H locs ls C hS hR hl
  obtain ⟨hok, hx, hb, hmx, hr, hlk, hnm, hown, hts, hfix, hbase, hroom⟩ := id C
  obtain ⟨hd, hn, hI⟩ := tg_dec hok he
  obtain ⟨hd1, hn1⟩ := tg_len1 hd hn rfl
  subst hn1
  simp only [Bool.and_eq_true] at hs
  obtain ⟨⟨⟨⟨h0, h2⟩, h3⟩, h4⟩, h5⟩ := hs
  have h0 := Nat.eq_of_beq_eq_true h0
  have h2 : 0 + 1 ≤ lv := by simp only [Nat.blt_eq] at h2; exact h2
  have h3 := Nat.le_of_ble_eq_true h3
  have h4 := Nat.le_of_ble_eq_true h4
  have h5 := Nat.le_of_ble_eq_true h5
  simp only [tg_okI, tg_okc, h0, Bool.and_eq_true, decide_eq_true_eq] at hI
  obtain ⟨⟨⟨⟨⟨-, hMH⟩, har⟩, w1⟩, w2⟩, w4⟩ := hI
  subst hy
  have hcat : ((rest.map (tg_v G)).map fun v => v.category).sum ≤ 8 := by
    rw [List.map_map]
    have : ((fun v : Value => v.category) ∘ tg_v G) = fun v : Value => v.category := by funext v; exact tg_vcat G v
    rw [this]; exact h5
  refine va_mabs hx hb (hmx.trans hl.1.symm) hown (hts _ (tg_wdG (tg_is_mem w1))) (hts _ (tg_wdG (tg_is_mem w2))) (hts _ (tg_wdG (tg_is_mem w4))) (hts _ hcode) (by have := hroom.1; omega) (by have := hroom.2.1; omega) (Nat.le_trans h3 hroom.2.2.1) (Nat.le_trans h4 hroom.2.2.2) hd1 ?_
  exact k p l en R s mi args below meth c H locs ls C hS hR hl
