/-! the straight steps hold of the machine -/
theorem tg_lays : ∀ ci, ci < 12 → ∀ w ∈ u_ws (tg_cls ci).1 (tg_cls ci).2.1 (tg_cls ci).2.2, w ∈ tg_GW := by
  have h : ∀ ci, ci < 12 → (u_ws (tg_cls ci).1 (tg_cls ci).2.1 (tg_cls ci).2.2).all (fun w => decide (w ∈ lw_tbl) && goodWord w) = true := by decide +kernel
  intro ci hc w hw
  have h1 := List.all_eq_true.mp (h ci hc) w hw
  simp only [Bool.and_eq_true, decide_eq_true_eq] at h1
  exact List.mem_filter.mpr h1
def tg_ty (ci : Nat) : Nat → FieldType := fun k => (parseFieldDescriptor ((tg_cls ci).2.1 k).2.2.1).getD .int
theorem tg_tyok : ∀ ci, ci < 12 → ∀ k, k < (tg_cls ci).2.2 → parseFieldDescriptor ((tg_cls ci).2.1 k).2.2.1 = some (tg_ty ci k) := by decide +kernel
theorem tg_nm : ∀ ci, ci < 12 → ∀ a, a < (tg_cls ci).2.2 → ∀ b, b < (tg_cls ci).2.2 → a ≠ b → ((tg_cls ci).2.1 a).2.1 ≠ ((tg_cls ci).2.1 b).2.1 := by decide +kernel
theorem tg_clsok : ∀ ci, ci < 12 → vwCl[ci]? = some (tg_cls ci) := by
  intro ci hc
  unfold tg_cls
  have : ci < vwCl.length := hc
  rw [List.getElem?_eq_getElem this]; rfl
theorem tg_wdG {w : Jvm.Cond} (h : w ∈ tg_GW) : w ∈ tg_GW := h
theorem tg_some {α β : Type} {a b : α} {c d : β} (h : some (a, c) = some (b, d)) : a = b ∧ c = d := by cases h; exact ⟨rfl, rfl⟩
theorem tg_len1 {b : ByteArray} {pc nx : Nat} {ins : Instr} {n : Nat} (hd : decode b pc = .ok (ins, nx - pc)) (hn : tg_sw ins = true ∨ nx = pc + n) (hs : tg_sw ins = false) : decode b pc = .ok (ins, n) ∧ nx = pc + n := by
  rcases hn with q | q
  · rw [hs] at q; cases q
  · subst q; rw [Nat.add_sub_cancel_left] at hd; exact ⟨hd, rfl⟩
theorem tg_map2 {G : tg_G} {ls : Array Slot} {n : Nat} {L : List (Nat × Value)} (h : lv_has ls n (tg_ml G L)) {i : Nat} {u : Value} (hg : tg_get L i = some u) : ∃ k : Nat, (tg_ml G L)[k]? = some (i, tg_v G u) :=
  List.getElem?_of_mem (List.mem_map.mpr ⟨(i, u), tg_get_mem hg, rfl⟩)

theorem tg_rem (x y : Int32) : x - x / y * y = x % y := by
  apply Int32.toInt_inj.mp
  rw [Int32.toInt_sub, Int32.toInt_mul, Int32.toInt_div]
  rw [Int.bmod_mul_bmod, Int.sub_bmod_bmod]
  have h : x.toInt - x.toInt.tdiv y.toInt * y.toInt = (x % y).toInt := by
    rw [Int32.toInt_mod, Int.tmod_def, Int.mul_comm]
  rw [h]
  exact Int32.toInt_bmod_size _
theorem tg_lrem (x y : Int64) : x - x / y * y = x % y := by
  apply Int64.toInt_inj.mp
  rw [Int64.toInt_sub, Int64.toInt_mul, Int64.toInt_div]
  rw [Int.bmod_mul_bmod, Int.sub_bmod_bmod]
  have h : x.toInt - x.toInt.tdiv y.toInt * y.toInt = (x % y).toInt := by
    rw [Int64.toInt_mod, Int.tmod_def, Int.mul_comm]
  rw [h]
  exact Int64.toInt_bmod_size _
theorem tg_R_up {G : tg_G} {w : tg_W} {a : Nat} {c0 c : tg_Cl} {H H1 : Heap} (hR : tg_R G w H) (h : tg_lk w a = some c0) (hP : va_P G.2.2.2.2.2.1 vwCl ((tg_ws G w).set (tg_pc w a) (tg_ad G a, tg_c G c)) H1) (hz : H1.size = H.size) : tg_R G (tg_up w a c) H1 := by
  obtain ⟨h1, h2⟩ := tg_up_len w a c
  obtain ⟨-, r2, r3, r4, r5⟩ := hR
  refine ⟨by rw [tg_up_ws h]; exact hP, by rw [hz, r2, h1, h2], by rw [h1]; exact r3, by rw [h2]; exact r4, ?_⟩
  rcases r5 with q | q
  · exact Or.inl (List.eq_nil_of_length_eq_zero (by rw [h2, q]; rfl))
  · exact Or.inr (by rw [h1]; exact q)
section TGP
variable {p : Program} {l : Launch} {e : Env} {R : Room} {s : State} {mi : MethodId} {args : Array Value} {below : List Frame} {meth : Method} {c : Code} {H H0 : Heap} {locs : List Loc} {cells slots : Nat} {Qf : State → Prop}
variable {cc : ByteArray} {pc : Nat} {ls : Array Slot} {rest : List Value} {G : tg_G} {w : tg_W} {a : Nat} {tys : List (ClassId × FieldType)}
theorem tg_obj (o : Nat × List Value) (k : Nat) (u : Value) (ci : Nat) (he : ci = o.1) : tg_c G (.inl (ci, tg_setn o.2 k u)) = .inr (o.1, (o.2.map (tg_v G)).set k (tg_v G u)) := by
  subst he
  show Sum.inr (o.1, (tg_setn o.2 k u).map (tg_v G)) = _
  rw [tg_setn_eq, List.map_set]
theorem tg_wput (hexec : p.tables.exec = Jvm.exec) (hb : c.code = cc) {own : String} {index : Nat} (hts : ∀ w ∈ tg_GW, w.before args s = true) (hown : s.vm.findClass own = some mi.cls) (hK : va_K G.2.2.2.2.2.1 vwCl tys s) (hR : tg_R G w H) (hS0 : va_S (fun q => G.1 ≤ q) H0 H locs) {o : Nat × List Value} (ho : tg_lk w a = some (.inl o)) (hci : o.1 < 12) (k : Nat) (hk : k < (tg_cls o.1).2.2) (hlink : (Jvm.Cond.fieldLink own index ((tg_cls o.1).2.1 k).1 ((tg_cls o.1).2.1 k).2.1 ((tg_cls o.1).2.1 k).2.2.1).before args s = true) (hfin : ((tg_cls o.1).2.1 k).2.2.2 = false) {ty : FieldType} {u : Value} (hd : parseFieldDescriptor ((tg_cls o.1).2.1 k).2.2.1 = some ty) (hn : narrow ty (tg_v G u) = tg_v G u) (hfit : fits ty (tg_v G u) = true) (hl : k < o.2.length)
    (hdg : decode cc pc = .ok (.putfield index, 3)) (kk : ∀ (H1 : Heap) (locs1 : List Loc), va_S (fun q => G.1 ≤ q) H0 H1 locs1 → tg_R G (tg_up w a (.inl (o.1, tg_setn o.2 k u))) H1 → W p l e R s mi args below meth c H1 locs1 cells slots Qf (F0 mi (pc + 3) ls rest)) : W p l e R s mi args below meth c H locs cells slots Qf (F0 mi pc ls (tg_v G u :: .ref (tg_ad G a) :: rest)) := by
  have hin : ∀ w ∈ u_ws (tg_cls o.1).1 (tg_cls o.1).2.1 (tg_cls o.1).2.2, w ∈ tg_GW := fun w hw => tg_wdG (tg_lays o.1 hci w hw)
  have hc := tg_clsok o.1 hci
  have he := tg_lk_ws (G := G) ho
  have hD : va_D (fun q => G.1 ≤ q) (tg_ws G w) := tg_D hR.2.2.1 hR.2.2.2.1
  have hap := va_apart (own := own) hts hin (tg_ty o.1) (tg_tyok o.1 hci) (tg_nm o.1 hci) hK hc
  obtain ⟨r, h1, cell, q1, q2, q3, q4⟩ := hR.1 _ _ he
  have hr : r = tg_cls o.1 := Option.some.inj (h1.symm.trans hc)
  subst hr
  obtain ⟨hS, hfc, kC, hkC, hkind⟩ := hK.1 o.1 _ hc
  obtain ⟨cf, kf, fi, f, hi, hsl⟩ := hS k hk
  have hlay := hts _ (hin _ (u_in_lay hk))
  unfold u_lay at hlay
  rw [if_neg (by rw [hfin]; decide)] at hlay
  have hst := (u_facts hfc hkC (u_lays hts hin hk) hi).1
  have h6 := u_store hfc hkC hkind hlay hi hd hn hfit
  refine W.putK hexec hb (f := f) ⟨hown, hlink, ⟨_, _, _, hi⟩, hst⟩ (by rw [q2]; exact h6) q1 q3 (by rw [hsl]; exact k2_hasslot (q4 k hk)) rfl rfl hdg fun H' e1 e2 e3 => ?_
  rw [hsl] at e1 ⊢
  refine kk H' _ (hS0.put e2 e3 (hD.2 _ _ he)) (tg_R_up hR ho ?_ e2)
  rw [tg_obj o k u o.1 rfl]
  exact hR.1.set hD he ⟨_, hc, t_OB.to (V := updV (vp_V (o.2.map (tg_v G))) k (tg_v G u)) ⟨_, e1, q2, q3, t_set q4 hap hk (tg_v G u)⟩ (fun j _ => vp_updV_set (by rw [List.length_map]; exact hl) (tg_v G u) j)⟩ e3
theorem tg_wputF (hexec : p.tables.exec = Jvm.exec) (hb : c.code = cc) {own : String} {index : Nat} (hts : ∀ w ∈ tg_GW, w.before args s = true) (hown : s.vm.findClass own = some mi.cls) (hK : va_K G.2.2.2.2.2.1 vwCl tys s) (hR : tg_R G w H) (hS0 : va_S (fun q => G.1 ≤ q) H0 H locs) {o : Nat × List Value} (ho : tg_lk w a = some (.inl o)) (hci : o.1 < 12) (k : Nat) (hk : k < (tg_cls o.1).2.2) (hlink : (Jvm.Cond.fieldLink own index ((tg_cls o.1).2.1 k).1 ((tg_cls o.1).2.1 k).2.1 ((tg_cls o.1).2.1 k).2.2.1).before args s = true) (hfin : ((tg_cls o.1).2.1 k).2.2.2 = true) (hin2 : meth.name = "<init>") (hdecl : ((tg_cls o.1).2.1 k).1 = own) {ty : FieldType} {u : Value} (hd : parseFieldDescriptor ((tg_cls o.1).2.1 k).2.2.1 = some ty) (hn : narrow ty (tg_v G u) = tg_v G u) (hfit : fits ty (tg_v G u) = true) (hl : k < o.2.length)
    (hdg : decode cc pc = .ok (.putfield index, 3)) (kk : ∀ (H1 : Heap) (locs1 : List Loc), va_S (fun q => G.1 ≤ q) H0 H1 locs1 → tg_R G (tg_up w a (.inl (o.1, tg_setn o.2 k u))) H1 → W p l e R s mi args below meth c H1 locs1 cells slots Qf (F0 mi (pc + 3) ls rest)) : W p l e R s mi args below meth c H locs cells slots Qf (F0 mi pc ls (tg_v G u :: .ref (tg_ad G a) :: rest)) := by
  have hin : ∀ w ∈ u_ws (tg_cls o.1).1 (tg_cls o.1).2.1 (tg_cls o.1).2.2, w ∈ tg_GW := fun w hw => tg_wdG (tg_lays o.1 hci w hw)
  have hc := tg_clsok o.1 hci
  have he := tg_lk_ws (G := G) ho
  have hD : va_D (fun q => G.1 ≤ q) (tg_ws G w) := tg_D hR.2.2.1 hR.2.2.2.1
  have hap := va_apart (own := own) hts hin (tg_ty o.1) (tg_tyok o.1 hci) (tg_nm o.1 hci) hK hc
  obtain ⟨r, h1, cell, q1, q2, q3, q4⟩ := hR.1 _ _ he
  have hr : r = tg_cls o.1 := Option.some.inj (h1.symm.trans hc)
  subst hr
  obtain ⟨hS, hfc, kC, hkC, hkind⟩ := hK.1 o.1 _ hc
  obtain ⟨cf, kf, fi, f, hi, hsl⟩ := hS k hk
  have hlay := hts _ (hin _ (u_in_lay hk))
  unfold u_lay at hlay
  rw [if_pos hfin] at hlay
  have hst := (u_facts hfc hkC (u_lays hts hin hk) hi).1
  have hcf : mi.cls = cf := by
    obtain ⟨_, _, c', _, _, _, -, -, hf', -, -, -, hown2, -⟩ := Cond.laysFinal_spec hlay
    have e1 : c' = cf := by have := hi.symm.trans hf'; simp at this; exact this.1.symm
    rw [hdecl] at hown2
    rw [← e1]; exact Option.some.inj (hown.symm.trans hown2)
  have h6 := u_fits hfc hkC hkind (Or.inr hlay) hi hd hn hfit
  refine W.putFinK hexec hb hown hlink hi hst hcf hin2 (by rw [q2]; exact h6) q1 q3 (by rw [hsl]; exact k2_hasslot (q4 k hk)) rfl rfl hdg fun H' e1 e2 e3 => ?_
  rw [hsl] at e1 ⊢
  refine kk H' _ (hS0.put e2 e3 (hD.2 _ _ he)) (tg_R_up hR ho ?_ e2)
  rw [tg_obj o k u o.1 rfl]
  exact hR.1.set hD he ⟨_, hc, t_OB.to (V := updV (vp_V (o.2.map (tg_v G))) k (tg_v G u)) ⟨_, e1, q2, q3, t_set q4 hap hk (tg_v G u)⟩ (fun j _ => vp_updV_set (by rw [List.length_map]; exact hl) (tg_v G u) j)⟩ e3
end TGP

set_option maxHeartbeats 4000000 in
set_option maxRecDepth 100000 in
theorem tg_step {G : tg_G} {lv : Nat} {m : tg_M} {kc ks mc ms : Nat} {Q : Option Value → tg_W → Prop} {pc : Nat} {L : List (Nat × Value)} {st : List Value} {w : tg_W} {ins : Instr} {nx : Nat} {f : List Nat} {y : MethodName} {v : Value} {cs : List (Int32 × Nat)} {pc' : Nat} {L' : List (Nat × Value)} {st' : List Value} {w' : tg_W}
    (he : tg_f m.2.2.2.2.2 pc = some (ins, nx, f, y, v, cs)) (h : tg_ex ins nx f v L st w = some (pc', L', st', w')) (k : tg_V G lv m kc ks mc ms Q pc' L' st' w') : tg_V G lv m kc ks mc ms Q pc L st w := by
  intro p l en R s mi args below meth c H locs ls C hS hR hl
  obtain ⟨hok, hx, hb, hmx, hr, hlk, hnm, hown, hts, hfix, hbase, hroom⟩ := id C
  obtain ⟨hd, hn, hI⟩ := tg_dec hok he
  have K := fun (ls' : Array Slot) (hl' : lv_has ls' m.2.2.1 (tg_ml G L')) => k p l en R s mi args below meth c H locs ls' C
  cases ins with
  | iconst n =>
    obtain ⟨hd1, hn1⟩ := tg_len1 hd hn rfl
    subst hn1
    cases h
    have hv := of_decide_eq_true hI
    subst hv
    exact lv_iconst hx hb hd1 rfl (K ls hl hS hR hl)
  | bipush n =>
    obtain ⟨hd1, hn1⟩ := tg_len1 hd hn rfl
    subst hn1
    cases h
    have hv := of_decide_eq_true hI
    subst hv
    exact lv_bipush hx hb hd1 rfl (K ls hl hS hR hl)
  | sipush n =>
    obtain ⟨hd1, hn1⟩ := tg_len1 hd hn rfl
    subst hn1
    cases h
    have hv := of_decide_eq_true hI
    subst hv
    exact lv_sipush hx hb hd1 rfl (K ls hl hS hR hl)
  | lconst n =>
    obtain ⟨hd1, hn1⟩ := tg_len1 hd hn rfl
    subst hn1
    cases h
    have hv := of_decide_eq_true hI
    subst hv
    exact lv_lconst hx hb hd1 rfl (K ls hl hS hR hl)
  | ldc idx =>
    obtain ⟨hd1, hn1⟩ := tg_len1 hd hn rfl
    subst hn1
    cases h
    cases v with
    | int x => exact lv_ldc hx hb hown (hts _ (tg_wdG (tg_is_mem hI))) hd1 (K ls hl hS hR hl)
    | _ => cases hI
  | ldc_w idx =>
    obtain ⟨hd1, hn1⟩ := tg_len1 hd hn rfl
    subst hn1
    cases h
    cases v with
    | int x => exact lv_ldcw hx hb hown (hts _ (tg_wdG (tg_is_mem hI))) hd1 (K ls hl hS hR hl)
    | _ => cases hI
  | ldc2_w idx =>
    obtain ⟨hd1, hn1⟩ := tg_len1 hd hn rfl
    subst hn1
    cases h
    cases v with
    | long x => exact lv_ldc2 hx hb hown (hts _ (tg_wdG (tg_is_mem hI))) hd1 (K ls hl hS hR hl)
    | _ => cases hI
  | iload_n j =>
    obtain ⟨hd1, hn1⟩ := tg_len1 hd hn rfl
    subst hn1
    have hk := of_decide_eq_true hI
    dsimp only [tg_ex] at h
    cases hg : tg_get L (tg_gd f 0) with
    | none => rw [hg] at h; cases h
    | some u =>
      rw [hg] at h
      cases u with
      | int x =>
        cases h
        exact lv_iload_n hx hb hd1 hk (tg_get_ls hl hg) (K ls hl hS hR hl)
      | _ => cases h
  | aload_n j =>
    obtain ⟨hd1, hn1⟩ := tg_len1 hd hn rfl
    subst hn1
    have hk := of_decide_eq_true hI
    dsimp only [tg_ex] at h
    cases hg : tg_get L (tg_gd f 0) with
    | none => rw [hg] at h; cases h
    | some u =>
      rw [hg] at h
      cases u with
      | ref x =>
        cases h
        exact lv_aload_n hx hb hd1 hk (tg_get_ls hl hg) (K ls hl hS hR hl)
      | _ => cases h
  | lload_n j =>
    obtain ⟨hd1, hn1⟩ := tg_len1 hd hn rfl
    subst hn1
    have hk := of_decide_eq_true hI
    dsimp only [tg_ex] at h
    cases hg : tg_get L (tg_gd f 0) with
    | none => rw [hg] at h; cases h
    | some u =>
      rw [hg] at h
      cases u with
      | long x =>
        cases h
        exact lv_lload_n hx hb hd1 hk (tg_get_ls hl hg) (K ls hl hS hR hl)
      | _ => cases h
  | iload j =>
    obtain ⟨hd1, hn1⟩ := tg_len1 hd hn rfl
    subst hn1
    have hk := of_decide_eq_true hI
    dsimp only [tg_ex] at h
    cases hg : tg_get L (tg_gd f 0) with
    | none => rw [hg] at h; cases h
    | some u =>
      rw [hg] at h
      cases u with
      | int x =>
        cases h
        subst hk
        exact lv_iload hx hb hd1 (tg_get_ls hl hg) (K ls hl hS hR hl)
      | _ => cases h
  | aload j =>
    obtain ⟨hd1, hn1⟩ := tg_len1 hd hn rfl
    subst hn1
    have hk := of_decide_eq_true hI
    dsimp only [tg_ex] at h
    cases hg : tg_get L (tg_gd f 0) with
    | none => rw [hg] at h; cases h
    | some u =>
      rw [hg] at h
      cases u with
      | ref x =>
        cases h
        subst hk
        exact lv_aload hx hb hd1 (tg_get_ls hl hg) (K ls hl hS hR hl)
      | _ => cases h
  | lload j =>
    obtain ⟨hd1, hn1⟩ := tg_len1 hd hn rfl
    subst hn1
    have hk := of_decide_eq_true hI
    dsimp only [tg_ex] at h
    cases hg : tg_get L (tg_gd f 0) with
    | none => rw [hg] at h; cases h
    | some u =>
      rw [hg] at h
      cases u with
      | long x =>
        cases h
        subst hk
        exact lv_lload hx hb hd1 (tg_get_ls hl hg) (K ls hl hS hR hl)
      | _ => cases h
  | istore_n j =>
    obtain ⟨hd1, hn1⟩ := tg_len1 hd hn rfl
    subst hn1
    have hk := of_decide_eq_true hI
    dsimp only [tg_ex] at h
    split at h
    · rename_i x r
      cases h
      exact lv_istore_n hx hb hd1 hk.1 hl hk.2 rfl (fun ls2 hl2 => K ls2 (tg_has_sub hl2 (tg_set_sub G L _ _)) hS hR (tg_has_sub hl2 (tg_set_sub G L _ _)))
    · cases h
  | astore_n j =>
    obtain ⟨hd1, hn1⟩ := tg_len1 hd hn rfl
    subst hn1
    have hk := of_decide_eq_true hI
    dsimp only [tg_ex] at h
    split at h
    · rename_i x r
      cases h
      exact lv_astore_n hx hb hd1 hk.1 hl hk.2 rfl (fun ls2 hl2 => K ls2 (tg_has_sub hl2 (tg_set_sub G L _ _)) hS hR (tg_has_sub hl2 (tg_set_sub G L _ _)))
    · cases h
  | istore j =>
    obtain ⟨hd1, hn1⟩ := tg_len1 hd hn rfl
    subst hn1
    have hk := of_decide_eq_true hI
    dsimp only [tg_ex] at h
    split at h
    · rename_i x r
      cases h
      obtain ⟨hk1, hk2⟩ := hk
      subst hk1
      exact lv_istore hx hb hd1 hl hk2 rfl (fun ls2 hl2 => K ls2 (tg_has_sub hl2 (tg_set_sub G L _ _)) hS hR (tg_has_sub hl2 (tg_set_sub G L _ _)))
    · cases h
  | astore j =>
    obtain ⟨hd1, hn1⟩ := tg_len1 hd hn rfl
    subst hn1
    have hk := of_decide_eq_true hI
    dsimp only [tg_ex] at h
    split at h
    · rename_i x r
      cases h
      obtain ⟨hk1, hk2⟩ := hk
      subst hk1
      exact lv_astore hx hb hd1 hl hk2 rfl (fun ls2 hl2 => K ls2 (tg_has_sub hl2 (tg_set_sub G L _ _)) hS hR (tg_has_sub hl2 (tg_set_sub G L _ _)))
    · cases h
  | lstore_n j =>
    obtain ⟨hd1, hn1⟩ := tg_len1 hd hn rfl
    subst hn1
    have hk := of_decide_eq_true hI
    dsimp only [tg_ex] at h
    split at h
    · rename_i x r
      cases h
      exact lv_lstore_n hx hb hd1 hk.1 hl hk.2 rfl (fun ls2 hl2 => K ls2 (tg_has_sub hl2 (tg_set2_sub G L _ _)) hS hR (tg_has_sub hl2 (tg_set2_sub G L _ _)))
    · cases h
  | lstore j =>
    obtain ⟨hd1, hn1⟩ := tg_len1 hd hn rfl
    subst hn1
    have hk := of_decide_eq_true hI
    dsimp only [tg_ex] at h
    split at h
    · rename_i x r
      cases h
      obtain ⟨hk1, hk2⟩ := hk
      subst hk1
      exact lv_lstore hx hb hd1 hl hk2 rfl (fun ls2 hl2 => K ls2 (tg_has_sub hl2 (tg_set2_sub G L _ _)) hS hR (tg_has_sub hl2 (tg_set2_sub G L _ _)))
    · cases h
  | iinc j n =>
    obtain ⟨hd1, hn1⟩ := tg_len1 hd hn rfl
    subst hn1
    obtain ⟨hk1, hk2, hk3⟩ := of_decide_eq_true hI
    subst hk1; subst hk3
    dsimp only [tg_ex] at h
    cases hg : tg_get L (tg_gd f 0) with
    | none => rw [hg] at h; cases h
    | some u =>
      rw [hg] at h
      cases u with
      | int x =>
        cases h
        obtain ⟨z, hz⟩ := tg_map2 hl hg
        exact lv_iinc hx hb hd1 hl hz rfl hk2 rfl (fun ls2 hl2 => K ls2 (tg_has_sub hl2 (tg_set_sub G L _ _)) hS hR (tg_has_sub hl2 (tg_set_sub G L _ _)))
      | _ => cases h
  | iadd =>
    obtain ⟨hd1, hn1⟩ := tg_len1 hd hn rfl
    subst hn1
    dsimp only [tg_ex] at h
    split at h
    · cases h
      exact lv_iadd hx hb hd1 (K ls hl hS hR hl)
    · cases h
  | isub =>
    obtain ⟨hd1, hn1⟩ := tg_len1 hd hn rfl
    subst hn1
    dsimp only [tg_ex] at h
    split at h
    · cases h
      exact lv_isub hx hb hd1 (K ls hl hS hR hl)
    · cases h
  | imul =>
    obtain ⟨hd1, hn1⟩ := tg_len1 hd hn rfl
    subst hn1
    dsimp only [tg_ex] at h
    split at h
    · cases h
      exact lv_imul hx hb hd1 (K ls hl hS hR hl)
    · cases h
  | iand =>
    obtain ⟨hd1, hn1⟩ := tg_len1 hd hn rfl
    subst hn1
    dsimp only [tg_ex] at h
    split at h
    · cases h
      exact lv_iand hx hb hd1 (K ls hl hS hR hl)
    · cases h
  | ior =>
    obtain ⟨hd1, hn1⟩ := tg_len1 hd hn rfl
    subst hn1
    dsimp only [tg_ex] at h
    split at h
    · cases h
      exact lv_ior hx hb hd1 (K ls hl hS hR hl)
    · cases h
  | ixor =>
    obtain ⟨hd1, hn1⟩ := tg_len1 hd hn rfl
    subst hn1
    dsimp only [tg_ex] at h
    split at h
    · cases h
      exact lv_ixor hx hb hd1 (K ls hl hS hR hl)
    · cases h
  | ishl =>
    obtain ⟨hd1, hn1⟩ := tg_len1 hd hn rfl
    subst hn1
    dsimp only [tg_ex] at h
    split at h
    · cases h
      exact lv_ishl hx hb hd1 (K ls hl hS hR hl)
    · cases h
  | ishr =>
    obtain ⟨hd1, hn1⟩ := tg_len1 hd hn rfl
    subst hn1
    dsimp only [tg_ex] at h
    split at h
    · cases h
      exact lv_ishr hx hb hd1 (K ls hl hS hR hl)
    · cases h
  | iushr =>
    obtain ⟨hd1, hn1⟩ := tg_len1 hd hn rfl
    subst hn1
    dsimp only [tg_ex] at h
    split at h
    · cases h
      exact lv_iushr hx hb hd1 rfl (K ls hl hS hR hl)
    · cases h
  | ladd =>
    obtain ⟨hd1, hn1⟩ := tg_len1 hd hn rfl
    subst hn1
    dsimp only [tg_ex] at h
    split at h
    · cases h
      exact lv_ladd hx hb hd1 (K ls hl hS hR hl)
    · cases h
  | lsub =>
    obtain ⟨hd1, hn1⟩ := tg_len1 hd hn rfl
    subst hn1
    dsimp only [tg_ex] at h
    split at h
    · cases h
      exact lv_lsub hx hb hd1 (K ls hl hS hR hl)
    · cases h
  | lmul =>
    obtain ⟨hd1, hn1⟩ := tg_len1 hd hn rfl
    subst hn1
    dsimp only [tg_ex] at h
    split at h
    · cases h
      exact lv_lmul hx hb hd1 (K ls hl hS hR hl)
    · cases h
  | lcmp =>
    obtain ⟨hd1, hn1⟩ := tg_len1 hd hn rfl
    subst hn1
    dsimp only [tg_ex] at h
    split at h
    · cases h
      exact W.lcmp hx hb hd1 (K ls hl hS hR hl)
    · cases h
  | ineg =>
    obtain ⟨hd1, hn1⟩ := tg_len1 hd hn rfl
    subst hn1
    dsimp only [tg_ex] at h
    split at h
    · cases h
      exact lv_ineg hx hb hd1 (K ls hl hS hR hl)
    · cases h
  | i2l =>
    obtain ⟨hd1, hn1⟩ := tg_len1 hd hn rfl
    subst hn1
    dsimp only [tg_ex] at h
    split at h
    · cases h
      exact lv_i2l hx hb hd1 rfl (K ls hl hS hR hl)
    · cases h
  | dup =>
    obtain ⟨hd1, hn1⟩ := tg_len1 hd hn rfl
    subst hn1
    dsimp only [tg_ex] at h
    split at h
    · cases h
      exact lv_dup hx hb hd1 rfl (K ls hl hS hR hl)
    · cases h
      exact lv_dup hx hb hd1 rfl (K ls hl hS hR hl)
    · cases h
  | dup2 =>
    obtain ⟨hd1, hn1⟩ := tg_len1 hd hn rfl
    subst hn1
    dsimp only [tg_ex] at h
    split at h
    · cases h
      exact lv_dup2_11 hx hb hd1 rfl rfl (K ls hl hS hR hl)
    · cases h
      exact lv_dup2_11 hx hb hd1 rfl rfl (K ls hl hS hR hl)
    · cases h
  | pop =>
    obtain ⟨hd1, hn1⟩ := tg_len1 hd hn rfl
    subst hn1
    dsimp only [tg_ex] at h
    split at h
    · cases h
      exact lv_pop hx hb hd1 rfl (K ls hl hS hR hl)
    · cases h
  | goto o =>
    obtain ⟨hd1, hn1⟩ := tg_len1 hd hn rfl
    subst hn1
    have hk := of_decide_eq_true hI
    cases h
    exact lv_goto hx hb hd1 hk (K ls hl hS hR hl)
  | getfield idx =>
    obtain ⟨hd1, hn1⟩ := tg_len1 hd hn rfl
    subst hn1
    simp only [tg_okI, Bool.and_eq_true, decide_eq_true_eq] at hI
    obtain ⟨⟨hci, hkN⟩, hw⟩ := hI
    dsimp only [tg_ex] at h
    split at h
    · rename_i a r
      split at h
      · rename_i o ho
        cases hb2 : Nat.beq o.1 (tg_gd f 0) with
        | false => rw [hb2] at h; cases h
        | true =>
          rw [hb2] at h
          simp only [cond_true] at h
          cases hu : tg_nth o.2 (tg_gd f 1) with
          | none => rw [hu] at h; cases h
          | some u =>
            rw [hu] at h
            cases h
            have e0 := Nat.eq_of_beq_eq_true hb2
            have hg := tg_lk_ws (G := G) ho
            rw [tg_nth_eq] at hu
            refine va_get (C := (tg_cls o.1).1) (T := (tg_cls o.1).2.1) (N := (tg_cls o.1).2.2) (fs := o.2.map (tg_v G)) (v := tg_v G u) hx hb hts (fun w hw => tg_wdG (tg_lays o.1 (by rw [e0]; exact hci) w hw)) hown hfix.1 hR.1 (tg_pc w a) hg (tg_clsok o.1 (by rw [e0]; exact hci)) (tg_gd f 1) (by rw [e0]; exact hkN) (by rw [e0]; exact hts _ (tg_wdG (tg_is_mem hw))) (fun x hx => hx) (by rw [List.getElem?_map, hu]; rfl) hd1 (K ls hl hS hR hl)
      · cases h
    · cases h
  | idiv =>
    obtain ⟨hd1, hn1⟩ := tg_len1 hd hn rfl
    subst hn1
    dsimp only [tg_ex] at h
    split at h
    · rename_i y x r
      cases hz : decide (y = 0) with
      | true => rw [hz] at h; cases h
      | false =>
        rw [hz] at h
        cases h
        exact lv_idiv hx hb hd1 (of_decide_eq_false hz) (K ls hl hS hR hl)
    · cases h
  | irem =>
    obtain ⟨hd1, hn1⟩ := tg_len1 hd hn rfl
    subst hn1
    dsimp only [tg_ex] at h
    split at h
    · rename_i y x r
      cases hz : decide (y = 0) with
      | true => rw [hz] at h; cases h
      | false =>
        rw [hz] at h
        cases h
        exact lv_irem hx hb hd1 (of_decide_eq_false hz) (by rw [tg_rem]; exact K ls hl hS hR hl)
    · cases h
  | arraylength =>
    obtain ⟨hd1, hn1⟩ := tg_len1 hd hn rfl
    subst hn1
    dsimp only [tg_ex] at h
    split at h
    · rename_i a r
      split at h
      · rename_i q hq
        cases h
        exact va_alen hx hb hfix.1 hR.1 (tg_pc w a) 0 (tg_lk_ws (G := G) hq) rfl rfl hd1 (K ls hl hS hR hl)
      · cases h
    · cases h
  | putfield idx =>
    obtain ⟨hd1, hn1⟩ := tg_len1 hd hn rfl
    subst hn1
    simp only [tg_okI, Bool.and_eq_true, decide_eq_true_eq] at hI
    obtain ⟨⟨⟨hci, hkN⟩, hw⟩, hfl⟩ := hI
    dsimp only [tg_ex] at h
    split at h
    · rename_i x a r
      split at h
      · rename_i o ho
        cases hb2 : (Nat.beq o.1 (tg_gd f 0) && Nat.blt (tg_gd f 1) o.2.length && Nat.beq (tg_gd f 4) 0) with
        | false => rw [hb2] at h; cases h
        | true =>
          rw [hb2] at h
          simp only [cond_true] at h
          cases h
          simp only [Bool.and_eq_true] at hb2
          have e0 := Nat.eq_of_beq_eq_true hb2.1.1
          have e4 := Nat.eq_of_beq_eq_true hb2.2
          rw [e4] at hfl
          have hfl := of_decide_eq_true hfl
          have hlen : tg_gd f 1 < o.2.length := by have := hb2.1.2; simp only [Nat.blt_eq] at this; exact this
          exact tg_wput (u := .int x) hx hb hts hown hfix.1 hR hS ho (by rw [e0]; exact hci) (tg_gd f 1) (by rw [e0]; exact hkN) (by rw [e0]; exact hts _ (tg_wdG (tg_is_mem hw))) (by rw [e0]; exact hfl.2) (by rw [e0]; exact hfl.1) rfl rfl hlen hd1 (fun H1 locs1 hS1 hR1 => k p l en R s mi args below meth c H1 locs1 ls C hS1 hR1 hl)
      · cases h
    · rename_i x a r
      split at h
      · rename_i o ho
        cases hb2 : (Nat.beq o.1 (tg_gd f 0) && Nat.blt (tg_gd f 1) o.2.length && Nat.beq (tg_gd f 4) 2) with
        | false => rw [hb2] at h; cases h
        | true =>
          rw [hb2] at h
          simp only [cond_true] at h
          cases h
          simp only [Bool.and_eq_true] at hb2
          have e0 := Nat.eq_of_beq_eq_true hb2.1.1
          have e4 := Nat.eq_of_beq_eq_true hb2.2
          rw [e4] at hfl
          simp only [Bool.and_eq_true, decide_eq_true_eq] at hfl
          obtain ⟨hty, hfin, hmn, hdecl⟩ := hfl
          have hlen : tg_gd f 1 < o.2.length := by have := hb2.1.2; simp only [Nat.blt_eq] at this; exact this
          obtain ⟨ty, hpar, hnar, hfit⟩ : ∃ ty, parseFieldDescriptor ((tg_cls (tg_gd f 0)).2.1 (tg_gd f 1)).2.2.1 = some ty ∧ narrow ty (.ref (tg_ad G x)) = .ref (tg_ad G x) ∧ fits ty (.ref (tg_ad G x)) = true := by
            split at hty
            · rename_i z hz; exact ⟨_, hz, rfl, rfl⟩
            · rename_i z hz; exact ⟨_, hz, rfl, rfl⟩
            · cases hty
          exact tg_wputF (u := .ref x) hx hb hts hown hfix.1 hR hS ho (by rw [e0]; exact hci) (tg_gd f 1) (by rw [e0]; exact hkN) (by rw [e0]; exact hts _ (tg_wdG (tg_is_mem hw))) (by rw [e0]; exact hfin) (hnm.trans hmn) (by rw [e0]; exact hdecl) (by rw [e0]; exact hpar) hnar hfit hlen hd1 (fun H1 locs1 hS1 hR1 => k p l en R s mi args below meth c H1 locs1 ls C hS1 hR1 hl)
      · cases h
    · cases h
  | _ => cases h
