/-! the straight steps hold of the machine -/
theorem tg_lays : ∀ ci, ci < 12 → ∀ w ∈ u_ws (tg_cls ci).1 (tg_cls ci).2.1 (tg_cls ci).2.2, w ∈ tg_GW := by
  have h : ∀ ci, ci < 12 → (u_ws (tg_cls ci).1 (tg_cls ci).2.1 (tg_cls ci).2.2).all (fun w => decide (w ∈ lw_tbl) && goodWord w) = true := by decide +kernel
  intro ci hc w hw
  have h1 := List.all_eq_true.mp (h ci hc) w hw
  simp only [Bool.and_eq_true, decide_eq_true_eq] at h1
  exact List.mem_filter.mpr h1
def tg_ty (ci : Nat) : Nat → FieldType := fun k => (parseFieldDescriptor ((tg_cls ci).2.1 k).2.2.1).getD .int
theorem tg_tyok : ∀ ci, ci < 12 → ∀ k, k < (tg_cls ci).2.2 → parseFieldDescriptor ((tg_cls ci).2.1 k).2.2.1 = some (tg_ty ci k) := by decide +kernel
theorem tg_nm : ∀ ci, ci < 12 → ∀ a, a < (tg_cls ci).2.2 → ∀ b, b < (tg_cls ci).2.2 → a ≠ b → ((tg_cls ci).2.1 a).2.1 ≠ ((tg_cls ci).2.1 b).2.1 := by decide +kernel
theorem tg_clsok : ∀ ci, ci < 12 → vwCl[ci]? = some (tg_cls ci) := by
  intro ci hc
  unfold tg_cls
  have : ci < vwCl.length := hc
  rw [List.getElem?_eq_getElem this]; rfl
theorem tg_wdG {m : tg_M} {w : Jvm.Cond} (h : w ∈ tg_GW) : w ∈ tg_wd m := List.mem_cons_of_mem _ h
theorem tg_some {α β : Type} {a b : α} {c d : β} (h : some (a, c) = some (b, d)) : a = b ∧ c = d := by cases h; exact ⟨rfl, rfl⟩
theorem tg_len1 {b : ByteArray} {pc nx : Nat} {ins : Instr} {n : Nat} (hd : decode b pc = .ok (ins, nx - pc)) (hn : tg_sw ins = true ∨ nx = pc + n) (hs : tg_sw ins = false) : decode b pc = .ok (ins, n) ∧ nx = pc + n := by
  rcases hn with q | q
  · rw [hs] at q; cases q
  · subst q; rw [Nat.add_sub_cancel_left] at hd; exact ⟨hd, rfl⟩
theorem tg_map2 {G : tg_G} {ls : Array Slot} {n : Nat} {L : List (Nat × Value)} (h : lv_has ls n (tg_ml G L)) {i : Nat} {u : Value} (hg : tg_get L i = some u) : ∃ k : Nat, (tg_ml G L)[k]? = some (i, tg_v G u) :=
  List.getElem?_of_mem (List.mem_map.mpr ⟨(i, u), tg_get_mem hg, rfl⟩)

set_option maxHeartbeats 4000000 in
set_option maxRecDepth 100000 in
theorem tg_step {G : tg_G} {lv : Nat} {m : tg_M} {kc ks mc ms : Nat} {Q : Option Value → tg_W → Prop} {pc : Nat} {L : List (Nat × Value)} {st : List Value} {w : tg_W} {ins : Instr} {nx : Nat} {f : List Nat} {y : MethodName} {v : Value} {cs : List (Int32 × Nat)} {pc' : Nat} {L' : List (Nat × Value)} {st' : List Value} {w' : tg_W}
    (he : tg_f m.2.2.2.2.2 pc = some (ins, nx, f, y, v, cs)) (h : tg_ex ins nx f v L st w = some (pc', L', st', w')) (k : tg_V G lv m kc ks mc ms Q pc' L' st' w') : tg_V G lv m kc ks mc ms Q pc L st w := by
  intro p l en R s mi args below meth c H locs ls C hS hR hl
  obtain ⟨hok, hx, hb, hmx, hr, hlk, hnm, hown, hts, hfix, hbase, hroom⟩ := id C
  obtain ⟨hd, hn, hI⟩ := tg_dec hok he
  have K := fun (ls' : Array Slot) (hl' : lv_has ls' m.2.2.1 (tg_ml G L')) => k p l en R s mi args below meth c H locs ls' C
  cases ins with
  | iconst n =>
    obtain ⟨hd1, hn1⟩ := tg_len1 hd hn rfl
    subst hn1
    cases h
    have hv := of_decide_eq_true hI
    subst hv
    exact lv_iconst hx hb hd1 rfl (K ls hl hS hR hl)
  | bipush n =>
    obtain ⟨hd1, hn1⟩ := tg_len1 hd hn rfl
    subst hn1
    cases h
    have hv := of_decide_eq_true hI
    subst hv
    exact lv_bipush hx hb hd1 rfl (K ls hl hS hR hl)
  | sipush n =>
    obtain ⟨hd1, hn1⟩ := tg_len1 hd hn rfl
    subst hn1
    cases h
    have hv := of_decide_eq_true hI
    subst hv
    exact lv_sipush hx hb hd1 rfl (K ls hl hS hR hl)
  | lconst n =>
    obtain ⟨hd1, hn1⟩ := tg_len1 hd hn rfl
    subst hn1
    cases h
    have hv := of_decide_eq_true hI
    subst hv
    exact lv_lconst hx hb hd1 rfl (K ls hl hS hR hl)
  | ldc idx =>
    obtain ⟨hd1, hn1⟩ := tg_len1 hd hn rfl
    subst hn1
    cases h
    cases v with
    | int x => exact lv_ldc hx hb hown (hts _ (tg_wdG (tg_is_mem hI))) hd1 (K ls hl hS hR hl)
    | _ => cases hI
  | ldc_w idx =>
    obtain ⟨hd1, hn1⟩ := tg_len1 hd hn rfl
    subst hn1
    cases h
    cases v with
    | int x => exact lv_ldcw hx hb hown (hts _ (tg_wdG (tg_is_mem hI))) hd1 (K ls hl hS hR hl)
    | _ => cases hI
  | ldc2_w idx =>
    obtain ⟨hd1, hn1⟩ := tg_len1 hd hn rfl
    subst hn1
    cases h
    cases v with
    | long x => exact lv_ldc2 hx hb hown (hts _ (tg_wdG (tg_is_mem hI))) hd1 (K ls hl hS hR hl)
    | _ => cases hI
  | iload_n j =>
    obtain ⟨hd1, hn1⟩ := tg_len1 hd hn rfl
    subst hn1
    have hk := of_decide_eq_true hI
    dsimp only [tg_ex] at h
    cases hg : tg_get L (tg_gd f 0) with
    | none => rw [hg] at h; cases h
    | some u =>
      rw [hg] at h
      cases u with
      | int x =>
        cases h
        exact lv_iload_n hx hb hd1 hk (tg_get_ls hl hg) (K ls hl hS hR hl)
      | _ => cases h
  | aload_n j =>
    obtain ⟨hd1, hn1⟩ := tg_len1 hd hn rfl
    subst hn1
    have hk := of_decide_eq_true hI
    dsimp only [tg_ex] at h
    cases hg : tg_get L (tg_gd f 0) with
    | none => rw [hg] at h; cases h
    | some u =>
      rw [hg] at h
      cases u with
      | ref x =>
        cases h
        exact lv_aload_n hx hb hd1 hk (tg_get_ls hl hg) (K ls hl hS hR hl)
      | _ => cases h
  | lload_n j =>
    obtain ⟨hd1, hn1⟩ := tg_len1 hd hn rfl
    subst hn1
    have hk := of_decide_eq_true hI
    dsimp only [tg_ex] at h
    cases hg : tg_get L (tg_gd f 0) with
    | none => rw [hg] at h; cases h
    | some u =>
      rw [hg] at h
      cases u with
      | long x =>
        cases h
        exact lv_lload_n hx hb hd1 hk (tg_get_ls hl hg) (K ls hl hS hR hl)
      | _ => cases h
  | iload j =>
    obtain ⟨hd1, hn1⟩ := tg_len1 hd hn rfl
    subst hn1
    have hk := of_decide_eq_true hI
    dsimp only [tg_ex] at h
    cases hg : tg_get L (tg_gd f 0) with
    | none => rw [hg] at h; cases h
    | some u =>
      rw [hg] at h
      cases u with
      | int x =>
        cases h
        subst hk
        exact lv_iload hx hb hd1 (tg_get_ls hl hg) (K ls hl hS hR hl)
      | _ => cases h
  | aload j =>
    obtain ⟨hd1, hn1⟩ := tg_len1 hd hn rfl
    subst hn1
    have hk := of_decide_eq_true hI
    dsimp only [tg_ex] at h
    cases hg : tg_get L (tg_gd f 0) with
    | none => rw [hg] at h; cases h
    | some u =>
      rw [hg] at h
      cases u with
      | ref x =>
        cases h
        subst hk
        exact lv_aload hx hb hd1 (tg_get_ls hl hg) (K ls hl hS hR hl)
      | _ => cases h
  | lload j =>
    obtain ⟨hd1, hn1⟩ := tg_len1 hd hn rfl
    subst hn1
    have hk := of_decide_eq_true hI
    dsimp only [tg_ex] at h
    cases hg : tg_get L (tg_gd f 0) with
    | none => rw [hg] at h; cases h
    | some u =>
      rw [hg] at h
      cases u with
      | long x =>
        cases h
        subst hk
        exact lv_lload hx hb hd1 (tg_get_ls hl hg) (K ls hl hS hR hl)
      | _ => cases h
  | istore_n j =>
    obtain ⟨hd1, hn1⟩ := tg_len1 hd hn rfl
    subst hn1
    have hk := of_decide_eq_true hI
    dsimp only [tg_ex] at h
    split at h
    · rename_i x r
      cases h
      exact lv_istore_n hx hb hd1 hk.1 hl hk.2 rfl (fun ls2 hl2 => K ls2 (tg_has_sub hl2 (tg_set_sub G L _ _)) hS hR (tg_has_sub hl2 (tg_set_sub G L _ _)))
    · cases h
  | astore_n j =>
    obtain ⟨hd1, hn1⟩ := tg_len1 hd hn rfl
    subst hn1
    have hk := of_decide_eq_true hI
    dsimp only [tg_ex] at h
    split at h
    · rename_i x r
      cases h
      exact lv_astore_n hx hb hd1 hk.1 hl hk.2 rfl (fun ls2 hl2 => K ls2 (tg_has_sub hl2 (tg_set_sub G L _ _)) hS hR (tg_has_sub hl2 (tg_set_sub G L _ _)))
    · cases h
  | istore j =>
    obtain ⟨hd1, hn1⟩ := tg_len1 hd hn rfl
    subst hn1
    have hk := of_decide_eq_true hI
    dsimp only [tg_ex] at h
    split at h
    · rename_i x r
      cases h
      obtain ⟨hk1, hk2⟩ := hk
      subst hk1
      exact lv_istore hx hb hd1 hl hk2 rfl (fun ls2 hl2 => K ls2 (tg_has_sub hl2 (tg_set_sub G L _ _)) hS hR (tg_has_sub hl2 (tg_set_sub G L _ _)))
    · cases h
  | astore j =>
    obtain ⟨hd1, hn1⟩ := tg_len1 hd hn rfl
    subst hn1
    have hk := of_decide_eq_true hI
    dsimp only [tg_ex] at h
    split at h
    · rename_i x r
      cases h
      obtain ⟨hk1, hk2⟩ := hk
      subst hk1
      exact lv_astore hx hb hd1 hl hk2 rfl (fun ls2 hl2 => K ls2 (tg_has_sub hl2 (tg_set_sub G L _ _)) hS hR (tg_has_sub hl2 (tg_set_sub G L _ _)))
    · cases h
  | lstore_n j =>
    obtain ⟨hd1, hn1⟩ := tg_len1 hd hn rfl
    subst hn1
    have hk := of_decide_eq_true hI
    dsimp only [tg_ex] at h
    split at h
    · rename_i x r
      cases h
      exact lv_lstore_n hx hb hd1 hk.1 hl hk.2 rfl (fun ls2 hl2 => K ls2 (tg_has_sub hl2 (tg_set2_sub G L _ _)) hS hR (tg_has_sub hl2 (tg_set2_sub G L _ _)))
    · cases h
  | lstore j =>
    obtain ⟨hd1, hn1⟩ := tg_len1 hd hn rfl
    subst hn1
    have hk := of_decide_eq_true hI
    dsimp only [tg_ex] at h
    split at h
    · rename_i x r
      cases h
      obtain ⟨hk1, hk2⟩ := hk
      subst hk1
      exact lv_lstore hx hb hd1 hl hk2 rfl (fun ls2 hl2 => K ls2 (tg_has_sub hl2 (tg_set2_sub G L _ _)) hS hR (tg_has_sub hl2 (tg_set2_sub G L _ _)))
    · cases h
  | iinc j n =>
    obtain ⟨hd1, hn1⟩ := tg_len1 hd hn rfl
    subst hn1
    obtain ⟨hk1, hk2, hk3⟩ := of_decide_eq_true hI
    subst hk1; subst hk3
    dsimp only [tg_ex] at h
    cases hg : tg_get L (tg_gd f 0) with
    | none => rw [hg] at h; cases h
    | some u =>
      rw [hg] at h
      cases u with
      | int x =>
        cases h
        obtain ⟨z, hz⟩ := tg_map2 hl hg
        exact lv_iinc hx hb hd1 hl hz rfl hk2 rfl (fun ls2 hl2 => K ls2 (tg_has_sub hl2 (tg_set_sub G L _ _)) hS hR (tg_has_sub hl2 (tg_set_sub G L _ _)))
      | _ => cases h
  | iadd =>
    obtain ⟨hd1, hn1⟩ := tg_len1 hd hn rfl
    subst hn1
    dsimp only [tg_ex] at h
    split at h
    · cases h
      exact lv_iadd hx hb hd1 (K ls hl hS hR hl)
    · cases h
  | isub =>
    obtain ⟨hd1, hn1⟩ := tg_len1 hd hn rfl
    subst hn1
    dsimp only [tg_ex] at h
    split at h
    · cases h
      exact lv_isub hx hb hd1 (K ls hl hS hR hl)
    · cases h
  | imul =>
    obtain ⟨hd1, hn1⟩ := tg_len1 hd hn rfl
    subst hn1
    dsimp only [tg_ex] at h
    split at h
    · cases h
      exact lv_imul hx hb hd1 (K ls hl hS hR hl)
    · cases h
  | iand =>
    obtain ⟨hd1, hn1⟩ := tg_len1 hd hn rfl
    subst hn1
    dsimp only [tg_ex] at h
    split at h
    · cases h
      exact lv_iand hx hb hd1 (K ls hl hS hR hl)
    · cases h
  | ior =>
    obtain ⟨hd1, hn1⟩ := tg_len1 hd hn rfl
    subst hn1
    dsimp only [tg_ex] at h
    split at h
    · cases h
      exact lv_ior hx hb hd1 (K ls hl hS hR hl)
    · cases h
  | ixor =>
    obtain ⟨hd1, hn1⟩ := tg_len1 hd hn rfl
    subst hn1
    dsimp only [tg_ex] at h
    split at h
    · cases h
      exact lv_ixor hx hb hd1 (K ls hl hS hR hl)
    · cases h
  | ishl =>
    obtain ⟨hd1, hn1⟩ := tg_len1 hd hn rfl
    subst hn1
    dsimp only [tg_ex] at h
    split at h
    · cases h
      exact lv_ishl hx hb hd1 (K ls hl hS hR hl)
    · cases h
  | ishr =>
    obtain ⟨hd1, hn1⟩ := tg_len1 hd hn rfl
    subst hn1
    dsimp only [tg_ex] at h
    split at h
    · cases h
      exact lv_ishr hx hb hd1 (K ls hl hS hR hl)
    · cases h
  | iushr =>
    obtain ⟨hd1, hn1⟩ := tg_len1 hd hn rfl
    subst hn1
    dsimp only [tg_ex] at h
    split at h
    · cases h
      exact lv_iushr hx hb hd1 rfl (K ls hl hS hR hl)
    · cases h
  | ladd =>
    obtain ⟨hd1, hn1⟩ := tg_len1 hd hn rfl
    subst hn1
    dsimp only [tg_ex] at h
    split at h
    · cases h
      exact lv_ladd hx hb hd1 (K ls hl hS hR hl)
    · cases h
  | lsub =>
    obtain ⟨hd1, hn1⟩ := tg_len1 hd hn rfl
    subst hn1
    dsimp only [tg_ex] at h
    split at h
    · cases h
      exact lv_lsub hx hb hd1 (K ls hl hS hR hl)
    · cases h
  | lmul =>
    obtain ⟨hd1, hn1⟩ := tg_len1 hd hn rfl
    subst hn1
    dsimp only [tg_ex] at h
    split at h
    · cases h
      exact lv_lmul hx hb hd1 (K ls hl hS hR hl)
    · cases h
  | lcmp =>
    obtain ⟨hd1, hn1⟩ := tg_len1 hd hn rfl
    subst hn1
    dsimp only [tg_ex] at h
    split at h
    · cases h
      exact W.lcmp hx hb hd1 (K ls hl hS hR hl)
    · cases h
  | ineg =>
    obtain ⟨hd1, hn1⟩ := tg_len1 hd hn rfl
    subst hn1
    dsimp only [tg_ex] at h
    split at h
    · cases h
      exact lv_ineg hx hb hd1 (K ls hl hS hR hl)
    · cases h
  | i2l =>
    obtain ⟨hd1, hn1⟩ := tg_len1 hd hn rfl
    subst hn1
    dsimp only [tg_ex] at h
    split at h
    · cases h
      exact lv_i2l hx hb hd1 rfl (K ls hl hS hR hl)
    · cases h
  | dup =>
    obtain ⟨hd1, hn1⟩ := tg_len1 hd hn rfl
    subst hn1
    dsimp only [tg_ex] at h
    split at h
    · cases h
      exact lv_dup hx hb hd1 rfl (K ls hl hS hR hl)
    · cases h
      exact lv_dup hx hb hd1 rfl (K ls hl hS hR hl)
    · cases h
  | dup2 =>
    obtain ⟨hd1, hn1⟩ := tg_len1 hd hn rfl
    subst hn1
    dsimp only [tg_ex] at h
    split at h
    · cases h
      exact lv_dup2_11 hx hb hd1 rfl rfl (K ls hl hS hR hl)
    · cases h
      exact lv_dup2_11 hx hb hd1 rfl rfl (K ls hl hS hR hl)
    · cases h
  | pop =>
    obtain ⟨hd1, hn1⟩ := tg_len1 hd hn rfl
    subst hn1
    dsimp only [tg_ex] at h
    split at h
    · cases h
      exact lv_pop hx hb hd1 rfl (K ls hl hS hR hl)
    · cases h
  | goto o =>
    obtain ⟨hd1, hn1⟩ := tg_len1 hd hn rfl
    subst hn1
    have hk := of_decide_eq_true hI
    cases h
    exact lv_goto hx hb hd1 hk (K ls hl hS hR hl)
  | getfield idx =>
    obtain ⟨hd1, hn1⟩ := tg_len1 hd hn rfl
    subst hn1
    simp only [tg_okI, Bool.and_eq_true, decide_eq_true_eq] at hI
    obtain ⟨⟨hci, hkN⟩, hw⟩ := hI
    dsimp only [tg_ex] at h
    split at h
    · rename_i a r
      split at h
      · rename_i o ho
        cases hb2 : Nat.beq o.1 (tg_gd f 0) with
        | false => rw [hb2] at h; cases h
        | true =>
          rw [hb2] at h
          simp only [cond_true] at h
          cases hu : tg_nth o.2 (tg_gd f 1) with
          | none => rw [hu] at h; cases h
          | some u =>
            rw [hu] at h
            cases h
            have e0 := Nat.eq_of_beq_eq_true hb2
            have hg := tg_lk_ws (G := G) ho
            rw [tg_nth_eq] at hu
            refine va_get (C := (tg_cls o.1).1) (T := (tg_cls o.1).2.1) (N := (tg_cls o.1).2.2) (fs := o.2.map (tg_v G)) (v := tg_v G u) hx hb hts (fun w hw => tg_wdG (tg_lays o.1 (by rw [e0]; exact hci) w hw)) hown hfix.1 hR.1 (tg_pc w a) hg (tg_clsok o.1 (by rw [e0]; exact hci)) (tg_gd f 1) (by rw [e0]; exact hkN) (by rw [e0]; exact hts _ (tg_wdG (tg_is_mem hw))) (fun x hx => hx) (by rw [List.getElem?_map, hu]; rfl) hd1 (K ls hl hS hR hl)
      · cases h
    · cases h
  | _ => cases h
