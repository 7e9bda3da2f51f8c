/-! what the class answers is the same of hearths that are the same as far as their little ones go -/
theorem lc_self (a : Int64) : lg_cmp a a = 0 := by
  unfold lg_cmp
  first | (simp only [Int64.lt_irrefl, if_false]; done) | (simp; done) | (split <;> first | rfl | (rename_i q; exact absurd q (Int64.lt_irrefl a)) | (split <;> first | rfl | (rename_i q; exact absurd q (Int64.lt_irrefl a))))
theorem rel_0 : Rel h0H h0H x0X h0H y0Y := by
  refine ⟨eqH_rf _, ⟨by decide, by decide, fun i hi => absurd hi (Nat.not_lt_zero i)⟩, ⟨rfl, rfl, rfl, rfl, rfl, rfl⟩, by decide, by decide, by decide, fun hb => by cases hb⟩
theorem mxQ_eq {q q' : Nat → Bool} {f f' : Nat → Int32} {b b' m m' : Int32} {n : Nat} (hb : b = b') (hm : m = m') (h : ∀ i, i < n → q i = q' i ∧ f i = f' i) : mxQ q f b m n = mxQ q' f' b' m' n := by
  subst hb; subst hm
  induction n with
  | zero => rfl
  | succ n ih => rw [mxQ_succ, mxQ_succ, ih (fun i hi => h i (by omega)), (h n (Nat.lt_succ_self n)).1, (h n (Nat.lt_succ_self n)).2]
theorem mnQ_eq {q q' : Nat → Bool} {f f' : Nat → Int32} {b b' m m' : Int32} {n : Nat} (hb : b = b') (hm : m = m') (h : ∀ i, i < n → q i = q' i ∧ f i = f' i) : mnQ q f b m n = mnQ q' f' b' m' n := by
  subst hb; subst hm
  induction n with
  | zero => rfl
  | succ n ih => rw [mnQ_succ, mnQ_succ, ih (fun i hi => h i (by omega)), (h n (Nat.lt_succ_self n)).1, (h n (Nat.lt_succ_self n)).2]
section
variable {n h : tp_H}
theorem g_aLit (hm : hM n ≤ 7) (e : eqH n h) {one : Int32} (ho : hasB n one = true) (what : Int32) : aLit n one what = aLit h one what := by
  unfold aLit
  rw [eq_gK hm e, eq_gF hm e, eq_gH hm e, eq_gT hm e, eq_gP hm e, eq_abB hm e]
  split
  · rfl
  · split
    · rfl
    · split
      · rfl
      · split
        · rfl
        · split
          · rfl
          · split
            · rfl
            · obtain ⟨j, hj, rfl, cj⟩ := has_j hm ho
              rw [show nN (nI j) = j from cj]
              unfold nwH
              rw [(e.2.2.2.2 j hj).1, (e.2.2.2.2 j hj).2.2.2.1, e.2.2.1]
              exact eq_way (a := sN n (hN h + 1)) (b := sN h (hN h + 1)) hm (eq_sN e _) _ _ _
theorem g_aTil (e : eqH n h) (ti what : Int32) : aTil n ti what = aTil h ti what := by
  unfold aTil
  rw [eq_crB e, eq_oAt e]
theorem g_aTur (hm : hM n ≤ 7) (e : eqH n h) (one : Int32) : aTur n one = aTur h one := by
  unfold aTur
  rw [eq_gK hm e, eq_gF hm e]
theorem g_abN (hm : hM n ≤ 7) (e : eqH n h) (k : Nat) : abM (pNs k n) = abM (pNs k h) := eq_abM (eq_pNs hm e k)
theorem g_aOne (hm : hM n ≤ 7) (e : eqH n h) (one k what : Int32) : aOne n one k what = aOne h one k what := by
  unfold aOne
  rw [eq_gT (pm7 hm _) (eq_pNs hm e _), eq_gP (pm7 hm _) (eq_pNs hm e _)]
theorem g_aAbo (hm : hM n ≤ 7) (e : eqH n h) (k : Int32) : aAbo n k = aAbo h k := by
  unfold aAbo
  rw [eq_oAt (eq_pNs hm e _), (eq_pNs hm e _).2.1]
theorem g_aFir (hm : hM n ≤ 7) (e : eqH n h) (one ti : Int32) : aFir n one ti = aFir h one ti := fiV_eq rfl (fun j _ _ => ⟨by unfold fA; rw [eq_gT (pm7 hm j) (eq_pNs hm e j)], rfl⟩)
theorem g_aAll (hm : hM n ≤ 7) (e : eqH n h) : aAll n = aAll h := fiV_eq rfl (fun j _ _ => ⟨by unfold fC; rw [eq_abM (eq_pNs hm e j), e.2.2.2.1], rfl⟩)
theorem g_fB (hm : hM n ≤ 7) (e : eqH n h) : ∀ d i, fB n d i = fB h d i := by
  intro d
  induction d with
  | zero => intro i; rfl
  | succ d ih =>
    intro i
    rw [fB_succ, fB_succ, ih (i + 1), e.2.2.2.1]
    exact fiV_eq rfl (fun j _ _ => ⟨eq_abB (pm7 hm i) (eq_pNs hm e i) _, rfl⟩)
theorem g_aMee (hm : hM n ≤ 7) (e : eqH n h) (a b : Int32) : aMee n a b = aMee h a b := fiV_eq rfl (fun j _ _ => ⟨by unfold fD; rw [eq_gT (pm7 hm j) (eq_pNs hm e j), eq_gT (pm7 hm j) (eq_pNs hm e j)], rfl⟩)
theorem g_sqS (hm : hM n ≤ 7) (e : eqH n h) (k : Nat) : sqS n k = sqS h k := by
  induction k with
  | zero => rfl
  | succ k ih => rw [sqS_succ, sqS_succ, ih, (eq_pNt (pm7 hm k) (eq_pNs hm e k)).2]
theorem g_aSti (hm : hM n ≤ 7) (e : eqH n h) : aSti n = aSti h := fiV_eq rfl (fun j _ _ => ⟨by unfold fE; rw [g_sqS hm e], by unfold sqV; rw [g_sqS hm e]⟩)
theorem g_shW (hm : hM n ≤ 7) (e : eqH n h) (k : Nat) (v : Int32) : shW n k v = shW h k v := eq_abM (eq_pNs (a := sS n v) hm (eq_sS e v) k)
theorem g_crW (hm : hM n ≤ 7) (e : eqH n h) (k : Nat) (v : Int32) : crW n k v = crW h k v := eq_abM (eq_pNs (a := crkH n v) hm (eq_crkH e v) k)
theorem g_piW (hm : hM n ≤ 7) (e : eqH n h) (k : Nat) (v : Int32) : piW n k v = piW h k v := eq_abM (eq_pNs (a := senH n v 9) hm (eq_senH hm e v 9) k)
theorem g_shB (hm : hM n ≤ 7) (e : eqH n h) (k : Nat) : shB n k = shB h k := by
  unfold shB
  rw [mxQ_eq rfl rfl (fun i _ => ⟨rfl, g_shW hm e k (nI i)⟩)]
theorem g_aShB (hm : hM n ≤ 7) (e : eqH n h) (k what : Int32) : aShB n k what = aShB h k what := by
  unfold aShB
  rw [g_shB hm e, g_shW hm e]
theorem g_aMen (hm : hM n ≤ 7) (e : eqH n h) (k what : Int32) : aMen n k what = aMen h k what := by
  unfold aMen meB spB
  rw [g_abN hm e, mxQ_eq (q' := fun i => crB h (nI i)) (f' := fun i => crW h (nN k) (nI i)) rfl rfl (fun i _ => ⟨eq_crB e _, g_crW hm e _ _⟩), mnQ_eq (q' := fun i => !crB h (nI i)) (f' := fun i => crW h (nN k) (nI i)) rfl rfl (fun i _ => ⟨by rw [eq_crB e], g_crW hm e _ _⟩)]
theorem g_aPin (hm : hM n ≤ 7) (e : eqH n h) (k : Int32) : aPin n k = aPin h k := by
  unfold aPin
  rw [g_abN hm e, e.2.2.2.1, mnQ_eq (q' := fun _ => true) (f' := fun i => piW h (nN k) (nI i)) rfl rfl (fun i _ => ⟨rfl, g_piW hm e _ _⟩)]
theorem g_nbB (hm : hM n ≤ 7) (e : eqH n h) (c : Int32) (k : Nat) : nbB n c k = nbB h c k := by
  unfold nbB
  rw [e.2.2.2.1, eq_abM (eq_pNs (a := nbS c n (hM h)) (by rw [nbS_M]; exact hm) (eq_nbS hm e c _) k)]
theorem g_fwS (hm : hM n ≤ 7) (e : eqH n h) (k i : Nat) : fwS n k i = fwS h k i := by
  induction i with
  | zero => unfold fwS; rw [e.2.2.2.1]
  | succ i ih => rw [fwS_succ, fwS_succ, ih, g_nbB hm e]
theorem g_aFew (hm : hM n ≤ 7) (e : eqH n h) (k : Int32) : aFew n k = aFew h k := by
  unfold aFew
  rw [g_fwS hm e, e.2.2.2.1]
theorem g_soA (hm : hM n ≤ 7) (e : eqH n h) (one kd : Int32) : soA n one kd = soA h one kd := fiV_eq rfl (fun j _ _ => ⟨by
  unfold soP
  rw [eq_gF hm e]
  exact eq_abB (by rw [pNs_M]; exact hm) (eq_pNs (a := becH n one kd (gO hF h one)) hm (eq_becH hm e _ _ _) j) one, rfl⟩)
theorem g_aBes (hm : hM n ≤ 7) (e : eqH n h) (one what : Int32) : aBes n one what = aBes h one what := by
  unfold aBes soK
  rw [mnQ_eq (q' := fun _ => true) (f' := fun i => soA h one (nI i)) rfl rfl (fun i _ => ⟨rfl, g_soA hm e _ _⟩), g_soA hm e]
theorem g_fuT (e : eqH n h) (i : Nat) : fuT n i = fuT h i := by
  induction i with
  | zero => rfl
  | succ i ih => rw [fuT_succ, fuT_succ, ih, eq_mAt e, eq_mAt e]
theorem g_loM (e : eqH n h) : loM n = loM h := by
  unfold loM
  rw [← e.2.2.2.1]
  exact cI_eq (fun i hi => by rw [eq_crB e, (e.2.2.2.2 i hi).2.2.1])
theorem g_piM (e : eqH n h) : piM n = piM h := by
  unfold piM
  rw [← e.2.2.2.1]
  exact cI_eq (fun i hi => by rw [(e.2.2.2.2 i hi).2.2.2.2])
theorem cB_eq {b b' : Int32} {p q : Nat → Bool} (hb : b = b') : ∀ {i : Nat}, (∀ j, j < i → p j = q j) → cB b p i = cB b' q i := by
  intro i
  induction i with
  | zero => intro _; exact hb
  | succ i ih => intro hp; rw [cB_succ, cB_succ, ih (fun j hj => hp j (by omega)), hp i (Nat.lt_succ_self i)]
theorem g_bsO (e : eqH n h) : ∀ i, i ≤ hM n → bsO n i = bsO h i := by
  intro i
  induction i with
  | zero => intro _; rfl
  | succ i ih =>
    intro hi
    rw [bsO_succ, bsO_succ, ← e.2.2.2.1]
    refine cB_eq (ih (by omega)) (fun j hj => ?_)
    unfold bsP
    rw [(e.2.2.2.2 i (by omega)).2.2.2.1, (e.2.2.2.2 j hj).2.2.2.1]
theorem g_emT (e : eqH n h) : ∀ i, i ≤ hM n → emT n i = emT h i := by
  intro i
  induction i with
  | zero => intro _; rfl
  | succ i ih => intro hi; rw [emT_succ, emT_succ, ih (by omega), (e.2.2.2.2 i (by omega)).2.2.2.1]
theorem g_aCro (e : eqH n h) (what : Int32) : aCro n what = aCro h what := by
  unfold aCro
  rw [g_fuT e, eq_oAt e, eq_hoM e, g_loM e, g_piM e, g_bsO e _ (Nat.le_refl _), g_emT e _ (Nat.le_refl _), e.2.2.2.1]
theorem g_frH (hm : hM n ≤ 7) (e : eqH n h) (k : Int32) : frH n k = frH h k := by
  unfold frH
  rw [eq_gT hm e, eq_gH hm e]
theorem g_faT (hm : hM n ≤ 7) (e : eqH n h) (i : Nat) : faT n i = faT h i := by
  induction i with
  | zero => rfl
  | succ i ih => rw [faT_succ, faT_succ, ih, g_frH hm e, g_frH hm e]
theorem g_aFaH (hm : hM n ≤ 7) (e : eqH n h) (what : Int32) : aFaH n what = aFaH h what := by
  unfold aFaH
  rw [g_faT hm e, g_frH hm e, e.2.2.2.1]
theorem g_ahO (hm : hM n ≤ 7) (e : eqH n h) (k : Int32) : ahO n k = ahO h k := by
  unfold ahO
  rw [← e.2.2.2.1]
  refine cI_eq (fun i hi => ?_)
  unfold ahP
  rw [eq_gT hm e, (e.2.2.2.2 i hi).2.2.2.1, e.2.1]
theorem g_aOrd (hm : hM n ≤ 7) (e : eqH n h) (i : Int32) : aOrd n i = aOrd h i := by
  unfold aOrd
  rw [e.2.2.2.1]
  exact fiV_eq rfl (fun j _ _ => ⟨by unfold orP; rw [eq_abB hm e, g_ahO hm e], rfl⟩)
theorem g_wAB (hm : hM n ≤ 7) (e : eqH n h) (a b one : Int32) (k i : Nat) : wAB n a b one k i = wAB h a b one k i := eq_woH (by rw [pNs_M, prS_M]; exact hm) (eq_pNs (by rw [prS_M]; exact hm) (eq_prS hm e a b k i) k) one
theorem g_aTwo (hm : hM n ≤ 7) (e : eqH n h) (a b k : Int32) : aTwo n a b k = aTwo h a b k := fiV_eq rfl (fun j _ _ => ⟨by unfold fsP; rw [g_wAB hm e, g_wAB hm e, g_wAB hm e, g_wAB hm e], rfl⟩)
theorem g_coC (e : eqH n h) (c : Int32) (i : Nat) : coC n c i = coC h c i := by
  unfold coC
  rw [e.1, e.2.1]
theorem g_coN (e : eqH n h) (c : Int32) (a : tp_H) (i : Nat) : coN n c a i = coN h c a i := by
  induction i with
  | zero => rfl
  | succ i ih => rw [coN_succ, coN_succ, ih, g_coC e]
theorem g_coA (hm : hM n ≤ 7) (e : eqH n h) (one : Int32) (k : Nat) (td : Int32) (c : Nat) : coA n one k td c = coA h one k td c := by
  induction c with
  | zero => rfl
  | succ c ih =>
    rw [coA_succ, coA_succ, ih, g_coN e, eq_abB (by rw [coN_M]; exact hm) (eq_coN hm e h (nI c) k) one]
theorem g_meS (hm : hM n ≤ 7) (e : eqH n h) : ∀ i, meS n i = meS h i := by
  intro i
  induction i with
  | zero => rfl
  | succ i ih => rw [meS_succ, meS_succ, ih, g_frH hm e]
theorem g_aMea (hm : hM n ≤ 7) (e : eqH n h) (part : Int32) : aMea n part = aMea h part := by
  unfold aMea
  rw [g_meS hm e, e.2.2.2.1]
theorem g_wiB (hm : hM n ≤ 7) (e : eqH n h) {x x' : tp_X} (ex : xTo x = xTo x') (et : xTm x = xTm x') (one kd f : Int32) : wiB n x one kd f = wiB h x' one kd f := by
  unfold wiB
  rw [et]
  refine aI_eq (fun j _ _ => ?_)
  unfold wiP
  rw [ex, eq_gT (by rw [pNs_M]; exact hm) (eq_pNs (a := becH n one kd f) hm (eq_becH hm e _ _ _) j)]
theorem g_aWha (hm : hM n ≤ 7) (e : eqH n h) {x x' : tp_X} (ex : xTo x = xTo x') (et : xTm x = xTm x') (one what : Int32) : aWha n x one what = aWha h x' one what := by
  unfold aWha
  refine bI_eq (fun g _ => ?_)
  unfold whP
  rw [g_wiB hm e ex et, g_wiB hm e ex et, eq_gF hm e, eq_gK hm e]
theorem g_aJud (hm : hM n ≤ 7) (e : eqH n h) {x x' : tp_X} (ex : xTo x = xTo x') (et : xTm x = xTm x') : aJud n x = aJud h x' := by
  unfold aJud
  rw [et]
  exact fiV_eq rfl (fun j _ _ => ⟨by unfold juP; rw [eq_has e, eq_gH hm e, ex], rfl⟩)
theorem g_wiV (hm : hM n ≤ 7) (e : eqH n h) (z what : Int32) : wiV n z what = wiV h z what := by
  unfold wiV wiE
  have ew := eq_wiS hm e z (hM n)
  rw [← e.2.2.2.1, eq_abM (eq_pNs (by rw [wiS_M]; exact hm) ew.2 10), eq_hoM (eq_pNs (by rw [wiS_M]; exact hm) ew.2 10)]
theorem g_wiO (hm : hM n ≤ 7) (e : eqH n h) (z what : Int32) (i : Nat) : wiO n z what i = wiO h z what i := by
  induction i with
  | zero => rfl
  | succ i ih => rw [wiO_succ, wiO_succ, ih, g_wiV hm e, e.2.2.2.1, (eq_wiS hm e (wiO h z what i).1 (hM h)).1]
theorem g_aLot (hm : hM n ≤ 7) (e : eqH n h) (k z what : Int32) : aLot n k z what = aLot h k z what := by
  unfold aLot
  rw [g_wiO hm e]
theorem g_aCou (e : eqH n h) {x x' : tp_X} (ex : xRe x = xRe x') (et : xTm x = xTm x') (el : xLm x = xLm x') (what : Int32) : aCou n x what = aCou h x' what := by
  unfold aCou
  rw [e.2.2.2.1, e.2.2.1, e.1, e.2.1, eq_oAt e, g_piM e, et, el, ex]
end
