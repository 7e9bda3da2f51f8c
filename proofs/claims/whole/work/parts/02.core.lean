/-! A small abstract machine over the kit: a world is two lists of cells (the class's, the reference's), a cell's number tells its address. -/
abbrev tg_Cl : Type := (Nat × List Value) ⊕ (Nat × (Nat → Int32))
abbrev tg_W : Type := List tg_Cl × List tg_Cl
/-- first address, the script's address, length and values, the table's address, the classes' numbers and places, the class of int[] -/
abbrev tg_G : Type := Nat × Nat × Nat × (Nat → Int32) × Nat × va_G × ClassId
def tg_ad (G : tg_G) (k : Nat) : Nat := bif Nat.blt k 64 then G.1 + k else bif Nat.beq k 1000 then G.2.1 else bif Nat.beq k 1001 then G.2.2.2.2.1 else G.1 + 47 + (k - 64)
def tg_v (G : tg_G) : Value → Value
  | .ref k => .ref (tg_ad G k)
  | v => v
def tg_c (G : tg_G) : tg_Cl → va_E
  | .inl o => .inr (o.1, o.2.map (tg_v G))
  | .inr a => .inl (G.2.2.2.2.2.2, a.1, .inl a.2)
def tg_l (G : tg_G) : Nat → List tg_Cl → va_W
  | _, [] => []
  | k, c :: r => (tg_ad G k, tg_c G c) :: tg_l G (k + 1) r
def tg_ws (G : tg_G) (w : tg_W) : va_W := tg_l G 0 w.1 ++ tg_l G 64 w.2
def tg_nth {α : Type} : List α → Nat → Option α
  | [], _ => none
  | c :: _, 0 => some c
  | _ :: r, k + 1 => tg_nth r k
def tg_setn {α : Type} : List α → Nat → α → List α
  | [], _, _ => []
  | _ :: r, 0, c => c :: r
  | x :: r, k + 1, c => x :: tg_setn r k c
def tg_lk (w : tg_W) (k : Nat) : Option tg_Cl := bif Nat.blt k 64 then tg_nth w.1 k else tg_nth w.2 (k - 64)
def tg_up (w : tg_W) (k : Nat) (c : tg_Cl) : tg_W := bif Nat.blt k 64 then (tg_setn w.1 k c, w.2) else (w.1, tg_setn w.2 (k - 64) c)
def tg_pc (w : tg_W) (k : Nat) : Nat := bif Nat.blt k 64 then k else w.1.length + (k - 64)
theorem tg_nth_eq {α : Type} (l : List α) (k : Nat) : tg_nth l k = l[k]? := by
  induction l generalizing k with
  | nil => simp [tg_nth]
  | cons c r ih => cases k with
    | zero => simp [tg_nth]
    | succ k => simp [tg_nth, ih]
theorem tg_setn_eq {α : Type} (l : List α) (k : Nat) (c : α) : tg_setn l k c = l.set k c := by
  induction l generalizing k with
  | nil => simp [tg_setn]
  | cons x r ih => cases k with
    | zero => simp [tg_setn]
    | succ k => simp [tg_setn, ih]
theorem tg_l_get (G : tg_G) (l : List tg_Cl) : ∀ (k j : Nat), (tg_l G k l)[j]? = (l[j]?).map (fun c => (tg_ad G (k + j), tg_c G c)) := by
  induction l with
  | nil => intro k j; simp [tg_l]
  | cons c r ih =>
    intro k j
    cases j with
    | zero => simp [tg_l]
    | succ j =>
      simp only [tg_l, List.getElem?_cons_succ, ih]
      rw [show k + 1 + j = k + (j + 1) by omega]
theorem tg_l_len (G : tg_G) (l : List tg_Cl) : ∀ k : Nat, (tg_l G k l).length = l.length := by
  induction l with
  | nil => intro k; rfl
  | cons c r ih => intro k; simp [tg_l, ih]
theorem tg_l_set (G : tg_G) (l : List tg_Cl) (c : tg_Cl) : ∀ (k j : Nat), tg_l G k (l.set j c) = (tg_l G k l).set j (tg_ad G (k + j), tg_c G c) := by
  induction l with
  | nil => intro k j; rfl
  | cons x r ih =>
    intro k j
    cases j with
    | zero => simp [tg_l]
    | succ j =>
      simp only [tg_l, List.set_cons_succ, ih]
      rw [show k + 1 + j = k + (j + 1) by omega]
theorem tg_lk_ws {G : tg_G} {w : tg_W} {k : Nat} {c : tg_Cl} (h : tg_lk w k = some c) : (tg_ws G w)[tg_pc w k]? = some (tg_ad G k, tg_c G c) := by
  unfold tg_lk at h
  unfold tg_ws tg_pc
  cases hb : Nat.blt k 64 with
  | true =>
    rw [hb] at h
    simp only [cond_true] at h ⊢
    rw [tg_nth_eq] at h
    have hl := (List.getElem?_eq_some_iff.mp h).1
    rw [List.getElem?_append_left (by rw [tg_l_len]; exact hl), tg_l_get, h]
    simp
  | false =>
    rw [hb] at h
    simp only [cond_false] at h ⊢
    rw [tg_nth_eq] at h
    have hk : 64 ≤ k := by
      rcases Nat.lt_or_ge k 64 with q | q
      · rw [show Nat.blt k 64 = true from (by simp only [Nat.blt_eq]; exact q)] at hb; cases hb
      · exact q
    rw [List.getElem?_append_right (by rw [tg_l_len]; omega), tg_l_len, tg_l_get, show w.1.length + (k - 64) - w.1.length = k - 64 by omega, h]
    simp only [Option.map_some]
    rw [show 64 + (k - 64) = k by omega]
theorem tg_up_ws {G : tg_G} {w : tg_W} {k : Nat} {c0 c : tg_Cl} (h : tg_lk w k = some c0) : tg_ws G (tg_up w k c) = (tg_ws G w).set (tg_pc w k) (tg_ad G k, tg_c G c) := by
  unfold tg_lk at h
  unfold tg_ws tg_pc tg_up
  cases hb : Nat.blt k 64 with
  | true =>
    rw [hb] at h
    simp only [cond_true] at h ⊢
    rw [tg_nth_eq] at h
    have hl := (List.getElem?_eq_some_iff.mp h).1
    rw [tg_setn_eq, tg_l_set, List.set_append_left _ _ (by rw [tg_l_len]; exact hl)]
    simp
  | false =>
    rw [hb] at h
    simp only [cond_false] at h ⊢
    rw [tg_nth_eq] at h
    have hk : 64 ≤ k := by
      rcases Nat.lt_or_ge k 64 with q | q
      · rw [show Nat.blt k 64 = true from (by simp only [Nat.blt_eq]; exact q)] at hb; cases hb
      · exact q
    rw [tg_setn_eq, tg_l_set, List.set_append_right _ _ (by rw [tg_l_len]; omega), tg_l_len, show w.1.length + (k - 64) - w.1.length = k - 64 by omega, show 64 + (k - 64) = k by omega]
theorem tg_up_len (w : tg_W) (k : Nat) (c : tg_Cl) : (tg_up w k c).1.length = w.1.length ∧ (tg_up w k c).2.length = w.2.length := by
  unfold tg_up
  cases Nat.blt k 64 <;> simp [tg_setn_eq]
theorem tg_ad_lo {G : tg_G} {k : Nat} (h : k < 64) : tg_ad G k = G.1 + k := by
  unfold tg_ad
  rw [show Nat.blt k 64 = true from (by simp only [Nat.blt_eq]; exact h)]
  rfl
theorem tg_ad_hi {G : tg_G} {k : Nat} (h : 64 ≤ k) (h2 : k < 1000) : tg_ad G k = G.1 + 47 + (k - 64) := by
  unfold tg_ad
  rw [show Nat.blt k 64 = false from (by
    cases hb : Nat.blt k 64 with
    | false => rfl
    | true => simp only [Nat.blt_eq] at hb; omega), show Nat.beq k 1000 = false from (by
    cases hb : Nat.beq k 1000 with
    | false => rfl
    | true => have := Nat.eq_of_beq_eq_true hb; omega), show Nat.beq k 1001 = false from (by
    cases hb : Nat.beq k 1001 with
    | false => rfl
    | true => have := Nat.eq_of_beq_eq_true hb; omega)]
  rfl
theorem tg_ws_in {G : tg_G} {w : tg_W} (h1 : w.1.length ≤ 47) (h2 : w.2.length ≤ 64) {i : Nat} {q : Nat × va_E} (h : (tg_ws G w)[i]? = some q) : (i < w.1.length ∧ q.1 = G.1 + i) ∨ (w.1.length ≤ i ∧ q.1 = G.1 + 47 + (i - w.1.length)) := by
  unfold tg_ws at h
  rcases Nat.lt_or_ge i w.1.length with hl | hl
  · rw [List.getElem?_append_left (by rw [tg_l_len]; exact hl), tg_l_get] at h
    obtain ⟨c, -, e⟩ := Option.map_eq_some_iff.mp h
    refine Or.inl ⟨hl, ?_⟩
    rw [← e]
    show tg_ad G (0 + i) = _
    rw [Nat.zero_add, tg_ad_lo (by omega)]
  · rw [List.getElem?_append_right (by rw [tg_l_len]; exact hl), tg_l_len, tg_l_get] at h
    obtain ⟨c, hc, e⟩ := Option.map_eq_some_iff.mp h
    have := (List.getElem?_eq_some_iff.mp hc).1
    refine Or.inr ⟨hl, ?_⟩
    rw [← e]
    show tg_ad G (64 + (i - w.1.length)) = _
    rw [tg_ad_hi (by omega) (by omega)]
    omega
theorem tg_D {G : tg_G} {w : tg_W} (h1 : w.1.length ≤ 47) (h2 : w.2.length ≤ 64) : va_D (fun q => G.1 ≤ q) (tg_ws G w) := by
  refine ⟨fun i j p q hi hj e => ?_, fun k q hk => ?_⟩
  · rcases tg_ws_in h1 h2 hi with ⟨a1, a2⟩ | ⟨a1, a2⟩ <;> rcases tg_ws_in h1 h2 hj with ⟨b1, b2⟩ | ⟨b1, b2⟩ <;> omega
  · rcases tg_ws_in h1 h2 hk with ⟨a1, a2⟩ | ⟨a1, a2⟩
    · show G.1 ≤ q.1; omega
    · show G.1 ≤ q.1; omega
/-- the heap holds the world -/
def tg_R (G : tg_G) (w : tg_W) (H : Heap) : Prop := va_P G.2.2.2.2.2.1 vwCl (tg_ws G w) H ∧ H.size = G.1 + w.1.length + w.2.length ∧ w.1.length ≤ 47 ∧ w.2.length ≤ 64 ∧ (w.2 = [] ∨ w.1.length = 47)
/-- words by their places -/
def tg_ch : Nat → List Jvm.Cond
  | 0 => k2_sels lw_privs
  | 1 => tables_1_1
  | 2 => tables_1_2
  | 3 => tables_1_3
  | 4 => tables_1_4
  | 5 => tables_1_5
  | _ => tables_1_6
theorem tg_ch_mem {w : Jvm.Cond} : ∀ {c : Nat}, w ∈ tg_ch c → w ∈ lw_tbl := by
  intro c h
  unfold lw_tbl tables_1
  match c, h with
  | 0, h => exact List.mem_append_left _ h
  | 1, h => exact List.mem_append_right _ (List.mem_append_left _ h)
  | 2, h => exact List.mem_append_right _ (List.mem_append_right _ (List.mem_append_left _ h))
  | 3, h => exact List.mem_append_right _ (List.mem_append_right _ (List.mem_append_right _ (List.mem_append_left _ h)))
  | 4, h => exact List.mem_append_right _ (List.mem_append_right _ (List.mem_append_right _ (List.mem_append_right _ (List.mem_append_left _ h))))
  | 5, h => exact List.mem_append_right _ (List.mem_append_right _ (List.mem_append_right _ (List.mem_append_right _ (List.mem_append_right _ (List.mem_append_left _ h)))))
  | _ + 6, h => exact List.mem_append_right _ (List.mem_append_right _ (List.mem_append_right _ (List.mem_append_right _ (List.mem_append_right _ (List.mem_append_right _ h)))))
def tg_GW : List Jvm.Cond := lw_tbl.filter goodWord
def tg_is (c i : Nat) (w : Jvm.Cond) : Bool := goodWord w && decide ((tg_ch c)[i]? = some w)
theorem tg_is_mem {c i : Nat} {w : Jvm.Cond} (h : tg_is c i w = true) : w ∈ tg_GW := by
  simp only [tg_is, Bool.and_eq_true, decide_eq_true_eq] at h
  exact List.mem_filter.mpr ⟨tg_ch_mem (List.mem_of_getElem? h.2), h.1⟩
def tg_nst : Jvm.Cond → Bool
  | .methodLinkNest .. => true
  | _ => false
def tg_NW : List Jvm.Cond := lw_tbl.filter tg_nst
def tg_isN (c i : Nat) (w : Jvm.Cond) : Bool := tg_nst w && decide ((tg_ch c)[i]? = some w)
theorem tg_isN_mem {c i : Nat} {w : Jvm.Cond} (h : tg_isN c i w = true) : w ∈ tg_NW := by
  simp only [tg_isN, Bool.and_eq_true, decide_eq_true_eq] at h
  exact List.mem_filter.mpr ⟨tg_ch_mem (List.mem_of_getElem? h.2), h.1⟩
/-- what stays: the classes, the script, the table of letters, the links between nest mates -/
def tg_kl : Nat → Value := fun j => .int (match j with | 0 => 107 | 1 => 104 | 2 => 102 | 3 => 115 | 4 => 119 | _ => 110)
def tg_fix (G : tg_G) (U : State) : Prop :=
  va_K G.2.2.2.2.2.1 vwCl [(G.2.2.2.2.2.2, .int)] U ∧ va_X G.2.1 G.2.2.1 G.2.2.2.1 U U.heap ∧ G.2.1 < G.1 ∧ va_Z "TilesGoAbout$Letters" "KIND_LETTERS" "[C" (.ref G.2.2.2.2.1) (fun q => G.1 ≤ q) U U.heap ∧ va_T .char G.2.2.2.2.1 6 tg_kl (fun q => G.1 ≤ q) U U.heap ∧ ∀ w ∈ tg_NW, va_Nw w U
abbrev tg_Er : Type := Instr × Nat × List Nat × MethodName × Value × List (Int32 × Nat)
abbrev tg_E : Type := Nat × tg_Er
abbrev tg_M : Type := MethodName × ByteArray × Nat × Option FieldType × (Nat × Nat) × List (Nat × List tg_E)
def tg_fR : List tg_E → Nat → Option tg_Er
  | [], _ => none
  | q :: r, pc => bif Nat.beq q.1 pc then some q.2 else tg_fR r pc
def tg_f : List (Nat × List tg_E) → Nat → Option tg_Er
  | [], _ => none
  | q :: r, pc => bif Nat.blt pc q.1 then tg_fR q.2 pc else tg_f r pc
theorem tg_fR_mem {l : List tg_E} {pc : Nat} {e : tg_Er} (h : tg_fR l pc = some e) : (pc, e) ∈ l := by
  induction l with
  | nil => cases h
  | cons q r ih =>
    unfold tg_fR at h
    cases hb : Nat.beq q.1 pc with
    | true =>
      rw [hb] at h
      have e1 := Nat.eq_of_beq_eq_true hb
      have e2 : q.2 = e := Option.some.inj h
      subst e1; subst e2
      exact List.mem_cons_self
    | false =>
      rw [hb] at h
      exact List.mem_cons_of_mem _ (ih h)
theorem tg_f_mem {l : List (Nat × List tg_E)} {pc : Nat} {e : tg_Er} (h : tg_f l pc = some e) : ∃ q ∈ l, (pc, e) ∈ q.2 := by
  induction l with
  | nil => cases h
  | cons q r ih =>
    unfold tg_f at h
    cases hb : Nat.blt pc q.1 with
    | true =>
      rw [hb] at h
      exact ⟨q, List.mem_cons_self, tg_fR_mem h⟩
    | false =>
      rw [hb] at h
      obtain ⟨q', h1, h2⟩ := ih h
      exact ⟨q', List.mem_cons_of_mem _ h1, h2⟩
