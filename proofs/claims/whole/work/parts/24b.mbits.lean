/-! counting the bits of a set of seven -/
def b7 (a b c d e f g : Bool) (i : Nat) : Bool := match i with
  | 0 => a
  | 1 => b
  | 2 => c
  | 3 => d
  | 4 => e
  | 5 => f
  | _ => g
theorem b7_eq (p : Nat → Bool) {i : Nat} (h : i < 7) : p i = b7 (p 0) (p 1) (p 2) (p 3) (p 4) (p 5) (p 6) i := by
  match i, h with
  | 0, _ => rfl
  | 1, _ => rfl
  | 2, _ => rfl
  | 3, _ => rfl
  | 4, _ => rfl
  | 5, _ => rfl
  | 6, _ => rfl
theorem bt_dec : ∀ (m : Fin 8) (a b c d e f g : Bool), btI (bI (b7 a b c d e f g) m.1) = cI (b7 a b c d e f g) m.1 ∧ bcJ (bI (b7 a b c d e f g) m.1) = cI (b7 a b c d e f g) m.1 := by decide +kernel
theorem bt_c (p : Nat → Bool) {m : Nat} (hm : m ≤ 7) : btI (bI p m) = cI p m ∧ bcJ (bI p m) = cI p m := by
  rw [bI_eq (p := p) (q := b7 (p 0) (p 1) (p 2) (p 3) (p 4) (p 5) (p 6)) (fun i hi => b7_eq p (by omega)), cI_eq (p := p) (q := b7 (p 0) (p 1) (p 2) (p 3) (p 4) (p 5) (p 6)) (fun i hi => b7_eq p (by omega))]
  exact bt_dec ⟨m, by omega⟩ _ _ _ _ _ _ _
theorem bt_m {h : tp_H} (hm : hM h ≤ 7) (t : Int32) : btI (oAt h t) = mAt h t := (bt_c _ hm).1
