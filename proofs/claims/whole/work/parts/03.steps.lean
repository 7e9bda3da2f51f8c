/-! what each instruction's row must say; the judgement; straight steps -/
def tg_len : Instr → Nat
  | .bipush _ => 2
  | .sipush _ => 3
  | .ldc _ => 2
  | .ldc_w _ => 3
  | .ldc2_w _ => 3
  | .iload _ => 2
  | .aload _ => 2
  | .lload _ => 2
  | .istore _ => 2
  | .astore _ => 2
  | .lstore _ => 2
  | .iinc _ _ => 3
  | .getfield _ => 3
  | .putfield _ => 3
  | .getstatic _ => 3
  | .goto _ => 3
  | .ifCond _ _ => 3
  | .if_icmp _ _ => 3
  | .invokevirtual _ => 3
  | .invokestatic _ => 3
  | .invokespecial _ => 3
  | .new _ => 3
  | .newarray _ => 2
  | _ => 1
def tg_sw : Instr → Bool
  | .tableswitch .. => true
  | .lookupswitch .. => true
  | _ => false
def tg_gd : List Nat → Nat → Nat
  | [], _ => 0
  | a :: _, 0 => a
  | _ :: r, k + 1 => tg_gd r k
def tg_cls (ci : Nat) : vw_C := (vwCl[ci]?).getD ("", fun _ => ("", "", "", false), 0)
def tg_nMH (y : MethodName) : Bool := decide (y.cls ≠ "java/lang/invoke/MethodHandle" ∧ y.cls ≠ "java/lang/invoke/VarHandle")
def tg_ar (y : MethodName) (n : Nat) : Bool := decide ((parseMethodDescriptor y.desc).map (fun d => d.parameters.length) = some n)
def tg_okc (own : String) (idx : Nat) (ins : Instr) (f : List Nat) (y : MethodName) : Bool :=
  match tg_gd f 0 with
  | 0 => (match ins with | .invokevirtual _ => true | _ => false) && tg_nMH y && tg_ar y (tg_gd f 1) && decide (((vwCl[tg_gd f 2]?).map fun q => q.1) = some y.cls) && tg_is (tg_gd f 3) (tg_gd f 4) (.methodLink own idx y) && tg_is (tg_gd f 5) (tg_gd f 6) (.instanceMethod y) && tg_is (tg_gd f 7) (tg_gd f 8) (.selects y.cls y y) && tg_is (tg_gd f 9) (tg_gd f 10) (.initialized y.cls)
  | 1 => (match ins with | .invokestatic _ => true | _ => false) && tg_nMH y && tg_ar y (tg_gd f 1) && tg_is (tg_gd f 3) (tg_gd f 4) (.methodLink own idx y) && tg_is (tg_gd f 5) (tg_gd f 6) (.static y) && tg_is (tg_gd f 9) (tg_gd f 10) (.initialized y.cls)
  | 2 => (match ins with | .invokespecial _ => true | _ => false) && tg_nMH y && tg_ar y (tg_gd f 1) && decide (y.name = "<init>") && tg_is (tg_gd f 3) (tg_gd f 4) (.methodLink own idx y) && tg_is (tg_gd f 5) (tg_gd f 6) (.instanceMethod y) && tg_is (tg_gd f 9) (tg_gd f 10) (.initialized y.cls)
  | 3 => (match ins with | .invokespecial _ => true | _ => false) && tg_ar y (tg_gd f 1) && decide (y.name ≠ "<init>") && tg_is (tg_gd f 3) (tg_gd f 4) (.methodLink own idx y) && tg_is (tg_gd f 5) (tg_gd f 6) (.instanceMethod y) && tg_is (tg_gd f 7) (tg_gd f 8) (.superclass own y.cls) && tg_is (tg_gd f 9) (tg_gd f 10) (.initialized y.cls) && tg_is (tg_gd f 11) (tg_gd f 12) (.sameMethod y.cls y.cls y.name y.desc)
  | 4 => (match ins with | .invokestatic _ => true | _ => false) && tg_nMH y && tg_ar y (tg_gd f 1) && tg_isN (tg_gd f 3) (tg_gd f 4) (.methodLinkNest own idx y "TilesGoAbout") && tg_is (tg_gd f 5) (tg_gd f 6) (.static y) && tg_is (tg_gd f 9) (tg_gd f 10) (.initialized y.cls)
  | 5 => (match ins with | .invokevirtual _ => true | _ => false) && tg_ar y (tg_gd f 1) && tg_is (tg_gd f 3) (tg_gd f 4) (.methodLink own idx y)
  | _ => (match ins with | .invokespecial _ => true | _ => false) && decide (y = Lib.objectInit) && tg_is (tg_gd f 3) (tg_gd f 4) (.methodLink own idx y) && tg_is (tg_gd f 5) (tg_gd f 6) (.instanceMethod y) && tg_is (tg_gd f 9) (tg_gd f 10) (.code Lib.objectInit ⟨#[0xb1]⟩ 1 none)
def tg_okI (own mn : String) (mx pc : Nat) (ins : Instr) (f : List Nat) (y : MethodName) (v : Value) (cs : List (Int32 × Nat)) : Bool :=
  match ins with
  | .iconst n => decide (v = .int (Int32.ofInt n))
  | .bipush n => decide (v = .int (Int8.ofInt n).toInt32)
  | .sipush n => decide (v = .int (Int16.ofInt n).toInt32)
  | .lconst n => decide (v = .long (Int64.ofNat (n : Nat)))
  | .ldc idx => (match v with | .int x => tg_is (tg_gd f 0) (tg_gd f 1) (.constant own idx x) | _ => false)
  | .ldc_w idx => (match v with | .int x => tg_is (tg_gd f 0) (tg_gd f 1) (.constant own idx x) | _ => false)
  | .ldc2_w idx => (match v with | .long x => tg_is (tg_gd f 0) (tg_gd f 1) (.constantLong own idx x) | _ => false)
  | .iload_n k => decide ((k : Nat) = tg_gd f 0)
  | .aload_n k => decide ((k : Nat) = tg_gd f 0)
  | .lload_n k => decide ((k : Nat) = tg_gd f 0)
  | .iload k => decide (k = tg_gd f 0)
  | .aload k => decide (k = tg_gd f 0)
  | .lload k => decide (k = tg_gd f 0)
  | .istore_n k => decide ((k : Nat) = tg_gd f 0 ∧ tg_gd f 0 < mx)
  | .astore_n k => decide ((k : Nat) = tg_gd f 0 ∧ tg_gd f 0 < mx)
  | .lstore_n k => decide ((k : Nat) = tg_gd f 0 ∧ tg_gd f 0 + 1 < mx)
  | .istore k => decide (k = tg_gd f 0 ∧ tg_gd f 0 < mx)
  | .astore k => decide (k = tg_gd f 0 ∧ tg_gd f 0 < mx)
  | .lstore k => decide (k = tg_gd f 0 ∧ tg_gd f 0 + 1 < mx)
  | .iinc k n => decide (k = tg_gd f 0 ∧ tg_gd f 0 < mx ∧ v = .int (Int32.ofInt n))
  | .goto o => decide ((pc : Int) + o = (tg_gd f 0 : Nat))
  | .ifCond _ o => decide ((pc : Int) + o = (tg_gd f 0 : Nat))
  | .if_icmp _ o => decide ((pc : Int) + o = (tg_gd f 0 : Nat))
  | .getfield idx => decide (tg_gd f 0 < 12 ∧ tg_gd f 1 < (tg_cls (tg_gd f 0)).2.2) && tg_is (tg_gd f 2) (tg_gd f 3) (.fieldLink own idx ((tg_cls (tg_gd f 0)).2.1 (tg_gd f 1)).1 ((tg_cls (tg_gd f 0)).2.1 (tg_gd f 1)).2.1 ((tg_cls (tg_gd f 0)).2.1 (tg_gd f 1)).2.2.1)
  | .putfield idx => decide (tg_gd f 0 < 12 ∧ tg_gd f 1 < (tg_cls (tg_gd f 0)).2.2) && tg_is (tg_gd f 2) (tg_gd f 3) (.fieldLink own idx ((tg_cls (tg_gd f 0)).2.1 (tg_gd f 1)).1 ((tg_cls (tg_gd f 0)).2.1 (tg_gd f 1)).2.1 ((tg_cls (tg_gd f 0)).2.1 (tg_gd f 1)).2.2.1) && (match tg_gd f 4 with
    | 0 => decide (parseFieldDescriptor ((tg_cls (tg_gd f 0)).2.1 (tg_gd f 1)).2.2.1 = some .int ∧ ((tg_cls (tg_gd f 0)).2.1 (tg_gd f 1)).2.2.2 = false)
    | 1 => decide (parseFieldDescriptor ((tg_cls (tg_gd f 0)).2.1 (tg_gd f 1)).2.2.1 = some .boolean ∧ ((tg_cls (tg_gd f 0)).2.1 (tg_gd f 1)).2.2.2 = false)
    | _ => (match parseFieldDescriptor ((tg_cls (tg_gd f 0)).2.1 (tg_gd f 1)).2.2.1 with | some (.object _) => true | some (.array _) => true | _ => false) && decide (((tg_cls (tg_gd f 0)).2.1 (tg_gd f 1)).2.2.2 = true ∧ mn = "<init>" ∧ ((tg_cls (tg_gd f 0)).2.1 (tg_gd f 1)).1 = own))
  | .getstatic idx => decide (own = "TilesGoAbout$Letters") && tg_is (tg_gd f 0) (tg_gd f 1) (.fieldLink own idx "TilesGoAbout$Letters" "KIND_LETTERS" "[C")
  | .new idx => decide (tg_gd f 0 < 12) && tg_is (tg_gd f 1) (tg_gd f 2) (.classLink own idx (tg_cls (tg_gd f 0)).1) && tg_is (tg_gd f 3) (tg_gd f 4) (.instantiable (tg_cls (tg_gd f 0)).1 (tg_cls (tg_gd f 0)).2.2) && tg_is (tg_gd f 5) (tg_gd f 6) (.initialized (tg_cls (tg_gd f 0)).1)
  | .newarray t => decide (t = .int) && tg_is (tg_gd f 0) (tg_gd f 1) (.arrayClass .int)
  | .invokevirtual idx => tg_okc own idx ins f y
  | .invokestatic idx => tg_okc own idx ins f y
  | .invokespecial idx => tg_okc own idx ins f y
  | .tableswitch d lo hi os => decide ((pc : Int) + d = (tg_gd f 0 : Nat)) && decide (hi + 1 - lo = (cs.length : Int) ∧ cs.length = os.size ∧ cs.map (fun q => q.1.toInt) = (List.range cs.length).map (fun j : Nat => lo + (j : Int)) ∧ os.toList.map (fun o => (pc : Int) + o) = cs.map (fun q => (q.2 : Int)))
  | .lookupswitch d ps => decide ((pc : Int) + d = (tg_gd f 0 : Nat)) && (ps.toList.zip (ps.toList.drop 1)).all (fun (a, next) => a.1 < next.1) && decide (ps.toList.map (fun q => (q.1, (pc : Int) + q.2)) = cs.map (fun q => (q.1.toInt, (q.2 : Int))))
  | _ => true
def tg_okE (m : tg_M) (q : tg_E) : Bool :=
  decide (decode m.2.1 q.1 = .ok (q.2.1, q.2.2.1 - q.1)) && (tg_sw q.2.1 || Nat.beq q.2.2.1 (q.1 + tg_len q.2.1)) && tg_okI m.1.cls m.1.name m.2.2.1 q.1 q.2.1 q.2.2.2.1 q.2.2.2.2.1 q.2.2.2.2.2.1 q.2.2.2.2.2.2
def tg_ok (m : tg_M) : Bool :=
  plainName m.1.cls && decide (m.2.2.1 ≤ 21) && m.2.2.2.2.2.all (fun ch => ch.2.all (tg_okE m))
def tg_okM (m : tg_M) : Bool := tg_is m.2.2.2.2.1.1 m.2.2.2.2.1.2 (.code m.1 m.2.1 m.2.2.1 m.2.2.2.1) && tg_ok m
def tg_wd (m : tg_M) : List Jvm.Cond := Jvm.Cond.code m.1 m.2.1 m.2.2.1 m.2.2.2.1 :: tg_GW
theorem tg_ok_code {m : tg_M} (h : tg_okM m = true) : Jvm.Cond.code m.1 m.2.1 m.2.2.1 m.2.2.2.1 ∈ tg_GW := by
  simp only [tg_okM, Bool.and_eq_true] at h
  exact tg_is_mem h.1
theorem tg_okM_ok {m : tg_M} (h : tg_okM m = true) : tg_ok m = true := by
  simp only [tg_okM, Bool.and_eq_true] at h
  exact h.2
theorem tg_ok_mx {m : tg_M} (h : tg_ok m = true) : m.2.2.1 ≤ 21 := by
  simp only [tg_ok, Bool.and_eq_true, decide_eq_true_eq] at h
  exact h.1.2
theorem tg_ok_plain {m : tg_M} (h : tg_ok m = true) : plainName m.1.cls = true := by
  simp only [tg_ok, Bool.and_eq_true] at h
  exact h.1.1
theorem tg_ok_E {m : tg_M} (h : tg_ok m = true) {pc : Nat} {e : tg_Er} (he : tg_f m.2.2.2.2.2 pc = some e) : tg_okE m (pc, e) = true := by
  simp only [tg_ok, Bool.and_eq_true] at h
  obtain ⟨q, h1, h2⟩ := tg_f_mem he
  exact List.all_eq_true.mp (List.all_eq_true.mp h.2 q h1) (pc, e) h2
theorem tg_dec {m : tg_M} (h : tg_ok m = true) {pc : Nat} {ins : Instr} {nx : Nat} {f : List Nat} {y : MethodName} {v : Value} {cs : List (Int32 × Nat)} (he : tg_f m.2.2.2.2.2 pc = some (ins, nx, f, y, v, cs)) :
    decode m.2.1 pc = .ok (ins, nx - pc) ∧ (tg_sw ins = true ∨ nx = pc + tg_len ins) ∧ tg_okI m.1.cls m.1.name m.2.2.1 pc ins f y v cs = true := by
  have h1 := tg_ok_E h he
  simp only [tg_okE, Bool.and_eq_true, decide_eq_true_eq, Bool.or_eq_true] at h1
  refine ⟨h1.1.1, ?_, h1.2⟩
  rcases h1.1.2 with q | q
  · exact Or.inl q
  · exact Or.inr (Nat.eq_of_beq_eq_true q)
/-- the machine at a method's body -/
def tg_Ctx (G : tg_G) (lv : Nat) (m : tg_M) (mc ms : Nat) (p : Program) (R : Room) (s : State) (mi : MethodId) (args : Array Value) (meth : Method) (c : Code) : Prop :=
  tg_ok m = true ∧ p.tables.exec = Jvm.exec ∧ c.code = m.2.1 ∧ c.maxLocals = m.2.2.1 ∧ meth.sig.returnType = m.2.2.2.1 ∧ meth.locks = false ∧ meth.name = m.1.name ∧ s.vm.findClass m.1.cls = some mi.cls ∧ (∀ w ∈ tg_GW, w.before args s = true) ∧ tg_fix G s ∧ G.1 ≤ s.heap.size ∧ (lv ≤ R.frames ∧ 40 * lv ≤ R.locals ∧ mc ≤ R.cells ∧ ms ≤ R.slots)
def tg_Qc (G : tg_G) (Q : Option Value → tg_W → Prop) : Array Value → State → Outcome → State → Prop := fun _ st oc t =>
  (∃ (r : Option Value) (w : tg_W), oc = .returned (r.map (tg_v G)) ∧ Q r w ∧ tg_R G w t.heap) ∧ va_F (fun q => G.1 ≤ q) st t
def tg_ml (G : tg_G) (L : List (Nat × Value)) : List (Nat × Value) := L.map fun q => (q.1, tg_v G q.2)
def tg_V (G : tg_G) (lv : Nat) (m : tg_M) (kc ks mc ms : Nat) (Q : Option Value → tg_W → Prop) (pc : Nat) (L : List (Nat × Value)) (st : List Value) (w : tg_W) : Prop :=
  ∀ (p : Program) (l : Launch) (en : Env) (R : Room) (s : State) (mi : MethodId) (args : Array Value) (below : List Frame) (meth : Method) (c : Code) (H : Heap) (locs : List Loc) (ls : Array Slot),
    tg_Ctx G lv m mc ms p R s mi args meth c → va_S (fun q => G.1 ≤ q) s.heap H locs → tg_R G w H → lv_has ls m.2.2.1 (tg_ml G L) →
    W p l en R s mi args below meth c H locs kc ks (MQ below (tg_Qc G Q) args s mc ms (fun q => G.1 ≤ q)) (F0 mi pc ls (st.map (tg_v G)))
def tg_get : List (Nat × Value) → Nat → Option Value
  | [], _ => none
  | q :: r, k => bif Nat.beq q.1 k then some q.2 else tg_get r k
theorem tg_get_mem {L : List (Nat × Value)} {k : Nat} {u : Value} (h : tg_get L k = some u) : (k, u) ∈ L := by
  induction L with
  | nil => cases h
  | cons q r ih =>
    unfold tg_get at h
    cases hb : Nat.beq q.1 k with
    | true =>
      rw [hb] at h
      have e1 := Nat.eq_of_beq_eq_true hb
      have e2 : q.2 = u := Option.some.inj h
      subst e1; subst e2
      exact List.mem_cons_self
    | false =>
      rw [hb] at h
      exact List.mem_cons_of_mem _ (ih h)
theorem tg_get_ls {G : tg_G} {ls : Array Slot} {n : Nat} {L : List (Nat × Value)} (hl : lv_has ls n (tg_ml G L)) {k : Nat} {u : Value} (h : tg_get L k = some u) : ls[k]? = some (.val (tg_v G u)) :=
  hl.2.2 (k, tg_v G u) (List.mem_map.mpr ⟨(k, u), tg_get_mem h, rfl⟩)
def tg_ins (i : Nat) (v : Value) : List (Nat × Value) → List (Nat × Value)
  | [] => [(i, v)]
  | q :: r => bif Nat.blt q.1 i then q :: tg_ins i v r else (i, v) :: q :: r
theorem tg_ins_mem {i : Nat} {v : Value} {L : List (Nat × Value)} {q : Nat × Value} (h : q ∈ tg_ins i v L) : q = (i, v) ∨ q ∈ L := by
  induction L with
  | nil => exact Or.inl (List.mem_singleton.mp h)
  | cons a r ih =>
    unfold tg_ins at h
    cases hb : Nat.blt a.1 i with
    | true =>
      rw [hb] at h
      rcases List.mem_cons.mp h with rfl | h
      · exact Or.inr List.mem_cons_self
      · exact (ih h).imp id (List.mem_cons_of_mem _)
    | false =>
      rw [hb] at h
      rcases List.mem_cons.mp h with rfl | h
      · exact Or.inl rfl
      · exact Or.inr h
/-- a value of one slot is put in; of two slots -/
def tg_set1 : List (Nat × Value) → Nat → List (Nat × Value)
  | [], _ => []
  | q :: r, i => bif Nat.beq q.1 i then tg_set1 r i else bif (Nat.beq (q.1 + 1) i && Nat.beq q.2.category 2) then tg_set1 r i else q :: tg_set1 r i
def tg_set (L : List (Nat × Value)) (i : Nat) (v : Value) : List (Nat × Value) := tg_ins i v (tg_set1 L i)
def tg_set2 (L : List (Nat × Value)) (i : Nat) (v : Value) : List (Nat × Value) := tg_ins i v (tg_set1 (tg_set1 L (i + 1)) i)
theorem tg_set1_mem {L : List (Nat × Value)} {i : Nat} {q : Nat × Value} (h : q ∈ tg_set1 L i) : q ∈ L ∧ q.1 ≠ i ∧ ¬ (q.1 + 1 = i ∧ q.2.category = 2) := by
  induction L with
  | nil => cases h
  | cons a r ih =>
    unfold tg_set1 at h
    cases hb : Nat.beq a.1 i with
    | true =>
      rw [hb] at h
      have h2 := ih h
      exact ⟨List.mem_cons_of_mem _ h2.1, h2.2⟩
    | false =>
      rw [hb] at h
      cases hc : (Nat.beq (a.1 + 1) i && Nat.beq a.2.category 2) with
      | true =>
        rw [hc] at h
        have h2 := ih h
        exact ⟨List.mem_cons_of_mem _ h2.1, h2.2⟩
      | false =>
        rw [hc] at h
        rcases List.mem_cons.mp h with rfl | h
        · refine ⟨List.mem_cons_self, fun e => ?_, fun e => ?_⟩
          · rw [show Nat.beq q.1 i = true from by rw [e]; exact Nat.beq_refl i] at hb
            cases hb
          · rw [e.1, e.2, Nat.beq_refl, Nat.beq_refl] at hc
            cases hc
        · have h2 := ih h
          exact ⟨List.mem_cons_of_mem _ h2.1, h2.2⟩
theorem tg_vcat (G : tg_G) (v : Value) : (tg_v G v).category = v.category := by cases v <;> rfl
theorem tg_has_sub {ls : Array Slot} {n : Nat} {l l' : List (Nat × Value)} (h : lv_has ls n l) (hs : ∀ q ∈ l', q ∈ l) : lv_has ls n l' := ⟨h.1, h.2.1, fun q hq => h.2.2 q (hs q hq)⟩
theorem tg_set_sub (G : tg_G) (L : List (Nat × Value)) (i : Nat) (v : Value) : ∀ q ∈ tg_ml G (tg_set L i v), q ∈ (i, tg_v G v) :: (tg_ml G L).filter (fun q => !(q.1 == i) && !(q.1 + 1 == i && q.2.category == 2)) := by
  intro q hq
  obtain ⟨a, ha, rfl⟩ := List.mem_map.mp hq
  rcases tg_ins_mem ha with rfl | ha
  · exact List.mem_cons_self
  · obtain ⟨h1, h2, h3⟩ := tg_set1_mem ha
    refine List.mem_cons_of_mem _ (List.mem_filter.mpr ⟨List.mem_map.mpr ⟨a, h1, rfl⟩, ?_⟩)
    simp only [tg_vcat]
    simp only [Bool.and_eq_true, Bool.not_eq_true', beq_eq_false_iff_ne, ne_eq, Bool.and_eq_false_iff]
    refine ⟨h2, ?_⟩
    by_cases e : a.1 + 1 = i
    · exact Or.inr (fun z => h3 ⟨e, z⟩)
    · exact Or.inl e
theorem tg_set2_sub (G : tg_G) (L : List (Nat × Value)) (i : Nat) (v : Value) : ∀ q ∈ tg_ml G (tg_set2 L i v), q ∈ (i, tg_v G v) :: (tg_ml G L).filter (fun q => !(q.1 == i) && (!(q.1 == i + 1) && !(q.1 + 1 == i && q.2.category == 2))) := by
  intro q hq
  obtain ⟨a, ha, rfl⟩ := List.mem_map.mp hq
  rcases tg_ins_mem ha with rfl | ha
  · exact List.mem_cons_self
  · obtain ⟨h0, h2, h3⟩ := tg_set1_mem ha
    obtain ⟨h1, h4, -⟩ := tg_set1_mem h0
    refine List.mem_cons_of_mem _ (List.mem_filter.mpr ⟨List.mem_map.mpr ⟨a, h1, rfl⟩, ?_⟩)
    simp only [tg_vcat]
    simp only [Bool.and_eq_true, Bool.not_eq_true', beq_eq_false_iff_ne, ne_eq, Bool.and_eq_false_iff]
    refine ⟨h2, h4, ?_⟩
    by_cases e : a.1 + 1 = i
    · exact Or.inr (fun z => h3 ⟨e, z⟩)
    · exact Or.inl e
/-- a straight step: the next place, locals, stack, world -/
abbrev tg_S : Type := Nat × List (Nat × Value) × List Value × tg_W
def tg_ex (ins : Instr) (nx : Nat) (f : List Nat) (v : Value) (L : List (Nat × Value)) (st : List Value) (w : tg_W) : Option tg_S :=
  match ins with
  | .iconst _ => some (nx, L, v :: st, w)
  | .bipush _ => some (nx, L, v :: st, w)
  | .sipush _ => some (nx, L, v :: st, w)
  | .lconst _ => some (nx, L, v :: st, w)
  | .ldc _ => some (nx, L, v :: st, w)
  | .ldc_w _ => some (nx, L, v :: st, w)
  | .ldc2_w _ => some (nx, L, v :: st, w)
  | .iload_n _ => match tg_get L (tg_gd f 0) with
    | some (.int x) => some (nx, L, .int x :: st, w)
    | _ => none
  | .iload _ => match tg_get L (tg_gd f 0) with
    | some (.int x) => some (nx, L, .int x :: st, w)
    | _ => none
  | .aload_n _ => match tg_get L (tg_gd f 0) with
    | some (.ref x) => some (nx, L, .ref x :: st, w)
    | _ => none
  | .aload _ => match tg_get L (tg_gd f 0) with
    | some (.ref x) => some (nx, L, .ref x :: st, w)
    | _ => none
  | .lload_n _ => match tg_get L (tg_gd f 0) with
    | some (.long x) => some (nx, L, .long x :: st, w)
    | _ => none
  | .lload _ => match tg_get L (tg_gd f 0) with
    | some (.long x) => some (nx, L, .long x :: st, w)
    | _ => none
  | .istore_n _ => match st with
    | .int x :: r => some (nx, tg_set L (tg_gd f 0) (.int x), r, w)
    | _ => none
  | .istore _ => match st with
    | .int x :: r => some (nx, tg_set L (tg_gd f 0) (.int x), r, w)
    | _ => none
  | .astore_n _ => match st with
    | .ref x :: r => some (nx, tg_set L (tg_gd f 0) (.ref x), r, w)
    | _ => none
  | .astore _ => match st with
    | .ref x :: r => some (nx, tg_set L (tg_gd f 0) (.ref x), r, w)
    | _ => none
  | .lstore_n _ => match st with
    | .long x :: r => some (nx, tg_set2 L (tg_gd f 0) (.long x), r, w)
    | _ => none
  | .lstore _ => match st with
    | .long x :: r => some (nx, tg_set2 L (tg_gd f 0) (.long x), r, w)
    | _ => none
  | .iinc _ _ => match v with
    | .int d => match tg_get L (tg_gd f 0) with
      | some (.int x) => some (nx, tg_set L (tg_gd f 0) (.int (x + d)), st, w)
      | _ => none
    | _ => none
  | .iadd => match st with
    | .int y :: .int x :: r => some (nx, L, .int (x + y) :: r, w)
    | _ => none
  | .isub => match st with
    | .int y :: .int x :: r => some (nx, L, .int (x - y) :: r, w)
    | _ => none
  | .imul => match st with
    | .int y :: .int x :: r => some (nx, L, .int (x * y) :: r, w)
    | _ => none
  | .iand => match st with
    | .int y :: .int x :: r => some (nx, L, .int (x &&& y) :: r, w)
    | _ => none
  | .ior => match st with
    | .int y :: .int x :: r => some (nx, L, .int (x ||| y) :: r, w)
    | _ => none
  | .ixor => match st with
    | .int y :: .int x :: r => some (nx, L, .int (x ^^^ y) :: r, w)
    | _ => none
  | .ishl => match st with
    | .int y :: .int x :: r => some (nx, L, .int (x <<< (y &&& 31)) :: r, w)
    | _ => none
  | .ishr => match st with
    | .int y :: .int x :: r => some (nx, L, .int (x >>> (y &&& 31)) :: r, w)
    | _ => none
  | .iushr => match st with
    | .int y :: .int x :: r => some (nx, L, .int ((x.toUInt32 >>> (y.toUInt32 &&& Int32.toUInt32 31)).toInt32) :: r, w)
    | _ => none
  | .ladd => match st with
    | .long y :: .long x :: r => some (nx, L, .long (x + y) :: r, w)
    | _ => none
  | .lsub => match st with
    | .long y :: .long x :: r => some (nx, L, .long (x - y) :: r, w)
    | _ => none
  | .lmul => match st with
    | .long y :: .long x :: r => some (nx, L, .long (x * y) :: r, w)
    | _ => none
  | .lcmp => match st with
    | .long y :: .long x :: r => some (nx, L, .int (lg_cmp x y) :: r, w)
    | _ => none
  | .ineg => match st with
    | .int x :: r => some (nx, L, .int (-x) :: r, w)
    | _ => none
  | .i2l => match st with
    | .int x :: r => some (nx, L, .long x.toInt64 :: r, w)
    | _ => none
  | .dup => match st with
    | .int x :: r => some (nx, L, .int x :: .int x :: r, w)
    | .ref x :: r => some (nx, L, .ref x :: .ref x :: r, w)
    | _ => none
  | .dup2 => match st with
    | .int y :: .int x :: r => some (nx, L, .int y :: .int x :: .int y :: .int x :: r, w)
    | .int y :: .ref x :: r => some (nx, L, .int y :: .ref x :: .int y :: .ref x :: r, w)
    | _ => none
  | .pop => match st with
    | .int _ :: r => some (nx, L, r, w)
    | _ => none
  | .goto _ => some (tg_gd f 0, L, st, w)
  | .idiv => match st with
    | .int y :: .int x :: r => bif decide (y = 0) then none else some (nx, L, .int (x / y) :: r, w)
    | _ => none
  | .irem => match st with
    | .int y :: .int x :: r => bif decide (y = 0) then none else some (nx, L, .int (x % y) :: r, w)
    | _ => none
  | .arraylength => match st with
    | .ref a :: r => match tg_lk w a with
      | some (.inr q) => some (nx, L, .int (nI q.1) :: r, w)
      | _ => none
    | _ => none
  | .putfield _ => match st with
    | .int x :: .ref a :: r => match tg_lk w a with
      | some (.inl o) => bif (Nat.beq o.1 (tg_gd f 0) && Nat.blt (tg_gd f 1) o.2.length && Nat.beq (tg_gd f 4) 0) then some (nx, L, r, tg_up w a (.inl (o.1, tg_setn o.2 (tg_gd f 1) (.int x)))) else none
      | _ => none
    | .ref x :: .ref a :: r => match tg_lk w a with
      | some (.inl o) => bif (Nat.beq o.1 (tg_gd f 0) && Nat.blt (tg_gd f 1) o.2.length && Nat.beq (tg_gd f 4) 2) then some (nx, L, r, tg_up w a (.inl (o.1, tg_setn o.2 (tg_gd f 1) (.ref x)))) else none
      | _ => none
    | _ => none
  | .getfield _ => match st with
    | .ref a :: r => match tg_lk w a with
      | some (.inl o) => bif Nat.beq o.1 (tg_gd f 0) then match tg_nth o.2 (tg_gd f 1) with
          | some u => some (nx, L, u :: r, w)
          | none => none
        else none
      | _ => none
    | _ => none
  | _ => none
