theorem jLays {i : Nat} {q : vw_C} (hq : vwCl[i]? = some q) : ∀ w ∈ u_ws q.1 q.2.1 q.2.2, w ∈ lw_tbl ∧ goodWord w = true := by
  intro w hw
  have key : ∀ {R : String} {T : u_T} {n : Nat}, (u_ws R T n).all (fun w => decide (w ∈ lw_tbl) && goodWord w) = true → w ∈ u_ws R T n → w ∈ lw_tbl ∧ goodWord w = true := fun h h2 => by
    have h1 := List.all_eq_true.mp h w h2
    simp only [Bool.and_eq_true, decide_eq_true_eq] at h1
    exact h1
  match i, hq with
  | 0, hq => cases hq; exact key jLay_J0 hw
  | 1, hq => cases hq; exact key jLay_J4 hw
  | 2, hq => cases hq; exact key jLay_Jx4a65c hw
  | 3, hq => cases hq; exact key jLay_X0 hw
  | 4, hq => cases hq; exact key jLay_X1 hw
  | 5, hq => cases hq; exact key jLay_X2 hw
  | 6, hq => cases hq; exact key jLay_X3 hw
  | 7, hq => cases hq; exact key jLay_X4 hw
  | 8, hq => cases hq; exact key jLay_X5 hw
  | 9, hq => cases hq; exact key jLay_X6 hw
  | 10, hq => cases hq; exact key jLay_X7 hw
  | 11, hq => cases hq; exact key jLay_X8 hw
  | 12, hq => cases hq; exact key jLay_X9 hw
  | 13, hq => cases hq; exact key jLay_X10 hw
  | 14, hq => cases hq; exact key jLay_X11 hw
  | 15, hq => cases hq; exact key jLay_X12 hw
  | i + 16, hq => simp [vwCl] at hq
theorem jNm {i : Nat} {q : vw_C} (hq : vwCl[i]? = some q) : ∀ a, a < q.2.2 → ∀ b, b < q.2.2 → a ≠ b → (q.2.1 a).2.1 ≠ (q.2.1 b).2.1 := by
  match i, hq with
  | 0, hq => cases hq; exact nmJ0
  | 1, hq => cases hq; exact nmJ4
  | 2, hq => cases hq; exact nmJx4a65c
  | 3, hq => cases hq; exact nmX0
  | 4, hq => cases hq; exact nmX1
  | 5, hq => cases hq; exact nmX2
  | 6, hq => cases hq; exact nmX3
  | 7, hq => cases hq; exact nmX4
  | 8, hq => cases hq; exact nmX5
  | 9, hq => cases hq; exact nmX6
  | 10, hq => cases hq; exact nmX7
  | 11, hq => cases hq; exact nmX8
  | 12, hq => cases hq; exact nmX9
  | 13, hq => cases hq; exact nmX10
  | 14, hq => cases hq; exact nmX11
  | 15, hq => cases hq; exact nmX12
  | i + 16, hq => simp [vwCl] at hq
theorem jTyOk {i : Nat} {q : vw_C} (hq : vwCl[i]? = some q) : ∀ k, k < q.2.2 → parseFieldDescriptor (q.2.1 k).2.2.1 = some (jTy (i + 1) k) := by
  match i, hq with
  | 0, hq => cases hq; exact tyJ0_ok
  | 1, hq => cases hq; exact tyJ4_ok
  | 2, hq => cases hq; exact tyJx4a65c_ok
  | 3, hq => cases hq; exact tyX0_ok
  | 4, hq => cases hq; exact tyX1_ok
  | 5, hq => cases hq; exact tyX2_ok
  | 6, hq => cases hq; exact tyX3_ok
  | 7, hq => cases hq; exact tyX4_ok
  | 8, hq => cases hq; exact tyX5_ok
  | 9, hq => cases hq; exact tyX6_ok
  | 10, hq => cases hq; exact tyX7_ok
  | 11, hq => cases hq; exact tyX8_ok
  | 12, hq => cases hq; exact tyX9_ok
  | 13, hq => cases hq; exact tyX10_ok
  | 14, hq => cases hq; exact tyX11_ok
  | 15, hq => cases hq; exact tyX12_ok
  | i + 16, hq => simp [vwCl] at hq

def jTys : List FieldType := [.int, .long, .byte, .boolean, .array .int, .object "ScrapYard$Heap", .object "java/lang/Object"]
/-- an array's row in the tables -/
def jAr (U : State) (cA : ClassId) (ty : FieldType) : Prop := U.vm.findClass ("[" ++ ty.toString) = some cA ∧ ∃ (kA : Class) (comp : ClassId), U.vm.classes[cA]? = some kA ∧ kA.kind = .array comp ty ∧ ∀ C, ty = .object C → U.vm.findClass C = some comp
theorem jAr.moved {u U : State} (hvm : u.vm.Alike U.vm) {cA : ClassId} {ty : FieldType} (h : jAr u cA ty) : jAr U cA ty := by
  obtain ⟨h1, kA, comp, h2, h3, h4⟩ := h
  obtain ⟨k', hk', he⟩ := hvm.2.2 _ _ h2
  exact ⟨by rw [hvm.findClass]; exact h1, k', comp, hk', by rw [he]; exact h3, fun C e => by rw [hvm.findClass]; exact h4 C e⟩
theorem jAr.of {U : State} {cA : ClassId} {ty : FieldType} (h : jAr U cA ty) : ArrOfT U cA ty := by
  obtain ⟨-, kA, comp, h2, h3, -⟩ := h
  exact fun n z => ⟨fun k h => (by cases h), kA, h2, comp, h3⟩
def jKs : List (Nat × Term) := [(0, .static "java/util/ArrayList" "DEFAULTCAPACITY_EMPTY_ELEMENTDATA" "[Ljava/lang/Object;"), (1, .string "ScrapYard$ContractReader" 29), (2, .string "ScrapYard$ContractReader" 39), (3, .string "ScrapYard$ContractReader" 92), (4, .string "ScrapYard$ContractReader" 116), (5, .string "ScrapYard$ContractReader" 118), (6, .string "ScrapYard$ContractReader" 120), (7, .string "ScrapYard$ContractReader" 122), (8, .string "ScrapYard$ContractReader" 124), (9, .string "java/lang/StringLatin1" 151), (40, .mirror "[Ljava/lang/Object;")]
def jF (γ : jG) : Prop := γ.l.stackTraces = false ∧ (∃ A : Array Value, (∀ w ∈ lw_tbl, w.before A γ.s = true) ∧ (Jvm.Cond.and given_1 narrow_1).before A γ.s = true ∧ ∀ q ∈ jKs, q.2.eval A γ.s none [] γ.s = some (.ref (γ.K q.1))) ∧ va_K γ.D vwCl [] γ.s ∧ ∀ ty ∈ jTys, jAr γ.s (γ.E ty) ty
abbrev jMth : Type := MethodName × ByteArray × Nat × Option FieldType × List (Nat × Nat × Nat × Nat) × Nat × (Nat → Option (Instr × Nat))
abbrev jMth.y (μ : jMth) : MethodName := μ.1
abbrev jMth.cc (μ : jMth) : ByteArray := μ.2.1
abbrev jMth.mL (μ : jMth) : Nat := μ.2.2.1
abbrev jMth.ret (μ : jMth) : Option FieldType := μ.2.2.2.1
abbrev jMth.hh (μ : jMth) : List (Nat × Nat × Nat × Nat) := μ.2.2.2.2.1
abbrev jMth.np (μ : jMth) : Nat := μ.2.2.2.2.2.1
abbrev jMth.cm (μ : jMth) : Nat → Option (Instr × Nat) := μ.2.2.2.2.2.2
def jC (γ : jG) (μ : jMth) (p : Program) (s : State) (m : MethodId) (meth : Method) (c : Code) : Prop :=
  p.tables.exec = Jvm.exec ∧ c.code = μ.cc ∧ c.maxLocals = μ.mL ∧ meth.sig.returnType = μ.ret ∧ meth.locks = false ∧ s.vm.findClass μ.y.cls = some m.cls ∧ meth.name = μ.y.name ∧ c.exceptionTable.toList = tableOf μ.hh ∧ γ.s.WarmedH s.vm ∧ γ.base ≤ s.heap.size ∧ (∀ q, q < γ.base → s.heap[q]? = γ.s.heap[q]?) ∧ jF γ ∧ ∀ pc x, μ.cm pc = some x → decode μ.cc pc = .ok x
section JC
variable {γ : jG} {μ : jMth} {p : Program} {s : State} {m : MethodId} {meth : Method} {c : Code}
theorem jC.hx (C : jC γ μ p s m meth c) : p.tables.exec = Jvm.exec := C.1
theorem jC.hb (C : jC γ μ p s m meth c) : c.code = μ.cc := C.2.1
theorem jC.hml (C : jC γ μ p s m meth c) : c.maxLocals = μ.mL := C.2.2.1
theorem jC.hr (C : jC γ μ p s m meth c) : meth.sig.returnType = μ.ret := C.2.2.2.1
theorem jC.locks (C : jC γ μ p s m meth c) : meth.locks = false := C.2.2.2.2.1
theorem jC.hown (C : jC γ μ p s m meth c) : s.vm.findClass μ.y.cls = some m.cls := C.2.2.2.2.2.1
theorem jC.nm (C : jC γ μ p s m meth c) : meth.name = μ.y.name := C.2.2.2.2.2.2.1
theorem jC.tab (C : jC γ μ p s m meth c) : c.exceptionTable.toList = tableOf μ.hh := C.2.2.2.2.2.2.2.1
theorem jC.warm (C : jC γ μ p s m meth c) : γ.s.WarmedH s.vm := C.2.2.2.2.2.2.2.2.1
theorem jC.base (C : jC γ μ p s m meth c) : γ.base ≤ s.heap.size := C.2.2.2.2.2.2.2.2.2.1
theorem jC.old (C : jC γ μ p s m meth c) : ∀ q, q < γ.base → s.heap[q]? = γ.s.heap[q]? := C.2.2.2.2.2.2.2.2.2.2.1
theorem jC.F (C : jC γ μ p s m meth c) : jF γ := C.2.2.2.2.2.2.2.2.2.2.2.1
theorem jC.dec (C : jC γ μ p s m meth c) {pc : Nat} {x : Instr × Nat} (h : μ.cm pc = some x) : decode μ.cc pc = .ok x := C.2.2.2.2.2.2.2.2.2.2.2.2 pc x h
theorem jC.w (C : jC γ μ p s m meth c) {w : Cond} (hw : w ∈ lw_tbl) (hg : goodWord w = true) {args : Array Value} : w.before args s = true := by
  obtain ⟨A, h, -⟩ := C.F.2.1
  exact word_at C.warm (good_of_word hg) (h w hw)
theorem jC.wN (C : jC γ μ p s m meth c) {a : String} {i : Nat} {b n d h : String} (hw : Cond.fieldLinkNest a i b n d h ∈ lw_tbl) {args : Array Value} : (Cond.fieldLinkNest a i b n d h).before args s = true := by
  obtain ⟨A, h, -⟩ := C.F.2.1
  exact (va_Nw.warmF C.warm (va_Nw.of rfl (h _ hw))).use rfl
theorem jC.wM (C : jC γ μ p s m meth c) {a : String} {i : Nat} {x : MethodName} {h : String} (hw : Cond.methodLinkNest a i x h ∈ lw_tbl) {args : Array Value} : (Cond.methodLinkNest a i x h).before args s = true := by
  obtain ⟨A, h, -⟩ := C.F.2.1
  exact (va_Nw.warmM C.warm (va_Nw.of rfl (h _ hw))).use rfl
theorem jC.K (C : jC γ μ p s m meth c) : va_K γ.D vwCl [] s := va_K.moved C.warm.alike C.F.2.2.1
theorem jC.A (C : jC γ μ p s m meth c) {ty : FieldType} (h : ty ∈ jTys) : jAr s (γ.E ty) ty := (C.F.2.2.2 ty h).moved C.warm.alike
end JC
def jRm (f mc ms : Nat) : Room := { frames := f, cells := mc, slots := ms, locals := f * 64 }
def jPc (γ : jG) (a : List Value) (h : jM) : Array Value → State → Prop := fun v U => v = a.toArray ∧ γ.s.WarmedH U.vm ∧ jRH γ h U.heap ∧ jF γ
def jQc (γ : jG) (Q : Option Value → jM → Prop) : Array Value → State → Outcome → State → Prop := fun _ _ o t => ∃ r h', o = .returned r ∧ Q r h' ∧ jRH γ h' t.heap
def jXc (γ : jG) (X : String → jM → Prop) : String → State → State → Prop := fun E _ t => ∃ h', X E h' ∧ jRH γ h' t.heap
def jFree (γ : jG) : Addr → Prop := fun q => γ.base ≤ q
def jWord (μ : jMth) : Cond := match μ.hh with
  | [] => .code μ.y μ.cc μ.mL μ.ret
  | _ => .codeWith μ.y μ.cc μ.mL μ.ret μ.hh
/-- the contract of a method: called with a in the memory h it returns with Q or throws with X; at most mc cells of ms slots are new -/
def CT (γ : jG) (μ : jMth) (f mc ms : Nat) (a : List Value) (h : jM) (Q : Option Value → jM → Prop) (X : String → jM → Prop) : Prop :=
  vx_Met γ.l μ.y [jWord μ] (jRm f mc ms) (jPc γ a h) (jQc γ Q) (jXc γ X) mc ms (jFree γ)
/-- the method stands at pc with locals lv and stack st in the memory h; it will end with Q or X -/
def J (γ : jG) (μ : jMth) (f mc ms cells slots : Nat) (h : jM) (pc : Nat) (lv : List (Nat × Value)) (st : List Value) (Q : Option Value → jM → Prop) (X : String → jM → Prop) : Prop :=
  ∀ (p : Program) (e : Env) (s : State) (m : MethodId) (args : Array Value) (below : List Frame) (meth : Method) (c : Code), jC γ μ p s m meth c →
  ∀ (H : Heap) (locs : List Loc) (ls : Array Slot), jRH γ h H → s.heap.size ≤ H.size → (∀ q ∈ locs, γ.base ≤ q.base) → lv_has ls μ.mL lv →
    W p γ.l e (jRm f mc ms) s m args below meth c H locs cells slots (vx_MQ below (jQc γ Q) (jXc γ X) args s mc ms (jFree γ)) (F0 m pc ls st)
def jGet : List (Nat × Value) → Nat → Option Value
  | [], _ => none
  | (i, v) :: t, k => bif Nat.beq i k then some v else jGet t k
theorem jGet_in : ∀ {lv : List (Nat × Value)} {i : Nat} {v : Value}, jGet lv i = some v → (i, v) ∈ lv
  | [], _, _, h => by simp [jGet] at h
  | (j, w) :: t, i, v, h => by
    unfold jGet at h
    cases e : Nat.beq j i with
    | true =>
      rw [e] at h
      simp only [cond_true, Option.some.injEq] at h
      rw [Nat.eq_of_beq_eq_true e, h]
      exact List.mem_cons_self
    | false =>
      rw [e] at h
      exact List.mem_cons_of_mem _ (jGet_in h)
theorem jGet_at {ls : Array Slot} {nL i : Nat} {lv : List (Nat × Value)} {v : Value} (h : lv_has ls nL lv) (hg : jGet lv i = some v) : ls[i]? = some (.val v) := h.2.2 (i, v) (jGet_in hg)
def jPut : List (Nat × Value) → Nat → Value → List (Nat × Value)
  | [], i, v => [(i, v)]
  | (j, w) :: t, i, v => bif Nat.blt i j then (i, v) :: (j, w) :: t else (j, w) :: jPut t i v
theorem jPut_in : ∀ {lv : List (Nat × Value)} {i : Nat} {v : Value} {q : Nat × Value}, q ∈ jPut lv i v → q = (i, v) ∨ q ∈ lv
  | [], i, v, q, h => by
    simp [jPut] at h
    exact Or.inl h
  | (j, w) :: t, i, v, q, h => by
    unfold jPut at h
    cases e : Nat.blt i j with
    | true =>
      rw [e] at h
      simp only [cond_true, List.mem_cons] at h
      rcases h with h | h | h
      · exact Or.inl h
      · exact Or.inr (by rw [h]; exact List.mem_cons_self)
      · exact Or.inr (List.mem_cons_of_mem _ h)
    | false =>
      rw [e] at h
      simp only [cond_false, List.mem_cons] at h
      rcases h with h | h
      · exact Or.inr (by rw [h]; exact List.mem_cons_self)
      · rcases jPut_in h with h | h
        · exact Or.inl h
        · exact Or.inr (List.mem_cons_of_mem _ h)
/-- the locals with v at i, a value of one word or of two -/
def jS1 (lv : List (Nat × Value)) (i : Nat) (v : Value) : List (Nat × Value) := jPut (lv.filter (fun q => !(q.1 == i) && !(q.1 + 1 == i && q.2.category == 2))) i v
def jS2 (lv : List (Nat × Value)) (i : Nat) (v : Value) : List (Nat × Value) := jPut (lv.filter (fun q => !(q.1 == i) && (!(q.1 == i + 1) && !(q.1 + 1 == i && q.2.category == 2)))) i v
theorem jPut_has {ls : Array Slot} {nL i : Nat} {lv : List (Nat × Value)} {v : Value} (h : lv_has ls nL ((i, v) :: lv)) : lv_has ls nL (jPut lv i v) :=
  ⟨h.1, h.2.1, fun q hq => h.2.2 q (by
    rcases jPut_in hq with e | e
    · rw [e]; exact List.mem_cons_self
    · exact List.mem_cons_of_mem _ e)⟩
theorem jSub_has {ls : Array Slot} {nL : Nat} {lv lv' : List (Nat × Value)} (h : lv_has ls nL lv) (hs : ∀ q ∈ lv', jGet lv q.1 = some q.2) : lv_has ls nL lv' := ⟨h.1, h.2.1, fun q hq => jGet_at h (hs q hq)⟩

