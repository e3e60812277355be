/-- what the tables say of a method -/
def jMeth (μ : jMth) : Prop := μ.hh = [] ∧ Cond.code μ.y μ.cc μ.mL μ.ret ∈ lw_tbl ∧ Cond.initialized μ.y.cls ∈ lw_tbl ∧ (μ.y.cls ≠ "java/lang/invoke/MethodHandle" ∧ μ.y.cls ≠ "java/lang/invoke/VarHandle") ∧ plainFor μ.y = true ∧ μ.mL ≤ 45 ∧ (parseMethodDescriptor μ.y.desc).map (fun d => d.parameters.length) = some μ.np ∧ ∀ pc x, μ.cm pc = some x → decode μ.cc pc = .ok x
theorem jWord_nil {μ : jMth} (h : μ.hh = []) : jWord μ = .code μ.y μ.cc μ.mL μ.ret := by
  unfold jWord
  rw [h]
theorem jOfW {l : Launch} {y : MethodName} {ws ws' : List Cond} {rm : Room} {Pc : Array Value → State → Prop} {Qc : Array Value → State → Outcome → State → Prop} {XC : String → State → State → Prop} {mc ms : Nat} {free : Addr → Prop} {cc : ByteArray} {maxL : Nat} {ret : Option FieldType}
    (hy : plainFor y = true) (hw : ws = Cond.code y cc maxL ret :: ws')
    (body : ∀ p e s m args below meth c s₁, BodyLoose p l y (headSpec ws rm) cc maxL ret e s m args below meth c s₁ → c.maxLocals = maxL → (∀ x ∈ c.exceptionTable.toList, False) → Pc args s →
      W p l e (headSpec ws rm).room s m args below meth c s.heap [] 0 0 (vx_MQ below Qc XC args s mc ms free) (entryFrame m args maxL)) : vx_Met l y ws rm Pc Qc XC mc ms free := by
  refine MetFree.of_bodySF (code := cc) (maxLocals := maxL) (ret := ret) hy ?_ ?_
  · intro args s m h hn
    obtain ⟨meth, c, h1, h2, h3, h4, h5, h6, -, -⟩ := Cond.code_spec hn (atoms_spec (ws := ws) h _ (by rw [hw]; exact List.mem_cons_self))
    exact ⟨meth, c, h1, h2, h3, h4, h5, h6⟩
  · intro p e s m args below meth c s₁ B hml hP _
    have hh0 : s₁.heap = s.heap := by rw [B.state]; rfl
    have ht : ∀ x ∈ c.exceptionTable.toList, False := by
      obtain ⟨meth9, c9, h1, h2, -, -, -, -, h7, -⟩ := Cond.code_spec B.named (atoms_spec (ws := ws) B.pre _ (by rw [hw]; exact List.mem_cons_self))
      cases Option.some.inj (h1.symm.trans B.method)
      cases Option.some.inj (h2.symm.trans (Stand.of_body B).code)
      intro x hx
      rw [Array.isEmpty_iff.mp h7] at hx
      cases hx
    obtain ⟨t, a1, o, b1, b2, b3⟩ := body p e s m args below meth c s₁ B hml ht hP s₁ hh0 (Stand.of_body B)
    exact ⟨t, o, a1, b1, b2, b3⟩
theorem CT.of {γ : jG} {μ : jMth} {f mc ms : Nat} {a : List Value} {h : jM} {Q : Option Value → jM → Prop} {X : String → jM → Prop} (M : jMeth μ) (hlen : (lg_sl a).length ≤ μ.mL) (k : J γ μ f mc ms 0 0 h 0 (lv_args 0 a) [] Q X) : CT γ μ f mc ms a h Q X := by
  refine jOfW (cc := μ.cc) (maxL := μ.mL) (ret := μ.ret) M.2.2.2.2.1 (ws' := []) (by rw [jWord_nil M.1]) ?_
  intro p e s m args below meth c s₁ B hml htab hv
  obtain ⟨rfl, hwarm, hRH, hF⟩ := hv
  have ht : c.exceptionTable.toList = tableOf μ.hh := by
    rw [M.1]
    cases hc : c.exceptionTable.toList with
    | nil => rfl
    | cons x l => exact (htab x (by rw [hc]; exact List.mem_cons_self)).elim
  have C : jC γ μ p s m meth c := ⟨B.exec, B.bytes, hml, B.returns, B.notSynchronized, findClass_of_methodNamed B.named, (name_of_methodNamed B.named B.method).1, ht, hwarm, hRH.2.1, hRH.1, hF, M.2.2.2.2.2.2.2⟩
  rw [lg_entry_eq]
  exact k p e s m _ below meth c C s.heap [] _ hRH (Nat.le_refl _) (fun q hq => nomatch hq) (lv_entry a hlen)
theorem CT.met {γ : jG} {μ : jMth} {f mc ms : Nat} {a : List Value} {h : jM} {Q : Option Value → jM → Prop} (H : CT γ μ f mc ms a h Q (fun _ _ => False)) : Met γ.l μ.y [jWord μ] (jRm f mc ms) (jPc γ a h) (jQc γ Q) mc ms (jFree γ) := by
  intro p e h1 h2 h3 s m args below h4 h5 h6 h7
  obtain ⟨n, o, q1, q2, q3, q4⟩ := H p e h1 h2 h3 s m args below h4 h5 h6 h7
  refine ⟨n, o, q1, q2, q3, ?_⟩
  rcases q4 with q4 | ⟨q, -, E, ce, L, ⟨h', hx, -⟩, -⟩
  · exact q4
  · exact hx.elim
theorem CT.mono {γ : jG} {μ : jMth} {f mc ms : Nat} {a : List Value} {h : jM} {Q Q' : Option Value → jM → Prop} {X X' : String → jM → Prop} (H : CT γ μ f mc ms a h Q X) (hQ : ∀ r h', Q r h' → Q' r h') (hX : ∀ E h', X E h' → X' E h') : CT γ μ f mc ms a h Q' X' := by
  intro p e h1 h2 h3 s m args below h4 h5 h6 h7
  obtain ⟨n, o, q1, q2, q3, q4⟩ := H p e h1 h2 h3 s m args below h4 h5 h6 h7
  refine ⟨n, o, q1, q2, q3, ?_⟩
  rcases q4 with ⟨⟨r, h', e1, e2, e3⟩, L⟩ | ⟨q, e1, E, ce, L, ⟨h', x1, x2⟩, rest⟩
  · exact Or.inl ⟨⟨r, h', e1, hQ r h' e2, e3⟩, L⟩
  · exact Or.inr ⟨q, e1, E, ce, L, ⟨h', hX E h' x1, x2⟩, rest⟩
theorem jBlind {γ : jG} {a : List Value} {h : jM} : FrameBlind (jPc γ a h) := fun _ _ _ _ q => q
section CW
variable {γ : jG} {μ μ' : jMth} {p : Program} {e : Env} {s : State} {m : MethodId} {args : Array Value} {below : List Frame} {meth : Method} {c : Code} {H : Heap} {locs : List Loc} {cells slots : Nat} {h : jM} {f mc ms f' mc' ms' idx : Nat} {QQ : State → Prop}
theorem jHw (C : jC γ μ p s m meth c) (M : jMeth μ') : ∀ w ∈ [jWord μ'], ∀ (a' : Array Value) (U : State), s.WarmedH U.vm → w.before a' U = true := by
  intro w hw a' U hU
  rw [List.mem_singleton.mp hw, jWord_nil M.1]
  obtain ⟨A, hA, -⟩ := C.F.2.1
  exact word_at (State.WarmedH.trans C.warm hU) (good_of_word rfl) (hA _ M.2.1)
theorem jCB (C : jC γ μ p s m meth c) (M : jMeth μ') (hl : Cond.methodLink μ.y.cls idx μ'.y ∈ lw_tbl) (hf : f' + 1 ≤ f) : CallB (jRm f mc ms) s args μ.y.cls idx μ'.y μ'.cc μ'.mL μ'.ret [jWord μ'] (jRm f' mc' ms') mc' ms' μ'.np := by
  have hm := M.2.2.2.2.2.1
  refine ⟨rfl, rfl, hf, ?_, jHw C M, ?_, C.w M.2.1 rfl, C.w M.2.2.1 rfl, M.2.2.2.1, fun sig hs => ?_, C.w hl rfl⟩
  · show 8 + (μ'.mL + 11) + f' * 64 ≤ f * 64
    omega
  · rw [jWord_nil M.1]
    exact List.mem_singleton.mpr rfl
  · have h2 := M.2.2.2.2.2.2.1
    rw [hs] at h2
    exact (Option.some.inj h2).symm
theorem jCN (C : jC γ μ p s m meth c) (M : jMeth μ') {host : String} (hl : Cond.methodLinkNest μ.y.cls idx μ'.y host ∈ lw_tbl) (hf : f' + 1 ≤ f) : va_CN (jRm f mc ms) s args μ.y.cls idx μ'.y host μ'.cc μ'.mL μ'.ret [jWord μ'] (jRm f' mc' ms') mc' ms' μ'.np := by
  have hm := M.2.2.2.2.2.1
  refine ⟨⟨rfl, rfl, hf, ?_, jHw C M, ?_⟩, C.w M.2.1 rfl, C.w M.2.2.1 rfl, M.2.2.2.1, fun sig hs => ?_, C.wM hl⟩
  · show 8 + (μ'.mL + 11) + f' * 64 ≤ f * 64
    omega
  · rw [jWord_nil M.1]
    exact List.mem_singleton.mpr rfl
  · have h2 := M.2.2.2.2.2.2.1
    rw [hs] at h2
    exact (Option.some.inj h2).symm
theorem jPre (C : jC γ μ p s m meth c) (hH : jRH γ h H) {a : List Value} : ∀ U : State, U.heap = H → s.WarmedH U.vm → jPc γ a h a.toArray U := fun U hU hW => ⟨rfl, State.WarmedH.trans C.warm hW, by rw [hU]; exact hH, C.F⟩
theorem jRecv (C : jC γ μ p s m meth c) (hH : jRH γ h H) {b t : Nat} {cn : String} (ht0 : 0 < t) (ht1 : t < 20) (hq : ∃ q : vw_C, vwCl[t - 1]? = some q ∧ q.1 = cn) (hb : h.tag b = t) : ∃ cellB : Cell, H[b]? = some cellB ∧ cellB.vm.isStatics = false ∧ s.vm.findClass cn = some cellB.cls := by
  obtain ⟨q, hq, rfl⟩ := hq
  obtain ⟨q', hq', -, cell, q1, q2, q3, -⟩ := (hH.2.2 b (by omega)).1 (by omega)
  rw [hb] at hq' q2
  cases hq.symm.trans hq'
  exact ⟨cell, q1, q3.2.2, by rw [q2]; exact (C.K.1 (t - 1) q hq).2.1⟩
theorem jFix (C : jC γ μ p s m meth c) : CallFix p m c μ.cc μ.mL s args [] μ.y.cls := ⟨C.hx, C.hb, C.hml, C.hown, fun _ h => nomatch h⟩
/-- behind a call that may throw -/
theorem jAfterX {Q' : Option Value → jM → Prop} {X' : String → jM → Prop} {a : Array Value} {pc : Nat} {ls : Array Slot} {st0 rest : List Value} (hz : s.heap.size ≤ H.size) (hlo : ∀ q ∈ locs, γ.base ≤ q.base)
    (hr : vx_Run p γ.l e (jRm f mc ms) s m args below meth c H locs cells slots mc' ms' (F0 m pc ls st0) rest (jQc γ Q' a) (jXc γ X') (jFree γ))
    (kx : ∀ (E : String) (h' : jM) (H' : Heap) (locs' : List Loc) (q : Addr) (ce : Cell), X' E h' → jRH γ h' H' → s.heap.size ≤ H'.size → (∀ q ∈ locs', γ.base ≤ q.base) → H'[q]? = some ce → ce.vm = .none → s.vm.findClass E = some ce.cls → vx_W p γ.l e (jRm f mc ms) s m args below meth c H' locs' (cells + mc') (slots + ms') QQ (F0 m pc ls rest) q)
    (kk : ∀ (r : Option Value) (h' : jM) (H' : Heap) (locs' : List Loc), Q' r h' → jRH γ h' H' → s.heap.size ≤ H'.size → (∀ q ∈ locs', γ.base ≤ q.base) → W p γ.l e (jRm f mc ms) s m args below meth c H' locs' (cells + mc') (slots + ms') QQ (F0 m (pc + 3) ls (r.toList ++ rest))) :
    W p γ.l e (jRm f mc ms) s m args below meth c H locs cells slots QQ (F0 m pc ls st0) := by
  have hs : ∀ {T : State} {L : List Loc} {k n : Nat}, Stand p γ.l e (jRm f mc ms) s m args below meth c T L k n → s.heap.size ≤ T.heap.size := fun X => (vx_frame (U := _) X.same).1
  have hL' : ∀ {L : List Loc}, (∀ q ∈ L, jFree γ q.base) → ∀ q ∈ locs ++ L, γ.base ≤ q.base := fun hL q hq => by
    rcases List.mem_append.mp hq with hq | hq
    · exact hlo q hq
    · exact hL q hq
  intro T hT X
  rcases hr T hT X with ⟨v, st₀, t, T', L, h0, X', hL, e1, e2, ⟨r, h', hv, hq, hR⟩, st⟩ | ⟨q, st₀, t, T', L, E, ce, h0, X', hL, e1, e2, ⟨h', hx, hR⟩, hce, hcv, hcl, st⟩
  · cases hv
    obtain ⟨t2, a1, b1⟩ := kk v h' T'.heap (locs ++ L) hq (by rw [e1]; exact hR) (hs X') (hL' hL) T' rfl X'
    exact ⟨t2, st t2 a1, b1⟩
  · obtain ⟨t2, a1, b1⟩ := kx E h' T'.heap (locs ++ L) q ce hx (by rw [e1]; exact hR) (hs X') (hL' hL) (by rw [e1]; exact hce) hcv hcl T' rfl X'
    exact ⟨t2, st.trans a1, b1⟩
/-- behind a call that returns -/
theorem jAfter {Q' : Option Value → jM → Prop} {a : Array Value} {pc : Nat} {ls : Array Slot} {st0 rest : List Value} (hz : s.heap.size ≤ H.size) (hlo : ∀ q ∈ locs, γ.base ≤ q.base)
    (hr : va_Run p γ.l e (jRm f mc ms) s m args below meth c H locs cells slots mc' ms' (F0 m pc ls st0) rest (jQc γ Q' a) (jFree γ))
    (kk : ∀ (r : Option Value) (h' : jM) (H' : Heap) (locs' : List Loc), Q' r h' → jRH γ h' H' → s.heap.size ≤ H'.size → (∀ q ∈ locs', γ.base ≤ q.base) → W p γ.l e (jRm f mc ms) s m args below meth c H' locs' (cells + mc') (slots + ms') QQ (F0 m (pc + 3) ls (r.toList ++ rest))) :
    W p γ.l e (jRm f mc ms) s m args below meth c H locs cells slots QQ (F0 m pc ls st0) := by
  intro T hT X
  obtain ⟨v, st₀, t, T', L, h0, X', hL, e1, e2, ⟨r, h', hv, hq, hR⟩, st⟩ := hr T hT X
  cases hv
  obtain ⟨t2, a1, b1⟩ := kk v h' T'.heap (locs ++ L) hq (by rw [e1]; exact hR) (vx_frame (U := _) X'.same).1 (fun q hq => by
    rcases List.mem_append.mp hq with hq | hq
    · exact hlo q hq
    · exact hL q hq) T' rfl X'
  exact ⟨t2, st t2 a1, b1⟩
end CW
section JK
variable {γ : jG} {μ μ' : jMth} {f mc ms cells slots f' mc' ms' idx : Nat} {h : jM} {pc pc' : Nat} {lv : List (Nat × Value)} {st stk As : List Value} {Q Q' : Option Value → jM → Prop} {X X' : String → jM → Prop}
theorem J.callV {t b : Nat} (hc : μ.cm pc = some (.invokevirtual idx, 3)) (M : jMeth μ') (hl : Cond.methodLink μ.y.cls idx μ'.y ∈ lw_tbl) (hV : Cond.instanceMethod μ'.y ∈ lw_tbl ∧ Cond.selects μ'.y.cls μ'.y μ'.y ∈ lw_tbl) (ht0 : 0 < t ∧ t < 20) (hq : ∃ q : vw_C, vwCl[t - 1]? = some q ∧ q.1 = μ'.y.cls) (hb : h.tag b = t) (hCT : CT γ μ' f' mc' ms' (.ref b :: As) h Q' X') (hst : stk = As.reverse ++ .ref b :: st) (hn : As.length = μ'.np) (hW : (st.map fun v => v.category).sum ≤ 8) (hf : f' + 1 ≤ f) (hm : cells + mc' ≤ mc) (hs : slots + ms' ≤ ms) (hp : pc + 3 = pc') (hh : μ.hh = []) (hX : ∀ E h', X' E h' → X E h')
    (kk : ∀ r h', Q' r h' → J γ μ f mc ms (cells + mc') (slots + ms') h' pc' lv (r.toList ++ st) Q X) : J γ μ f mc ms cells slots h pc lv stk Q X := by
  subst hp
  subst hst
  intro p e s m args below meth c C H locs ls hH hz hlo hl9
  refine jAfterX hz hlo (vx_runV (jFix C) hCT ⟨jCB C M hl hf, C.w hV.1 rfl, C.w hV.2 rfl⟩ ⟨jBlind, jRecv C hH ht0.1 ht0.2 hq hb, jPre C hH⟩ rfl hn hl9.1 rfl (lv_room hW) (C.dec hc) ⟨hm, hs⟩) ?_ ?_
  · intro E h' H' locs' q ce hx hR hz' hlo' hce hcv hcl
    refine vx_out (fun x hx => ?_) C.locks hce hcv hcl (fun t ht _ => ⟨h', hX E h' hx, by rw [ht]; exact hR⟩) hlo' hm hs
    rw [C.tab, hh] at hx
    cases hx
  · intro r h' H' locs' hq' hR hz' hlo'
    exact kk r h' hq' p e s m args below meth c C H' locs' ls hR hz' hlo' hl9
theorem J.callS (hc : μ.cm pc = some (.invokestatic idx, 3)) (M : jMeth μ') (hl : Cond.methodLink μ.y.cls idx μ'.y ∈ lw_tbl) (hV : Cond.static μ'.y ∈ lw_tbl) (hCT : CT γ μ' f' mc' ms' As h Q' X') (hst : stk = As.reverse ++ st) (hn : As.length = μ'.np) (hW : (st.map fun v => v.category).sum ≤ 8) (hf : f' + 1 ≤ f) (hm : cells + mc' ≤ mc) (hs : slots + ms' ≤ ms) (hp : pc + 3 = pc') (hh : μ.hh = []) (hX : ∀ E h', X' E h' → X E h')
    (kk : ∀ r h', Q' r h' → J γ μ f mc ms (cells + mc') (slots + ms') h' pc' lv (r.toList ++ st) Q X) : J γ μ f mc ms cells slots h pc lv stk Q X := by
  subst hp
  subst hst
  intro p e s m args below meth c C H locs ls hH hz hlo hl9
  refine jAfterX hz hlo (vx_runS (jFix C) hCT ⟨jCB C M hl hf, C.w hV rfl⟩ ⟨jBlind, jPre C hH⟩ rfl hn hl9.1 rfl (lv_room hW) (C.dec hc) ⟨hm, hs⟩) ?_ ?_
  · intro E h' H' locs' q ce hx hR hz' hlo' hce hcv hcl
    refine vx_out (fun x hx => ?_) C.locks hce hcv hcl (fun t ht _ => ⟨h', hX E h' hx, by rw [ht]; exact hR⟩) hlo' hm hs
    rw [C.tab, hh] at hx
    cases hx
  · intro r h' H' locs' hq' hR hz' hlo'
    exact kk r h' hq' p e s m args below meth c C H' locs' ls hR hz' hlo' hl9
theorem J.callSN {host : String} (hc : μ.cm pc = some (.invokestatic idx, 3)) (M : jMeth μ') (hl : Cond.methodLinkNest μ.y.cls idx μ'.y host ∈ lw_tbl) (hV : Cond.static μ'.y ∈ lw_tbl) (hCT : CT γ μ' f' mc' ms' As h Q' (fun _ _ => False)) (hst : stk = As.reverse ++ st) (hn : As.length = μ'.np) (hW : (st.map fun v => v.category).sum ≤ 8) (hf : f' + 1 ≤ f) (hm : cells + mc' ≤ mc) (hs : slots + ms' ≤ ms) (hp : pc + 3 = pc')
    (kk : ∀ r h', Q' r h' → J γ μ f mc ms (cells + mc') (slots + ms') h' pc' lv (r.toList ++ st) Q X) : J γ μ f mc ms cells slots h pc lv stk Q X := by
  subst hp
  subst hst
  intro p e s m args below meth c C H locs ls hH hz hlo hl9
  refine jAfter hz hlo (va_runSN (jFix C) hCT.met ⟨jCN C M hl hf, C.w hV rfl, trivial⟩ ⟨jBlind, jPre C hH⟩ rfl hn hl9.1 rfl (lv_room hW) (C.dec hc) ⟨hm, hs⟩) ?_
  intro r h' H' locs' hq' hR hz' hlo'
  exact kk r h' hq' p e s m args below meth c C H' locs' ls hR hz' hlo' hl9
theorem J.callI {b : Nat} (hc : μ.cm pc = some (.invokespecial idx, 3)) (M : jMeth μ') (hl : Cond.methodLink μ.y.cls idx μ'.y ∈ lw_tbl) (hV : Cond.instanceMethod μ'.y ∈ lw_tbl) (hi : μ'.y.name = "<init>" ∧ μ'.ret = none) (hCT : CT γ μ' f' mc' ms' (.ref b :: As) h Q' (fun _ _ => False)) (hst : stk = As.reverse ++ .ref b :: st) (hn : As.length = μ'.np) (hW : (st.map fun v => v.category).sum ≤ 8) (hf : f' + 1 ≤ f) (hm : cells + mc' ≤ mc) (hs : slots + ms' ≤ ms) (hp : pc + 3 = pc')
    (kk : ∀ r h', Q' r h' → J γ μ f mc ms (cells + mc') (slots + ms') h' pc' lv (r.toList ++ st) Q X) : J γ μ f mc ms cells slots h pc lv stk Q X := by
  subst hp
  subst hst
  intro p e s m args below meth c C H locs ls hH hz hlo hl9
  have cb := jCB (args := args) (f := f) (mc := mc) (ms := ms) (f' := f') (mc' := mc') (ms' := ms') C M hl hf
  rw [hi.2] at cb
  refine jAfter hz hlo (va_runI (jFix C) hCT.met ⟨cb, hi.1, C.w hV rfl⟩ ⟨jBlind, jPre C hH⟩ rfl hn hl9.1 rfl (lv_room hW) (C.dec hc) ⟨hm, hs⟩) ?_
  intro r h' H' locs' hq' hR hz' hlo'
  exact kk r h' hq' p e s m args below meth c C H' locs' ls hR hz' hlo' hl9
theorem J.callIN {b : Nat} {host : String} (hc : μ.cm pc = some (.invokespecial idx, 3)) (M : jMeth μ') (hl : Cond.methodLinkNest μ.y.cls idx μ'.y host ∈ lw_tbl) (hV : Cond.instanceMethod μ'.y ∈ lw_tbl) (hi : μ'.y.name = "<init>" ∧ μ'.ret = none) (hCT : CT γ μ' f' mc' ms' (.ref b :: As) h Q' (fun _ _ => False)) (hst : stk = As.reverse ++ .ref b :: st) (hn : As.length = μ'.np) (hW : (st.map fun v => v.category).sum ≤ 8) (hf : f' + 1 ≤ f) (hm : cells + mc' ≤ mc) (hs : slots + ms' ≤ ms) (hp : pc + 3 = pc')
    (kk : ∀ r h', Q' r h' → J γ μ f mc ms (cells + mc') (slots + ms') h' pc' lv (r.toList ++ st) Q X) : J γ μ f mc ms cells slots h pc lv stk Q X := by
  subst hp
  subst hst
  intro p e s m args below meth c C H locs ls hH hz hlo hl9
  have cb := jCN (args := args) (f := f) (mc := mc) (ms := ms) (f' := f') (mc' := mc') (ms' := ms') C M hl hf
  rw [hi.2] at cb
  refine jAfter hz hlo (va_runIN (jFix C) hCT.met ⟨cb, hi.1, C.w hV rfl⟩ ⟨jBlind, jPre C hH⟩ rfl hn hl9.1 rfl (lv_room hW) (C.dec hc) ⟨hm, hs⟩) ?_
  intro r h' H' locs' hq' hR hz' hlo'
  exact kk r h' hq' p e s m args below meth c C H' locs' ls hR hz' hlo' hl9
/-- Object.<init> -/
theorem J.objI {a : Nat} (hc : μ.cm pc = some (.invokespecial idx, 3)) (hl : Cond.methodLink μ.y.cls idx objectInit ∈ lw_tbl) (hi : Cond.instanceMethod objectInit ∈ lw_tbl) (hk : Cond.code objectInit ⟨#[0xb1]⟩ 1 none ∈ lw_tbl) (hf : 1 ≤ f) (hW : (st.map fun v => v.category).sum ≤ 8) (hp : pc + 3 = pc') (kk : J γ μ f mc ms cells slots h pc' lv st Q X) : J γ μ f mc ms cells slots h pc lv (.ref a :: st) Q X := by
  subst hp
  intro p e s m args below meth c C H locs ls hH hz hlo hl9
  refine W.objInit C.hx C.hb C.hown (C.w hl rfl) (C.w hi rfl) (C.w hk rfl) rfl (by rw [C.hml]; exact hl9.1) rfl (C.dec hc) hf ?_ (kk p e s m args below meth c C H locs ls hH hz hlo hl9)
  show 2 * 0 + _ + 12 ≤ f * 64
  omega
end JK
