section JKS
variable {γ : jG} {μ μ' : jMth} {f mc ms cells slots f' mc' ms' idx : Nat} {h : jM} {pc pc' : Nat} {lv : List (Nat × Value)} {st stk As : List Value} {Q Q' : Option Value → jM → Prop} {X X' : String → jM → Prop}
/-- a private method of a superclass is selected -/
theorem jSelP {C : String} {y : MethodName} {s : State} {args : Array Value} {n : Nat} {z : MethodName} (hy : y.cls ≠ "java/lang/invoke/MethodHandle" ∧ y.cls ≠ "java/lang/invoke/VarHandle")
    (hins : (Cond.instantiable C n).before args s = true) (hpriv : (Cond.privateMethod y).before args s = true) (hinst : (Cond.instanceMethod y).before args s = true) (hz : (Cond.selects C z z).before args s = true) (hzc : z.cls = y.cls) (hz2 : (Cond.instanceMethod z).before args s = true) :
    (Cond.selects C y y).before args s = true := by
  obtain ⟨c, k, hc, hk, -, hniab, -, -⟩ := Cond.instantiable_spec hins
  have hni : k.isInterface = false := (Bool.or_eq_false_iff.mp hniab).1
  obtain ⟨mk, methM, hnamed, hmethM, -, -⟩ := Cond.instanceMethod_spec hinst
  have hfound : s.methodFound? y.cls y.name y.desc = some mk := State.methodFound?_of_named hnamed hy
  have hsel : selectMethod {} s.vm c mk = .method mk := selectMethod_private hmethM (Cond.privateMethod_at hpriv mk methM hnamed hmethM)
  obtain ⟨mz, methZ, hnamedz, hmethZ, -, -⟩ := Cond.instanceMethod_spec hz2
  have hfoundz : s.methodFound? z.cls z.name z.desc = some mz := State.methodFound?_of_named hnamedz (by rw [hzc]; exact hy)
  have hcz : mz.cls = mk.cls := by
    have e1 := findClass_of_methodNamed hnamedz
    have e2 := findClass_of_methodNamed hnamed
    rw [hzc] at e1
    exact Option.some.inj (e1.symm.trans e2)
  simp only [Cond.before, Cond.holds, Cond.value, hc, hfoundz, hnamedz] at hz
  simp only [Cond.before, Cond.holds, Cond.value, hc, hfound, hnamed, hsel, hk]
  rw [hcz] at hz
  revert hz
  cases hkk : s.vm.classes[mk.cls]? with
  | none =>
    cases selectMethod { } s.vm c mz <;> simp
  | some kk =>
    cases selectMethod { } s.vm c mz <;> simp
/-- a call of an inherited method, on an object of class C -/
theorem J.callVU {t b : Nat} {C : String} (hc : μ.cm pc = some (.invokevirtual idx, 3)) (M : jMeth μ') (hl : Cond.methodLink μ.y.cls idx μ'.y ∈ lw_tbl) (hV : Cond.instanceMethod μ'.y ∈ lw_tbl ∧ Cond.selects C μ'.y μ'.y ∈ lw_tbl) (ht0 : 0 < t ∧ t < 20) (hq : ∃ q : vw_C, vwCl[t - 1]? = some q ∧ q.1 = C) (hb : h.tag b = t) (hCT : CT γ μ' f' mc' ms' (.ref b :: As) h Q' X') (hst : stk = As.reverse ++ .ref b :: st) (hn : As.length = μ'.np) (hW : (st.map fun v => v.category).sum ≤ 8) (hf : f' + 1 ≤ f) (hm : cells + mc' ≤ mc) (hs : slots + ms' ≤ ms) (hp : pc + 3 = pc') (hh : μ.hh = []) (hX : ∀ E h', X' E h' → X E h')
    (kk : ∀ r h', Q' r h' → J γ μ f mc ms (cells + mc') (slots + ms') h' pc' lv (r.toList ++ st) Q X) : J γ μ f mc ms cells slots h pc lv stk Q X := by
  subst hp
  subst hst
  intro p e s m args below meth c C' H locs ls hH hz hlo hl9
  refine jAfterX hz hlo (vx_runV (jFix C') hCT ⟨jCB C' M hl hf, C'.w hV.1 rfl, C'.w hV.2 rfl⟩ ⟨jBlind, jRecv C' hH ht0.1 ht0.2 hq hb, jPre C' hH⟩ rfl hn hl9.1 rfl (lv_room hW) (C'.dec hc) ⟨hm, hs⟩) ?_ ?_
  · intro E h' H' locs' q ce hx hR hz' hlo' hce hcv hcl
    refine vx_out (fun x hx => ?_) C'.locks hce hcv hcl (fun t ht _ => ⟨h', hX E h' hx, by rw [ht]; exact hR⟩) hlo' hm hs
    rw [C'.tab, hh] at hx
    cases hx
  · intro r h' H' locs' hq' hR hz' hlo'
    exact kk r h' hq' p e s m args below meth c C' H' locs' ls hR hz' hlo' hl9
/-- a call of a superclass's private method, on an object of class C -/
theorem J.callVP {t b n : Nat} {C : String} {z : MethodName} (hc : μ.cm pc = some (.invokevirtual idx, 3)) (M : jMeth μ') (hl : Cond.methodLink μ.y.cls idx μ'.y ∈ lw_tbl) (hV : Cond.instanceMethod μ'.y ∈ lw_tbl) (hP : Cond.privateMethod μ'.y ∈ lw_tbl) (hI : Cond.instantiable C n ∈ lw_tbl) (hz1 : Cond.selects C z z ∈ lw_tbl) (hz2 : z.cls = μ'.y.cls) (hz3 : Cond.instanceMethod z ∈ lw_tbl) (ht0 : 0 < t ∧ t < 20) (hq : ∃ q : vw_C, vwCl[t - 1]? = some q ∧ q.1 = C) (hb : h.tag b = t) (hCT : CT γ μ' f' mc' ms' (.ref b :: As) h Q' X') (hst : stk = As.reverse ++ .ref b :: st) (hn : As.length = μ'.np) (hW : (st.map fun v => v.category).sum ≤ 8) (hf : f' + 1 ≤ f) (hm : cells + mc' ≤ mc) (hs : slots + ms' ≤ ms) (hp : pc + 3 = pc') (hh : μ.hh = []) (hX : ∀ E h', X' E h' → X E h')
    (kk : ∀ r h', Q' r h' → J γ μ f mc ms (cells + mc') (slots + ms') h' pc' lv (r.toList ++ st) Q X) : J γ μ f mc ms cells slots h pc lv stk Q X := by
  subst hp
  subst hst
  intro p e s m args below meth c C' H locs ls hH hz hlo hl9
  have hPr : (Cond.privateMethod μ'.y).before args s = true := by
    obtain ⟨A, hA, -⟩ := C'.F.2.1
    have e9 := Cond.privateMethod_setVm (args := A) (s := γ.s) C'.warm.alike μ'.y
    rw [hA _ hP] at e9
    exact e9
  refine jAfterX hz hlo (vx_runV (jFix C') hCT ⟨jCB C' M hl hf, C'.w hV rfl, jSelP M.2.2.2.1 (C'.w hI rfl) hPr (C'.w hV rfl) (C'.w hz1 rfl) hz2 (C'.w hz3 rfl)⟩ ⟨jBlind, jRecv C' hH ht0.1 ht0.2 hq hb, jPre C' hH⟩ rfl hn hl9.1 rfl (lv_room hW) (C'.dec hc) ⟨hm, hs⟩) ?_ ?_
  · intro E h' H' locs' q ce hx hR hz' hlo' hce hcv hcl
    refine vx_out (fun x hx => ?_) C'.locks hce hcv hcl (fun t ht _ => ⟨h', hX E h' hx, by rw [ht]; exact hR⟩) hlo' hm hs
    rw [C'.tab, hh] at hx
    cases hx
  · intro r h' H' locs' hq' hR hz' hlo'
    exact kk r h' hq' p e s m args below meth c C' H' locs' ls hR hz' hlo' hl9
/-- super.m(..) -/
theorem J.callSup {b t : Nat} {C : String} (hc : μ.cm pc = some (.invokespecial idx, 3)) (M : jMeth μ') (hl : Cond.methodLink μ.y.cls idx μ'.y ∈ lw_tbl) (hsm : Cond.sameMethod μ'.y.cls μ'.y.cls μ'.y.name μ'.y.desc ∈ lw_tbl) (hsup : Cond.superclass μ.y.cls μ'.y.cls ∈ lw_tbl) (hV : Cond.instanceMethod μ'.y ∈ lw_tbl) (hno : μ'.y.name ≠ "<init>") (ht0 : 0 < t ∧ t < 20) (hq : ∃ q : vw_C, vwCl[t - 1]? = some q ∧ q.1 = C) (hb : h.tag b = t) (hCT : CT γ μ' f' mc' ms' (.ref b :: As) h Q' (fun _ _ => False)) (hst : stk = As.reverse ++ .ref b :: st) (hn : As.length = μ'.np) (hW : (st.map fun v => v.category).sum ≤ 8) (hf : f' + 1 ≤ f) (hm : cells + mc' ≤ mc) (hs : slots + ms' ≤ ms) (hp : pc + 3 = pc')
    (kk : ∀ r h', Q' r h' → J γ μ f mc ms (cells + mc') (slots + ms') h' pc' lv (r.toList ++ st) Q X) : J γ μ f mc ms cells slots h pc lv stk Q X := by
  subst hp
  subst hst
  intro p e s m args below meth c C' H locs ls hH hz hlo hl9
  have cb := jCB (args := args) (f := f) (mc := mc) (ms := ms) (f' := f') (mc' := mc') (ms' := ms') C' M hl hf
  obtain ⟨c1, c2, c3, c4, c5, c6, c7, c8, c9, c10, c11⟩ := cb
  obtain ⟨q, hq1, hq2⟩ := hq
  have hat := (C'.K.1 (t - 1) q hq1).2
  rw [hq2] at hat
  refine jAfter hz hlo (va_runSU hat (jFix C') hCT.met ⟨⟨c1, c2, c3, c4, c5, c6⟩, c11, C'.w hsm rfl, C'.w hsup rfl, C'.w hV rfl, c8, c7, hno, c10⟩ ⟨jBlind, jRecv C' hH ht0.1 ht0.2 ⟨q, hq1, hq2⟩ hb, jPre C' hH⟩ rfl hn hl9.1 rfl (lv_room hW) (C'.dec hc) ⟨hm, hs⟩) ?_
  intro r h' H' locs' hq' hR hz' hlo'
  exact kk r h' hq' p e s m args below meth c C' H' locs' ls hR hz' hlo' hl9
end JKS
theorem iq_J5_isLatin1_aae02 : Cond.instanceMethod yJ5_isLatin1_aae02 ∈ lw_tbl ∧ Cond.selects "java/lang/StringBuilder" yJ5_isLatin1_aae02 yJ5_isLatin1_aae02 ∈ lw_tbl := ⟨by decide +kernel, by decide +kernel⟩
theorem iq_J5_getValue_6d5f1 : Cond.instanceMethod yJ5_getValue_6d5f1 ∈ lw_tbl ∧ Cond.selects "java/lang/StringBuilder" yJ5_getValue_6d5f1 yJ5_getValue_6d5f1 ∈ lw_tbl := ⟨by decide +kernel, by decide +kernel⟩
theorem ip_J5_ensureCapacityInternal_d00df : Cond.instanceMethod yJ5_ensureCapacityInternal_d00df ∈ lw_tbl ∧ Cond.privateMethod yJ5_ensureCapacityInternal_d00df ∈ lw_tbl := ⟨by decide +kernel, by decide +kernel⟩
theorem ip_J5_newCapacity_0f7a4 : Cond.instanceMethod yJ5_newCapacity_0f7a4 ∈ lw_tbl ∧ Cond.privateMethod yJ5_newCapacity_0f7a4 ∈ lw_tbl := ⟨by decide +kernel, by decide +kernel⟩
theorem iu_J5_append_3fe6f : Cond.instanceMethod yJ5_append_3fe6f ∈ lw_tbl ∧ Cond.sameMethod yJ5_append_3fe6f.cls yJ5_append_3fe6f.cls yJ5_append_3fe6f.name yJ5_append_3fe6f.desc ∈ lw_tbl := ⟨by decide +kernel, by decide +kernel⟩
theorem iu_J5_length_8abf5 : Cond.instanceMethod yJ5_length_8abf5 ∈ lw_tbl ∧ Cond.sameMethod yJ5_length_8abf5.cls yJ5_length_8abf5.cls yJ5_length_8abf5.name yJ5_length_8abf5.desc ∈ lw_tbl := ⟨by decide +kernel, by decide +kernel⟩
theorem iu_J5_setLength_d00df : Cond.instanceMethod yJ5_setLength_d00df ∈ lw_tbl ∧ Cond.sameMethod yJ5_setLength_d00df.cls yJ5_setLength_d00df.cls yJ5_setLength_d00df.name yJ5_setLength_d00df.desc ∈ lw_tbl := ⟨by decide +kernel, by decide +kernel⟩
theorem jSBsup : Cond.superclass RJ4 RJ5 ∈ lw_tbl := by decide +kernel
theorem jSBins : Cond.instantiable "java/lang/StringBuilder" 4 ∈ lw_tbl := by decide +kernel

