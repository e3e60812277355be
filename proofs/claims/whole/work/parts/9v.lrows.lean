/-- pairs of classes that are not castable -/
theorem jNcOf {γ : jG} (F : jF γ) {C T : String} (hw : Cond.not (.castable C T) ∈ flatC (Jvm.Cond.and given_1 narrow_1)) : va_Nc C T γ.s := by
  obtain ⟨A, -, hg, -⟩ := F.2.1
  exact va_Nc.of (flat_of_before _ hg _ hw)
theorem CT.ofW {γ : jG} {μ : jMth} {f mc ms : Nat} {a : List Value} {h : jM} {Q : Option Value → jM → Prop} {X : String → jM → Prop} (M : jMethW μ) (hlen : (lg_sl a).length ≤ μ.mL) (k : J γ μ f mc ms 0 0 h 0 (lv_args 0 a) [] Q X) : CT γ μ f mc ms a h Q X := by
  refine vx_ofWH (cc := μ.cc) (maxL := μ.mL) (ret := μ.ret) (hh := μ.hh) M.2.2.2.1 (ws' := []) (by rw [M.2.2.2.2.2.2.2]) ?_
  intro p e s m args below meth c s₁ B hml hv
  obtain ⟨rfl, hwarm, hRH, hF⟩ := hv
  have ht : c.exceptionTable.toList = tableOf μ.hh := vx_table (x := μ.y) B (atoms_spec (ws := [jWord μ]) B.pre _ (by rw [M.2.2.2.2.2.2.2]; exact List.mem_cons_self))
  have C : jC γ μ p s m meth c := ⟨B.exec, B.bytes, hml, B.returns, B.notSynchronized, findClass_of_methodNamed B.named, (name_of_methodNamed B.named B.method).1, ht, hwarm, hRH.2.1, hRH.1, hF, M.2.2.2.2.2.2.1⟩
  rw [lg_entry_eq]
  exact k p e s m _ below meth c C s.heap [] _ hRH (Nat.le_refl _) (fun q hq => nomatch hq) (lv_entry a hlen)
/-- a handler of the method μ that takes E at pc: which one, and what stands before it -/
def jTake (μ : jMth) (pc : Nat) (E : String) (hpc : Nat) : Prop := ∃ (pre : List (Nat × Nat × Nat × Nat)) (x : Nat × Nat × Nat × Nat) (suf : List (Nat × Nat × Nat × Nat)) (nm : String), μ.hh = pre ++ x :: suf ∧ (∀ z ∈ pre, z.2.2.2 ≠ 0 ∧ ∃ n2, Cond.classLink μ.y.cls z.2.2.2 n2 ∈ lw_tbl ∧ Cond.not (.castable E n2) ∈ flatC (Jvm.Cond.and given_1 narrow_1)) ∧ covers ⟨x.1, x.2.1, x.2.2.1, x.2.2.2⟩ pc = true ∧ x.2.2.2 ≠ 0 ∧ Cond.classLink μ.y.cls x.2.2.2 nm ∈ lw_tbl ∧ Cond.castable E nm ∈ lw_tbl ∧ x.2.2.1 = hpc
section JT
variable {γ : jG} {μ μ' : jMth} {f mc ms cells slots f' mc' ms' idx : Nat} {h : jM} {pc pc' : Nat} {lv : List (Nat × Value)} {st stk As : List Value} {Q Q' : Option Value → jM → Prop} {X X' : String → jM → Prop}
theorem J.callT {t b : Nat} (hc : μ.cm pc = some (.invokevirtual idx, 3)) (M : jMeth μ') (hl : Cond.methodLink μ.y.cls idx μ'.y ∈ lw_tbl) (hV : Cond.instanceMethod μ'.y ∈ lw_tbl ∧ Cond.selects μ'.y.cls μ'.y μ'.y ∈ lw_tbl) (ht0 : 0 < t ∧ t < 20) (hq : ∃ q : vw_C, vwCl[t - 1]? = some q ∧ q.1 = μ'.y.cls) (hb : h.tag b = t) (hCT : CT γ μ' f' mc' ms' (.ref b :: As) h Q' X') (hst : stk = As.reverse ++ .ref b :: st) (hn : As.length = μ'.np) (hW : (st.map fun v => v.category).sum ≤ 8) (hf : f' + 1 ≤ f) (hm : cells + mc' ≤ mc) (hs : slots + ms' ≤ ms) (hp : pc + 3 = pc')
    (hX : ∀ E h', X' E h' → ∃ hpc, jTake μ pc E hpc ∧ ∀ q, J γ μ f mc ms (cells + mc') (slots + ms') h' hpc lv [.ref q] Q X)
    (kk : ∀ r h', Q' r h' → J γ μ f mc ms (cells + mc') (slots + ms') h' pc' lv (r.toList ++ st) Q X) : J γ μ f mc ms cells slots h pc lv stk Q X := by
  subst hp
  subst hst
  intro p e s m args below meth c C H locs ls hH hz hlo hl9
  refine jAfterX hz hlo (vx_runV (jFix C) hCT ⟨jCB C M hl hf, C.w hV.1 rfl, C.w hV.2 rfl⟩ ⟨jBlind, jRecv C hH ht0.1 ht0.2 hq hb, jPre C hH⟩ rfl hn hl9.1 rfl (lv_room hW) (C.dec hc) ⟨hm, hs⟩) ?_ ?_
  · intro E h' H' locs' q ce hx hR hz' hlo' hce hcv hcl
    obtain ⟨hpc, ⟨pre, x, suf, nm, t1, t2, t3, t4, t5, t6, t7⟩, kx⟩ := hX E h' hx
    have hsplit : c.exceptionTable.toList = tableOf pre ++ ⟨x.1, x.2.1, x.2.2.1, x.2.2.2⟩ :: tableOf suf := by
      rw [C.tab, t1]
      unfold tableOf
      rw [List.map_append, List.map_cons]
    refine vx_catch (own := μ.y.cls) (name := nm) C.hown (tableOf pre) ⟨x.1, x.2.1, x.2.2.1, x.2.2.2⟩ (tableOf suf) hsplit (fun z hz => ?_) t3 t4 (C.w t5 rfl) (C.w3 t6 rfl) hce hcv hcl ?_
    · unfold tableOf at hz
      obtain ⟨y, hy, rfl⟩ := List.mem_map.mp hz
      obtain ⟨u1, n2, u2, u3⟩ := t2 y hy
      exact Or.inr ⟨u1, n2, C.w u2 rfl, (jNcOf C.F u3).moved C.warm.alike⟩
    · have e7 : (⟨x.1, x.2.1, x.2.2.1, x.2.2.2⟩ : ExceptionTableEntry).handlerPc = hpc := t7
      rw [e7]
      exact kx q p e s m args below meth c C H' locs' ls hR hz' hlo' hl9
  · intro r h' H' locs' hq' hR hz' hlo'
    exact kk r h' hq' p e s m args below meth c C H' locs' ls hR hz' hlo' hl9
theorem J.callSW (hc : μ.cm pc = some (.invokestatic idx, 3)) (M : jMethW μ') (hl : Cond.methodLink μ.y.cls idx μ'.y ∈ lw_tbl) (hV : Cond.static μ'.y ∈ lw_tbl) (hCT : CT γ μ' f' mc' ms' As h Q' (fun _ _ => False)) (hst : stk = As.reverse ++ st) (hn : As.length = μ'.np) (hW : (st.map fun v => v.category).sum ≤ 8) (hf : f' + 1 ≤ f) (hm : cells + mc' ≤ mc) (hs : slots + ms' ≤ ms) (hp : pc + 3 = pc')
    (kk : ∀ r h', Q' r h' → J γ μ f mc ms (cells + mc') (slots + ms') h' pc' lv (r.toList ++ st) Q X) : J γ μ f mc ms cells slots h pc lv stk Q X := by
  subst hp
  subst hst
  intro p e s m args below meth c C H locs ls hH hz hlo hl9
  have hmL := M.2.2.2.2.1
  refine jAfter hz hlo (vx_runSW (hh := μ'.hh) (bytes := μ'.cc) (maxL := μ'.mL) (ret := μ'.ret) (n := μ'.np) (jFix C) hCT.met ⟨⟨rfl, rfl, hf, ?_, ?_, ?_⟩, C.w M.1 rfl, C.w M.2.1 rfl, M.2.2.1, fun sig hsg => ?_, C.w hl rfl, C.w hV rfl⟩ ⟨jBlind, jPre C hH⟩ rfl hn hl9.1 rfl (lv_room hW) (C.dec hc) ⟨hm, hs⟩) ?_
  · show 8 + (μ'.mL + 11) + f' * 64 ≤ f * 64
    omega
  · intro w hw a' U hU
    rw [List.mem_singleton.mp hw, M.2.2.2.2.2.2.2]
    obtain ⟨A, hA, -⟩ := C.F.2.1
    exact word_at (State.WarmedH.trans C.warm hU) (good_of_word rfl) (hA _ M.1)
  · rw [M.2.2.2.2.2.2.2]
    exact List.mem_singleton.mpr rfl
  · have h2 := M.2.2.2.2.2.1
    rw [hsg] at h2
    exact (Option.some.inj h2).symm
  · intro r h' H' locs' hq' hR hz' hlo'
    exact kk r h' hq' p e s m args below meth c C H' locs' ls hR hz' hlo' hl9
theorem J.i2lT {x : Int} {pc' : Nat} (hc : μ.cm pc = some (.i2l, 1)) (hp : pc + 1 = pc') (kk : J γ μ f mc ms cells slots h pc' lv (.long (jL (jI x).toInt) :: st) Q X) : J γ μ f mc ms cells slots h pc lv (.int (jI x) :: st) Q X := by
  obtain ⟨z, hz, e⟩ := jI_of (jI x)
  have e2 : (jI x).toInt = z := by rw [e]; exact jI_toInt hz
  rw [e2] at kk
  rw [e]
  exact J.i2l hc hp hz kk
theorem J.lcmpE {v : Int64} {pc' : Nat} (hc : μ.cm pc = some (.lcmp, 1)) (hp : pc + 1 = pc') (kk : J γ μ f mc ms cells slots h pc' lv (.int (jI 0) :: st) Q X) : J γ μ f mc ms cells slots h pc lv (.long v :: .long v :: st) Q X := by
  obtain ⟨z, hz, e⟩ : ∃ z : Int, r64 z ∧ v = jL z := ⟨v.toInt, by
    have := v.le_toInt
    have := v.toInt_lt
    constructor <;> omega, (Int64.ofInt_toInt v).symm⟩
  rw [e]
  refine J.lcmp hc hp hz hz ?_
  rw [if_neg (Int.lt_irrefl _), if_pos rfl]
  exact kk
theorem J.icmpE {v : Int32} {off : Int} {pc' : Nat} (hc : μ.cm pc = some (.if_icmp .eq off, 3)) (ht : (pc : Int) + off = (pc' : Int)) (kk : J γ μ f mc ms cells slots h pc' lv st Q X) : J γ μ f mc ms cells slots h pc lv (.int v :: .int v :: st) Q X := by
  obtain ⟨z, hz, e⟩ := jI_of v
  rw [e]
  refine J.icmp_eq (tgt := pc') (pc' := pc + 3) hc ht rfl hz hz (fun _ => kk) (fun w => absurd rfl w)
end JT
theorem nc_IN : Cond.not (.castable eIAE eNSE) ∈ flatC (Jvm.Cond.and given_1 narrow_1) := by decide +kernel
theorem nc_SN : Cond.not (.castable eISE eNSE) ∈ flatC (Jvm.Cond.and given_1 narrow_1) := by decide +kernel
theorem nc_SI : Cond.not (.castable eISE eIAE) ∈ flatC (Jvm.Cond.and given_1 narrow_1) := by decide +kernel
theorem nc_NI : Cond.not (.castable eNSE eIAE) ∈ flatC (Jvm.Cond.and given_1 narrow_1) := by decide +kernel
theorem cl_N : Cond.classLink RL 13 eNSE ∈ lw_tbl := List.mem_of_getElem? (i := 502) (by decide +kernel)
theorem cl_I : Cond.classLink RL 15 eIAE ∈ lw_tbl := List.mem_of_getElem? (i := 503) (by decide +kernel)
theorem cl_S : Cond.classLink RL 21 eISE ∈ lw_tbl := List.mem_of_getElem? (i := 609) (by decide +kernel)
theorem ca_N : Cond.castable eNSE eNSE ∈ lw_tbl := List.mem_of_getElem? (i := 514) (by decide +kernel)
theorem ca_I : Cond.castable eIAE eIAE ∈ lw_tbl := List.mem_of_getElem? (i := 584) (by decide +kernel)
theorem ca_S : Cond.castable eISE eISE ∈ lw_tbl := List.mem_of_getElem? (i := 623) (by decide +kernel)

