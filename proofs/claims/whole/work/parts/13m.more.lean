theorem jC.kv {γ : jG} {μ : jMth} {p : Program} {s : State} {m : MethodId} {meth : Method} {c : Code} (C : jC γ μ p s m meth c) {i : Nat} {cn n d : String} (hq : (i, Term.static cn n d) ∈ jKs) (w1 : Cond.laysStatic cn n d ∈ lw_tbl) (w2 : Cond.initialized cn ∈ lw_tbl) : va_Z cn n d (.ref (γ.K i)) (jFree γ) s s.heap := by
  obtain ⟨A, h, hg, hk⟩ := C.F.2.1
  have h0 : va_Z cn n d (.ref (γ.K i)) (jFree γ) γ.s γ.s.heap := va_Zof (h _ w1) (h _ w2) (hk _ hq) (fun a ha hb => absurd hb (Nat.not_le.mpr ha))
  exact (va_Z.moved C.warm.alike h0).kept (fun a ha _ => C.old a ha)
theorem jC.iv {γ : jG} {μ : jMth} {p : Program} {s : State} {m : MethodId} {meth : Method} {c : Code} (C : jC γ μ p s m meth c) {z : Int32} {cn n d : String} (hq : Cond.eq (.static cn n d) (.int z) ∈ flatC (Jvm.Cond.and given_1 narrow_1)) (w1 : Cond.laysStatic cn n d ∈ lw_tbl) (w2 : Cond.initialized cn ∈ lw_tbl) : va_Z cn n d (.int z) (jFree γ) s s.heap := by
  obtain ⟨A, h, hg, hk⟩ := C.F.2.1
  have h0 : va_Z cn n d (.int z) (jFree γ) γ.s γ.s.heap := va_Zof (h _ w1) (h _ w2) (va_eqi (flat_of_before _ hg _ hq)) (fun a ha hb => absurd hb (Nat.not_le.mpr ha))
  exact (va_Z.moved C.warm.alike h0).kept (fun a ha _ => C.old a ha)
theorem jC.ks {γ : jG} {μ : jMth} {p : Program} {s : State} {m : MethodId} {meth : Method} {c : Code} (C : jC γ μ p s m meth c) {i : Nat} {own text : String} {k : Nat} (hw : Cond.stringRef own k text ∈ lw_tbl) (hq : (i, Term.string own k) ∈ jKs) : vk_R own k text (γ.K i) s := by
  obtain ⟨A, h, hg, hk⟩ := C.F.2.1
  exact vk_R.warm C.warm (vk_R.of (h _ hw) (hk _ hq))
theorem jC.km {γ : jG} {μ : jMth} {p : Program} {s : State} {m : MethodId} {meth : Method} {c : Code} (C : jC γ μ p s m meth c) : va_Mi "[Ljava/lang/Object;" (γ.K 40) s := by
  obtain ⟨A, h, hg, hk⟩ := C.F.2.1
  have hv := hk (40, .mirror "[Ljava/lang/Object;") (by simp [jKs])
  obtain ⟨c, k, a, h1, h2, h3, h4⟩ := Term.mirror_spec hv
  cases h4
  exact va_Mi.moved C.warm.alike ⟨c, k, h1, h2, h3⟩
section JZ
variable {γ : jG} {μ : jMth} {f mc ms cells slots : Nat} {h : jM} {pc : Nat} {lv : List (Nat × Value)} {st : List Value} {Q : Option Value → jM → Prop} {X : String → jM → Prop}
theorem J.getsK {i idx : Nat} {cn n d ref : String} {pc' : Nat} (hc : μ.cm pc = some (.getstatic idx, 3)) (hl : Cond.fieldLink μ.y.cls idx cn n d ∈ lw_tbl) (hq : (i, Term.static cn n d) ∈ jKs) (w1 : Cond.laysStatic cn n d ∈ lw_tbl) (w2 : Cond.initialized cn ∈ lw_tbl) (hp : pc + 3 = pc') (kk : J γ μ f mc ms cells slots h pc' lv (.ref (γ.K i) :: st) Q X) : J γ μ f mc ms cells slots h pc lv st Q X := by
  subst hp
  intro p e s m args below meth c C H locs ls hH hz hlo hl9
  exact va_gets C.hx C.hb (C.kv hq w1 w2) (C.vS hH hz hlo) C.hown (C.w hl rfl) (fun _ h => h) (C.dec hc) (kk p e s m args below meth c C H locs ls hH hz hlo hl9)
theorem J.getsI {idx : Nat} {z : Int} {v : Int32} {cn n d ref : String} {pc' : Nat} (hc : μ.cm pc = some (.getstatic idx, 3)) (hl : Cond.fieldLink μ.y.cls idx cn n d ∈ lw_tbl) (hq : Cond.eq (.static cn n d) (.int v) ∈ flatC (Jvm.Cond.and given_1 narrow_1)) (hv : v = jI z) (w1 : Cond.laysStatic cn n d ∈ lw_tbl) (w2 : Cond.initialized cn ∈ lw_tbl) (hp : pc + 3 = pc') (kk : J γ μ f mc ms cells slots h pc' lv (.int (jI z) :: st) Q X) : J γ μ f mc ms cells slots h pc lv st Q X := by
  subst hp
  subst hv
  intro p e s m args below meth c C H locs ls hH hz hlo hl9
  exact va_gets C.hx C.hb (C.iv hq w1 w2) (C.vS hH hz hlo) C.hown (C.w hl rfl) (fun _ h => h) (C.dec hc) (kk p e s m args below meth c C H locs ls hH hz hlo hl9)
theorem J.ldcS {i idx : Nat} {text : String} {pc' : Nat} (hc : μ.cm pc = some (.ldc idx, 2)) (hw : Cond.stringRef μ.y.cls idx text ∈ lw_tbl) (hq : (i, Term.string μ.y.cls idx) ∈ jKs) (hp : pc + 2 = pc') (kk : J γ μ f mc ms cells slots h pc' lv (.ref (γ.K i) :: st) Q X) : J γ μ f mc ms cells slots h pc lv st Q X := by
  subst hp
  intro p e s m args below meth c C H locs ls hH hz hlo hl9
  exact va_ldcS C.hx C.hb C.hown (C.ks hw hq) (C.dec hc) (kk p e s m args below meth c C H locs ls hH hz hlo hl9)
theorem J.ldcM {idx : Nat} {pc' : Nat} (hc : μ.cm pc = some (.ldc idx, 2)) (hw : Cond.classLink μ.y.cls idx "[Ljava/lang/Object;" ∈ lw_tbl) (hp : pc + 2 = pc') (kk : J γ μ f mc ms cells slots h pc' lv (.ref (γ.K 40) :: st) Q X) : J γ μ f mc ms cells slots h pc lv st Q X := by
  subst hp
  intro p e s m args below meth c C H locs ls hH hz hlo hl9
  exact va_ldcM C.hx C.hb C.hown (C.w hw rfl) C.km (C.dec hc) (kk p e s m args below meth c C H locs ls hH hz hlo hl9)
theorem jV_arrI {t a : Nat} (h20 : 20 ≤ t) (hk : jKi (jE t) = true) : jV h t a = fun j => .int (jI (h.I t a j)) := by
  funext j
  unfold jV
  rw [jTyA h20, jVal_i hk]
theorem jV_arrR {t a : Nat} (h20 : 20 ≤ t) (hk : jKr (jE t) = true) : jV h t a = fun j => va_rf (h.R t a j) := by
  funext j
  unfold jV
  rw [jTyA h20, jVal_r hk]
/-- getClass of an Object[] -/
theorem J.getC {idx a : Nat} {pc' : Nat} (hc : μ.cm pc = some (.invokevirtual idx, 3)) (ha : h.tag a = 34) (hl : Cond.methodLink μ.y.cls idx ⟨"java/lang/Object", "getClass", "()Ljava/lang/Class;"⟩ ∈ lw_tbl) (h1 : Cond.declares ⟨"java/lang/Object", "getClass", "()Ljava/lang/Class;"⟩ ∈ lw_tbl) (h2 : Cond.selects "[Ljava/lang/Object;" ⟨"java/lang/Object", "getClass", "()Ljava/lang/Class;"⟩ ⟨"java/lang/Object", "getClass", "()Ljava/lang/Class;"⟩ ∈ lw_tbl) (h3 : Cond.instanceMethod ⟨"java/lang/Object", "getClass", "()Ljava/lang/Class;"⟩ ∈ lw_tbl) (h4 : Cond.native ⟨"java/lang/Object", "getClass", "()Ljava/lang/Class;"⟩ ∈ lw_tbl) (hf : 1 ≤ f) (hW : (st.map fun v => v.category).sum ≤ 8) (hp : pc + 3 = pc') (kk : J γ μ f mc ms cells slots h pc' lv (.ref (γ.K 40) :: st) Q X) : J γ μ f mc ms cells slots h pc lv (.ref a :: st) Q X := by
  subst hp
  intro p e s m args below meth c C H locs ls hH hz hlo hl9
  have hA := C.A (ty := .object "java/lang/Object") (by decide)
  obtain ⟨cell, hcell, hst, hcl⟩ := jArrC C hH ha
  refine va_getC C.hx C.hb (by rw [C.hml]; exact hl9.1.symm) C.hown (C.w hl rfl) (C.w3 h1 rfl) (C.w h2 rfl) (C.w h3 rfl) (C.w h4 rfl) C.km ⟨cell, hcell, hst, ?_⟩ hf ?_ (C.dec hc) (kk p e s m args below meth c C H locs ls hH hz hlo hl9)
  · rw [hcl]; exact hA.1
  · show _ + 14 ≤ f * 64
    omega
/-- a reference goes into an array of references -/
theorem J.aast {a t b tb : Nat} {cn : String} {i : Int} {pc' : Nat} (hc : μ.cm pc = some (.aastore, 1)) (ha : h.tag a = t) (h20 : 20 ≤ t) (hty : jE t = .object cn) (hin : jE t ∈ jTys) (hb : h.tag b = tb) (hb0 : 0 < tb ∧ tb < 20) (hcs : ∃ q : vw_C, vwCl[tb - 1]? = some q ∧ (cn = q.1 ∨ Cond.castable q.1 cn ∈ lw_tbl)) (hi0 : 0 ≤ i) (hi : i < (h.len a : Int)) (hr : r32 i) (hw : jWr t = true) (hp : pc + 1 = pc') (kk : J γ μ f mc ms cells slots (h.sR t a i.toNat (some b)) pc' lv st Q X) : J γ μ f mc ms cells slots h pc lv (.ref b :: .int (jI i) :: .ref a :: st) Q X := by
  subst hp
  subst ha
  intro p e s m args below meth c C H locs ls hH hz hlo hl
  have hba : γ.base ≤ a := (hH.2.2 a (by omega)).2.2 hw (by omega)
  obtain ⟨q, hq, hcs⟩ := hcs
  obtain ⟨cellB, g1, g2, g3⟩ := jRecv C hH hb0.1 hb0.2 ⟨q, hq, rfl⟩ hb
  have hKn := (C.K.1 (tb - 1) q hq).2
  have hA := C.A hin
  rw [hty] at hA
  obtain ⟨-, kA, comp, k1, k2, k3⟩ := hA
  have hcomp := k3 cn rfl
  obtain ⟨kC, hkC, -⟩ := Vm.findClass_spec hcomp
  have hclsB : cellB.cls = γ.D.1 (tb - 1) := Option.some.inj (g3.symm.trans hKn.1)
  obtain ⟨kB, hkB, -⟩ := hKn.2
  have hasg : s.vm.assignable cellB.cls comp = true := by
    rcases hcs with e | hcs
    · have : comp = γ.D.1 (tb - 1) := Option.some.inj (hcomp.symm.trans (by rw [e]; exact hKn.1))
      rw [hclsB, this]
      exact va_assign hKn
    · have hc3 : (Cond.castable q.1 cn).before args s = true := C.w3 hcs rfl
      obtain ⟨c0, t0, f1, f2, f3⟩ := Cond.castable_spec hc3
      cases g3.symm.trans f1
      cases hcomp.symm.trans f2
      exact f3
  have hcell := jArrA hH h20 hba
  rw [hty] at hcell
  refine W.aast C.hx C.hb hcell (fun q h => by cases h) (fun h => by cases h) k1 k2 rfl hkC ⟨?_, ?_⟩ g1 (fun q h => by rw [h] at g2; cases g2) (by rw [hclsB]; exact hkB) hasg rfl rfl (C.dec hc) (fun H' e1 e2 e3 => ?_)
  · exact fun q => jI_inr (n := h.len a) hr hi0 hi (Or.inl q)
  · rw [arrV_size, jI_ix hr hi0]
    omega
  · rw [jI_ix hr hi0, ← hty] at e1
    refine kk p e s m args below meth c C H' _ ls (hH.arr (a := a) (k := i.toNat) (v := .ref b) rfl rfl hba (fun b hb t' => jV_oR hb t') (jV_sR (by rw [jTyA h20, hty]; rfl)) h20 e1 e3 e2) (by rw [e2]; exact hz) (jWrote hlo hba) hl
theorem J.aastN {a t : Nat} {cn : String} {i : Int} {pc' : Nat} (hc : μ.cm pc = some (.aastore, 1)) (ha : h.tag a = t) (h20 : 20 ≤ t) (hty : jE t = .object cn) (hin : jE t ∈ jTys) (hi0 : 0 ≤ i) (hi : i < (h.len a : Int)) (hr : r32 i) (hw : jWr t = true) (hp : pc + 1 = pc') (kk : J γ μ f mc ms cells slots (h.sR t a i.toNat none) pc' lv st Q X) : J γ μ f mc ms cells slots h pc lv (.null :: .int (jI i) :: .ref a :: st) Q X := by
  subst hp
  subst ha
  intro p e s m args below meth c C H locs ls hH hz hlo hl
  have hba : γ.base ≤ a := (hH.2.2 a (by omega)).2.2 hw (by omega)
  have hA := C.A hin
  rw [hty] at hA
  have hcell := jArrA hH h20 hba
  rw [hty] at hcell
  refine va_WaastN (C := cn) C.hx C.hb hcell (hA.of _ _) (fun h => by cases h) ?_ rfl rfl (C.dec hc) (fun H' e1 e2 e3 => ?_)
  · rw [arrV_size]
    exact jI_inr hr hi0 hi
  · rw [jI_ix hr hi0, ← hty] at e1
    refine kk p e s m args below meth c C H' _ ls (hH.arr (a := a) (k := i.toNat) (v := .null) rfl rfl hba (fun b hb t' => jV_oR hb t') (jV_sR (by rw [jTyA h20, hty]; rfl)) h20 e1 e3 e2) (by rw [e2]; exact hz) (jWrote hlo hba) hl
end JZ
