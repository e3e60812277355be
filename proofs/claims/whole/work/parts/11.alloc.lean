theorem jDef {ty : FieldType} : jVal ty 0 0 none = defaultValue ty := by cases ty <;> rfl
theorem jV_nw {h : jM} {q t n : Nat} : jV (h.nw q t n) t q = fun k => defaultValue (jTy t k) := by
  funext k
  unfold jV
  rw [jM.I_nw, jM.L_nw, jM.R_nw, if_pos ⟨rfl, rfl⟩, if_pos ⟨rfl, rfl⟩, if_pos ⟨rfl, rfl⟩, jDef]
section JN
variable {γ : jG} {μ : jMth} {f mc ms cells slots : Nat} {h : jM} {pc : Nat} {lv : List (Nat × Value)} {st : List Value} {Q : Option Value → jM → Prop} {X : String → jM → Prop}
def jNewW (own : String) (idx t N n : Nat) : Prop := 0 < t ∧ t < 20 ∧ ∃ q : vw_C, vwCl[t - 1]? = some q ∧ q.2.2 = N ∧ Cond.classLink own idx q.1 ∈ lw_tbl ∧ Cond.instantiable q.1 n ∈ lw_tbl ∧ Cond.initialized q.1 ∈ lw_tbl
theorem J.new {idx t N n : Nat} {pc' : Nat} (hc : μ.cm pc = some (.new idx, 3)) (hw : jNewW μ.y.cls idx t N n) (hm : cells + 1 ≤ mc) (hs : slots + n ≤ ms) (hp : pc + 3 = pc')
    (kk : ∀ q, h.tag q = 0 → γ.base ≤ q → J γ μ f mc ms (cells + 1) (slots + n) (h.nw q t N) pc' lv (.ref q :: st) Q X) : J γ μ f mc ms cells slots h pc lv st Q X := by
  subst hp
  intro p e s m args below meth c C H locs ls hH hz hlo hl
  obtain ⟨ht0, ht1, q, hq, hN, w1, w2, w3⟩ := hw
  subst hN
  have hKn := C.K.1 (t - 1) _ hq
  refine W.newcK C.hx C.hb C.hown (C.w w1 rfl) (C.w w2 rfl) (C.w w3 rfl) rfl (C.dec hc) hm hs hKn.2.1 rfl fun H1 kC hkC e1 z1 o1 => ?_
  have hb := u_born (args := args) (jTy t) (C.lays hq) (fun _ h => h) hKn hkC e1 (fun k hk => by
    have h1 := jTyOk hq k hk
    rwa [show t - 1 + 1 = t by omega] at h1)
  refine kk H.size hH.fresh hH.2.1 p e s m args below meth c C H1 locs ls (hH.new z1 o1 ⟨fun _ => ?_, fun h2 => ?_, fun _ _ => hH.2.1⟩) (by omega) hlo hl
  · rw [jM.tag_nw, if_pos rfl, jM.len_nw, if_pos rfl, jV_nw]
    exact ⟨q, hq, rfl, objW.of hb⟩
  · rw [jM.tag_nw, if_pos rfl] at h2
    omega
theorem J.newa {atype : ArrayType} {t : Nat} {n : Int} {pc' : Nat} (hc : μ.cm pc = some (.newarray atype, 2)) (h20 : 20 ≤ t) (hty : jE t = newarray.typeOf atype) (hin : jE t ∈ jTys) (hw : Cond.arrayClass (newarray.typeOf atype) ∈ lw_tbl) (h0 : 0 ≤ n) (hn : n ≤ 1000000) (hm : cells + 1 ≤ mc) (hs : slots + n.toNat ≤ ms) (hp : pc + 2 = pc')
    (kk : ∀ q, h.tag q = 0 → γ.base ≤ q → J γ μ f mc ms (cells + 1) (slots + n.toNat) (h.nw q t n.toNat) pc' lv (.ref q :: st) Q X) : J γ μ f mc ms cells slots h pc lv (.int (jI n) :: st) Q X := by
  subst hp
  intro p e s m args below meth c C H locs ls hH hz hlo hl
  have hr : r32 n := ⟨by omega, by omega⟩
  have hA := C.A hin
  rw [hty] at hA
  refine va_newaK C.hx C.hb (C.w hw rfl) rfl (C.dec hc) rfl ?_ (jI_ix hr h0) ?_ hm hs rfl fun H1 cA e1 z1 o1 hAr hNm => ?_
  · rw [Int32.lt_iff_toInt_lt, jI_toInt hr]
    show ¬ n < (0 : Int32).toInt
    have : (0 : Int32).toInt = 0 := rfl
    omega
  · have : componentBytes (newarray.typeOf atype) ≤ 8 := by cases atype <;> decide
    calc n.toNat * componentBytes (newarray.typeOf atype) ≤ n.toNat * 8 := Nat.mul_le_mul_left _ this
      _ ≤ 536870912 := by omega
  · have hcA : cA = γ.E (newarray.typeOf atype) := Option.some.inj (hNm.symm.trans hA.1)
    refine kk H.size hH.fresh hH.2.1 p e s m args below meth c C H1 locs ls (hH.new z1 o1 ⟨fun h2 => ?_, fun _ => ?_, fun _ _ => hH.2.1⟩) (by omega) hlo hl
    · rw [jM.tag_nw, if_pos rfl] at h2
      omega
    · refine arrW.of hH.2.1 ?_
      rw [jM.tag_nw, if_pos rfl, jM.len_nw, if_pos rfl, jV_nw, e1, hcA, hty]
      simp only [jTyA h20, hty]
theorem J.anew {idx t : Nat} {cn : String} {n : Int} {pc' : Nat} (hc : μ.cm pc = some (.anewarray idx, 3)) (h20 : 20 ≤ t) (hty : jE t = .object cn) (hin : jE t ∈ jTys) (hw : Cond.classLink μ.y.cls idx cn ∈ lw_tbl) (hw2 : Cond.arrayOver (.object cn) ∈ lw_tbl) (h0 : 0 ≤ n) (hn : n ≤ 1000000) (hm : cells + 1 ≤ mc) (hs : slots + n.toNat ≤ ms) (hp : pc + 3 = pc')
    (kk : ∀ q, h.tag q = 0 → γ.base ≤ q → J γ μ f mc ms (cells + 1) (slots + n.toNat) (h.nw q t n.toNat) pc' lv (.ref q :: st) Q X) : J γ μ f mc ms cells slots h pc lv (.int (jI n) :: st) Q X := by
  subst hp
  intro p e s m args below meth c C H locs ls hH hz hlo hl
  have hr : r32 n := ⟨by omega, by omega⟩
  have hA := C.A hin
  rw [hty] at hA
  have hov : va_AO cn s := by
    obtain ⟨A, hA, -⟩ := C.F.2.1
    exact (va_AO.of (hA _ hw2)).moved C.warm.alike
  have hx := jI_ix hr h0
  refine W.anew C.hx C.hb C.hown (C.w hw rfl) (va_AO.use hov) rfl (C.dec hc) rfl ?_ (by rw [hx]; omega) hm (by rw [hx]; exact hs) fun cA kA comp f1 f2 f3 f4 => ?_
  · rw [Int32.lt_iff_toInt_lt, jI_toInt hr]
    have : (0 : Int32).toInt = 0 := rfl
    omega
  · rw [hx]
    have hcA : cA = γ.E (.object cn) := Option.some.inj (f1.symm.trans hA.1)
    refine kk H.size hH.fresh hH.2.1 p e s m args below meth c C _ locs ls (hH.new (by simp) (fun q hq => by rw [Array.getElem?_push, if_neg (Nat.ne_of_lt hq)]) ⟨fun h2 => ?_, fun _ => ?_, fun _ _ => hH.2.1⟩) (by simp; omega) hlo hl
    · rw [jM.tag_nw, if_pos rfl] at h2
      omega
    · refine arrW.of hH.2.1 ?_
      rw [jM.tag_nw, if_pos rfl, jM.len_nw, if_pos rfl, jV_nw, Array.getElem?_push_size, arrV_new, hcA, hty]
      simp only [jTyA h20, hty]
      rfl
def jCst (own : String) (idx t : Nat) : Prop := 0 < t ∧ t < 20 ∧ ∃ (q : vw_C) (nm : String), vwCl[t - 1]? = some q ∧ Cond.classLink own idx nm ∈ lw_tbl ∧ (nm = q.1 ∨ Cond.castable q.1 nm ∈ lw_tbl)
theorem J.cast {idx t a : Nat} {pc' : Nat} (hc : μ.cm pc = some (.checkcast idx, 3)) (hw : jCst μ.y.cls idx t) (ha : h.tag a = t) (hp : pc + 3 = pc') (kk : J γ μ f mc ms cells slots h pc' lv (.ref a :: st) Q X) : J γ μ f mc ms cells slots h pc lv (.ref a :: st) Q X := by
  subst hp
  intro p e s m args below meth c C H locs ls hH hz hlo hl
  obtain ⟨ht0, ht1, q, nm, hq, w1, w2⟩ := hw
  have hrc := jRecv C hH ht0 ht1 ⟨q, hq, rfl⟩ ha
  rcases w2 with rfl | w2
  · exact va_castS C.hx C.hb C.hown (C.w w1 rfl) (C.K.1 (t - 1) q hq).2 hrc (C.dec hc) (kk p e s m args below meth c C H locs ls hH hz hlo hl)
  · have hcs : va_Nw (.castable q.1 nm) s := by
      obtain ⟨A, hA, -⟩ := C.F.2.1
      exact va_Nw.warmC C.warm (va_Nw.of rfl (hA _ w2))
    exact va_castY C.hx C.hb C.hown (C.w w1 rfl) hcs hrc (C.dec hc) (kk p e s m args below meth c C H locs ls hH hz hlo hl)
theorem J.ldc {idx : Nat} {z : Int} {v : Int32} {pc' : Nat} (hc : μ.cm pc = some (.ldc idx, 2)) (hw : Cond.constant μ.y.cls idx v ∈ lw_tbl) (hv : v = jI z) (hp : pc + 2 = pc') (kk : J γ μ f mc ms cells slots h pc' lv (.int (jI z) :: st) Q X) : J γ μ f mc ms cells slots h pc lv st Q X := by
  subst hp
  subst hv
  intro p e s m args below meth c C H locs ls hH hz hlo hl
  exact lv_ldc C.hx C.hb C.hown (C.w hw rfl) (C.dec hc) (kk p e s m args below meth c C H locs ls hH hz hlo hl)
theorem J.ldc2 {idx : Nat} {z : Int} {v : Int64} {pc' : Nat} (hc : μ.cm pc = some (.ldc2_w idx, 3)) (hw : Cond.constantLong μ.y.cls idx v ∈ lw_tbl) (hv : v = jL z) (hp : pc + 3 = pc') (kk : J γ μ f mc ms cells slots h pc' lv (.long (jL z) :: st) Q X) : J γ μ f mc ms cells slots h pc lv st Q X := by
  subst hp
  subst hv
  intro p e s m args below meth c C H locs ls hH hz hlo hl
  exact lv_ldc2 C.hx C.hb C.hown (C.w hw rfl) (C.dec hc) (kk p e s m args below meth c C H locs ls hH hz hlo hl)
end JN
