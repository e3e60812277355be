/-- the memory with nothing where no cell shows it -/
def nrm (h : jM) : jM := (h.tag, h.len, fun t a k => if t = h.tag a then h.I t a k else 0, fun t a k => if t = h.tag a then h.L t a k else 0, h.R)
theorem nrm_ok {γ : jG} {h : jM} {H : Heap} (hR : jRH γ h H) : jRH γ (nrm h) H := by
  refine ⟨hR.1, hR.2.1, fun b hb => (hR.2.2 b hb).kept rfl rfl rfl ?_⟩
  funext j
  show jVal (jTy (h.tag b) j) (if h.tag b = h.tag b then h.I (h.tag b) b j else 0) (if h.tag b = h.tag b then h.L (h.tag b) b j else 0) (h.R (h.tag b) b j) = _
  rw [if_pos rfl, if_pos rfl]
  rfl
theorem J.nrm {γ : jG} {μ : jMth} {f mc ms cells slots : Nat} {h : jM} {pc : Nat} {lv : List (Nat × Value)} {st : List Value} {Q : Option Value → jM → Prop} {X : String → jM → Prop} (kk : J γ μ f mc ms cells slots (nrm h) pc lv st Q X) : J γ μ f mc ms cells slots h pc lv st Q X := by
  intro p e s m args below meth c C H locs ls hH hz hlo hl
  exact kk p e s m args below meth c C H locs ls (nrm_ok hH) hz hlo hl
theorem nrm_Fr {h : jM} {W : Nat → Prop} : Fr h (nrm h) W := fun b _ => ⟨rfl, rfl, rfl, fun _ => ⟨fun k => if_pos rfl, fun k => if_pos rfl, fun _ => rfl, rfl⟩⟩
/-- the model's object a has got its arrays, as far as field m -/
def cI (h0 h : jM) (a m : Nat) : Prop := h.tag a = 16 ∧ (∀ k, h.I 16 a k = 0) ∧ Fr h0 h (fun b => b = a) ∧ (∀ t, jLn t ≠ 0 → t < 100 + m → ∃ q, h0.tag q = 0 ∧ h.R 16 a (t - 100) = some q ∧ h.tag q = t ∧ h.len q = jLn t ∧ ∀ k, h.I t q k = 0 ∧ h.L t q k = 0) ∧ (∀ t b k, t ≠ 0 → t ≠ h.tag b → h.I t b k = 0 ∧ h.L t b k = 0) ∧ (∀ b, h0.tag b = 0 → h.tag b = 0 ∨ 100 ≤ h.tag b)
theorem cI_step {h0 h : jM} {a m t n q k : Nat} (C : cI h0 h a m) (hq : h.tag q = 0) (ht : t = 100 + k) (hk : m ≤ k) (hs : ∀ s, 100 + m ≤ s → s < 100 + k → jLn s = 0) (hn : jLn t = n) (h0' : jLn t ≠ 0) : cI h0 ((h.nw q t n).sR 16 a k (some q)) a (k + 1) := by
  obtain ⟨c1, c2, c3, c4, c5, c6⟩ := C
  have hne : ¬ a = q := fun e => by rw [e] at c1; omega
  have t0 : t ≠ 0 := by omega
  refine ⟨by rw [jM.tag_sR, jM.tag_nw, if_neg hne]; exact c1, fun j => by rw [jM.I_sR, jM.I_nw, if_neg (fun z => hne z.2)]; exact c2 j, ?_, fun s s0 s1 => ?_, fun s b j hz hb => ?_, fun b hb => ?_⟩
  · exact Fr.stR (Fr.stN c3 hq t0) (Or.inl rfl)
  · rcases (by omega : s < 100 + m ∨ (100 + m ≤ s ∧ s < 100 + k) ∨ s = t) with z | z | z
    · obtain ⟨p, p0, p1, p2, p3, p4⟩ := c4 s s0 z
      have hp : ¬ p = q := fun e => by rw [e, hq] at p2; have := jLn_ge s0; omega
      refine ⟨p, p0, ?_, ?_, ?_, fun j => ⟨?_, ?_⟩⟩
      · rw [jM.R_sR, if_neg (by have := jLn_ge s0; omega), jM.R_nw, if_neg (fun z => hne z.2)]; exact p1
      · rw [jM.tag_sR, jM.tag_nw, if_neg hp]; exact p2
      · rw [jM.len_sR, jM.len_nw, if_neg hp]; exact p3
      · rw [jM.I_sR, jM.I_nw, if_neg (fun z => hp z.2)]; exact (p4 j).1
      · rw [jM.L_sR, jM.L_nw, if_neg (fun z => hp z.2)]; exact (p4 j).2
    · exact absurd (hs s z.1 z.2) s0
    · subst z
      refine ⟨q, c3.free hq, ?_, ?_, ?_, fun j => ⟨?_, ?_⟩⟩
      · rw [jM.R_sR, if_pos ⟨rfl, rfl, by omega⟩]
      · rw [jM.tag_sR, jM.tag_nw, if_pos rfl]
      · rw [jM.len_sR, jM.len_nw, if_pos rfl, hn]
      · rw [jM.I_sR, jM.I_nw, if_pos ⟨rfl, rfl⟩]
      · rw [jM.L_sR, jM.L_nw, if_pos ⟨rfl, rfl⟩]
  · rw [jM.I_sR, jM.L_sR, jM.I_nw, jM.L_nw]
    rw [jM.tag_sR, jM.tag_nw] at hb
    by_cases e : b = q
    · subst e
      rw [if_pos rfl] at hb
      rw [if_neg (fun z => hb z.1), if_neg (fun z => hb z.1)]
      exact c5 s b j hz (by rw [hq]; exact hz)
    · rw [if_neg e] at hb
      rw [if_neg (fun z => e z.2), if_neg (fun z => e z.2)]
      exact c5 s b j hz hb
  · rw [jM.tag_sR, jM.tag_nw]
    by_cases e : b = q
    · rw [if_pos e]; exact Or.inr (by omega)
    · rw [if_neg e]; exact c6 b hb
section MI
variable {γ : jG} {μ : jMth} {f mc ms cells slots : Nat} {pc : Nat} {lv : List (Nat × Value)} {st : List Value} {Q : Option Value → jM → Prop} {X : String → jM → Prop}
theorem mi_step {h0 h : jM} {a m : Nat} {atype : ArrayType} {t k idx : Nat} {n : Int} {pc1 pc' : Nat} (C : cI h0 h a m) (hc1 : μ.cm pc = some (.newarray atype, 2)) (hw : Cond.arrayClass (newarray.typeOf atype) ∈ lw_tbl) (hp1 : pc + 2 = pc1) (hc2 : μ.cm pc1 = some (.putfield idx, 3)) (hf : jFl μ.y.cls idx 16 k) (hp2 : pc1 + 3 = pc') (hk : jKr (jTy 16 k) = true) (hfin : jFin 16 k = true ∧ μ.y.name = "<init>" ∧ jDecl 16 k = μ.y.cls) (ht : t = 100 + k) (hty : jE t = newarray.typeOf atype) (hin : jE t ∈ jTys) (hn : (jLn t : Int) = n) (h0' : jLn t ≠ 0) (hmk : m ≤ k) (hs : ∀ s, 100 + m ≤ s → s < 100 + k → jLn s = 0) (hm : cells + 1 ≤ mc) (hsl : slots + n.toNat ≤ ms)
    (kk : ∀ h', cI h0 h' a (k + 1) → J γ μ f mc ms (cells + 1) (slots + n.toNat) h' pc' lv st Q X) : J γ μ f mc ms cells slots h pc lv (.int (jI n) :: .ref a :: st) Q X := by
  have hl := jLn_le t
  have hg := jLn_ge h0'
  refine J.newa (t := t) hc1 (by omega) hty hin hw (by omega) (by omega) hm hsl hp1 (fun q qf qb => ?_)
  have hne : ¬ a = q := fun e => by have := C.1; rw [e] at this; omega
  refine J.putR hc2 hf hk (Or.inr hfin) (by rw [jM.tag_nw, if_neg hne]; exact C.1) (Or.inl rfl) hp2 (kk _ ?_)
  have e1 : n.toNat = jLn t := by omega
  rw [e1]
  exact cI_step C qf ht hmk hs rfl h0'
end MI
def V0 : VV := fun t i => if t = 147 ∧ 0 ≤ i ∧ i < 5 then 10000 else 0
def isInit (γ : jG) (h : jM) (a : Nat) : Option Value → jM → Prop := fun r h' => r = none ∧ ∃ β : jB, β.2 16 = a ∧ isB β ∧ h' = jP β V0 ∧ Fr h h' (fun b => b = a) ∧ ∀ b, h.tag b = 0 → h'.tag b = 0 ∨ 100 ≤ h'.tag b
set_option maxHeartbeats 4000000 in
theorem cm_init {γ : jG} {h : jM} {a : Nat} (ha : h.tag a = 16) (hz : ∀ k, h.I 16 a k = 0) : CT γ mX12_init 1 46 22223 [.ref a] h (isInit γ h a) X0 := by
  refine CT.of MX12_init (Nat.le_of_ble_eq_true rfl) ?_
  show J γ mX12_init 1 46 22223 0 0 h 0 [(0, .ref a)] [] _ _
  first | refine J.aload_n (pc' := 1) rfl rfl rfl ?_ | refine J.aload_nN (pc' := 1) rfl rfl rfl ?_
  refine J.objI (pc' := 4) rfl (List.mem_of_getElem? (i := 1442) (by decide +kernel)) jObj_i jObj_c (by omega) (Nat.le_of_ble_eq_true rfl) rfl ?_
  refine J.nrm ?_
  have C : cI h (nrm h) a 4 := ⟨ha, fun k => by show (if 16 = h.tag a then h.I 16 a k else 0) = 0; rw [if_pos ha.symm]; exact hz k, nrm_Fr, fun t t0 t1 => by
    exfalso
    apply t0
    unfold jLn
    split <;> omega, fun t b k _ hb => ⟨if_neg hb, if_neg hb⟩, fun b hb => Or.inl hb⟩
  generalize nrm h = h1 at C ⊢
  first | refine J.aload_n (pc' := 5) rfl rfl rfl ?_ | refine J.aload_nN (pc' := 5) rfl rfl rfl ?_
  refine J.bipush (pc' := 7) rfl rfl (by decide) ?_
  refine mi_step (t := 104) (k := 4) (n := 50) (pc1 := 9) (pc' := 12) C rfl (List.mem_of_getElem? (i := 147) (by decide +kernel)) rfl rfl fl_X12_13 rfl rfl ⟨rfl, rfl, rfl⟩ rfl rfl (by decide) rfl (by decide) (by decide) (fun s a1 a2 => by omega) (by decide) (by decide) ?_
  clear C
  clear h1
  intro h1 C
  first | refine J.aload_n (pc' := 13) rfl rfl rfl ?_ | refine J.aload_nN (pc' := 13) rfl rfl rfl ?_
  refine J.bipush (pc' := 15) rfl rfl (by decide) ?_
  refine mi_step (t := 105) (k := 5) (n := 50) (pc1 := 17) (pc' := 20) C rfl (List.mem_of_getElem? (i := 147) (by decide +kernel)) rfl rfl fl_X12_17 rfl rfl ⟨rfl, rfl, rfl⟩ rfl rfl (by decide) rfl (by decide) (by decide) (fun s a1 a2 => by omega) (by decide) (by decide) ?_
  clear C
  clear h1
  intro h1 C
  first | refine J.aload_n (pc' := 21) rfl rfl rfl ?_ | refine J.aload_nN (pc' := 21) rfl rfl rfl ?_
  refine J.sipush (pc' := 24) rfl rfl (by decide) ?_
  refine mi_step (t := 106) (k := 6) (n := 400) (pc1 := 26) (pc' := 29) C rfl (List.mem_of_getElem? (i := 147) (by decide +kernel)) rfl rfl fl_X12_20 rfl rfl ⟨rfl, rfl, rfl⟩ rfl rfl (by decide) rfl (by decide) (by decide) (fun s a1 a2 => by omega) (by decide) (by decide) ?_
  clear C
  clear h1
  intro h1 C
  first | refine J.aload_n (pc' := 30) rfl rfl rfl ?_ | refine J.aload_nN (pc' := 30) rfl rfl rfl ?_
  refine J.sipush (pc' := 33) rfl rfl (by decide) ?_
  refine mi_step (t := 107) (k := 7) (n := 400) (pc1 := 35) (pc' := 38) C rfl (List.mem_of_getElem? (i := 147) (by decide +kernel)) rfl rfl fl_X12_23 rfl rfl ⟨rfl, rfl, rfl⟩ rfl rfl (by decide) rfl (by decide) (by decide) (fun s a1 a2 => by omega) (by decide) (by decide) ?_
  clear C
  clear h1
  intro h1 C
  first | refine J.aload_n (pc' := 39) rfl rfl rfl ?_ | refine J.aload_nN (pc' := 39) rfl rfl rfl ?_
  refine J.sipush (pc' := 42) rfl rfl (by decide) ?_
  refine mi_step (t := 108) (k := 8) (n := 400) (pc1 := 44) (pc' := 47) C rfl (List.mem_of_getElem? (i := 1624) (by decide +kernel)) rfl rfl fl_X12_26 rfl rfl ⟨rfl, rfl, rfl⟩ rfl rfl (by decide) rfl (by decide) (by decide) (fun s a1 a2 => by omega) (by decide) (by decide) ?_
  clear C
  clear h1
  intro h1 C
  first | refine J.aload_n (pc' := 48) rfl rfl rfl ?_ | refine J.aload_nN (pc' := 48) rfl rfl rfl ?_
  refine J.bipush (pc' := 50) rfl rfl (by decide) ?_
  refine mi_step (t := 109) (k := 9) (n := 8) (pc1 := 52) (pc' := 55) C rfl (List.mem_of_getElem? (i := 1625) (by decide +kernel)) rfl rfl fl_X12_30 rfl rfl ⟨rfl, rfl, rfl⟩ rfl rfl (by decide) rfl (by decide) (by decide) (fun s a1 a2 => by omega) (by decide) (by decide) ?_
  clear C
  clear h1
  intro h1 C
  first | refine J.aload_n (pc' := 56) rfl rfl rfl ?_ | refine J.aload_nN (pc' := 56) rfl rfl rfl ?_
  refine J.sipush (pc' := 59) rfl rfl (by decide) ?_
  refine mi_step (t := 116) (k := 16) (n := 400) (pc1 := 61) (pc' := 64) C rfl (List.mem_of_getElem? (i := 147) (by decide +kernel)) rfl rfl fl_X12_34 rfl rfl ⟨rfl, rfl, rfl⟩ rfl rfl (by decide) rfl (by decide) (by decide) (fun s a1 a2 => by rcases (by omega : s = 110 ∨ s = 111 ∨ s = 112 ∨ s = 113 ∨ s = 114 ∨ s = 115) with rfl | rfl | rfl | rfl | rfl | rfl <;> rfl) (by decide) (by decide) ?_
  clear C
  clear h1
  intro h1 C
  first | refine J.aload_n (pc' := 65) rfl rfl rfl ?_ | refine J.aload_nN (pc' := 65) rfl rfl rfl ?_
  refine J.bipush (pc' := 67) rfl rfl (by decide) ?_
  refine mi_step (t := 117) (k := 17) (n := 20) (pc1 := 69) (pc' := 72) C rfl (List.mem_of_getElem? (i := 147) (by decide +kernel)) rfl rfl fl_X12_37 rfl rfl ⟨rfl, rfl, rfl⟩ rfl rfl (by decide) rfl (by decide) (by decide) (fun s a1 a2 => by omega) (by decide) (by decide) ?_
  clear C
  clear h1
  intro h1 C
  first | refine J.aload_n (pc' := 73) rfl rfl rfl ?_ | refine J.aload_nN (pc' := 73) rfl rfl rfl ?_
  refine J.bipush (pc' := 75) rfl rfl (by decide) ?_
  refine mi_step (t := 118) (k := 18) (n := 20) (pc1 := 77) (pc' := 80) C rfl (List.mem_of_getElem? (i := 147) (by decide +kernel)) rfl rfl fl_X12_40 rfl rfl ⟨rfl, rfl, rfl⟩ rfl rfl (by decide) rfl (by decide) (by decide) (fun s a1 a2 => by omega) (by decide) (by decide) ?_
  clear C
  clear h1
  intro h1 C
  first | refine J.aload_n (pc' := 81) rfl rfl rfl ?_ | refine J.aload_nN (pc' := 81) rfl rfl rfl ?_
  refine J.bipush (pc' := 83) rfl rfl (by decide) ?_
  refine mi_step (t := 119) (k := 19) (n := 21) (pc1 := 85) (pc' := 88) C rfl (List.mem_of_getElem? (i := 147) (by decide +kernel)) rfl rfl fl_X12_43 rfl rfl ⟨rfl, rfl, rfl⟩ rfl rfl (by decide) rfl (by decide) (by decide) (fun s a1 a2 => by omega) (by decide) (by decide) ?_
  clear C
  clear h1
  intro h1 C
  first | refine J.aload_n (pc' := 89) rfl rfl rfl ?_ | refine J.aload_nN (pc' := 89) rfl rfl rfl ?_
  refine J.bipush (pc' := 91) rfl rfl (by decide) ?_
  refine mi_step (t := 120) (k := 20) (n := 21) (pc1 := 93) (pc' := 96) C rfl (List.mem_of_getElem? (i := 147) (by decide +kernel)) rfl rfl fl_X12_46 rfl rfl ⟨rfl, rfl, rfl⟩ rfl rfl (by decide) rfl (by decide) (by decide) (fun s a1 a2 => by omega) (by decide) (by decide) ?_
  clear C
  clear h1
  intro h1 C
  first | refine J.aload_n (pc' := 97) rfl rfl rfl ?_ | refine J.aload_nN (pc' := 97) rfl rfl rfl ?_
  refine J.sipush (pc' := 100) rfl rfl (by decide) ?_
  refine mi_step (t := 121) (k := 21) (n := 252) (pc1 := 102) (pc' := 105) C rfl (List.mem_of_getElem? (i := 147) (by decide +kernel)) rfl rfl fl_X12_49 rfl rfl ⟨rfl, rfl, rfl⟩ rfl rfl (by decide) rfl (by decide) (by decide) (fun s a1 a2 => by omega) (by decide) (by decide) ?_
  clear C
  clear h1
  intro h1 C
  first | refine J.aload_n (pc' := 106) rfl rfl rfl ?_ | refine J.aload_nN (pc' := 106) rfl rfl rfl ?_
  refine J.sipush (pc' := 109) rfl rfl (by decide) ?_
  refine mi_step (t := 122) (k := 22) (n := 273) (pc1 := 111) (pc' := 114) C rfl (List.mem_of_getElem? (i := 147) (by decide +kernel)) rfl rfl fl_X12_52 rfl rfl ⟨rfl, rfl, rfl⟩ rfl rfl (by decide) rfl (by decide) (by decide) (fun s a1 a2 => by omega) (by decide) (by decide) ?_
  clear C
  clear h1
  intro h1 C
  first | refine J.aload_n (pc' := 115) rfl rfl rfl ?_ | refine J.aload_nN (pc' := 115) rfl rfl rfl ?_
  refine J.sipush (pc' := 118) rfl rfl (by decide) ?_
  refine mi_step (t := 123) (k := 23) (n := 2100) (pc1 := 120) (pc' := 123) C rfl (List.mem_of_getElem? (i := 147) (by decide +kernel)) rfl rfl fl_X12_55 rfl rfl ⟨rfl, rfl, rfl⟩ rfl rfl (by decide) rfl (by decide) (by decide) (fun s a1 a2 => by omega) (by decide) (by decide) ?_
  clear C
  clear h1
  intro h1 C
  first | refine J.aload_n (pc' := 124) rfl rfl rfl ?_ | refine J.aload_nN (pc' := 124) rfl rfl rfl ?_
  refine J.sipush (pc' := 127) rfl rfl (by decide) ?_
  refine mi_step (t := 124) (k := 24) (n := 2100) (pc1 := 129) (pc' := 132) C rfl (List.mem_of_getElem? (i := 147) (by decide +kernel)) rfl rfl fl_X12_58 rfl rfl ⟨rfl, rfl, rfl⟩ rfl rfl (by decide) rfl (by decide) (by decide) (fun s a1 a2 => by omega) (by decide) (by decide) ?_
  clear C
  clear h1
  intro h1 C
  first | refine J.aload_n (pc' := 133) rfl rfl rfl ?_ | refine J.aload_nN (pc' := 133) rfl rfl rfl ?_
  refine J.sipush (pc' := 136) rfl rfl (by decide) ?_
  refine mi_step (t := 125) (k := 25) (n := 2100) (pc1 := 138) (pc' := 141) C rfl (List.mem_of_getElem? (i := 147) (by decide +kernel)) rfl rfl fl_X12_61 rfl rfl ⟨rfl, rfl, rfl⟩ rfl rfl (by decide) rfl (by decide) (by decide) (fun s a1 a2 => by omega) (by decide) (by decide) ?_
  clear C
  clear h1
  intro h1 C
  first | refine J.aload_n (pc' := 142) rfl rfl rfl ?_ | refine J.aload_nN (pc' := 142) rfl rfl rfl ?_
  refine J.bipush (pc' := 144) rfl rfl (by decide) ?_
  refine mi_step (t := 127) (k := 27) (n := 100) (pc1 := 146) (pc' := 149) C rfl (List.mem_of_getElem? (i := 147) (by decide +kernel)) rfl rfl fl_X12_64 rfl rfl ⟨rfl, rfl, rfl⟩ rfl rfl (by decide) rfl (by decide) (by decide) (fun s a1 a2 => by rcases (by omega : s = 126) with rfl <;> rfl) (by decide) (by decide) ?_
  clear C
  clear h1
  intro h1 C
  first | refine J.aload_n (pc' := 150) rfl rfl rfl ?_ | refine J.aload_nN (pc' := 150) rfl rfl rfl ?_
  refine J.bipush (pc' := 152) rfl rfl (by decide) ?_
  refine mi_step (t := 128) (k := 28) (n := 100) (pc1 := 154) (pc' := 157) C rfl (List.mem_of_getElem? (i := 147) (by decide +kernel)) rfl rfl fl_X12_67 rfl rfl ⟨rfl, rfl, rfl⟩ rfl rfl (by decide) rfl (by decide) (by decide) (fun s a1 a2 => by omega) (by decide) (by decide) ?_
  clear C
  clear h1
  intro h1 C
  first | refine J.aload_n (pc' := 158) rfl rfl rfl ?_ | refine J.aload_nN (pc' := 158) rfl rfl rfl ?_
  refine J.bipush (pc' := 160) rfl rfl (by decide) ?_
  refine mi_step (t := 129) (k := 29) (n := 100) (pc1 := 162) (pc' := 165) C rfl (List.mem_of_getElem? (i := 147) (by decide +kernel)) rfl rfl fl_X12_70 rfl rfl ⟨rfl, rfl, rfl⟩ rfl rfl (by decide) rfl (by decide) (by decide) (fun s a1 a2 => by omega) (by decide) (by decide) ?_
  clear C
  clear h1
  intro h1 C
  first | refine J.aload_n (pc' := 166) rfl rfl rfl ?_ | refine J.aload_nN (pc' := 166) rfl rfl rfl ?_
  refine J.bipush (pc' := 168) rfl rfl (by decide) ?_
  refine mi_step (t := 130) (k := 30) (n := 100) (pc1 := 170) (pc' := 173) C rfl (List.mem_of_getElem? (i := 147) (by decide +kernel)) rfl rfl fl_X12_73 rfl rfl ⟨rfl, rfl, rfl⟩ rfl rfl (by decide) rfl (by decide) (by decide) (fun s a1 a2 => by omega) (by decide) (by decide) ?_
  clear C
  clear h1
  intro h1 C
  first | refine J.aload_n (pc' := 174) rfl rfl rfl ?_ | refine J.aload_nN (pc' := 174) rfl rfl rfl ?_
  refine J.bipush (pc' := 176) rfl rfl (by decide) ?_
  refine mi_step (t := 131) (k := 31) (n := 100) (pc1 := 178) (pc' := 181) C rfl (List.mem_of_getElem? (i := 147) (by decide +kernel)) rfl rfl fl_X12_76 rfl rfl ⟨rfl, rfl, rfl⟩ rfl rfl (by decide) rfl (by decide) (by decide) (fun s a1 a2 => by omega) (by decide) (by decide) ?_
  clear C
  clear h1
  intro h1 C
  first | refine J.aload_n (pc' := 182) rfl rfl rfl ?_ | refine J.aload_nN (pc' := 182) rfl rfl rfl ?_
  refine J.bipush (pc' := 184) rfl rfl (by decide) ?_
  refine mi_step (t := 132) (k := 32) (n := 100) (pc1 := 186) (pc' := 189) C rfl (List.mem_of_getElem? (i := 147) (by decide +kernel)) rfl rfl fl_X12_79 rfl rfl ⟨rfl, rfl, rfl⟩ rfl rfl (by decide) rfl (by decide) (by decide) (fun s a1 a2 => by omega) (by decide) (by decide) ?_
  clear C
  clear h1
  intro h1 C
  first | refine J.aload_n (pc' := 190) rfl rfl rfl ?_ | refine J.aload_nN (pc' := 190) rfl rfl rfl ?_
  refine J.bipush (pc' := 192) rfl rfl (by decide) ?_
  refine mi_step (t := 133) (k := 33) (n := 100) (pc1 := 194) (pc' := 197) C rfl (List.mem_of_getElem? (i := 147) (by decide +kernel)) rfl rfl fl_X12_82 rfl rfl ⟨rfl, rfl, rfl⟩ rfl rfl (by decide) rfl (by decide) (by decide) (fun s a1 a2 => by omega) (by decide) (by decide) ?_
  clear C
  clear h1
  intro h1 C
  first | refine J.aload_n (pc' := 198) rfl rfl rfl ?_ | refine J.aload_nN (pc' := 198) rfl rfl rfl ?_
  refine J.sipush (pc' := 201) rfl rfl (by decide) ?_
  refine mi_step (t := 134) (k := 34) (n := 505) (pc1 := 203) (pc' := 206) C rfl (List.mem_of_getElem? (i := 147) (by decide +kernel)) rfl rfl fl_X12_85 rfl rfl ⟨rfl, rfl, rfl⟩ rfl rfl (by decide) rfl (by decide) (by decide) (fun s a1 a2 => by omega) (by decide) (by decide) ?_
  clear C
  clear h1
  intro h1 C
  first | refine J.aload_n (pc' := 207) rfl rfl rfl ?_ | refine J.aload_nN (pc' := 207) rfl rfl rfl ?_
  refine J.sipush (pc' := 210) rfl rfl (by decide) ?_
  refine mi_step (t := 135) (k := 35) (n := 505) (pc1 := 212) (pc' := 215) C rfl (List.mem_of_getElem? (i := 147) (by decide +kernel)) rfl rfl fl_X12_88 rfl rfl ⟨rfl, rfl, rfl⟩ rfl rfl (by decide) rfl (by decide) (by decide) (fun s a1 a2 => by omega) (by decide) (by decide) ?_
  clear C
  clear h1
  intro h1 C
  first | refine J.aload_n (pc' := 216) rfl rfl rfl ?_ | refine J.aload_nN (pc' := 216) rfl rfl rfl ?_
  refine J.bipush (pc' := 218) rfl rfl (by decide) ?_
  refine mi_step (t := 138) (k := 38) (n := 6) (pc1 := 220) (pc' := 223) C rfl (List.mem_of_getElem? (i := 147) (by decide +kernel)) rfl rfl fl_X12_91 rfl rfl ⟨rfl, rfl, rfl⟩ rfl rfl (by decide) rfl (by decide) (by decide) (fun s a1 a2 => by rcases (by omega : s = 136 ∨ s = 137) with rfl | rfl <;> rfl) (by decide) (by decide) ?_
  clear C
  clear h1
  intro h1 C
  first | refine J.aload_n (pc' := 224) rfl rfl rfl ?_ | refine J.aload_nN (pc' := 224) rfl rfl rfl ?_
  refine J.sipush (pc' := 227) rfl rfl (by decide) ?_
  refine mi_step (t := 139) (k := 39) (n := 246) (pc1 := 229) (pc' := 232) C rfl (List.mem_of_getElem? (i := 147) (by decide +kernel)) rfl rfl fl_X12_94 rfl rfl ⟨rfl, rfl, rfl⟩ rfl rfl (by decide) rfl (by decide) (by decide) (fun s a1 a2 => by omega) (by decide) (by decide) ?_
  clear C
  clear h1
  intro h1 C
  first | refine J.aload_n (pc' := 233) rfl rfl rfl ?_ | refine J.aload_nN (pc' := 233) rfl rfl rfl ?_
  refine J.sipush (pc' := 236) rfl rfl (by decide) ?_
  refine mi_step (t := 140) (k := 40) (n := 246) (pc1 := 238) (pc' := 241) C rfl (List.mem_of_getElem? (i := 147) (by decide +kernel)) rfl rfl fl_X12_97 rfl rfl ⟨rfl, rfl, rfl⟩ rfl rfl (by decide) rfl (by decide) (by decide) (fun s a1 a2 => by omega) (by decide) (by decide) ?_
  clear C
  clear h1
  intro h1 C
  first | refine J.aload_n (pc' := 242) rfl rfl rfl ?_ | refine J.aload_nN (pc' := 242) rfl rfl rfl ?_
  refine J.sipush (pc' := 245) rfl rfl (by decide) ?_
  refine mi_step (t := 141) (k := 41) (n := 246) (pc1 := 247) (pc' := 250) C rfl (List.mem_of_getElem? (i := 147) (by decide +kernel)) rfl rfl fl_X12_100 rfl rfl ⟨rfl, rfl, rfl⟩ rfl rfl (by decide) rfl (by decide) (by decide) (fun s a1 a2 => by omega) (by decide) (by decide) ?_
  clear C
  clear h1
  intro h1 C
  first | refine J.aload_n (pc' := 251) rfl rfl rfl ?_ | refine J.aload_nN (pc' := 251) rfl rfl rfl ?_
  refine J.sipush (pc' := 254) rfl rfl (by decide) ?_
  refine mi_step (t := 142) (k := 42) (n := 1230) (pc1 := 256) (pc' := 259) C rfl (List.mem_of_getElem? (i := 147) (by decide +kernel)) rfl rfl fl_X12_103 rfl rfl ⟨rfl, rfl, rfl⟩ rfl rfl (by decide) rfl (by decide) (by decide) (fun s a1 a2 => by omega) (by decide) (by decide) ?_
  clear C
  clear h1
  intro h1 C
  first | refine J.aload_n (pc' := 260) rfl rfl rfl ?_ | refine J.aload_nN (pc' := 260) rfl rfl rfl ?_
  refine J.sipush (pc' := 263) rfl rfl (by decide) ?_
  refine mi_step (t := 143) (k := 43) (n := 1230) (pc1 := 265) (pc' := 268) C rfl (List.mem_of_getElem? (i := 147) (by decide +kernel)) rfl rfl fl_X12_106 rfl rfl ⟨rfl, rfl, rfl⟩ rfl rfl (by decide) rfl (by decide) (by decide) (fun s a1 a2 => by omega) (by decide) (by decide) ?_
  clear C
  clear h1
  intro h1 C
  first | refine J.aload_n (pc' := 269) rfl rfl rfl ?_ | refine J.aload_nN (pc' := 269) rfl rfl rfl ?_
  refine J.iconst (pc' := 270) rfl rfl ?_
  refine mi_step (t := 144) (k := 44) (n := 5) (pc1 := 272) (pc' := 275) C rfl (List.mem_of_getElem? (i := 147) (by decide +kernel)) rfl rfl fl_X12_109 rfl rfl ⟨rfl, rfl, rfl⟩ rfl rfl (by decide) rfl (by decide) (by decide) (fun s a1 a2 => by omega) (by decide) (by decide) ?_
  clear C
  clear h1
  intro h1 C
  first | refine J.aload_n (pc' := 276) rfl rfl rfl ?_ | refine J.aload_nN (pc' := 276) rfl rfl rfl ?_
  refine J.iconst (pc' := 277) rfl rfl ?_
  refine mi_step (t := 145) (k := 45) (n := 5) (pc1 := 279) (pc' := 282) C rfl (List.mem_of_getElem? (i := 147) (by decide +kernel)) rfl rfl fl_X12_112 rfl rfl ⟨rfl, rfl, rfl⟩ rfl rfl (by decide) rfl (by decide) (by decide) (fun s a1 a2 => by omega) (by decide) (by decide) ?_
  clear C
  clear h1
  intro h1 C
  first | refine J.aload_n (pc' := 283) rfl rfl rfl ?_ | refine J.aload_nN (pc' := 283) rfl rfl rfl ?_
  refine J.iconst (pc' := 284) rfl rfl ?_
  refine mi_step (t := 146) (k := 46) (n := 5) (pc1 := 286) (pc' := 289) C rfl (List.mem_of_getElem? (i := 147) (by decide +kernel)) rfl rfl fl_X12_115 rfl rfl ⟨rfl, rfl, rfl⟩ rfl rfl (by decide) rfl (by decide) (by decide) (fun s a1 a2 => by omega) (by decide) (by decide) ?_
  clear C
  clear h1
  intro h1 C
  first | refine J.aload_n (pc' := 290) rfl rfl rfl ?_ | refine J.aload_nN (pc' := 290) rfl rfl rfl ?_
  refine J.iconst (pc' := 291) rfl rfl ?_
  refine mi_step (t := 147) (k := 47) (n := 5) (pc1 := 293) (pc' := 296) C rfl (List.mem_of_getElem? (i := 147) (by decide +kernel)) rfl rfl fl_X12_118 rfl rfl ⟨rfl, rfl, rfl⟩ rfl rfl (by decide) rfl (by decide) (by decide) (fun s a1 a2 => by omega) (by decide) (by decide) ?_
  clear C
  clear h1
  intro h1 C
  first | refine J.aload_n (pc' := 297) rfl rfl rfl ?_ | refine J.aload_nN (pc' := 297) rfl rfl rfl ?_
  refine J.bipush (pc' := 299) rfl rfl (by decide) ?_
  refine mi_step (t := 148) (k := 48) (n := 6) (pc1 := 301) (pc' := 304) C rfl (List.mem_of_getElem? (i := 147) (by decide +kernel)) rfl rfl fl_X12_121 rfl rfl ⟨rfl, rfl, rfl⟩ rfl rfl (by decide) rfl (by decide) (by decide) (fun s a1 a2 => by omega) (by decide) (by decide) ?_
  clear C
  clear h1
  intro h1 C
  first | refine J.aload_n (pc' := 305) rfl rfl rfl ?_ | refine J.aload_nN (pc' := 305) rfl rfl rfl ?_
  refine J.bipush (pc' := 307) rfl rfl (by decide) ?_
  refine mi_step (t := 149) (k := 49) (n := 6) (pc1 := 309) (pc' := 312) C rfl (List.mem_of_getElem? (i := 147) (by decide +kernel)) rfl rfl fl_X12_124 rfl rfl ⟨rfl, rfl, rfl⟩ rfl rfl (by decide) rfl (by decide) (by decide) (fun s a1 a2 => by omega) (by decide) (by decide) ?_
  clear C
  clear h1
  intro h1 C
  first | refine J.aload_n (pc' := 313) rfl rfl rfl ?_ | refine J.aload_nN (pc' := 313) rfl rfl rfl ?_
  refine J.bipush (pc' := 315) rfl rfl (by decide) ?_
  refine mi_step (t := 150) (k := 50) (n := 6) (pc1 := 317) (pc' := 320) C rfl (List.mem_of_getElem? (i := 147) (by decide +kernel)) rfl rfl fl_X12_127 rfl rfl ⟨rfl, rfl, rfl⟩ rfl rfl (by decide) rfl (by decide) (by decide) (fun s a1 a2 => by omega) (by decide) (by decide) ?_
  clear C
  clear h1
  intro h1 C
  first | refine J.aload_n (pc' := 321) rfl rfl rfl ?_ | refine J.aload_nN (pc' := 321) rfl rfl rfl ?_
  refine J.sipush (pc' := 324) rfl rfl (by decide) ?_
  refine mi_step (t := 151) (k := 51) (n := 1386) (pc1 := 326) (pc' := 329) C rfl (List.mem_of_getElem? (i := 1625) (by decide +kernel)) rfl rfl fl_X12_130 rfl rfl ⟨rfl, rfl, rfl⟩ rfl rfl (by decide) rfl (by decide) (by decide) (fun s a1 a2 => by omega) (by decide) (by decide) ?_
  clear C
  clear h1
  intro h1 C
  first | refine J.aload_n (pc' := 330) rfl rfl rfl ?_ | refine J.aload_nN (pc' := 330) rfl rfl rfl ?_
  refine J.bipush (pc' := 332) rfl rfl (by decide) ?_
  refine mi_step (t := 153) (k := 53) (n := 30) (pc1 := 334) (pc' := 337) C rfl (List.mem_of_getElem? (i := 147) (by decide +kernel)) rfl rfl fl_X12_133 rfl rfl ⟨rfl, rfl, rfl⟩ rfl rfl (by decide) rfl (by decide) (by decide) (fun s a1 a2 => by rcases (by omega : s = 152) with rfl <;> rfl) (by decide) (by decide) ?_
  clear C
  clear h1
  intro h1 C
  first | refine J.aload_n (pc' := 338) rfl rfl rfl ?_ | refine J.aload_nN (pc' := 338) rfl rfl rfl ?_
  refine J.sipush (pc' := 341) rfl rfl (by decide) ?_
  refine mi_step (t := 154) (k := 54) (n := 600) (pc1 := 343) (pc' := 346) C rfl (List.mem_of_getElem? (i := 147) (by decide +kernel)) rfl rfl fl_X12_136 rfl rfl ⟨rfl, rfl, rfl⟩ rfl rfl (by decide) rfl (by decide) (by decide) (fun s a1 a2 => by omega) (by decide) (by decide) ?_
  clear C
  clear h1
  intro h1 C
  first | refine J.aload_n (pc' := 347) rfl rfl rfl ?_ | refine J.aload_nN (pc' := 347) rfl rfl rfl ?_
  refine J.sipush (pc' := 350) rfl rfl (by decide) ?_
  refine mi_step (t := 155) (k := 55) (n := 600) (pc1 := 352) (pc' := 355) C rfl (List.mem_of_getElem? (i := 147) (by decide +kernel)) rfl rfl fl_X12_139 rfl rfl ⟨rfl, rfl, rfl⟩ rfl rfl (by decide) rfl (by decide) (by decide) (fun s a1 a2 => by omega) (by decide) (by decide) ?_
  clear C
  clear h1
  intro h1 C
  first | refine J.aload_n (pc' := 356) rfl rfl rfl ?_ | refine J.aload_nN (pc' := 356) rfl rfl rfl ?_
  refine J.sipush (pc' := 359) rfl rfl (by decide) ?_
  refine mi_step (t := 156) (k := 56) (n := 3000) (pc1 := 361) (pc' := 364) C rfl (List.mem_of_getElem? (i := 147) (by decide +kernel)) rfl rfl fl_X12_142 rfl rfl ⟨rfl, rfl, rfl⟩ rfl rfl (by decide) rfl (by decide) (by decide) (fun s a1 a2 => by omega) (by decide) (by decide) ?_
  clear C
  clear h1
  intro h1 C
  first | refine J.aload_n (pc' := 365) rfl rfl rfl ?_ | refine J.aload_nN (pc' := 365) rfl rfl rfl ?_
  refine J.sipush (pc' := 368) rfl rfl (by decide) ?_
  refine mi_step (t := 157) (k := 57) (n := 3000) (pc1 := 370) (pc' := 373) C rfl (List.mem_of_getElem? (i := 147) (by decide +kernel)) rfl rfl fl_X12_145 rfl rfl ⟨rfl, rfl, rfl⟩ rfl rfl (by decide) rfl (by decide) (by decide) (fun s a1 a2 => by omega) (by decide) (by decide) ?_
  clear C
  clear h1
  intro h1 C
  first | refine J.aload_n (pc' := 374) rfl rfl rfl ?_ | refine J.aload_nN (pc' := 374) rfl rfl rfl ?_
  refine J.bipush (pc' := 376) rfl rfl (by decide) ?_
  refine mi_step (t := 158) (k := 58) (n := 20) (pc1 := 378) (pc' := 381) C rfl (List.mem_of_getElem? (i := 147) (by decide +kernel)) rfl rfl fl_X12_148 rfl rfl ⟨rfl, rfl, rfl⟩ rfl rfl (by decide) rfl (by decide) (by decide) (fun s a1 a2 => by omega) (by decide) (by decide) ?_
  clear C
  clear h1
  intro h1 C
  first | refine J.aload_n (pc' := 382) rfl rfl rfl ?_ | refine J.aload_nN (pc' := 382) rfl rfl rfl ?_
  refine J.bipush (pc' := 384) rfl rfl (by decide) ?_
  refine mi_step (t := 159) (k := 59) (n := 20) (pc1 := 386) (pc' := 389) C rfl (List.mem_of_getElem? (i := 147) (by decide +kernel)) rfl rfl fl_X12_151 rfl rfl ⟨rfl, rfl, rfl⟩ rfl rfl (by decide) rfl (by decide) (by decide) (fun s a1 a2 => by omega) (by decide) (by decide) ?_
  clear C
  clear h1
  intro h1 C
  obtain ⟨c1, c2, c3, c4, c5, c6⟩ := C
  obtain ⟨β, hβ⟩ : ∃ β : jB, β = (h1, fun t => if jLn t ≠ 0 then (h1.R 16 a (t - 100)).getD 0 else a) := ⟨_, rfl⟩
  have b16 : β.2 16 = a := by rw [hβ]; rfl
  have bt : ∀ t, jLn t ≠ 0 → β.1.tag (β.2 t) = t ∧ β.1.len (β.2 t) = jLn t ∧ β.1.R 16 (β.2 16) (t - 100) = some (β.2 t) ∧ (∀ k, β.1.I t (β.2 t) k = 0 ∧ β.1.L t (β.2 t) k = 0) ∧ h.tag (β.2 t) = 0 := by
    intro t t0
    have tl : t < 100 + 60 := by
      rcases Nat.lt_or_ge t 160 with q | q
      · exact q
      · exfalso
        apply t0
        unfold jLn
        split <;> omega
    obtain ⟨q, q0, q1, q2, q3, q4⟩ := c4 t t0 tl
    have e : β.2 t = q := by rw [hβ]; show (if jLn t ≠ 0 then (h1.R 16 a (t - 100)).getD 0 else a) = q; rw [if_pos t0, q1]; rfl
    rw [e, b16]
    rw [hβ]
    exact ⟨q2, q3, q1, q4, q0⟩
  have B : isB β := ⟨by rw [b16, hβ]; exact c1, fun t t0 => ⟨(bt t t0).1, (bt t t0).2.1, (bt t t0).2.2.1⟩⟩
  have eh : h1 = jP β (fun _ _ => 0) := by
    have z : ∀ t k, (jMi t = true → h1.I t (β.2 t) k = 0) ∧ (jMl t = true → h1.L t (β.2 t) k = 0) := by
      intro t k
      by_cases t0 : jLn t ≠ 0
      · have := (bt t t0).2.2.2.1 k
        rw [hβ] at this ⊢
        exact ⟨fun _ => this.1, fun _ => this.2⟩
      · have e : β.2 t = a := by rw [hβ]; show (if jLn t ≠ 0 then (h1.R 16 a (t - 100)).getD 0 else a) = a; rw [if_neg t0]
        rw [e]
        by_cases e16 : t = 16
        · subst e16
          exact ⟨fun _ => c2 k, fun q => by cases q⟩
        · constructor
          · intro q
            refine (c5 t a k ?_ (by rw [c1]; exact e16)).1
            intro e0
            subst e0
            cases q
          · intro q
            refine (c5 t a k ?_ (by rw [c1]; exact e16)).2
            intro e0
            subst e0
            cases q
    refine jM.ext (by rw [hβ]; rfl) (by rw [hβ]; rfl) ?_ ?_ (by rw [hβ]; rfl)
    · funext t b k
      show h1.I t b k = if jMi t = true ∧ b = β.2 t then 0 else β.1.I t b k
      split
      · rename_i q
        rw [q.2]
        exact (z t k).1 q.1
      · rw [hβ]
    · funext t b k
      show h1.L t b k = if jMl t = true ∧ b = β.2 t then 0 else β.1.L t b k
      split
      · rename_i q
        rw [q.2]
        exact (z t k).2 q.1
      · rw [hβ]
  rw [eh] at c3 c6
  rw [eh, ← b16]
  have fin : ∀ V : VV, V = V0 → isInit γ h (β.2 16) none (jP β V) := fun V e => by
    subst e
    refine ⟨rfl, β, rfl, B, rfl, ?_, c6⟩
    intro b hb
    obtain ⟨f1, f2, f3, f4⟩ := c3 b hb
    refine ⟨f1, f2, f3, fun hw => ?_⟩
    obtain ⟨g1, g2, g3, g4⟩ := f4 (fun e => hw (by rw [e, b16]))
    have nb : ∀ t, b = β.2 t → jMi t = true ∨ jMl t = true → h.tag b = t → False := by
      intro t e q e2
      by_cases t0 : jLn t ≠ 0
      · rw [e] at hb
        exact hb (bt t t0).2.2.2.2
      · have e9 : β.2 t = a := by rw [hβ]; show (if jLn t ≠ 0 then (h1.R 16 a (t - 100)).getD 0 else a) = a; rw [if_neg t0]
        exact hw (by rw [e, e9, b16])
    refine ⟨fun k => ?_, fun k => ?_, g3, g4⟩
    · have := g1 k
      show (if jMi (h.tag b) = true ∧ b = β.2 (h.tag b) then V0 (h.tag b) k else β.1.I (h.tag b) b k) = _
      rw [if_neg (fun q => nb _ q.2 (Or.inl q.1) rfl)]
      show _ = h.I (h.tag b) b k
      rw [← this]
      show _ = (if jMi (h.tag b) = true ∧ b = β.2 (h.tag b) then 0 else β.1.I (h.tag b) b k)
      rw [if_neg (fun q => nb _ q.2 (Or.inl q.1) rfl)]
    · have := g2 k
      show (if jMl (h.tag b) = true ∧ b = β.2 (h.tag b) then V0 (h.tag b) k else β.1.L (h.tag b) b k) = _
      rw [if_neg (fun q => nb _ q.2 (Or.inr q.1) rfl)]
      rw [← this]
      show _ = (if jMl (h.tag b) = true ∧ b = β.2 (h.tag b) then 0 else β.1.L (h.tag b) b k)
      rw [if_neg (fun q => nb _ q.2 (Or.inr q.1) rfl)]
  have loop : ∀ (m i : Nat), i + m = 5 → ∀ lv, hasL lv [(0, .ref (β.2 16)), (1, .int (jI (i : Int)))] → J γ mX12_init 1 46 22223 46 22223 (jP β (fun t j => if t = 147 ∧ 0 ≤ j ∧ j < (i : Int) then 10000 else 0)) 391 lv [] (isInit γ h (β.2 16)) X0 := by
    intro m
    induction m with
    | zero =>
      intro i hi lv hlv
      have e5 : i = 5 := by omega
      subst e5
      refine J.lc hlv ?_
      refine J.iload_n (pc' := 392) rfl rfl rfl ?_
      refine J.iconst (pc' := 393) rfl rfl ?_
      refine J.icmp_ge (tgt := 411) (pc' := 396) rfl rfl rfl (by first | omega | (exact R.r _ _) | (simp only [jM.len_sI, jM.len_sL, jM.len_sR, jM.len_fI, jM.len_fL, jM.len_fR]; omega) | (simp [jM.len_nw, jM.len_sI, jM.len_sL, jM.len_sR, jM.len_fI, jM.len_fL, jM.len_fR, *]; omega)) (by first | omega | (exact R.r _ _) | (simp only [jM.len_sI, jM.len_sL, jM.len_sR, jM.len_fI, jM.len_fL, jM.len_fR]; omega) | (simp [jM.len_nw, jM.len_sI, jM.len_sL, jM.len_sR, jM.len_fI, jM.len_fL, jM.len_fR, *]; omega)) (fun d1 => ?_) (fun d1 => ?_)
      · refine J.vret rfl rfl (by first | omega | (exact R.r _ _) | (simp only [jM.len_sI, jM.len_sL, jM.len_sR, jM.len_fI, jM.len_fL, jM.len_fR]; omega) | (simp [jM.len_nw, jM.len_sI, jM.len_sL, jM.len_sR, jM.len_fI, jM.len_fL, jM.len_fR, *]; omega)) (by first | omega | (exact R.r _ _) | (simp only [jM.len_sI, jM.len_sL, jM.len_sR, jM.len_fI, jM.len_fL, jM.len_fR]; omega) | (simp [jM.len_nw, jM.len_sI, jM.len_sL, jM.len_sR, jM.len_fI, jM.len_fL, jM.len_fR, *]; omega)) ?_
        exact fin _ rfl
      · omega
    | succ m ih =>
      intro i hi lv hlv
      refine J.lc hlv ?_
      refine J.iload_n (pc' := 392) rfl rfl rfl ?_
      refine J.iconst (pc' := 393) rfl rfl ?_
      refine J.icmp_ge (tgt := 411) (pc' := 396) rfl rfl rfl (by first | omega | (exact R.r _ _) | (simp only [jM.len_sI, jM.len_sL, jM.len_sR, jM.len_fI, jM.len_fL, jM.len_fR]; omega) | (simp [jM.len_nw, jM.len_sI, jM.len_sL, jM.len_sR, jM.len_fI, jM.len_fL, jM.len_fR, *]; omega)) (by first | omega | (exact R.r _ _) | (simp only [jM.len_sI, jM.len_sL, jM.len_sR, jM.len_fI, jM.len_fL, jM.len_fR]; omega) | (simp [jM.len_nw, jM.len_sI, jM.len_sL, jM.len_sR, jM.len_fI, jM.len_fL, jM.len_fR, *]; omega)) (fun d1 => ?_) (fun d1 => ?_)
      · omega
      · first | refine J.aload_n (pc' := 397) rfl rfl rfl ?_ | refine J.aload_nN (pc' := 397) rfl rfl rfl ?_
        refine J.mgR (pc' := 400) (t := 147) B rfl fl_X12_118 rfl rfl (by decide) rfl ?_
        refine J.iload_n (pc' := 401) rfl rfl rfl ?_
        refine J.sipush (pc' := 404) rfl rfl (by decide) ?_
        refine J.mast (pc' := 405) B rfl rfl rfl rfl (by omega) (by simp only [jLn]; omega) rfl ?_
        refine J.iinc (pc' := 408) rfl rfl rfl (by decide) ?_
        refine J.goto (tgt := 391) rfl rfl ?_
        have e : jU (fun t j => if t = 147 ∧ 0 ≤ j ∧ j < (i : Int) then 10000 else 0) 147 i 10000 = (fun t j => if t = 147 ∧ 0 ≤ j ∧ j < ((i + 1 : Nat) : Int) then 10000 else 0) := by
          funext t j
          unfold jU
          by_cases q : t = 147 ∧ j = i
          · rw [if_pos q, if_pos (by omega)]
          · rw [if_neg q]
            show (if t = 147 ∧ 0 ≤ j ∧ j < (i : Int) then (10000 : Int) else 0) = _
            by_cases q2 : t = 147 ∧ 0 ≤ j ∧ j < (i : Int)
            · rw [if_pos q2, if_pos (by omega)]
            · rw [if_neg q2, if_neg (by omega)]
        rw [e]
        exact ih (i + 1) (by omega) _ ⟨rfl, rfl, trivial⟩
  have ez : (fun t j => if t = 147 ∧ 0 ≤ j ∧ j < ((0 : Nat) : Int) then (10000 : Int) else 0) = (fun _ _ => 0 : VV) := by
    funext t j
    rw [if_neg (by omega)]
  have h9 := loop 5 0 (by omega)
  rw [ez] at h9
  refine J.iconst (pc' := 390) rfl rfl ?_
  refine J.istore_n (pc' := 391) rfl rfl (by decide) ?_
  exact h9 _ ⟨rfl, rfl, trivial⟩

