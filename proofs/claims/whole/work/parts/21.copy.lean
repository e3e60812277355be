theorem jRH.arrAll {γ : jG} {h h' : jM} {a : Nat} {H H' : Heap} (hR : jRH γ h H) (ht : h'.tag = h.tag) (hl : h'.len = h.len) (hb : γ.base ≤ a) (hv : ∀ b, b ≠ a → ∀ t, jV h' t b = jV h t b) (h20 : 20 ≤ h.tag a)
    (h1 : H'[a]? = some (arrV (γ.E (jE (h.tag a))) (h.len a) (jV h' (h.tag a) a))) (ho : ∀ q, q ≠ a → H'[q]? = H[q]?) (hs : H'.size = H.size) : jRH γ h' H' := by
  refine hR.set ht hl hb hv ho hs fun hn => ⟨fun q => ?_, fun _ => ?_, fun _ _ => hb⟩
  · rw [ht] at q
    omega
  · refine arrW.of hb ?_
    rw [ht, hl, h1]
theorem jV_ofI {h : jM} {t a : Nat} {F : Nat → Int} {b : Nat} (hb : b ≠ a) (t' : Nat) : jV (h.fI t a F) t' b = jV h t' b := by
  funext j
  unfold jV
  rw [jM.I_fI, if_neg (fun q => hb q.2), jM.L_fI, jM.R_fI]
theorem jV_ofR {h : jM} {t a : Nat} {F : Nat → Option Nat} {b : Nat} (hb : b ≠ a) (t' : Nat) : jV (h.fR t a F) t' b = jV h t' b := by
  funext j
  unfold jV
  rw [jM.R_fR, if_neg (fun q => hb q.2), jM.L_fR, jM.I_fR]
theorem jCp_n : Cond.native arraycopyName ∈ lw_tbl := by decide +kernel
theorem jCp_s : Cond.static arraycopyName ∈ lw_tbl := by decide +kernel
theorem jCp_i : Cond.initialized "java/lang/System" ∈ lw_tbl := by decide +kernel
theorem jCp_w : nativeFrameWords "java/lang/System" "arraycopy" 5 + 11 ≤ 40 := by decide
section JCP
variable {γ : jG} {μ : jMth} {f mc ms cells slots : Nat} {h : jM} {pc : Nat} {lv : List (Nat × Value)} {st : List Value} {Q : Option Value → jM → Prop} {X : String → jM → Prop}
theorem J.acopyI {idx a0 a t0 t : Nat} {sp dp n : Int} {pc' : Nat} (hc : μ.cm pc = some (.invokestatic idx, 3)) (hl : Cond.methodLink μ.y.cls idx arraycopyName ∈ lw_tbl) (ht0 : h.tag a0 = t0) (ht : h.tag a = t) (g0 : 20 ≤ t0) (g1 : 20 ≤ t) (hE : jE t0 = jE t) (hin : jE t ∈ jTys) (hk : jKi (jE t) = true) (s0 : 0 ≤ sp) (d0 : 0 ≤ dp) (n0 : 0 ≤ n) (h4 : sp + n ≤ (h.len a0 : Int)) (h5 : dp + n ≤ (h.len a : Int)) (rs : r32 sp) (rd : r32 dp) (rn : r32 n)
    (hfit : ∀ i, i < n.toNat → fits (jE t) (.int (jI (h.I t0 a0 (sp.toNat + i)))) = true) (hb : (jWr t = true ∧ 0 < h.len a) ∨ γ.base ≤ a) (hf : 1 ≤ f) (hW : (st.map fun v => v.category).sum ≤ 8) (hp : pc + 3 = pc')
    (kk : J γ μ f mc ms cells slots (h.fI t a (va_cpy (h.I t0 a0) (h.I t a) sp.toNat dp.toNat n.toNat)) pc' lv st Q X) : J γ μ f mc ms cells slots h pc lv (.int (jI n) :: .int (jI dp) :: .ref a :: .int (jI sp) :: .ref a0 :: st) Q X := by
  subst hp
  subst ht0
  subst ht
  intro p e s m args below meth c C H locs ls hH hz hlo hl9
  have hba : γ.base ≤ a := by
    rcases hb with hb | hb
    · exact (hH.2.2 a (by omega)).2.2 hb.1 hb.2
    · exact hb
  have hA := C.A hin
  obtain ⟨-, kA, comp, k1, k2, -⟩ := hA
  obtain ⟨cs, r1, r2, r3, r4, r5, r6⟩ := jArrR C hH g0 (by rw [hE]; exact hin)
  obtain ⟨r2s, kS, r2a, compS, r2b⟩ := r2
  rw [hE] at r2b
  rw [jV_arrI g0 (by rw [hE]; exact hk)] at r6
  have hc1 := jArrA hH g1 hba
  rw [jV_arrI g1 hk] at hc1
  have hprim : refKind (jE (h.tag a)) = false := by revert hk; cases jE (h.tag a) <;> simp [jKi, refKind]
  have hneg : ∀ z : Int, r32 z → 0 ≤ z → ¬ jI z < 0 := fun z hz h0 => by
    rw [← jI_0, jI_lt hz ⟨by omega, by omega⟩]
    omega
  intro T hT X
  obtain ⟨vm', X', step⟩ := X.arraycopy C.hx C.hown (C.w hl rfl) (C.w jCp_n rfl) (C.w jCp_s rfl) (C.w jCp_i rfl) (src := a0) (dst := a) (srcPos := jI sp) (destPos := jI dp) (n := jI n) (by rw [hT]; exact r1) (by rw [hT]; exact hc1)
    r2s (fun _ h => by cases h) r3 (fun h => by cases h) r2a k1 r2b k2 (by simp [hprim]) (hneg sp rs s0) (hneg dp rd d0) (hneg n rn n0)
    (by rw [jI_toInt rs, jI_toInt rn]; omega)
    (by rw [jI_toInt rd, jI_toInt rn, arrV_size]; omega)
    (fun vm₁ _ i hi => by
      rw [jI_ix rn n0] at hi
      rw [jI_ix rs s0, Array.getD_eq_getD_getElem?, r6 _ (by omega)]
      exact ⟨hfit i hi, trivial⟩)
    (g := F0 m pc ls (.int (jI n) :: .int (jI dp) :: .ref a :: .int (jI sp) :: .ref a0 :: st)) rfl (by rw [C.hml]; exact hl9.1) (rest := st) rfl (by rw [C.hb]; exact C.dec hc) hf (by
      show 2 * 0 + _ + _ ≤ f * 64
      have := jCp_w
      omega)
  have e1 : copied cs (arrV (γ.E (jE (h.tag a))) (h.len a) (fun j => .int (jI (h.I (h.tag a) a j)))) (jI sp) (jI dp) (jI n) = arrV (γ.E (jE (h.tag a))) (h.len a) (fun j => .int (jI (va_cpy (h.I (h.tag a0) a0) (h.I (h.tag a) a) sp.toNat dp.toNat n.toNat j))) := by
    have h9 := va_copiedX (fun z => Value.int (jI z)) cs (γ.E (jE (h.tag a))) (n0 := h.len a0) (n1 := h.len a) (sp := sp.toNat) (dp := dp.toNat) (n := n.toNat) (h.I (h.tag a0) a0) (h.I (h.tag a) a) r6 (by omega)
    unfold copied
    rw [jI_ix rs s0, jI_ix rd d0, jI_ix rn n0]
    exact h9
  rw [e1] at X' step
  have hlt : a < H.size := (Array.getElem?_eq_some_iff.mp hc1).1
  generalize hnew : arrV (γ.E (jE (h.tag a))) (h.len a) (fun j => .int (jI (va_cpy (h.I (h.tag a0) a0) (h.I (h.tag a) a) sp.toNat dp.toNat n.toNat j))) = cN at X' step
  have hheap : ((T.setVm vm').setCell a cN).heap = H.setIfInBounds a cN := by rw [← hT]; rfl
  have oq : ∀ q : Nat, q ≠ a → (H.setIfInBounds a cN)[q]? = H[q]? := fun q hq => by simp [Array.getElem?_setIfInBounds, Ne.symm hq]
  have hR' : jRH γ (h.fI (h.tag a) a (va_cpy (h.I (h.tag a0) a0) (h.I (h.tag a) a) sp.toNat dp.toNat n.toNat)) (H.setIfInBounds a cN) := by
    refine hH.arrAll rfl rfl hba (fun b hb t' => jV_ofI hb t') g1 ?_ oq (by simp)
    rw [jV_arrI g1 hk, Array.getElem?_setIfInBounds, if_pos rfl, if_pos hlt, ← hnew]
    congr 2
    funext j
    rw [jM.I_fI, if_pos ⟨rfl, rfl⟩]
  obtain ⟨t, a1, b1⟩ := kk p e s m args below meth c C _ _ ls hR' (by simp; exact hz) (fun q hq => by
    rcases List.mem_append.mp hq with h8 | h8
    · exact hlo q h8
    · obtain ⟨z, -, hz⟩ := List.mem_map.mp h8
      rw [← hz]
      exact hba) hl9 _ hheap X'
  exact ⟨t, step t a1, b1⟩
/-- copies among Object[] whose parts are null or objects of the classes of ours -/
theorem J.acopyR {idx a0 a : Nat} {sp dp n : Int} {pc' : Nat} (hc : μ.cm pc = some (.invokestatic idx, 3)) (hl : Cond.methodLink μ.y.cls idx arraycopyName ∈ lw_tbl) (ht0 : h.tag a0 = 34) (ht : h.tag a = 34) (s0 : 0 ≤ sp) (d0 : 0 ≤ dp) (n0 : 0 ≤ n) (h4 : sp + n ≤ (h.len a0 : Int)) (h5 : dp + n ≤ (h.len a : Int)) (rs : r32 sp) (rd : r32 dp) (rn : r32 n)
    (hel : ∀ i, i < n.toNat → ∀ y, h.R 34 a0 (sp.toNat + i) = some y → ∃ q : vw_C, 0 < h.tag y ∧ h.tag y < 20 ∧ vwCl[h.tag y - 1]? = some q ∧ Cond.castable q.1 "java/lang/Object" ∈ lw_tbl) (hb : 0 < h.len a ∨ γ.base ≤ a) (hf : 1 ≤ f) (hW : (st.map fun v => v.category).sum ≤ 8) (hp : pc + 3 = pc')
    (kk : J γ μ f mc ms cells slots (h.fR 34 a (va_cpy (h.R 34 a0) (h.R 34 a) sp.toNat dp.toNat n.toNat)) pc' lv st Q X) : J γ μ f mc ms cells slots h pc lv (.int (jI n) :: .int (jI dp) :: .ref a :: .int (jI sp) :: .ref a0 :: st) Q X := by
  subst hp
  intro p e s m args below meth c C H locs ls hH hz hlo hl9
  have hba : γ.base ≤ a := by
    rcases hb with hb | hb
    · exact (hH.2.2 a (by omega)).2.2 (by rw [ht]; rfl) hb
    · exact hb
  have hA := C.A (ty := .object "java/lang/Object") (by decide)
  obtain ⟨-, kA, comp, k1, k2, k3⟩ := hA
  obtain ⟨cs, r1, r2, r3, r4, r5, r6⟩ := jArrR C hH (a := a0) (by omega) (by rw [ht0]; decide)
  obtain ⟨r2s, kS, r2a, compS, r2b⟩ := r2
  rw [ht0] at r2b
  rw [ht0, jV_arrR (by omega) rfl] at r6
  have hc1 := jArrA hH (a := a) (by omega) hba
  rw [ht, jV_arrR (by omega) rfl] at hc1
  have hneg : ∀ z : Int, r32 z → 0 ≤ z → ¬ jI z < 0 := fun z hz h0 => by
    rw [← jI_0, jI_lt hz ⟨by omega, by omega⟩]
    omega
  intro T hT X
  obtain ⟨vm', X', step⟩ := X.arraycopy C.hx C.hown (C.w hl rfl) (C.w jCp_n rfl) (C.w jCp_s rfl) (C.w jCp_i rfl) (src := a0) (dst := a) (srcPos := jI sp) (destPos := jI dp) (n := jI n) (by rw [hT]; exact r1) (by rw [hT]; exact hc1)
    r2s (fun _ h => by cases h) r3 (fun h => by cases h) r2a k1 r2b k2 rfl (hneg sp rs s0) (hneg dp rd d0) (hneg n rn n0)
    (by rw [jI_toInt rs, jI_toInt rn]; omega)
    (by rw [jI_toInt rd, jI_toInt rn, arrV_size]; omega)
    (fun vm₁ hal i hi => by
      rw [jI_ix rn n0] at hi
      rw [jI_ix rs s0, Array.getD_eq_getD_getElem?, r6 _ (by omega)]
      show fits (.object "java/lang/Object") (va_rf (h.R 34 a0 (sp.toNat + i))) = true ∧ (T.setVm vm₁).takes comp (va_rf (h.R 34 a0 (sp.toNat + i)))
      cases hy : h.R 34 a0 (sp.toNat + i) with
      | none => exact ⟨rfl, trivial⟩
      | some y =>
        obtain ⟨q, y0, y1, hq, hcs⟩ := hel i hi y hy
        obtain ⟨cellV, g1, g2, g3⟩ := jRecv C hH y0 y1 ⟨q, hq, rfl⟩ rfl
        have hc3 : (Cond.castable q.1 "java/lang/Object").before args s = true := C.w3 hcs rfl
        obtain ⟨c0, t0, f1, f2, f3⟩ := Cond.castable_spec hc3
        have hcomp := k3 _ rfl
        cases g3.symm.trans f1
        cases hcomp.symm.trans f2
        obtain ⟨kC, hkC, -⟩ := Vm.findClass_spec g3
        obtain ⟨kE, hkE, -⟩ := Vm.findClass_spec hcomp
        obtain ⟨kC', hkC', -⟩ := hal.2.2 _ _ hkC
        obtain ⟨kE', hkE', -⟩ := hal.2.2 _ _ hkE
        refine ⟨rfl, cellV, (show T.heap[y]? = some cellV by rw [hT]; exact g1), (fun q h => by rw [h] at g2; cases g2), ⟨kC', hkC'⟩, ⟨kE', hkE'⟩, ?_⟩
        show vm₁.assignable _ _ = true
        rw [hal.assignable]
        exact f3)
    (g := F0 m pc ls (.int (jI n) :: .int (jI dp) :: .ref a :: .int (jI sp) :: .ref a0 :: st)) rfl (by rw [C.hml]; exact hl9.1) (rest := st) rfl (by rw [C.hb]; exact C.dec hc) hf (by
      show 2 * 0 + _ + _ ≤ f * 64
      have := jCp_w
      omega)
  have e1 : copied cs (arrV (γ.E (.object "java/lang/Object")) (h.len a) (fun j => va_rf (h.R 34 a j))) (jI sp) (jI dp) (jI n) = arrV (γ.E (.object "java/lang/Object")) (h.len a) (fun j => va_rf (va_cpy (h.R 34 a0) (h.R 34 a) sp.toNat dp.toNat n.toNat j)) := by
    have h9 := va_copiedX (fun z => va_rf z) cs (γ.E (.object "java/lang/Object")) (n0 := h.len a0) (n1 := h.len a) (sp := sp.toNat) (dp := dp.toNat) (n := n.toNat) (h.R 34 a0) (h.R 34 a) r6 (by omega)
    unfold copied
    rw [jI_ix rs s0, jI_ix rd d0, jI_ix rn n0]
    exact h9
  have X2 := X'
  have step2 := step
  rw [show jE 34 = .object "java/lang/Object" from rfl, e1] at X2 step2
  have hlt : a < H.size := (Array.getElem?_eq_some_iff.mp hc1).1
  generalize hnew : arrV (γ.E (.object "java/lang/Object")) (h.len a) (fun j => va_rf (va_cpy (h.R 34 a0) (h.R 34 a) sp.toNat dp.toNat n.toNat j)) = cN at X2 step2
  have hheap : ((T.setVm vm').setCell a cN).heap = H.setIfInBounds a cN := by rw [← hT]; rfl
  have oq : ∀ q : Nat, q ≠ a → (H.setIfInBounds a cN)[q]? = H[q]? := fun q hq => by simp [Array.getElem?_setIfInBounds, Ne.symm hq]
  have hR' : jRH γ (h.fR 34 a (va_cpy (h.R 34 a0) (h.R 34 a) sp.toNat dp.toNat n.toNat)) (H.setIfInBounds a cN) := by
    refine hH.arrAll rfl rfl hba (fun b hb t' => jV_ofR hb t') (by omega) ?_ oq (by simp)
    rw [ht, jV_arrR (by omega) rfl, Array.getElem?_setIfInBounds, if_pos rfl, if_pos hlt, ← hnew]
    show _ = some (arrV (γ.E (.object "java/lang/Object")) (h.len a) _)
    congr 2
    funext j
    rw [jM.R_fR, if_pos ⟨rfl, rfl⟩]
  obtain ⟨t, a1, b1⟩ := kk p e s m args below meth c C _ _ ls hR' (by simp; exact hz) (fun q hq => by
    rcases List.mem_append.mp hq with h8 | h8
    · exact hlo q h8
    · obtain ⟨z, -, hz⟩ := List.mem_map.mp h8
      rw [← hz]
      exact hba) hl9 _ hheap X2
  exact ⟨t, step2 t a1, b1⟩
end JCP

