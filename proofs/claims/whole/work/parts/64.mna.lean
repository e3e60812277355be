section MN
/-- rows of rows, made at once: q, its N rows behind it -/
def jM.mna (h : jM) (q t u N K : Nat) : jM := (fun a => if a = q then t else if q < a ∧ a ≤ q + N then u else h.tag a, fun a => if a = q then N else if q < a ∧ a ≤ q + N then K else h.len a, fun t' a k => if q ≤ a ∧ a ≤ q + N then (if t' = 0 then h.I t' a k else 0) else h.I t' a k, fun t' a k => if q ≤ a ∧ a ≤ q + N then (if t' = 0 then h.L t' a k else 0) else h.L t' a k, fun t' a k => if q ≤ a ∧ a ≤ q + N then (if t' = 0 then h.R t' a k else if t' = t ∧ a = q ∧ k < N then some (q + 1 + k) else none) else h.R t' a k)
theorem jM.tag_mna (h : jM) (q t u N K a : Nat) : (h.mna q t u N K).tag a = if a = q then t else if q < a ∧ a ≤ q + N then u else h.tag a := rfl
theorem jM.len_mna (h : jM) (q t u N K a : Nat) : (h.mna q t u N K).len a = if a = q then N else if q < a ∧ a ≤ q + N then K else h.len a := rfl
theorem jM.I_mna (h : jM) (q t u N K t' a k : Nat) : (h.mna q t u N K).I t' a k = if q ≤ a ∧ a ≤ q + N then (if t' = 0 then h.I t' a k else 0) else h.I t' a k := rfl
theorem jM.L_mna (h : jM) (q t u N K t' a k : Nat) : (h.mna q t u N K).L t' a k = if q ≤ a ∧ a ≤ q + N then (if t' = 0 then h.L t' a k else 0) else h.L t' a k := rfl
theorem jM.R_mna (h : jM) (q t u N K t' a k : Nat) : (h.mna q t u N K).R t' a k = if q ≤ a ∧ a ≤ q + N then (if t' = 0 then h.R t' a k else if t' = t ∧ a = q ∧ k < N then some (q + 1 + k) else none) else h.R t' a k := rfl
theorem jRH.past {γ : jG} {h : jM} {H : Heap} (hR : jRH γ h H) {a : Nat} (ha : H.size ≤ a) : h.tag a = 0 := by
  rcases Nat.eq_zero_or_pos (h.tag a) with q | q
  · exact q
  · exact absurd (hR.2.2 a (by omega)).lt (by omega)
theorem jRH.mna {γ : jG} {h : jM} {t u N K : Nat} {H H' : Heap} (hR : jRH γ h H) (ht : jE t = .array .int) (h20 : 20 ≤ t) (hu : jE u = .int) (u20 : 20 ≤ u) (hs : H'.size = H.size + 1 + N) (ho : ∀ q, q < H.size → H'[q]? = H[q]?) (hA : H'[H.size]? = some (arrV (γ.E (.array .int)) N (fun j => va_rf (if j < N then some (H.size + 1 + j) else none)))) (hB : ∀ j, j < N → H'[H.size + 1 + j]? = some (arrV (γ.E .int) K (fun _ => .int 0))) : jRH γ (h.mna H.size t u N K) H' := by
  have hb := hR.2.1
  refine ⟨fun q h1 => (ho q (Nat.lt_of_lt_of_le h1 hR.2.1)).trans (hR.1 q h1), by omega, fun b hb2 => ?_⟩
  by_cases e : b = H.size
  · subst e
    refine ⟨fun q => ?_, fun q => ?_, fun _ _ => hb⟩
    · rw [jM.tag_mna, if_pos rfl] at q
      omega
    · refine arrW.of hb ?_
      rw [jM.tag_mna, if_pos rfl, jM.len_mna, if_pos rfl, ht, hA]
      refine congrArg (fun z => some (arrV (γ.E (.array .int)) N z)) (funext fun j => ?_)
      unfold jV
      rw [jTyA h20, ht]
      show va_rf _ = va_rf _
      have e9 : (h.mna H.size t u N K).R t H.size j = if j < N then some (H.size + 1 + j) else none := by
        rw [jM.R_mna, if_pos ⟨Nat.le_refl _, by omega⟩, if_neg (by omega)]
        by_cases c : j < N
        · rw [if_pos c, if_pos ⟨rfl, rfl, c⟩]
        · rw [if_neg c, if_neg (fun z => c z.2.2)]
      rw [e9]
  · by_cases c : H.size < b ∧ b ≤ H.size + N
    · refine ⟨fun q => ?_, fun q => ?_, fun _ _ => by omega⟩
      · rw [jM.tag_mna, if_neg e, if_pos c] at q
        omega
      · refine arrW.of (by omega) ?_
        rw [jM.tag_mna, if_neg e, if_pos c, jM.len_mna, if_neg e, if_pos c, hu]
        have h9 := hB (b - H.size - 1) (by omega)
        rw [show H.size + 1 + (b - H.size - 1) = b by omega] at h9
        rw [h9]
        refine congrArg (fun z => some (arrV (γ.E .int) K z)) (funext fun j => ?_)
        unfold jV
        rw [jTyA u20, hu]
        show _ = Value.int (jI _)
        rw [jM.I_mna, if_pos (by omega), if_neg (by omega)]
        rfl
    · rw [jM.tag_mna, if_neg e, if_neg c] at hb2
      have hlt := (hR.2.2 b hb2).lt
      refine (hR.2.2 b hb2).kept (ho b hlt) (by rw [jM.tag_mna, if_neg e, if_neg c]) (by rw [jM.len_mna, if_neg e, if_neg c]) ?_
      funext j
      unfold jV
      rw [jM.I_mna, jM.L_mna, jM.R_mna, if_neg (by omega), if_neg (by omega), if_neg (by omega)]
theorem jOv : Cond.arrayOver (.array .int) ∈ lw_tbl := by decide +kernel
theorem jAc : Cond.arrayClass .int ∈ lw_tbl := by decide +kernel
section
variable {γ : jG} {μ : jMth} {f mc ms cells slots : Nat} {h : jM} {pc : Nat} {lv : List (Nat × Value)} {st : List Value} {Q : Option Value → jM → Prop} {X : String → jM → Prop}
theorem J.mna {idx t u : Nat} {n k : Int} {pc' : Nat} (hc : μ.cm pc = some (.multianewarray idx 2, 4)) (ht : jE t = .array .int) (h20 : 20 ≤ t) (hu : jE u = .int) (u20 : 20 ≤ u) (hw : Cond.classLink μ.y.cls idx "[[I" ∈ lw_tbl) (h0 : 0 ≤ n ∧ n ≤ 1000) (h1 : 0 ≤ k ∧ k ≤ 1000) (hm : cells + (1 + n.toNat) ≤ mc) (hs : slots + (n.toNat + n.toNat * k.toNat) ≤ ms) (hp : pc + 4 = pc')
    (kk : ∀ q, (∀ j, q ≤ j → h.tag j = 0) → γ.base ≤ q → J γ μ f mc ms (cells + 1 + n.toNat) (slots + n.toNat + n.toNat * k.toNat) (h.mna q t u n.toNat k.toNat) pc' lv (.ref q :: st) Q X) : J γ μ f mc ms cells slots h pc lv (.int (jI k) :: .int (jI n) :: st) Q X := by
  subst hp
  intro p e s m args below meth c C H locs ls hH hz hlo hl
  have hr : r32 n := ⟨by omega, by omega⟩
  have hr2 : r32 k := ⟨by omega, by omega⟩
  have en := jI_ix hr h0.1
  have ek := jI_ix hr2 h1.1
  have hA := C.A (ty := .array .int) (by decide)
  have hI := C.A (ty := .int) (by decide)
  have hov : (Cond.arrayOver (.array .int)).before args s = true := by
    obtain ⟨A, hA, -⟩ := C.F.2.1
    exact Jvm.Stand.arrayOver_alikeB C.warm.alike (hA _ jOv)
  have z0 : (0 : Int32).toInt = 0 := rfl
  intro T hT Xs
  obtain ⟨vm₁, cA, comp, -, fA, fC, hO, -, X', step⟩ := Xs.multianewarray2F C.hx C.hown (C.w hw rfl) hov (C.w jAc rfl) (g := F0 m pc ls (.int (jI k) :: .int (jI n) :: st)) rfl (by rw [C.hb]; exact C.dec hc) rfl (by rw [Int32.lt_iff_toInt_lt, jI_toInt hr]; omega) (by rw [Int32.lt_iff_toInt_lt, jI_toInt hr2]; omega) (by rw [en]; omega) (by rw [ek]; show _ * 4 ≤ _; omega) (by rw [ek]; omega) rfl rfl (by rw [en]; exact hm) (by rw [en, ek]; exact hs)
  rw [en, ek] at X' step
  have ec : cA = γ.E (.array .int) := Option.some.inj (fA.symm.trans hA.1)
  have ed : comp = γ.E .int := Option.some.inj (fC.symm.trans hI.1)
  subst ec
  subst ed
  generalize hF : Jvm.Free.Multi.fill (T.setVm vm₁) (γ.E (.array .int)) (γ.E .int) n.toNat k.toNat (defaultValue .int) n.toNat = F at X' step
  have hTh : (T.setVm vm₁).heap = H := hT
  obtain ⟨f1, f2, -, -⟩ := Jvm.Free.Multi.fill_facts (T.setVm vm₁) (γ.E (.array .int)) (γ.E .int) n.toNat k.toNat (defaultValue .int) n.toNat
  rw [hF, hTh] at f1 f2
  have hold : ∀ x : Nat, x < H.size → F.heap[x]? = H[x]? := fun x hx => by
    have := Jvm.Free.Multi.fill_old (T.setVm vm₁) (γ.E (.array .int)) (γ.E .int) n.toNat k.toNat (defaultValue .int) (a := x) (by rw [hTh]; exact hx) n.toNat
    rw [hF, hTh] at this
    exact this
  have hrow : ∀ j : Nat, j < n.toNat → F.heap[H.size + 1 + j]? = some (arrV (γ.E .int) k.toNat (fun _ => .int 0)) := fun j hj => by
    have := Jvm.Free.Multi.fill_inner (T.setVm vm₁) (γ.E (.array .int)) (γ.E .int) n.toNat k.toNat (defaultValue .int) n.toNat j hj
    rw [hF, hTh] at this
    rw [this, ← arrV_new]
    rfl
  rw [vr_outer] at f2
  obtain ⟨w, a1, b1⟩ := kk H.size (fun j hj => hH.past hj) hH.2.1 p e s m args below meth c C F.heap locs ls (hH.mna ht h20 hu u20 f1 hold f2 hrow) (by omega) hlo hl F rfl X'
  refine ⟨w, step w ?_, b1⟩
  have e9 : T.heap.size = H.size := by rw [hT]
  rw [e9]
  exact a1
end
end MN

