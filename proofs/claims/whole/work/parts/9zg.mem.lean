section MEM
variable {l : Launch} {s : State} {D : va_G} {E : FieldType → ClassId} {K V : Nat → Nat} {B : Nat → List Int32} {b L : Nat} {xs : Nat → Int32}
theorem str_slot (hK : va_K D vwCl [] s) {k : Nat} {o n d : String} (hk : k < 2) (ho : (TJ0 k).1 = o) (hn : (TJ0 k).2.1 = n) (hd : (TJ0 k).2.2.1 = d) {v : Value} {a : Nat} {A : Nat → Prop} (h : va_OF o n d v a A s s.heap) : ∃ cell : Cell, s.heap[a]? = some cell ∧ cell.vm ≠ .unknown ∧ cell.slots[D.2 0 k]? = some v := by
  obtain ⟨cf, kc, fi, f, cell, h1, h2, h3, h4, h5, -⟩ := h
  obtain ⟨cf', kf', fi', f', g1, g2⟩ := (hK.1 0 (RJ0, TJ0, 2) rfl).1 k hk
  have g1 : s.fieldFound? (TJ0 k).1 (TJ0 k).2.1 (TJ0 k).2.2.1 = some (cf', kf', fi', f') := g1
  rw [ho, hn, hd, h1] at g1
  cases g1
  refine ⟨cell, h3, h4, ?_⟩
  rw [← g2]
  exact h5
theorem str_no (hK : va_K D vwCl [] s) {a : Nat} {A : Nat → Prop} {cell : Cell} {ty : FieldType} (h : va_O "java/lang/String" a A s s.heap) (hc : s.heap[a]? = some cell) (ha : s.isArrayOf cell ty) : False := by
  obtain ⟨c2, h1, h2, h3, -⟩ := h
  cases hc.symm.trans h1
  obtain ⟨g1, kC, g2, g3⟩ := (hK.1 0 (RJ0, TJ0, 2) rfl).2
  have g1 : s.vm.findClass "java/lang/String" = some (D.1 0) := g1
  have e0 := Option.some.inj (h3.symm.trans g1)
  obtain ⟨-, k1, a1, c1, e1⟩ := ha
  rw [e0] at a1
  cases a1.symm.trans g2
  rw [e1] at g3
  cases g3
/-- the memory at the law's entry -/
theorem mem_of (F : ∀ i, 1 ≤ i → i ≤ 9 → stOk s (K i) (V i) (B i)) (hB : ∀ i, (B i).length < 1000) (z0 : va_T (.object "java/lang/Object") (K 0) 0 (fun _ => .null) (fun q => s.heap.size ≤ q) s s.heap) (zc : ∀ cell, s.heap[K 0]? = some cell → cell.cls = E (.object "java/lang/Object")) (hX : va_X b L xs s s.heap) (hL : L ≤ 3072) (hK : va_K D vwCl [] s) :
    ∃ h : jM, jRH (l, s, D, E, K) h s.heap ∧ isSc h b L (fun i => rdI s.heap b i.toNat) ∧ (∀ i, 1 ≤ i → i ≤ 9 → h.tag (K i) = 1 ∧ h.R 1 (K i) 0 = some (V i) ∧ h.tag (V i) = 35 ∧ h.I 1 (K i) 1 = 0 ∧ h.len (V i) = (B i).length ∧ (∀ j, j < (B i).length → h.I 35 (V i) j = ((B i).getD j 0).toInt) ∧ K i < s.heap.size ∧ V i < s.heap.size) ∧ h.tag (K 0) = 34 ∧ h.len (K 0) = 0 ∧ K 0 < s.heap.size := by
  obtain ⟨cX, x1, x2, x3, x4, x5⟩ := hX
  obtain ⟨c0, y1, y2, y3, y4, y5, -, y6⟩ := z0
  have nb0 : b ≠ K 0 := fun e => by
    rw [e] at x1
    cases x1.symm.trans y1
    cases arr_ty x2 y2
  have nbK : ∀ i, 1 ≤ i → i ≤ 9 → b ≠ K i := fun i h1 h2 e => by
    rw [e] at x1
    exact str_no hK (F i h1 h2).1 x1 x2
  have nbV : ∀ i, 1 ≤ i → i ≤ 9 → b ≠ V i := fun i h1 h2 e => by
    obtain ⟨cv, v1, v2, -⟩ := (F i h1 h2).2.2.2
    rw [e] at x1
    cases x1.symm.trans v1
    cases arr_ty x2 v2
  have n0K : ∀ i, 1 ≤ i → i ≤ 9 → K 0 ≠ K i := fun i h1 h2 e => by
    rw [e] at y1
    exact str_no hK (F i h1 h2).1 y1 y2
  have n0V : ∀ i, 1 ≤ i → i ≤ 9 → K 0 ≠ V i := fun i h1 h2 e => by
    obtain ⟨cv, v1, v2, -⟩ := (F i h1 h2).2.2.2
    rw [e] at y1
    cases y1.symm.trans v1
    cases arr_ty y2 v2
  have nKV : ∀ i j, 1 ≤ i → i ≤ 9 → 1 ≤ j → j ≤ 9 → K i ≠ V j := fun i j h1 h2 h3 h4 e => by
    obtain ⟨cv, v1, v2, -⟩ := (F j h3 h4).2.2.2
    rw [← e] at v1
    exact str_no hK (F i h1 h2).1 v1 v2
  have ht : ∀ a : Nat, ∃ t : Nat, (a = b → t = 37) ∧ (a = K 0 → t = 34) ∧ (∀ i, 1 ≤ i → i ≤ 9 → a = K i → t = 1) ∧ (∀ i, 1 ≤ i → i ≤ 9 → a = V i → t = 35) ∧ (t ≠ 0 → (a = b ∧ t = 37) ∨ (a = K 0 ∧ t = 34) ∨ (∃ i, 1 ≤ i ∧ i ≤ 9 ∧ a = K i ∧ t = 1) ∨ (∃ i, 1 ≤ i ∧ i ≤ 9 ∧ a = V i ∧ t = 35)) := fun a => by
    by_cases e1 : a = b
    · exact ⟨37, fun _ => rfl, fun e => absurd (e1.symm.trans e) nb0, fun i h1 h2 e => absurd (e1.symm.trans e) (nbK i h1 h2), fun i h1 h2 e => absurd (e1.symm.trans e) (nbV i h1 h2), fun _ => Or.inl ⟨e1, rfl⟩⟩
    · by_cases e2 : a = K 0
      · exact ⟨34, fun e => absurd e e1, fun _ => rfl, fun i h1 h2 e => absurd (e2.symm.trans e) (n0K i h1 h2), fun i h1 h2 e => absurd (e2.symm.trans e) (n0V i h1 h2), fun _ => Or.inr (Or.inl ⟨e2, rfl⟩)⟩
      · by_cases e3 : ∃ i, 1 ≤ i ∧ i ≤ 9 ∧ a = K i
        · obtain ⟨i, i1, i2, i3⟩ := e3
          exact ⟨1, fun e => absurd e e1, fun e => absurd e e2, fun _ _ _ _ => rfl, fun j h1 h2 e => absurd (i3.symm.trans e) (nKV i j i1 i2 h1 h2), fun _ => Or.inr (Or.inr (Or.inl ⟨i, i1, i2, i3, rfl⟩))⟩
        · by_cases e4 : ∃ i, 1 ≤ i ∧ i ≤ 9 ∧ a = V i
          · obtain ⟨i, i1, i2, i3⟩ := e4
            exact ⟨35, fun e => absurd e e1, fun e => absurd e e2, fun j h1 h2 e => absurd ⟨j, h1, h2, e⟩ e3, fun _ _ _ _ => rfl, fun _ => Or.inr (Or.inr (Or.inr ⟨i, i1, i2, i3, rfl⟩))⟩
          · exact ⟨0, fun e => absurd e e1, fun e => absurd e e2, fun j h1 h2 e => absurd ⟨j, h1, h2, e⟩ e3, fun j h1 h2 e => absurd ⟨j, h1, h2, e⟩ e4, fun h => absurd rfl h⟩
  obtain ⟨tg, hg⟩ := Classical.axiomOfChoice ht
  obtain ⟨h, h1, h2, h3, h4⟩ : ∃ h : jM, (∀ a, h.tag a = tg a) ∧ (∀ a, h.len a = if tg a = 1 then 2 else rdN s.heap a) ∧ (∀ t a k, h.I t a k = if t = 1 then rdI s.heap a (D.2 0 k) else rdI s.heap a k) ∧ (∀ t a k, h.R t a k = if t = 1 then rdR s.heap a (D.2 0 k) else rdR s.heap a k) := ⟨(tg, fun a => if tg a = 1 then 2 else rdN s.heap a, fun t a k => if t = 1 then rdI s.heap a (D.2 0 k) else rdI s.heap a k, fun _ _ _ => 0, fun t a k => if t = 1 then rdR s.heap a (D.2 0 k) else rdR s.heap a k), fun _ => rfl, fun _ => rfl, fun _ _ _ => rfl, fun _ _ _ => rfl⟩
  have tb : h.tag b = 37 := (h1 b).trans ((hg b).1 rfl)
  have t0 : h.tag (K 0) = 34 := (h1 _).trans ((hg (K 0)).2.1 rfl)
  have tK : ∀ i, 1 ≤ i → i ≤ 9 → h.tag (K i) = 1 := fun i i1 i2 => (h1 _).trans ((hg (K i)).2.2.1 i i1 i2 rfl)
  have tV : ∀ i, 1 ≤ i → i ≤ 9 → h.tag (V i) = 35 := fun i i1 i2 => (h1 _).trans ((hg (V i)).2.2.2.1 i i1 i2 rfl)
  have lN : ∀ a, h.tag a ≠ 1 → h.len a = rdN s.heap a := fun a ha => by rw [h2, if_neg (fun z => ha ((h1 a).trans z))]
  have lb : h.len b = L := by
    rw [lN b (by omega)]
    exact rdN_at x1 (by rw [x4]) (by omega)
  have l0 : h.len (K 0) = 0 := by
    rw [lN _ (by omega)]
    exact rdN_at y1 y5 (by omega)
  have lV : ∀ i, 1 ≤ i → i ≤ 9 → h.len (V i) = (B i).length := fun i i1 i2 => by
    obtain ⟨cv, v1, v2, v3, v4, v5, v6, v7⟩ := (F i i1 i2).2.2.2
    rw [lN _ (by rw [tV i i1 i2]; decide)]
    exact rdN_at v1 v5 (by have := hB i; omega)
  have iV : ∀ i, 1 ≤ i → i ≤ 9 → ∀ j, j < (B i).length → h.I 35 (V i) j = ((B i).getD j 0).toInt := fun i i1 i2 j hj => by
    obtain ⟨cv, v1, v2, v3, v4, v5, v6, v7⟩ := (F i i1 i2).2.2.2
    rw [h3, if_neg (by decide)]
    exact rdI_at v1 (v6 j hj)
  have rK : ∀ i, 1 ≤ i → i ≤ 9 → h.R 1 (K i) 0 = some (V i) := fun i i1 i2 => by
    obtain ⟨cell, w1, w2, w3⟩ := str_slot hK (k := 0) (by decide) rfl rfl rfl (F i i1 i2).2.2.1
    rw [h4, if_pos rfl]
    exact rdR_at w1 w3
  have iK : ∀ i, 1 ≤ i → i ≤ 9 → h.I 1 (K i) 1 = 0 := fun i i1 i2 => by
    obtain ⟨cell, w1, w2, w3⟩ := str_slot hK (k := 1) (by decide) rfl rfl rfl (F i i1 i2).2.1
    rw [h3, if_pos rfl]
    exact (rdI_at w1 w3).trans rfl
  have lt : ∀ a c, s.heap[a]? = some c → a < s.heap.size := fun a c hc => (Array.getElem?_eq_some_iff.mp hc).1
  refine ⟨h, ⟨fun q _ => rfl, Nat.le_refl _, fun a ha => ?_⟩, ⟨tb, lb, by omega, fun i hi => by show h.I 37 b i.toNat = rdI s.heap b i.toNat; rw [h3, if_neg (by decide)]⟩, fun i i1 i2 => ⟨tK i i1 i2, rK i i1 i2, tV i i1 i2, iK i i1 i2, lV i i1 i2, iV i i1 i2, ?_, ?_⟩, t0, l0, lt _ _ y1⟩
  · rcases (hg a).2.2.2.2 (by rw [← h1 a]; exact ha) with z | z | z | z
    · rw [z.1]
      refine ⟨fun q => by omega, fun _ => ?_, fun q => by rw [tb] at q; exact absurd q (by decide)⟩
      rw [tb, lb]
      refine ⟨cX, x1, fun q => absurd (lt _ _ x1) (Nat.not_lt.mpr q), fun _ => ⟨x2, x3, by omega, by rw [x4], fun k hk => ?_, fun e => by cases e⟩⟩
      rw [x5 k hk]
      show some (Value.int (xs k)) = some (Value.int (jI (h.I 37 b k)))
      rw [h3, if_neg (by decide), rdI_at x1 (x5 k hk), jI_back]
    · rw [z.1]
      refine ⟨fun q => by omega, fun _ => ?_, fun _ q => by omega⟩
      rw [t0, l0]
      exact ⟨c0, y1, fun q => absurd (lt _ _ y1) (Nat.not_lt.mpr q), fun _ => ⟨y2, y3, Nat.zero_le _, y5, fun k hk => absurd hk (Nat.not_lt_zero _), fun _ => zc c0 y1⟩⟩
    · obtain ⟨i, i1, i2, za, -⟩ := z
      rw [za]
      have t1 := tK i i1 i2
      obtain ⟨cell, w1, w2, w3⟩ := str_slot hK (k := 0) (by decide) rfl rfl rfl (F i i1 i2).2.2.1
      obtain ⟨cell', w1', w2', w3'⟩ := str_slot hK (k := 1) (by decide) rfl rfl rfl (F i i1 i2).2.1
      cases w1.symm.trans w1'
      obtain ⟨c2, o1, o2, o3, -⟩ := (F i i1 i2).1
      cases w1.symm.trans o1
      refine ⟨fun _ => ⟨(RJ0, TJ0, 2), by rw [t1]; rfl, by rw [h2, if_pos ((h1 _).symm.trans t1)], ?_⟩, fun q => by omega, fun q => by rw [t1] at q; exact absurd q (by decide)⟩
      rw [t1]
      have g1 : s.vm.findClass "java/lang/String" = some (D.1 0) := (hK.1 0 (RJ0, TJ0, 2) rfl).2.1
      refine ⟨cell, w1, Option.some.inj (o3.symm.trans g1), ⟨fun q => absurd (lt _ _ w1) (Nat.not_lt.mpr q), w2, o2⟩, fun k hk => ?_⟩
      rcases (by have hk : k < 2 := hk; omega : k = 0 ∨ k = 1) with rfl | rfl
      · show cell.slots[D.2 0 0]? = some (va_rf (h.R 1 (K i) 0))
        rw [rK i i1 i2]
        exact w3
      · show cell.slots[D.2 0 1]? = some (Value.int (jI (h.I 1 (K i) 1)))
        rw [iK i i1 i2]
        exact w3'
    · obtain ⟨i, i1, i2, za, -⟩ := z
      rw [za]
      have t1 := tV i i1 i2
      obtain ⟨cv, v1, v2, v3, v4, v5, v6, v7⟩ := (F i i1 i2).2.2.2
      refine ⟨fun q => by omega, fun _ => ?_, fun q => by rw [t1] at q; exact absurd q (by decide)⟩
      rw [t1, lV i i1 i2]
      refine ⟨cv, v1, fun q => absurd (lt _ _ v1) (Nat.not_lt.mpr q), fun _ => ⟨v2, v3, v4, v5, fun k hk => ?_, fun e => by cases e⟩⟩
      rw [v6 k hk]
      show some (Value.int ((B i).getD k 0)) = some (Value.int (jI (h.I 35 (V i) k)))
      rw [iV i i1 i2 k hk, jI_back]
  · obtain ⟨c2, o1, -⟩ := (F i i1 i2).1
    exact lt _ _ o1
  · obtain ⟨cv, v1, -⟩ := (F i i1 i2).2.2.2
    exact lt _ _ v1
end MEM

