/-- what the Statement gives of a String constant -/
def stV (t : Term) : Term := .field t "java/lang/String" "value" "[B"
def stCs (t : Term) (l : List Int32) : List Cond := Cond.exactly t "java/lang/String" :: Cond.eq (.field t "java/lang/String" "coder" "B") (.int 0) :: Cond.arrayOf (stV t) .byte :: Cond.eq (.length (stV t)) (.int (Int32.ofNat l.length)) :: (List.range l.length).map (fun j => Cond.eq (.elem (stV t) (.int (Int32.ofNat j))) (.int (l.getD j 0)))
def stOk (s : State) (a v : Nat) (l : List Int32) : Prop := va_O "java/lang/String" a (fun q => s.heap.size ≤ q) s s.heap ∧ va_OF "java/lang/String" "coder" "B" (.int 0) a (fun q => s.heap.size ≤ q) s s.heap ∧ va_OF "java/lang/String" "value" "[B" (.ref v) a (fun q => s.heap.size ≤ q) s s.heap ∧ va_T .byte v l.length (fun j => .int (l.getD j 0)) (fun q => s.heap.size ≤ q) s s.heap
theorem st_of {args : Array Value} {s : State} {t : Term} {l : List Int32} (hg : (Jvm.Cond.and given_1 narrow_1).before args s = true) (hl : l.length < 2 ^ 31) (hm : (stCs t l).all (fun w => decide (w ∈ flatC (Jvm.Cond.and given_1 narrow_1))) = true) : ∃ a v : Nat, t.eval args s none [] s = some (.ref a) ∧ stOk s a v l := by
  have hw : ∀ w ∈ stCs t l, w.before args s = true := fun w h => flat_of_before _ hg _ (of_decide_eq_true (List.all_eq_true.mp hm w h))
  unfold stCs at hw
  have w1 := hw _ (List.mem_cons_self)
  have w2 := hw _ (List.mem_cons_of_mem _ List.mem_cons_self)
  have w3 := hw _ (List.mem_cons_of_mem _ (List.mem_cons_of_mem _ List.mem_cons_self))
  have w4 := hw _ (List.mem_cons_of_mem _ (List.mem_cons_of_mem _ (List.mem_cons_of_mem _ List.mem_cons_self)))
  have w5 : ∀ j, j < l.length → (Cond.eq (.elem (stV t) (.int (Int32.ofNat j))) (.int (l.getD j 0))).before args s = true := fun j hj => hw _ (List.mem_cons_of_mem _ (List.mem_cons_of_mem _ (List.mem_cons_of_mem _ (List.mem_cons_of_mem _ (List.mem_map.mpr ⟨j, List.mem_range.mpr hj, rfl⟩)))))
  have hA : ∀ a : Nat, a < s.heap.size → ¬ (fun q => s.heap.size ≤ q) a := fun a h => Nat.not_le.mpr h
  obtain ⟨a, c, cA, kA, q1, q2, q3, q4, q5, q6, -⟩ := Cond.exactly_spec (args := args) (first := s) (o := none) (s := s) (idx := []) (t := t) (cls := "java/lang/String") w1
  obtain ⟨v, hv, hT⟩ := va_Tof (f := fun j => .int (l.getD j 0)) (A := fun q => s.heap.size ≤ q) hl w3 (va_eqt w4) (fun j hj => va_eqt (w5 j hj)) hA
  exact ⟨a, v, q1, ⟨cA, q3, q5, by rw [q6]; exact q2, hA a (Array.getElem?_eq_some_iff.mp q3).1⟩, vk_OFof q1 (va_eqt w2) hA, vk_OFof q1 hv hA, hT⟩
theorem insOk {i : Nat} {q : vw_C} (hq : vwCl[i]? = some q) : ∃ n, Cond.instantiable q.1 n ∈ lw_tbl := by
  match i, hq with
  | 0, hq => cases hq; exact ⟨4, List.mem_of_getElem? (i := 673) (by decide +kernel)⟩
  | 1, hq => cases hq; exact ⟨4, List.mem_of_getElem? (i := 180) (by decide +kernel)⟩
  | 2, hq => cases hq; exact ⟨3, List.mem_of_getElem? (i := 107) (by decide +kernel)⟩
  | 3, hq => cases hq; exact ⟨7, List.mem_of_getElem? (i := 149) (by decide +kernel)⟩
  | 4, hq => cases hq; exact ⟨5, List.mem_of_getElem? (i := 638) (by decide +kernel)⟩
  | 5, hq => cases hq; exact ⟨5, List.mem_of_getElem? (i := 667) (by decide +kernel)⟩
  | 6, hq => cases hq; exact ⟨3, List.mem_of_getElem? (i := 917) (by decide +kernel)⟩
  | 7, hq => cases hq; exact ⟨1, List.mem_of_getElem? (i := 212) (by decide +kernel)⟩
  | 8, hq => cases hq; exact ⟨2, List.mem_of_getElem? (i := 265) (by decide +kernel)⟩
  | 9, hq => cases hq; exact ⟨4, List.mem_of_getElem? (i := 1086) (by decide +kernel)⟩
  | 10, hq => cases hq; exact ⟨9, List.mem_of_getElem? (i := 1012) (by decide +kernel)⟩
  | 11, hq => cases hq; exact ⟨2, List.mem_of_getElem? (i := 1342) (by decide +kernel)⟩
  | 12, hq => cases hq; exact ⟨3, List.mem_of_getElem? (i := 354) (by decide +kernel)⟩
  | 13, hq => cases hq; exact ⟨1, List.mem_of_getElem? (i := 135) (by decide +kernel)⟩
  | 14, hq => cases hq; exact ⟨10, List.mem_of_getElem? (i := 99) (by decide +kernel)⟩
  | 15, hq => cases hq; exact ⟨60, List.mem_of_getElem? (i := 1438) (by decide +kernel)⟩
  | i + 16, hq => simp [vwCl] at hq
section ST0
variable {args : Array Value} {s : State}
theorem cl_of (hts : ∀ w ∈ lw_tbl, w.before args s = true) : ∃ D : va_G, va_K D vwCl [] s := by
  have one : ∀ (i : Nat) (q : vw_C), vwCl[i]? = some q → ∃ p : ClassId × (Nat → Nat), u_Kn s q.1 q.2.1 q.2.2 p.1 p.2 := fun i q hq => by
    obtain ⟨n, hn⟩ := insOk hq
    obtain ⟨cC, iS, hk⟩ := u_known hts (fun w hw => (jLays hq w hw).1) (hts _ hn)
    exact ⟨(cC, iS), hk⟩
  obtain ⟨p0, -⟩ := one 0 _ rfl
  have h0 : ∀ i : Nat, ∃ p : ClassId × (Nat → Nat), ∀ q : vw_C, vwCl[i]? = some q → u_Kn s q.1 q.2.1 q.2.2 p.1 p.2 := fun i => by
    cases hq : vwCl[i]? with
    | none => exact ⟨p0, fun q h => nomatch h⟩
    | some q =>
      obtain ⟨p, hp⟩ := one i q hq
      exact ⟨p, fun q' h => by cases h; exact hp⟩
  obtain ⟨D, hD⟩ := Classical.axiomOfChoice h0
  exact ⟨(fun i => (D i).1, fun i => (D i).2), fun i q hq => hD i q hq, fun k q h => by simp at h⟩
theorem ar_p {ty : FieldType} (hts : ∀ w ∈ lw_tbl, w.before args s = true) (hw : Cond.arrayClass ty ∈ lw_tbl) (hne : ∀ C, ty ≠ .object C) : ∃ c, jAr s c ty := by
  obtain ⟨c, k, comp, h1, h2, h3⟩ := Cond.arrayClass_spec (args := args) (first := s) (o := none) (s := s) (idx := []) (hts _ hw)
  exact ⟨c, h1, k, comp, h2, h3, fun C e => absurd e (hne C)⟩
theorem ar_o {n : String} (hts : ∀ w ∈ lw_tbl, w.before args s = true) (hw : Cond.arrayOver (.object n) ∈ lw_tbl) : ∃ c, jAr s c (.object n) := by
  obtain ⟨comp, c, k, f1, -, f2, f3, f4⟩ := Cond.arrayOver_spec (args := args) (first := s) (o := none) (s := s) (idx := []) (hts _ hw)
  exact ⟨c, f4, k, comp, f2, f3, fun C e => by cases e; exact f1⟩
theorem ar_of (hts : ∀ w ∈ lw_tbl, w.before args s = true) : ∃ E : FieldType → ClassId, ∀ ty ∈ jTys, jAr s (E ty) ty := by
  obtain ⟨cI, hI⟩ := ar_p (ty := .int) hts (by decide +kernel) (fun C h => by cases h)
  obtain ⟨cL, hL⟩ := ar_p (ty := .long) hts (by decide +kernel) (fun C h => by cases h)
  obtain ⟨cB, hB⟩ := ar_p (ty := .byte) hts (by decide +kernel) (fun C h => by cases h)
  obtain ⟨cZ, hZ⟩ := ar_p (ty := .boolean) hts (by decide +kernel) (fun C h => by cases h)
  obtain ⟨cH, hH⟩ := ar_o (n := "ScrapYard$Heap") hts (by decide +kernel)
  obtain ⟨cO, hO⟩ := ar_o (n := "java/lang/Object") hts (by decide +kernel)
  have hA : ∃ c, jAr s c (.array .int) := by
    obtain ⟨comp, c, k, f1, f2, f3, f4⟩ := Cond.arrayOver_specA (args := args) (first := s) (o := none) (s := s) (idx := []) (hts _ jOv)
    exact ⟨c, f4, k, comp, f2, f3, fun C e => by cases e⟩
  obtain ⟨cA, hA⟩ := hA
  have h0 : ∀ ty : FieldType, ∃ c : ClassId, ty ∈ jTys → jAr s c ty := fun ty => by
    by_cases h : ty ∈ jTys
    · have h2 := h
      simp only [jTys, List.mem_cons, List.not_mem_nil, or_false] at h2
      rcases h2 with rfl | rfl | rfl | rfl | rfl | rfl | rfl
      · exact ⟨cI, fun _ => hI⟩
      · exact ⟨cL, fun _ => hL⟩
      · exact ⟨cB, fun _ => hB⟩
      · exact ⟨cZ, fun _ => hZ⟩
      · exact ⟨cA, fun _ => hA⟩
      · exact ⟨cH, fun _ => hH⟩
      · exact ⟨cO, fun _ => hO⟩
    · exact ⟨cI, fun q => absurd q h⟩
  exact Classical.axiomOfChoice h0
end ST0
/-- the old cells, read -/
def rdI (H : Heap) (a k : Nat) : Int := match H[a]? with
  | some c => (match c.slots[k]? with
    | some (.int v) => v.toInt
    | _ => 0)
  | none => 0
def rdR (H : Heap) (a k : Nat) : Option Nat := match H[a]? with
  | some c => (match c.slots[k]? with
    | some (.ref v) => some v
    | _ => none)
  | none => none
def rdN (H : Heap) (a : Nat) : Nat := match H[a]? with
  | some c => c.slots.size.toInt32.toInt.toNat
  | none => 0
theorem rdI_at {H : Heap} {a k : Nat} {c : Cell} {v : Int32} (h : H[a]? = some c) (hk : c.slots[k]? = some (.int v)) : rdI H a k = v.toInt := by
  unfold rdI
  simp only [h, hk]
theorem rdR_at {H : Heap} {a k : Nat} {c : Cell} {v : Nat} (h : H[a]? = some c) (hk : c.slots[k]? = some (.ref v)) : rdR H a k = some v := by
  unfold rdR
  simp only [h, hk]
theorem rdN_at {H : Heap} {a n : Nat} {c : Cell} (h : H[a]? = some c) (hn : c.slots.size.toInt32 = Int32.ofNat n) (hl : n < 2 ^ 31) : rdN H a = n := by
  unfold rdN
  simp only [h, hn]
  rw [Int32.toInt_ofNat_of_lt hl]
  omega
theorem rdI_r (H : Heap) (a k : Nat) : r32 (rdI H a k) := by
  unfold rdI
  split
  · split
    · rename_i v _
      have := v.le_toInt
      have := v.toInt_lt
      constructor <;> omega
    · decide
  · decide
theorem jI_back (v : Int32) : jI v.toInt = v := Int32.ofInt_toInt v
theorem arr_ty {s : State} {c : Cell} {t1 t2 : FieldType} (h1 : s.isArrayOf c t1) (h2 : s.isArrayOf c t2) : t1 = t2 := by
  obtain ⟨-, k1, a1, c1, e1⟩ := h1
  obtain ⟨-, k2, a2, c2, e2⟩ := h2
  cases a1.symm.trans a2
  rw [e1] at e2
  cases e2
  rfl

