section FL
variable {γ : jG} {h h' : jM} {a e b d x : Nat} {xs ys : List Nat} {W : Nat → Prop}
theorem isL.keptW (F : Fr h h' W) (hL : isL γ h b d ys) (hb : ¬ W b) (hd : ¬ W d ∨ h.len d = 0) : isL γ h' b d ys := by
  obtain ⟨h1, h2, h3, h4, h5, h6, h7, h8, h9⟩ := hL
  have l2 := F.len (b := d) (by omega)
  refine ⟨F.tag h1 (by omega), by rw [F.R h1 (by omega) hb]; exact h2, F.tag h3 (by omega), by rw [F.I h1 (by omega) hb]; exact h4, by rw [l2]; exact h5, by rw [l2]; exact h6, by rw [l2]; exact h7, fun i hi => ?_, fun hn => ?_⟩
  · have hd : ¬ W d := by
      rcases hd with q | q
      · exact q
      · omega
    rw [F.R h3 (by omega) hd]
    exact h8 i hi
  · rw [l2] at hn
    have hd : ¬ W d := by
      rcases hd with q | q
      · exact q
      · exact absurd q hn
    rw [F.I h3 (by omega) hd]
    exact h9 hn
/-- what of an array of objects no one can see is put back -/
def fixL (h h' : jM) (e : Nat) : jM := (h'.tag, h'.len, fun t b k => if t = 34 ∧ b = e ∧ h.len e = 0 then h.I t b k else h'.I t b k, fun t b k => if t = 34 then h.L t b k else h'.L t b k, fun t b k => if t = 34 ∧ b = e ∧ h.len e = 0 then h.R t b k else h'.R t b k)
theorem fixL_ok {H : Heap} (hl : h.tag e ≠ 0 → h'.len e = h.len e) (he : h.tag e = 34) (hR : jRH γ h' H) : jRH γ (fixL h h' e) H := by
  refine ⟨hR.1, hR.2.1, fun c hc => ?_⟩
  have hc2 : h'.tag c ≠ 0 := hc
  obtain ⟨q1, q2, q3⟩ := hR.2.2 c hc2
  refine ⟨fun z => ?_, fun z => ?_, q3⟩
  · have z2 : h'.tag c < 20 := z
    obtain ⟨q, w1, w2, w3⟩ := q1 z2
    refine ⟨q, w1, w2, ?_⟩
    have ev : jV (fixL h h' e) ((fixL h h' e).tag c) c = jV h' (h'.tag c) c := by
      funext k
      show jVal (jTy (h'.tag c) k) (if h'.tag c = 34 ∧ c = e ∧ h.len e = 0 then h.I (h'.tag c) c k else h'.I (h'.tag c) c k) (if h'.tag c = 34 then h.L (h'.tag c) c k else h'.L (h'.tag c) c k) (if h'.tag c = 34 ∧ c = e ∧ h.len e = 0 then h.R (h'.tag c) c k else h'.R (h'.tag c) c k) = _
      rw [if_neg (by omega), if_neg (by omega), if_neg (by omega)]
      rfl
    rw [ev]
    exact w3
  · have z2 : 20 ≤ h'.tag c := z
    show arrW γ c (jE (h'.tag c)) (h'.len c) (jV (fixL h h' e) (h'.tag c) c) H
    refine (q2 z2).cg (fun k hk => ?_)
    by_cases t34 : h'.tag c = 34
    · by_cases ce : c = e ∧ h.len e = 0
      · exfalso
        have l0 : h'.len c = 0 := by rw [ce.1, hl (by omega)]; exact ce.2
        omega
      · rw [t34]
        show va_rf (if 34 = 34 ∧ c = e ∧ h.len e = 0 then h.R 34 c k else h'.R 34 c k) = va_rf (h'.R 34 c k)
        rw [if_neg (fun y => ce y.2)]
    · show jVal (jTy (h'.tag c) k) (if h'.tag c = 34 ∧ c = e ∧ h.len e = 0 then h.I (h'.tag c) c k else h'.I (h'.tag c) c k) (if h'.tag c = 34 then h.L (h'.tag c) c k else h'.L (h'.tag c) c k) (if h'.tag c = 34 ∧ c = e ∧ h.len e = 0 then h.R (h'.tag c) c k else h'.R (h'.tag c) c k) = _
      rw [if_neg (fun y => t34 y.1), if_neg t34, if_neg (fun y => t34 y.1)]
      rfl
theorem fixL_fr (F : frA h h' a e) : Fr h (fixL h h' e) (fun b => b = a ∨ (b = e ∧ h.len e ≠ 0)) ∧ Nt h (fixL h h' e) [34] := by
  refine ⟨fun c hc => ⟨F.tag hc, F.2.1 c hc, ?_, fun hw => ⟨fun k => ?_, fun k => ?_, fun k => ?_, ?_⟩⟩, fun c hc => ?_⟩
  · show (if 0 = 34 ∧ c = e ∧ h.len e = 0 then h.R 0 c 0 else h'.R 0 c 0) = h.R 0 c 0
    rw [if_neg (by omega)]
    exact F.2.2.2.2 0 c 0 (by omega) (by omega)
  · show (if h.tag c = 34 ∧ c = e ∧ h.len e = 0 then h.I (h.tag c) c k else h'.I (h.tag c) c k) = h.I (h.tag c) c k
    split
    · rfl
    · rename_i z
      refine F.2.2.1 _ c k (fun y => hw (Or.inl y.2)) (fun y => ?_)
      rcases y.2 with y2 | y2
      · by_cases l0 : h.len e = 0
        · exact z ⟨y.1, y2, l0⟩
        · exact hw (Or.inr ⟨y2, l0⟩)
      · exact hc y2
  · show (if h.tag c = 34 then h.L (h.tag c) c k else h'.L (h.tag c) c k) = h.L (h.tag c) c k
    split
    · rfl
    · rename_i z
      exact F.2.2.2.1 _ c k z
  · show (if h.tag c = 34 ∧ c = e ∧ h.len e = 0 then h.R (h.tag c) c k else h'.R (h.tag c) c k) = h.R (h.tag c) c k
    split
    · rfl
    · rename_i z
      refine F.2.2.2.2 _ c k (fun y => hw (Or.inl y.2)) (fun y => ?_)
      rcases y.2 with y2 | y2
      · by_cases l0 : h.len e = 0
        · exact z ⟨y.1, y2, l0⟩
        · exact hw (Or.inr ⟨y2, l0⟩)
      · exact hc y2
  · show (if 0 = 34 ∧ c = e ∧ h.len e = 0 then h.R 0 c 1 else h'.R 0 c 1) = h.R 0 c 1
    rw [if_neg (by omega)]
    exact F.2.2.2.2 0 c 1 (by omega) (by omega)
  · rcases F.1 c with z | z
    · exact Or.inl (z.trans hc)
    · exact Or.inr (by show h'.tag c ∈ [34]; rw [z.2]; simp)
theorem fixL_isL {e' : Nat} (hL : isL γ h' a e' xs) (hl : h'.len e = h.len e) (hn : e' = e → h.len e = 0 → xs = []) : isL γ (fixL h h' e) a e' xs := by
  obtain ⟨h1, h2, h3, h4, h5, h6, h7, h8, h9⟩ := hL
  refine ⟨h1, ?_, h3, ?_, h5, h6, h7, fun i hi => ?_, fun z => ?_⟩
  · show (if 3 = 34 ∧ a = e ∧ h.len e = 0 then h.R 3 a 1 else h'.R 3 a 1) = some e'
    rw [if_neg (by omega)]; exact h2
  · show (if 3 = 34 ∧ a = e ∧ h.len e = 0 then h.I 3 a 2 else h'.I 3 a 2) = _
    rw [if_neg (by omega)]; exact h4
  · show (if 34 = 34 ∧ e' = e ∧ h.len e = 0 then h.R 34 e' i else h'.R 34 e' i) = _
    rw [if_neg (fun y => by rw [hn y.2.1 y.2.2] at hi; exact absurd hi (Nat.not_lt_zero _))]
    exact h8 i hi
  · have z2 : h'.len e' ≠ 0 := z
    show (if 34 = 34 ∧ e' = e ∧ h.len e = 0 then h.I 34 e' 0 else h'.I 34 e' 0) = _
    rw [if_neg (fun y => z2 (by rw [y.2.1, hl]; exact y.2.2))]
    exact h9 z2
/-- what a list's own call may write -/
abbrev lW (h : jM) (a e : Nat) : Nat → Prop := fun b => b = a ∨ (b = e ∧ h.len e ≠ 0)
theorem cl_add (hL : isL γ h a e xs) (hel : ∀ y ∈ xs, jOb (h.tag y) = true) (hn : xs.length < 100) (hx : jOb (h.tag x) = true) (hK : γ.K 0 < γ.base) : CT γ mJx4a65c_add_9ea2d 6 1 150 [.ref a, .ref x] h (fun r h' => r = some (.int (jI 1)) ∧ ∃ e', isL γ h' a e' (xs ++ [x]) ∧ (e' = e ∨ (h.tag e' = 0 ∧ γ.base ≤ e')) ∧ Fr h h' (lW h a e) ∧ Nt h h' [34]) X0 := by
  refine (ct_add hL hel hn hx hK).gh (fun r h' ⟨q1, e', q2, q3, q4⟩ => ?_)
  have he := hL.2.2.1
  have hl : h'.len e = h.len e := q4.2.1 e (by omega)
  obtain ⟨f1, f2⟩ := fixL_fr q4
  refine ⟨fixL h h' e, ⟨q1, e', fixL_isL q2 hl (fun z1 z2 => ?_), q3, f1, f2⟩, fun H hR => fixL_ok (fun _ => hl) he hR⟩
  have := q2.2.2.2.2.1
  rw [z1, hl, z2] at this
  simp at this
theorem cl_remove (hL : isL γ h a e (xs ++ [x])) : CT γ mJx4a65c_remove_915e3 2 0 0 [.ref a, .int (jI (xs.length : Int))] h (fun r h' => r = some (.ref x) ∧ isL γ h' a e xs ∧ Fr h h' (lW h a e) ∧ Nt h h' [34]) X0 := by
  refine (ct_remove hL).gh (fun r h' ⟨q1, q2, q4⟩ => ?_)
  have he := hL.2.2.1
  have hl : h'.len e = h.len e := q4.2.1 e (by omega)
  obtain ⟨f1, f2⟩ := fixL_fr q4
  refine ⟨fixL h h' e, ⟨q1, fixL_isL q2 hl (fun _ z2 => ?_), f1, f2⟩, fun H hR => fixL_ok (fun _ => hl) he hR⟩
  have := hL.2.2.2.2.1
  rw [z2] at this
  simp at this
theorem cl_clear (hL : isL γ h a e xs) : CT γ mJx4a65c_clear_da8c8 0 0 0 [.ref a] h (fun r h' => r = none ∧ isL γ h' a e [] ∧ Fr h h' (lW h a e) ∧ Nt h h' [34]) X0 := by
  refine (ct_clear hL).gh (fun r h' ⟨q1, q2, q4⟩ => ?_)
  have he := hL.2.2.1
  have hl : h'.len e = h.len e := q4.2.1 e (by omega)
  obtain ⟨f1, f2⟩ := fixL_fr q4
  exact ⟨fixL h h' e, ⟨q1, fixL_isL q2 hl (fun _ _ => rfl), f1, f2⟩, fun H hR => fixL_ok (fun _ => hl) he hR⟩
end FL

