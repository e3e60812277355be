section GV
variable {γ : jG} {h : jM}
theorem lays.kept {h' : jM} {W : Nat → Prop} {ys : List Nat} {N C : Int → Int} {D : Int → Option Nat} {P : Int → Nat → Int} (F : Fr h h' W) (hY : lays h ys N D C P) (hw : ∀ y ∈ ys, ∀ b, (h.tag b = 10 ∨ h.tag b = 14 ∨ h.tag b = 20) → ow h b = some y → ¬ W b) : lays h' ys N D C P := fun k y hk => (hY k y hk).keptT F (hw y (List.mem_of_getElem? hk))
theorem lays.tag {ys : List Nat} {N C : Int → Int} {D : Int → Option Nat} {P : Int → Nat → Int} (hY : lays h ys N D C P) {y : Nat} (hy : y ∈ ys) : h.tag y = 10 := by
  obtain ⟨k, hk, e⟩ := List.getElem_of_mem hy
  exact (hY k y (by rw [List.getElem?_eq_getElem hk, e])).1
theorem lays.ow {ys : List Nat} {N C : Int → Int} {D : Int → Option Nat} {P : Int → Nat → Int} (hY : lays h ys N D C P) {y : Nat} (hy : y ∈ ys) : ow h y = some y := by
  obtain ⟨k, hk, e⟩ := List.getElem_of_mem hy
  exact (hY k y (by rw [List.getElem?_eq_getElem hk, e])).2.1
theorem lays.cg {ys : List Nat} {N C N' C' : Int → Int} {D D' : Int → Option Nat} {P P' : Int → Nat → Int} (hY : lays h ys N D C P) (hc : ∀ k : Nat, k < ys.length → N k = N' k ∧ D k = D' k ∧ C k = C' k ∧ P k = P' k) : lays h ys N' D' C' P' := fun k y hk => by
  obtain ⟨e1, e2, e3, e4⟩ := hc k (List.getElem?_eq_some_iff.mp hk).1
  rw [← e1, ← e2, ← e3, ← e4]
  exact hY k y hk
theorem isLs.kept {h' : jM} {W : Nat → Prop} {a e : Nat} {ys : List Nat} (F : Fr h h' W) (hL : isLs γ h a e ys) (h1 : ¬ W a) (h2 : ¬ W e ∨ h.len e = 0) (h3 : ∀ y ∈ ys, h.tag y ≠ 0 ∧ ¬ W y) : isLs γ h' a e ys :=
  ⟨hL.1.keptW F h1 h2, hL.2.1, fun y hy => by rw [F.ho (h3 y hy).1 (h3 y hy).2]; exact hL.2.2 y hy⟩
theorem ly_app {ys : List Nat} {y : Nat} {N C : Int → Int} {D : Int → Option Nat} {P : Int → Nat → Int} (hY : lays h ys N D C P) (hy : isY h y (N ys.length) (D ys.length) (C ys.length) (P ys.length)) : lays h (ys ++ [y]) N D C P := fun k z hk => by
  rcases Nat.lt_trichotomy k ys.length with c | c | c
  · rw [List.getElem?_append_left c] at hk
    exact hY k z hk
  · rw [c, List.getElem?_append_right (Nat.le_refl _), Nat.sub_self] at hk
    cases hk
    rw [c]
    exact hy
  · rw [List.getElem?_eq_none (by rw [List.length_append]; simp; omega)] at hk
    cases hk
/-- what an addition to b leaves of a and b -/
theorem gv_add {k k' : jM} {a e b d d' y : Nat} {X zs : List Nat} {N C M C2 : Int → Int} {D D2 : Int → Option Nat} {P P2 : Int → Nat → Int} (hA : isLs γ k a e X) (hX : lays k X N D C P) (hB : isLs γ k b d zs) (hZ : lays k zs M D2 C2 P2) (hab : a ≠ b) (hy : isY k y (M zs.length) (D2 zs.length) (C2 zs.length) (P2 zs.length)) (hyz : y ∉ zs) (hho : ho k y = some b) (F : Fr k k' (lW k b d)) (hL : isL γ k' b d' (zs ++ [y])) : isLs γ k' a e X ∧ lays k' X N D C P ∧ isLs γ k' b d' (zs ++ [y]) ∧ lays k' (zs ++ [y]) M D2 C2 P2 := by
  have tb := hB.1.1
  have td := hB.1.2.2.1
  have nw : ∀ z, (k.tag z = 10 ∨ k.tag z = 14 ∨ k.tag z = 20) → ¬ lW k b d z := fun z hz q => by
    rcases q with q | q
    · rw [q] at hz; omega
    · rw [q.1] at hz; omega
  have ne := hB.1.ne hA.1 hab
  refine ⟨hA.kept F (fun q => ?_) ?_ (fun z hz => ⟨by have := hX.tag hz; omega, nw z (Or.inl (hX.tag hz))⟩), hX.kept F (fun z _ c hc _ => nw c hc), ⟨hL, ?_, fun z hz => ?_⟩, ly_app (hZ.kept F (fun z _ c hc _ => nw c hc)) (hy.keptT F (fun c hc _ => nw c hc))⟩
  · rcases q with q | q
    · exact hab q
    · have := hA.1.1; rw [q.1] at this; omega
  · rcases ne with q | q
    · refine Or.inl (fun z => ?_)
      rcases z with z | z
      · have := hA.1.2.2.1; rw [z] at this; omega
      · exact q z.1
    · exact Or.inr q
  · rw [List.nodup_append]
    refine ⟨hB.2.1, by simp, fun x hx w hw => ?_⟩
    simp at hw
    rw [hw]
    exact fun e1 => hyz (by rw [← e1]; exact hx)
  · rw [List.mem_append] at hz
    rcases hz with hz | hz
    · have t := hZ.tag hz
      rw [F.ho (by omega) (nw z (Or.inl t))]
      exact hB.2.2 z hz
    · simp at hz
      rw [hz, F.ho (by have := hy.1; omega) (nw y (Or.inl hy.1))]
      exact hho
/-- how many layers give themselves whole, and what is left then -/
def gvW (N : Int → Int) : Nat → Int → Nat × Int
  | 0, n => (0, n)
  | k + 1, n => if N k ≤ n ∧ 0 < n then ((gvW N k (n - N k)).1 + 1, (gvW N k (n - N k)).2) else (0, n)
def glD {α : Type} (n m : Int) (f g : Int → α) : Int → α := fun k => if k < n then f k else g (m - 1 - (k - n))
def glN (n m w l : Int) (M N : Int → Int) : Int → Int := fun k => if k < n then M k else if k < n + w then N (m - 1 - (k - n)) else l
def glX (m w l : Int) (N : Int → Int) : Int → Int := fun k => if 0 < l ∧ k = m - w - 1 then N k - l else N k
/-- what giving writes -/
abbrev gvS (h : jM) (a e b d : Nat) (xs : List Nat) : Nat → Prop := fun z => lW h a e z ∨ lW h b d z ∨ z ∈ xs
def gvE (γ : jG) (h h' : jM) (a e b d : Nat) (xs ys : List Nat) (N : Int → Int) (D : Int → Option Nat) (C : Int → Int) (P : Int → Nat → Int) (M : Int → Int) (D2 : Int → Option Nat) (C2 : Int → Int) (P2 : Int → Nat → Int) (w : Nat) (l : Int) : Prop := ∃ d' zs, isLs γ h' a e (xs.take (xs.length - w)) ∧ lays h' (xs.take (xs.length - w)) (glX xs.length w l N) D C P ∧ isLs γ h' b d' zs ∧ zs.length = ys.length + w + (if 0 < l then 1 else 0) ∧ lays h' zs (glN ys.length xs.length w l M N) (glD ys.length xs.length D2 D) (glD ys.length xs.length C2 C) (glD ys.length xs.length P2 P) ∧ Fr h h' (gvS h a e b d xs) ∧ Nt h h' [10, 14, 20, 34] ∧ (d' = d ∨ h.tag d' = 0)
end GV

