/-- the layer that gives ton t + 1 of heap h, counted from the top, and what it gave before -/
def tk (V : VV) (h : Int) : Nat → Int × Int
  | 0 => (V 138 h - 1, 0)
  | t + 1 => if (tk V h t).2 + 1 < V 139 (41 * h + (tk V h t).1) then ((tk V h t).1, (tk V h t).2 + 1) else ((tk V h t).1 - 1, 0)
/-- what a ton of layer y adds to sum i: cost, five lows, five highs -/
def sv11 (V : VV) (y i : Int) : Int := if i = 0 then V 141 y else if i < 6 then lowL V y (i - 1) else highL V y (i - 6)
/-- sum i of the topmost t tons of heap h -/
def gs (V : VV) (h i : Int) : Nat → Int
  | 0 => 0
  | t + 1 => gs V h i t + sv11 V (41 * h + (tk V h t).1) i
theorem tk_b {V : VV} {h : Int} (hm : 0 ≤ V 138 h) (hT : ∀ j : Int, 0 ≤ j → j < V 138 h → 1 ≤ V 139 (41 * h + j)) : ∀ t : Nat, (t : Int) ≤ tonsOf V h → (-1 ≤ (tk V h t).1 ∧ (tk V h t).1 < V 138 h) ∧ 0 ≤ (tk V h t).2 ∧ ((tk V h t).1 = -1 → (tk V h t).2 = 0) ∧ (0 ≤ (tk V h t).1 → (tk V h t).2 < V 139 (41 * h + (tk V h t).1)) ∧ Sm (fun j => V 139 (41 * h + j)) ((tk V h t).1 + 1).toNat = tonsOf V h - t + (tk V h t).2 := by
  intro t
  induction t with
  | zero =>
    intro _
    simp only [tk]
    refine ⟨by omega, by omega, fun _ => by first | rfl | trivial, fun q => ?_, ?_⟩
    · have := hT (V 138 h - 1) q (by omega); omega
    · rw [show (V 138 h - 1 + 1).toNat = (V 138 h).toNat by omega]
      unfold tonsOf
      simp
  | succ t ih =>
    intro ht
    obtain ⟨a1, a2, a3, a4, a5⟩ := ih (by omega)
    simp only [tk]
    generalize tk V h t = w at a1 a2 a3 a4 a5 ⊢
    have hk : 0 ≤ w.1 := by
      rcases (by omega : w.1 = -1 ∨ 0 ≤ w.1) with q | q
      · rw [q] at a5
        have := a3 q
        simp only [Sm, show ((-1 : Int) + 1).toNat = 0 from rfl] at a5
        omega
      · exact q
    have a6 := a4 hk
    split
    · rename_i q
      refine ⟨a1, by show 0 ≤ w.2 + 1; omega, fun q2 => by simp only at q2; omega, fun _ => q, ?_⟩
      simp only
      rw [a5]
      omega
    · rename_i q
      refine ⟨by simp only; omega, by simp, fun _ => rfl, fun q2 => ?_, ?_⟩
      · simp only at q2 ⊢
        have := hT (w.1 - 1) q2 (by omega)
        omega
      · simp only
        rw [show (w.1 + 1).toNat = w.1.toNat + 1 by omega, Sm, show ((w.1.toNat : Nat) : Int) = w.1 by omega] at a5
        rw [show (w.1 - 1 + 1).toNat = w.1.toNat by omega]
        omega
theorem tk_0 {V : VV} {h : Int} (hm : 0 ≤ V 138 h) (hT : ∀ j : Int, 0 ≤ j → j < V 138 h → 1 ≤ V 139 (41 * h + j)) {t : Nat} (ht : (t : Int) < tonsOf V h) : 0 ≤ (tk V h t).1 := by
  obtain ⟨a1, a2, a3, a4, a5⟩ := tk_b hm hT t (by omega)
  rcases (by omega : (tk V h t).1 = -1 ∨ 0 ≤ (tk V h t).1) with q | q
  · have := a3 q
    rw [q] at a5
    simp only [Sm, show ((-1 : Int) + 1).toNat = 0 from rfl] at a5
    omega
  · exact q
theorem sv11_b {V : VV} (R : isR V) (y i : Int) : 0 ≤ sv11 V y i ∧ sv11 V y i ≤ 99999 := by
  have h1 := R 141 y rfl
  have h2 := lowL_b R y (i - 1)
  have h3 := lowL_b R y (i - 6)
  simp [jLo, jHi] at h1
  unfold sv11
  split
  · omega
  · split <;> omega
theorem gs_b {V : VV} (R : isR V) (h i : Int) (t : Nat) : 0 ≤ gs V h i t ∧ gs V h i t ≤ 99999 * t := by
  induction t with
  | zero => simp [gs]
  | succ t ih =>
    have := sv11_b R (41 * h + (tk V h t).1) i
    rw [gs]
    omega
/-- W is V but for what is worked out anew each time -/
def scr (W V : VV) : Prop := ∀ t i, (t < 148 ∨ 151 < t) → W t i = V t i
theorem scr.rf {V : VV} : scr V V := fun _ _ _ => rfl
theorem scr.up {W V : VV} {t : Nat} {i x : Int} (h : scr W V) (ht : 148 ≤ t ∧ t ≤ 151) : scr (jU W t i x) V := fun t' i' h' => by
  rw [jU_o _ (by omega)]
  exact h t' i' h'
theorem scr_lowL {W V : VV} (h : scr W V) (y m : Int) : lowL W y m = lowL V y m := by
  unfold lowL
  rw [h 140 y (by omega), h 142 _ (by omega), h 134 _ (by omega)]
theorem scr_highL {W V : VV} (h : scr W V) (y m : Int) : highL W y m = highL V y m := by
  unfold highL
  rw [h 140 y (by omega), h 143 _ (by omega), h 135 _ (by omega)]
theorem scr_tonsOf {W V : VV} (h : scr W V) (g : Int) : tonsOf W g = tonsOf V g := by
  unfold tonsOf
  rw [h 138 g (by omega)]
  exact Sm_cg (fun i _ => h 139 _ (by omega))

