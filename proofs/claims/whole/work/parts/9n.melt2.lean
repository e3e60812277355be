theorem Sm_mono {f : Int → Int} : ∀ (n m : Nat), n ≤ m → (∀ i : Nat, i < m → 0 ≤ f i) → Sm f n ≤ Sm f m := fun n m => by
  induction m with
  | zero => exact fun h _ => by rw [show n = 0 by omega]; exact Int.le_refl _
  | succ m ih =>
    intro h h0
    by_cases c : n = m + 1
    · rw [c]; exact Int.le_refl _
    · have := ih (by omega) (fun i hi => h0 i (by omega))
      have := h0 m (by omega)
      rw [Sm]
      omega
section ML2
variable {γ : jG} {h h' : jM} {S : Nat → Prop} {ρ σ : Nat → Nat} {x : Nat} {ks ss cs ls ms : List Nat} {V V' : VV}
/-- as the heaps give into the melt at z, after g of them -/
def mlS (γ : jG) (h : jM) (ls : List Nat) (q : Nat → Nat × Nat × Nat × List Nat) (z bM M : Nat) (n : Int) (k : jM) (U : VV) (g : Nat) : Prop :=
  Fr h k (fun b => (5010 ≤ kd h b ∧ kd h b < 5016) ∨ (7010 ≤ kd h b ∧ kd h b < 7016)) ∧
  (∀ g' : Nat, g' < 6 → ∃ e ys, hepE γ k ls U g' (q g').1 (q g').2.1 e ys ∧ (g ≤ g' → e = (q g').2.2.1 ∧ ys = (q g').2.2.2)) ∧
  (k.tag z = 12 ∧ k.R 12 z 1 = some bM ∧ k.I 12 z 0 = n ∧ ow k bM = some (100 + M)) ∧
  ∃ d zs C, isLs γ k bM d zs ∧ (zs.length : Int) = U 153 M ∧ lays k zs (fun j => U 154 (20 * M + j)) (fun j => ldR ls (U 155 (20 * M + j))) C (fun j => pP U (20 * M + j)) ∧ (h.tag d = 0 ∨ k.len d = 0)
/-- one heap gives -/
theorem ml_give {q : Nat → Nat × Nat × Nat × List Nat} {z bM M g : Nat} {n : Int} {k k2 : jM} {U U' : VV} {w : Nat} {l : Int} {d : Nat} {zs : List Nat} {C : Int → Int} (hq : ∀ g : Nat, g < 6 → h.R 33 (ρ 5) g = some (q g).1 ∧ hepE γ h ls V g (q g).1 (q g).2.1 (q g).2.2.1 (q g).2.2.2) (hb : h.tag bM = 0) (hg : g < 6) (hM : M ≤ 30)
    (F : Fr h k (fun b => (5010 ≤ kd h b ∧ kd h b < 5016) ∨ (7010 ≤ kd h b ∧ kd h b < 7016)))
    (H : ∀ g' : Nat, g' < 6 → ∃ e ys, hepE γ k ls U g' (q g').1 (q g').2.1 e ys ∧ (g ≤ g' → e = (q g').2.2.1 ∧ ys = (q g').2.2.2))
    (Z : k.tag z = 12 ∧ k.R 12 z 1 = some bM ∧ k.I 12 z 0 = n ∧ ow k bM = some (100 + M))
    (L : isLs γ k bM d zs) (ln : (zs.length : Int) = U 153 M) (Y : lays k zs (fun j => U 154 (20 * M + j)) (fun j => ldR ls (U 155 (20 * M + j))) C (fun j => pP U (20 * M + j))) (hd : h.tag d = 0 ∨ k.len d = 0)
    (R : isR U) (hw : (w : Int) ≤ U 138 g) (hwl : 0 < l → (w : Int) < U 138 g) (ok : mlOk U U' g M w l)
    (G : gvE γ k k2 (q g).2.1 (q g).2.2.1 bM d (q g).2.2.2 zs (fun j => U 139 (41 * g + j)) (fun j => ldR ls (U 140 (41 * g + j))) (fun j => U 141 (41 * g + j)) (fun j => yP U (41 * g + j)) (fun j => U 154 (20 * M + j)) (fun j => ldR ls (U 155 (20 * M + j))) C (fun j => pP U (20 * M + j)) w l) : mlS γ h ls q z bM M n k2 U' (g + 1) := by
  obtain ⟨d', zs', g1, g2, g3, g4, g5, g6, g7, g8⟩ := G
  obtain ⟨e, xs, hE, he⟩ := H g hg
  obtain ⟨rfl, rfl⟩ := he (Nat.le_refl _)
  obtain ⟨b1, b2, b3, b4, b5, b6⟩ := hE
  obtain ⟨h1, h2, h3, h4, h5, h6⟩ := (hq g hg).2
  obtain ⟨o1, o2, o3, o4, o5, o6, o7, o8⟩ := ok
  have rm : ∀ i, 0 ≤ U 138 i ∧ U 138 i ≤ 40 := fun i => R 138 i rfl
  have rmg := rm g
  have FD : FrD k k2 (fun c => c = 5010 + g ∨ c = 7010 + g ∨ c = 5100 + M) := g6.mono (fun y hy w => by
    rcases w with w | w | w
    · have := lW_kd b3.1 b4 w
      omega
    · have := lW_kd L.1 Z.2.2.2 w
      omega
    · have := kd_y (Or.inl (b6.tag w)) (b6.ow w) (b6.tag w) (b3.2.2 y w) b4
      omega)
  have w8 : ¬ (fun c => c = 5010 + g ∨ c = 7010 + g ∨ c = 5100 + M) (kd k (q g).1) := by rw [kd_t b1 (by decide)]; dsimp only; omega
  have w12 : ¬ (fun c => c = 5010 + g ∨ c = 7010 + g ∨ c = 5100 + M) (kd k z) := by rw [kd_t Z.1 (by decide)]; dsimp only; omega
  have eif : (if 0 < l then (1 : Int) else 0) = ((if 0 < l then 1 else 0 : Nat) : Int) := by split <;> rfl
  have if1 : (if 0 < l then 1 else 0 : Nat) ≤ 1 := by split <;> omega
  have if2 : 0 < (if 0 < l then 1 else 0 : Nat) → 0 < l := by split <;> omega
  have e4 : U' 134 = U 134 := o8 134 (by decide) (by decide) (by decide)
  have e5 : U' 135 = U 135 := o8 135 (by decide) (by decide) (by decide)
  have e40 : U' 140 = U 140 := o8 140 (by decide) (by decide) (by decide)
  have e41 : U' 141 = U 141 := o8 141 (by decide) (by decide) (by decide)
  have eyP : ∀ y, yP U' y = yP U y := fun y => by
    unfold yP lowL highL
    rw [e4, e5, e40, o8 142 (by decide) (by decide) (by decide), o8 143 (by decide) (by decide) (by decide)]
  refine ⟨F.trans g6 (fun y hy w => ?_), fun g' hg' => ?_, ⟨FD.tag Z.1 (by decide), by rw [FD.R Z.1 (by decide) w12]; exact Z.2.1, by rw [FD.I Z.1 (by decide) w12]; exact Z.2.2.1, by rw [FD.ow (by have := L.1.1; omega)]; exact Z.2.2.2⟩, d', zs', glD zs.length (q g).2.2.2.length C (fun j => U 141 (41 * g + j)), g3, ?_, g5.cgP (fun j hj => ?_), ?_⟩
  · rcases w with w | (w | w) | w | w
    · exact w
    · refine Or.inl ?_
      have := lW_kd h3.1 h4 (Or.inl w)
      omega
    · refine Or.inl ?_
      have := lW_kd h3.1 h4 (Or.inr ⟨w.1, by rw [← F.len (by have := h3.1.2.2.1; omega)]; exact w.2⟩)
      omega
    · rcases w with w | w
      · rw [w] at hy; exact absurd hb hy
      · rcases hd with hd | hd
        · rw [w.1] at hy; exact absurd hd hy
        · exact absurd hd w.2
    · refine Or.inr ?_
      have := kd_y (Or.inl (h6.tag w)) (h6.ow w) (h6.tag w) (h3.2.2 y w) h4
      omega
  · by_cases c : g' = g
    · subst c
      refine ⟨_, _, ⟨FD.tag b1 (by decide), by rw [FD.R b1 (by decide) w8]; exact b2, g1, by rw [FD.ow (by have := b3.1.1; omega)]; exact b4, ?_, g2.cgP (fun j hj => ?_)⟩, fun w => by omega⟩
      · rw [List.length_take, o1, if_pos rfl]
        omega
      · rw [List.length_take] at hj
        refine ⟨?_, by rw [e40], by rw [e41], fun t _ => by rw [eyP]⟩
        rw [o2 _ (by omega)]
        unfold glX
        dsimp only
        by_cases c : 0 < l ∧ (j : Int) = U 138 (g' : Int) - w - 1
        · rw [if_pos (by omega), if_pos (by omega)]
        · rw [if_neg (by omega), if_neg (by omega)]
    · obtain ⟨e2, ys2, q2, q3⟩ := H g' hg'
      obtain ⟨d1, d2, d3, d4, d5, d6⟩ := q2.d FD (by (try dsimp only); omega)
      have := rm g'
      refine ⟨e2, ys2, ⟨d1, d2, d3, d4, by rw [o1, if_neg (by omega)]; exact d5, d6.cgP (fun j hj => ⟨?_, by rw [e40], by rw [e41], fun t _ => by rw [eyP]⟩)⟩, fun w => q3 (by omega)⟩
      rw [o2 _ (by omega), if_neg (by omega)]
  · rw [o3, if_pos rfl, eif, g4]
    omega
  · rw [g4] at hj
    by_cases c : (j : Int) < (zs.length : Int)
    · have nc : ¬ (20 * (M : Int) + U 153 M ≤ 20 * (M : Int) + (j : Int) ∧ 20 * (M : Int) + (j : Int) < 20 * (M : Int) + U 153 M + w + (if 0 < l then 1 else 0)) := by omega
      unfold glN glD
      dsimp only
      simp only [if_pos c]
      refine ⟨?_, ?_, by first | rfl | trivial, fun t ht => ?_⟩
      · rw [o4, if_neg (by omega), if_neg (by omega)]
      · rw [o5, if_neg nc]
      · unfold pP
        rw [o6 _ _ (by omega) (by omega), o7 _ _ (by omega) (by omega), if_neg nc, if_neg nc]
    · have nc : (20 * (M : Int) + U 153 M ≤ 20 * (M : Int) + (j : Int) ∧ 20 * (M : Int) + (j : Int) < 20 * (M : Int) + U 153 M + w + (if 0 < l then 1 else 0)) := by rw [eif]; omega
      have ix : 41 * (g : Int) + U 138 g - 1 - (20 * (M : Int) + (j : Int) - (20 * (M : Int) + U 153 M)) = 41 * (g : Int) + (((q g).2.2.2.length : Int) - 1 - ((j : Int) - (zs.length : Int))) := by omega
      unfold glN glD
      dsimp only
      simp only [if_neg c]
      refine ⟨?_, ?_, by first | rfl | trivial, fun t ht => ?_⟩
      · rw [o4]
        by_cases u : (j : Int) < (zs.length : Int) + (w : Int)
        · rw [if_pos u, if_pos (by omega), ix]
        · have : 0 < l := if2 (by omega)
          rw [if_neg u, if_neg (by omega), if_pos (by omega)]
      · rw [o5, if_pos nc, ix]
      · unfold pP yP
        rw [o6 _ _ (by omega) (by omega), o7 _ _ (by omega) (by omega), if_pos nc, if_pos nc, ix]
  · rcases g8 with g8 | g8
    · rw [g8]
      rcases hd with hd | hd
      · exact Or.inl hd
      · exact Or.inr (by rw [FD.len (by have := L.1.2.2.1; omega)]; exact hd)
    · exact Or.inl (F.free g8)
end ML2

