/-- what moving w whole layers and l tons of one more from heap f to heap t makes of the state -/
def mvOk (V V' : VV) (f t w l : Int) : Prop := (∀ i, V' 138 i = if i = f then V 138 f - w else if i = t then V 138 t + w + (if 0 < l then 1 else 0) else V 138 i) ∧ (∀ r, r < 138 ∨ 143 < r → V' r = V r) ∧ (∀ r, r = 140 ∨ r = 141 → ∀ i, V' r i = if 41 * t + V 138 t ≤ i ∧ i < 41 * t + V 138 t + w + (if 0 < l then 1 else 0) then V r (41 * f + V 138 f - 1 - (i - (41 * t + V 138 t))) else V r i) ∧ (∀ i, V' 139 i = if 41 * t + V 138 t ≤ i ∧ i < 41 * t + V 138 t + w then V 139 (41 * f + V 138 f - 1 - (i - (41 * t + V 138 t))) else if 0 < l ∧ i = 41 * t + V 138 t + w then l else if 0 < l ∧ i = 41 * f + V 138 f - w - 1 then V 139 i - l else V 139 i) ∧ (∀ r, r = 142 ∨ r = 143 → ∀ y j, 0 ≤ j → j < 5 → V' r (5 * y + j) = if 41 * t + V 138 t ≤ y ∧ y < 41 * t + V 138 t + w + (if 0 < l then 1 else 0) then V r (5 * (41 * f + V 138 f - 1 - (y - (41 * t + V 138 t))) + j) else V r (5 * y + j))
theorem mvOk.m' {V V' : VV} {f t w l : Int} (hV : mvOk V V' f t w l) : ∀ i, V' 138 i = if i = f then V 138 f - w else if i = t then V 138 t + w + (if 0 < l then 1 else 0) else V 138 i := hV.1
theorem mvOk.o' {V V' : VV} {f t w l : Int} (hV : mvOk V V' f t w l) : ∀ r, r < 138 ∨ 143 < r → V' r = V r := hV.2.1
theorem mvOk.y' {V V' : VV} {f t w l : Int} (hV : mvOk V V' f t w l) : ∀ r, r = 140 ∨ r = 141 → ∀ i, V' r i = if 41 * t + V 138 t ≤ i ∧ i < 41 * t + V 138 t + w + (if 0 < l then 1 else 0) then V r (41 * f + V 138 f - 1 - (i - (41 * t + V 138 t))) else V r i := hV.2.2.1
theorem mvOk.n' {V V' : VV} {f t w l : Int} (hV : mvOk V V' f t w l) : ∀ i, V' 139 i = if 41 * t + V 138 t ≤ i ∧ i < 41 * t + V 138 t + w then V 139 (41 * f + V 138 f - 1 - (i - (41 * t + V 138 t))) else if 0 < l ∧ i = 41 * t + V 138 t + w then l else if 0 < l ∧ i = 41 * f + V 138 f - w - 1 then V 139 i - l else V 139 i := hV.2.2.2.1
theorem mvOk.s' {V V' : VV} {f t w l : Int} (hV : mvOk V V' f t w l) : ∀ r, r = 142 ∨ r = 143 → ∀ y j, 0 ≤ j → j < 5 → V' r (5 * y + j) = if 41 * t + V 138 t ≤ y ∧ y < 41 * t + V 138 t + w + (if 0 < l then 1 else 0) then V r (5 * (41 * f + V 138 f - 1 - (y - (41 * t + V 138 t))) + j) else V r (5 * y + j) := hV.2.2.2.2
section MV
variable {V V' : VV}
theorem mv_ok {f t w l : Int} (hf : 0 ≤ f ∧ f < 6) (ht : 0 ≤ t ∧ t < 6) (hft : f ≠ t) (hw : 0 ≤ w ∧ w ≤ V 138 f) (hl : 0 < l → w < V 138 f) (hm : 0 ≤ V 138 f ∧ 0 ≤ V 138 t ∧ V 138 f + V 138 t ≤ 40) : mvOk V (if 0 < l then mvS (mvX V f t w) f t l else mvX V f t w) f t w l := by
  have ut : mvX V f t w 138 t = V 138 t + w := mvX_t (fun q => hft q.symm)
  have uf : mvX V f t w 138 f = V 138 f - w := mvX_f
  unfold mvOk
  by_cases z : 0 < l
  · have z1 := hl z
    simp only [if_pos z]
    have U9 : ∀ r, r = 139 ∨ r = 140 ∨ r = 141 → mvX V f t w r (41 * f + (V 138 f - w) - 1) = V r (41 * f + V 138 f - w - 1) := fun r hr => by
      rw [mvX_y hr (by omega)]
      congr 1
      omega
    refine ⟨fun i => ?_, fun r hr => funext fun i => ?_, fun r hr i => ?_, fun i => ?_, fun r hr y j h0 h1 => ?_⟩
    · unfold mvS
      rw [jU_o _ (by decide), putV_many, ut, mvX_m]
      by_cases c1 : i = f
      · rw [if_neg (by omega), if_pos c1, if_pos c1]
      · by_cases c2 : i = t
        · rw [if_pos c2, if_neg c1, if_pos c2]
        · rw [if_neg c2, if_neg c1, if_neg c2, if_neg c1, if_neg c2]
    · unfold mvS
      rw [jU_o _ (by omega), putV_o hr, mvX_o hr]
    · unfold mvS
      rw [jU_o _ (by omega), uf, U9 140 (Or.inr (Or.inl rfl)), U9 141 (Or.inr (Or.inr rfl))]
      rcases hr with hr | hr
      · subst hr
        rw [putV_140, ut, mvX_yy (Or.inr (Or.inl rfl))]
        by_cases c1 : i = 41 * t + (V 138 t + w)
        · rw [if_pos c1, if_pos (by omega)]
          congr 1
          omega
        · rw [if_neg c1]
          by_cases c2 : 41 * t + V 138 t ≤ i ∧ i < 41 * t + V 138 t + w
          · rw [if_pos c2, if_pos (by omega)]
          · rw [if_neg c2, if_neg (by omega)]
      · subst hr
        rw [putV_141, ut, mvX_yy (Or.inr (Or.inr rfl))]
        by_cases c1 : i = 41 * t + (V 138 t + w)
        · rw [if_pos c1, if_pos (by omega)]
          congr 1
          omega
        · rw [if_neg c1]
          by_cases c2 : 41 * t + V 138 t ≤ i ∧ i < 41 * t + V 138 t + w
          · rw [if_pos c2, if_pos (by omega)]
          · rw [if_neg c2, if_neg (by omega)]
    · unfold mvS
      rw [jU_at, uf, U9 139 (Or.inl rfl), U9 140 (Or.inr (Or.inl rfl)), U9 141 (Or.inr (Or.inr rfl)), putV_139, ut, mvX_yy (Or.inl rfl)]
      by_cases c1 : i = 41 * f + (V 138 f - w) - 1
      · rw [if_pos c1, if_neg (by omega), if_neg (by omega), if_pos ⟨z, by omega⟩]
        rw [c1, show 41 * f + V 138 f - w - 1 = 41 * f + (V 138 f - w) - 1 by omega]
      · rw [if_neg c1]
        by_cases c2 : i = 41 * t + (V 138 t + w)
        · rw [if_pos c2, if_neg (by omega), if_pos ⟨z, by omega⟩]
        · rw [if_neg c2]
          by_cases c3 : 41 * t + V 138 t ≤ i ∧ i < 41 * t + V 138 t + w
          · rw [if_pos c3, if_pos c3]
          · rw [if_neg c3, if_neg c3, if_neg (by omega), if_neg (by omega)]
    · unfold mvS
      rw [jU_o _ (by omega), uf, putV_sp hr (by omega), ut, mvX_sp hr, mvX_sp hr]
      by_cases c1 : y = 41 * t + (V 138 t + w)
      · rw [if_pos (by omega), if_neg (by omega), if_pos (by omega)]
        congr 1
        omega
      · rw [if_neg (by omega)]
        by_cases c2 : 41 * t + V 138 t ≤ y ∧ y < 41 * t + V 138 t + w
        · rw [if_pos (by omega), if_pos (by omega)]
          congr 1
          omega
        · rw [if_neg (by omega), if_neg (by omega)]
  · simp only [if_neg z, Int.add_zero]
    refine ⟨fun i => mvX_m, fun r hr => funext fun i => mvX_o hr, fun r hr i => mvX_yy (by omega), fun i => ?_, fun r hr y j h0 h1 => ?_⟩
    · rw [mvX_yy (Or.inl rfl)]
      by_cases c : 41 * t + V 138 t ≤ i ∧ i < 41 * t + V 138 t + w
      · rw [if_pos c, if_pos c]
      · rw [if_neg c, if_neg c, if_neg (fun q => z q.1), if_neg (fun q => z q.1)]
    · rw [mvX_sp hr]
      by_cases c2 : 41 * t + V 138 t ≤ y ∧ y < 41 * t + V 138 t + w
      · rw [if_pos (by omega), if_pos (by omega)]
        congr 1
        omega
      · rw [if_neg (by omega), if_neg (by omega)]
theorem gvW_mv (V : VV) (f : Int) : ∀ (k : Nat) (n : Int), gvW (fun k => V 139 (41 * f + k)) k n = mvW V f k n := fun k => by
  induction k with
  | zero => exact fun _ => rfl
  | succ k ih => exact fun n => by rw [gvW, mvW, ih]
theorem spL_neg {N : Int → Int} : ∀ (m : Nat) (l : Int), l ≤ 0 → spL N m l = l := fun m l h => by
  cases m with
  | zero => rfl
  | succ m => rw [spL, if_neg (by omega)]
theorem spL_gv {N : Int → Int} : ∀ (m : Nat) (l : Int), 0 ≤ l → l ≤ Sm N m → (spL N m l < 0 ↔ 0 < (gvW N m l).2) := fun m => by
  induction m with
  | zero =>
    intro l h1 h2
    have h2 : l ≤ 0 := h2
    show l < 0 ↔ 0 < l
    omega
  | succ m ih =>
    intro l h1 h2
    rw [spL, gvW]
    rw [Sm] at h2
    by_cases c : 0 < l
    · rw [if_pos c]
      by_cases d : N m ≤ l
      · rw [if_pos ⟨d, c⟩]
        exact ih _ (by omega) (by omega)
      · rw [if_neg (fun q => d q.1), spL_neg _ _ (by omega)]
        show l - N m < 0 ↔ 0 < l
        omega
    · rw [if_neg c, if_neg (fun q => c q.2)]
      show l < 0 ↔ 0 < l
      omega
theorem yP_src {y y' : Int} (e0 : V' 140 y = V 140 y') (e4 : V' 134 = V 134) (e5 : V' 135 = V 135) (e2 : ∀ j, 0 ≤ j → j < 5 → V' 142 (5 * y + j) = V 142 (5 * y' + j) ∧ V' 143 (5 * y + j) = V 143 (5 * y' + j)) : ∀ i, i < 10 → yP V y' i = yP V' y i := fun i hi => by
  unfold yP lowL highL
  rw [e0, e4, e5, (e2 ((i / 2 : Nat) : Int) (by omega) (by omega)).1, (e2 ((i / 2 : Nat) : Int) (by omega) (by omega)).2]
end MV
section MV2
variable {γ : jG} {h h' : jM} {S : Nat → Prop} {ρ σ : Nat → Nat} {x : Nat} {ks ss cs ls ms : List Nat} {V V' : VV}
theorem lW_kd {a e b i : Nat} {xs : List Nat} (hL : isL γ h a e xs) (hi : ow h a = some i) (w : lW h a e b) : kd h b = 5000 + i := by
  have t1 := hL.1
  have t2 := hL.2.2.1
  rw [← lW_kc hL hi w]
  refine kd_n ?_
  rcases w with w | w
  · rw [w]; omega
  · rw [w.1]; omega
/-- what the class has after heap f has given to heap t -/
theorem mv_rep {k : jM} {f t : Nat} {w : Nat} {l : Int} {p a e p' b d : Nat} {xs ys : List Nat} (I : Inv V) (hR : RepB γ V h x ρ σ ks ss cs ls ms) (hf : f < 6) (ht : t < 6) (hft : f ≠ t) (r1 : h.R 33 (ρ 5) f = some p) (hE : hepE γ h ls V f p a e xs) (r2 : h.R 33 (ρ 5) t = some p') (hE' : hepE γ h ls V t p' b d ys) (hw : (w : Int) ≤ V 138 f) (hl0 : 0 < l → (w : Int) < V 138 f) (hV : mvOk V V' f t w l) (G : gvE γ h k a e b d xs ys (fun k => V 139 (41 * f + k)) (fun k => ldR ls (V 140 (41 * f + k))) (fun k => V 141 (41 * f + k)) (fun k => yP V (41 * f + k)) (fun k => V 139 (41 * t + k)) (fun k => ldR ls (V 140 (41 * t + k))) (fun k => V 141 (41 * t + k)) (fun k => yP V (41 * t + k)) w l) : RepC γ V' k x ∧ FrC h k clsS := by
  have R := I.1
  obtain ⟨a1, a2, a3, a4, a5, a6, a7, a8, a9, a10, a11⟩ := hR
  have l4 := csz a4.1
  have l7 := msz a7.1
  obtain ⟨d', zs, g1, g2, g3, g4, g5, g6, g7, g8⟩ := G
  obtain ⟨b1, b2, b3, b4, b5, b6⟩ := hE
  obtain ⟨c1, c2, c3, c4, c5, c6⟩ := hE'
  have FD : FrD h k (fun c => c = 5010 + f ∨ c = 5010 + t ∨ c = 7010 + f) := g6.mono (fun z hz w => by
    rcases w with w | w | w
    · have := lW_kd b3.1 b4 w
      omega
    · have := lW_kd c3.1 c4 w
      omega
    · have := kd_y (Or.inl (b6.tag w)) (b6.ow w) (b6.tag w) (b3.2.2 z w) b4
      omega)
  have FC : FrC h k (fun c => c = 10 ∨ c = 110 ∨ c = 5010 + f ∨ c = 5010 + t ∨ c = 7010 + f) := FD.toC (fun c w => Or.inr (Or.inr w)) (Or.inl rfl) (Or.inr (Or.inl rfl))
  have eV : ∀ r, r ≠ 16 → ¬ (fun r : Nat => 138 ≤ r ∧ r ≤ 143) r → V' r = V r := fun r _ h1 => hV.o' r (by have h1 : ¬ (138 ≤ r ∧ r ≤ 143) := h1; omega)
  have es' : ∀ i, ¬ (fun i : Int => i = 99) i → V' 16 i = V 16 i := fun i _ => by rw [hV.o' 16 (by decide)]
  have m0 : V 138 f + V 138 t ≤ 40 := by
    have := lay2 R (f := f) (t := t) (by omega) (by omega) (by omega)
    have := I.2.2.2.1
    omega
  have rm : ∀ i, 0 ≤ V 138 i ∧ V 138 i ≤ 40 := fun i => R 138 i rfl
  have rmf := rm f
  have rmt := rm t
  have eif : (if 0 < l then (1 : Int) else 0) = ((if 0 < l then 1 else 0 : Nat) : Int) := by split <;> rfl
  have if1 : (if 0 < l then 1 else 0 : Nat) ≤ 1 := by split <;> omega
  have if2 : 0 < (if 0 < l then 1 else 0 : Nat) → 0 < l := by split <;> omega
  have e4 := hV.o' 134 (by decide)
  have e5 := hV.o' 135 (by decide)
  have wh : ¬ (fun c => c = 5010 + f ∨ c = 5010 + t ∨ c = 7010 + f) (kd h (ρ 5)) := by rw [kd_t a6.1 (by decide)]; dsimp only; omega
  have w8 : ∀ p, h.tag p = 8 → ¬ (fun c => c = 5010 + f ∨ c = 5010 + t ∨ c = 7010 + f) (kd h p) := fun p hp => by rw [kd_t hp (by decide)]; dsimp only; omega
  refine ⟨⟨ρ, σ, ks, ss, cs, ls, ms, a1.k FC es' (by (try dsimp only); omega) (by (try dsimp only); omega), a2.k FC eV es' (by (try dsimp only); omega) (by (try dsimp only); omega), a3.k FC eV es' (by (try dsimp only); omega) (by (try dsimp only); omega), a4.k FC eV es' (by (try dsimp only); omega) (fun _ _ => (by (try dsimp only); omega)) ⟨by (try dsimp only); omega, fun _ _ _ => by (try dsimp only); omega⟩, a5.k FC eV es' (by (try dsimp only); omega) ⟨by (try dsimp only); omega, fun _ _ _ => by (try dsimp only); omega⟩, ⟨FC.tag a6.1 (by decide), by rw [FC.len (by have := a6.1; omega)]; exact a6.2.1, fun g hg => ?_⟩, a7.dk FD eV es' (by (try dsimp only); omega) (fun _ _ => (by (try dsimp only); omega)) ⟨by (try dsimp only); omega, fun _ _ _ => by (try dsimp only); omega⟩, a8.k FC eV a1.1 (by (try dsimp only); omega) (by (try dsimp only); omega), a9.k FC eV es' (by (try dsimp only); omega) (by (try dsimp only); omega), a10.c FC (fun _ _ _ => (by (try dsimp only); omega)) (by (try dsimp only); omega), isK.c FC a11 (by (try dsimp only); omega) (by (try dsimp only); omega)⟩, FC.mono (fun b hb w => ?_)⟩
  · rw [FD.R a6.1 (by decide) wh]
    by_cases gf : g = f
    · subst gf
      refine ⟨p, a, e, _, r1, FD.tag b1 (by decide), by rw [FD.R b1 (by decide) (w8 _ b1)]; exact b2, g1, by rw [FD.ow (by have := b3.1.1; omega)]; exact b4, ?_, g2.cgP (fun j hj => ?_)⟩
      · rw [List.length_take, hV.m', if_pos rfl]
        omega
      · rw [List.length_take] at hj
        have nt : ∀ s : Int, ¬ (41 * (t : Int) + V 138 t ≤ 41 * (g : Int) + (j : Int) ∧ 41 * (g : Int) + (j : Int) < 41 * (t : Int) + V 138 t + w + s) ∨ ¬ (0 ≤ s ∧ s ≤ 1) := fun s => by omega
        have nt' : ¬ (41 * (t : Int) + V 138 t ≤ 41 * (g : Int) + (j : Int) ∧ 41 * (g : Int) + (j : Int) < 41 * (t : Int) + V 138 t + w + (if 0 < l then 1 else 0)) := by rw [eif]; omega
        refine ⟨?_, ?_, ?_, ?_⟩
        · rw [hV.n', if_neg (by omega), if_neg (by omega)]
          unfold glX
          dsimp only
          by_cases c : 0 < l ∧ (j : Int) = V 138 (g : Int) - w - 1
          · rw [if_pos (by omega), if_pos (by omega)]
          · rw [if_neg (by omega), if_neg (by omega)]
        · rw [hV.y' 140 (Or.inl rfl), if_neg nt']
        · rw [hV.y' 141 (Or.inr rfl), if_neg nt']
        · exact yP_src (by rw [hV.y' 140 (Or.inl rfl), if_neg nt']) e4 e5 (fun i i0 i1 => by rw [hV.s' 142 (Or.inl rfl) _ _ i0 i1, hV.s' 143 (Or.inr rfl) _ _ i0 i1, if_neg nt', if_neg nt']; exact ⟨rfl, rfl⟩)
    · by_cases gt : g = t
      · subst gt
        refine ⟨p', b, d', zs, r2, FD.tag c1 (by decide), by rw [FD.R c1 (by decide) (w8 _ c1)]; exact c2, g3, by rw [FD.ow (by have := c3.1.1; omega)]; exact c4, ?_, g5.cgP (fun j hj => ?_)⟩
        · rw [hV.m', if_neg (by omega), if_pos rfl, eif, g4]
          omega
        · rw [g4] at hj
          by_cases c : (j : Int) < V 138 g
          · have nt' : ¬ (41 * (g : Int) + V 138 g ≤ 41 * (g : Int) + (j : Int) ∧ 41 * (g : Int) + (j : Int) < 41 * (g : Int) + V 138 g + w + (if 0 < l then 1 else 0)) := by omega
            unfold glN glD
            dsimp only
            simp only [if_pos (show (j : Int) < (ys.length : Int) by omega)]
            refine ⟨?_, ?_, ?_, ?_⟩
            · rw [hV.n', if_neg (by omega), if_neg (by omega), if_neg (by omega)]
            · rw [hV.y' 140 (Or.inl rfl), if_neg nt']
            · rw [hV.y' 141 (Or.inr rfl), if_neg nt']
            · exact yP_src (by rw [hV.y' 140 (Or.inl rfl), if_neg nt']) e4 e5 (fun i i0 i1 => by rw [hV.s' 142 (Or.inl rfl) _ _ i0 i1, hV.s' 143 (Or.inr rfl) _ _ i0 i1, if_neg nt', if_neg nt']; exact ⟨rfl, rfl⟩)
          · have nt' : (41 * (g : Int) + V 138 g ≤ 41 * (g : Int) + (j : Int) ∧ 41 * (g : Int) + (j : Int) < 41 * (g : Int) + V 138 g + w + (if 0 < l then 1 else 0)) := by rw [eif]; omega
            have ix : 41 * (f : Int) + V 138 f - 1 - (41 * (g : Int) + (j : Int) - (41 * (g : Int) + V 138 g)) = 41 * (f : Int) + ((xs.length : Int) - 1 - ((j : Int) - (ys.length : Int))) := by omega
            unfold glN glD
            dsimp only
            simp only [if_neg (show ¬ (j : Int) < (ys.length : Int) by omega)]
            refine ⟨?_, ?_, ?_, ?_⟩
            · rw [hV.n']
              by_cases u : (j : Int) < (ys.length : Int) + (w : Int)
              · rw [if_pos u, if_pos (by omega), ix]
              · have : 0 < l := if2 (by omega)
                rw [if_neg u, if_neg (by omega), if_pos (by omega)]
            · rw [hV.y' 140 (Or.inl rfl), if_pos nt', ix]
            · rw [hV.y' 141 (Or.inr rfl), if_pos nt', ix]
            · exact yP_src (by rw [hV.y' 140 (Or.inl rfl), if_pos nt', ix]) e4 e5 (fun i i0 i1 => by rw [hV.s' 142 (Or.inl rfl) _ _ i0 i1, hV.s' 143 (Or.inr rfl) _ _ i0 i1, if_pos nt', if_pos nt', ix]; exact ⟨rfl, rfl⟩)
      · obtain ⟨p2, a2', e2', ys2, q1, q2⟩ := a6.2.2 g hg
        obtain ⟨q3, q4, q5, q6, q7, q8⟩ := q2.d FD (by (try dsimp only); omega)
        refine ⟨p2, a2', e2', ys2, q1, q3, q4, q5, q6, by rw [hV.m', if_neg (by omega), if_neg (by omega)]; exact q7, q8.cgP (fun j hj => ?_)⟩
        have := rm g
        have nt' : ¬ (41 * (t : Int) + V 138 t ≤ 41 * (g : Int) + (j : Int) ∧ 41 * (g : Int) + (j : Int) < 41 * (t : Int) + V 138 t + w + (if 0 < l then 1 else 0)) := by rw [eif]; omega
        refine ⟨?_, ?_, ?_, ?_⟩
        · rw [hV.n', if_neg (by omega), if_neg (by omega), if_neg (by omega)]
        · rw [hV.y' 140 (Or.inl rfl), if_neg nt']
        · rw [hV.y' 141 (Or.inr rfl), if_neg nt']
        · exact yP_src (by rw [hV.y' 140 (Or.inl rfl), if_neg nt']) e4 e5 (fun i i0 i1 => by rw [hV.s' 142 (Or.inl rfl) _ _ i0 i1, hV.s' 143 (Or.inr rfl) _ _ i0 i1, if_neg nt', if_neg nt']; exact ⟨rfl, rfl⟩)
  · unfold clsS
    omega
end MV2

