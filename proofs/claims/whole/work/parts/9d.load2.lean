section FK
variable {γ : jG} {h h' : jM} {ρ σ : Nat → Nat} {x : Nat} {ks ss cs ls ms : List Nat} {V V' U : VV} {S : Nat → Prop}
/-- the state with one load more -/
def ldU (V : VV) (s k n c G P : Int) : VV := ldA (fgV (ldF V s k) G P) s k n (V 16 3) (V 16 26) c G P
variable {s k n c G P : Int}
theorem ldU_o {t : Nat} (ht : t ≠ 16) (h1 : t ≠ 109) (h2 : t < 127 ∨ 135 < t) : ldU V s k n c G P t = V t := funext fun i => by
  unfold ldU ldA
  rw [jU_f _ ht, jU_f _ h1, jU_f _ (by omega), jU_f _ (by omega), jU_f _ (by omega), jU_f _ (by omega), jU_f _ (by omega), jU_f _ (by omega), jU_f _ (by omega)]
  unfold fgV
  rw [jU_f _ ht, jU_f _ ht, ldF_o (by omega) (by omega)]
theorem ldU_sc {i : Int} (h1 : i ≠ 26) (h2 : i ≠ 36) (h3 : i ≠ 37) : ldU V s k n c G P 16 i = V 16 i := by
  unfold ldU ldA
  rw [jU_ne _ _ (Or.inr h1), jU_ne _ _ (Or.inl (by decide)), jU_ne _ _ (Or.inl (by decide)), jU_ne _ _ (Or.inl (by decide)), jU_ne _ _ (Or.inl (by decide)), jU_ne _ _ (Or.inl (by decide)), jU_ne _ _ (Or.inl (by decide)), jU_ne _ _ (Or.inl (by decide)), jU_ne _ _ (Or.inl (by decide))]
  unfold fgV
  rw [jU_ne _ _ (Or.inr h3), jU_ne _ _ (Or.inr h2), ldF_o (by decide) (by decide)]
theorem ldU_26 : ldU V s k n c G P 16 26 = V 16 26 + 1 := by
  unfold ldU ldA
  rw [jU_same]
theorem fg_o {W : VV} {t : Nat} (ht : t ≠ 16) : fgV W G P t = W t := by
  unfold fgV
  rw [jU_f _ ht, jU_f _ ht]
theorem ldU_109 {i : Int} : ldU V s k n c G P 109 i = if i = s then V 109 s + n * P else V 109 i := by
  unfold ldU ldA
  rw [jU_f _ (by decide), jU_at, jU_f _ (by decide), jU_f _ (by decide), jU_f _ (by decide), jU_f _ (by decide), jU_f _ (by decide), jU_f _ (by decide), jU_f _ (by decide), fg_o (by decide), ldF_o (by decide) (by decide)]
theorem ldU_127 {i : Int} : ldU V s k n c G P 127 i = if i = V 16 26 then s else V 127 i := by
  unfold ldU ldA
  rw [jU_f _ (by decide), jU_f _ (by decide), jU_f _ (by decide), jU_f _ (by decide), jU_f _ (by decide), jU_f _ (by decide), jU_f _ (by decide), jU_f _ (by decide), jU_at, fg_o (by decide), ldF_o (by decide) (by decide)]
theorem ldU_128 {i : Int} : ldU V s k n c G P 128 i = if i = V 16 26 then k else V 128 i := by
  unfold ldU ldA
  rw [jU_f _ (by decide), jU_f _ (by decide), jU_f _ (by decide), jU_f _ (by decide), jU_f _ (by decide), jU_f _ (by decide), jU_f _ (by decide), jU_at, jU_f _ (by decide), fg_o (by decide), ldF_o (by decide) (by decide)]
theorem ldU_129 {i : Int} : ldU V s k n c G P 129 i = if i = V 16 26 then n else V 129 i := by
  unfold ldU ldA
  rw [jU_f _ (by decide), jU_f _ (by decide), jU_f _ (by decide), jU_f _ (by decide), jU_f _ (by decide), jU_f _ (by decide), jU_at, jU_f _ (by decide), jU_f _ (by decide), fg_o (by decide), ldF_o (by decide) (by decide)]
theorem ldU_130 {i : Int} : ldU V s k n c G P 130 i = if i = V 16 26 then V 16 3 else V 130 i := by
  unfold ldU ldA
  rw [jU_f _ (by decide), jU_f _ (by decide), jU_f _ (by decide), jU_f _ (by decide), jU_f _ (by decide), jU_at, jU_f _ (by decide), jU_f _ (by decide), jU_f _ (by decide), fg_o (by decide), ldF_o (by decide) (by decide)]
theorem ldU_131 {i : Int} : ldU V s k n c G P 131 i = if i = V 16 26 then c else V 131 i := by
  unfold ldU ldA
  rw [jU_f _ (by decide), jU_f _ (by decide), jU_f _ (by decide), jU_f _ (by decide), jU_at, jU_f _ (by decide), jU_f _ (by decide), jU_f _ (by decide), jU_f _ (by decide), fg_o (by decide), ldF_o (by decide) (by decide)]
theorem ldU_132 {i : Int} : ldU V s k n c G P 132 i = if i = V 16 26 then G else V 132 i := by
  unfold ldU ldA
  rw [jU_f _ (by decide), jU_f _ (by decide), jU_f _ (by decide), jU_at, jU_f _ (by decide), jU_f _ (by decide), jU_f _ (by decide), jU_f _ (by decide), jU_f _ (by decide), fg_o (by decide), ldF_o (by decide) (by decide)]
theorem ldU_133 {i : Int} : ldU V s k n c G P 133 i = if i = V 16 26 then P else V 133 i := by
  unfold ldU ldA
  rw [jU_f _ (by decide), jU_f _ (by decide), jU_at, jU_f _ (by decide), jU_f _ (by decide), jU_f _ (by decide), jU_f _ (by decide), jU_f _ (by decide), jU_f _ (by decide), fg_o (by decide), ldF_o (by decide) (by decide)]
theorem ldU_134 : ldU V s k n c G P 134 = ldF V s k 134 ∧ ldU V s k n c G P 135 = ldF V s k 135 := by
  unfold ldU ldA
  constructor
  · rw [jU_f _ (by decide), jU_f _ (by decide), jU_f _ (by decide), jU_f _ (by decide), jU_f _ (by decide), jU_f _ (by decide), jU_f _ (by decide), jU_f _ (by decide), jU_f _ (by decide), fg_o (by decide)]
  · rw [jU_f _ (by decide), jU_f _ (by decide), jU_f _ (by decide), jU_f _ (by decide), jU_f _ (by decide), jU_f _ (by decide), jU_f _ (by decide), jU_f _ (by decide), jU_f _ (by decide), fg_o (by decide)]
/-- what the class has, once the load lies on heap g -/
theorem ld_yes {g : Nat} {z y sz kz zc sp p a e e' e3 : Nat} {ys : List Nat} {P' : Nat → Int} {k8 : jM} (I : Inv V) (hR : RepB γ V h x ρ σ ks ss cs ls ms) (hg : g < 6) (hk : 0 ≤ k) (hs : 0 ≤ s) (as : at' ss s sz) (ak : at' ks k kz) (ac : at' cs c zc) (r5 : h.R 33 (ρ 5) g = some p) (hE : hepE γ h ls V g p a e ys) (Fw : FrC h k8 (fun c => c = 5003 ∨ c = 13 ∨ c = 5010 + g)) (L3 : isL γ k8 (ρ 3) e3 (ls ++ [z])) (hLd : isLd k8 z (V 16 26) sz kz n (V 16 3) zc sp P' G P) (hP' : ∀ j, j < 10 → P' j = lP (ldF V s k) (V 16 26) j) (hS : repS k8 ss (oV V) (fun u => if u = s then V 109 s + n * P else V 109 u)) (L8 : isLs γ k8 a e' (ys ++ [y])) (Yo : lays k8 ys (fun k => V 139 (41 * g + k)) (fun k => ldR ls (V 140 (41 * g + k))) (fun k => V 141 (41 * g + k)) (fun k => yP V (41 * g + k))) (Yn : isY k8 y n (some z) P P') : RepC γ (putV (ldU V s k n c G P) g n (V 16 26) P (-1)) k8 x := by
  have R := I.1
  have Rf := R.f
  obtain ⟨a1, a2, a3, a4, a5, a6, a7, a8, a9, a10, a11⟩ := hR
  have l4 := csz a4.1
  have l7 := msz a7.1
  have n5 := a5.2.1
  obtain ⟨hE1, hE2, hE3, hE4, hE5, hE6⟩ := hE
  have r140 : ∀ i, -1 ≤ V 140 i := fun i => by have := R 140 i rfl; simp [jLo, jHi] at this; omega
  have r138 : V 138 g ≤ 40 ∧ 0 ≤ V 138 g := by have := R 138 g rfl; simp [jLo, jHi] at this; omega
  have u138 : ldU V s k n c G P 138 = V 138 := ldU_o (by decide) (by decide) (by decide)
  have po : ∀ t, t < 138 ∨ 143 < t → putV (ldU V s k n c G P) g n (V 16 26) P (-1) t = ldU V s k n c G P t := fun t ht => funext fun i => putV_o ht
  have e : ∀ t, t ≠ 16 → ¬ (fun t : Nat => t = 109 ∨ 127 ≤ t ∧ t ≤ 135 ∨ 138 ≤ t ∧ t ≤ 143) t → putV (ldU V s k n c G P) g n (V 16 26) P (-1) t = V t := fun t ht h1 => by
    have h1 : ¬ (t = 109 ∨ 127 ≤ t ∧ t ≤ 135 ∨ 138 ≤ t ∧ t ≤ 143) := h1
    rw [po t (by omega), ldU_o ht (by omega) (by omega)]
  have es' : ∀ i, ¬ (fun i : Int => i = 26 ∨ i = 36 ∨ i = 37) i → putV (ldU V s k n c G P) g n (V 16 26) P (-1) 16 i = V 16 i := fun i hi => by
    have hi : ¬ (i = 26 ∨ i = 36 ∨ i = 37) := hi
    rw [po 16 (by decide), ldU_sc (by omega) (by omega) (by omega)]
  have e26 : putV (ldU V s k n c G P) g n (V 16 26) P (-1) 16 26 = V 16 26 + 1 := by rw [po 16 (by decide), ldU_26]
  have y4 : ∀ t, t = 142 ∨ t = 143 → putV (ldU V s k n c G P) g n (V 16 26) P (-1) t = V t := fun t ht => funext fun i => by
    unfold putV
    rw [if_pos rfl, jU_ne _ _ (Or.inl (by omega)), putA_o (by omega) (by omega) (by omega), ldU_o (by omega) (by omega) (by omega)]
  have sl : sameLd V (putV (ldU V s k n c G P) g n (V 16 26) P (-1)) := fun i hi => by
    rw [po 134 (by decide), po 135 (by decide), ldU_134.1, ldU_134.2]
    exact ldF_s i hi
  have F7 : repF γ k8 ρ ms (ls ++ [z]) V := (a7.c Fw (by (try dsimp only); omega) (by (try dsimp only); omega) (fun _ _ => (by (try dsimp only); omega)) (by (try dsimp only); omega) (by (try dsimp only); omega)).lsA R I.2.2.2.2.2.1 n5
  have FR : FrC k8 k8 (fun c => c = 9999) := Fr.rf
  refine ⟨ρ, σ, ks, ss, cs, ls ++ [z], ms, a1.k Fw es' (by (try dsimp only); omega) (by (try dsimp only); omega), a2.k Fw e es' (by (try dsimp only); omega) (by (try dsimp only); omega), ⟨a3.1.c Fw (by (try dsimp only); omega), a3.2.1.trans (es' 2 (by (try dsimp only); omega)).symm, ?_⟩, a4.k Fw e es' (by (try dsimp only); omega) (fun _ _ => (by (try dsimp only); omega)) ⟨by (try dsimp only); omega, fun _ _ _ => by (try dsimp only); omega⟩, ⟨⟨⟨e3, L3⟩, by rw [Fw.ow (by obtain ⟨⟨_, w⟩, _⟩ := a5.1; have := w.1; omega)]; exact a5.1.2⟩, ?_, fun l u hu => ?_⟩, ⟨Fw.tag a6.1 (by decide), by rw [Fw.len (by have := a6.1; omega)]; exact a6.2.1, fun g' hg' => ?_⟩, F7.k FR e es' (by (try dsimp only); omega) (fun _ _ => (by (try dsimp only); omega)) ⟨by (try dsimp only); omega, fun _ _ _ => by (try dsimp only); omega⟩, a8.k Fw e a1.1 (by (try dsimp only); omega) (by (try dsimp only); omega), a9.k Fw e es' (by (try dsimp only); omega) (by (try dsimp only); omega), a10.c Fw (fun _ _ _ => (by (try dsimp only); omega)) (by (try dsimp only); omega), isK.c Fw a11 (by (try dsimp only); omega) (by (try dsimp only); omega)⟩
  · intro j u hu
    obtain ⟨o, w⟩ := hS j u hu
    refine ⟨o, ?_⟩
    show isSl k8 u o j (oV (putV (ldU V s k n c G P) g n (V 16 26) P (-1)) j) (putV (ldU V s k n c G P) g n (V 16 26) P (-1) 109 j)
    rw [po 109 (by decide), ldU_109]
    unfold oV
    rw [e 106 (by decide) (by decide), e 107 (by decide) (by decide), e 108 (by decide) (by decide)]
    exact w
  · rw [List.length_append, e26]
    show ((ls.length + 1 : Nat) : Int) = _
    omega
  · unfold lodE
    rw [po 127 (by decide), po 128 (by decide), po 129 (by decide), po 130 (by decide), po 131 (by decide), po 132 (by decide), po 133 (by decide), ldU_127, ldU_128, ldU_129, ldU_130, ldU_131, ldU_132, ldU_133]
    rcases Nat.lt_trichotomy l ls.length with q | q | q
    · rw [List.getElem?_append_left q] at hu
      obtain ⟨s', k', c', sp', b1, b2, b3, b4⟩ := (a5.2.2 l u hu).c Fw (by (try dsimp only); omega) (by (try dsimp only); omega)
      simp only [if_neg (show ¬ (l : Int) = V 16 26 by omega)]
      obtain ⟨d1, d2, d3, d4, d5, d6, d7, d8, d9, d10, d11⟩ := b1
      exact ⟨s', k', c', sp', ⟨d1, d2, d3, d4, d5, d6, d7, d8, d9.cgP (lP_ld sl (by omega)), d10, d11⟩, b2, b3, b4⟩
    · rw [q, List.getElem?_append_right (Nat.le_refl _), Nat.sub_self] at hu
      cases hu
      have el : (l : Int) = V 16 26 := by omega
      simp only [if_pos el]
      rw [el]
      obtain ⟨d1, d2, d3, d4, d5, d6, d7, d8, d9, d10, d11⟩ := hLd
      refine ⟨sz, kz, zc, sp, ⟨d1, d2, d3, d4, d5, d6, d7, d8, d9.cgP (fun i hi => ?_), d10, d11⟩, as, ak, ac⟩
      rw [hP' i hi]
      unfold lP
      rw [po 134 (by decide), po 135 (by decide), ldU_134.1, ldU_134.2]
    · rw [List.getElem?_eq_none (by rw [List.length_append]; simp; omega)] at hu
      cases hu
  · have wh : ∀ b, h.tag b = 33 → ¬ (kc h b = 5003 ∨ kc h b = 13 ∨ kc h b = 5010 + g) := fun b hb z => by rw [kc_o hb (by decide)] at z; omega
    have yq : ∀ (gg : Nat) (j : Nat), gg < 6 → (j : Int) < V 138 gg → V 140 (41 * (gg : Int) + j) < V 16 26 := fun gg j h1 h2 => I.2.2.2.2.1 gg j (by omega) (by omega) (by omega) h2
    by_cases q : g' = g
    · subst q
      refine ⟨p, a, e', ys ++ [y], by rw [Fw.R a6.1 (by decide) (wh _ a6.1)]; exact r5, Fw.tag hE1 (by decide), by rw [Fw.R hE1 (by decide) (fun z => by rw [kc_o hE1 (by decide)] at z; omega)]; exact hE2, L8, by rw [Fw.ow (by have := hE3.1.1; omega)]; exact hE4, ?_, ly_app (Yo.cgP (fun j hj => ?_)) ?_⟩
      · rw [List.length_append, putV_many, if_pos rfl, u138]
        show ((ys.length + 1 : Nat) : Int) = _
        omega
      · rw [putV_139, putV_140, putV_141, u138, if_neg (by omega), if_neg (by omega), if_neg (by omega), ldU_o (by decide) (by decide) (by decide), ldU_o (t := 140) (by decide) (by decide) (by decide), ldU_o (t := 141) (by decide) (by decide) (by decide)]
        have y1 := yq g' j hg (by omega)
        refine ⟨rfl, ldR_app ⟨r140 _, by omega⟩, rfl, yP_ld sl ?_ ⟨r140 _, y1⟩ (fun m _ _ => ?_)⟩
        · rw [putV_140, u138, if_neg (by omega), ldU_o (by decide) (by decide) (by decide)]
        · rw [y4 142 (by decide), y4 143 (by decide)]
          exact ⟨rfl, rfl⟩
      · rw [putV_139, putV_140, putV_141, u138, if_pos (by omega), if_pos (by omega), if_pos (by omega)]
        have ez : ldR (ls ++ [z]) (V 16 26) = some z := by
          unfold ldR
          rw [if_neg (by omega), show (V 16 26).toNat = ls.length by omega, List.getElem?_append_right (Nat.le_refl _), Nat.sub_self]
          rfl
        rw [ez]
        refine Yn.cgP (fun i hi => ?_)
        rw [hP' i hi]
        unfold yP lP lowL highL
        rw [putV_140, u138, if_pos (show 41 * (g' : Int) + (ys.length : Int) = 41 * (g' : Int) + V 138 (g' : Int) by omega), po 134 (by decide), po 135 (by decide), ldU_134.1, ldU_134.2]
        simp only [if_neg (show ¬ V 16 26 = -1 by omega)]
    · obtain ⟨p', a', e2', ys', c1, c2⟩ := a6.2.2 g' hg'
      obtain ⟨d1, d2, d3, d4, d5, d6⟩ := c2.c Fw (by (try dsimp only); omega) (by (try dsimp only); omega) (by (try dsimp only); omega) (by (try dsimp only); omega)
      refine ⟨p', a', e2', ys', by rw [Fw.R a6.1 (by decide) (wh _ a6.1)]; exact c1, d1, d2, d3, d4, by rw [putV_many, if_neg (by omega), u138]; exact d5, d6.cgP (fun j hj => ?_)⟩
      have y1 := yq g' j hg' (by omega)
      have ne : ¬ 41 * (g' : Int) + (j : Int) = 41 * (g : Int) + V 138 g := by
        have := R 138 g' rfl
        simp [jLo, jHi] at this
        omega
      rw [putV_139, putV_140, putV_141, u138, if_neg ne, if_neg ne, if_neg ne, ldU_o (by decide) (by decide) (by decide), ldU_o (t := 140) (by decide) (by decide) (by decide), ldU_o (t := 141) (by decide) (by decide) (by decide)]
      refine ⟨rfl, ldR_app ⟨r140 _, by omega⟩, rfl, yP_ld sl ?_ ⟨r140 _, y1⟩ (fun m _ _ => ?_)⟩
      · rw [putV_140, u138, if_neg ne, ldU_o (by decide) (by decide) (by decide)]
      · rw [y4 142 (by decide), y4 143 (by decide)]
        exact ⟨rfl, rfl⟩
end FK

