section FJ
variable {γ : jG} {h h' : jM} {ρ σ : Nat → Nat} {x : Nat} {ks ss cs ls ms : List Nat} {V V' U : VV} {S : Nat → Prop}
theorem isY.cgP {y : Nat} {n c : Int} {ld : Option Nat} {P Q : Nat → Int} (hY : isY h y n ld c P) (hc : ∀ i, i < 10 → P i = Q i) : isY h y n ld c Q := by
  obtain ⟨a1, a0, a2, a3, a4, s, a5, a6⟩ := hY
  exact ⟨a1, a0, a2, a3, a4, s, a5, a6.cgP hc⟩
theorem lays.cgP {ys : List Nat} {N C N' C' : Int → Int} {D D' : Int → Option Nat} {P P' : Int → Nat → Int} (hY : lays h ys N D C P) (hc : ∀ k : Nat, k < ys.length → N k = N' k ∧ D k = D' k ∧ C k = C' k ∧ ∀ i, i < 10 → P k i = P' k i) : lays h ys N' D' C' P' := fun k y hk => by
  obtain ⟨e1, e2, e3, e4⟩ := hc k (List.getElem?_eq_some_iff.mp hk).1
  rw [← e1, ← e2, ← e3]
  exact (hY k y hk).cgP e4
/-- loads beyond the last may change -/
def sameLd (V V' : VV) : Prop := ∀ i, i < 5 * V 16 26 → V' 134 i = V 134 i ∧ V' 135 i = V 135 i
theorem lP_ld {l : Int} (hs : sameLd V V') (hl : l < V 16 26) : ∀ i, i < 10 → lP V l i = lP V' l i := fun i hi => by
  unfold lP
  have e := hs (5 * l + ((i / 2 : Nat) : Int)) (by omega)
  rw [e.1, e.2]
theorem yP_ld {y : Int} (hs : sameLd V V') (h0 : V' 140 y = V 140 y) (h1 : -1 ≤ V 140 y ∧ V 140 y < V 16 26) (h2 : ∀ m : Int, 0 ≤ m → m < 5 → V' 142 (5 * y + m) = V 142 (5 * y + m) ∧ V' 143 (5 * y + m) = V 143 (5 * y + m)) : ∀ i, i < 10 → yP V y i = yP V' y i := fun i hi => by
  unfold yP lowL highL
  rw [h0]
  have e2 := h2 ((i / 2 : Nat) : Int) (by omega) (by omega)
  rw [e2.1, e2.2]
  by_cases z : V 140 y = -1
  · simp only [if_pos z]
  · simp only [if_neg z]
    have e := hs (5 * V 140 y + ((i / 2 : Nat) : Int)) (by omega)
    rw [e.1, e.2]
theorem ldR_app {v : Int} {zs : List Nat} (h1 : -1 ≤ v ∧ v < ls.length) : ldR ls v = ldR (ls ++ zs) v := by
  unfold ldR
  by_cases z : v = -1
  · rw [if_pos z, if_pos z]
  · rw [if_neg z, if_neg z, List.getElem?_append_left (by omega)]
theorem repF.lsA (R : isR V) (P : refP V) {zs : List Nat} (hl : (ls.length : Int) = V 16 26) (hF : repF γ h ρ ms ls V) : repF γ h ρ ms (ls ++ zs) V := by
  refine ⟨hF.1, hF.2.1, fun i z hz => ?_⟩
  obtain ⟨a, e, ys, C, b1, b2, b3, b4, b5, b6, b7⟩ := hF.2.2 i z hz
  have hi := (List.getElem?_eq_some_iff.mp hz).1
  have hm := hF.2.1
  refine ⟨a, e, ys, C, b1, b2, b3, b4, b5, b6, b7.cg (fun k hk => ⟨rfl, ldR_app ?_, rfl, rfl⟩)⟩
  have := P i k (by omega) (by omega) (by omega) (by omega)
  have r := R 155 (20 * (i : Int) + (k : Int)) rfl
  simp [jLo, jHi] at r
  omega
def spLd (V : VV) (s k g n : Int) : Prop := (0 ≤ s ∧ s < V 16 2) ∧ (0 ≤ k ∧ k < V 16 1) ∧ (0 ≤ g ∧ g < 6 ∧ 1 ≤ n ∧ n ≤ 50) ∧ V 16 26 ≠ 100 ∧ layAll V ≠ 40 ∧ ldC V s ≠ -1
theorem sp_load_n {s k g n : Int} (H : spLd V s k g n) (hg : grF (ldF V s k) (ldC V s) (V 16 26) = -1) : sp_load V s k g n = (-1, fgV (ldF V s k) (grF (ldF V s k) (ldC V s) (V 16 26)) (payF (ldF V s k) (ldC V s) (V 16 26))) := by
  obtain ⟨h1, h2, h3, h4, h5, h6⟩ := H
  unfold sp_load
  rw [if_pos h1, if_pos h2, if_pos h3, if_neg h4, if_neg h5, if_neg h6, if_pos hg]
theorem sp_load_y {s k g n : Int} (H : spLd V s k g n) (hg : grF (ldF V s k) (ldC V s) (V 16 26) ≠ -1) : sp_load V s k g n = (V 16 26, putV (ldA (fgV (ldF V s k) (grF (ldF V s k) (ldC V s) (V 16 26)) (payF (ldF V s k) (ldC V s) (V 16 26))) s k n (V 16 3) (V 16 26) (ldC V s) (grF (ldF V s k) (ldC V s) (V 16 26)) (payF (ldF V s k) (ldC V s) (V 16 26))) g n (V 16 26) (payF (ldF V s k) (ldC V s) (V 16 26)) (-1)) := by
  obtain ⟨h1, h2, h3, h4, h5, h6⟩ := H
  unfold sp_load
  rw [if_pos h1, if_pos h2, if_pos h3, if_neg h4, if_neg h5, if_neg h6, if_neg hg]
theorem ldF_o {s k : Int} {t : Nat} (h1 : t ≠ 134) (h2 : t ≠ 135) : ldF V s k t = V t := funext fun i => by
  unfold ldF ldV
  rw [if_neg (by omega)]
theorem ldF_s {s k : Int} : sameLd V (ldF V s k) := fun i hi => by
  unfold ldF ldV
  rw [if_neg (by omega), if_neg (by omega)]
  exact ⟨rfl, rfl⟩
theorem ldF_4 {s k m : Int} (hm : 0 ≤ m ∧ m < 5) : ldF V s k 134 (5 * V 16 26 + m) = lowOf V s k m ∧ ldF V s k 135 (5 * V 16 26 + m) = highOf V s k m := by
  unfold ldF ldV
  constructor
  · rw [if_pos ⟨Or.inl rfl, by omega, by omega⟩, if_pos rfl, show 5 * V 16 26 + m - 5 * V 16 26 = m by omega]
  · rw [if_pos ⟨Or.inr rfl, by omega, by omega⟩, if_neg (by decide), show 5 * V 16 26 + m - 5 * V 16 26 = m by omega]
theorem ldF_P (R : isR V) {s k : Int} : ∀ j : Nat, j < 10 → usP (oV V s) (kP V k) k j = lP (ldF V s k) (V 16 26) j := fun j hj => by
  have e := usP_eq R (s := s) (k := k) (m := ((j / 2 : Nat) : Int)) (d := ((j % 2 : Nat) : Int)) (by omega) (by omega)
  rw [show 2 * ((j / 2 : Nat) : Int) + ((j % 2 : Nat) : Int) = (j : Int) by omega] at e
  rw [e]
  unfold lP
  have e4 := ldF_4 (V := V) (s := s) (k := k) (m := ((j / 2 : Nat) : Int)) (by omega)
  rw [e4.1, e4.2]
  by_cases z : j % 2 = 0
  · rw [if_pos z, if_pos (by omega)]
  · rw [if_neg z, if_neg (by omega)]
/-- the state when a load is refused -/
theorem ld_no {s k g' p' : Int} (I : Inv V) (hR : RepB γ V h x ρ σ ks ss cs ls ms) (F : FrC h h' (fun c => c = 9999)) : RepC γ (fgV (ldF V s k) g' p') h' x := by
  have R := I.1
  obtain ⟨a1, a2, a3, a4, a5, a6, a7, a8, a9, a10, a11⟩ := hR
  have l4 := csz a4.1
  have l7 := msz a7.1
  have n5 := a5.2.1
  have e : ∀ t, t ≠ 16 → ¬ (fun t : Nat => t = 134 ∨ t = 135) t → fgV (ldF V s k) g' p' t = V t := fun t ht h1 => by
    have h1 : ¬ (t = 134 ∨ t = 135) := h1
    unfold fgV
    rw [jU_f _ ht, jU_f _ ht, ldF_o (by omega) (by omega)]
  have es' : ∀ i, ¬ (fun i : Int => i = 36 ∨ i = 37) i → fgV (ldF V s k) g' p' 16 i = V 16 i := fun i hi => by
    have hi : ¬ (i = 36 ∨ i = 37) := hi
    unfold fgV
    rw [jU_ne _ _ (Or.inr (by omega)), jU_ne _ _ (Or.inr (by omega)), ldF_o (by decide) (by decide)]
  have sl : sameLd V (fgV (ldF V s k) g' p') := fun i hi => by
    unfold fgV
    rw [jU_f _ (by decide), jU_f _ (by decide), jU_f _ (by decide), jU_f _ (by decide)]
    exact ldF_s i hi
  have ee := fun t h1 h2 => e t h1 h2
  refine ⟨ρ, σ, ks, ss, cs, ls, ms, a1.k F es' (by (try dsimp only); omega) (by (try dsimp only); omega), a2.k F e es' (by (try dsimp only); omega) (by (try dsimp only); omega), a3.k F e es' (by (try dsimp only); omega) (by (try dsimp only); omega), a4.k F e es' (by (try dsimp only); omega) (fun _ _ => (by (try dsimp only); omega)) ⟨by (try dsimp only); omega, fun _ _ _ => by (try dsimp only); omega⟩, ⟨a5.1.c F (by (try dsimp only); omega), a5.2.1.trans (es' 26 (by (try dsimp only); omega)).symm, fun l z hz => ?_⟩, ?_, a7.k F e es' (by (try dsimp only); omega) (fun _ _ => (by (try dsimp only); omega)) ⟨by (try dsimp only); omega, fun _ _ _ => by (try dsimp only); omega⟩, a8.k F e a1.1 (by (try dsimp only); omega) (by (try dsimp only); omega), a9.k F e es' (by (try dsimp only); omega) (by (try dsimp only); omega), a10.c F (fun _ _ _ => (by (try dsimp only); omega)) (by (try dsimp only); omega), isK.c F a11 (by (try dsimp only); omega) (by (try dsimp only); omega)⟩
  · have hl := (List.getElem?_eq_some_iff.mp hz).1
    obtain ⟨s', k', c', sp', b1, b2, b3, b4⟩ := (a5.2.2 l z hz).c F (by (try dsimp only); omega) (by (try dsimp only); omega)
    unfold lodE
    rw [e 127 (by decide) (by decide), e 128 (by decide) (by decide), e 129 (by decide) (by decide), e 130 (by decide) (by decide), e 131 (by decide) (by decide), e 132 (by decide) (by decide), e 133 (by decide) (by decide)]
    obtain ⟨d1, d2, d3, d4, d5, d6, d7, d8, d9, d10, d11⟩ := b1
    exact ⟨s', k', c', sp', ⟨d1, d2, d3, d4, d5, d6, d7, d8, d9.cgP (lP_ld sl (by omega)), d10, d11⟩, b2, b3, b4⟩
  · obtain ⟨b1, b2, b3⟩ := a6.c F (by (try dsimp only); omega) (by (try dsimp only); omega) (fun _ _ => (by (try dsimp only); omega)) (by (try dsimp only); omega) (by (try dsimp only); omega)
    refine ⟨b1, b2, fun g hg => ?_⟩
    obtain ⟨p, a, e2, ys, c1, d1, d2, d3, d4, d5, d6⟩ := b3 g hg
    refine ⟨p, a, e2, ys, c1, d1, d2, d3, d4, by rw [e 138 (by decide) (by decide)]; exact d5, ?_⟩
    rw [e 139 (by decide) (by decide), e 140 (by decide) (by decide), e 141 (by decide) (by decide)]
    refine d6.cgP (fun j hj => ⟨rfl, rfl, rfl, yP_ld sl (by rw [e 140 (by decide) (by decide)]) ?_ (fun m _ _ => ?_)⟩)
    · have := I.2.2.2.2.1 g j (by omega) (by omega) (by omega) (by omega)
      have r := R 140 (41 * (g : Int) + (j : Int)) rfl
      simp [jLo, jHi] at r
      omega
    · rw [e 142 (by decide) (by decide), e 143 (by decide) (by decide)]
      exact ⟨rfl, rfl⟩
end FJ

