section CGS
variable {γ : jG} {h : jM} {ρ σ : Nat → Nat} {x : Nat} {ks ss cs ls ms : List Nat} {V V' : VV}
theorem repX.cg (hX : repX h x ρ σ V) (e : V' 16 3 = V 16 3) : repX h x ρ σ V' := by
  unfold repX
  rw [e]
  exact hX
theorem kP_cg (e1 : V' 104 = V 104) (e2 : V' 105 = V 105) : kP V' = kP V := by
  unfold kP
  rw [e1, e2]
theorem repA.cg (hA : repA γ h ρ ks V) (e0 : V' 16 1 = V 16 1) (e1 : V' 104 = V 104) (e2 : V' 105 = V 105) : repA γ h ρ ks V' := by
  unfold repA
  rw [kP_cg e1 e2, e0]
  exact hA
theorem repB.cg (hB : repB γ h ρ ss V) (e0 : V' 16 2 = V 16 2) (e1 : V' 106 = V 106) (e2 : V' 107 = V 107) (e3 : V' 108 = V 108) (e4 : V' 109 = V 109) : repB γ h ρ ss V' := by
  unfold repB
  rw [show oV V' = oV V by unfold oV; rw [e1, e2, e3], e0, e4]
  exact hB
theorem gRep_cg {c : Int} {G : List Grd} {K : Int} (e1 : V' 119 = V 119) (e2 : V' 121 = V 121) (e3 : V' 122 = V 122) (e4 : V' 123 = V 123) (e5 : V' 124 = V 124) (e6 : V' 125 = V 125) (hG : gRep V c G K) : gRep V' c G K := by
  unfold gRep
  rw [e1, e2, e3, e4, e5, e6]
  exact hG
theorem repT.cg (hT : repT γ h ρ cs ss V) (e0 : V' 16 11 = V 16 11) (e1 : V' 117 = V 117) (e2 : V' 118 = V 118) (e3 : V' 119 = V 119) (e4 : V' 120 = V 120) (e5 : V' 121 = V 121) (e6 : V' 122 = V 122) (e7 : V' 123 = V 123) (e8 : V' 124 = V 124) (e9 : V' 125 = V 125) : repT γ h ρ cs ss V' := by
  refine ⟨hT.1, by rw [e0]; exact hT.2.1, fun c z hz => ?_⟩
  obtain ⟨g, e, gl, G, K, a1, a2, a3, a4, a5, a6, a7, a8⟩ := hT.2.2 c z hz
  exact ⟨g, e, gl, G, K, by rw [e4]; exact a1, a2, a3, a4, by rw [e1]; exact a5, by rw [e2]; exact a6, gRep_cg e3 e5 e6 e7 e8 e9 a7, a8⟩
theorem repD.cg (hD : repD γ h ρ ls ss ks cs V) (e0 : V' 16 26 = V 16 26) (e1 : V' 127 = V 127) (e2 : V' 128 = V 128) (e3 : V' 129 = V 129) (e4 : V' 130 = V 130) (e5 : V' 131 = V 131) (e6 : V' 132 = V 132) (e7 : V' 133 = V 133) (e8 : V' 134 = V 134) (e9 : V' 135 = V 135) : repD γ h ρ ls ss ks cs V' := by
  unfold repD lodE
  rw [show lP V' = lP V by unfold lP; rw [e8, e9], e0, e1, e2, e3, e4, e5, e6, e7]
  exact hD
theorem yP_cg (e2 : V' 140 = V 140) (e4 : V' 142 = V 142) (e5 : V' 143 = V 143) (e8 : V' 134 = V 134) (e9 : V' 135 = V 135) : yP V' = yP V := by
  unfold yP lowL highL
  rw [e2, e4, e5, e8, e9]
theorem repE.cg (hE : repE γ h ρ ls V) (e0 : V' 138 = V 138) (e1 : V' 139 = V 139) (e2 : V' 140 = V 140) (e3 : V' 141 = V 141) (e4 : V' 142 = V 142) (e5 : V' 143 = V 143) (e8 : V' 134 = V 134) (e9 : V' 135 = V 135) : repE γ h ρ ls V' := by
  unfold repE hepE
  rw [yP_cg e2 e4 e5 e8 e9, e0, e1, e2, e3]
  exact hE
theorem repF.cg (hF : repF γ h ρ ms ls V) (e0 : V' 16 52 = V 16 52) (e1 : V' 153 = V 153) (e2 : V' 154 = V 154) (e3 : V' 155 = V 155) (e4 : V' 156 = V 156) (e5 : V' 157 = V 157) : repF γ h ρ ms ls V' := by
  unfold repF melE
  rw [show pP V' = pP V by unfold pP; rw [e4, e5], show tonsP V' = tonsP V by unfold tonsP; rw [e1, e2], e0, e1, e2, e3]
  exact hF
theorem repG.cg (hG : repG h ρ x V) (e1 : V' 146 = V 146) (e2 : V' 147 = V 147) : repG h ρ x V' := by
  unfold repG
  rw [show aP V' = aP V by unfold aP; rw [e1, e2]]
  exact hG
theorem repH.cg (hH : repH γ h ρ V) (e0 : V' 16 10 = V 16 10) (e1 : V' 116 = V 116) : repH γ h ρ V' := by
  unfold repH
  rw [e0, e1]
  exact hH
/-- of no account for the class -/
def nac (t : Nat) : Prop := t = 144 ∨ t = 145 ∨ t = 148 ∨ t = 149 ∨ t = 150 ∨ t = 151 ∨ t = 158 ∨ t = 159
def sameR (V V' : VV) : Prop := (∀ t, t ≠ 16 → ¬ nac t → V' t = V t) ∧ ∀ i, i = 1 ∨ i = 2 ∨ i = 3 ∨ i = 10 ∨ i = 11 ∨ i = 26 ∨ i = 52 → V' 16 i = V 16 i
theorem RepB.cg (hR : RepB γ V h x ρ σ ks ss cs ls ms) (hs : sameR V V') : RepB γ V' h x ρ σ ks ss cs ls ms := by
  obtain ⟨a1, a2, a3, a4, a5, a6, a7, a8, a9, a10, a11⟩ := hR
  have e : ∀ t, t ≠ 16 → ¬ nac t → V' t = V t := hs.1
  have s := hs.2
  exact ⟨a1.cg (s 3 (by decide)), a2.cg (s 1 (by decide)) (e 104 (by decide) (by unfold nac; decide)) (e 105 (by decide) (by unfold nac; decide)), a3.cg (s 2 (by decide)) (e 106 (by decide) (by unfold nac; decide)) (e 107 (by decide) (by unfold nac; decide)) (e 108 (by decide) (by unfold nac; decide)) (e 109 (by decide) (by unfold nac; decide)), a4.cg (s 11 (by decide)) (e 117 (by decide) (by unfold nac; decide)) (e 118 (by decide) (by unfold nac; decide)) (e 119 (by decide) (by unfold nac; decide)) (e 120 (by decide) (by unfold nac; decide)) (e 121 (by decide) (by unfold nac; decide)) (e 122 (by decide) (by unfold nac; decide)) (e 123 (by decide) (by unfold nac; decide)) (e 124 (by decide) (by unfold nac; decide)) (e 125 (by decide) (by unfold nac; decide)), a5.cg (s 26 (by decide)) (e 127 (by decide) (by unfold nac; decide)) (e 128 (by decide) (by unfold nac; decide)) (e 129 (by decide) (by unfold nac; decide)) (e 130 (by decide) (by unfold nac; decide)) (e 131 (by decide) (by unfold nac; decide)) (e 132 (by decide) (by unfold nac; decide)) (e 133 (by decide) (by unfold nac; decide)) (e 134 (by decide) (by unfold nac; decide)) (e 135 (by decide) (by unfold nac; decide)), a6.cg (e 138 (by decide) (by unfold nac; decide)) (e 139 (by decide) (by unfold nac; decide)) (e 140 (by decide) (by unfold nac; decide)) (e 141 (by decide) (by unfold nac; decide)) (e 142 (by decide) (by unfold nac; decide)) (e 143 (by decide) (by unfold nac; decide)) (e 134 (by decide) (by unfold nac; decide)) (e 135 (by decide) (by unfold nac; decide)), a7.cg (s 52 (by decide)) (e 153 (by decide) (by unfold nac; decide)) (e 154 (by decide) (by unfold nac; decide)) (e 155 (by decide) (by unfold nac; decide)) (e 156 (by decide) (by unfold nac; decide)) (e 157 (by decide) (by unfold nac; decide)), a8.cg (e 146 (by decide) (by unfold nac; decide)) (e 147 (by decide) (by unfold nac; decide)), a9.cg (s 10 (by decide)) (e 116 (by decide) (by unfold nac; decide)), a10, a11⟩
theorem RepC.cg (hR : RepC γ V h x) (hs : sameR V V') : RepC γ V' h x := by
  obtain ⟨ρ, σ, ks, ss, cs, ls, ms, a⟩ := hR
  exact ⟨ρ, σ, ks, ss, cs, ls, ms, a.cg hs⟩
theorem sameR.rf : sameR V V := ⟨fun _ _ _ => rfl, fun _ _ => rfl⟩
theorem sameR.t {v : Int} (i : Int) (hi : ¬ (i = 1 ∨ i = 2 ∨ i = 3 ∨ i = 10 ∨ i = 11 ∨ i = 26 ∨ i = 52)) : sameR V (jU V 16 i v) := ⟨fun t ht _ => funext fun j => jU_ne _ _ (Or.inl ht), fun j hj => jU_ne _ _ (Or.inr (fun z => hi (by rw [← z]; exact hj)))⟩
/-- the class keeps to its own cells -/
abbrev clsS : Nat → Prop := fun c => c ≠ 16 ∧ c < 9000
theorem RepC.c {h' : jM} {S : Nat → Prop} (F : FrC h h' S) (hS : ∀ c, S c → c = 16 ∨ 9000 ≤ c) (hR : RepC γ V h x) : RepC γ V h' x := by
  obtain ⟨ρ, σ, ks, ss, cs, ls, ms, a1, a2, a3, a4, a5, a6, a7, a8, a9, a10, a11⟩ := hR
  have n : ∀ c, c ≠ 16 → c < 9000 → ¬ S c := fun c h1 h2 z => by have := hS c z; omega
  have l4 := a4.2.1
  refine ⟨ρ, σ, ks, ss, cs, ls, ms, a1.c F (n _ (by decide) (by decide)), a2.c F (n _ (by decide) (by decide)) (n _ (by decide) (by decide)) (n _ (by decide) (by decide)), a3.c F (n _ (by decide) (by decide)) (n _ (by decide) (by decide)) (n _ (by decide) (by decide)), a4.c F (n _ (by decide) (by decide)) (n _ (by decide) (by decide)) (fun c hc => n _ (by omega) ?_) (n _ (by decide) (by decide)) (n _ (by decide) (by decide)) (n _ (by decide) (by decide)), a5.c F (n _ (by decide) (by decide)) (n _ (by decide) (by decide)) (n _ (by decide) (by decide)), a6.c F (n _ (by decide) (by decide)) (n _ (by decide) (by decide)) (fun g hg => n _ (by omega) (by omega)) (n _ (by decide) (by decide)) (n _ (by decide) (by decide)), a7.c F (n _ (by decide) (by decide)) (n _ (by decide) (by decide)) (fun g hg => n _ (by omega) ?_) (n _ (by decide) (by decide)) (n _ (by decide) (by decide)), a8.c F a1.1 (n _ (by decide) (by decide)), a9.c F (n _ (by decide) (by decide)) (n _ (by decide) (by decide)), a10.c F (fun t h1 h2 => n _ (by omega) (by omega)) (n _ (by decide) (by decide)), a11.kept F (fun b hb ht z => ?_)⟩
  · have := a4.1.1
    obtain ⟨e, he⟩ := this
    have := he.len
    omega
  · have := a7.1.1
    obtain ⟨e, he⟩ := this
    have := he.len
    omega
  · rcases ht with ht | ht
    · rw [kc_o ht (by decide)] at z; exact n 1 (by decide) (by decide) z
    · rw [kc_o ht (by decide)] at z; exact n 35 (by decide) (by decide) z
end CGS

