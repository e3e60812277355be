/-- a call of the class, wrapped, and the model's answer the same -/
def OpS (γ : jG) (V : VV) (h : jM) (x o : Nat) (μL μM : jMth) (f mc ms fm : Nat) (As : List Value) : Prop := ∃ (c v : Int) (P : VV → Prop), r32 c ∧ (∀ W, P W → Inv W ∧ W 16 0 = c) ∧ CT γ μL f mc ms (.ref x :: As ++ [.ref o]) h (WQ γ x o h c (jI v).toInt P) X0 ∧ ∀ β, isB β → CT γ μM fm 0 0 (.ref (β.2 16) :: As) (jP β V) (mdQ β v P) X0
theorem RepB.h7 {γ : jG} {V : VV} {h : jM} {x : Nat} {ρ σ : Nat → Nat} {ks ss cs ls ms : List Nat} (hR : RepB γ V h x ρ σ ks ss cs ls ms) : ∀ l, 0 ≤ l → l < V 16 26 → V 127 l < V 16 2 := fun l l0 l1 => by
  obtain ⟨a1, a2, a3, a4, a5, a6⟩ := hR
  have n1 := a5.2.1
  have n2 := a3.2.1
  have hl : l.toNat < ls.length := by omega
  obtain ⟨s, k, c, sp, b1, b2, b3, b4⟩ := a5.2.2 l.toNat _ (List.getElem?_eq_getElem hl)
  rw [show ((l.toNat : Nat) : Int) = l by omega] at b2
  have := (List.getElem?_eq_some_iff.mp b2.2).1
  have := b2.1
  omega
section OPS
variable {γ : jG} {V : VV} {h : jM} {x o : Nat}
theorem op_span {a1 a2 a3 a4 : Int} (r1 : r32 a1) (r2 : r32 a2) (r3 : r32 a3) (r4 : r32 a4) (hL : RepC γ V h x) (I : Inv V) (to : h.tag o = 38) (lo : h.len o = 1) : OpS γ V h x o mL_span mX12_span 8 8 48 2 [.int (jI a1), .int (jI a2), .int (jI a3), .int (jI a4)] := by
  have I0 := I.er (c := 0) (by omega)
  have h0 : jU V 16 0 0 16 0 = 0 := jU_same _ _ _ _
  have R0 : RepC γ (jU V 16 0 0) h x := hL.cg (sameR.t 0 (by decide))
  have hR0 := R0
  obtain ⟨ρ, σ, ks, ss, cs, ls, ms, hB⟩ := hR0
  have IS : Inv (sp_span (jU V 16 0 0) a1 a2 a3 a4).2 := inv_span I0
  refine ⟨(sp_span (jU V 16 0 0) a1 a2 a3 a4).2 16 0, (sp_span (jU V 16 0 0) a1 a2 a3 a4).1, fun W => W = (sp_span (jU V 16 0 0) a1 a2 a3 a4).2, IS.1.r 16 0, fun W p => ?_, wr_span hB.1.1 (cf_span r1 r2 r3 r4 h0 I0 hB) (fun r k hq => wq_ok to lo hq) (fun E k hx => ?_), fun β B => (cm_span B I.1 r1 r2 r3 r4).mono (fun r k z => ⟨_, rfl, z.1, z.2⟩) (fun _ _ z => z)⟩
  · rw [p]; exact ⟨IS, rfl⟩
  · obtain ⟨rfl, c, hc, hw⟩ := hx
    simp only [List.mem_cons, Prod.mk.injEq, List.not_mem_nil, or_false] at hc
    rcases hc with ⟨rfl, rfl⟩ | ⟨rfl, rfl⟩
    · exact Or.inl ⟨rfl, wq_ex R0 hw (by decide)⟩
    · exact Or.inr ⟨rfl, wq_ex R0 hw (by decide)⟩
theorem op_usual {a1 a2 a3 a4 : Int} (r1 : r32 a1) (r2 : r32 a2) (r3 : r32 a3) (r4 : r32 a4) (hL : RepC γ V h x) (I : Inv V) (to : h.tag o = 38) (lo : h.len o = 1) : OpS γ V h x o mL_usual mX12_usual 8 8 48 2 [.int (jI a1), .int (jI a2), .int (jI a3), .int (jI a4)] := by
  have I0 := I.er (c := 0) (by omega)
  have h0 : jU V 16 0 0 16 0 = 0 := jU_same _ _ _ _
  have R0 : RepC γ (jU V 16 0 0) h x := hL.cg (sameR.t 0 (by decide))
  have hR0 := R0
  obtain ⟨ρ, σ, ks, ss, cs, ls, ms, hB⟩ := hR0
  have IS : Inv (sp_usual (jU V 16 0 0) a1 a2 a3 a4).2 := by
    unfold sp_usual
    (repeat' split) <;> first | exact I0 | exact I0.er (by omega)
  refine ⟨(sp_usual (jU V 16 0 0) a1 a2 a3 a4).2 16 0, (sp_usual (jU V 16 0 0) a1 a2 a3 a4).1, fun W => W = (sp_usual (jU V 16 0 0) a1 a2 a3 a4).2, IS.1.r 16 0, fun W p => ?_, wr_usual hB.1.1 (cf_usual r1 r2 r3 r4 h0 I0 hB) (fun r k hq => wq_ok to lo hq) (fun E k hx => ?_), fun β B => (cm_usual B I.1 r1 r2 r3 r4).mono (fun r k z => ⟨_, rfl, z.1, z.2⟩) (fun _ _ z => z)⟩
  · rw [p]; exact ⟨IS, rfl⟩
  · obtain ⟨rfl, c, hc, hw⟩ := hx
    simp only [List.mem_cons, Prod.mk.injEq, List.not_mem_nil, or_false] at hc
    rcases hc with ⟨rfl, rfl⟩ | ⟨rfl, rfl⟩
    · exact Or.inl ⟨rfl, wq_ex R0 hw (by decide)⟩
    · exact Or.inr ⟨rfl, wq_ex R0 hw (by decide)⟩
theorem op_force {a1 a2 : Int} (r1 : r32 a1) (r2 : r32 a2) (hL : RepC γ V h x) (I : Inv V) (to : h.tag o = 38) (lo : h.len o = 1) : OpS γ V h x o mL_force mX12_force 8 8 48 2 [.int (jI a1), .int (jI a2)] := by
  have I0 := I.er (c := 0) (by omega)
  have h0 : jU V 16 0 0 16 0 = 0 := jU_same _ _ _ _
  have R0 : RepC γ (jU V 16 0 0) h x := hL.cg (sameR.t 0 (by decide))
  have hR0 := R0
  obtain ⟨ρ, σ, ks, ss, cs, ls, ms, hB⟩ := hR0
  have IS : Inv (sp_force (jU V 16 0 0) a1 a2).2 := by
    unfold sp_force
    (repeat' split) <;> first | exact I0 | exact I0.er (by omega)
  refine ⟨(sp_force (jU V 16 0 0) a1 a2).2 16 0, (sp_force (jU V 16 0 0) a1 a2).1, fun W => W = (sp_force (jU V 16 0 0) a1 a2).2, IS.1.r 16 0, fun W p => ?_, wr_force hB.1.1 (cf_force r1 r2 h0 I0 hB) (fun r k hq => wq_ok to lo hq) (fun E k hx => ?_), fun β B => (cm_force B I.1 r1 r2).mono (fun r k z => ⟨_, rfl, z.1, z.2⟩) (fun _ _ z => z)⟩
  · rw [p]; exact ⟨IS, rfl⟩
  · obtain ⟨rfl, c, hc, hw⟩ := hx
    simp only [List.mem_cons, Prod.mk.injEq, List.not_mem_nil, or_false] at hc
    obtain ⟨rfl, rfl⟩ := hc
    exact ⟨rfl, wq_ex R0 hw (by decide)⟩
theorem op_told {a1 a2 : Int} (r1 : r32 a1) (r2 : r32 a2) (hL : RepC γ V h x) (I : Inv V) (to : h.tag o = 38) (lo : h.len o = 1) : OpS γ V h x o mL_told mX12_told 8 8 48 2 [.int (jI a1), .int (jI a2)] := by
  have I0 := I.er (c := 0) (by omega)
  have h0 : jU V 16 0 0 16 0 = 0 := jU_same _ _ _ _
  have R0 : RepC γ (jU V 16 0 0) h x := hL.cg (sameR.t 0 (by decide))
  have hR0 := R0
  obtain ⟨ρ, σ, ks, ss, cs, ls, ms, hB⟩ := hR0
  have IS : Inv (sp_told (jU V 16 0 0) a1 a2).2 := by
    unfold sp_told
    (repeat' split) <;> first | exact I0 | exact I0.er (by omega)
  refine ⟨(sp_told (jU V 16 0 0) a1 a2).2 16 0, (sp_told (jU V 16 0 0) a1 a2).1, fun W => W = (sp_told (jU V 16 0 0) a1 a2).2, IS.1.r 16 0, fun W p => ?_, wr_told hB.1.1 (cf_told r1 r2 h0 I0 hB) (fun r k hq => wq_ok to lo hq) (fun E k hx => ?_), fun β B => (cm_told B I.1 r1 r2).mono (fun r k z => ⟨_, rfl, z.1, z.2⟩) (fun _ _ z => z)⟩
  · rw [p]; exact ⟨IS, rfl⟩
  · obtain ⟨rfl, c, hc, hw⟩ := hx
    simp only [List.mem_cons, Prod.mk.injEq, List.not_mem_nil, or_false] at hc
    rcases hc with ⟨rfl, rfl⟩ | ⟨rfl, rfl⟩
    · exact Or.inl ⟨rfl, wq_ex R0 hw (by decide)⟩
    · exact Or.inr ⟨rfl, wq_ex R0 hw (by decide)⟩
theorem op_tons {a1 : Int} (r1 : r32 a1) (hL : RepC γ V h x) (I : Inv V) (to : h.tag o = 38) (lo : h.len o = 1) : OpS γ V h x o mL_tons mX12_tons 9 8 48 2 [.int (jI a1)] := by
  have I0 := I.er (c := 0) (by omega)
  have h0 : jU V 16 0 0 16 0 = 0 := jU_same _ _ _ _
  have R0 : RepC γ (jU V 16 0 0) h x := hL.cg (sameR.t 0 (by decide))
  have hR0 := R0
  obtain ⟨ρ, σ, ks, ss, cs, ls, ms, hB⟩ := hR0
  have IS : Inv (sp_tons (jU V 16 0 0) a1).2 := by
    unfold sp_tons
    (repeat' split) <;> first | exact I0 | exact I0.er (by omega)
  refine ⟨(sp_tons (jU V 16 0 0) a1).2 16 0, (sp_tons (jU V 16 0 0) a1).1, fun W => W = (sp_tons (jU V 16 0 0) a1).2, IS.1.r 16 0, fun W p => ?_, wr_tons hB.1.1 (cf_tons r1 h0 hB) (fun r k hq => wq_ok to lo hq) (fun E k hx => ?_), fun β B => (cm_tons B I.1 r1).mono (fun r k z => ⟨_, rfl, z.1, z.2⟩) (fun _ _ z => z)⟩
  · rw [p]; exact ⟨IS, rfl⟩
  · obtain ⟨rfl, c, hc, hw⟩ := hx
    simp only [List.mem_cons, Prod.mk.injEq, List.not_mem_nil, or_false] at hc
    obtain ⟨rfl, rfl⟩ := hc
    exact ⟨rfl, wq_ex R0 hw (by decide)⟩
theorem op_layers {a1 : Int} (r1 : r32 a1) (hL : RepC γ V h x) (I : Inv V) (to : h.tag o = 38) (lo : h.len o = 1) : OpS γ V h x o mL_layers mX12_layers 9 8 48 2 [.int (jI a1)] := by
  have I0 := I.er (c := 0) (by omega)
  have h0 : jU V 16 0 0 16 0 = 0 := jU_same _ _ _ _
  have R0 : RepC γ (jU V 16 0 0) h x := hL.cg (sameR.t 0 (by decide))
  have hR0 := R0
  obtain ⟨ρ, σ, ks, ss, cs, ls, ms, hB⟩ := hR0
  have IS : Inv (sp_layers (jU V 16 0 0) a1).2 := by
    unfold sp_layers
    (repeat' split) <;> first | exact I0 | exact I0.er (by omega)
  refine ⟨(sp_layers (jU V 16 0 0) a1).2 16 0, (sp_layers (jU V 16 0 0) a1).1, fun W => W = (sp_layers (jU V 16 0 0) a1).2, IS.1.r 16 0, fun W p => ?_, wr_layers hB.1.1 (cf_layers r1 h0 hB) (fun r k hq => wq_ok to lo hq) (fun E k hx => ?_), fun β B => (cm_layers B I.1 r1).mono (fun r k z => ⟨_, rfl, z.1, z.2⟩) (fun _ _ z => z)⟩
  · rw [p]; exact ⟨IS, rfl⟩
  · obtain ⟨rfl, c, hc, hw⟩ := hx
    simp only [List.mem_cons, Prod.mk.injEq, List.not_mem_nil, or_false] at hc
    obtain ⟨rfl, rfl⟩ := hc
    exact ⟨rfl, wq_ex R0 hw (by decide)⟩
theorem op_layer {a1 a2 a3 : Int} (r1 : r32 a1) (r2 : r32 a2) (r3 : r32 a3) (hL : RepC γ V h x) (I : Inv V) (to : h.tag o = 38) (lo : h.len o = 1) : OpS γ V h x o mL_layer mX12_layer 9 8 48 2 [.int (jI a1), .int (jI a2), .int (jI a3)] := by
  have I0 := I.er (c := 0) (by omega)
  have h0 : jU V 16 0 0 16 0 = 0 := jU_same _ _ _ _
  have R0 : RepC γ (jU V 16 0 0) h x := hL.cg (sameR.t 0 (by decide))
  have hR0 := R0
  obtain ⟨ρ, σ, ks, ss, cs, ls, ms, hB⟩ := hR0
  have IS : Inv (sp_layer (jU V 16 0 0) a1 a2 a3).2 := by
    unfold sp_layer
    (repeat' split) <;> first | exact I0 | exact I0.er (by omega)
  refine ⟨(sp_layer (jU V 16 0 0) a1 a2 a3).2 16 0, (sp_layer (jU V 16 0 0) a1 a2 a3).1, fun W => W = (sp_layer (jU V 16 0 0) a1 a2 a3).2, IS.1.r 16 0, fun W p => ?_, wr_layer hB.1.1 (cf_layer r1 r2 r3 h0 I0 hB) (fun r k hq => wq_ok to lo hq) (fun E k hx => ?_), fun β B => (cm_layer B I.1 r1 r2 r3).mono (fun r k z => ⟨_, rfl, z.1, z.2⟩) (fun _ _ z => z)⟩
  · rw [p]; exact ⟨IS, rfl⟩
  · obtain ⟨rfl, c, hc, hw⟩ := hx
    simp only [List.mem_cons, Prod.mk.injEq, List.not_mem_nil, or_false] at hc
    rcases hc with ⟨rfl, rfl⟩ | ⟨rfl, rfl⟩
    · exact Or.inl ⟨rfl, wq_ex R0 hw (by decide)⟩
    · exact Or.inr ⟨rfl, wq_ex R0 hw (by decide)⟩
theorem op_portions {a1 : Int} (r1 : r32 a1) (hL : RepC γ V h x) (I : Inv V) (to : h.tag o = 38) (lo : h.len o = 1) : OpS γ V h x o mL_portions mX12_portions 8 8 48 2 [.int (jI a1)] := by
  have I0 := I.er (c := 0) (by omega)
  have h0 : jU V 16 0 0 16 0 = 0 := jU_same _ _ _ _
  have R0 : RepC γ (jU V 16 0 0) h x := hL.cg (sameR.t 0 (by decide))
  have hR0 := R0
  obtain ⟨ρ, σ, ks, ss, cs, ls, ms, hB⟩ := hR0
  have IS : Inv (sp_portions (jU V 16 0 0) a1).2 := by
    unfold sp_portions
    (repeat' split) <;> first | exact I0 | exact I0.er (by omega)
  refine ⟨(sp_portions (jU V 16 0 0) a1).2 16 0, (sp_portions (jU V 16 0 0) a1).1, fun W => W = (sp_portions (jU V 16 0 0) a1).2, IS.1.r 16 0, fun W p => ?_, wr_portions hB.1.1 (cf_portions r1 h0 hB) (fun r k hq => wq_ok to lo hq) (fun E k hx => ?_), fun β B => (cm_portions B I.1 r1).mono (fun r k z => ⟨_, rfl, z.1, z.2⟩) (fun _ _ z => z)⟩
  · rw [p]; exact ⟨IS, rfl⟩
  · obtain ⟨rfl, c, hc, hw⟩ := hx
    simp only [List.mem_cons, Prod.mk.injEq, List.not_mem_nil, or_false] at hc
    obtain ⟨rfl, rfl⟩ := hc
    exact ⟨rfl, wq_ex R0 hw (by decide)⟩
theorem op_portion {a1 a2 a3 : Int} (r1 : r32 a1) (r2 : r32 a2) (r3 : r32 a3) (hL : RepC γ V h x) (I : Inv V) (to : h.tag o = 38) (lo : h.len o = 1) : OpS γ V h x o mL_portion mX12_portion 8 8 48 2 [.int (jI a1), .int (jI a2), .int (jI a3)] := by
  have I0 := I.er (c := 0) (by omega)
  have h0 : jU V 16 0 0 16 0 = 0 := jU_same _ _ _ _
  have R0 : RepC γ (jU V 16 0 0) h x := hL.cg (sameR.t 0 (by decide))
  have hR0 := R0
  obtain ⟨ρ, σ, ks, ss, cs, ls, ms, hB⟩ := hR0
  have IS : Inv (sp_portion (jU V 16 0 0) a1 a2 a3).2 := by
    unfold sp_portion
    (repeat' split) <;> first | exact I0 | exact I0.er (by omega)
  refine ⟨(sp_portion (jU V 16 0 0) a1 a2 a3).2 16 0, (sp_portion (jU V 16 0 0) a1 a2 a3).1, fun W => W = (sp_portion (jU V 16 0 0) a1 a2 a3).2, IS.1.r 16 0, fun W p => ?_, wr_portion hB.1.1 (cf_portion r1 r2 r3 h0 I0 hB) (fun r k hq => wq_ok to lo hq) (fun E k hx => ?_), fun β B => (cm_portion B I.1 r1 r2 r3).mono (fun r k z => ⟨_, rfl, z.1, z.2⟩) (fun _ _ z => z)⟩
  · rw [p]; exact ⟨IS, rfl⟩
  · obtain ⟨rfl, c, hc, hw⟩ := hx
    simp only [List.mem_cons, Prod.mk.injEq, List.not_mem_nil, or_false] at hc
    rcases hc with ⟨rfl, rfl⟩ | ⟨rfl, rfl⟩
    · exact Or.inl ⟨rfl, wq_ex R0 hw (by decide)⟩
    · exact Or.inr ⟨rfl, wq_ex R0 hw (by decide)⟩
theorem op_day {a1 : Int} (r1 : r32 a1) (hL : RepC γ V h x) (I : Inv V) (to : h.tag o = 38) (lo : h.len o = 1) : OpS γ V h x o mL_day mX12_day 8 8 48 2 [.int (jI a1)] := by
  have I0 := I.er (c := 0) (by omega)
  have h0 : jU V 16 0 0 16 0 = 0 := jU_same _ _ _ _
  have R0 : RepC γ (jU V 16 0 0) h x := hL.cg (sameR.t 0 (by decide))
  have hR0 := R0
  obtain ⟨ρ, σ, ks, ss, cs, ls, ms, hB⟩ := hR0
  have IS : Inv (sp_day (jU V 16 0 0) a1).2 := inv_day I0
  refine ⟨(sp_day (jU V 16 0 0) a1).2 16 0, (sp_day (jU V 16 0 0) a1).1, fun W => W = (sp_day (jU V 16 0 0) a1).2, IS.1.r 16 0, fun W p => ?_, wr_day hB.1.1 (cf_day r1 h0 I0 hB) (fun r k hq => wq_ok to lo hq) (fun E k hx => ?_), fun β B => (cm_day B I.1 r1).mono (fun r k z => ⟨_, rfl, z.1, z.2⟩) (fun _ _ z => z)⟩
  · rw [p]; exact ⟨IS, rfl⟩
  · obtain ⟨rfl, c, hc, hw⟩ := hx
    simp only [List.mem_cons, Prod.mk.injEq, List.not_mem_nil, or_false] at hc
    obtain ⟨rfl, rfl⟩ := hc
    exact ⟨rfl, wq_ex R0 hw (by decide)⟩
theorem op_asked {a1 a2 a3 : Int} (r1 : r32 a1) (r2 : r32 a2) (r3 : r32 a3) (hL : RepC γ V h x) (I : Inv V) (to : h.tag o = 38) (lo : h.len o = 1) : OpS γ V h x o mL_asked mX12_asked 8 8 48 2 [.int (jI a1), .int (jI a2), .int (jI a3)] := by
  have I0 := I.er (c := 0) (by omega)
  have h0 : jU V 16 0 0 16 0 = 0 := jU_same _ _ _ _
  have R0 : RepC γ (jU V 16 0 0) h x := hL.cg (sameR.t 0 (by decide))
  have hR0 := R0
  obtain ⟨ρ, σ, ks, ss, cs, ls, ms, hB⟩ := hR0
  have IS : Inv (sp_asked (jU V 16 0 0) a1 a2 a3).2 := inv_asked I0
  refine ⟨(sp_asked (jU V 16 0 0) a1 a2 a3).2 16 0, (sp_asked (jU V 16 0 0) a1 a2 a3).1, fun W => W = (sp_asked (jU V 16 0 0) a1 a2 a3).2, IS.1.r 16 0, fun W p => ?_, wr_asked hB.1.1 (cf_asked r1 r2 r3 h0 hB) (fun r k hq => wq_ok to lo hq) (fun E k hx => ?_), fun β B => (cm_asked B I.1 r1 r2 r3).mono (fun r k z => ⟨_, rfl, z.1, z.2⟩) (fun _ _ z => z)⟩
  · rw [p]; exact ⟨IS, rfl⟩
  · obtain ⟨rfl, c, hc, hw⟩ := hx
    simp only [List.mem_cons, Prod.mk.injEq, List.not_mem_nil, or_false] at hc
    obtain ⟨rfl, rfl⟩ := hc
    exact ⟨rfl, wq_ex R0 hw (by decide)⟩
theorem op_load {a1 a2 a3 a4 : Int} (r1 : r32 a1) (r2 : r32 a2) (r3 : r32 a3) (r4 : r32 a4) (hL : RepC γ V h x) (I : Inv V) (to : h.tag o = 38) (lo : h.len o = 1) : OpS γ V h x o mL_load mX12_load 9 40 600 2 [.int (jI a1), .int (jI a2), .int (jI a3), .int (jI a4)] := by
  have I0 := I.er (c := 0) (by omega)
  have h0 : jU V 16 0 0 16 0 = 0 := jU_same _ _ _ _
  have R0 : RepC γ (jU V 16 0 0) h x := hL.cg (sameR.t 0 (by decide))
  have hR0 := R0
  obtain ⟨ρ, σ, ks, ss, cs, ls, ms, hB⟩ := hR0
  have IS : Inv (sp_load (jU V 16 0 0) a1 a2 a3 a4).2 := inv_load I0
  refine ⟨(sp_load (jU V 16 0 0) a1 a2 a3 a4).2 16 0, (sp_load (jU V 16 0 0) a1 a2 a3 a4).1, fun W => W = (sp_load (jU V 16 0 0) a1 a2 a3 a4).2, IS.1.r 16 0, fun W p => ?_, wr_load hB.1.1 (cf_load r1 r2 r3 r4 I0 h0 hB) (fun r k hq => wq_ok to lo hq) (fun E k hx => ?_), fun β B => (cm_load B I.1 r1 r2 r3 r4).mono (fun r k z => ⟨_, rfl, z.1, z.2⟩) (fun _ _ z => z)⟩
  · rw [p]; exact ⟨IS, rfl⟩
  · obtain ⟨rfl, c, hc, hw⟩ := hx
    simp only [List.mem_cons, Prod.mk.injEq, List.not_mem_nil, or_false] at hc
    rcases hc with ⟨rfl, rfl⟩ | ⟨rfl, rfl⟩
    · exact Or.inl ⟨rfl, wq_ex R0 hw (by decide)⟩
    · exact Or.inr ⟨rfl, wq_ex R0 hw (by decide)⟩
theorem op_sample {a1 a2 a3 a4 : Int} (r1 : r32 a1) (r2 : r32 a2) (r3 : r32 a3) (r4 : r32 a4) (hL : RepC γ V h x) (I : Inv V) (to : h.tag o = 38) (lo : h.len o = 1) : OpS γ V h x o mL_sample mX12_sample 9 8 48 2 [.int (jI a1), .int (jI a2), .int (jI a3), .int (jI a4)] := by
  have I0 := I.er (c := 0) (by omega)
  have h0 : jU V 16 0 0 16 0 = 0 := jU_same _ _ _ _
  have R0 : RepC γ (jU V 16 0 0) h x := hL.cg (sameR.t 0 (by decide))
  have hR0 := R0
  obtain ⟨ρ, σ, ks, ss, cs, ls, ms, hB⟩ := hR0
  have IS : Inv (sp_sample (jU V 16 0 0) a1 a2 a3 a4).2 := inv_sample I0 hB.h7
  refine ⟨(sp_sample (jU V 16 0 0) a1 a2 a3 a4).2 16 0, (sp_sample (jU V 16 0 0) a1 a2 a3 a4).1, fun W => W = (sp_sample (jU V 16 0 0) a1 a2 a3 a4).2, IS.1.r 16 0, fun W p => ?_, wr_sample hB.1.1 (cf_sample r1 r2 r3 r4 I0 h0 hB) (fun r k hq => wq_ok to lo hq) (fun E k hx => ?_), fun β B => (cm_sample B I.1 r1 r2 r3 r4).mono (fun r k z => ⟨_, rfl, z.1, z.2⟩) (fun _ _ z => z)⟩
  · rw [p]; exact ⟨IS, rfl⟩
  · obtain ⟨rfl, c, hc, hw⟩ := hx
    simp only [List.mem_cons, Prod.mk.injEq, List.not_mem_nil, or_false] at hc
    rcases hc with ⟨rfl, rfl⟩ | ⟨rfl, rfl⟩
    · exact Or.inl ⟨rfl, wq_ex R0 hw (by decide)⟩
    · exact Or.inr ⟨rfl, wq_ex R0 hw (by decide)⟩
theorem op_move {a1 a2 a3 : Int} (r1 : r32 a1) (r2 : r32 a2) (r3 : r32 a3) (hL : RepC γ V h x) (I : Inv V) (to : h.tag o = 38) (lo : h.len o = 1) : OpS γ V h x o mL_move mX12_move 10 60 6300 2 [.int (jI a1), .int (jI a2), .int (jI a3)] := by
  have I0 := I.er (c := 0) (by omega)
  have h0 : jU V 16 0 0 16 0 = 0 := jU_same _ _ _ _
  have R0 : RepC γ (jU V 16 0 0) h x := hL.cg (sameR.t 0 (by decide))
  have hR0 := R0
  obtain ⟨ρ, σ, ks, ss, cs, ls, ms, hB⟩ := hR0
  have IS : Inv (sp_move (jU V 16 0 0) a1 a2 a3).2 := inv_move I0
  refine ⟨(sp_move (jU V 16 0 0) a1 a2 a3).2 16 0, (sp_move (jU V 16 0 0) a1 a2 a3).1, fun W => W = (sp_move (jU V 16 0 0) a1 a2 a3).2, IS.1.r 16 0, fun W p => ?_, wr_move hB.1.1 (cf_move r1 r2 r3 I0 h0 hB) (fun r k hq => wq_ok to lo hq) (fun E k hx => ?_), fun β B => (cm_move B I.1 I.2.2.2.1 r1 r2 r3).mono (fun r k z => ⟨_, rfl, z.1, z.2⟩) (fun _ _ z => z)⟩
  · rw [p]; exact ⟨IS, rfl⟩
  · obtain ⟨rfl, c, hc, hw⟩ := hx
    simp only [List.mem_cons, Prod.mk.injEq, List.not_mem_nil, or_false] at hc
    obtain ⟨rfl, rfl⟩ := hc
    exact ⟨rfl, wq_ex R0 hw (by decide)⟩
theorem op_mix {a1 : Int} (r1 : r32 a1) (hL : RepC γ V h x) (I : Inv V) (to : h.tag o = 38) (lo : h.len o = 1) : OpS γ V h x o mL_mix mX12_mix 10 20 1100 2 [.int (jI a1)] := by
  have I0 := I.er (c := 0) (by omega)
  have h0 : jU V 16 0 0 16 0 = 0 := jU_same _ _ _ _
  have R0 : RepC γ (jU V 16 0 0) h x := hL.cg (sameR.t 0 (by decide))
  have hR0 := R0
  obtain ⟨ρ, σ, ks, ss, cs, ls, ms, hB⟩ := hR0
  have IS : Inv (sp_mix (jU V 16 0 0) a1).2 := inv_mix I0
  refine ⟨(sp_mix (jU V 16 0 0) a1).2 16 0, (sp_mix (jU V 16 0 0) a1).1, fun W => W = (sp_mix (jU V 16 0 0) a1).2, IS.1.r 16 0, fun W p => ?_, wr_mix hB.1.1 (cf_mix r1 I0 h0 hB) (fun r k hq => wq_ok to lo hq) (fun E k hx => ?_), fun β B => (cm_mix B I.1 I.2.1 r1).mono (fun r k z => ⟨_, rfl, z.1, z.2⟩) (fun _ _ z => z)⟩
  · rw [p]; exact ⟨IS, rfl⟩
  · obtain ⟨rfl, c, hc, hw⟩ := hx
    simp only [List.mem_cons, Prod.mk.injEq, List.not_mem_nil, or_false] at hc
    obtain ⟨rfl, rfl⟩ := hc
    exact ⟨rfl, wq_ex R0 hw (by decide)⟩
end OPS

