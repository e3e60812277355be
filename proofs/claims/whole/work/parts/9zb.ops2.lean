theorem scr_same {W V : VV} (hs : scr W V) : sameR V W := ⟨fun t h1 h2 => funext fun i => hs t i (by unfold nac at h2; omega), fun i _ => hs 16 i (by decide)⟩
theorem scp_same {W V : VV} (hs : scp W V) : sameR V W := ⟨fun t h1 h2 => funext fun i => hs t i (fun z => h2 (by unfold nac; omega)) (fun z => h2 (by unfold nac; omega)), fun i _ => hs 16 i (by decide) (by decide)⟩
theorem mlG_r {g : Int} {r : Nat} (h1 : r ≠ 138) (h2 : r ≠ 139) (h3 : r < 153 ∨ 157 < r) : ∀ (k : Nat) (U : VV) (left : Int), mlG k U g left r = U r := fun k => by
  induction k with
  | zero => intro U left; rfl
  | succ k ih =>
    intro U left
    rw [mlG]
    split
    · rw [ih]
      exact funext fun i => mlV_o h1 h2 h3
    · rfl
theorem mlH_r {U : VV} {bt : Int → Int} {r : Nat} (h1 : r ≠ 138) (h2 : r ≠ 139) (h3 : r < 153 ∨ 157 < r) : ∀ g : Nat, mlH U bt g r = U r := fun g => by
  induction g with
  | zero => rfl
  | succ g ih => rw [mlH, mlG_r h1 h2 h3, ih]
section OPT
variable {γ : jG} {V : VV} {h : jM} {x o : Nat}
theorem wq_er {c u : Int} (hR : RepC γ V h x) (hc : c ≠ 0) : WQ γ x o h c u (fun W => W = jU V 16 0 c) (some (.int (jI c))) h := ⟨rfl, Fr.rf, fun z => absurd z hc, fun V' p => by rw [p]; exact hR.cg (sameR.t 0 (by decide))⟩
theorem op_money {a1 : Int} (r1 : r32 a1) (hL : RepC γ V h x) (I : Inv V) (to : h.tag o = 38) (lo : h.len o = 1) : ∃ (c v : Int) (P : VV → Prop), r32 c ∧ (∀ W, P W → Inv W ∧ W 16 0 = c) ∧ CT γ mL_money 8 8 48 [.ref x, .int (jI a1), .ref o] h (WQ γ x o h c v P) X0 ∧ ∀ β, isB β → CT γ mX12_money 2 0 0 [.ref (β.2 16), .int (jI a1)] (jP β V) (fun r h' => ∃ W, P W ∧ r = some (.long (jL v)) ∧ h' = jP β W) X0 := by
  have I0 := I.er (c := 0) (by omega)
  have h0 : jU V 16 0 0 16 0 = 0 := jU_same _ _ _ _
  have R0 : RepC γ (jU V 16 0 0) h x := hL.cg (sameR.t 0 (by decide))
  have hR0 := R0
  obtain ⟨ρ, σ, ks, ss, cs, ls, ms, hB⟩ := hR0
  have IS : Inv (sp_money (jU V 16 0 0) a1).2 := by
    unfold sp_money
    (repeat' split) <;> first | exact I0 | exact I0.er (by omega)
  refine ⟨(sp_money (jU V 16 0 0) a1).2 16 0, (sp_money (jU V 16 0 0) a1).1, fun W => W = (sp_money (jU V 16 0 0) a1).2, IS.1.r 16 0, fun W p => ?_, wr_money hB.1.1 (cf_money r1 h0 hB) (fun r k hq => ?_) (fun E k hx => ?_), fun β B => (cm_money B I.1 r1).mono (fun r k z => ⟨_, rfl, z.1, z.2⟩) (fun _ _ z => z)⟩
  · rw [p]; exact ⟨IS, rfl⟩
  · obtain ⟨q1, q2, q3, q4⟩ := hq
    refine ⟨_, q1, q4.tag to (by decide), by rw [q4.len (by omega)]; exact lo, ?_⟩
    rw [q2]
    exact wq_st q4.toT to (fun V p => by rw [p]; exact q3)
  · obtain ⟨rfl, c, hc, hw⟩ := hx
    simp only [List.mem_cons, Prod.mk.injEq, List.not_mem_nil, or_false] at hc
    obtain ⟨rfl, rfl⟩ := hc
    exact ⟨rfl, wq_ex R0 hw (by decide)⟩
theorem op_best {a1 : Int} (r1 : r32 a1) (hL : RepC γ V h x) (I : Inv V) (to : h.tag o = 38) (lo : h.len o = 1) : OpS γ V h x o mL_best mX12_best 11 8 48 4 [.int (jI a1)] := by
  have I0 := I.er (c := 0) (by omega)
  have h0 : jU V 16 0 0 16 0 = 0 := jU_same _ _ _ _
  have R0 : RepC γ (jU V 16 0 0) h x := hL.cg (sameR.t 0 (by decide))
  have hR0 := R0
  obtain ⟨ρ, σ, ks, ss, cs, ls, ms, hB⟩ := hR0
  by_cases g : 1 ≤ a1 ∧ a1 ≤ 20
  · refine ⟨0, (bestP (jU V 16 0 0) a1).1, fun W => isR W ∧ scr W (jU V 16 0 0), by decide, fun W p => ⟨I0.scr p.1 p.2, by rw [p.2 16 0 (by decide)]; exact h0⟩, wr_best hB.1.1 (cf_best r1 I0 hB) (fun r k hq => ?_) (fun E k hx => absurd g hx.1), fun β B => (cm_best B I.1 I.2.1 r1).mono (fun r k z => ?_) (fun _ _ z => z)⟩
    · obtain ⟨-, q1, q2, q3⟩ := hq
      exact ⟨_, q1, q3.tag to (by decide), by rw [q3.len (by omega)]; exact lo, wq_st q3.toT to (fun W p => q2.cg (scr_same p.2))⟩
    · unfold bestQ at z
      rw [if_pos g] at z
      obtain ⟨z1, W, w1, w2, w3⟩ := z
      exact ⟨W, ⟨w1, w2⟩, z1, w3⟩
  · refine ⟨1, 0, fun W => W = jU (jU V 16 0 0) 16 0 1, by decide, fun W p => by rw [p]; exact ⟨I0.er (by omega), jU_same _ _ _ _⟩, wr_best hB.1.1 (cf_best r1 I0 hB) (fun r k hq => absurd hq.1 g) (fun E k hx => ⟨hx.2.1, ?_⟩), fun β B => (cm_best B I.1 I.2.1 r1).mono (fun r k z => ?_) (fun _ _ z => z)⟩
    · rw [hx.2.2]; exact wq_er R0 (by decide)
    · unfold bestQ at z
      rw [if_neg g] at z
      exact ⟨_, rfl, z.1, z.2⟩
theorem op_charge {a1 a2 : Int} (r1 : r32 a1) (r2 : r32 a2) (hL : RepC γ V h x) (I : Inv V) (to : h.tag o = 38) (lo : h.len o = 1) : OpS γ V h x o mL_charge mX12_charge 11 8 48 4 [.int (jI a1), .int (jI a2)] := by
  have I0 := I.er (c := 0) (by omega)
  have h0 : jU V 16 0 0 16 0 = 0 := jU_same _ _ _ _
  have R0 : RepC γ (jU V 16 0 0) h x := hL.cg (sameR.t 0 (by decide))
  have hR0 := R0
  obtain ⟨ρ, σ, ks, ss, cs, ls, ms, hB⟩ := hR0
  by_cases g : 1 ≤ a1 ∧ a1 ≤ 20 ∧ 0 ≤ a2 ∧ a2 < 6
  · refine ⟨0, if (bestP (jU V 16 0 0) a1).1 = -1 then -1 else (bestP (jU V 16 0 0) a1).2 a2, fun W => isR W ∧ scr W (jU V 16 0 0), by decide, fun W p => ⟨I0.scr p.1 p.2, by rw [p.2 16 0 (by decide)]; exact h0⟩, wr_charge hB.1.1 (cf_charge r1 r2 I0 hB) (fun r k hq => ?_) (fun E k hx => absurd g hx.1), fun β B => (cm_charge B I.1 I.2.1 r1 r2).mono (fun r k z => ?_) (fun _ _ z => z)⟩
    · obtain ⟨-, q1, q2, q3⟩ := hq
      exact ⟨_, q1, q3.tag to (by decide), by rw [q3.len (by omega)]; exact lo, wq_st q3.toT to (fun W p => q2.cg (scr_same p.2))⟩
    · unfold chargeQ at z
      rw [if_pos g] at z
      obtain ⟨z1, W, w1, w2, w3⟩ := z
      exact ⟨W, ⟨w1, w2⟩, z1, w3⟩
  · refine ⟨1, 0, fun W => W = jU (jU V 16 0 0) 16 0 1, by decide, fun W p => by rw [p]; exact ⟨I0.er (by omega), jU_same _ _ _ _⟩, wr_charge hB.1.1 (cf_charge r1 r2 I0 hB) (fun r k hq => absurd hq.1 g) (fun E k hx => ⟨hx.2.1, ?_⟩), fun β B => (cm_charge B I.1 I.2.1 r1 r2).mono (fun r k z => ?_) (fun _ _ z => z)⟩
    · rw [hx.2.2]; exact wq_er R0 (by decide)
    · unfold chargeQ at z
      rw [if_neg g] at z
      exact ⟨_, rfl, z.1, z.2⟩
theorem op_melt {a1 : Int} (r1 : r32 a1) (hL : RepC γ V h x) (I : Inv V) (to : h.tag o = 38) (lo : h.len o = 1) : OpS γ V h x o mL_melt mX12_melt 11 120 8000 4 [.int (jI a1)] := by
  have I0 := I.er (c := 0) (by omega)
  have h0 : jU V 16 0 0 16 0 = 0 := jU_same _ _ _ _
  have R0 : RepC γ (jU V 16 0 0) h x := hL.cg (sameR.t 0 (by decide))
  have hR0 := R0
  obtain ⟨ρ, σ, ks, ss, cs, ls, ms, hB⟩ := hR0
  have hC := cf_melt r1 I0 hB
  have hM : ∀ β, isB β → CT γ mX12_melt 4 0 0 [.ref (β.2 16), .int (jI a1)] (jP β V) (meltQ β (jU V 16 0 0) a1) X0 := fun β B => cm_melt B I.1 I.2.1 r1
  generalize jU V 16 0 0 = U at *
  by_cases g : 1 ≤ a1 ∧ a1 ≤ 20
  · by_cases b1 : (bestP U a1).1 = -1
    · refine ⟨0, -1, fun W => isR W ∧ scr W U, by decide, fun W p => ⟨I0.scr p.1 p.2, by rw [p.2 16 0 (by decide)]; exact h0⟩, wr_melt hB.1.1 hC (fun r k hq => ?_) (fun E k hx => absurd g hx.1), fun β B => (hM β B).mono (fun r k z => ?_) (fun _ _ z => z)⟩
      · obtain ⟨-, q3, q⟩ := hq
        have q2 : r = some (.int (jI (-1))) ∧ RepC γ U k x := by
          rcases q with q | q | q
          · exact q.2
          · exact absurd b1 q.1
          · exact absurd b1 q.1
        exact ⟨_, q2.1, q3.tag to (by decide), by rw [q3.len (by omega)]; exact lo, wq_st q3 to (fun W p => q2.2.cg (scr_same p.2))⟩
      · unfold meltQ at z
        rw [if_pos g] at z
        obtain ⟨W, w1, w2, w3⟩ := z
        rw [if_pos b1] at w3
        exact ⟨W, ⟨w1, w2⟩, w3.1, w3.2⟩
    · by_cases b2 : U 16 52 = 30
      · refine ⟨0, -2, fun W => isR W ∧ scr W U, by decide, fun W p => ⟨I0.scr p.1 p.2, by rw [p.2 16 0 (by decide)]; exact h0⟩, wr_melt hB.1.1 hC (fun r k hq => ?_) (fun E k hx => absurd g hx.1), fun β B => (hM β B).mono (fun r k z => ?_) (fun _ _ z => z)⟩
        · obtain ⟨-, q3, q⟩ := hq
          have q2 : r = some (.int (jI (-2))) ∧ RepC γ U k x := by
            rcases q with q | q | q
            · exact absurd q.1 b1
            · exact q.2.2
            · exact absurd b2 q.2.1
          exact ⟨_, q2.1, q3.tag to (by decide), by rw [q3.len (by omega)]; exact lo, wq_st q3 to (fun W p => q2.2.cg (scr_same p.2))⟩
        · unfold meltQ at z
          rw [if_pos g] at z
          obtain ⟨W, w1, w2, w3⟩ := z
          rw [if_neg b1, if_pos b2] at w3
          exact ⟨W, ⟨w1, w2⟩, w3.1, w3.2⟩
      · refine ⟨0, U 16 52, fun Y => ∃ W, isR W ∧ scr W U ∧ Y = jU (mlH (jU W 153 (U 16 52) 0) (bestP U a1).2 6) 16 52 (U 16 52 + 1), by decide, fun Y p => ?_, wr_melt hB.1.1 hC (fun r k hq => ?_) (fun E k hx => absurd g hx.1), fun β B => (hM β B).mono (fun r k z => ?_) (fun _ _ z => z)⟩
        · obtain ⟨W, w1, w2, rfl⟩ := p
          refine ⟨inv_melt I0 w1 w2 g b1 b2, ?_⟩
          rw [jU_s _ (by decide), mlH_r (by decide) (by decide) (by decide), jU_o _ (by decide), w2 16 0 (by decide)]
          exact h0
        · obtain ⟨-, q3, q⟩ := hq
          have q2 : r = some (.int (jI (U 16 52))) ∧ RepC γ (jU (mlH (jU U 153 (U 16 52) 0) (bestP U a1).2 6) 16 52 (U 16 52 + 1)) k x := by
            rcases q with q | q | q
            · exact absurd q.1 b1
            · exact absurd q.2.1 b2
            · exact q.2.2
          refine ⟨_, q2.1, q3.tag to (by decide), by rw [q3.len (by omega)]; exact lo, wq_st q3 to (fun Y p => ?_)⟩
          obtain ⟨W, w1, w2, rfl⟩ := p
          have e : ∀ t, t < 148 ∨ 151 < t → jU W 153 (U 16 52) 0 t = jU U 153 (U 16 52) 0 t := fun t ht => funext fun i => by
            unfold jU
            rw [w2 t i ht]
          have e2 := mlH_scr (bt := (bestP U a1).2) e 6
          refine q2.2.cg ⟨fun t t1 t2 => ?_, fun i _ => ?_⟩
          · rw [jU_f _ t1, jU_f _ t1]
            exact e2 t (by unfold nac at t2; omega)
          · by_cases z : i = 52
            · rw [z, jU_same, jU_same]
            · rw [jU_s _ z, jU_s _ z, e2 16 (by decide)]
        · unfold meltQ at z
          rw [if_pos g] at z
          obtain ⟨W, w1, w2, w3⟩ := z
          rw [if_neg b1, if_neg b2] at w3
          exact ⟨_, ⟨W, w1, w2, rfl⟩, w3.1, w3.2⟩
  · refine ⟨1, 0, fun W => W = jU U 16 0 1, by decide, fun W p => by rw [p]; exact ⟨I0.er (by omega), jU_same _ _ _ _⟩, wr_melt hB.1.1 hC (fun r k hq => absurd hq.1 g) (fun E k hx => ⟨hx.2.1, ?_⟩), fun β B => (hM β B).mono (fun r k z => ?_) (fun _ _ z => z)⟩
    · rw [hx.2.2]; exact wq_er R0 (by decide)
    · unfold meltQ at z
      rw [if_neg g] at z
      exact ⟨_, rfl, z.1, z.2⟩
theorem op_prove {a1 a2 a3 a4 : Int} (r1 : r32 a1) (r2 : r32 a2) (r3 : r32 a3) (r4 : r32 a4) (hL : RepC γ V h x) (I : Inv V) (to : h.tag o = 38) (lo : h.len o = 1) : OpS γ V h x o mL_prove mX12_prove 9 8 48 3 [.int (jI a1), .int (jI a2), .int (jI a3), .int (jI a4)] := by
  have I0 := I.er (c := 0) (by omega)
  have h0 : jU V 16 0 0 16 0 = 0 := jU_same _ _ _ _
  have R0 : RepC γ (jU V 16 0 0) h x := hL.cg (sameR.t 0 (by decide))
  have hR0 := R0
  obtain ⟨ρ, σ, ks, ss, cs, ls, ms, hB⟩ := hR0
  have hC := cf_prove r1 r2 r3 r4 I0 h0 hB
  have hM : ∀ β, isB β → CT γ mX12_prove 3 0 0 [.ref (β.2 16), .int (jI a1), .int (jI a2), .int (jI a3), .int (jI a4)] (jP β V) (proveQ β (jU V 16 0 0) a1 a2 a3 a4) X0 := fun β B => cm_prove B I.1 I.2.2.1 r1 r2 r3 r4
  have h7 := hB.h7
  generalize jU V 16 0 0 = U at *
  by_cases g : 0 ≤ a1 ∧ a1 < U 16 52
  · by_cases g2 : (0 ≤ a2 ∧ a2 < 5) ∧ 0 ≤ a3 ∧ a3 ≤ a4 ∧ a4 ≤ 10000
    · by_cases ok : pvOk U a1 a2 a3 a4
      · refine ⟨0, 1, fun Y => ∃ W, isR W ∧ scp W U ∧ Y = pvF W a1 a2 (nLo U a1 a2 a3) (nHi U a1 a2 a4) (U 153 a1).toNat, by decide, fun Y p => ?_, wr_prove hB.1.1 hC (fun r k hq => ?_) (fun E k hx => ?_), fun β B => (hM β B).mono (fun r k z => ?_) (fun _ _ z => z)⟩
        · obtain ⟨W, w1, w2, rfl⟩ := p
          have IW := I0.scp w1 w2
          have e3 : W 153 a1 = U 153 a1 := w2 153 a1 (by decide) (by decide)
          have f := inv_prove (nl := nLo U a1 a2 a3) (nh := nHi U a1 a2 a4) IW g2.1 (by rw [w2 16 52 (by decide) (by decide)]; exact g) (fun l l0 l1 => by
            rw [w2 16 26 (by decide) (by decide)] at l1
            rw [w2 127 l (by decide) (by decide), w2 16 2 (by decide) (by decide)]
            exact h7 l l0 l1) (by rw [e3]; exact pv_bd I0.1 ok)
          rw [e3] at f
          refine ⟨f, ?_⟩
          rw [pvF_o (by decide), w2 16 0 (by decide) (by decide)]
          exact h0
        · obtain ⟨-, -, q3, q⟩ := hq
          have q2 := q.resolve_right (fun w => w.1 ok)
          refine ⟨_, q2.2.1, q3.tag to (by decide), by rw [q3.len (by omega)]; exact lo, wq_st q3.toT to (fun Y p => ?_)⟩
          obtain ⟨W, w1, w2, rfl⟩ := p
          refine q2.2.2.cg ⟨fun t t1 t2 => ?_, fun i _ => ?_⟩
          · exact pvF_scp w2 _ t (fun z => t2 (by unfold nac; omega)) (fun z => t2 (by unfold nac; omega))
          · rw [pvF_scp w2 _ 16 (by decide) (by decide)]
        · obtain ⟨-, q⟩ := hx
          rcases q with q | q
          · exact absurd g q.1
          · exact absurd g2 q.2.1
        · unfold proveQ at z
          rw [if_pos g, if_pos g2] at z
          obtain ⟨W, w1, w2, w3⟩ := z
          have w4 := w3.resolve_right (fun w => w.1 ok)
          exact ⟨_, ⟨W, w1, w2, rfl⟩, w4.2.1, w4.2.2⟩
      · refine ⟨0, 0, fun W => isR W ∧ scp W U, by decide, fun W p => ⟨I0.scp p.1 p.2, by rw [p.2 16 0 (by decide) (by decide)]; exact h0⟩, wr_prove hB.1.1 hC (fun r k hq => ?_) (fun E k hx => ?_), fun β B => (hM β B).mono (fun r k z => ?_) (fun _ _ z => z)⟩
        · obtain ⟨-, -, q3, q⟩ := hq
          have q2 := q.resolve_left (fun w => ok w.1)
          exact ⟨_, q2.2.1, q3.tag to (by decide), by rw [q3.len (by omega)]; exact lo, wq_st q3.toT to (fun W p => q2.2.2.cg (scp_same p.2))⟩
        · obtain ⟨-, q⟩ := hx
          rcases q with q | q
          · exact absurd g q.1
          · exact absurd g2 q.2.1
        · unfold proveQ at z
          rw [if_pos g, if_pos g2] at z
          obtain ⟨W, w1, w2, w3⟩ := z
          have w4 := w3.resolve_left (fun w => ok w.1)
          exact ⟨W, ⟨w1, w2⟩, w4.2.1, w4.2.2⟩
    · refine ⟨2, 0, fun W => W = jU U 16 0 2, by decide, fun W p => by rw [p]; exact ⟨I0.er (by omega), jU_same _ _ _ _⟩, wr_prove hB.1.1 hC (fun r k hq => absurd hq.2.1 g2) (fun E k hx => ?_), fun β B => (hM β B).mono (fun r k z => ?_) (fun _ _ z => z)⟩
      · obtain ⟨rfl, q⟩ := hx
        rcases q with q | q
        · exact absurd g q.1
        · exact Or.inr ⟨q.2.2, wq_er R0 (by decide)⟩
      · unfold proveQ at z
        rw [if_pos g, if_neg g2] at z
        exact ⟨_, rfl, z.1, z.2⟩
  · refine ⟨1, 0, fun W => W = jU U 16 0 1, by decide, fun W p => by rw [p]; exact ⟨I0.er (by omega), jU_same _ _ _ _⟩, wr_prove hB.1.1 hC (fun r k hq => absurd hq.1 g) (fun E k hx => ?_), fun β B => (hM β B).mono (fun r k z => ?_) (fun _ _ z => z)⟩
    · obtain ⟨rfl, q⟩ := hx
      rcases q with q | q
      · exact Or.inl ⟨q.2, wq_er R0 (by decide)⟩
      · exact absurd q.1 g
    · unfold proveQ at z
      rw [if_neg g] at z
      exact ⟨_, rfl, z.1, z.2⟩
theorem op_contract {a1 a2 a3 : Int} (r1 : r32 a1) (r2 : r32 a2) (r3 : r32 a3) (hL : RepC γ V h x) (I : Inv V) (to : h.tag o = 38) (lo : h.len o = 1) : OpS γ V h x o mL_contract mX12_contract 12 1100 10000 4 [.int (jI a1), .int (jI a2), .int (jI a3)] := by
  have I0 := I.er (c := 0) (by omega)
  have h0 : jU V 16 0 0 16 0 = 0 := jU_same _ _ _ _
  have R0 : RepC γ (jU V 16 0 0) h x := hL.cg (sameR.t 0 (by decide))
  have hR0 := R0
  obtain ⟨ρ, σ, ks, ss, cs, ls, ms, hB⟩ := hR0
  have hC := cf_contract r1 r2 r3 I0 hB
  have hM : ∀ β, isB β → CT γ mX12_contract 4 0 0 [.ref (β.2 16), .int (jI a1), .int (jI a2), .int (jI a3)] (jP β V) (contractQ β (jU V 16 0 0) a1 a2 a3) X0 := fun β B => cm_contract B I.1 r1 r2 r3
  generalize jU V 16 0 0 = U at *
  have f := I0.1.f
  have e11 : jU U 16 10 0 16 11 = U 16 11 := jU_s _ (by decide)
  have s0 : ∀ W, scc (U 16 11) W (jU U 16 10 0) → W 16 0 = 0 := fun W hs => by
    rw [hs 16 0 (by unfold cSc; omega), jU_s _ (by decide)]
    exact h0
  by_cases g : 0 ≤ a2 ∧ a2 < U 16 2
  · by_cases g2 : 0 ≤ a1 ∧ a1 ≤ U 16 10 ∧ 0 ≤ a3 ∧ a3 ≤ 10000
    · by_cases g3 : U 16 11 < 20
      · have noX : ∀ E k, ccX h U a1 a2 a3 E k → False := fun E k hx => by
          obtain ⟨-, q⟩ := hx
          rcases q with q | q | q
          · exact q.1 g
          · exact q.2.1 g2
          · exact q.2.2.1 g3
        cases hp : pAll (U 116) a1 with
        | inl er =>
          refine ⟨0, -2 - er, fun W => isR W ∧ scc (U 16 11) W (jU U 16 10 0), by decide, fun W p => ⟨I0.scc p.1 p.2, s0 W p.2⟩, wr_contract hB.1.1 hC (fun r k hq => ?_) (fun E k hx => (noX E k hx).elim), fun β B => (hM β B).mono (fun r k z => ?_) (fun _ _ z => z)⟩
          · obtain ⟨-, q3, q⟩ := hq
            rw [hp] at q
            refine ⟨_, q.1, q3.tag to (by decide), by rw [q3.len (by omega)]; exact lo, wq_st q3.toT to (fun W p => ?_)⟩
            exact RepC.scc (I0.1.up (fun _ => by decide)) q.2 (by rw [e11]; exact p.2)
          · unfold contractQ at z
            rw [if_pos g, if_pos g2, if_pos g3, hp] at z
            obtain ⟨z1, W, w1, w2, w3⟩ := z
            exact ⟨W, ⟨w1, w2⟩, z1, w3⟩
        | inr y =>
          obtain ⟨G, ep⟩ := y
          refine ⟨0, U 16 11, fun Y => ∃ W K, isR W ∧ scc (U 16 11) W (jU U 16 10 0) ∧ gRep W (U 16 11) G K ∧ W 120 (U 16 11) = ep ∧ Y = jU (jU (jU W 117 (U 16 11) a2) 118 (U 16 11) a3) 16 11 (U 16 11 + 1), by decide, fun Y p => ?_, wr_contract hB.1.1 hC (fun r k hq => ?_) (fun E k hx => (noX E k hx).elim), fun β B => (hM β B).mono (fun r k z => ?_) (fun _ _ z => z)⟩
          · obtain ⟨W, K, w1, w2, w3, w4, rfl⟩ := p
            refine ⟨inv_ct (I0.scc w1 w2) (by omega) (by omega) (by omega), ?_⟩
            rw [jU_s _ (by decide), jU_o _ (by decide), jU_o _ (by decide)]
            exact s0 W w2
          · obtain ⟨-, q3, q⟩ := hq
            rw [hp] at q
            refine ⟨_, q.1, q3.tag to (by decide), by rw [q3.len (by omega)]; exact lo, wq_st q3.toT to (fun Y p => ?_)⟩
            obtain ⟨W, K, w1, w2, w3, w4, rfl⟩ := p
            exact q.2 W K w1 w2 w3 w4
          · unfold contractQ at z
            rw [if_pos g, if_pos g2, if_pos g3, hp] at z
            obtain ⟨z1, W, K, w1, w2, w3, w4, w5⟩ := z
            exact ⟨_, ⟨W, K, w1, w2, w3, w4, rfl⟩, z1, w5⟩
      · refine ⟨3, 0, fun W => W = jU U 16 0 3, by decide, fun W p => by rw [p]; exact ⟨I0.er (by omega), jU_same _ _ _ _⟩, wr_contract hB.1.1 hC (fun r k hq => absurd hq.1.2.2 g3) (fun E k hx => ?_), fun β B => (hM β B).mono (fun r k z => ?_) (fun _ _ z => z)⟩
        · obtain ⟨rfl, q⟩ := hx
          rcases q with q | q | q
          · exact absurd g q.1
          · exact absurd g2 q.2.1
          · exact Or.inr (Or.inr ⟨q.2.2.2, wq_er R0 (by decide)⟩)
        · unfold contractQ at z
          rw [if_pos g, if_pos g2, if_neg g3] at z
          exact ⟨_, rfl, z.1, z.2⟩
    · refine ⟨2, 0, fun W => W = jU U 16 0 2, by decide, fun W p => by rw [p]; exact ⟨I0.er (by omega), jU_same _ _ _ _⟩, wr_contract hB.1.1 hC (fun r k hq => absurd hq.1.2.1 g2) (fun E k hx => ?_), fun β B => (hM β B).mono (fun r k z => ?_) (fun _ _ z => z)⟩
      · obtain ⟨rfl, q⟩ := hx
        rcases q with q | q | q
        · exact absurd g q.1
        · exact Or.inr (Or.inl ⟨q.2.2, wq_er R0 (by decide)⟩)
        · exact absurd q.2.1 g2
      · unfold contractQ at z
        rw [if_pos g, if_neg g2] at z
        exact ⟨_, rfl, z.1, z.2⟩
  · refine ⟨1, 0, fun W => W = jU U 16 0 1, by decide, fun W p => by rw [p]; exact ⟨I0.er (by omega), jU_same _ _ _ _⟩, wr_contract hB.1.1 hC (fun r k hq => absurd hq.1.1 g) (fun E k hx => ?_), fun β B => (hM β B).mono (fun r k z => ?_) (fun _ _ z => z)⟩
    · obtain ⟨rfl, q⟩ := hx
      rcases q with q | q | q
      · exact Or.inl ⟨q.2, wq_er R0 (by decide)⟩
      · exact absurd q.1 g
      · exact absurd q.1 g
    · unfold contractQ at z
      rw [if_neg g] at z
      exact ⟨_, rfl, z.1, z.2⟩
end OPT

