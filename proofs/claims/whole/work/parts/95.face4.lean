section FD
variable {γ : jG} {h h' : jM} {ρ σ : Nat → Nat} {x : Nat} {ks ss cs ls ms : List Nat} {V V' : VV} {S : Nat → Prop}
theorem cf_span {k m lo hi : Int} (hk : r32 k) (hm : r32 m) (hlo : r32 lo) (hhi : r32 hi) (h0 : V 16 0 = 0) (I : Inv V) (hR : RepB γ V h x ρ σ ks ss cs ls ms) : CT γ mX11_span 7 8 48 [.ref x, .int (jI k), .int (jI m), .int (jI lo), .int (jI hi)] h (opQ γ x h (sp_span V k m lo hi)) (opX V h (sp_span V k m lo hi) [(eNSE, 1), (eIAE, 2)]) := by
  have hR0 := hR
  obtain ⟨a1, a2, a3, a4, a5, a6, a7, a8, a9, a10, a11⟩ := hR0
  have x0 := a1.1
  refine CT.of MX11_span (Nat.le_of_ble_eq_true rfl) ?_
  show J γ mX11_span 7 8 48 0 0 h 0 [(0, .ref x), (1, .int (jI k)), (2, .int (jI m)), (3, .int (jI lo)), (4, .int (jI hi))] [] _ _
  first | refine J.aload_n (pc' := 1) rfl rfl rfl ?_ | refine J.aload_nN (pc' := 1) rfl rfl rfl ?_
  refine J.iload_n (pc' := 2) rfl rfl rfl ?_
  refine J.callV (pc' := 5) (t := 15) rfl MX11_kindOf ml_X11_73 iv_X11_kindOf (by decide) ⟨_, rfl, rfl⟩ (by first | assumption | (simp only [jM.tag_sI, jM.tag_sL, jM.tag_sR, jM.tag_fI, jM.tag_fL, jM.tag_fR]; assumption) | (simp [jM.tag_nw, jM.tag_sI, jM.tag_sL, jM.tag_sR, jM.tag_fI, jM.tag_fL, jM.tag_fR, *]; done)) (cf_kindOf hk hR) rfl rfl (Nat.le_of_ble_eq_true rfl) (by first | omega | (exact R.r _ _) | (simp only [jM.len_sI, jM.len_sL, jM.len_sR, jM.len_fI, jM.len_fL, jM.len_fR]; omega) | (simp [jM.len_nw, jM.len_sI, jM.len_sL, jM.len_sR, jM.len_fI, jM.len_fL, jM.len_fR, *]; omega)) (by first | omega | (exact R.r _ _) | (simp only [jM.len_sI, jM.len_sL, jM.len_sR, jM.len_fI, jM.len_fL, jM.len_fR]; omega) | (simp [jM.len_nw, jM.len_sI, jM.len_sL, jM.len_sR, jM.len_fI, jM.len_fL, jM.len_fR, *]; omega)) (by first | omega | (exact R.r _ _) | (simp only [jM.len_sI, jM.len_sL, jM.len_sR, jM.len_fI, jM.len_fL, jM.len_fR]; omega) | (simp [jM.len_nw, jM.len_sI, jM.len_sL, jM.len_sR, jM.len_fI, jM.len_fL, jM.len_fR, *]; omega)) rfl rfl ?_ ?_
  · rintro _ _ ⟨hc, rfl, rfl⟩
    exact ⟨rfl, 1, by simp, by unfold sp_span; rw [if_neg hc]⟩
  rintro _ h ⟨z, rfl, az, ck1, rfl⟩
  obtain ⟨z1, z2, sp, z3, z4⟩ := a2.2.2 k.toNat z az.2
  rw [show ((k.toNat : Nat) : Int) = k by omega] at z2 z4
  have tsp := z4.1.1
  first | refine J.astore (pc' := 7) rfl rfl (by decide) ?_ | refine J.astoreN (pc' := 7) rfl rfl (by decide) ?_
  refine J.iload_n (pc' := 8) rfl rfl rfl ?_
  refine J.callS (pc' := 11) rfl MX11_needMetal ml_X11_77 is_X11_needMetal (cx_needMetal hm) rfl rfl (Nat.le_of_ble_eq_true rfl) (by first | omega | (exact R.r _ _) | (simp only [jM.len_sI, jM.len_sL, jM.len_sR, jM.len_fI, jM.len_fL, jM.len_fR]; omega) | (simp [jM.len_nw, jM.len_sI, jM.len_sL, jM.len_sR, jM.len_fI, jM.len_fL, jM.len_fR, *]; omega)) (by first | omega | (exact R.r _ _) | (simp only [jM.len_sI, jM.len_sL, jM.len_sR, jM.len_fI, jM.len_fL, jM.len_fR]; omega) | (simp [jM.len_nw, jM.len_sI, jM.len_sL, jM.len_sR, jM.len_fI, jM.len_fL, jM.len_fR, *]; omega)) (by first | omega | (exact R.r _ _) | (simp only [jM.len_sI, jM.len_sL, jM.len_sR, jM.len_fI, jM.len_fL, jM.len_fR]; omega) | (simp [jM.len_nw, jM.len_sI, jM.len_sL, jM.len_sR, jM.len_fI, jM.len_fL, jM.len_fR, *]; omega)) rfl rfl ?_ ?_
  · rintro _ _ ⟨hc, rfl, rfl⟩
    exact ⟨rfl, 2, by simp, by unfold sp_span; rw [if_pos ck1, if_neg (fun z => hc z.1)]⟩
  rintro _ h ⟨cm1, rfl, rfl⟩
  refine J.iload_n (pc' := 12) rfl rfl rfl ?_
  refine J.iload (pc' := 14) rfl rfl rfl ?_
  refine J.callS (pc' := 17) rfl MX11_needSpan ml_X11_80 is_X11_needSpan (cx_needSpan hlo hhi) rfl rfl (Nat.le_of_ble_eq_true rfl) (by first | omega | (exact R.r _ _) | (simp only [jM.len_sI, jM.len_sL, jM.len_sR, jM.len_fI, jM.len_fL, jM.len_fR]; omega) | (simp [jM.len_nw, jM.len_sI, jM.len_sL, jM.len_sR, jM.len_fI, jM.len_fL, jM.len_fR, *]; omega)) (by first | omega | (exact R.r _ _) | (simp only [jM.len_sI, jM.len_sL, jM.len_sR, jM.len_fI, jM.len_fL, jM.len_fR]; omega) | (simp [jM.len_nw, jM.len_sI, jM.len_sL, jM.len_sR, jM.len_fI, jM.len_fL, jM.len_fR, *]; omega)) (by first | omega | (exact R.r _ _) | (simp only [jM.len_sI, jM.len_sL, jM.len_sR, jM.len_fI, jM.len_fL, jM.len_fR]; omega) | (simp [jM.len_nw, jM.len_sI, jM.len_sL, jM.len_sR, jM.len_fI, jM.len_fL, jM.len_fR, *]; omega)) rfl rfl ?_ ?_
  · rintro _ _ ⟨hc, rfl, rfl⟩
    exact ⟨rfl, 2, by simp, by unfold sp_span; rw [if_pos ck1, if_neg (fun z => hc z.2)]⟩
  rintro _ h ⟨cl1, rfl, rfl⟩
  first | refine J.aload (pc' := 19) rfl rfl rfl ?_ | refine J.aloadN (pc' := 19) rfl rfl rfl ?_
  first | refine J.getR (pc' := 22) rfl fl_X11_84 rfl (by first | assumption | (simp only [jM.tag_sI, jM.tag_sL, jM.tag_sR, jM.tag_fI, jM.tag_fL, jM.tag_fR]; assumption) | (simp [jM.tag_nw, jM.tag_sI, jM.tag_sL, jM.tag_sR, jM.tag_fI, jM.tag_fL, jM.tag_fR, *]; done)) (by first | assumption | (simp only [jM.R_sI, jM.R_sL, jM.R_fI, jM.R_fL]; assumption) | (simp [jM.R_nw, jM.R_sR, jM.R_fR, jM.R_sI, jM.R_sL, jM.R_fI, jM.R_fL, *]; done)) rfl ?_ | refine J.getRN (pc' := 22) rfl fl_X11_84 rfl (by first | assumption | (simp only [jM.tag_sI, jM.tag_sL, jM.tag_sR, jM.tag_fI, jM.tag_fL, jM.tag_fR]; assumption) | (simp [jM.tag_nw, jM.tag_sI, jM.tag_sL, jM.tag_sR, jM.tag_fI, jM.tag_fL, jM.tag_fR, *]; done)) (by first | assumption | (simp only [jM.R_sI, jM.R_sL, jM.R_fI, jM.R_fL]; assumption) | (simp [jM.R_nw, jM.R_sR, jM.R_fR, jM.R_sI, jM.R_sL, jM.R_fI, jM.R_fL, *]; done)) rfl ?_
  refine J.iload_n (pc' := 23) rfl rfl rfl ?_
  refine J.iload_n (pc' := 24) rfl rfl rfl ?_
  refine J.iload (pc' := 26) rfl rfl rfl ?_
  refine J.callV (pc' := 29) (t := 14) rfl MX10_put ml_X11_87 iv_X10_put (by decide) ⟨_, rfl, rfl⟩ (by first | assumption | (simp only [jM.tag_sI, jM.tag_sL, jM.tag_sR, jM.tag_fI, jM.tag_fL, jM.tag_fR]; assumption) | (simp [jM.tag_nw, jM.tag_sI, jM.tag_sL, jM.tag_sR, jM.tag_fI, jM.tag_fL, jM.tag_fR, *]; done)) (cs_put z4.1 cm1.1 cm1.2) rfl rfl (Nat.le_of_ble_eq_true rfl) (by first | omega | (exact R.r _ _) | (simp only [jM.len_sI, jM.len_sL, jM.len_sR, jM.len_fI, jM.len_fL, jM.len_fR]; omega) | (simp [jM.len_nw, jM.len_sI, jM.len_sL, jM.len_sR, jM.len_fI, jM.len_fL, jM.len_fR, *]; omega)) (by first | omega | (exact R.r _ _) | (simp only [jM.len_sI, jM.len_sL, jM.len_sR, jM.len_fI, jM.len_fL, jM.len_fR]; omega) | (simp [jM.len_nw, jM.len_sI, jM.len_sL, jM.len_sR, jM.len_fI, jM.len_fL, jM.len_fR, *]; omega)) (by first | omega | (exact R.r _ _) | (simp only [jM.len_sI, jM.len_sL, jM.len_sR, jM.len_fI, jM.len_fL, jM.len_fR]; omega) | (simp [jM.len_nw, jM.len_sI, jM.len_sL, jM.len_sR, jM.len_fI, jM.len_fL, jM.len_fR, *]; omega)) rfl rfl ?_ ?_
  · exact fun _ _ z => z.elim
  rintro _ h' ⟨rfl, q1⟩
  refine J.iconst (pc' := 30) rfl rfl ?_
  refine J.iret rfl rfl (by first | omega | (exact R.r _ _) | (simp only [jM.len_sI, jM.len_sL, jM.len_sR, jM.len_fI, jM.len_fL, jM.len_fR]; omega) | (simp [jM.len_nw, jM.len_sI, jM.len_sL, jM.len_sR, jM.len_fI, jM.len_fL, jM.len_fR, *]; omega)) (by first | omega | (exact R.r _ _) | (simp only [jM.len_sI, jM.len_sL, jM.len_sR, jM.len_fI, jM.len_fL, jM.len_fR]; omega) | (simp [jM.len_nw, jM.len_sI, jM.len_sL, jM.len_sR, jM.len_fI, jM.len_fL, jM.len_fR, *]; omega)) ?_
  have es : sp_span V k m lo hi = (1, jU (jU V 104 (5 * k + m) lo) 105 (5 * k + m) hi) := by unfold sp_span; rw [if_pos ck1, if_pos ⟨cm1, cl1⟩]
  rw [es]
  have F0 := q1.2.2.2.2.2.1
  have F : FrC h h' (fun c => c = 109) := F0.mono (fun b _ z => by rw [z]; exact kc_S (Or.inr z4.1.2.2.1) z4.2.2.1 z1 rfl)
  have l4 := csz a4.1
  have l7 := msz a7.1
  have e : ∀ t, t ≠ 16 → ¬ (fun t : Nat => t = 104 ∨ t = 105) t → jU (jU V 104 (5 * k + m) lo) 105 (5 * k + m) hi t = V t := fun t _ h1 => (jU_f _ (fun z => h1 (Or.inr z))).trans (jU_f _ (fun z => h1 (Or.inl z)))
  have es' : ∀ i, ¬ (fun i : Int => i = -7) i → jU (jU V 104 (5 * k + m) lo) 105 (5 * k + m) hi 16 i = V 16 i := fun i _ => by rw [jU_ne _ _ (Or.inl (by decide)), jU_ne _ _ (Or.inl (by decide))]
  refine ⟨rfl, (es' 0 (by decide)).trans h0, ⟨ρ, σ, ks, ss, cs, ls, ms, a1.k F es' (by (try dsimp only); omega) (by (try dsimp only); omega), ⟨a2.1.c F (by (try dsimp only); omega), a2.2.1.trans (es' 1 (by decide)).symm, fun j u hu => ?_⟩, a3.k F e es' (by (try dsimp only); omega) (by (try dsimp only); omega), a4.k F e es' (by (try dsimp only); omega) (fun _ _ => (by (try dsimp only); omega)) ⟨by (try dsimp only); omega, fun _ _ _ => by (try dsimp only); omega⟩, a5.k F e es' (by (try dsimp only); omega) ⟨by (try dsimp only); omega, fun _ _ _ => by (try dsimp only); omega⟩, a6.k F e (by (try dsimp only); omega) (fun _ _ => (by (try dsimp only); omega)) ⟨by (try dsimp only); omega, by (try dsimp only); omega, fun _ _ _ => by (try dsimp only); omega⟩, a7.k F e es' (by (try dsimp only); omega) (fun _ _ => (by (try dsimp only); omega)) ⟨by (try dsimp only); omega, fun _ _ _ => by (try dsimp only); omega⟩, a8.k F e x0 (by (try dsimp only); omega) (by (try dsimp only); omega), a9.k F e es' (by (try dsimp only); omega) (by (try dsimp only); omega), a10.c F (fun _ _ _ => (by (try dsimp only); omega)) (by (try dsimp only); omega), isK.c F a11 (by (try dsimp only); omega) (by (try dsimp only); omega)⟩, F.mono (fun b _ z => by have z : kc h b = 109 := z; show kc h b ≠ 16 ∧ kc h b < 9000; omega)⟩
  obtain ⟨u1, u2, su, u3, u4⟩ := a2.2.2 j u hu
  have hpa := z4.1.2.2.1
  by_cases c : (j : Int) = k
  · have eu : u = z := by
      have := az.2
      rw [show k.toNat = j by omega, hu] at this
      exact Option.some.inj this
    subst eu
    refine ⟨F0.tag u1 (by decide), by rw [F0.I u1 (by decide) (fun w => by rw [w] at u1; omega)]; exact u2, sp, by rw [F0.R z1 (by decide) (fun w => by rw [w] at z1; omega)]; exact z3, z4.spW q1 (fun i hi9 => ?_)⟩
    show upS (sv h sp) m lo hi i = kP (jU (jU V 104 (5 * k + m) lo) 105 (5 * k + m) hi) j i
    rw [c, upS_cg z4.2.2.2 i hi9, kP_ev, kP_ev]
    exact upS_ev (fun j => by rw [jU_ne _ _ (Or.inl (by decide)), jU_at]) (fun j => by rw [jU_at, jU_ne _ _ (Or.inl (by decide))]) i
  · have hn : u ≠ z := fun w => by rw [w, z2] at u2; exact c u2.symm
    have hs : su ≠ sp := fun w => by
      have := u4.2.1
      rw [w, z4.2.1] at this
      exact hn (Option.some.inj this).symm
    refine ⟨F0.tag u1 (by decide), by rw [F0.I u1 (by decide) (fun w => by rw [w] at u1; omega)]; exact u2, su, by rw [F0.R u1 (by decide) (fun w => by rw [w] at u1; omega)]; exact u3, ?_⟩
    have := u4.kept2 F0 (fun w => by have := u4.1.1; rw [w] at this; omega) (u4.1.ne z4.1 hs)
    refine this.cgP (fun i hi9 => ?_)
    unfold kP
    show _ = if i % 2 = 0 then jU (jU V 104 (5 * k + m) lo) 105 (5 * k + m) hi 104 (5 * (j : Int) + ((i / 2 : Nat) : Int)) else jU (jU V 104 (5 * k + m) lo) 105 (5 * k + m) hi 105 (5 * (j : Int) + ((i / 2 : Nat) : Int))
    rw [jU_ne (t' := 104) _ _ (Or.inl (by decide)), jU_ne (t' := 104) _ _ (Or.inr (by omega)), jU_ne (t' := 105) _ _ (Or.inr (by omega)), jU_ne (t' := 105) _ _ (Or.inl (by decide))]
theorem kdV_o {t : Nat} (h1 : t ≠ 104) (h2 : t ≠ 105) {m : Int} : kdV V m t = V t := funext fun i => by
  unfold kdV
  rw [if_neg (by omega)]
theorem kdV_4 {i : Int} : kdV V 5 104 i = if 5 * V 16 1 ≤ i ∧ i < 5 * V 16 1 + 5 then 0 else V 104 i := by
  unfold kdV
  by_cases c : 5 * V 16 1 ≤ i ∧ i < 5 * V 16 1 + 5
  · rw [if_pos ⟨Or.inl rfl, c⟩, if_pos rfl, if_pos c]
  · rw [if_neg (fun z => c z.2), if_neg c]
theorem kdV_5 {i : Int} : kdV V 5 105 i = if 5 * V 16 1 ≤ i ∧ i < 5 * V 16 1 + 5 then 10000 else V 105 i := by
  unfold kdV
  by_cases c : 5 * V 16 1 ≤ i ∧ i < 5 * V 16 1 + 5
  · rw [if_pos ⟨Or.inr rfl, c⟩, if_neg (by decide), if_pos c]
  · rw [if_neg (fun z => c z.2), if_neg c]
theorem cf_kind (h0 : V 16 0 = 0) (I : Inv V) (hR : RepB γ V h x ρ σ ks ss cs ls ms) : CT γ mX11_kind 7 8 200 [.ref x] h (opQ γ x h (sp_kind V)) X0 := by
  have hR0 := hR
  obtain ⟨a1, a2, a3, a4, a5, a6, a7, a8, a9, a10, a11⟩ := hR0
  have R := I.1
  have Rf := R.f
  have a1' := a1
  obtain ⟨x0, x1, x2, x3, x4, x5, x6, x7, x8, x9, x10⟩ := a1'
  have a2' := a2
  obtain ⟨⟨⟨e0, L0⟩, i0⟩, n0, K0⟩ := a2'
  have t0 := L0.1
  have hl := L0.len
  refine CT.of MX11_kind (Nat.le_of_ble_eq_true rfl) ?_
  show J γ mX11_kind 7 8 200 0 0 h 0 [(0, .ref x)] [] _ _
  first | refine J.aload_n (pc' := 1) rfl rfl rfl ?_ | refine J.aload_nN (pc' := 1) rfl rfl rfl ?_
  first | refine J.getR (pc' := 4) rfl fl_X11_12 rfl (by first | assumption | (simp only [jM.tag_sI, jM.tag_sL, jM.tag_sR, jM.tag_fI, jM.tag_fL, jM.tag_fR]; assumption) | (simp [jM.tag_nw, jM.tag_sI, jM.tag_sL, jM.tag_sR, jM.tag_fI, jM.tag_fL, jM.tag_fR, *]; done)) (by first | assumption | (simp only [jM.R_sI, jM.R_sL, jM.R_fI, jM.R_fL]; assumption) | (simp [jM.R_nw, jM.R_sR, jM.R_fR, jM.R_sI, jM.R_sL, jM.R_fI, jM.R_fL, *]; done)) rfl ?_ | refine J.getRN (pc' := 4) rfl fl_X11_12 rfl (by first | assumption | (simp only [jM.tag_sI, jM.tag_sL, jM.tag_sR, jM.tag_fI, jM.tag_fL, jM.tag_fR]; assumption) | (simp [jM.tag_nw, jM.tag_sI, jM.tag_sL, jM.tag_sR, jM.tag_fI, jM.tag_fL, jM.tag_fR, *]; done)) (by first | assumption | (simp only [jM.R_sI, jM.R_sL, jM.R_fI, jM.R_fL]; assumption) | (simp [jM.R_nw, jM.R_sR, jM.R_fR, jM.R_sI, jM.R_sL, jM.R_fI, jM.R_fL, *]; done)) rfl ?_
  refine J.callV (pc' := 7) (t := 3) rfl MJx4a65c_size_8abf5 ml_X11_60 iv_Jx4a65c_size_8abf5 (by decide) ⟨_, rfl, rfl⟩ (by first | assumption | (simp only [jM.tag_sI, jM.tag_sL, jM.tag_sR, jM.tag_fI, jM.tag_fL, jM.tag_fR]; assumption) | (simp [jM.tag_nw, jM.tag_sI, jM.tag_sL, jM.tag_sR, jM.tag_fI, jM.tag_fL, jM.tag_fR, *]; done)) L0.size rfl rfl (Nat.le_of_ble_eq_true rfl) (by first | omega | (exact R.r _ _) | (simp only [jM.len_sI, jM.len_sL, jM.len_sR, jM.len_fI, jM.len_fL, jM.len_fR]; omega) | (simp [jM.len_nw, jM.len_sI, jM.len_sL, jM.len_sR, jM.len_fI, jM.len_fL, jM.len_fR, *]; omega)) (by first | omega | (exact R.r _ _) | (simp only [jM.len_sI, jM.len_sL, jM.len_sR, jM.len_fI, jM.len_fL, jM.len_fR]; omega) | (simp [jM.len_nw, jM.len_sI, jM.len_sL, jM.len_sR, jM.len_fI, jM.len_fL, jM.len_fR, *]; omega)) (by first | omega | (exact R.r _ _) | (simp only [jM.len_sI, jM.len_sL, jM.len_sR, jM.len_fI, jM.len_fL, jM.len_fR]; omega) | (simp [jM.len_nw, jM.len_sI, jM.len_sL, jM.len_sR, jM.len_fI, jM.len_fL, jM.len_fR, *]; omega)) rfl rfl ?_ ?_
  · exact fun _ _ z => z.elim
  rintro _ h ⟨rfl, rfl⟩
  refine J.bipush (pc' := 9) rfl rfl (by decide) ?_
  refine J.icmp_lt (tgt := 14) (pc' := 12) rfl rfl rfl (by first | omega | (exact R.r _ _) | (simp only [jM.len_sI, jM.len_sL, jM.len_sR, jM.len_fI, jM.len_fL, jM.len_fR]; omega) | (simp [jM.len_nw, jM.len_sI, jM.len_sL, jM.len_sR, jM.len_fI, jM.len_fL, jM.len_fR, *]; omega)) (by first | omega | (exact R.r _ _) | (simp only [jM.len_sI, jM.len_sL, jM.len_sR, jM.len_fI, jM.len_fL, jM.len_fR]; omega) | (simp [jM.len_nw, jM.len_sI, jM.len_sL, jM.len_sR, jM.len_fI, jM.len_fL, jM.len_fR, *]; omega)) (fun c1 => ?_) (fun c1 => ?_)
  · first | refine J.aload_n (pc' := 15) rfl rfl rfl ?_ | refine J.aload_nN (pc' := 15) rfl rfl rfl ?_
    first | refine J.getR (pc' := 18) rfl fl_X11_12 rfl (by first | assumption | (simp only [jM.tag_sI, jM.tag_sL, jM.tag_sR, jM.tag_fI, jM.tag_fL, jM.tag_fR]; assumption) | (simp [jM.tag_nw, jM.tag_sI, jM.tag_sL, jM.tag_sR, jM.tag_fI, jM.tag_fL, jM.tag_fR, *]; done)) (by first | assumption | (simp only [jM.R_sI, jM.R_sL, jM.R_fI, jM.R_fL]; assumption) | (simp [jM.R_nw, jM.R_sR, jM.R_fR, jM.R_sI, jM.R_sL, jM.R_fI, jM.R_fL, *]; done)) rfl ?_ | refine J.getRN (pc' := 18) rfl fl_X11_12 rfl (by first | assumption | (simp only [jM.tag_sI, jM.tag_sL, jM.tag_sR, jM.tag_fI, jM.tag_fL, jM.tag_fR]; assumption) | (simp [jM.tag_nw, jM.tag_sI, jM.tag_sL, jM.tag_sR, jM.tag_fI, jM.tag_fL, jM.tag_fR, *]; done)) (by first | assumption | (simp only [jM.R_sI, jM.R_sL, jM.R_fI, jM.R_fL]; assumption) | (simp [jM.R_nw, jM.R_sR, jM.R_fR, jM.R_sI, jM.R_sL, jM.R_fI, jM.R_fL, *]; done)) rfl ?_
    refine J.new (pc' := 21) (t := 9) (N := 2) (n := 2) rfl ⟨by decide, by decide, _, rfl, rfl, List.mem_of_getElem? (i := 264) (by decide +kernel), List.mem_of_getElem? (i := 265) (by decide +kernel), List.mem_of_getElem? (i := 76) (by decide +kernel)⟩ (by first | omega | (exact R.r _ _) | (simp only [jM.len_sI, jM.len_sL, jM.len_sR, jM.len_fI, jM.len_fL, jM.len_fR]; omega) | (simp [jM.len_nw, jM.len_sI, jM.len_sL, jM.len_sR, jM.len_fI, jM.len_fL, jM.len_fR, *]; omega)) (by first | omega | (exact R.r _ _) | (simp only [jM.len_sI, jM.len_sL, jM.len_sR, jM.len_fI, jM.len_fL, jM.len_fR]; omega) | (simp [jM.len_nw, jM.len_sI, jM.len_sL, jM.len_sR, jM.len_fI, jM.len_fL, jM.len_fR, *]; omega)) rfl (fun q qf qb => ?_)
    have f1 : Fr h (h.nw q 9 2) (fun _ => False) := Fr.stN Fr.rf qf
    have tq : (h.nw q 9 2).tag q = 9 := by rw [jM.tag_nw, if_pos rfl]
    have L1 := L0.keptW f1 id (Or.inl id)
    have tx1 := f1.tag x0 (by decide)
    have rx1 := f1.R x0 (by decide) id 0
    rw [x1] at rx1
    have tl1 := L1.1
    generalize h.nw q 9 2 = k1 at f1 tq L1 tx1 rx1 tl1 ⊢
    refine J.dup (pc' := 22) rfl rfl rfl ?_
    first | refine J.aload_n (pc' := 23) rfl rfl rfl ?_ | refine J.aload_nN (pc' := 23) rfl rfl rfl ?_
    first | refine J.getR (pc' := 26) rfl fl_X11_12 rfl (by first | assumption | (simp only [jM.tag_sI, jM.tag_sL, jM.tag_sR, jM.tag_fI, jM.tag_fL, jM.tag_fR]; assumption) | (simp [jM.tag_nw, jM.tag_sI, jM.tag_sL, jM.tag_sR, jM.tag_fI, jM.tag_fL, jM.tag_fR, *]; done)) (by first | assumption | (simp only [jM.R_sI, jM.R_sL, jM.R_fI, jM.R_fL]; assumption) | (simp [jM.R_nw, jM.R_sR, jM.R_fR, jM.R_sI, jM.R_sL, jM.R_fI, jM.R_fL, *]; done)) rfl ?_ | refine J.getRN (pc' := 26) rfl fl_X11_12 rfl (by first | assumption | (simp only [jM.tag_sI, jM.tag_sL, jM.tag_sR, jM.tag_fI, jM.tag_fL, jM.tag_fR]; assumption) | (simp [jM.tag_nw, jM.tag_sI, jM.tag_sL, jM.tag_sR, jM.tag_fI, jM.tag_fL, jM.tag_fR, *]; done)) (by first | assumption | (simp only [jM.R_sI, jM.R_sL, jM.R_fI, jM.R_fL]; assumption) | (simp [jM.R_nw, jM.R_sR, jM.R_fR, jM.R_sI, jM.R_sL, jM.R_fI, jM.R_fL, *]; done)) rfl ?_
    refine J.callV (pc' := 29) (t := 3) rfl MJx4a65c_size_8abf5 ml_X11_60 iv_Jx4a65c_size_8abf5 (by decide) ⟨_, rfl, rfl⟩ (by first | assumption | (simp only [jM.tag_sI, jM.tag_sL, jM.tag_sR, jM.tag_fI, jM.tag_fL, jM.tag_fR]; assumption) | (simp [jM.tag_nw, jM.tag_sI, jM.tag_sL, jM.tag_sR, jM.tag_fI, jM.tag_fL, jM.tag_fR, *]; done)) L1.size rfl rfl (Nat.le_of_ble_eq_true rfl) (by first | omega | (exact R.r _ _) | (simp only [jM.len_sI, jM.len_sL, jM.len_sR, jM.len_fI, jM.len_fL, jM.len_fR]; omega) | (simp [jM.len_nw, jM.len_sI, jM.len_sL, jM.len_sR, jM.len_fI, jM.len_fL, jM.len_fR, *]; omega)) (by first | omega | (exact R.r _ _) | (simp only [jM.len_sI, jM.len_sL, jM.len_sR, jM.len_fI, jM.len_fL, jM.len_fR]; omega) | (simp [jM.len_nw, jM.len_sI, jM.len_sL, jM.len_sR, jM.len_fI, jM.len_fL, jM.len_fR, *]; omega)) (by first | omega | (exact R.r _ _) | (simp only [jM.len_sI, jM.len_sL, jM.len_sR, jM.len_fI, jM.len_fL, jM.len_fR]; omega) | (simp [jM.len_nw, jM.len_sI, jM.len_sL, jM.len_sR, jM.len_fI, jM.len_fL, jM.len_fR, *]; omega)) rfl rfl ?_ ?_
    · exact fun _ _ z => z.elim
    rintro _ k1 ⟨rfl, rfl⟩
    refine J.callI (pc' := 32) rfl MX5_init ml_X11_66 iv_X5_init ⟨rfl, rfl⟩ (ck_init tq) rfl rfl (Nat.le_of_ble_eq_true rfl) (by first | omega | (exact R.r _ _) | (simp only [jM.len_sI, jM.len_sL, jM.len_sR, jM.len_fI, jM.len_fL, jM.len_fR]; omega) | (simp [jM.len_nw, jM.len_sI, jM.len_sL, jM.len_sR, jM.len_fI, jM.len_fL, jM.len_fR, *]; omega)) (by first | omega | (exact R.r _ _) | (simp only [jM.len_sI, jM.len_sL, jM.len_sR, jM.len_fI, jM.len_fL, jM.len_fR]; omega) | (simp [jM.len_nw, jM.len_sI, jM.len_sL, jM.len_sR, jM.len_fI, jM.len_fL, jM.len_fR, *]; omega)) (by first | omega | (exact R.r _ _) | (simp only [jM.len_sI, jM.len_sL, jM.len_sR, jM.len_fI, jM.len_fL, jM.len_fR]; omega) | (simp [jM.len_nw, jM.len_sI, jM.len_sL, jM.len_sR, jM.len_fI, jM.len_fL, jM.len_fR, *]; omega)) rfl ?_
    rintro _ k2 ⟨rfl, s, sf, o1, r1, i1, f2, m2⟩
    have F2 : Fr h k2 (fun _ => False) := f1.trans f2 (fun b hb z => by
      rcases z with z | z
      · exact z
      · rw [z] at hb; exact absurd qf hb)
    have L2 := L0.keptW F2 id (Or.inl id)
    have tl2 := L2.1
    have tq2 := f2.tag tq (by decide)
    have tx2 := F2.tag x0 (by decide)
    have rx2 := F2.R x0 (by decide) id 0
    rw [x1] at rx2
    refine J.callV (pc' := 35) (t := 3) rfl MJx4a65c_add_9ea2d ml_X11_69 iv_Jx4a65c_add_9ea2d (by decide) ⟨_, rfl, rfl⟩ (by first | assumption | (simp only [jM.tag_sI, jM.tag_sL, jM.tag_sR, jM.tag_fI, jM.tag_fL, jM.tag_fR]; assumption) | (simp [jM.tag_nw, jM.tag_sI, jM.tag_sL, jM.tag_sR, jM.tag_fI, jM.tag_fL, jM.tag_fR, *]; done)) (cl_add (x := q) L2 (fun y hy => by obtain ⟨j, hj, ej⟩ := List.getElem_of_mem hy; rw [F2.tag (K0 j y (by rw [List.getElem?_eq_getElem hj, ej])).1 (by decide)]; rfl) (by omega) (by rw [tq2]; rfl) a11.2.2.1) rfl rfl (Nat.le_of_ble_eq_true rfl) (by first | omega | (exact R.r _ _) | (simp only [jM.len_sI, jM.len_sL, jM.len_sR, jM.len_fI, jM.len_fL, jM.len_fR]; omega) | (simp [jM.len_nw, jM.len_sI, jM.len_sL, jM.len_sR, jM.len_fI, jM.len_fL, jM.len_fR, *]; omega)) (by first | omega | (exact R.r _ _) | (simp only [jM.len_sI, jM.len_sL, jM.len_sR, jM.len_fI, jM.len_fL, jM.len_fR]; omega) | (simp [jM.len_nw, jM.len_sI, jM.len_sL, jM.len_sR, jM.len_fI, jM.len_fL, jM.len_fR, *]; omega)) (by first | omega | (exact R.r _ _) | (simp only [jM.len_sI, jM.len_sL, jM.len_sR, jM.len_fI, jM.len_fL, jM.len_fR]; omega) | (simp [jM.len_nw, jM.len_sI, jM.len_sL, jM.len_sR, jM.len_fI, jM.len_fL, jM.len_fR, *]; omega)) rfl rfl ?_ ?_
    · exact fun _ _ z => z.elim
    rintro _ k3 ⟨rfl, e', L3, g2, g3, g4⟩
    have o2 : ow k2 (ρ 0) = some 0 := by rw [F2.ow (by omega)]; exact i0
    have F3 : FrC k2 k3 (fun c => c = 5000) := g3.mono (fun b _ z => lW_kc L2 o2 z)
    have FF : FrC h k3 (fun c => c = 5000) := F2.trans g3 (fun b hb z => by
      rcases z with z | z | z
      · exact z.elim
      · rw [z]; exact kc_l t0 i0
      · rw [z.1]; exact kc_e L0 i0 (by rw [← F2.len (by have := L0.2.2.1; omega)]; exact z.2))
    have tx3 := FF.tag x0 (by decide)
    have rx3 : k3.R 15 x 0 = some (ρ 0) := by rw [FF.R x0 (by decide) (fun z => by rw [kc_o x0 (by decide)] at z; omega)]; exact x1
    have tl3 := L3.1
    refine J.pop (pc' := 36) rfl rfl rfl ?_
    first | refine J.aload_n (pc' := 37) rfl rfl rfl ?_ | refine J.aload_nN (pc' := 37) rfl rfl rfl ?_
    first | refine J.getR (pc' := 40) rfl fl_X11_12 rfl (by first | assumption | (simp only [jM.tag_sI, jM.tag_sL, jM.tag_sR, jM.tag_fI, jM.tag_fL, jM.tag_fR]; assumption) | (simp [jM.tag_nw, jM.tag_sI, jM.tag_sL, jM.tag_sR, jM.tag_fI, jM.tag_fL, jM.tag_fR, *]; done)) (by first | assumption | (simp only [jM.R_sI, jM.R_sL, jM.R_fI, jM.R_fL]; assumption) | (simp [jM.R_nw, jM.R_sR, jM.R_fR, jM.R_sI, jM.R_sL, jM.R_fI, jM.R_fL, *]; done)) rfl ?_ | refine J.getRN (pc' := 40) rfl fl_X11_12 rfl (by first | assumption | (simp only [jM.tag_sI, jM.tag_sL, jM.tag_sR, jM.tag_fI, jM.tag_fL, jM.tag_fR]; assumption) | (simp [jM.tag_nw, jM.tag_sI, jM.tag_sL, jM.tag_sR, jM.tag_fI, jM.tag_fL, jM.tag_fR, *]; done)) (by first | assumption | (simp only [jM.R_sI, jM.R_sL, jM.R_fI, jM.R_fL]; assumption) | (simp [jM.R_nw, jM.R_sR, jM.R_fR, jM.R_sI, jM.R_sL, jM.R_fI, jM.R_fL, *]; done)) rfl ?_
    refine J.callV (pc' := 43) (t := 3) rfl MJx4a65c_size_8abf5 ml_X11_60 iv_Jx4a65c_size_8abf5 (by decide) ⟨_, rfl, rfl⟩ (by first | assumption | (simp only [jM.tag_sI, jM.tag_sL, jM.tag_sR, jM.tag_fI, jM.tag_fL, jM.tag_fR]; assumption) | (simp [jM.tag_nw, jM.tag_sI, jM.tag_sL, jM.tag_sR, jM.tag_fI, jM.tag_fL, jM.tag_fR, *]; done)) L3.size rfl rfl (Nat.le_of_ble_eq_true rfl) (by first | omega | (exact R.r _ _) | (simp only [jM.len_sI, jM.len_sL, jM.len_sR, jM.len_fI, jM.len_fL, jM.len_fR]; omega) | (simp [jM.len_nw, jM.len_sI, jM.len_sL, jM.len_sR, jM.len_fI, jM.len_fL, jM.len_fR, *]; omega)) (by first | omega | (exact R.r _ _) | (simp only [jM.len_sI, jM.len_sL, jM.len_sR, jM.len_fI, jM.len_fL, jM.len_fR]; omega) | (simp [jM.len_nw, jM.len_sI, jM.len_sL, jM.len_sR, jM.len_fI, jM.len_fL, jM.len_fR, *]; omega)) (by first | omega | (exact R.r _ _) | (simp only [jM.len_sI, jM.len_sL, jM.len_sR, jM.len_fI, jM.len_fL, jM.len_fR]; omega) | (simp [jM.len_nw, jM.len_sI, jM.len_sL, jM.len_sR, jM.len_fI, jM.len_fL, jM.len_fR, *]; omega)) rfl rfl ?_ ?_
    · exact fun _ _ z => z.elim
    rintro _ k3 ⟨rfl, rfl⟩
    rw [List.length_append, show ((ks.length + [q].length : Nat) : Int) = V 16 1 + 1 by simp; omega]
    refine J.iconst (pc' := 44) rfl rfl ?_
    refine J.isub (pc' := 45) rfl rfl ?_
    refine J.iret rfl rfl (by first | omega | (exact R.r _ _) | (simp only [jM.len_sI, jM.len_sL, jM.len_sR, jM.len_fI, jM.len_fL, jM.len_fR]; omega) | (simp [jM.len_nw, jM.len_sI, jM.len_sL, jM.len_sR, jM.len_fI, jM.len_fL, jM.len_fR, *]; omega)) (by first | omega | (exact R.r _ _) | (simp only [jM.len_sI, jM.len_sL, jM.len_sR, jM.len_fI, jM.len_fL, jM.len_fR]; omega) | (simp [jM.len_nw, jM.len_sI, jM.len_sL, jM.len_sR, jM.len_fI, jM.len_fL, jM.len_fR, *]; omega)) ?_
    have es : sp_kind V = (V 16 1 + 1 - 1, jU (kdV V 5) 16 1 (V 16 1 + 1)) := by unfold sp_kind; rw [if_neg (by omega)]
    rw [es]
    have l4 := csz a4.1
    have l7 := msz a7.1
    have e : ∀ t, t ≠ 16 → ¬ (fun t : Nat => t = 104 ∨ t = 105) t → jU (kdV V 5) 16 1 (V 16 1 + 1) t = V t := fun t ht h1 => (jU_f _ ht).trans (kdV_o (fun z => h1 (Or.inl z)) (fun z => h1 (Or.inr z)))
    have es' : ∀ i, ¬ (fun i : Int => i = 1) i → jU (kdV V 5) 16 1 (V 16 1 + 1) 16 i = V 16 i := fun i hi => by rw [jU_ne _ _ (Or.inr hi), kdV_o (by decide) (by decide)]
    have o3 : ow k3 (ρ 0) = some 0 := by rw [g3.ow (by omega)]; exact o2
    refine ⟨rfl, (es' 0 (by decide)).trans h0, ⟨ρ, σ, ks ++ [q], ss, cs, ls, ms, a1.k FF es' (by (try dsimp only); omega) (by (try dsimp only); omega), ⟨⟨⟨e', L3⟩, o3⟩, ?_, fun j u hu => ?_⟩, a3.k FF e es' (by (try dsimp only); omega) (by (try dsimp only); omega), a4.k FF e es' (by (try dsimp only); omega) (fun _ _ => (by (try dsimp only); omega)) ⟨by (try dsimp only); omega, fun _ _ _ => by (try dsimp only); omega⟩, ⟨a5.1.c FF (by (try dsimp only); omega), a5.2.1.trans (es' 26 (by decide)).symm, fun l z hz => ?_⟩, a6.k FF e (by (try dsimp only); omega) (fun _ _ => (by (try dsimp only); omega)) ⟨by (try dsimp only); omega, by (try dsimp only); omega, fun _ _ _ => by (try dsimp only); omega⟩, a7.k FF e es' (by (try dsimp only); omega) (fun _ _ => (by (try dsimp only); omega)) ⟨by (try dsimp only); omega, fun _ _ _ => by (try dsimp only); omega⟩, a8.k FF e x0 (by (try dsimp only); omega) (by (try dsimp only); omega), a9.k FF e es' (by (try dsimp only); omega) (by (try dsimp only); omega), a10.c FF (fun _ _ _ => (by (try dsimp only); omega)) (by (try dsimp only); omega), isK.c FF a11 (by (try dsimp only); omega) (by (try dsimp only); omega)⟩, FF.mono (fun b _ z => by have z : kc h b = 5000 := z; show kc h b ≠ 16 ∧ kc h b < 9000; omega)⟩
    · rw [List.length_append]
      show ((ks.length + 1 : Nat) : Int) = jU (kdV V 5) 16 1 (V 16 1 + 1) 16 1
      rw [jU_same]
      omega
    · rcases Nat.lt_trichotomy j ks.length with c | c | c
      · rw [List.getElem?_append_left c] at hu
        obtain ⟨u1, u2, su, u3, u4⟩ := K0.c FF (by omega) (by omega) j u hu
        refine ⟨u1, u2, su, u3, u4.cgP (fun i hi9 => ?_)⟩
        unfold kP
        show _ = if i % 2 = 0 then (jU (kdV V 5) 16 1 (V 16 1 + 1)) 104 (5 * (j : Int) + ((i / 2 : Nat) : Int)) else (jU (kdV V 5) 16 1 (V 16 1 + 1)) 105 (5 * (j : Int) + ((i / 2 : Nat) : Int))
        rw [jU_ne (t' := 104) _ _ (Or.inl (by decide)), jU_ne (t' := 105) _ _ (Or.inl (by decide)), kdV_4, kdV_5, if_neg (show ¬ (5 * V 16 1 ≤ 5 * (j : Int) + ((i / 2 : Nat) : Int) ∧ 5 * (j : Int) + ((i / 2 : Nat) : Int) < 5 * V 16 1 + 5) by omega), if_neg (show ¬ (5 * V 16 1 ≤ 5 * (j : Int) + ((i / 2 : Nat) : Int) ∧ 5 * (j : Int) + ((i / 2 : Nat) : Int) < 5 * V 16 1 + 5) by omega)]
      · rw [c, List.getElem?_append_right (Nat.le_refl _), Nat.sub_self] at hu
        cases hu
        have nwq : ∀ b, (k2.tag b = 9 ∨ k2.tag b = 14 ∨ k2.tag b = 20) → ¬ lW k2 (ρ 0) e0 b := fun b hb z => by
          have := L2.2.2.1
          rcases z with z | z
          · rw [z] at hb; omega
          · rw [z.1] at hb; omega
        refine ⟨g3.tag tq2 (by decide), by rw [g3.I tq2 (by decide) (nwq _ (Or.inl tq2)), c]; exact i1, s, by rw [g3.R tq2 (by decide) (nwq _ (Or.inl tq2))]; exact r1, (o1.kept2 g3 (nwq _ (Or.inr (Or.inl o1.1.1))) (nwq _ (Or.inr (Or.inr o1.1.2.2.1)))).cgP (fun i hi9 => ?_)⟩
        unfold spD kP
        show _ = if i % 2 = 0 then (jU (kdV V 5) 16 1 (V 16 1 + 1)) 104 (5 * (j : Int) + ((i / 2 : Nat) : Int)) else (jU (kdV V 5) 16 1 (V 16 1 + 1)) 105 (5 * (j : Int) + ((i / 2 : Nat) : Int))
        rw [jU_ne (t' := 104) _ _ (Or.inl (by decide)), jU_ne (t' := 105) _ _ (Or.inl (by decide)), kdV_4, kdV_5, if_pos (show (5 * V 16 1 ≤ 5 * (j : Int) + ((i / 2 : Nat) : Int) ∧ 5 * (j : Int) + ((i / 2 : Nat) : Int) < 5 * V 16 1 + 5) by omega), if_pos (show (5 * V 16 1 ≤ 5 * (j : Int) + ((i / 2 : Nat) : Int) ∧ 5 * (j : Int) + ((i / 2 : Nat) : Int) < 5 * V 16 1 + 5) by omega)]
        by_cases z : i % 2 = 0
        · rw [if_pos z, if_neg (by omega)]
        · rw [if_neg z, if_pos (by omega)]
      · rw [List.getElem?_eq_none (by rw [List.length_append]; simp; omega)] at hu
        cases hu
    · obtain ⟨s', k', c', sp', b1, b2, b3, b4⟩ := (a5.k FF e es' (by (try dsimp only); omega) ⟨by (try dsimp only); omega, fun _ _ _ => by (try dsimp only); omega⟩).2.2 l z hz
      refine ⟨s', k', c', sp', b1, b2, ⟨b3.1, ?_⟩, b4⟩
      rw [List.getElem?_append_left (List.getElem?_eq_some_iff.mp b3.2).1]
      exact b3.2
  · refine J.iconst (pc' := 13) rfl rfl ?_
    refine J.iret rfl rfl (by first | omega | (exact R.r _ _) | (simp only [jM.len_sI, jM.len_sL, jM.len_sR, jM.len_fI, jM.len_fL, jM.len_fR]; omega) | (simp [jM.len_nw, jM.len_sI, jM.len_sL, jM.len_sR, jM.len_fI, jM.len_fL, jM.len_fR, *]; omega)) (by first | omega | (exact R.r _ _) | (simp only [jM.len_sI, jM.len_sL, jM.len_sR, jM.len_fI, jM.len_fL, jM.len_fR]; omega) | (simp [jM.len_nw, jM.len_sI, jM.len_sL, jM.len_sR, jM.len_fI, jM.len_fL, jM.len_fR, *]; omega)) ?_
    have es : sp_kind V = (-1, V) := by unfold sp_kind; rw [if_pos (by omega)]
    rw [es]
    exact ⟨rfl, h0, ⟨ρ, σ, ks, ss, cs, ls, ms, hR⟩, Fr.rf⟩
end FD

