section ML4
variable {γ : jG} {h h' : jM} {S : Nat → Prop} {ρ σ : Nat → Nat} {x : Nat} {ks ss cs ls ms : List Nat} {V V' U : VV} {bt : Int → Int}
theorem ml_rep {q : Nat → Nat × Nat × Nat × List Nat} {z bM M e4 e' : Nat} {n : Int} {k k9 : jM} (I0 : Inv V) (hR : RepB γ V h x ρ σ ks ss cs ls ms) (hM : ms.length = M) (hq : ∀ g : Nat, g < 6 → h.R 33 (ρ 5) g = some (q g).1 ∧ hepE γ h ls V g (q g).1 (q g).2.1 (q g).2.2.1 (q g).2.2.2) (I : mlI (jU V 153 M 0) M) (hb : ∀ j, 0 ≤ j → j < 6 → 0 ≤ bt j ∧ bt j ≤ tonsOf (jU V 153 M 0) j) (hs : Sm bt 6 = n) (hn : n ≤ 20) (H : mlS γ h ls q z bM M n k (mlH (jU V 153 M 0) bt 6) 6) (L4 : isL γ k (ρ 4) e4 ms) (L4h : isL γ h (ρ 4) e4 ms) (o4 : ow k (ρ 4) = some 4) (L9 : isL γ k9 (ρ 4) e' (ms ++ [z])) (F9 : Fr k k9 (lW k (ρ 4) e4)) : RepC γ (jU (mlH (jU V 153 M 0) bt 6) 16 52 (M + 1)) k9 x ∧ FrC h k9 clsS := by
  have R := I0.1
  obtain ⟨a1, a2, a3, a4, a5, a6, a7, a8, a9, a10, a11⟩ := hR
  have l4 := csz a4.1
  have l7 := msz a7.1
  have m0 : (jU V 153 M 0) 153 M = 0 := jU_same _ _ _ _
  obtain ⟨u1, u2, u3, u4, u5⟩ := mlH_old m0 I hb (by omega) 6 (Nat.le_refl _)
  obtain ⟨F, HE, ⟨z1, z2, z3, z4⟩, d, zs, C, L, ln, Y, hd⟩ := H
  have t4 := L4h.1
  have te4 := L4h.2.2.1
  have FD9 : FrD k k9 (fun c => c = 5004) := F9.mono (fun b hb w => lW_kd L4 o4 w)
  have o4h : ow h (ρ 4) = some 4 := by rw [← F.ow (b := ρ 4) (by omega)]; exact o4
  have FD : FrD h k9 (fun c => (5010 ≤ c ∧ c < 5016) ∨ (7010 ≤ c ∧ c < 7016) ∨ c = 5004) := F.trans F9 (fun b hb w => by
    rcases w with w | w
    · rcases w with w | w
      · exact Or.inl w
      · exact Or.inr (Or.inl w)
    · refine Or.inr (Or.inr (lW_kd L4h o4h ?_))
      rcases w with w | w
      · exact Or.inl w
      · exact Or.inr ⟨w.1, by rw [← F.len (by omega)]; exact w.2⟩)
  have FC : FrC h k9 (fun c => c = 10 ∨ c = 110 ∨ (5010 ≤ c ∧ c < 5016) ∨ (7010 ≤ c ∧ c < 7016) ∨ c = 5004) := FD.toC (fun c w => Or.inr (Or.inr w)) (Or.inl rfl) (Or.inr (Or.inl rfl))
  have o153 : ∀ r, r ≠ 153 → jU V 153 M 0 r = V r := fun r hr => jU_f _ hr
  have eV : ∀ r, r ≠ 16 → ¬ (fun r : Nat => r = 138 ∨ r = 139 ∨ 153 ≤ r ∧ r ≤ 157) r → jU (mlH (jU V 153 M 0) bt 6) 16 52 (M + 1) r = V r := fun r hr h1 => by
    have h1 : ¬ (r = 138 ∨ r = 139 ∨ 153 ≤ r ∧ r ≤ 157) := h1
    rw [jU_f _ hr, u1 r (by omega) (by omega) (by omega), o153 r (by omega)]
  have es' : ∀ i, ¬ (fun i : Int => i = 52) i → jU (mlH (jU V 153 M 0) bt 6) 16 52 (M + 1) 16 i = V 16 i := fun i hi => by
    rw [jU_ne _ _ (Or.inr hi), u1 16 (by decide) (by decide) (by decide), o153 16 (by decide)]
  have n16 : ∀ r, r ≠ 16 → jU (mlH (jU V 153 M 0) bt 6) 16 52 (M + 1) r = mlH (jU V 153 M 0) bt 6 r := fun r hr => jU_f _ hr
  have r153 : ∀ j, 0 ≤ V 153 j ∧ V 153 j ≤ 20 := fun j => R 153 j rfl
  have wh : ∀ b t, h.tag b = t → (t = 33 ∨ t = 12) → ¬ (fun c => (5010 ≤ c ∧ c < 5016) ∨ (7010 ≤ c ∧ c < 7016) ∨ c = 5004) (kd h b) := fun b t hb ht => by
    rw [kd_t hb (by omega)]
    dsimp only
    omega
  refine ⟨⟨ρ, σ, ks, ss, cs, ls, ms ++ [z], a1.k FC es' (by (try dsimp only); omega) (by (try dsimp only); omega), a2.k FC eV es' (by (try dsimp only); omega) (by (try dsimp only); omega), a3.k FC eV es' (by (try dsimp only); omega) (by (try dsimp only); omega), a4.k FC eV es' (by (try dsimp only); omega) (fun _ _ => (by (try dsimp only); omega)) ⟨by (try dsimp only); omega, fun _ _ _ => by (try dsimp only); omega⟩, a5.k FC eV es' (by (try dsimp only); omega) ⟨by (try dsimp only); omega, fun _ _ _ => by (try dsimp only); omega⟩, ⟨FC.tag a6.1 (by decide), by rw [FC.len (by have := a6.1; omega)]; exact a6.2.1, fun g hg => ?_⟩, ⟨⟨⟨e', L9⟩, by rw [FD.ow (by omega)]; exact o4h⟩, ?_, fun j y hy => ?_⟩, a8.k FC eV a1.1 (by (try dsimp only); omega) (by (try dsimp only); omega), a9.k FC eV es' (by (try dsimp only); omega) (by (try dsimp only); omega), a10.c FC (fun _ _ _ => (by (try dsimp only); omega)) (by (try dsimp only); omega), isK.c FC a11 (by (try dsimp only); omega) (by (try dsimp only); omega)⟩, FC.mono (fun b hb w => ?_)⟩
  · obtain ⟨e, ys, hE, -⟩ := HE g hg
    obtain ⟨d1, d2, d3, d4, d5, d6⟩ := hE.d FD9 (by (try dsimp only); omega)
    refine ⟨(q g).1, (q g).2.1, e, ys, by rw [FD.R a6.1 (by decide) (wh _ _ a6.1 (by omega))]; exact (hq g hg).1, d1, d2, d3, d4, by rw [n16 138 (by decide)]; exact d5, d6.cgP (fun j _ => ⟨by rw [n16 139 (by decide)], by rw [n16 140 (by decide)], by rw [n16 141 (by decide)], fun t _ => ?_⟩)⟩
    unfold yP lowL highL
    rw [n16 140 (by decide), n16 142 (by decide), n16 143 (by decide), n16 134 (by decide), n16 135 (by decide)]
  · rw [List.length_append, jU_same]
    show ((ms.length + 1 : Nat) : Int) = _
    omega
  · have eT : ∀ i, tonsP (jU (mlH (jU V 153 M 0) bt 6) 16 52 (M + 1)) i = tonsP (mlH (jU V 153 M 0) bt 6) i := fun i => by
      unfold tonsP
      rw [n16 153 (by decide), n16 154 (by decide)]
    have ep : ∀ p, pP (jU (mlH (jU V 153 M 0) bt 6) 16 52 (M + 1)) p = pP (mlH (jU V 153 M 0) bt 6) p := fun p => by
      unfold pP
      rw [n16 156 (by decide), n16 157 (by decide)]
    rcases Nat.lt_trichotomy j ms.length with c | c | c
    · rw [List.getElem?_append_left c] at hy
      obtain ⟨a', e2, ys', C', b⟩ := a7.2.2 j y hy
      obtain ⟨d1, d0, d2, d3, d4, d5, d6⟩ := b.d FD (by (try dsimp only); omega)
      have r3 := r153 j
      have e3 : mlH (jU V 153 M 0) bt 6 153 j = V 153 j := by rw [u2 j (by omega), jU_ne _ _ (Or.inr (by omega))]
      have e45 : ∀ i : Nat, (i : Int) < V 153 j → mlH (jU V 153 M 0) bt 6 154 (20 * (j : Int) + i) = V 154 (20 * (j : Int) + i) ∧ mlH (jU V 153 M 0) bt 6 155 (20 * (j : Int) + i) = V 155 (20 * (j : Int) + i) := fun i hi => by
        obtain ⟨f1, f2⟩ := u3 (20 * (j : Int) + i) (by omega)
        rw [f1, f2, o153 154 (by decide), o153 155 (by decide)]
        exact ⟨rfl, rfl⟩
      refine ⟨a', e2, ys', C', d1, ?_, d2, d3, d4, by rw [n16 153 (by decide), e3]; exact d5, d6.cgP (fun i hi => ⟨?_, ?_, rfl, fun t ht => ?_⟩)⟩
      · rw [d0, eT]
        unfold tonsP
        rw [e3]
        exact Sm_cg (fun i hi => ((e45 i (by omega)).1).symm)
      · rw [n16 154 (by decide), (e45 i (by omega)).1]
      · rw [n16 155 (by decide), (e45 i (by omega)).2]
      · rw [ep]
        unfold pP
        obtain ⟨f1, f2⟩ := u4 (20 * (j : Int) + i) ((t / 2 : Nat) : Int) (by omega) (by omega) (by omega)
        rw [f1, f2, o153 156 (by decide), o153 157 (by decide)]
    · rw [c, List.getElem?_append_right (Nat.le_refl _), Nat.sub_self] at hy
      cases hy
      have ej : j = M := by omega
      subst ej
      obtain ⟨f1, f2, f3⟩ := L.d FD9 Y z4 (by (try dsimp only); omega) (by (try dsimp only); omega)
      have w12 : ¬ (fun c => c = 5004) (kd k z) := by rw [kd_t z1 (by decide)]; dsimp only; omega
      refine ⟨bM, d, zs, C, FD9.tag z1 (by decide), ?_, by rw [FD9.R z1 (by decide) w12]; exact z2, f1, f3, by rw [n16 153 (by decide)]; exact ln, f2.cgP (fun i hi => ⟨by rw [n16 154 (by decide)], by rw [n16 155 (by decide)], rfl, fun t _ => by rw [ep]⟩)⟩
      rw [FD9.I z1 (by decide) w12, z3, eT, u5, hs]
    · rw [List.getElem?_eq_none (by rw [List.length_append]; simp; omega)] at hy
      cases hy
  · unfold clsS
    omega
set_option maxHeartbeats 1000000 in
theorem cf_ml41 {n : Int} {c1 c2 : Nat} {X : String → jM → Prop} (hc1 : c1 ≤ 5) (hc2 : c2 ≤ 20) (hn : 1 ≤ n ∧ n ≤ 20) (I0 : Inv V) (hR : RepB γ V h x ρ σ ks ss cs ls ms) (nb : (bestP V n).1 ≠ -1) (n30 : V 16 52 < 30) (ch : ∀ j : Nat, j < 6 → chV h σ j = (bestP V n).2 j) : ∀ lv, hasL lv [(0, .ref x), (1, .int (jI n))] → J γ mX11_melt 10 120 8000 c1 c2 h 41 lv [] (fun r h' => r = some (.int (jI (V 16 52))) ∧ RepC γ (jU (mlH (jU V 153 (V 16 52) 0) (bestP V n).2 6) 16 52 (V 16 52 + 1)) h' x ∧ FrC h h' clsS) X := by
  intro lv hlv
  have R := I0.1
  have hR0 := hR
  obtain ⟨a1, a2, a3, a4, a5, a6, a7, a8, a9, a10, a11⟩ := hR0
  obtain ⟨x0, x1, x2, x3, x4, x5, x6, x7, x8, x9, x10⟩ := a1
  obtain ⟨s0, ⟨r24, t24, l24⟩, -⟩ := a10.1
  obtain ⟨⟨⟨e4, L4⟩, o4⟩, n4, E4⟩ := a7
  have r52 : 0 ≤ V 16 52 ∧ V 16 52 ≤ 30 := R 16 52 rfl
  have eM : ((ms.length : Nat) : Int) = V 16 52 := n4
  have hK := a11.2.2.1
  obtain ⟨q, hq⟩ := a6.fn
  have ba := (bestP_ok R (by omega) : accOk V n (bestP V n)).resolve_left nb
  have hT : ∀ j, tonsOf (jU V 153 (ms.length : Int) 0) j = tonsOf V j := fun j => by
    unfold tonsOf
    rw [jU_f _ (by decide), jU_f _ (by decide)]
  have hb : ∀ j, 0 ≤ j → j < 6 → 0 ≤ (bestP V n).2 j ∧ (bestP V n).2 j ≤ tonsOf (jU V 153 (ms.length : Int) 0) j := fun j j0 j1 => by
    have := ba.2 j j0 j1
    rw [hT]
    unfold mostP at this
    omega
  have IM : mlI (jU V 153 (ms.length : Int) 0) (ms.length : Int) := by
    refine ⟨R.up (fun _ => (by show (0 : Int) ≤ 0 ∧ (0 : Int) ≤ 20; decide)), ?_, ?_⟩
    · intro g j g0 g1 j0 j1
      rw [jU_f _ (by decide)] at j1 ⊢
      exact I0.2.1 g j g0 g1 j0 j1
    · rw [jU_f _ (by decide)]; omega
  refine J.lc hlv ?_
  refine J.new (pc' := 44) (t := 12) (N := 2) (n := 2) rfl ⟨by decide, by decide, _, rfl, rfl, List.mem_of_getElem? (i := 498) (by decide +kernel), List.mem_of_getElem? (i := 1342) (by decide +kernel), List.mem_of_getElem? (i := 97) (by decide +kernel)⟩ (by first | omega | (exact R.r _ _) | (simp only [jM.len_sI, jM.len_sL, jM.len_sR, jM.len_fI, jM.len_fL, jM.len_fR]; omega) | (simp [jM.len_nw, jM.len_sI, jM.len_sL, jM.len_sR, jM.len_fI, jM.len_fL, jM.len_fR, *]; omega)) (by first | omega | (exact R.r _ _) | (simp only [jM.len_sI, jM.len_sL, jM.len_sR, jM.len_fI, jM.len_fL, jM.len_fR]; omega) | (simp [jM.len_nw, jM.len_sI, jM.len_sL, jM.len_sR, jM.len_fI, jM.len_fL, jM.len_fR, *]; omega)) rfl (fun z zf zb => ?_)
  have Fz : Fr h (h.nw z 12 2) (fun _ => False) := Fr.stN Fr.rf zf
  have tz : (h.nw z 12 2).tag z = 12 := by rw [jM.tag_nw, if_pos rfl]
  have hKz : (h.nw z 12 2).tag (γ.K 0) = 34 ∧ (h.nw z 12 2).len (γ.K 0) = 0 := ⟨Fz.tag a11.2.2.2.1 (by decide), by rw [Fz.len (by rw [a11.2.2.2.1]; decide)]; exact a11.2.2.2.2⟩
  generalize h.nw z 12 2 = h1 at Fz tz hKz ⊢
  refine J.dup (pc' := 45) rfl rfl rfl ?_
  refine J.iload_n (pc' := 46) rfl rfl rfl ?_
  refine J.callI (pc' := 49) rfl MX8_init ml_X11_285 iv_X8_init ⟨rfl, rfl⟩ (cx_Melt (n := n) tz hKz) rfl rfl (Nat.le_of_ble_eq_true rfl) (by first | omega | (exact R.r _ _) | (simp only [jM.len_sI, jM.len_sL, jM.len_sR, jM.len_fI, jM.len_fL, jM.len_fR]; omega) | (simp [jM.len_nw, jM.len_sI, jM.len_sL, jM.len_sR, jM.len_fI, jM.len_fL, jM.len_fR, *]; omega)) (by first | omega | (exact R.r _ _) | (simp only [jM.len_sI, jM.len_sL, jM.len_sR, jM.len_fI, jM.len_fL, jM.len_fR]; omega) | (simp [jM.len_nw, jM.len_sI, jM.len_sL, jM.len_sR, jM.len_fI, jM.len_fL, jM.len_fR, *]; omega)) (by first | omega | (exact R.r _ _) | (simp only [jM.len_sI, jM.len_sL, jM.len_sR, jM.len_fI, jM.len_fL, jM.len_fR]; omega) | (simp [jM.len_nw, jM.len_sI, jM.len_sL, jM.len_sR, jM.len_fI, jM.len_fL, jM.len_fR, *]; omega)) rfl ?_
  rintro _ h2 ⟨rfl, bM, bf, Lb, zR, zI, F2, N2⟩
  have bf0 : h.tag bM = 0 := Fz.free bf
  have F2' : Fr h h2 (fun _ => False) := Fz.trans F2 (fun b hb w => by
    rcases w with w | w
    · exact w
    · rw [w] at hb; exact absurd zf hb)
  refine J.own bM 0 (some (100 + ms.length)) ?_
  have F3 : Fr h (h2.sR 0 bM 0 (some (100 + ms.length))) (fun _ => False) := Fr.stO F2' bf0
  have tz3 : (h2.sR 0 bM 0 (some (100 + ms.length))).tag z = 12 := F2.tag tz (by decide)
  have zR3 : (h2.sR 0 bM 0 (some (100 + ms.length))).R 12 z 1 = some bM := by rw [jM.R_sR, if_neg (by omega)]; exact zR
  have zI3 : (h2.sR 0 bM 0 (some (100 + ms.length))).I 12 z 0 = n := zI
  have o3 : ow (h2.sR 0 bM 0 (some (100 + ms.length))) bM = some (100 + ms.length) := by show (h2.sR 0 bM 0 (some (100 + ms.length))).R 0 bM 0 = _; rw [jM.R_sR, if_pos ⟨rfl, rfl, rfl⟩]
  have Lb3 : isL γ (h2.sR 0 bM 0 (some (100 + ms.length))) bM (γ.K 0) [] := by
    obtain ⟨b1, b2, b3, b4, b5, b6, b7, b8, b9⟩ := Lb
    exact ⟨b1, by rw [jM.R_sR, if_neg (by omega)]; exact b2, b3, b4, b5, b6, b7, fun i hi => absurd hi (Nat.not_lt_zero _), b9⟩
  have l03 : (h2.sR 0 bM 0 (some (100 + ms.length))).len (γ.K 0) = 0 := by rw [F3.len (by rw [a11.2.2.2.1]; decide)]; exact a11.2.2.2.2
  generalize h2.sR 0 bM 0 (some (100 + ms.length)) = k at F3 tz3 zR3 zI3 o3 Lb3 l03 ⊢
  first | refine J.astore_n (pc' := 50) rfl rfl (by decide) ?_ | refine J.astore_nN (pc' := 50) rfl rfl (by decide) ?_
  refine J.iconst (pc' := 51) rfl rfl ?_
  refine J.istore_n (pc' := 52) rfl rfl (by decide) ?_
  have m0 : (jU V 153 (ms.length : Int) 0) 153 (ms.length : Int) = 0 := jU_same _ _ _ _
  have H0 : mlS γ h ls q z bM ms.length n k (mlH (jU V 153 (ms.length : Int) 0) (bestP V n).2 0) 0 := by
    refine ⟨F3.mono (fun _ _ w => w.elim), fun g hg => ?_, ⟨tz3, zR3, zI3, o3⟩, γ.K 0, [], fun _ => 0, ⟨Lb3, List.nodup_nil, fun y hy => by simp at hy⟩, ?_, fun i y hy => by simp at hy, Or.inr l03⟩
    · have FX : FrD h k (fun c => c = 9999) := F3.mono (fun _ _ w => w.elim)
      obtain ⟨d1, d2, d3, d4, d5, d6⟩ := (hq g hg).2.d FX (by (try dsimp only); omega)
      refine ⟨_, _, ⟨d1, d2, d3, d4, ?_, d6.cgP (fun j _ => ⟨?_, ?_, ?_, fun t _ => ?_⟩)⟩, fun _ => ⟨rfl, rfl⟩⟩
      · rw [mlH, jU_f _ (by decide)]; exact d5
      · rw [mlH, jU_f _ (by decide)]
      · rw [mlH, jU_f _ (by decide)]
      · rw [mlH, jU_f _ (by decide)]
      · unfold yP lowL highL
        rw [mlH, jU_f _ (by decide), jU_f _ (by decide), jU_f _ (by decide), jU_f _ (by decide), jU_f _ (by decide)]
    · rw [mlH, m0]; rfl
  refine cf_mlL (ρ := ρ) (σ := σ) (V := V) (U := jU V 153 (ms.length : Int) 0) (bt := (bestP V n).2) (M := ms.length) (n := n) (z := z) (bM := bM) (q := q) (h := h) (x := x) (ls := ls) hq bf0 (by omega) I0.2.2.2.1 R hK m0 IM hb (by omega) x0 x6 a6.1 a6.2.1 x8 s0 r24 t24 l24 (fun j hj => ch j hj) ?_ 6 0 rfl k _ _ ?_ ?_ H0 _ ⟨rfl, rfl, rfl, trivial⟩
  · intro k5 c1' c2' H5 hc1' hc2' lv5 hlv5
    have H5' := H5
    obtain ⟨F5, HE5, ⟨z1, z2, z3, z4⟩, -⟩ := H5'
    have t4 := L4.1
    have te4 := L4.2.2.1
    have nw : ∀ b t, h.tag b = t → (t = 15 ∨ t = 12) → ¬ (fun b => (5010 ≤ kd h b ∧ kd h b < 5016) ∨ (7010 ≤ kd h b ∧ kd h b < 7016)) b := fun b t hb ht => by
      dsimp only
      rw [kd_t hb (by omega)]
      omega
    have L45 : isL γ k5 (ρ 4) e4 ms := by
      refine L4.keptW F5 (fun w => ?_) ?_
      · have := lW_kd L4 o4 (Or.inl rfl)
        rw [this] at w
        omega
      · by_cases l0 : h.len e4 = 0
        · exact Or.inr l0
        · refine Or.inl (fun w => ?_)
          have := lW_kd L4 o4 (Or.inr ⟨rfl, l0⟩)
          rw [this] at w
          omega
    have tx5 := F5.tag x0 (by decide)
    have rx5 : k5.R 15 x 4 = some (ρ 4) := by rw [F5.R x0 (by decide) (nw _ _ x0 (by omega))]; exact x5
    have o45 : ow k5 (ρ 4) = some 4 := by rw [F5.ow (by omega)]; exact o4
    have t45 := L45.1
    refine J.lc hlv5 ?_
    first | refine J.aload_n (pc' := 87) rfl rfl rfl ?_ | refine J.aload_nN (pc' := 87) rfl rfl rfl ?_
    first | refine J.getR (pc' := 90) rfl fl_X11_25 rfl (by first | assumption | (simp only [jM.tag_sI, jM.tag_sL, jM.tag_sR, jM.tag_fI, jM.tag_fL, jM.tag_fR]; assumption) | (simp [jM.tag_nw, jM.tag_sI, jM.tag_sL, jM.tag_sR, jM.tag_fI, jM.tag_fL, jM.tag_fR, *]; done)) (by first | assumption | (simp only [jM.R_sI, jM.R_sL, jM.R_fI, jM.R_fL]; assumption) | (simp [jM.R_nw, jM.R_sR, jM.R_fR, jM.R_sI, jM.R_sL, jM.R_fI, jM.R_fL, *]; done)) rfl ?_ | refine J.getRN (pc' := 90) rfl fl_X11_25 rfl (by first | assumption | (simp only [jM.tag_sI, jM.tag_sL, jM.tag_sR, jM.tag_fI, jM.tag_fL, jM.tag_fR]; assumption) | (simp [jM.tag_nw, jM.tag_sI, jM.tag_sL, jM.tag_sR, jM.tag_fI, jM.tag_fL, jM.tag_fR, *]; done)) (by first | assumption | (simp only [jM.R_sI, jM.R_sL, jM.R_fI, jM.R_fL]; assumption) | (simp [jM.R_nw, jM.R_sR, jM.R_fR, jM.R_sI, jM.R_sL, jM.R_fI, jM.R_fL, *]; done)) rfl ?_
    first | refine J.aload_n (pc' := 91) rfl rfl rfl ?_ | refine J.aload_nN (pc' := 91) rfl rfl rfl ?_
    refine J.callV (pc' := 94) (t := 3) rfl MJx4a65c_add_9ea2d ml_X11_69 iv_Jx4a65c_add_9ea2d (by decide) ⟨_, rfl, rfl⟩ (by first | assumption | (simp only [jM.tag_sI, jM.tag_sL, jM.tag_sR, jM.tag_fI, jM.tag_fL, jM.tag_fR]; assumption) | (simp [jM.tag_nw, jM.tag_sI, jM.tag_sL, jM.tag_sR, jM.tag_fI, jM.tag_fL, jM.tag_fR, *]; done)) (cl_add (x := z) L45 (fun y hy => by obtain ⟨j, hj, ej⟩ := List.getElem_of_mem hy; obtain ⟨_, _, _, _, w⟩ := E4 j y (by rw [List.getElem?_eq_getElem hj, ej]); rw [F5.tag w.1 (by decide)]; rfl) (by omega) (by rw [z1]; rfl) hK) rfl rfl (Nat.le_of_ble_eq_true rfl) (by first | omega | (exact R.r _ _) | (simp only [jM.len_sI, jM.len_sL, jM.len_sR, jM.len_fI, jM.len_fL, jM.len_fR]; omega) | (simp [jM.len_nw, jM.len_sI, jM.len_sL, jM.len_sR, jM.len_fI, jM.len_fL, jM.len_fR, *]; omega)) (by first | omega | (exact R.r _ _) | (simp only [jM.len_sI, jM.len_sL, jM.len_sR, jM.len_fI, jM.len_fL, jM.len_fR]; omega) | (simp [jM.len_nw, jM.len_sI, jM.len_sL, jM.len_sR, jM.len_fI, jM.len_fL, jM.len_fR, *]; omega)) (by first | omega | (exact R.r _ _) | (simp only [jM.len_sI, jM.len_sL, jM.len_sR, jM.len_fI, jM.len_fL, jM.len_fR]; omega) | (simp [jM.len_nw, jM.len_sI, jM.len_sL, jM.len_sR, jM.len_fI, jM.len_fL, jM.len_fR, *]; omega)) rfl rfl ?_ ?_
    · exact fun _ _ z => z.elim
    rintro _ k9 ⟨rfl, e', L9, g2, F9, N9⟩
    have fin := ml_rep (n := n) I0 hR rfl hq IM hb ba.1 hn.2 H5 L45 L4 o45 L9 F9
    have tx9 := F9.tag tx5 (by decide)
    have rx9 : k9.R 15 x 4 = some (ρ 4) := by
      rw [F9.R tx5 (by decide) (fun w => ?_)]
      · exact rx5
      · rcases w with w | w
        · rw [w] at tx5; omega
        · have := L45.2.2.1; rw [w.1] at tx5; omega
    have t49 := L9.1
    refine J.pop (pc' := 95) rfl rfl rfl ?_
    first | refine J.aload_n (pc' := 96) rfl rfl rfl ?_ | refine J.aload_nN (pc' := 96) rfl rfl rfl ?_
    first | refine J.getR (pc' := 99) rfl fl_X11_25 rfl (by first | assumption | (simp only [jM.tag_sI, jM.tag_sL, jM.tag_sR, jM.tag_fI, jM.tag_fL, jM.tag_fR]; assumption) | (simp [jM.tag_nw, jM.tag_sI, jM.tag_sL, jM.tag_sR, jM.tag_fI, jM.tag_fL, jM.tag_fR, *]; done)) (by first | assumption | (simp only [jM.R_sI, jM.R_sL, jM.R_fI, jM.R_fL]; assumption) | (simp [jM.R_nw, jM.R_sR, jM.R_fR, jM.R_sI, jM.R_sL, jM.R_fI, jM.R_fL, *]; done)) rfl ?_ | refine J.getRN (pc' := 99) rfl fl_X11_25 rfl (by first | assumption | (simp only [jM.tag_sI, jM.tag_sL, jM.tag_sR, jM.tag_fI, jM.tag_fL, jM.tag_fR]; assumption) | (simp [jM.tag_nw, jM.tag_sI, jM.tag_sL, jM.tag_sR, jM.tag_fI, jM.tag_fL, jM.tag_fR, *]; done)) (by first | assumption | (simp only [jM.R_sI, jM.R_sL, jM.R_fI, jM.R_fL]; assumption) | (simp [jM.R_nw, jM.R_sR, jM.R_fR, jM.R_sI, jM.R_sL, jM.R_fI, jM.R_fL, *]; done)) rfl ?_
    refine J.callV (pc' := 102) (t := 3) rfl MJx4a65c_size_8abf5 ml_X11_60 iv_Jx4a65c_size_8abf5 (by decide) ⟨_, rfl, rfl⟩ (by first | assumption | (simp only [jM.tag_sI, jM.tag_sL, jM.tag_sR, jM.tag_fI, jM.tag_fL, jM.tag_fR]; assumption) | (simp [jM.tag_nw, jM.tag_sI, jM.tag_sL, jM.tag_sR, jM.tag_fI, jM.tag_fL, jM.tag_fR, *]; done)) L9.size rfl rfl (Nat.le_of_ble_eq_true rfl) (by first | omega | (exact R.r _ _) | (simp only [jM.len_sI, jM.len_sL, jM.len_sR, jM.len_fI, jM.len_fL, jM.len_fR]; omega) | (simp [jM.len_nw, jM.len_sI, jM.len_sL, jM.len_sR, jM.len_fI, jM.len_fL, jM.len_fR, *]; omega)) (by first | omega | (exact R.r _ _) | (simp only [jM.len_sI, jM.len_sL, jM.len_sR, jM.len_fI, jM.len_fL, jM.len_fR]; omega) | (simp [jM.len_nw, jM.len_sI, jM.len_sL, jM.len_sR, jM.len_fI, jM.len_fL, jM.len_fR, *]; omega)) (by first | omega | (exact R.r _ _) | (simp only [jM.len_sI, jM.len_sL, jM.len_sR, jM.len_fI, jM.len_fL, jM.len_fR]; omega) | (simp [jM.len_nw, jM.len_sI, jM.len_sL, jM.len_sR, jM.len_fI, jM.len_fL, jM.len_fR, *]; omega)) rfl rfl ?_ ?_
    · exact fun _ _ z => z.elim
    rintro _ k9 ⟨rfl, rfl⟩
    refine J.iconst (pc' := 103) rfl rfl ?_
    refine J.isub (pc' := 104) rfl rfl ?_
    refine J.iret rfl rfl (by first | omega | (exact R.r _ _) | (simp only [jM.len_sI, jM.len_sL, jM.len_sR, jM.len_fI, jM.len_fL, jM.len_fR]; omega) | (simp [jM.len_nw, jM.len_sI, jM.len_sL, jM.len_sR, jM.len_fI, jM.len_fL, jM.len_fR, *]; omega)) (by first | omega | (exact R.r _ _) | (simp only [jM.len_sI, jM.len_sL, jM.len_sR, jM.len_fI, jM.len_fL, jM.len_fR]; omega) | (simp [jM.len_nw, jM.len_sI, jM.len_sL, jM.len_sR, jM.len_fI, jM.len_fL, jM.len_fR, *]; omega)) ?_
    rw [eM] at fin
    refine ⟨?_, fin.1, fin.2⟩
    congr 3
    rw [List.length_append]
    show ((ms.length + 1 : Nat) : Int) - 1 = _
    omega
  · show _ ≤ 20 + 4 * ((0 : Nat) : Int) + 0
    omega
  · show _ ≤ 100 + 165 * ((0 : Nat) : Int) + 150 * 0
    omega
end ML4

