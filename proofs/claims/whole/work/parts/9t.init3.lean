section IN3
variable {γ : jG} {h k k' : jM} {ρ σ : Nat → Nat} {x n : Nat} {mc ms c1 c2 : Nat}
theorem inT.keep5 (H : inT γ h x k ρ σ 9) (F : Fr k k' (fun b => b = ρ 5)) : inT γ h x k' ρ σ 9 := by
  obtain ⟨a1, a2, a3, a4, a5, a6, a7, a8⟩ := H
  obtain ⟨b1, b2, b3, b4⟩ := a5 (by decide)
  have FC : FrC k k' (fun c => c = 33) := F.mono (fun b _ w => by rw [w]; exact kc_o b2 (by decide))
  have hx : ∀ j, k'.R 15 x j = k.R 15 x j := fun j => FC.R a1 (by decide) (by rw [kc_o a1 (by decide)]; decide) j
  refine ⟨F.tag a1 (by decide), a2.trans F (fun b hb w => ?_), isK.c FC a3 (by (try dsimp only); omega) (by (try dsimp only); omega), fun j h5 hj => ?_, fun hj => ?_, fun hj => ?_, fun hj => ?_, fun hj => ?_⟩
  · rcases w with w | w
    · exact w
    · rw [w] at hb; exact absurd b4 hb
  · obtain ⟨b1, b2⟩ := a4 j h5 hj
    exact ⟨by rw [hx j]; exact b1, b2.c FC (by (try dsimp only); omega)⟩
  · exact ⟨by rw [hx 5]; exact b1, F.tag b2 (by decide), by rw [F.len (by omega)]; exact b3, b4⟩
  · obtain ⟨b1, b2⟩ := a6 hj
    exact ⟨by rw [hx 6]; exact b1, b2.c FC a1 (by (try dsimp only); omega)⟩
  · obtain ⟨b1, b2⟩ := a7 hj
    exact ⟨by rw [hx 7]; exact b1, b2.c FC (fun _ _ _ => (by (try dsimp only); omega)) (by (try dsimp only); omega)⟩
  · obtain ⟨b1, b2⟩ := a8 hj
    exact ⟨by rw [hx 8]; exact b1, b2.c FC (by (try dsimp only); omega) (by (try dsimp only); omega)⟩
abbrev inQ (γ : jG) (h : jM) (x : Nat) : Option Value → jM → Prop := fun r h' => r = none ∧ RepC γ V0 h' x ∧ Fr h h' (fun b => b = x)
theorem in_heaps {mc ms : Nat} : ∀ (m i : Nat), i + m = 6 → ∀ (k : jM) (c1 c2 : Nat), c1 + 2 * m ≤ mc → c2 + 4 * m ≤ ms → inT γ h x k ρ σ 9 → k.I 15 x 9 = 0 → (∀ g : Nat, g < i → ∃ p a, k.R 33 (ρ 5) g = some p ∧ hepE γ k [] V0 g p a (γ.K 0) []) → ∀ lv, hasL lv [(0, .ref x), (1, .int (jI (i : Int)))] → J γ mX11_init 5 mc ms c1 c2 k 108 lv [] (inQ γ h x) X0 := by
  intro m
  induction m with
  | zero =>
    intro i hi k c1 c2 hc1 hc2 H h9 HE lv hlv
    refine J.lc hlv ?_
    refine J.iload_n (pc' := 109) rfl rfl rfl ?_
    refine J.bipush (pc' := 111) rfl rfl (by decide) ?_
    refine J.icmp_ge (tgt := 133) (pc' := 114) rfl rfl rfl (by first | omega | (exact R.r _ _) | (simp only [jM.len_sI, jM.len_sL, jM.len_sR, jM.len_fI, jM.len_fL, jM.len_fR]; omega) | (simp [jM.len_nw, jM.len_sI, jM.len_sL, jM.len_sR, jM.len_fI, jM.len_fL, jM.len_fR, *]; omega)) (by first | omega | (exact R.r _ _) | (simp only [jM.len_sI, jM.len_sL, jM.len_sR, jM.len_fI, jM.len_fL, jM.len_fR]; omega) | (simp [jM.len_nw, jM.len_sI, jM.len_sL, jM.len_sR, jM.len_fI, jM.len_fL, jM.len_fR, *]; omega)) (fun c3 => ?_) (fun c3 => ?_)
    · refine J.vret rfl rfl (by first | omega | (exact R.r _ _) | (simp only [jM.len_sI, jM.len_sL, jM.len_sR, jM.len_fI, jM.len_fL, jM.len_fR]; omega) | (simp [jM.len_nw, jM.len_sI, jM.len_sL, jM.len_sR, jM.len_fI, jM.len_fL, jM.len_fR, *]; omega)) (by first | omega | (exact R.r _ _) | (simp only [jM.len_sI, jM.len_sL, jM.len_sR, jM.len_fI, jM.len_fL, jM.len_fR]; omega) | (simp [jM.len_nw, jM.len_sI, jM.len_sL, jM.len_sR, jM.len_fI, jM.len_fL, jM.len_fR, *]; omega)) ?_
      obtain ⟨a1, a2, a3, a4, a5, a6, a7, a8⟩ := H
      have l : ∀ j, j < 5 → k.R 15 x j = some (ρ j) ∧ isLi γ k j (ρ j) [] := fun j hj => a4 j hj (by omega)
      obtain ⟨b1, b2, b3, b4⟩ := a5 (by decide)
      have v0 : ∀ t i, t ≠ 147 → V0 t i = 0 := fun t i ht => by unfold V0; rw [if_neg (fun w => ht w.1)]
      refine ⟨rfl, ⟨ρ, σ, [], [], [], [], [], ⟨a1, (l 0 (by decide)).1, (l 1 (by decide)).1, (l 2 (by decide)).1, (l 3 (by decide)).1, (l 4 (by decide)).1, b1, (a6 (by decide)).1, (a7 (by decide)).1, (a8 (by decide)).1, by rw [h9, v0 _ _ (by decide)]⟩, ⟨(l 0 (by decide)).2, (v0 _ _ (by decide)).symm, fun k z hz => by simp at hz⟩, ⟨(l 1 (by decide)).2, (v0 _ _ (by decide)).symm, fun k z hz => by simp at hz⟩, ⟨(l 2 (by decide)).2, (v0 _ _ (by decide)).symm, fun k z hz => by simp at hz⟩, ⟨(l 3 (by decide)).2, (v0 _ _ (by decide)).symm, fun k z hz => by simp at hz⟩, ⟨b2, b3, fun g hg => ?_⟩, ⟨(l 4 (by decide)).2, (v0 _ _ (by decide)).symm, fun k z hz => by simp at hz⟩, (a6 (by decide)).2, (a8 (by decide)).2, (a7 (by decide)).2, a3⟩, a2⟩
      obtain ⟨p, a, q1, q2⟩ := HE g (by omega)
      exact ⟨p, a, _, _, q1, q2⟩
    · omega
  | succ m ih =>
    intro i hi k c1 c2 hc1 hc2 H h9 HE lv hlv
    have tx := H.1
    obtain ⟨b1, b2, b3, b4⟩ := H.2.2.2.2.1 (by decide)
    refine J.lc hlv ?_
    refine J.iload_n (pc' := 109) rfl rfl rfl ?_
    refine J.bipush (pc' := 111) rfl rfl (by decide) ?_
    refine J.icmp_ge (tgt := 133) (pc' := 114) rfl rfl rfl (by first | omega | (exact R.r _ _) | (simp only [jM.len_sI, jM.len_sL, jM.len_sR, jM.len_fI, jM.len_fL, jM.len_fR]; omega) | (simp [jM.len_nw, jM.len_sI, jM.len_sL, jM.len_sR, jM.len_fI, jM.len_fL, jM.len_fR, *]; omega)) (by first | omega | (exact R.r _ _) | (simp only [jM.len_sI, jM.len_sL, jM.len_sR, jM.len_fI, jM.len_fL, jM.len_fR]; omega) | (simp [jM.len_nw, jM.len_sI, jM.len_sL, jM.len_sR, jM.len_fI, jM.len_fL, jM.len_fR, *]; omega)) (fun c3 => ?_) (fun c3 => ?_)
    · omega
    first | refine J.aload_n (pc' := 115) rfl rfl rfl ?_ | refine J.aload_nN (pc' := 115) rfl rfl rfl ?_
    first | refine J.getR (pc' := 118) rfl fl_X11_30 rfl (by first | assumption | (simp only [jM.tag_sI, jM.tag_sL, jM.tag_sR, jM.tag_fI, jM.tag_fL, jM.tag_fR]; assumption) | (simp [jM.tag_nw, jM.tag_sI, jM.tag_sL, jM.tag_sR, jM.tag_fI, jM.tag_fL, jM.tag_fR, *]; done)) (by first | assumption | (simp only [jM.R_sI, jM.R_sL, jM.R_fI, jM.R_fL]; assumption) | (simp [jM.R_nw, jM.R_sR, jM.R_fR, jM.R_sI, jM.R_sL, jM.R_fI, jM.R_fL, *]; done)) rfl ?_ | refine J.getRN (pc' := 118) rfl fl_X11_30 rfl (by first | assumption | (simp only [jM.tag_sI, jM.tag_sL, jM.tag_sR, jM.tag_fI, jM.tag_fL, jM.tag_fR]; assumption) | (simp [jM.tag_nw, jM.tag_sI, jM.tag_sL, jM.tag_sR, jM.tag_fI, jM.tag_fL, jM.tag_fR, *]; done)) (by first | assumption | (simp only [jM.R_sI, jM.R_sL, jM.R_fI, jM.R_fL]; assumption) | (simp [jM.R_nw, jM.R_sR, jM.R_fR, jM.R_sI, jM.R_sL, jM.R_fI, jM.R_fL, *]; done)) rfl ?_
    refine J.iload_n (pc' := 119) rfl rfl rfl ?_
    refine J.new (pc' := 122) (t := 8) (N := 1) (n := 1) rfl ⟨by decide, by decide, _, rfl, rfl, List.mem_of_getElem? (i := 132) (by decide +kernel), List.mem_of_getElem? (i := 212) (by decide +kernel), List.mem_of_getElem? (i := 74) (by decide +kernel)⟩ (by first | omega | (exact R.r _ _) | (simp only [jM.len_sI, jM.len_sL, jM.len_sR, jM.len_fI, jM.len_fL, jM.len_fR]; omega) | (simp [jM.len_nw, jM.len_sI, jM.len_sL, jM.len_sR, jM.len_fI, jM.len_fL, jM.len_fR, *]; omega)) (by first | omega | (exact R.r _ _) | (simp only [jM.len_sI, jM.len_sL, jM.len_sR, jM.len_fI, jM.len_fL, jM.len_fR]; omega) | (simp [jM.len_nw, jM.len_sI, jM.len_sL, jM.len_sR, jM.len_fI, jM.len_fL, jM.len_fR, *]; omega)) rfl (fun p pf pb => ?_)
    have F1 : Fr k (k.nw p 8 1) (fun _ => False) := Fr.stN Fr.rf pf
    have tp : (k.nw p 8 1).tag p = 8 := by rw [jM.tag_nw, if_pos rfl]
    have K1 : (k.nw p 8 1).tag (γ.K 0) = 34 ∧ (k.nw p 8 1).len (γ.K 0) = 0 := ⟨F1.tag H.2.2.1.2.2.2.1 (by decide), by rw [F1.len (by rw [H.2.2.1.2.2.2.1]; decide)]; exact H.2.2.1.2.2.2.2⟩
    generalize k.nw p 8 1 = k1 at F1 tp K1 ⊢
    refine J.dup (pc' := 123) rfl rfl rfl ?_
    refine J.callIN (pc' := 126) rfl MX4_init ml_X11_59 iv_X4_init ⟨rfl, rfl⟩ (cx_Heap tp K1) rfl rfl (Nat.le_of_ble_eq_true rfl) (by first | omega | (exact R.r _ _) | (simp only [jM.len_sI, jM.len_sL, jM.len_sR, jM.len_fI, jM.len_fL, jM.len_fR]; omega) | (simp [jM.len_nw, jM.len_sI, jM.len_sL, jM.len_sR, jM.len_fI, jM.len_fL, jM.len_fR, *]; omega)) (by first | omega | (exact R.r _ _) | (simp only [jM.len_sI, jM.len_sL, jM.len_sR, jM.len_fI, jM.len_fL, jM.len_fR]; omega) | (simp [jM.len_nw, jM.len_sI, jM.len_sL, jM.len_sR, jM.len_fI, jM.len_fL, jM.len_fR, *]; omega)) (by first | omega | (exact R.r _ _) | (simp only [jM.len_sI, jM.len_sL, jM.len_sR, jM.len_fI, jM.len_fL, jM.len_fR]; omega) | (simp [jM.len_nw, jM.len_sI, jM.len_sL, jM.len_sR, jM.len_fI, jM.len_fL, jM.len_fR, *]; omega)) rfl ?_
    rintro _ k2 ⟨rfl, a, af, La, ra, F2, N2⟩
    have F2' : Fr k k2 (fun _ => False) := F1.trans F2 (fun b hb w => by
      rcases w with w | w
      · exact w
      · rw [w] at hb; exact absurd pf hb)
    have af0 := F1.free af
    refine J.own a 0 (some (10 + i)) ?_
    have F3 : Fr k (k2.sR 0 a 0 (some (10 + i))) (fun _ => False) := Fr.stO F2' af0
    have tp3 : (k2.sR 0 a 0 (some (10 + i))).tag p = 8 := F2.tag tp (by decide)
    have ra3 : (k2.sR 0 a 0 (some (10 + i))).R 8 p 0 = some a := by rw [jM.R_sR, if_neg (by omega)]; exact ra
    have o3 : ow (k2.sR 0 a 0 (some (10 + i))) a = some (10 + i) := by show (k2.sR 0 a 0 (some (10 + i))).R 0 a 0 = _; rw [jM.R_sR, if_pos ⟨rfl, rfl, rfl⟩]
    have La3 : isL γ (k2.sR 0 a 0 (some (10 + i))) a (γ.K 0) [] := by
      obtain ⟨b1, b2, b3, b4, b5, b6, b7, b8, b9⟩ := La
      exact ⟨b1, by rw [jM.R_sR, if_neg (by omega)]; exact b2, b3, b4, b5, b6, b7, fun i hi => absurd hi (Nat.not_lt_zero _), b9⟩
    have l3 : (k2.sR 0 a 0 (some (10 + i))).len (γ.K 0) = 0 := by rw [F3.len (by rw [H.2.2.1.2.2.2.1]; decide)]; exact H.2.2.1.2.2.2.2
    generalize k2.sR 0 a 0 (some (10 + i)) = k3 at F3 tp3 ra3 o3 La3 l3 ⊢
    have t53 := F3.tag b2 (by decide)
    have l53 : k3.len (ρ 5) = 6 := by rw [F3.len (by omega)]; exact b3
    have ta := La3.1
    refine J.aast (pc' := 127) (t := 33) (tb := 8) (cn := "ScrapYard$Heap") rfl t53 (by decide) rfl (by decide) tp3 (by decide) ⟨_, rfl, Or.inl rfl⟩ (by omega) (by omega) (by omega) rfl rfl ?_
    refine J.iinc (pc' := 130) rfl rfl rfl (by decide) ?_
    refine J.goto (tgt := 108) rfl rfl ?_
    have ei : (i : Int).toNat = i := by omega
    rw [ei]
    have F5 : Fr k3 (k3.sR 33 (ρ 5) i (some p)) (fun b => b = ρ 5) := Fr.stR Fr.rf (Or.inl rfl)
    have FK : Fr k (k3.sR 33 (ρ 5) i (some p)) (fun b => b = ρ 5) := F3.trans F5 (fun b _ w => w.elim False.elim id)
    have FC : FrC k (k3.sR 33 (ρ 5) i (some p)) (fun c => c = 33) := FK.mono (fun b _ w => by rw [w]; exact kc_o b2 (by decide))
    refine ih (i + 1) (by omega) _ _ _ ?_ ?_ (H.keep5 FK) (by rw [jM.I_sR, F3.I tx (by decide) id]; exact h9) (fun g hg => ?_) _ ⟨rfl, rfl, trivial⟩
    · omega
    · omega
    · by_cases c : g = i
      · subst c
        refine ⟨p, a, by rw [jM.R_sR, if_pos ⟨rfl, rfl, rfl⟩], tp3, by rw [jM.R_sR, if_neg (by omega)]; exact ra3, ⟨La3.keptW F5 (fun w => by rw [w] at ta; omega) (Or.inr l3), List.nodup_nil, fun y hy => by simp at hy⟩, by rw [F5.ow (by omega)]; exact o3, ?_, fun j y hy => by simp at hy⟩
        unfold V0
        rw [if_neg (by omega)]
        rfl
      · obtain ⟨p', a', q1, q2⟩ := HE g (by omega)
        exact ⟨p', a', by rw [jM.R_sR, if_neg (by omega), F3.R b2 (by decide) id]; exact q1, q2.c FC (by (try dsimp only); omega) (by (try dsimp only); omega) (by (try dsimp only); omega) (by (try dsimp only); omega)⟩
theorem cx_Yard {x : Nat} (tx : h.tag x = 15) (hK : isK γ h) : CT γ mX11_init 5 60 3300 [.ref x] h (inQ γ h x) X0 := by
  refine CT.of MX11_init (Nat.le_of_ble_eq_true rfl) ?_
  show J γ mX11_init 5 60 3300 0 0 h 0 [(0, .ref x)] [] _ _
  first | refine J.aload_n (pc' := 1) rfl rfl rfl ?_ | refine J.aload_nN (pc' := 1) rfl rfl rfl ?_
  refine J.objI (pc' := 4) rfl (List.mem_of_getElem? (i := 103) (by decide +kernel)) jObj_i jObj_c (by omega) (Nat.le_of_ble_eq_true rfl) rfl ?_
  have H0 : inT γ h x h (fun _ => 0) (fun _ => 0) 0 := ⟨tx, Fr.rf, hK, fun j _ w => absurd w (Nat.not_lt_zero _), fun w => absurd w (by decide), fun w => absurd w (by decide), fun w => absurd w (by decide), fun w => absurd w (by decide)⟩
  refine in_l0 (by omega) (by omega) H0 (fun k1 r1 H1 => ?_) _ ⟨rfl, trivial⟩
  refine in_l1 (by omega) (by omega) H1 (fun k2 r2 H2 => ?_)
  refine in_l2 (by omega) (by omega) H2 (fun k3 r3 H3 => ?_)
  refine in_l3 (by omega) (by omega) H3 (fun k4 r4 H4 => ?_)
  refine in_l4 (by omega) (by omega) H4 (fun k5 r5 H5 => ?_)
  refine in_a (by omega) (by omega) H5 (fun k6 r6 H6 => ?_)
  refine in_s (by omega) (by omega) H6 (fun k7 r7 H7 => ?_)
  refine in_z (by omega) (by omega) H7 (fun k8 s8 H8 c1 c2 h1 h2 => ?_)
  refine in_b (by omega) (by omega) H8 (fun k9 r9 H9 hi c1' c2' h1' h2' lv hlv => ?_)
  exact in_heaps 6 0 rfl k9 c1' c2' (by omega) (by omega) H9 hi (fun g hg => absurd hg (Nat.not_lt_zero _)) lv hlv
end IN3

