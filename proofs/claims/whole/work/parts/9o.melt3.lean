section ML3
variable {γ : jG} {h h' : jM} {S : Nat → Prop} {ρ σ : Nat → Nat} {x : Nat} {ks ss cs ls ms : List Nat} {V V' U : VV} {bt : Int → Int}
/-- what is not melted from stays -/
theorem mlH_old {M : Int} (h0 : U 153 M = 0) (I : mlI U M) (hb : ∀ j, 0 ≤ j → j < 6 → 0 ≤ bt j ∧ bt j ≤ tonsOf U j) (hs : Sm bt 6 ≤ 20) : ∀ g : Nat, g ≤ 6 → (∀ r, r ≠ 138 → r ≠ 139 → r < 153 ∨ 157 < r → mlH U bt g r = U r) ∧ (∀ i, i ≠ M → mlH U bt g 153 i = U 153 i) ∧ (∀ i, i < 20 * M → mlH U bt g 154 i = U 154 i ∧ mlH U bt g 155 i = U 155 i) ∧ (∀ p j, p < 20 * M → 0 ≤ j → j < 5 → mlH U bt g 156 (5 * p + j) = U 156 (5 * p + j) ∧ mlH U bt g 157 (5 * p + j) = U 157 (5 * p + j)) ∧ tonsP (mlH U bt g) M = Sm bt g := fun g => by
  induction g with
  | zero =>
    intro _
    refine ⟨fun _ _ _ _ => rfl, fun _ _ => rfl, fun _ _ => ⟨rfl, rfl⟩, fun _ _ _ _ _ => ⟨rfl, rfl⟩, ?_⟩
    show tonsP U M = 0
    unfold tonsP
    rw [h0]
    rfl
  | succ g ih =>
    intro hg
    obtain ⟨a1, a2, a3, a4, a5⟩ := ih (by omega)
    have i1 := mlH_inv I hb hs h0 g (by omega)
    have i2 := mlH_inv I hb hs h0 (g + 1) (by omega)
    have bg := hb g (by omega) (by omega)
    have e1 := i1.2.2.1 g (by omega) (by omega)
    have s1 := i2.2.2.2.2
    rw [Sm] at s1
    have r3 := i1.1.1 153 M rfl
    simp [jLo, jHi] at r3
    obtain ⟨⟨o1, o2, o3, o4, o5, o6, o7, o8⟩, p1, p2, p3⟩ := ml_ok (g := g) (M := M) (by omega) (bt g).toNat (mlH U bt g) (bt g) (by omega) bg.1 i1.1 (by rw [e1]; exact bg.2) (by have := i1.2.1; omega)
    rw [show mlG (bt g).toNat (mlH U bt g) g (bt g) = mlH U bt (g + 1) from rfl] at o1 o2 o3 o4 o5 o6 o7 o8 p1
    refine ⟨fun r h1 h2 h3 => by rw [o8 r h1 h2 h3, a1 r h1 h2 h3], fun i hi => by rw [o3, if_neg hi, a2 i hi], fun i hi => ⟨?_, ?_⟩, fun p j hp j0 j1 => ⟨?_, ?_⟩, by rw [p1, a5, Sm]⟩
    · rw [o4, if_neg (by omega), if_neg (by omega), (a3 i hi).1]
    · rw [o5, if_neg (by omega), (a3 i hi).2]
    · rw [o6 p j j0 j1, if_neg (by omega), (a4 p j hp j0 j1).1]
    · rw [o7 p j j0 j1, if_neg (by omega), (a4 p j hp j0 j1).2]
set_option maxHeartbeats 1000000 in
theorem cf_mlL {q : Nat → Nat × Nat × Nat × List Nat} {z bM M : Nat} {n : Int} {Q : Option Value → jM → Prop} {X : String → jM → Prop} (hq : ∀ g : Nat, g < 6 → h.R 33 (ρ 5) g = some (q g).1 ∧ hepE γ h ls V g (q g).1 (q g).2.1 (q g).2.2.1 (q g).2.2.2) (hbM : h.tag bM = 0) (hM : M ≤ 30) (hla : layAll V ≤ 40) (R : isR V) (hK : γ.K 0 < γ.base)
    (h0 : U 153 M = 0) (I : mlI U M) (hb : ∀ j, 0 ≤ j → j < 6 → 0 ≤ bt j ∧ bt j ≤ tonsOf U j) (hs : Sm bt 6 ≤ 20)
    (tx : h.tag x = 15) (rx : h.R 15 x 5 = some (ρ 5)) (t5 : h.tag (ρ 5) = 33) (l5 : h.len (ρ 5) = 6) (r7 : h.R 15 x 7 = some (σ 0)) (t4 : h.tag (σ 0) = 4) (r24 : h.R 4 (σ 0) 0 = some (σ 24)) (t24 : h.tag (σ 24) = 24) (l24 : h.len (σ 24) = 6) (ch : ∀ j : Nat, j < 6 → h.I 24 (σ 24) j = bt j)
    (fin : ∀ k c1 c2, mlS γ h ls q z bM M n k (mlH U bt 6) 6 → c1 ≤ 90 → c2 ≤ 7200 → ∀ lv, hasL lv [(0, .ref x), (2, .ref z)] → J γ mX11_melt 10 120 8000 c1 c2 k 86 lv [] Q X) :
    ∀ (m g : Nat), g + m = 6 → ∀ (k : jM) (c1 c2 : Nat), (c1 : Int) ≤ 20 + 4 * g + Sm (fun j => V 138 j) g → (c2 : Int) ≤ 100 + 165 * g + 150 * Sm (fun j => V 138 j) g → mlS γ h ls q z bM M n k (mlH U bt g) g → ∀ lv, hasL lv [(0, .ref x), (2, .ref z), (3, .int (jI (g : Int)))] → J γ mX11_melt 10 120 8000 c1 c2 k 52 lv [] Q X := by
  have r38 : ∀ i, 0 ≤ V 138 i ∧ V 138 i ≤ 40 := fun i => R 138 i rfl
  intro m
  induction m with
  | zero =>
    intro g hg k c1 c2 hc1 hc2 H lv hlv
    have eg : g = 6 := by omega
    subst eg
    have : Sm (fun j => V 138 j) 6 ≤ 40 := hla
    refine J.lc hlv ?_
    refine J.iload_n (pc' := 53) rfl rfl rfl ?_
    refine J.bipush (pc' := 55) rfl rfl (by decide) ?_
    refine J.icmp_ge (tgt := 86) (pc' := 58) rfl rfl rfl (by first | omega | (exact R.r _ _) | (simp only [jM.len_sI, jM.len_sL, jM.len_sR, jM.len_fI, jM.len_fL, jM.len_fR]; omega) | (simp [jM.len_nw, jM.len_sI, jM.len_sL, jM.len_sR, jM.len_fI, jM.len_fL, jM.len_fR, *]; omega)) (by first | omega | (exact R.r _ _) | (simp only [jM.len_sI, jM.len_sL, jM.len_sR, jM.len_fI, jM.len_fL, jM.len_fR]; omega) | (simp [jM.len_nw, jM.len_sI, jM.len_sL, jM.len_sR, jM.len_fI, jM.len_fL, jM.len_fR, *]; omega)) (fun c3 => ?_) (fun c3 => ?_)
    · exact fin k c1 c2 H (by omega) (by omega) _ ⟨rfl, rfl, trivial⟩
    · omega
  | succ m ih =>
    intro g hg k c1 c2 hc1 hc2 H lv hlv
    obtain ⟨F, HE, Z, d, zs, C, L, ln, Y, hd⟩ := H
    have i1 := mlH_inv I hb hs h0 g (by omega)
    have i2 := mlH_inv I hb hs h0 (g + 1) (by omega)
    have bg := hb g (by omega) (by omega)
    have e1 := i1.2.2.1 g (by omega) (by omega)
    have s1 := i2.2.2.2.2
    rw [Sm] at s1
    obtain ⟨ok, p1, p2, p3⟩ := ml_ok (g := g) (M := M) (by omega) (bt g).toNat (mlH U bt g) (bt g) (by omega) bg.1 i1.1 (by rw [e1]; exact bg.2) (by have := i1.2.1; omega)
    rw [show mlG (bt g).toNat (mlH U bt g) g (bt g) = mlH U bt (g + 1) from rfl] at ok
    obtain ⟨e, ys, hE, he⟩ := HE g (by omega)
    obtain ⟨rfl, rfl⟩ := he (Nat.le_refl _)
    have lh := (hq g (by omega)).2.2.2.2.2.1
    obtain ⟨b1, b2, b3, b4, b5, b6⟩ := hE
    have sm1 : Sm (fun j => V 138 j) (g + 1) ≤ Sm (fun j => V 138 j) 6 := Sm_mono _ _ (by omega) (fun i _ => (r38 i).1)
    have hla' : Sm (fun j => V 138 j) 6 ≤ 40 := hla
    have sm2 : Sm (fun j => V 138 j) (g + 1) = Sm (fun j => V 138 j) g + V 138 g := by rw [Sm]
    have r3 := i1.1.1 153 M rfl
    simp [jLo, jHi] at r3
    have r8 := i1.1.1 138 g rfl
    simp [jLo, jHi] at r8
    have em : (mlH U bt g 138 g).toNat = (q g).2.2.2.length := by omega
    rw [em] at ok p2 p3
    have eT : tonsOf (mlH U bt g) g = Sm (fun j => mlH U bt g 139 (41 * g + j)) (q g).2.2.2.length := by unfold tonsOf; rw [em]
    have nw : ∀ b t, h.tag b = t → (t = 15 ∨ t = 33 ∨ t = 4 ∨ t = 24) → ¬ (fun b => (5010 ≤ kd h b ∧ kd h b < 5016) ∨ (7010 ≤ kd h b ∧ kd h b < 7016)) b := fun b t hb ht => by
      dsimp only
      rw [kd_t hb (by omega)]
      omega
    have tx' := F.tag tx (by decide)
    have rx' : k.R 15 x 5 = some (ρ 5) := by rw [F.R tx (by decide) (nw _ _ tx (by omega))]; exact rx
    have r7' : k.R 15 x 7 = some (σ 0) := by rw [F.R tx (by decide) (nw _ _ tx (by omega))]; exact r7
    have t5' := F.tag t5 (by decide)
    have l5' : k.len (ρ 5) = 6 := by rw [F.len (by omega)]; exact l5
    have r5' : k.R 33 (ρ 5) (g : Int).toNat = some (q g).1 := by rw [Int.toNat_natCast, F.R t5 (by decide) (nw _ _ t5 (by omega))]; exact (hq g (by omega)).1
    have t4' := F.tag t4 (by decide)
    have r24' : k.R 4 (σ 0) 0 = some (σ 24) := by rw [F.R t4 (by decide) (nw _ _ t4 (by omega))]; exact r24
    have t24' := F.tag t24 (by decide)
    have l24' : k.len (σ 24) = 6 := by rw [F.len (by omega)]; exact l24
    have ch' : k.I 24 (σ 24) (g : Int).toNat = bt g := by rw [Int.toNat_natCast, F.I t24 (by decide) (nw _ _ t24 (by omega))]; exact ch g (by omega)
    obtain ⟨z1, z2, z3, z4⟩ := id Z
    have tp := b1
    refine J.lc hlv ?_
    refine J.iload_n (pc' := 53) rfl rfl rfl ?_
    refine J.bipush (pc' := 55) rfl rfl (by decide) ?_
    refine J.icmp_ge (tgt := 86) (pc' := 58) rfl rfl rfl (by first | omega | (exact R.r _ _) | (simp only [jM.len_sI, jM.len_sL, jM.len_sR, jM.len_fI, jM.len_fL, jM.len_fR]; omega) | (simp [jM.len_nw, jM.len_sI, jM.len_sL, jM.len_sR, jM.len_fI, jM.len_fL, jM.len_fR, *]; omega)) (by first | omega | (exact R.r _ _) | (simp only [jM.len_sI, jM.len_sL, jM.len_sR, jM.len_fI, jM.len_fL, jM.len_fR]; omega) | (simp [jM.len_nw, jM.len_sI, jM.len_sL, jM.len_sR, jM.len_fI, jM.len_fL, jM.len_fR, *]; omega)) (fun c3 => ?_) (fun c3 => ?_)
    · omega
    first | refine J.aload_n (pc' := 59) rfl rfl rfl ?_ | refine J.aload_nN (pc' := 59) rfl rfl rfl ?_
    first | refine J.getR (pc' := 62) rfl fl_X11_30 rfl (by first | assumption | (simp only [jM.tag_sI, jM.tag_sL, jM.tag_sR, jM.tag_fI, jM.tag_fL, jM.tag_fR]; assumption) | (simp [jM.tag_nw, jM.tag_sI, jM.tag_sL, jM.tag_sR, jM.tag_fI, jM.tag_fL, jM.tag_fR, *]; done)) (by first | assumption | (simp only [jM.R_sI, jM.R_sL, jM.R_fI, jM.R_fL]; assumption) | (simp [jM.R_nw, jM.R_sR, jM.R_fR, jM.R_sI, jM.R_sL, jM.R_fI, jM.R_fL, *]; done)) rfl ?_ | refine J.getRN (pc' := 62) rfl fl_X11_30 rfl (by first | assumption | (simp only [jM.tag_sI, jM.tag_sL, jM.tag_sR, jM.tag_fI, jM.tag_fL, jM.tag_fR]; assumption) | (simp [jM.tag_nw, jM.tag_sI, jM.tag_sL, jM.tag_sR, jM.tag_fI, jM.tag_fL, jM.tag_fR, *]; done)) (by first | assumption | (simp only [jM.R_sI, jM.R_sL, jM.R_fI, jM.R_fL]; assumption) | (simp [jM.R_nw, jM.R_sR, jM.R_fR, jM.R_sI, jM.R_sL, jM.R_fI, jM.R_fL, *]; done)) rfl ?_
    refine J.iload_n (pc' := 63) rfl rfl rfl ?_
    first | refine J.aald (pc' := 64) rfl (by first | assumption | (simp only [jM.tag_sI, jM.tag_sL, jM.tag_sR, jM.tag_fI, jM.tag_fL, jM.tag_fR]; assumption) | (simp [jM.tag_nw, jM.tag_sI, jM.tag_sL, jM.tag_sR, jM.tag_fI, jM.tag_fL, jM.tag_fR, *]; done)) (by decide) (by decide) rfl (by first | omega | (exact R.r _ _) | (simp only [jM.len_sI, jM.len_sL, jM.len_sR, jM.len_fI, jM.len_fL, jM.len_fR]; omega) | (simp [jM.len_nw, jM.len_sI, jM.len_sL, jM.len_sR, jM.len_fI, jM.len_fL, jM.len_fR, *]; omega)) (by first | omega | (exact R.r _ _) | (simp only [jM.len_sI, jM.len_sL, jM.len_sR, jM.len_fI, jM.len_fL, jM.len_fR]; omega) | (simp [jM.len_nw, jM.len_sI, jM.len_sL, jM.len_sR, jM.len_fI, jM.len_fL, jM.len_fR, *]; omega)) (by first | omega | (exact R.r _ _) | (simp only [jM.len_sI, jM.len_sL, jM.len_sR, jM.len_fI, jM.len_fL, jM.len_fR]; omega) | (simp [jM.len_nw, jM.len_sI, jM.len_sL, jM.len_sR, jM.len_fI, jM.len_fL, jM.len_fR, *]; omega)) (by first | assumption | (simp only [jM.R_sI, jM.R_sL, jM.R_fI, jM.R_fL]; assumption) | (simp [jM.R_nw, jM.R_sR, jM.R_fR, jM.R_sI, jM.R_sL, jM.R_fI, jM.R_fL, *]; done)) rfl ?_ | refine J.aaldN (pc' := 64) rfl (by first | assumption | (simp only [jM.tag_sI, jM.tag_sL, jM.tag_sR, jM.tag_fI, jM.tag_fL, jM.tag_fR]; assumption) | (simp [jM.tag_nw, jM.tag_sI, jM.tag_sL, jM.tag_sR, jM.tag_fI, jM.tag_fL, jM.tag_fR, *]; done)) (by decide) (by decide) rfl (by first | omega | (exact R.r _ _) | (simp only [jM.len_sI, jM.len_sL, jM.len_sR, jM.len_fI, jM.len_fL, jM.len_fR]; omega) | (simp [jM.len_nw, jM.len_sI, jM.len_sL, jM.len_sR, jM.len_fI, jM.len_fL, jM.len_fR, *]; omega)) (by first | omega | (exact R.r _ _) | (simp only [jM.len_sI, jM.len_sL, jM.len_sR, jM.len_fI, jM.len_fL, jM.len_fR]; omega) | (simp [jM.len_nw, jM.len_sI, jM.len_sL, jM.len_sR, jM.len_fI, jM.len_fL, jM.len_fR, *]; omega)) (by first | omega | (exact R.r _ _) | (simp only [jM.len_sI, jM.len_sL, jM.len_sR, jM.len_fI, jM.len_fL, jM.len_fR]; omega) | (simp [jM.len_nw, jM.len_sI, jM.len_sL, jM.len_sR, jM.len_fI, jM.len_fL, jM.len_fR, *]; omega)) (by first | assumption | (simp only [jM.R_sI, jM.R_sL, jM.R_fI, jM.R_fL]; assumption) | (simp [jM.R_nw, jM.R_sR, jM.R_fR, jM.R_sI, jM.R_sL, jM.R_fI, jM.R_fL, *]; done)) rfl ?_
    first | refine J.aload_n (pc' := 65) rfl rfl rfl ?_ | refine J.aload_nN (pc' := 65) rfl rfl rfl ?_
    first | refine J.getR (pc' := 68) rfl fl_X11_286 rfl (by first | assumption | (simp only [jM.tag_sI, jM.tag_sL, jM.tag_sR, jM.tag_fI, jM.tag_fL, jM.tag_fR]; assumption) | (simp [jM.tag_nw, jM.tag_sI, jM.tag_sL, jM.tag_sR, jM.tag_fI, jM.tag_fL, jM.tag_fR, *]; done)) (by first | assumption | (simp only [jM.R_sI, jM.R_sL, jM.R_fI, jM.R_fL]; assumption) | (simp [jM.R_nw, jM.R_sR, jM.R_fR, jM.R_sI, jM.R_sL, jM.R_fI, jM.R_fL, *]; done)) rfl ?_ | refine J.getRN (pc' := 68) rfl fl_X11_286 rfl (by first | assumption | (simp only [jM.tag_sI, jM.tag_sL, jM.tag_sR, jM.tag_fI, jM.tag_fL, jM.tag_fR]; assumption) | (simp [jM.tag_nw, jM.tag_sI, jM.tag_sL, jM.tag_sR, jM.tag_fI, jM.tag_fL, jM.tag_fR, *]; done)) (by first | assumption | (simp only [jM.R_sI, jM.R_sL, jM.R_fI, jM.R_fL]; assumption) | (simp [jM.R_nw, jM.R_sR, jM.R_fR, jM.R_sI, jM.R_sL, jM.R_fI, jM.R_fL, *]; done)) rfl ?_
    first | refine J.aload_n (pc' := 69) rfl rfl rfl ?_ | refine J.aload_nN (pc' := 69) rfl rfl rfl ?_
    first | refine J.getR (pc' := 72) rfl fl_X11_44 rfl (by first | assumption | (simp only [jM.tag_sI, jM.tag_sL, jM.tag_sR, jM.tag_fI, jM.tag_fL, jM.tag_fR]; assumption) | (simp [jM.tag_nw, jM.tag_sI, jM.tag_sL, jM.tag_sR, jM.tag_fI, jM.tag_fL, jM.tag_fR, *]; done)) (by first | assumption | (simp only [jM.R_sI, jM.R_sL, jM.R_fI, jM.R_fL]; assumption) | (simp [jM.R_nw, jM.R_sR, jM.R_fR, jM.R_sI, jM.R_sL, jM.R_fI, jM.R_fL, *]; done)) rfl ?_ | refine J.getRN (pc' := 72) rfl fl_X11_44 rfl (by first | assumption | (simp only [jM.tag_sI, jM.tag_sL, jM.tag_sR, jM.tag_fI, jM.tag_fL, jM.tag_fR]; assumption) | (simp [jM.tag_nw, jM.tag_sI, jM.tag_sL, jM.tag_sR, jM.tag_fI, jM.tag_fL, jM.tag_fR, *]; done)) (by first | assumption | (simp only [jM.R_sI, jM.R_sL, jM.R_fI, jM.R_fL]; assumption) | (simp [jM.R_nw, jM.R_sR, jM.R_fR, jM.R_sI, jM.R_sL, jM.R_fI, jM.R_fL, *]; done)) rfl ?_
    first | refine J.getR (pc' := 75) rfl fl_X11_279 rfl (by first | assumption | (simp only [jM.tag_sI, jM.tag_sL, jM.tag_sR, jM.tag_fI, jM.tag_fL, jM.tag_fR]; assumption) | (simp [jM.tag_nw, jM.tag_sI, jM.tag_sL, jM.tag_sR, jM.tag_fI, jM.tag_fL, jM.tag_fR, *]; done)) (by first | assumption | (simp only [jM.R_sI, jM.R_sL, jM.R_fI, jM.R_fL]; assumption) | (simp [jM.R_nw, jM.R_sR, jM.R_fR, jM.R_sI, jM.R_sL, jM.R_fI, jM.R_fL, *]; done)) rfl ?_ | refine J.getRN (pc' := 75) rfl fl_X11_279 rfl (by first | assumption | (simp only [jM.tag_sI, jM.tag_sL, jM.tag_sR, jM.tag_fI, jM.tag_fL, jM.tag_fR]; assumption) | (simp [jM.tag_nw, jM.tag_sI, jM.tag_sL, jM.tag_sR, jM.tag_fI, jM.tag_fL, jM.tag_fR, *]; done)) (by first | assumption | (simp only [jM.R_sI, jM.R_sL, jM.R_fI, jM.R_fL]; assumption) | (simp [jM.R_nw, jM.R_sR, jM.R_fR, jM.R_sI, jM.R_sL, jM.R_fI, jM.R_fL, *]; done)) rfl ?_
    refine J.iload_n (pc' := 76) rfl rfl rfl ?_
    refine J.iald (pc' := 77) rfl (by first | assumption | (simp only [jM.tag_sI, jM.tag_sL, jM.tag_sR, jM.tag_fI, jM.tag_fL, jM.tag_fR]; assumption) | (simp [jM.tag_nw, jM.tag_sI, jM.tag_sL, jM.tag_sR, jM.tag_fI, jM.tag_fL, jM.tag_fR, *]; done)) (by decide) rfl (by first | omega | (exact R.r _ _) | (simp only [jM.len_sI, jM.len_sL, jM.len_sR, jM.len_fI, jM.len_fL, jM.len_fR]; omega) | (simp [jM.len_nw, jM.len_sI, jM.len_sL, jM.len_sR, jM.len_fI, jM.len_fL, jM.len_fR, *]; omega)) (by first | omega | (exact R.r _ _) | (simp only [jM.len_sI, jM.len_sL, jM.len_sR, jM.len_fI, jM.len_fL, jM.len_fR]; omega) | (simp [jM.len_nw, jM.len_sI, jM.len_sL, jM.len_sR, jM.len_fI, jM.len_fL, jM.len_fR, *]; omega)) (by first | omega | (exact R.r _ _) | (simp only [jM.len_sI, jM.len_sL, jM.len_sR, jM.len_fI, jM.len_fL, jM.len_fR]; omega) | (simp [jM.len_nw, jM.len_sI, jM.len_sL, jM.len_sR, jM.len_fI, jM.len_fL, jM.len_fR, *]; omega)) rfl ?_
    rw [ch']
    refine J.callV (pc' := 80) (t := 8) rfl MX4_giveTo ml_X11_262 iv_X4_giveTo (by decide) ⟨_, rfl, rfl⟩ (by first | assumption | (simp only [jM.tag_sI, jM.tag_sL, jM.tag_sR, jM.tag_fI, jM.tag_fL, jM.tag_fR]; assumption) | (simp [jM.tag_nw, jM.tag_sI, jM.tag_sL, jM.tag_sR, jM.tag_fI, jM.tag_fL, jM.tag_fR, *]; done)) (cx_giveTo b1 b2 b3 b6 L Y (fun w => by rw [w, z4] at b4; have := Option.some.inj b4; omega) (fun j hj => by have h1 := i1.1.2.1 g j (by omega) (by omega) (by omega) (by omega); have h2 : 0 ≤ mlH U bt g 139 (41 * g + j) ∧ mlH U bt g 139 (41 * g + j) ≤ 5000 := i1.1.1 139 _ rfl; omega) (by omega) (by rw [← eT, e1]; exact bg.2) (by omega) hK) rfl rfl (Nat.le_of_ble_eq_true rfl) (by first | omega | (exact R.r _ _) | (simp only [jM.len_sI, jM.len_sL, jM.len_sR, jM.len_fI, jM.len_fL, jM.len_fR]; omega) | (simp [jM.len_nw, jM.len_sI, jM.len_sL, jM.len_sR, jM.len_fI, jM.len_fL, jM.len_fR, *]; omega)) (by first | omega | (exact R.r _ _) | (simp only [jM.len_sI, jM.len_sL, jM.len_sR, jM.len_fI, jM.len_fL, jM.len_fR]; omega) | (simp [jM.len_nw, jM.len_sI, jM.len_sL, jM.len_sR, jM.len_fI, jM.len_fL, jM.len_fR, *]; omega)) (by first | omega | (exact R.r _ _) | (simp only [jM.len_sI, jM.len_sL, jM.len_sR, jM.len_fI, jM.len_fL, jM.len_fR]; omega) | (simp [jM.len_nw, jM.len_sI, jM.len_sL, jM.len_sR, jM.len_fI, jM.len_fL, jM.len_fR, *]; omega)) rfl rfl ?_ ?_
    · exact fun _ _ z => z.elim
    rintro _ k2 ⟨rfl, G⟩
    have H2 := ml_give hq hbM (by omega) hM F HE Z L ln Y hd i1.1.1 p2 p3 ok G
    refine J.iinc (pc' := 83) rfl rfl rfl (by decide) ?_
    refine J.goto (tgt := 52) rfl rfl ?_
    refine ih (g + 1) (by omega) k2 _ _ ?_ ?_ H2 _ ⟨rfl, rfl, rfl, trivial⟩
    · rw [sm2]; omega
    · rw [sm2]; omega
end ML3

