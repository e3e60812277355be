section IN2
variable {γ : jG} {h k k' : jM} {ρ σ : Nat → Nat} {x n : Nat} {mc ms c1 c2 : Nat} {Q : Option Value → jM → Prop}
theorem in_a (hc1 : c1 + 1 ≤ mc) (hc2 : c2 + 6 ≤ ms) (H : inT γ h x k ρ σ 5) (fin : ∀ k' ρ', inT γ h x k' ρ' σ 6 → ∀ lv, hasL lv [(0, .ref x)] → J γ mX11_init 5 mc ms (c1 + 1) (c2 + 6) k' 68 lv [] Q X0) : ∀ lv, hasL lv [(0, .ref x)] → J γ mX11_init 5 mc ms c1 c2 k 59 lv [] Q X0 := by
  intro lv hlv
  have tx := H.1
  refine J.lc hlv ?_
  first | refine J.aload_n (pc' := 60) rfl rfl rfl ?_ | refine J.aload_nN (pc' := 60) rfl rfl rfl ?_
  refine J.bipush (pc' := 62) rfl rfl (by decide) ?_
  refine J.anew (pc' := 65) (t := 33) (cn := "ScrapYard$Heap") rfl (by decide) rfl (by decide) (List.mem_of_getElem? (i := 132) (by decide +kernel)) (List.mem_of_getElem? (i := 133) (by decide +kernel)) (by first | omega | (exact R.r _ _) | (simp only [jM.len_sI, jM.len_sL, jM.len_sR, jM.len_fI, jM.len_fL, jM.len_fR]; omega) | (simp [jM.len_nw, jM.len_sI, jM.len_sL, jM.len_sR, jM.len_fI, jM.len_fL, jM.len_fR, *]; omega)) (by first | omega | (exact R.r _ _) | (simp only [jM.len_sI, jM.len_sL, jM.len_sR, jM.len_fI, jM.len_fL, jM.len_fR]; omega) | (simp [jM.len_nw, jM.len_sI, jM.len_sL, jM.len_sR, jM.len_fI, jM.len_fL, jM.len_fR, *]; omega)) (by first | omega | (exact R.r _ _) | (simp only [jM.len_sI, jM.len_sL, jM.len_sR, jM.len_fI, jM.len_fL, jM.len_fR]; omega) | (simp [jM.len_nw, jM.len_sI, jM.len_sL, jM.len_sR, jM.len_fI, jM.len_fL, jM.len_fR, *]; omega)) (by first | omega | (exact R.r _ _) | (simp only [jM.len_sI, jM.len_sL, jM.len_sR, jM.len_fI, jM.len_fL, jM.len_fR]; omega) | (simp [jM.len_nw, jM.len_sI, jM.len_sL, jM.len_sR, jM.len_fI, jM.len_fL, jM.len_fR, *]; omega)) rfl (fun q qf qb => ?_)
  have F4 : Fr k (k.nw q 33 (Int.toNat 6)) (fun _ => False) := Fr.stN Fr.rf qf
  have tq : (k.nw q 33 (Int.toNat 6)).tag q = 33 := by rw [jM.tag_nw, if_pos rfl]
  have lq : (k.nw q 33 (Int.toNat 6)).len q = 6 := by rw [jM.len_nw, if_pos rfl]; rfl
  have qh := H.2.1.free qf
  generalize k.nw q 33 (Int.toNat 6) = k4 at F4 tq lq ⊢
  have tx4 := F4.tag tx (by decide)
  first | refine J.putR (pc' := 68) rfl fl_X11_30 rfl (Or.inr ⟨rfl, rfl, rfl⟩) (by first | assumption | (simp only [jM.tag_sI, jM.tag_sL, jM.tag_sR, jM.tag_fI, jM.tag_fL, jM.tag_fR]; assumption) | (simp [jM.tag_nw, jM.tag_sI, jM.tag_sL, jM.tag_sR, jM.tag_fI, jM.tag_fL, jM.tag_fR, *]; done)) (Or.inl rfl) rfl ?_ | refine J.putRN (pc' := 68) rfl fl_X11_30 rfl (Or.inr ⟨rfl, rfl, rfl⟩) (by first | assumption | (simp only [jM.tag_sI, jM.tag_sL, jM.tag_sR, jM.tag_fI, jM.tag_fL, jM.tag_fR]; assumption) | (simp [jM.tag_nw, jM.tag_sI, jM.tag_sL, jM.tag_sR, jM.tag_fI, jM.tag_fL, jM.tag_fR, *]; done)) (Or.inl rfl) rfl ?_
  have F5 : Fr k4 (k4.sR 15 x 5 (some q)) (fun b => b = x) := Fr.stR Fr.rf (Or.inl rfl)
  have FK : Fr k (k4.sR 15 x 5 (some q)) (fun b => b = x) := F4.trans F5 (fun b _ w => w.elim False.elim id)
  have H' := H.keep FK (fun j hj => by rw [jM.R_sR, if_neg (by omega), F4.R tx (by decide) id])
  refine fin (k4.sR 15 x 5 (some q)) (fun j => if j = 5 then q else ρ j) ?_ _ ⟨rfl, trivial⟩
  obtain ⟨a1, a2, a3, a4, -⟩ := H'.cg (ρ' := fun j => if j = 5 then q else ρ j) (σ' := σ) (fun j hj => if_neg (by omega)) (fun _ => rfl)
  exact ⟨a1, a2, a3, fun j h5 _ => a4 j h5 h5, fun _ => ⟨by rw [jM.R_sR, if_pos ⟨rfl, rfl, rfl⟩]; rfl, tq, lq, qh⟩, fun w => absurd w (by decide), fun w => absurd w (by decide), fun w => absurd w (by decide)⟩
theorem in_s (hc1 : c1 + 2 ≤ mc) (hc2 : c2 + 11 ≤ ms) (H : inT γ h x k ρ σ 6) (fin : ∀ k' ρ', inT γ h x k' ρ' σ 7 → ∀ lv, hasL lv [(0, .ref x)] → J γ mX11_init 5 mc ms (c1 + 1 + 1) (c2 + 1 + 10) k' 79 lv [] Q X0) : ∀ lv, hasL lv [(0, .ref x)] → J γ mX11_init 5 mc ms c1 c2 k 68 lv [] Q X0 := by
  intro lv hlv
  have tx := H.1
  refine J.lc hlv ?_
  first | refine J.aload_n (pc' := 69) rfl rfl rfl ?_ | refine J.aload_nN (pc' := 69) rfl rfl rfl ?_
  refine J.new (pc' := 72) (t := 14) (N := 1) (n := 1) rfl ⟨by decide, by decide, _, rfl, rfl, List.mem_of_getElem? (i := 134) (by decide +kernel), List.mem_of_getElem? (i := 135) (by decide +kernel), List.mem_of_getElem? (i := 68) (by decide +kernel)⟩ (by first | omega | (exact R.r _ _) | (simp only [jM.len_sI, jM.len_sL, jM.len_sR, jM.len_fI, jM.len_fL, jM.len_fR]; omega) | (simp [jM.len_nw, jM.len_sI, jM.len_sL, jM.len_sR, jM.len_fI, jM.len_fL, jM.len_fR, *]; omega)) (by first | omega | (exact R.r _ _) | (simp only [jM.len_sI, jM.len_sL, jM.len_sR, jM.len_fI, jM.len_fL, jM.len_fR]; omega) | (simp [jM.len_nw, jM.len_sI, jM.len_sL, jM.len_sR, jM.len_fI, jM.len_fL, jM.len_fR, *]; omega)) rfl (fun q qf qb => ?_)
  have F1 : Fr k (k.nw q 14 1) (fun _ => False) := Fr.stN Fr.rf qf
  have tq : (k.nw q 14 1).tag q = 14 := by rw [jM.tag_nw, if_pos rfl]
  generalize k.nw q 14 1 = k1 at F1 tq ⊢
  refine J.dup (pc' := 73) rfl rfl rfl ?_
  refine J.callI (pc' := 76) rfl MX10_init ml_X11_36 iv_X10_init ⟨rfl, rfl⟩ (cs_init tq) rfl rfl (Nat.le_of_ble_eq_true rfl) (by first | omega | (exact R.r _ _) | (simp only [jM.len_sI, jM.len_sL, jM.len_sR, jM.len_fI, jM.len_fL, jM.len_fR]; omega) | (simp [jM.len_nw, jM.len_sI, jM.len_sL, jM.len_sR, jM.len_fI, jM.len_fL, jM.len_fR, *]; omega)) (by first | omega | (exact R.r _ _) | (simp only [jM.len_sI, jM.len_sL, jM.len_sR, jM.len_fI, jM.len_fL, jM.len_fR]; omega) | (simp [jM.len_nw, jM.len_sI, jM.len_sL, jM.len_sR, jM.len_fI, jM.len_fL, jM.len_fR, *]; omega)) (by first | omega | (exact R.r _ _) | (simp only [jM.len_sI, jM.len_sL, jM.len_sR, jM.len_fI, jM.len_fL, jM.len_fR]; omega) | (simp [jM.len_nw, jM.len_sI, jM.len_sL, jM.len_sR, jM.len_fI, jM.len_fL, jM.len_fR, *]; omega)) rfl ?_
  rintro _ k2 ⟨rfl, g1, g2, g3, g4, g5⟩
  have F2 : Fr k k2 (fun _ => False) := F1.trans g3 (fun b hb w => by
    rcases w with w | w
    · exact w
    · rw [w] at hb; exact absurd qf hb)
  refine J.ownS x g1 (fun k3 o1 t2 e2 f2 => ?_)
  have F3 : Fr k k3 (fun _ => False) := f2 k _ F2 qf (F1.free g5)
  rw [g2] at o1
  have tx4 := F3.tag tx (by decide)
  have tqq := o1.1.1
  first | refine J.putR (pc' := 79) rfl fl_X11_37 rfl (Or.inr ⟨rfl, rfl, rfl⟩) (by first | assumption | (simp only [jM.tag_sI, jM.tag_sL, jM.tag_sR, jM.tag_fI, jM.tag_fL, jM.tag_fR]; assumption) | (simp [jM.tag_nw, jM.tag_sI, jM.tag_sL, jM.tag_sR, jM.tag_fI, jM.tag_fL, jM.tag_fR, *]; done)) (Or.inl rfl) rfl ?_ | refine J.putRN (pc' := 79) rfl fl_X11_37 rfl (Or.inr ⟨rfl, rfl, rfl⟩) (by first | assumption | (simp only [jM.tag_sI, jM.tag_sL, jM.tag_sR, jM.tag_fI, jM.tag_fL, jM.tag_fR]; assumption) | (simp [jM.tag_nw, jM.tag_sI, jM.tag_sL, jM.tag_sR, jM.tag_fI, jM.tag_fL, jM.tag_fR, *]; done)) (Or.inl rfl) rfl ?_
  have F5 : Fr k3 (k3.sR 15 x 6 (some q)) (fun b => b = x) := Fr.stR Fr.rf (Or.inl rfl)
  have FK : Fr k (k3.sR 15 x 6 (some q)) (fun b => b = x) := F3.trans F5 (fun b _ w => w.elim False.elim id)
  have H' := H.keep FK (fun j hj => by rw [jM.R_sR, if_neg (by omega), F3.R tx (by decide) id])
  refine fin (k3.sR 15 x 6 (some q)) (fun j => if j = 6 then q else ρ j) ?_ _ ⟨rfl, trivial⟩
  obtain ⟨a1, a2, a3, a4, a5, -⟩ := H'.cg (ρ' := fun j => if j = 6 then q else ρ j) (σ' := σ) (fun j hj => if_neg (by omega)) (fun _ => rfl)
  refine ⟨a1, a2, a3, fun j h5 _ => a4 j h5 (by omega), fun _ => a5 (by decide), fun _ => ⟨by rw [jM.R_sR, if_pos ⟨rfl, rfl, rfl⟩]; rfl, ?_⟩, fun w => absurd w (by decide), fun w => absurd w (by decide)⟩
  have o5 : isO (k3.sR 15 x 6 (some q)) q x spD := o1.kept1 F5 (by omega)
  show isO (k3.sR 15 x 6 (some q)) q x (aP V0)
  refine o5.cgP (fun i hi => ?_)
  unfold spD aP V0
  by_cases c : i % 2 = 0
  · rw [if_neg (by omega), if_pos c, if_neg (by omega)]
  · rw [if_pos (by omega), if_neg c, if_pos (by omega)]
theorem in_z (hc1 : c1 + 31 ≤ mc) (hc2 : c2 + 3115 ≤ ms) (H : inT γ h x k ρ σ 7) (fin : ∀ k' σ', inT γ h x k' ρ σ' 8 → ∀ c1' c2', c1' ≤ c1 + 31 → c2' ≤ c2 + 3115 → ∀ lv, hasL lv [(0, .ref x)] → J γ mX11_init 5 mc ms c1' c2' k' 90 lv [] Q X0) : ∀ lv, hasL lv [(0, .ref x)] → J γ mX11_init 5 mc ms c1 c2 k 79 lv [] Q X0 := by
  intro lv hlv
  have tx := H.1
  refine J.lc hlv ?_
  first | refine J.aload_n (pc' := 80) rfl rfl rfl ?_ | refine J.aload_nN (pc' := 80) rfl rfl rfl ?_
  refine J.new (pc' := 83) (t := 4) (N := 7) (n := 7) rfl ⟨by decide, by decide, _, rfl, rfl, List.mem_of_getElem? (i := 148) (by decide +kernel), List.mem_of_getElem? (i := 149) (by decide +kernel), List.mem_of_getElem? (i := 69) (by decide +kernel)⟩ (by first | omega | (exact R.r _ _) | (simp only [jM.len_sI, jM.len_sL, jM.len_sR, jM.len_fI, jM.len_fL, jM.len_fR]; omega) | (simp [jM.len_nw, jM.len_sI, jM.len_sL, jM.len_sR, jM.len_fI, jM.len_fL, jM.len_fR, *]; omega)) (by first | omega | (exact R.r _ _) | (simp only [jM.len_sI, jM.len_sL, jM.len_sR, jM.len_fI, jM.len_fL, jM.len_fR]; omega) | (simp [jM.len_nw, jM.len_sI, jM.len_sL, jM.len_sR, jM.len_fI, jM.len_fL, jM.len_fR, *]; omega)) rfl (fun q qf qb => ?_)
  have F1 : Fr k (k.nw q 4 7) (fun _ => False) := Fr.stN Fr.rf qf
  have tq : (k.nw q 4 7).tag q = 4 := by rw [jM.tag_nw, if_pos rfl]
  generalize k.nw q 4 7 = k1 at F1 tq ⊢
  refine J.dup (pc' := 84) rfl rfl rfl ?_
  refine J.callIN (pc' := 87) rfl MX0_init ml_X11_43 iv_X0_init ⟨rfl, rfl⟩ (cz_init tq) rfl rfl (Nat.le_of_ble_eq_true rfl) (by first | omega | (exact R.r _ _) | (simp only [jM.len_sI, jM.len_sL, jM.len_sR, jM.len_fI, jM.len_fL, jM.len_fR]; omega) | (simp [jM.len_nw, jM.len_sI, jM.len_sL, jM.len_sR, jM.len_fI, jM.len_fL, jM.len_fR, *]; omega)) (by first | omega | (exact R.r _ _) | (simp only [jM.len_sI, jM.len_sL, jM.len_sR, jM.len_fI, jM.len_fL, jM.len_fR]; omega) | (simp [jM.len_nw, jM.len_sI, jM.len_sL, jM.len_sR, jM.len_fI, jM.len_fL, jM.len_fR, *]; omega)) (by first | omega | (exact R.r _ _) | (simp only [jM.len_sI, jM.len_sL, jM.len_sR, jM.len_fI, jM.len_fL, jM.len_fR]; omega) | (simp [jM.len_nw, jM.len_sI, jM.len_sL, jM.len_sR, jM.len_fI, jM.len_fL, jM.len_fR, *]; omega)) rfl ?_
  rintro _ k3 ⟨rfl, σ', g1, g2, g3, g4⟩
  have F3 : Fr k k3 (fun _ => False) := F1.trans g3 (fun b hb w => by
    rcases w with w | w
    · exact w
    · rw [w] at hb; exact absurd qf hb)
  have tx4 := F3.tag tx (by decide)
  have tq3 := g3.tag tq (by decide)
  first | refine J.putR (pc' := 90) rfl fl_X11_44 rfl (Or.inr ⟨rfl, rfl, rfl⟩) (by first | assumption | (simp only [jM.tag_sI, jM.tag_sL, jM.tag_sR, jM.tag_fI, jM.tag_fL, jM.tag_fR]; assumption) | (simp [jM.tag_nw, jM.tag_sI, jM.tag_sL, jM.tag_sR, jM.tag_fI, jM.tag_fL, jM.tag_fR, *]; done)) (Or.inl rfl) rfl ?_ | refine J.putRN (pc' := 90) rfl fl_X11_44 rfl (Or.inr ⟨rfl, rfl, rfl⟩) (by first | assumption | (simp only [jM.tag_sI, jM.tag_sL, jM.tag_sR, jM.tag_fI, jM.tag_fL, jM.tag_fR]; assumption) | (simp [jM.tag_nw, jM.tag_sI, jM.tag_sL, jM.tag_sR, jM.tag_fI, jM.tag_fL, jM.tag_fR, *]; done)) (Or.inl rfl) rfl ?_
  have F5 : Fr k3 (k3.sR 15 x 7 (some q)) (fun b => b = x) := Fr.stR Fr.rf (Or.inl rfl)
  have FK : Fr k (k3.sR 15 x 7 (some q)) (fun b => b = x) := F3.trans F5 (fun b _ w => w.elim False.elim id)
  have FC5 : FrC k3 (k3.sR 15 x 7 (some q)) (fun c => c = 15) := F5.mono (fun b _ w => by rw [w]; exact kc_o tx4 (by decide))
  have H' := H.keep FK (fun j hj => by rw [jM.R_sR, if_neg (by omega), F3.R tx (by decide) id])
  refine fin (k3.sR 15 x 7 (some q)) σ' ?_ _ _ (by omega) (by omega) _ ⟨rfl, trivial⟩
  obtain ⟨a1, a2, a3, a4, a5, a6, -⟩ := H'
  exact ⟨a1, a2, a3, fun j h5 _ => a4 j h5 (by omega), fun _ => a5 (by decide), fun _ => a6 (by decide), fun _ => ⟨by rw [jM.R_sR, if_pos ⟨rfl, rfl, rfl⟩, g2], g1.c FC5 (fun _ _ _ => (by (try dsimp only); omega)) (by (try dsimp only); omega)⟩, fun w => absurd w (by decide)⟩
theorem in_b (hc1 : c1 + 2 ≤ mc) (hc2 : c2 + 25 ≤ ms) (H : inT γ h x k ρ σ 8) (fin : ∀ k' ρ', inT γ h x k' ρ' σ 9 → k'.I 15 x 9 = 0 → ∀ c1' c2', c1' ≤ c1 + 2 → c2' ≤ c2 + 25 → ∀ lv, hasL lv [(0, .ref x), (1, .int (jI 0))] → J γ mX11_init 5 mc ms c1' c2' k' 108 lv [] Q X0) : ∀ lv, hasL lv [(0, .ref x)] → J γ mX11_init 5 mc ms c1 c2 k 90 lv [] Q X0 := by
  intro lv hlv
  have tx := H.1
  refine J.lc hlv ?_
  first | refine J.aload_n (pc' := 91) rfl rfl rfl ?_ | refine J.aload_nN (pc' := 91) rfl rfl rfl ?_
  refine J.new (pc' := 94) (t := 2) (N := 4) (n := 4) rfl ⟨by decide, by decide, _, rfl, rfl, List.mem_of_getElem? (i := 179) (by decide +kernel), List.mem_of_getElem? (i := 180) (by decide +kernel), List.mem_of_getElem? (i := 71) (by decide +kernel)⟩ (by first | omega | (exact R.r _ _) | (simp only [jM.len_sI, jM.len_sL, jM.len_sR, jM.len_fI, jM.len_fL, jM.len_fR]; omega) | (simp [jM.len_nw, jM.len_sI, jM.len_sL, jM.len_sR, jM.len_fI, jM.len_fL, jM.len_fR, *]; omega)) (by first | omega | (exact R.r _ _) | (simp only [jM.len_sI, jM.len_sL, jM.len_sR, jM.len_fI, jM.len_fL, jM.len_fR]; omega) | (simp [jM.len_nw, jM.len_sI, jM.len_sL, jM.len_sR, jM.len_fI, jM.len_fL, jM.len_fR, *]; omega)) rfl (fun q qf qb => ?_)
  have F1 : Fr k (k.nw q 2 4) (fun _ => False) := Fr.stN Fr.rf qf
  have tq : (k.nw q 2 4).tag q = 2 := by rw [jM.tag_nw, if_pos rfl]
  have zq : (k.nw q 2 4).I 2 q 3 = 0 := by rw [jM.I_nw, if_pos ⟨rfl, rfl⟩]
  generalize k.nw q 2 4 = k1 at F1 tq zq ⊢
  refine J.dup (pc' := 95) rfl rfl rfl ?_
  refine J.callI (pc' := 98) rfl MJ4_init_da8c8 ml_X11_50 iv_J4_init_da8c8 ⟨rfl, rfl⟩ (cb_init tq zq) rfl rfl (Nat.le_of_ble_eq_true rfl) (by first | omega | (exact R.r _ _) | (simp only [jM.len_sI, jM.len_sL, jM.len_sR, jM.len_fI, jM.len_fL, jM.len_fR]; omega) | (simp [jM.len_nw, jM.len_sI, jM.len_sL, jM.len_sR, jM.len_fI, jM.len_fL, jM.len_fR, *]; omega)) (by first | omega | (exact R.r _ _) | (simp only [jM.len_sI, jM.len_sL, jM.len_sR, jM.len_fI, jM.len_fL, jM.len_fR]; omega) | (simp [jM.len_nw, jM.len_sI, jM.len_sL, jM.len_sR, jM.len_fI, jM.len_fL, jM.len_fR, *]; omega)) (by first | omega | (exact R.r _ _) | (simp only [jM.len_sI, jM.len_sL, jM.len_sR, jM.len_fI, jM.len_fL, jM.len_fR]; omega) | (simp [jM.len_nw, jM.len_sI, jM.len_sL, jM.len_sR, jM.len_fI, jM.len_fL, jM.len_fR, *]; omega)) rfl ?_
  rintro _ k3 ⟨rfl, e, g1, g2, g3, g4⟩
  have F3 : Fr k k3 (fun _ => False) := F1.trans g3 (fun b hb w => by
    rcases w with w | w
    · exact w
    · rw [w] at hb; exact absurd qf hb)
  have tx4 := F3.tag tx (by decide)
  have tq3 := g3.tag tq (by decide)
  first | refine J.putR (pc' := 101) rfl fl_X11_51 rfl (Or.inr ⟨rfl, rfl, rfl⟩) (by first | assumption | (simp only [jM.tag_sI, jM.tag_sL, jM.tag_sR, jM.tag_fI, jM.tag_fL, jM.tag_fR]; assumption) | (simp [jM.tag_nw, jM.tag_sI, jM.tag_sL, jM.tag_sR, jM.tag_fI, jM.tag_fL, jM.tag_fR, *]; done)) (Or.inl rfl) rfl ?_ | refine J.putRN (pc' := 101) rfl fl_X11_51 rfl (Or.inr ⟨rfl, rfl, rfl⟩) (by first | assumption | (simp only [jM.tag_sI, jM.tag_sL, jM.tag_sR, jM.tag_fI, jM.tag_fL, jM.tag_fR]; assumption) | (simp [jM.tag_nw, jM.tag_sI, jM.tag_sL, jM.tag_sR, jM.tag_fI, jM.tag_fL, jM.tag_fR, *]; done)) (Or.inl rfl) rfl ?_
  first | refine J.aload_n (pc' := 102) rfl rfl rfl ?_ | refine J.aload_nN (pc' := 102) rfl rfl rfl ?_
  refine J.iconst (pc' := 103) rfl rfl ?_
  refine J.putI (pc' := 106) rfl fl_X11_55 rfl (Or.inl rfl) (by first | assumption | (simp only [jM.tag_sI, jM.tag_sL, jM.tag_sR, jM.tag_fI, jM.tag_fL, jM.tag_fR]; assumption) | (simp [jM.tag_nw, jM.tag_sI, jM.tag_sL, jM.tag_sR, jM.tag_fI, jM.tag_fL, jM.tag_fR, *]; done)) (Or.inl rfl) rfl ?_
  refine J.iconst (pc' := 107) rfl rfl ?_
  refine J.istore_n (pc' := 108) rfl rfl (by decide) ?_
  have F5 : Fr k3 ((k3.sR 15 x 8 (some q)).sI 15 x 9 0) (fun b => b = x) := Fr.stI (Fr.stR Fr.rf (Or.inl rfl)) (Or.inl rfl)
  have FK : Fr k ((k3.sR 15 x 8 (some q)).sI 15 x 9 0) (fun b => b = x) := F3.trans F5 (fun b _ w => w.elim False.elim id)
  have H' := H.keep FK (fun j hj => by rw [jM.R_sI, jM.R_sR, if_neg (by omega), F3.R tx (by decide) id])
  refine fin ((k3.sR 15 x 8 (some q)).sI 15 x 9 0) (fun j => if j = 8 then q else ρ j) ?_ (by rw [jM.I_sI, if_pos ⟨rfl, rfl, rfl⟩]) _ _ (by omega) (by omega) _ ⟨rfl, rfl, trivial⟩
  obtain ⟨a1, a2, a3, a4, a5, a6, a7, -⟩ := H'.cg (ρ' := fun j => if j = 8 then q else ρ j) (σ' := σ) (fun j hj => if_neg (by omega)) (fun _ => rfl)
  refine ⟨a1, a2, a3, fun j h5 _ => a4 j h5 (by omega), fun _ => a5 (by decide), fun _ => a6 (by decide), fun _ => a7 (by decide), fun _ => ⟨by rw [jM.R_sI, jM.R_sR, if_pos ⟨rfl, rfl, rfl⟩]; rfl, ?_⟩⟩
  have te := g1.2.2.1
  exact ⟨e, _, g1.keptW F5 (fun w => by have w : q = x := w; rw [w] at tq3; omega) (fun w => by have w : e = x := w; rw [w] at te; omega), fun i h0 h1 => by unfold V0 at h1; rw [if_neg (by omega)] at h1; omega⟩
end IN2

