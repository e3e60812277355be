section IN
variable {γ : jG} {h k k' : jM} {ρ σ : Nat → Nat} {x n : Nat} {mc ms c1 c2 : Nat} {Q : Option Value → jM → Prop}
/-- what stands of a new ScrapYard when n of its fields are made -/
def inT (γ : jG) (h : jM) (x : Nat) (k : jM) (ρ σ : Nat → Nat) (n : Nat) : Prop := k.tag x = 15 ∧ Fr h k (fun b => b = x) ∧ isK γ k ∧ (∀ j, j < 5 → j < n → k.R 15 x j = some (ρ j) ∧ isLi γ k j (ρ j) []) ∧ (5 < n → k.R 15 x 5 = some (ρ 5) ∧ k.tag (ρ 5) = 33 ∧ k.len (ρ 5) = 6 ∧ h.tag (ρ 5) = 0) ∧ (6 < n → k.R 15 x 6 = some (ρ 6) ∧ repG k ρ x V0) ∧ (7 < n → k.R 15 x 7 = some (σ 0) ∧ srOk k σ) ∧ (8 < n → k.R 15 x 8 = some (ρ 8) ∧ repH γ k ρ V0)
theorem inT.keep (H : inT γ h x k ρ σ n) (F : Fr k k' (fun b => b = x)) (hx : ∀ j, j < n → k'.R 15 x j = k.R 15 x j) : inT γ h x k' ρ σ n := by
  obtain ⟨a1, a2, a3, a4, a5, a6, a7, a8⟩ := H
  have FC : FrC k k' (fun c => c = 15) := F.mono (fun b _ w => by rw [w]; exact kc_o a1 (by decide))
  refine ⟨F.tag a1 (by decide), a2.trans F (fun b _ w => w.elim id id), isK.c FC a3 (by (try dsimp only); omega) (by (try dsimp only); omega), fun j h5 hj => ?_, fun hj => ?_, fun hj => ?_, fun hj => ?_, fun hj => ?_⟩
  · obtain ⟨b1, b2⟩ := a4 j h5 hj
    exact ⟨by rw [hx j hj]; exact b1, b2.c FC (by (try dsimp only); omega)⟩
  · obtain ⟨b1, b2, b3, b4⟩ := a5 hj
    exact ⟨by rw [hx 5 hj]; exact b1, F.tag b2 (by decide), by rw [F.len (by omega)]; exact b3, b4⟩
  · obtain ⟨b1, b2⟩ := a6 hj
    exact ⟨by rw [hx 6 hj]; exact b1, b2.c FC a1 (by (try dsimp only); omega)⟩
  · obtain ⟨b1, b2⟩ := a7 hj
    exact ⟨by rw [hx 7 hj]; exact b1, b2.c FC (fun _ _ _ => (by (try dsimp only); omega)) (by (try dsimp only); omega)⟩
  · obtain ⟨b1, b2⟩ := a8 hj
    exact ⟨by rw [hx 8 hj]; exact b1, b2.c FC (by (try dsimp only); omega) (by (try dsimp only); omega)⟩
theorem inT.cg {ρ' σ' : Nat → Nat} (H : inT γ h x k ρ σ n) (e : ∀ j, j < n → ρ' j = ρ j) (es : 7 < n → σ' = σ) : inT γ h x k ρ' σ' n := by
  obtain ⟨a1, a2, a3, a4, a5, a6, a7, a8⟩ := H
  refine ⟨a1, a2, a3, fun j h5 hj => by rw [e j hj]; exact a4 j h5 hj, fun hj => by rw [e 5 hj]; exact a5 hj, fun hj => ?_, fun hj => by rw [es hj]; exact a7 hj, fun hj => ?_⟩
  · unfold repG
    rw [e 6 hj]
    exact a6 hj
  · unfold repH
    rw [e 8 hj]
    exact a8 hj
theorem in_l0 (hc1 : c1 + 1 ≤ mc) (hc2 : c2 + 3 ≤ ms) (H : inT γ h x k ρ σ 0) (fin : ∀ k' ρ', inT γ h x k' ρ' σ 1 → ∀ lv, hasL lv [(0, .ref x)] → J γ mX11_init 5 mc ms (c1 + 1) (c2 + 3) k' 15 lv [] Q X0) : ∀ lv, hasL lv [(0, .ref x)] → J γ mX11_init 5 mc ms c1 c2 k 4 lv [] Q X0 := by
  intro lv hlv
  have tx := H.1
  have hK := H.2.2.1
  refine J.lc hlv ?_
  first | refine J.aload_n (pc' := 5) rfl rfl rfl ?_ | refine J.aload_nN (pc' := 5) rfl rfl rfl ?_
  refine J.new (pc' := 8) (t := 3) (N := 3) (n := 3) rfl ⟨by decide, by decide, _, rfl, rfl, List.mem_of_getElem? (i := 106) (by decide +kernel), List.mem_of_getElem? (i := 107) (by decide +kernel), List.mem_of_getElem? (i := 67) (by decide +kernel)⟩ (by first | omega | (exact R.r _ _) | (simp only [jM.len_sI, jM.len_sL, jM.len_sR, jM.len_fI, jM.len_fL, jM.len_fR]; omega) | (simp [jM.len_nw, jM.len_sI, jM.len_sL, jM.len_sR, jM.len_fI, jM.len_fL, jM.len_fR, *]; omega)) (by first | omega | (exact R.r _ _) | (simp only [jM.len_sI, jM.len_sL, jM.len_sR, jM.len_fI, jM.len_fL, jM.len_fR]; omega) | (simp [jM.len_nw, jM.len_sI, jM.len_sL, jM.len_sR, jM.len_fI, jM.len_fL, jM.len_fR, *]; omega)) rfl (fun q qf qb => ?_)
  refine J.dup (pc' := 9) rfl rfl rfl ?_
  refine J.callI (pc' := 12) rfl MJx4a65c_init_da8c8 ml_X11_11 iv_Jx4a65c_init_da8c8 ⟨rfl, rfl⟩ (ct_list_init (by rw [jM.tag_nw, if_pos rfl])) rfl rfl (Nat.le_of_ble_eq_true rfl) (by first | omega | (exact R.r _ _) | (simp only [jM.len_sI, jM.len_sL, jM.len_sR, jM.len_fI, jM.len_fL, jM.len_fR]; omega) | (simp [jM.len_nw, jM.len_sI, jM.len_sL, jM.len_sR, jM.len_fI, jM.len_fL, jM.len_fR, *]; omega)) (by first | omega | (exact R.r _ _) | (simp only [jM.len_sI, jM.len_sL, jM.len_sR, jM.len_fI, jM.len_fL, jM.len_fR]; omega) | (simp [jM.len_nw, jM.len_sI, jM.len_sL, jM.len_sR, jM.len_fI, jM.len_fL, jM.len_fR, *]; omega)) (by first | omega | (exact R.r _ _) | (simp only [jM.len_sI, jM.len_sL, jM.len_sR, jM.len_fI, jM.len_fL, jM.len_fR]; omega) | (simp [jM.len_nw, jM.len_sI, jM.len_sL, jM.len_sR, jM.len_fI, jM.len_fL, jM.len_fR, *]; omega)) rfl ?_
  rintro _ _ ⟨rfl, rfl⟩
  obtain ⟨g1, g2, g3⟩ := nwL (γ := γ) (n := 3) qf hK.2.2.2
  refine J.own q 0 (some 0) ?_
  have g4 : isL γ ((((k.nw q 3 3).sI 3 q 0 0).sR 3 q 1 (some (γ.K 0))).sR 0 q 0 (some 0)) q (γ.K 0) [] := by
    obtain ⟨b1, b2, b3, b4, b5, b6, b7, b8, b9⟩ := g1
    exact ⟨b1, by rw [jM.R_sR, if_neg (by omega)]; exact b2, b3, b4, b5, b6, b7, fun i hi => absurd hi (Nat.not_lt_zero _), b9⟩
  have o4 : ow ((((k.nw q 3 3).sI 3 q 0 0).sR 3 q 1 (some (γ.K 0))).sR 0 q 0 (some 0)) q = some 0 := by show ((((k.nw q 3 3).sI 3 q 0 0).sR 3 q 1 (some (γ.K 0))).sR 0 q 0 (some 0)).R 0 q 0 = _; rw [jM.R_sR, if_pos ⟨rfl, rfl, rfl⟩]
  have F4 : Fr k ((((k.nw q 3 3).sI 3 q 0 0).sR 3 q 1 (some (γ.K 0))).sR 0 q 0 (some 0)) (fun _ => False) := Fr.stO g2 qf
  have l4 : ((((k.nw q 3 3).sI 3 q 0 0).sR 3 q 1 (some (γ.K 0))).sR 0 q 0 (some 0)).len (γ.K 0) = 0 := by rw [F4.len (by rw [hK.2.2.2.1]; decide)]; exact hK.2.2.2.2
  generalize (((k.nw q 3 3).sI 3 q 0 0).sR 3 q 1 (some (γ.K 0))).sR 0 q 0 (some 0) = k4 at g4 o4 F4 l4 ⊢
  have tx4 := F4.tag tx (by decide)
  have tq := g4.1
  have hne : ¬ q = x := fun e => by rw [e] at tq; omega
  first | refine J.putR (pc' := 15) rfl fl_X11_12 rfl (Or.inr ⟨rfl, rfl, rfl⟩) (by first | assumption | (simp only [jM.tag_sI, jM.tag_sL, jM.tag_sR, jM.tag_fI, jM.tag_fL, jM.tag_fR]; assumption) | (simp [jM.tag_nw, jM.tag_sI, jM.tag_sL, jM.tag_sR, jM.tag_fI, jM.tag_fL, jM.tag_fR, *]; done)) (Or.inl rfl) rfl ?_ | refine J.putRN (pc' := 15) rfl fl_X11_12 rfl (Or.inr ⟨rfl, rfl, rfl⟩) (by first | assumption | (simp only [jM.tag_sI, jM.tag_sL, jM.tag_sR, jM.tag_fI, jM.tag_fL, jM.tag_fR]; assumption) | (simp [jM.tag_nw, jM.tag_sI, jM.tag_sL, jM.tag_sR, jM.tag_fI, jM.tag_fL, jM.tag_fR, *]; done)) (Or.inl rfl) rfl ?_
  have F5 : Fr k4 (k4.sR 15 x 0 (some q)) (fun b => b = x) := Fr.stR Fr.rf (Or.inl rfl)
  have FK : Fr k (k4.sR 15 x 0 (some q)) (fun b => b = x) := F4.trans F5 (fun b _ w => w.elim False.elim id)
  have H' := H.keep FK (fun j hj => by rw [jM.R_sR, if_neg (by omega), F4.R tx (by decide) id])
  refine fin (k4.sR 15 x 0 (some q)) (fun j => if j = 0 then q else ρ j) ?_ _ ⟨rfl, trivial⟩
  obtain ⟨a1, a2, a3, a4, -⟩ := H'.cg (ρ' := fun j => if j = 0 then q else ρ j) (σ' := σ) (fun j hj => if_neg (by omega)) (fun _ => rfl)
  refine ⟨a1, a2, a3, fun j h5 hj => ?_, fun w => absurd w (by decide), fun w => absurd w (by decide), fun w => absurd w (by decide), fun w => absurd w (by decide)⟩
  by_cases c : j = 0
  · subst c
    exact ⟨by rw [jM.R_sR, if_pos ⟨rfl, rfl, rfl⟩]; rfl, ⟨⟨γ.K 0, g4.keptW F5 hne (Or.inr l4)⟩, (F5.ow (b := q) (by omega)).trans o4⟩⟩
  · exact a4 j h5 (by omega)
theorem in_l1 (hc1 : c1 + 1 ≤ mc) (hc2 : c2 + 3 ≤ ms) (H : inT γ h x k ρ σ 1) (fin : ∀ k' ρ', inT γ h x k' ρ' σ 2 → ∀ lv, hasL lv [(0, .ref x)] → J γ mX11_init 5 mc ms (c1 + 1) (c2 + 3) k' 26 lv [] Q X0) : ∀ lv, hasL lv [(0, .ref x)] → J γ mX11_init 5 mc ms c1 c2 k 15 lv [] Q X0 := by
  intro lv hlv
  have tx := H.1
  have hK := H.2.2.1
  refine J.lc hlv ?_
  first | refine J.aload_n (pc' := 16) rfl rfl rfl ?_ | refine J.aload_nN (pc' := 16) rfl rfl rfl ?_
  refine J.new (pc' := 19) (t := 3) (N := 3) (n := 3) rfl ⟨by decide, by decide, _, rfl, rfl, List.mem_of_getElem? (i := 106) (by decide +kernel), List.mem_of_getElem? (i := 107) (by decide +kernel), List.mem_of_getElem? (i := 67) (by decide +kernel)⟩ (by first | omega | (exact R.r _ _) | (simp only [jM.len_sI, jM.len_sL, jM.len_sR, jM.len_fI, jM.len_fL, jM.len_fR]; omega) | (simp [jM.len_nw, jM.len_sI, jM.len_sL, jM.len_sR, jM.len_fI, jM.len_fL, jM.len_fR, *]; omega)) (by first | omega | (exact R.r _ _) | (simp only [jM.len_sI, jM.len_sL, jM.len_sR, jM.len_fI, jM.len_fL, jM.len_fR]; omega) | (simp [jM.len_nw, jM.len_sI, jM.len_sL, jM.len_sR, jM.len_fI, jM.len_fL, jM.len_fR, *]; omega)) rfl (fun q qf qb => ?_)
  refine J.dup (pc' := 20) rfl rfl rfl ?_
  refine J.callI (pc' := 23) rfl MJx4a65c_init_da8c8 ml_X11_11 iv_Jx4a65c_init_da8c8 ⟨rfl, rfl⟩ (ct_list_init (by rw [jM.tag_nw, if_pos rfl])) rfl rfl (Nat.le_of_ble_eq_true rfl) (by first | omega | (exact R.r _ _) | (simp only [jM.len_sI, jM.len_sL, jM.len_sR, jM.len_fI, jM.len_fL, jM.len_fR]; omega) | (simp [jM.len_nw, jM.len_sI, jM.len_sL, jM.len_sR, jM.len_fI, jM.len_fL, jM.len_fR, *]; omega)) (by first | omega | (exact R.r _ _) | (simp only [jM.len_sI, jM.len_sL, jM.len_sR, jM.len_fI, jM.len_fL, jM.len_fR]; omega) | (simp [jM.len_nw, jM.len_sI, jM.len_sL, jM.len_sR, jM.len_fI, jM.len_fL, jM.len_fR, *]; omega)) (by first | omega | (exact R.r _ _) | (simp only [jM.len_sI, jM.len_sL, jM.len_sR, jM.len_fI, jM.len_fL, jM.len_fR]; omega) | (simp [jM.len_nw, jM.len_sI, jM.len_sL, jM.len_sR, jM.len_fI, jM.len_fL, jM.len_fR, *]; omega)) rfl ?_
  rintro _ _ ⟨rfl, rfl⟩
  obtain ⟨g1, g2, g3⟩ := nwL (γ := γ) (n := 3) qf hK.2.2.2
  refine J.own q 0 (some 1) ?_
  have g4 : isL γ ((((k.nw q 3 3).sI 3 q 0 0).sR 3 q 1 (some (γ.K 0))).sR 0 q 0 (some 1)) q (γ.K 0) [] := by
    obtain ⟨b1, b2, b3, b4, b5, b6, b7, b8, b9⟩ := g1
    exact ⟨b1, by rw [jM.R_sR, if_neg (by omega)]; exact b2, b3, b4, b5, b6, b7, fun i hi => absurd hi (Nat.not_lt_zero _), b9⟩
  have o4 : ow ((((k.nw q 3 3).sI 3 q 0 0).sR 3 q 1 (some (γ.K 0))).sR 0 q 0 (some 1)) q = some 1 := by show ((((k.nw q 3 3).sI 3 q 0 0).sR 3 q 1 (some (γ.K 0))).sR 0 q 0 (some 1)).R 0 q 0 = _; rw [jM.R_sR, if_pos ⟨rfl, rfl, rfl⟩]
  have F4 : Fr k ((((k.nw q 3 3).sI 3 q 0 0).sR 3 q 1 (some (γ.K 0))).sR 0 q 0 (some 1)) (fun _ => False) := Fr.stO g2 qf
  have l4 : ((((k.nw q 3 3).sI 3 q 0 0).sR 3 q 1 (some (γ.K 0))).sR 0 q 0 (some 1)).len (γ.K 0) = 0 := by rw [F4.len (by rw [hK.2.2.2.1]; decide)]; exact hK.2.2.2.2
  generalize (((k.nw q 3 3).sI 3 q 0 0).sR 3 q 1 (some (γ.K 0))).sR 0 q 0 (some 1) = k4 at g4 o4 F4 l4 ⊢
  have tx4 := F4.tag tx (by decide)
  have tq := g4.1
  have hne : ¬ q = x := fun e => by rw [e] at tq; omega
  first | refine J.putR (pc' := 26) rfl fl_X11_16 rfl (Or.inr ⟨rfl, rfl, rfl⟩) (by first | assumption | (simp only [jM.tag_sI, jM.tag_sL, jM.tag_sR, jM.tag_fI, jM.tag_fL, jM.tag_fR]; assumption) | (simp [jM.tag_nw, jM.tag_sI, jM.tag_sL, jM.tag_sR, jM.tag_fI, jM.tag_fL, jM.tag_fR, *]; done)) (Or.inl rfl) rfl ?_ | refine J.putRN (pc' := 26) rfl fl_X11_16 rfl (Or.inr ⟨rfl, rfl, rfl⟩) (by first | assumption | (simp only [jM.tag_sI, jM.tag_sL, jM.tag_sR, jM.tag_fI, jM.tag_fL, jM.tag_fR]; assumption) | (simp [jM.tag_nw, jM.tag_sI, jM.tag_sL, jM.tag_sR, jM.tag_fI, jM.tag_fL, jM.tag_fR, *]; done)) (Or.inl rfl) rfl ?_
  have F5 : Fr k4 (k4.sR 15 x 1 (some q)) (fun b => b = x) := Fr.stR Fr.rf (Or.inl rfl)
  have FK : Fr k (k4.sR 15 x 1 (some q)) (fun b => b = x) := F4.trans F5 (fun b _ w => w.elim False.elim id)
  have H' := H.keep FK (fun j hj => by rw [jM.R_sR, if_neg (by omega), F4.R tx (by decide) id])
  refine fin (k4.sR 15 x 1 (some q)) (fun j => if j = 1 then q else ρ j) ?_ _ ⟨rfl, trivial⟩
  obtain ⟨a1, a2, a3, a4, -⟩ := H'.cg (ρ' := fun j => if j = 1 then q else ρ j) (σ' := σ) (fun j hj => if_neg (by omega)) (fun _ => rfl)
  refine ⟨a1, a2, a3, fun j h5 hj => ?_, fun w => absurd w (by decide), fun w => absurd w (by decide), fun w => absurd w (by decide), fun w => absurd w (by decide)⟩
  by_cases c : j = 1
  · subst c
    exact ⟨by rw [jM.R_sR, if_pos ⟨rfl, rfl, rfl⟩]; rfl, ⟨⟨γ.K 0, g4.keptW F5 hne (Or.inr l4)⟩, (F5.ow (b := q) (by omega)).trans o4⟩⟩
  · exact a4 j h5 (by omega)
theorem in_l2 (hc1 : c1 + 1 ≤ mc) (hc2 : c2 + 3 ≤ ms) (H : inT γ h x k ρ σ 2) (fin : ∀ k' ρ', inT γ h x k' ρ' σ 3 → ∀ lv, hasL lv [(0, .ref x)] → J γ mX11_init 5 mc ms (c1 + 1) (c2 + 3) k' 37 lv [] Q X0) : ∀ lv, hasL lv [(0, .ref x)] → J γ mX11_init 5 mc ms c1 c2 k 26 lv [] Q X0 := by
  intro lv hlv
  have tx := H.1
  have hK := H.2.2.1
  refine J.lc hlv ?_
  first | refine J.aload_n (pc' := 27) rfl rfl rfl ?_ | refine J.aload_nN (pc' := 27) rfl rfl rfl ?_
  refine J.new (pc' := 30) (t := 3) (N := 3) (n := 3) rfl ⟨by decide, by decide, _, rfl, rfl, List.mem_of_getElem? (i := 106) (by decide +kernel), List.mem_of_getElem? (i := 107) (by decide +kernel), List.mem_of_getElem? (i := 67) (by decide +kernel)⟩ (by first | omega | (exact R.r _ _) | (simp only [jM.len_sI, jM.len_sL, jM.len_sR, jM.len_fI, jM.len_fL, jM.len_fR]; omega) | (simp [jM.len_nw, jM.len_sI, jM.len_sL, jM.len_sR, jM.len_fI, jM.len_fL, jM.len_fR, *]; omega)) (by first | omega | (exact R.r _ _) | (simp only [jM.len_sI, jM.len_sL, jM.len_sR, jM.len_fI, jM.len_fL, jM.len_fR]; omega) | (simp [jM.len_nw, jM.len_sI, jM.len_sL, jM.len_sR, jM.len_fI, jM.len_fL, jM.len_fR, *]; omega)) rfl (fun q qf qb => ?_)
  refine J.dup (pc' := 31) rfl rfl rfl ?_
  refine J.callI (pc' := 34) rfl MJx4a65c_init_da8c8 ml_X11_11 iv_Jx4a65c_init_da8c8 ⟨rfl, rfl⟩ (ct_list_init (by rw [jM.tag_nw, if_pos rfl])) rfl rfl (Nat.le_of_ble_eq_true rfl) (by first | omega | (exact R.r _ _) | (simp only [jM.len_sI, jM.len_sL, jM.len_sR, jM.len_fI, jM.len_fL, jM.len_fR]; omega) | (simp [jM.len_nw, jM.len_sI, jM.len_sL, jM.len_sR, jM.len_fI, jM.len_fL, jM.len_fR, *]; omega)) (by first | omega | (exact R.r _ _) | (simp only [jM.len_sI, jM.len_sL, jM.len_sR, jM.len_fI, jM.len_fL, jM.len_fR]; omega) | (simp [jM.len_nw, jM.len_sI, jM.len_sL, jM.len_sR, jM.len_fI, jM.len_fL, jM.len_fR, *]; omega)) (by first | omega | (exact R.r _ _) | (simp only [jM.len_sI, jM.len_sL, jM.len_sR, jM.len_fI, jM.len_fL, jM.len_fR]; omega) | (simp [jM.len_nw, jM.len_sI, jM.len_sL, jM.len_sR, jM.len_fI, jM.len_fL, jM.len_fR, *]; omega)) rfl ?_
  rintro _ _ ⟨rfl, rfl⟩
  obtain ⟨g1, g2, g3⟩ := nwL (γ := γ) (n := 3) qf hK.2.2.2
  refine J.own q 0 (some 2) ?_
  have g4 : isL γ ((((k.nw q 3 3).sI 3 q 0 0).sR 3 q 1 (some (γ.K 0))).sR 0 q 0 (some 2)) q (γ.K 0) [] := by
    obtain ⟨b1, b2, b3, b4, b5, b6, b7, b8, b9⟩ := g1
    exact ⟨b1, by rw [jM.R_sR, if_neg (by omega)]; exact b2, b3, b4, b5, b6, b7, fun i hi => absurd hi (Nat.not_lt_zero _), b9⟩
  have o4 : ow ((((k.nw q 3 3).sI 3 q 0 0).sR 3 q 1 (some (γ.K 0))).sR 0 q 0 (some 2)) q = some 2 := by show ((((k.nw q 3 3).sI 3 q 0 0).sR 3 q 1 (some (γ.K 0))).sR 0 q 0 (some 2)).R 0 q 0 = _; rw [jM.R_sR, if_pos ⟨rfl, rfl, rfl⟩]
  have F4 : Fr k ((((k.nw q 3 3).sI 3 q 0 0).sR 3 q 1 (some (γ.K 0))).sR 0 q 0 (some 2)) (fun _ => False) := Fr.stO g2 qf
  have l4 : ((((k.nw q 3 3).sI 3 q 0 0).sR 3 q 1 (some (γ.K 0))).sR 0 q 0 (some 2)).len (γ.K 0) = 0 := by rw [F4.len (by rw [hK.2.2.2.1]; decide)]; exact hK.2.2.2.2
  generalize (((k.nw q 3 3).sI 3 q 0 0).sR 3 q 1 (some (γ.K 0))).sR 0 q 0 (some 2) = k4 at g4 o4 F4 l4 ⊢
  have tx4 := F4.tag tx (by decide)
  have tq := g4.1
  have hne : ¬ q = x := fun e => by rw [e] at tq; omega
  first | refine J.putR (pc' := 37) rfl fl_X11_19 rfl (Or.inr ⟨rfl, rfl, rfl⟩) (by first | assumption | (simp only [jM.tag_sI, jM.tag_sL, jM.tag_sR, jM.tag_fI, jM.tag_fL, jM.tag_fR]; assumption) | (simp [jM.tag_nw, jM.tag_sI, jM.tag_sL, jM.tag_sR, jM.tag_fI, jM.tag_fL, jM.tag_fR, *]; done)) (Or.inl rfl) rfl ?_ | refine J.putRN (pc' := 37) rfl fl_X11_19 rfl (Or.inr ⟨rfl, rfl, rfl⟩) (by first | assumption | (simp only [jM.tag_sI, jM.tag_sL, jM.tag_sR, jM.tag_fI, jM.tag_fL, jM.tag_fR]; assumption) | (simp [jM.tag_nw, jM.tag_sI, jM.tag_sL, jM.tag_sR, jM.tag_fI, jM.tag_fL, jM.tag_fR, *]; done)) (Or.inl rfl) rfl ?_
  have F5 : Fr k4 (k4.sR 15 x 2 (some q)) (fun b => b = x) := Fr.stR Fr.rf (Or.inl rfl)
  have FK : Fr k (k4.sR 15 x 2 (some q)) (fun b => b = x) := F4.trans F5 (fun b _ w => w.elim False.elim id)
  have H' := H.keep FK (fun j hj => by rw [jM.R_sR, if_neg (by omega), F4.R tx (by decide) id])
  refine fin (k4.sR 15 x 2 (some q)) (fun j => if j = 2 then q else ρ j) ?_ _ ⟨rfl, trivial⟩
  obtain ⟨a1, a2, a3, a4, -⟩ := H'.cg (ρ' := fun j => if j = 2 then q else ρ j) (σ' := σ) (fun j hj => if_neg (by omega)) (fun _ => rfl)
  refine ⟨a1, a2, a3, fun j h5 hj => ?_, fun w => absurd w (by decide), fun w => absurd w (by decide), fun w => absurd w (by decide), fun w => absurd w (by decide)⟩
  by_cases c : j = 2
  · subst c
    exact ⟨by rw [jM.R_sR, if_pos ⟨rfl, rfl, rfl⟩]; rfl, ⟨⟨γ.K 0, g4.keptW F5 hne (Or.inr l4)⟩, (F5.ow (b := q) (by omega)).trans o4⟩⟩
  · exact a4 j h5 (by omega)
theorem in_l3 (hc1 : c1 + 1 ≤ mc) (hc2 : c2 + 3 ≤ ms) (H : inT γ h x k ρ σ 3) (fin : ∀ k' ρ', inT γ h x k' ρ' σ 4 → ∀ lv, hasL lv [(0, .ref x)] → J γ mX11_init 5 mc ms (c1 + 1) (c2 + 3) k' 48 lv [] Q X0) : ∀ lv, hasL lv [(0, .ref x)] → J γ mX11_init 5 mc ms c1 c2 k 37 lv [] Q X0 := by
  intro lv hlv
  have tx := H.1
  have hK := H.2.2.1
  refine J.lc hlv ?_
  first | refine J.aload_n (pc' := 38) rfl rfl rfl ?_ | refine J.aload_nN (pc' := 38) rfl rfl rfl ?_
  refine J.new (pc' := 41) (t := 3) (N := 3) (n := 3) rfl ⟨by decide, by decide, _, rfl, rfl, List.mem_of_getElem? (i := 106) (by decide +kernel), List.mem_of_getElem? (i := 107) (by decide +kernel), List.mem_of_getElem? (i := 67) (by decide +kernel)⟩ (by first | omega | (exact R.r _ _) | (simp only [jM.len_sI, jM.len_sL, jM.len_sR, jM.len_fI, jM.len_fL, jM.len_fR]; omega) | (simp [jM.len_nw, jM.len_sI, jM.len_sL, jM.len_sR, jM.len_fI, jM.len_fL, jM.len_fR, *]; omega)) (by first | omega | (exact R.r _ _) | (simp only [jM.len_sI, jM.len_sL, jM.len_sR, jM.len_fI, jM.len_fL, jM.len_fR]; omega) | (simp [jM.len_nw, jM.len_sI, jM.len_sL, jM.len_sR, jM.len_fI, jM.len_fL, jM.len_fR, *]; omega)) rfl (fun q qf qb => ?_)
  refine J.dup (pc' := 42) rfl rfl rfl ?_
  refine J.callI (pc' := 45) rfl MJx4a65c_init_da8c8 ml_X11_11 iv_Jx4a65c_init_da8c8 ⟨rfl, rfl⟩ (ct_list_init (by rw [jM.tag_nw, if_pos rfl])) rfl rfl (Nat.le_of_ble_eq_true rfl) (by first | omega | (exact R.r _ _) | (simp only [jM.len_sI, jM.len_sL, jM.len_sR, jM.len_fI, jM.len_fL, jM.len_fR]; omega) | (simp [jM.len_nw, jM.len_sI, jM.len_sL, jM.len_sR, jM.len_fI, jM.len_fL, jM.len_fR, *]; omega)) (by first | omega | (exact R.r _ _) | (simp only [jM.len_sI, jM.len_sL, jM.len_sR, jM.len_fI, jM.len_fL, jM.len_fR]; omega) | (simp [jM.len_nw, jM.len_sI, jM.len_sL, jM.len_sR, jM.len_fI, jM.len_fL, jM.len_fR, *]; omega)) (by first | omega | (exact R.r _ _) | (simp only [jM.len_sI, jM.len_sL, jM.len_sR, jM.len_fI, jM.len_fL, jM.len_fR]; omega) | (simp [jM.len_nw, jM.len_sI, jM.len_sL, jM.len_sR, jM.len_fI, jM.len_fL, jM.len_fR, *]; omega)) rfl ?_
  rintro _ _ ⟨rfl, rfl⟩
  obtain ⟨g1, g2, g3⟩ := nwL (γ := γ) (n := 3) qf hK.2.2.2
  refine J.own q 0 (some 3) ?_
  have g4 : isL γ ((((k.nw q 3 3).sI 3 q 0 0).sR 3 q 1 (some (γ.K 0))).sR 0 q 0 (some 3)) q (γ.K 0) [] := by
    obtain ⟨b1, b2, b3, b4, b5, b6, b7, b8, b9⟩ := g1
    exact ⟨b1, by rw [jM.R_sR, if_neg (by omega)]; exact b2, b3, b4, b5, b6, b7, fun i hi => absurd hi (Nat.not_lt_zero _), b9⟩
  have o4 : ow ((((k.nw q 3 3).sI 3 q 0 0).sR 3 q 1 (some (γ.K 0))).sR 0 q 0 (some 3)) q = some 3 := by show ((((k.nw q 3 3).sI 3 q 0 0).sR 3 q 1 (some (γ.K 0))).sR 0 q 0 (some 3)).R 0 q 0 = _; rw [jM.R_sR, if_pos ⟨rfl, rfl, rfl⟩]
  have F4 : Fr k ((((k.nw q 3 3).sI 3 q 0 0).sR 3 q 1 (some (γ.K 0))).sR 0 q 0 (some 3)) (fun _ => False) := Fr.stO g2 qf
  have l4 : ((((k.nw q 3 3).sI 3 q 0 0).sR 3 q 1 (some (γ.K 0))).sR 0 q 0 (some 3)).len (γ.K 0) = 0 := by rw [F4.len (by rw [hK.2.2.2.1]; decide)]; exact hK.2.2.2.2
  generalize (((k.nw q 3 3).sI 3 q 0 0).sR 3 q 1 (some (γ.K 0))).sR 0 q 0 (some 3) = k4 at g4 o4 F4 l4 ⊢
  have tx4 := F4.tag tx (by decide)
  have tq := g4.1
  have hne : ¬ q = x := fun e => by rw [e] at tq; omega
  first | refine J.putR (pc' := 48) rfl fl_X11_22 rfl (Or.inr ⟨rfl, rfl, rfl⟩) (by first | assumption | (simp only [jM.tag_sI, jM.tag_sL, jM.tag_sR, jM.tag_fI, jM.tag_fL, jM.tag_fR]; assumption) | (simp [jM.tag_nw, jM.tag_sI, jM.tag_sL, jM.tag_sR, jM.tag_fI, jM.tag_fL, jM.tag_fR, *]; done)) (Or.inl rfl) rfl ?_ | refine J.putRN (pc' := 48) rfl fl_X11_22 rfl (Or.inr ⟨rfl, rfl, rfl⟩) (by first | assumption | (simp only [jM.tag_sI, jM.tag_sL, jM.tag_sR, jM.tag_fI, jM.tag_fL, jM.tag_fR]; assumption) | (simp [jM.tag_nw, jM.tag_sI, jM.tag_sL, jM.tag_sR, jM.tag_fI, jM.tag_fL, jM.tag_fR, *]; done)) (Or.inl rfl) rfl ?_
  have F5 : Fr k4 (k4.sR 15 x 3 (some q)) (fun b => b = x) := Fr.stR Fr.rf (Or.inl rfl)
  have FK : Fr k (k4.sR 15 x 3 (some q)) (fun b => b = x) := F4.trans F5 (fun b _ w => w.elim False.elim id)
  have H' := H.keep FK (fun j hj => by rw [jM.R_sR, if_neg (by omega), F4.R tx (by decide) id])
  refine fin (k4.sR 15 x 3 (some q)) (fun j => if j = 3 then q else ρ j) ?_ _ ⟨rfl, trivial⟩
  obtain ⟨a1, a2, a3, a4, -⟩ := H'.cg (ρ' := fun j => if j = 3 then q else ρ j) (σ' := σ) (fun j hj => if_neg (by omega)) (fun _ => rfl)
  refine ⟨a1, a2, a3, fun j h5 hj => ?_, fun w => absurd w (by decide), fun w => absurd w (by decide), fun w => absurd w (by decide), fun w => absurd w (by decide)⟩
  by_cases c : j = 3
  · subst c
    exact ⟨by rw [jM.R_sR, if_pos ⟨rfl, rfl, rfl⟩]; rfl, ⟨⟨γ.K 0, g4.keptW F5 hne (Or.inr l4)⟩, (F5.ow (b := q) (by omega)).trans o4⟩⟩
  · exact a4 j h5 (by omega)
theorem in_l4 (hc1 : c1 + 1 ≤ mc) (hc2 : c2 + 3 ≤ ms) (H : inT γ h x k ρ σ 4) (fin : ∀ k' ρ', inT γ h x k' ρ' σ 5 → ∀ lv, hasL lv [(0, .ref x)] → J γ mX11_init 5 mc ms (c1 + 1) (c2 + 3) k' 59 lv [] Q X0) : ∀ lv, hasL lv [(0, .ref x)] → J γ mX11_init 5 mc ms c1 c2 k 48 lv [] Q X0 := by
  intro lv hlv
  have tx := H.1
  have hK := H.2.2.1
  refine J.lc hlv ?_
  first | refine J.aload_n (pc' := 49) rfl rfl rfl ?_ | refine J.aload_nN (pc' := 49) rfl rfl rfl ?_
  refine J.new (pc' := 52) (t := 3) (N := 3) (n := 3) rfl ⟨by decide, by decide, _, rfl, rfl, List.mem_of_getElem? (i := 106) (by decide +kernel), List.mem_of_getElem? (i := 107) (by decide +kernel), List.mem_of_getElem? (i := 67) (by decide +kernel)⟩ (by first | omega | (exact R.r _ _) | (simp only [jM.len_sI, jM.len_sL, jM.len_sR, jM.len_fI, jM.len_fL, jM.len_fR]; omega) | (simp [jM.len_nw, jM.len_sI, jM.len_sL, jM.len_sR, jM.len_fI, jM.len_fL, jM.len_fR, *]; omega)) (by first | omega | (exact R.r _ _) | (simp only [jM.len_sI, jM.len_sL, jM.len_sR, jM.len_fI, jM.len_fL, jM.len_fR]; omega) | (simp [jM.len_nw, jM.len_sI, jM.len_sL, jM.len_sR, jM.len_fI, jM.len_fL, jM.len_fR, *]; omega)) rfl (fun q qf qb => ?_)
  refine J.dup (pc' := 53) rfl rfl rfl ?_
  refine J.callI (pc' := 56) rfl MJx4a65c_init_da8c8 ml_X11_11 iv_Jx4a65c_init_da8c8 ⟨rfl, rfl⟩ (ct_list_init (by rw [jM.tag_nw, if_pos rfl])) rfl rfl (Nat.le_of_ble_eq_true rfl) (by first | omega | (exact R.r _ _) | (simp only [jM.len_sI, jM.len_sL, jM.len_sR, jM.len_fI, jM.len_fL, jM.len_fR]; omega) | (simp [jM.len_nw, jM.len_sI, jM.len_sL, jM.len_sR, jM.len_fI, jM.len_fL, jM.len_fR, *]; omega)) (by first | omega | (exact R.r _ _) | (simp only [jM.len_sI, jM.len_sL, jM.len_sR, jM.len_fI, jM.len_fL, jM.len_fR]; omega) | (simp [jM.len_nw, jM.len_sI, jM.len_sL, jM.len_sR, jM.len_fI, jM.len_fL, jM.len_fR, *]; omega)) (by first | omega | (exact R.r _ _) | (simp only [jM.len_sI, jM.len_sL, jM.len_sR, jM.len_fI, jM.len_fL, jM.len_fR]; omega) | (simp [jM.len_nw, jM.len_sI, jM.len_sL, jM.len_sR, jM.len_fI, jM.len_fL, jM.len_fR, *]; omega)) rfl ?_
  rintro _ _ ⟨rfl, rfl⟩
  obtain ⟨g1, g2, g3⟩ := nwL (γ := γ) (n := 3) qf hK.2.2.2
  refine J.own q 0 (some 4) ?_
  have g4 : isL γ ((((k.nw q 3 3).sI 3 q 0 0).sR 3 q 1 (some (γ.K 0))).sR 0 q 0 (some 4)) q (γ.K 0) [] := by
    obtain ⟨b1, b2, b3, b4, b5, b6, b7, b8, b9⟩ := g1
    exact ⟨b1, by rw [jM.R_sR, if_neg (by omega)]; exact b2, b3, b4, b5, b6, b7, fun i hi => absurd hi (Nat.not_lt_zero _), b9⟩
  have o4 : ow ((((k.nw q 3 3).sI 3 q 0 0).sR 3 q 1 (some (γ.K 0))).sR 0 q 0 (some 4)) q = some 4 := by show ((((k.nw q 3 3).sI 3 q 0 0).sR 3 q 1 (some (γ.K 0))).sR 0 q 0 (some 4)).R 0 q 0 = _; rw [jM.R_sR, if_pos ⟨rfl, rfl, rfl⟩]
  have F4 : Fr k ((((k.nw q 3 3).sI 3 q 0 0).sR 3 q 1 (some (γ.K 0))).sR 0 q 0 (some 4)) (fun _ => False) := Fr.stO g2 qf
  have l4 : ((((k.nw q 3 3).sI 3 q 0 0).sR 3 q 1 (some (γ.K 0))).sR 0 q 0 (some 4)).len (γ.K 0) = 0 := by rw [F4.len (by rw [hK.2.2.2.1]; decide)]; exact hK.2.2.2.2
  generalize (((k.nw q 3 3).sI 3 q 0 0).sR 3 q 1 (some (γ.K 0))).sR 0 q 0 (some 4) = k4 at g4 o4 F4 l4 ⊢
  have tx4 := F4.tag tx (by decide)
  have tq := g4.1
  have hne : ¬ q = x := fun e => by rw [e] at tq; omega
  first | refine J.putR (pc' := 59) rfl fl_X11_25 rfl (Or.inr ⟨rfl, rfl, rfl⟩) (by first | assumption | (simp only [jM.tag_sI, jM.tag_sL, jM.tag_sR, jM.tag_fI, jM.tag_fL, jM.tag_fR]; assumption) | (simp [jM.tag_nw, jM.tag_sI, jM.tag_sL, jM.tag_sR, jM.tag_fI, jM.tag_fL, jM.tag_fR, *]; done)) (Or.inl rfl) rfl ?_ | refine J.putRN (pc' := 59) rfl fl_X11_25 rfl (Or.inr ⟨rfl, rfl, rfl⟩) (by first | assumption | (simp only [jM.tag_sI, jM.tag_sL, jM.tag_sR, jM.tag_fI, jM.tag_fL, jM.tag_fR]; assumption) | (simp [jM.tag_nw, jM.tag_sI, jM.tag_sL, jM.tag_sR, jM.tag_fI, jM.tag_fL, jM.tag_fR, *]; done)) (Or.inl rfl) rfl ?_
  have F5 : Fr k4 (k4.sR 15 x 4 (some q)) (fun b => b = x) := Fr.stR Fr.rf (Or.inl rfl)
  have FK : Fr k (k4.sR 15 x 4 (some q)) (fun b => b = x) := F4.trans F5 (fun b _ w => w.elim False.elim id)
  have H' := H.keep FK (fun j hj => by rw [jM.R_sR, if_neg (by omega), F4.R tx (by decide) id])
  refine fin (k4.sR 15 x 4 (some q)) (fun j => if j = 4 then q else ρ j) ?_ _ ⟨rfl, trivial⟩
  obtain ⟨a1, a2, a3, a4, -⟩ := H'.cg (ρ' := fun j => if j = 4 then q else ρ j) (σ' := σ) (fun j hj => if_neg (by omega)) (fun _ => rfl)
  refine ⟨a1, a2, a3, fun j h5 hj => ?_, fun w => absurd w (by decide), fun w => absurd w (by decide), fun w => absurd w (by decide), fun w => absurd w (by decide)⟩
  by_cases c : j = 4
  · subst c
    exact ⟨by rw [jM.R_sR, if_pos ⟨rfl, rfl, rfl⟩]; rfl, ⟨⟨γ.K 0, g4.keptW F5 hne (Or.inr l4)⟩, (F5.ow (b := q) (by omega)).trans o4⟩⟩
  · exact a4 j h5 (by omega)
end IN

