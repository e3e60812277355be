/-- what the search says of itself: its tons are a charge -/
def accOk (V : VV) (n : Int) (a : Acc) : Prop := a.1 = -1 ∨ (Sm a.2 6 = n ∧ ∀ j, 0 ≤ j → j < 6 → 0 ≤ a.2 j ∧ a.2 j ≤ mostP V n j)
theorem Sm_upd {tr : Int → Int} {g : Int} {t : Int} {k : Nat} (h : (k : Int) ≤ g) : Sm (updT tr g t) k = Sm tr k := Sm_cg (fun i hi => by unfold updT; rw [if_neg (by omega)])
theorem itF_ind {P : Acc → Prop} {f : Int → Acc → Acc} : ∀ (m : Nat) (t : Int) (a : Acc), P a → (∀ (s : Int) (a : Acc), t ≤ s → s < t + m → P a → P (f s a)) → P (itF f t m a)
  | 0, _, _, h, _ => h
  | m + 1, t, a, h, hs => itF_ind m (t + 1) (f t a) (hs t a (by omega) (by omega) h) (fun s a h1 h2 h3 => hs s a (by omega) (by omega) h3)
theorem dfs_ok {V : VV} {n : Int} (hm : ∀ j, 0 ≤ mostP V n j) : ∀ (d : Nat), d ≤ 6 → ∀ (L : Int) (tr : Int → Int) (a : Acc), 0 ≤ L → accOk V n a → (∀ j, 0 ≤ j → j < 6 - (d : Int) → 0 ≤ tr j ∧ tr j ≤ mostP V n j) → Sm tr (6 - d) + L = n → accOk V n (dfs V n d L tr a) := by
  intro d
  induction d with
  | zero =>
    intro _ L tr a hL ha ht hs
    rw [dfs]
    split
    · unfold leafP
      split
      · refine Or.inr ⟨by simpa using (by omega : Sm tr (6 - 0) = n), fun j h1 h2 => ht j h1 (by omega)⟩
      · exact ha
    · exact ha
  | succ d ih =>
    intro hd L tr a hL ha ht hs
    rw [dfs]
    refine itF_ind _ _ _ ha (fun t a h1 h2 h3 => ?_)
    have hm0 := hm (5 - (d : Int))
    refine ih (by omega) (L - t) _ a (by omega) h3 (fun j j1 j2 => ?_) ?_
    · unfold updT
      split
      · rename_i q
        rw [q]
        omega
      · exact ht j j1 (by omega)
    · rw [show 6 - d = (6 - (d + 1)) + 1 by omega, Sm, Sm_upd (by omega)]
      unfold updT
      rw [if_pos (by omega)]
      omega
theorem most_b {V : VV} {n : Int} (R : isR V) (hn : 0 ≤ n) (j : Int) : 0 ≤ mostP V n j := by
  have := tons_b R (f := j)
  unfold mostP
  omega
theorem bestP_ok {V : VV} {n : Int} (R : isR V) (hn : 0 ≤ n) : accOk V n (bestP V n) := dfs_ok (most_b R hn) 6 (by omega) n _ _ hn (Or.inl rfl) (fun j h1 h2 => by omega) (by simp [Sm])
def bestQ (β : jB) (V : VV) (n : Int) : Option Value → jM → Prop := fun r h' => if 1 ≤ n ∧ n ≤ 20 then r = some (.int (jI (bestP V n).1)) ∧ ∃ W, isR W ∧ scr W V ∧ h' = jP β W else r = some (.int (jI 0)) ∧ h' = jP β (jU V 16 0 1)
def chargeQ (β : jB) (V : VV) (n g : Int) : Option Value → jM → Prop := fun r h' => if 1 ≤ n ∧ n ≤ 20 ∧ 0 ≤ g ∧ g < 6 then r = some (.int (jI (if (bestP V n).1 = -1 then -1 else (bestP V n).2 g))) ∧ ∃ W, isR W ∧ scr W V ∧ h' = jP β W else r = some (.int (jI 0)) ∧ h' = jP β (jU V 16 0 1)
section M13
variable {γ : jG} {β : jB} {V : VV}
theorem cm_best {n : Int} (B : isB β) (R : isR V) (T : isT V) (hn : r32 n) : CT γ mX12_best 4 0 0 [.ref (β.2 16), .int (jI n)] (jP β V) (bestQ β (jU V 16 0 0) n) X0 := by
  have T : isT (jU V 16 0 0) := T
  refine CT.of MX12_best (Nat.le_of_ble_eq_true rfl) ?_
  show J γ mX12_best 4 0 0 0 0 (jP β V) 0 [(0, .ref (β.2 16)), (1, .int (jI n))] [] _ _
  first | refine J.aload_n (pc' := 1) rfl rfl rfl ?_ | refine J.aload_nN (pc' := 1) rfl rfl rfl ?_
  refine J.iconst (pc' := 2) rfl rfl ?_
  refine J.mpI (pc' := 5) (j := 0) B rfl fl_X12_1 rfl rfl rfl rfl ?_
  have h0 := jU_same V 16 0 0
  replace R : isR (jU V 16 0 0) := R.up (fun _ => by decide)
  generalize jU V 16 0 0 = V at h0 R T ⊢
  first | refine J.aload_n (pc' := 6) rfl rfl rfl ?_ | refine J.aload_nN (pc' := 6) rfl rfl rfl ?_
  refine J.iload_n (pc' := 7) rfl rfl rfl ?_
  refine J.iconst (pc' := 8) rfl rfl ?_
  refine J.icmp_lt (tgt := 21) (pc' := 11) rfl rfl rfl (by first | omega | (exact R.r _ _) | (simp only [jM.len_sI, jM.len_sL, jM.len_sR, jM.len_fI, jM.len_fL, jM.len_fR]; omega) | (simp [jM.len_nw, jM.len_sI, jM.len_sL, jM.len_sR, jM.len_fI, jM.len_fL, jM.len_fR, *]; omega)) (by first | omega | (exact R.r _ _) | (simp only [jM.len_sI, jM.len_sL, jM.len_sR, jM.len_fI, jM.len_fL, jM.len_fR]; omega) | (simp [jM.len_nw, jM.len_sI, jM.len_sL, jM.len_sR, jM.len_fI, jM.len_fL, jM.len_fR, *]; omega)) (fun c8 => ?_) (fun c8 => ?_)
  · first
    | (exfalso; omega)
    | (refine J.iconst (pc' := 22) rfl rfl ?_
       refine J.iconst (pc' := 23) rfl rfl ?_
       first | refine J.callV (pc' := 26) (t := 16) rfl MX12_may ml_X12_161 iv_X12_may (by decide) ⟨_, rfl, rfl⟩ B.1 (cm_may1 B h0) rfl rfl (Nat.le_of_ble_eq_true rfl) (by first | omega | (exact R.r _ _) | (simp only [jM.len_sI, jM.len_sL, jM.len_sR, jM.len_fI, jM.len_fL, jM.len_fR]; omega) | (simp [jM.len_nw, jM.len_sI, jM.len_sL, jM.len_sR, jM.len_fI, jM.len_fL, jM.len_fR, *]; omega)) (by first | omega | (exact R.r _ _) | (simp only [jM.len_sI, jM.len_sL, jM.len_sR, jM.len_fI, jM.len_fL, jM.len_fR]; omega) | (simp [jM.len_nw, jM.len_sI, jM.len_sL, jM.len_sR, jM.len_fI, jM.len_fL, jM.len_fR, *]; omega)) (by first | omega | (exact R.r _ _) | (simp only [jM.len_sI, jM.len_sL, jM.len_sR, jM.len_fI, jM.len_fL, jM.len_fR]; omega) | (simp [jM.len_nw, jM.len_sI, jM.len_sL, jM.len_sR, jM.len_fI, jM.len_fL, jM.len_fR, *]; omega)) rfl rfl ?_ ?_ | refine J.callV (pc' := 26) (t := 16) rfl MX12_may ml_X12_161 iv_X12_may (by decide) ⟨_, rfl, rfl⟩ B.1 (cm_may0 B h0 (by omega)) rfl rfl (Nat.le_of_ble_eq_true rfl) (by first | omega | (exact R.r _ _) | (simp only [jM.len_sI, jM.len_sL, jM.len_sR, jM.len_fI, jM.len_fL, jM.len_fR]; omega) | (simp [jM.len_nw, jM.len_sI, jM.len_sL, jM.len_sR, jM.len_fI, jM.len_fL, jM.len_fR, *]; omega)) (by first | omega | (exact R.r _ _) | (simp only [jM.len_sI, jM.len_sL, jM.len_sR, jM.len_fI, jM.len_fL, jM.len_fR]; omega) | (simp [jM.len_nw, jM.len_sI, jM.len_sL, jM.len_sR, jM.len_fI, jM.len_fL, jM.len_fR, *]; omega)) (by first | omega | (exact R.r _ _) | (simp only [jM.len_sI, jM.len_sL, jM.len_sR, jM.len_fI, jM.len_fL, jM.len_fR]; omega) | (simp [jM.len_nw, jM.len_sI, jM.len_sL, jM.len_sR, jM.len_fI, jM.len_fL, jM.len_fR, *]; omega)) rfl rfl ?_ ?_
       · exact fun _ _ h => h
       rintro _ _ ⟨rfl, rfl⟩
       refine J.if_eq (tgt := 38) (pc' := 29) rfl rfl rfl (by first | omega | (exact R.r _ _) | (simp only [jM.len_sI, jM.len_sL, jM.len_sR, jM.len_fI, jM.len_fL, jM.len_fR]; omega) | (simp [jM.len_nw, jM.len_sI, jM.len_sL, jM.len_sR, jM.len_fI, jM.len_fL, jM.len_fR, *]; omega)) (fun c26 => ?_) (fun c26 => ?_)
       · first
         | (exfalso; omega)
         | (refine J.iconst (pc' := 39) rfl rfl ?_
            refine J.iret rfl rfl (by first | omega | (exact R.r _ _) | (simp only [jM.len_sI, jM.len_sL, jM.len_sR, jM.len_fI, jM.len_fL, jM.len_fR]; omega) | (simp [jM.len_nw, jM.len_sI, jM.len_sL, jM.len_sR, jM.len_fI, jM.len_fL, jM.len_fR, *]; omega)) (by first | omega | (exact R.r _ _) | (simp only [jM.len_sI, jM.len_sL, jM.len_sR, jM.len_fI, jM.len_fL, jM.len_fR]; omega) | (simp [jM.len_nw, jM.len_sI, jM.len_sL, jM.len_sR, jM.len_fI, jM.len_fL, jM.len_fR, *]; omega)) ?_
            unfold bestQ
            first | (rw [if_pos (by omega)]; exact ⟨rfl, W, w1, w2, rfl⟩) | (rw [if_neg (by omega)]; exact ⟨rfl, rfl⟩))
       · first
         | (exfalso; omega)
         | (first | refine J.aload_n (pc' := 30) rfl rfl rfl ?_ | refine J.aload_nN (pc' := 30) rfl rfl rfl ?_
            refine J.iload_n (pc' := 31) rfl rfl rfl ?_
            refine J.callV (pc' := 34) (t := 16) rfl MX12_findBest ml_X12_325 iv_X12_findBest (by decide) ⟨_, rfl, rfl⟩ B.1 (cm_findBest B R T (by omega)) rfl rfl (Nat.le_of_ble_eq_true rfl) (by first | omega | (exact R.r _ _) | (simp only [jM.len_sI, jM.len_sL, jM.len_sR, jM.len_fI, jM.len_fL, jM.len_fR]; omega) | (simp [jM.len_nw, jM.len_sI, jM.len_sL, jM.len_sR, jM.len_fI, jM.len_fL, jM.len_fR, *]; omega)) (by first | omega | (exact R.r _ _) | (simp only [jM.len_sI, jM.len_sL, jM.len_sR, jM.len_fI, jM.len_fL, jM.len_fR]; omega) | (simp [jM.len_nw, jM.len_sI, jM.len_sL, jM.len_sR, jM.len_fI, jM.len_fL, jM.len_fR, *]; omega)) (by first | omega | (exact R.r _ _) | (simp only [jM.len_sI, jM.len_sL, jM.len_sR, jM.len_fI, jM.len_fL, jM.len_fR]; omega) | (simp [jM.len_nw, jM.len_sI, jM.len_sL, jM.len_sR, jM.len_fI, jM.len_fL, jM.len_fR, *]; omega)) rfl rfl ?_ ?_
            · exact fun _ _ h => h
            rintro _ _ ⟨rfl, W, w1, w2, w3, w4, rfl⟩
            refine J.l2i (pc' := 35) rfl rfl ?_
            refine J.goto (tgt := 39) rfl rfl ?_
            refine J.iret rfl rfl (by first | omega | (exact R.r _ _) | (simp only [jM.len_sI, jM.len_sL, jM.len_sR, jM.len_fI, jM.len_fL, jM.len_fR]; omega) | (simp [jM.len_nw, jM.len_sI, jM.len_sL, jM.len_sR, jM.len_fI, jM.len_fL, jM.len_fR, *]; omega)) (by first | omega | (exact R.r _ _) | (simp only [jM.len_sI, jM.len_sL, jM.len_sR, jM.len_fI, jM.len_fL, jM.len_fR]; omega) | (simp [jM.len_nw, jM.len_sI, jM.len_sL, jM.len_sR, jM.len_fI, jM.len_fL, jM.len_fR, *]; omega)) ?_
            unfold bestQ
            first | (rw [if_pos (by omega)]; exact ⟨rfl, W, w1, w2, rfl⟩) | (rw [if_neg (by omega)]; exact ⟨rfl, rfl⟩)))
  · first
    | (exfalso; omega)
    | (refine J.iload_n (pc' := 12) rfl rfl rfl ?_
       refine J.bipush (pc' := 14) rfl rfl (by decide) ?_
       refine J.icmp_gt (tgt := 21) (pc' := 17) rfl rfl rfl (by first | omega | (exact R.r _ _) | (simp only [jM.len_sI, jM.len_sL, jM.len_sR, jM.len_fI, jM.len_fL, jM.len_fR]; omega) | (simp [jM.len_nw, jM.len_sI, jM.len_sL, jM.len_sR, jM.len_fI, jM.len_fL, jM.len_fR, *]; omega)) (by first | omega | (exact R.r _ _) | (simp only [jM.len_sI, jM.len_sL, jM.len_sR, jM.len_fI, jM.len_fL, jM.len_fR]; omega) | (simp [jM.len_nw, jM.len_sI, jM.len_sL, jM.len_sR, jM.len_fI, jM.len_fL, jM.len_fR, *]; omega)) (fun c14 => ?_) (fun c14 => ?_)
       · first
         | (exfalso; omega)
         | (refine J.iconst (pc' := 22) rfl rfl ?_
            refine J.iconst (pc' := 23) rfl rfl ?_
            first | refine J.callV (pc' := 26) (t := 16) rfl MX12_may ml_X12_161 iv_X12_may (by decide) ⟨_, rfl, rfl⟩ B.1 (cm_may1 B h0) rfl rfl (Nat.le_of_ble_eq_true rfl) (by first | omega | (exact R.r _ _) | (simp only [jM.len_sI, jM.len_sL, jM.len_sR, jM.len_fI, jM.len_fL, jM.len_fR]; omega) | (simp [jM.len_nw, jM.len_sI, jM.len_sL, jM.len_sR, jM.len_fI, jM.len_fL, jM.len_fR, *]; omega)) (by first | omega | (exact R.r _ _) | (simp only [jM.len_sI, jM.len_sL, jM.len_sR, jM.len_fI, jM.len_fL, jM.len_fR]; omega) | (simp [jM.len_nw, jM.len_sI, jM.len_sL, jM.len_sR, jM.len_fI, jM.len_fL, jM.len_fR, *]; omega)) (by first | omega | (exact R.r _ _) | (simp only [jM.len_sI, jM.len_sL, jM.len_sR, jM.len_fI, jM.len_fL, jM.len_fR]; omega) | (simp [jM.len_nw, jM.len_sI, jM.len_sL, jM.len_sR, jM.len_fI, jM.len_fL, jM.len_fR, *]; omega)) rfl rfl ?_ ?_ | refine J.callV (pc' := 26) (t := 16) rfl MX12_may ml_X12_161 iv_X12_may (by decide) ⟨_, rfl, rfl⟩ B.1 (cm_may0 B h0 (by omega)) rfl rfl (Nat.le_of_ble_eq_true rfl) (by first | omega | (exact R.r _ _) | (simp only [jM.len_sI, jM.len_sL, jM.len_sR, jM.len_fI, jM.len_fL, jM.len_fR]; omega) | (simp [jM.len_nw, jM.len_sI, jM.len_sL, jM.len_sR, jM.len_fI, jM.len_fL, jM.len_fR, *]; omega)) (by first | omega | (exact R.r _ _) | (simp only [jM.len_sI, jM.len_sL, jM.len_sR, jM.len_fI, jM.len_fL, jM.len_fR]; omega) | (simp [jM.len_nw, jM.len_sI, jM.len_sL, jM.len_sR, jM.len_fI, jM.len_fL, jM.len_fR, *]; omega)) (by first | omega | (exact R.r _ _) | (simp only [jM.len_sI, jM.len_sL, jM.len_sR, jM.len_fI, jM.len_fL, jM.len_fR]; omega) | (simp [jM.len_nw, jM.len_sI, jM.len_sL, jM.len_sR, jM.len_fI, jM.len_fL, jM.len_fR, *]; omega)) rfl rfl ?_ ?_
            · exact fun _ _ h => h
            rintro _ _ ⟨rfl, rfl⟩
            refine J.if_eq (tgt := 38) (pc' := 29) rfl rfl rfl (by first | omega | (exact R.r _ _) | (simp only [jM.len_sI, jM.len_sL, jM.len_sR, jM.len_fI, jM.len_fL, jM.len_fR]; omega) | (simp [jM.len_nw, jM.len_sI, jM.len_sL, jM.len_sR, jM.len_fI, jM.len_fL, jM.len_fR, *]; omega)) (fun c26 => ?_) (fun c26 => ?_)
            · first
              | (exfalso; omega)
              | (refine J.iconst (pc' := 39) rfl rfl ?_
                 refine J.iret rfl rfl (by first | omega | (exact R.r _ _) | (simp only [jM.len_sI, jM.len_sL, jM.len_sR, jM.len_fI, jM.len_fL, jM.len_fR]; omega) | (simp [jM.len_nw, jM.len_sI, jM.len_sL, jM.len_sR, jM.len_fI, jM.len_fL, jM.len_fR, *]; omega)) (by first | omega | (exact R.r _ _) | (simp only [jM.len_sI, jM.len_sL, jM.len_sR, jM.len_fI, jM.len_fL, jM.len_fR]; omega) | (simp [jM.len_nw, jM.len_sI, jM.len_sL, jM.len_sR, jM.len_fI, jM.len_fL, jM.len_fR, *]; omega)) ?_
                 unfold bestQ
                 first | (rw [if_pos (by omega)]; exact ⟨rfl, W, w1, w2, rfl⟩) | (rw [if_neg (by omega)]; exact ⟨rfl, rfl⟩))
            · first
              | (exfalso; omega)
              | (first | refine J.aload_n (pc' := 30) rfl rfl rfl ?_ | refine J.aload_nN (pc' := 30) rfl rfl rfl ?_
                 refine J.iload_n (pc' := 31) rfl rfl rfl ?_
                 refine J.callV (pc' := 34) (t := 16) rfl MX12_findBest ml_X12_325 iv_X12_findBest (by decide) ⟨_, rfl, rfl⟩ B.1 (cm_findBest B R T (by omega)) rfl rfl (Nat.le_of_ble_eq_true rfl) (by first | omega | (exact R.r _ _) | (simp only [jM.len_sI, jM.len_sL, jM.len_sR, jM.len_fI, jM.len_fL, jM.len_fR]; omega) | (simp [jM.len_nw, jM.len_sI, jM.len_sL, jM.len_sR, jM.len_fI, jM.len_fL, jM.len_fR, *]; omega)) (by first | omega | (exact R.r _ _) | (simp only [jM.len_sI, jM.len_sL, jM.len_sR, jM.len_fI, jM.len_fL, jM.len_fR]; omega) | (simp [jM.len_nw, jM.len_sI, jM.len_sL, jM.len_sR, jM.len_fI, jM.len_fL, jM.len_fR, *]; omega)) (by first | omega | (exact R.r _ _) | (simp only [jM.len_sI, jM.len_sL, jM.len_sR, jM.len_fI, jM.len_fL, jM.len_fR]; omega) | (simp [jM.len_nw, jM.len_sI, jM.len_sL, jM.len_sR, jM.len_fI, jM.len_fL, jM.len_fR, *]; omega)) rfl rfl ?_ ?_
                 · exact fun _ _ h => h
                 rintro _ _ ⟨rfl, W, w1, w2, w3, w4, rfl⟩
                 refine J.l2i (pc' := 35) rfl rfl ?_
                 refine J.goto (tgt := 39) rfl rfl ?_
                 refine J.iret rfl rfl (by first | omega | (exact R.r _ _) | (simp only [jM.len_sI, jM.len_sL, jM.len_sR, jM.len_fI, jM.len_fL, jM.len_fR]; omega) | (simp [jM.len_nw, jM.len_sI, jM.len_sL, jM.len_sR, jM.len_fI, jM.len_fL, jM.len_fR, *]; omega)) (by first | omega | (exact R.r _ _) | (simp only [jM.len_sI, jM.len_sL, jM.len_sR, jM.len_fI, jM.len_fL, jM.len_fR]; omega) | (simp [jM.len_nw, jM.len_sI, jM.len_sL, jM.len_sR, jM.len_fI, jM.len_fL, jM.len_fR, *]; omega)) ?_
                 unfold bestQ
                 first | (rw [if_pos (by omega)]; exact ⟨rfl, W, w1, w2, rfl⟩) | (rw [if_neg (by omega)]; exact ⟨rfl, rfl⟩)))
       · first
         | (exfalso; omega)
         | (refine J.iconst (pc' := 18) rfl rfl ?_
            refine J.goto (tgt := 22) rfl rfl ?_
            refine J.iconst (pc' := 23) rfl rfl ?_
            first | refine J.callV (pc' := 26) (t := 16) rfl MX12_may ml_X12_161 iv_X12_may (by decide) ⟨_, rfl, rfl⟩ B.1 (cm_may1 B h0) rfl rfl (Nat.le_of_ble_eq_true rfl) (by first | omega | (exact R.r _ _) | (simp only [jM.len_sI, jM.len_sL, jM.len_sR, jM.len_fI, jM.len_fL, jM.len_fR]; omega) | (simp [jM.len_nw, jM.len_sI, jM.len_sL, jM.len_sR, jM.len_fI, jM.len_fL, jM.len_fR, *]; omega)) (by first | omega | (exact R.r _ _) | (simp only [jM.len_sI, jM.len_sL, jM.len_sR, jM.len_fI, jM.len_fL, jM.len_fR]; omega) | (simp [jM.len_nw, jM.len_sI, jM.len_sL, jM.len_sR, jM.len_fI, jM.len_fL, jM.len_fR, *]; omega)) (by first | omega | (exact R.r _ _) | (simp only [jM.len_sI, jM.len_sL, jM.len_sR, jM.len_fI, jM.len_fL, jM.len_fR]; omega) | (simp [jM.len_nw, jM.len_sI, jM.len_sL, jM.len_sR, jM.len_fI, jM.len_fL, jM.len_fR, *]; omega)) rfl rfl ?_ ?_ | refine J.callV (pc' := 26) (t := 16) rfl MX12_may ml_X12_161 iv_X12_may (by decide) ⟨_, rfl, rfl⟩ B.1 (cm_may0 B h0 (by omega)) rfl rfl (Nat.le_of_ble_eq_true rfl) (by first | omega | (exact R.r _ _) | (simp only [jM.len_sI, jM.len_sL, jM.len_sR, jM.len_fI, jM.len_fL, jM.len_fR]; omega) | (simp [jM.len_nw, jM.len_sI, jM.len_sL, jM.len_sR, jM.len_fI, jM.len_fL, jM.len_fR, *]; omega)) (by first | omega | (exact R.r _ _) | (simp only [jM.len_sI, jM.len_sL, jM.len_sR, jM.len_fI, jM.len_fL, jM.len_fR]; omega) | (simp [jM.len_nw, jM.len_sI, jM.len_sL, jM.len_sR, jM.len_fI, jM.len_fL, jM.len_fR, *]; omega)) (by first | omega | (exact R.r _ _) | (simp only [jM.len_sI, jM.len_sL, jM.len_sR, jM.len_fI, jM.len_fL, jM.len_fR]; omega) | (simp [jM.len_nw, jM.len_sI, jM.len_sL, jM.len_sR, jM.len_fI, jM.len_fL, jM.len_fR, *]; omega)) rfl rfl ?_ ?_
            · exact fun _ _ h => h
            rintro _ _ ⟨rfl, rfl⟩
            refine J.if_eq (tgt := 38) (pc' := 29) rfl rfl rfl (by first | omega | (exact R.r _ _) | (simp only [jM.len_sI, jM.len_sL, jM.len_sR, jM.len_fI, jM.len_fL, jM.len_fR]; omega) | (simp [jM.len_nw, jM.len_sI, jM.len_sL, jM.len_sR, jM.len_fI, jM.len_fL, jM.len_fR, *]; omega)) (fun c26 => ?_) (fun c26 => ?_)
            · first
              | (exfalso; omega)
              | (refine J.iconst (pc' := 39) rfl rfl ?_
                 refine J.iret rfl rfl (by first | omega | (exact R.r _ _) | (simp only [jM.len_sI, jM.len_sL, jM.len_sR, jM.len_fI, jM.len_fL, jM.len_fR]; omega) | (simp [jM.len_nw, jM.len_sI, jM.len_sL, jM.len_sR, jM.len_fI, jM.len_fL, jM.len_fR, *]; omega)) (by first | omega | (exact R.r _ _) | (simp only [jM.len_sI, jM.len_sL, jM.len_sR, jM.len_fI, jM.len_fL, jM.len_fR]; omega) | (simp [jM.len_nw, jM.len_sI, jM.len_sL, jM.len_sR, jM.len_fI, jM.len_fL, jM.len_fR, *]; omega)) ?_
                 unfold bestQ
                 first | (rw [if_pos (by omega)]; exact ⟨rfl, W, w1, w2, rfl⟩) | (rw [if_neg (by omega)]; exact ⟨rfl, rfl⟩))
            · first
              | (exfalso; omega)
              | (first | refine J.aload_n (pc' := 30) rfl rfl rfl ?_ | refine J.aload_nN (pc' := 30) rfl rfl rfl ?_
                 refine J.iload_n (pc' := 31) rfl rfl rfl ?_
                 refine J.callV (pc' := 34) (t := 16) rfl MX12_findBest ml_X12_325 iv_X12_findBest (by decide) ⟨_, rfl, rfl⟩ B.1 (cm_findBest B R T (by omega)) rfl rfl (Nat.le_of_ble_eq_true rfl) (by first | omega | (exact R.r _ _) | (simp only [jM.len_sI, jM.len_sL, jM.len_sR, jM.len_fI, jM.len_fL, jM.len_fR]; omega) | (simp [jM.len_nw, jM.len_sI, jM.len_sL, jM.len_sR, jM.len_fI, jM.len_fL, jM.len_fR, *]; omega)) (by first | omega | (exact R.r _ _) | (simp only [jM.len_sI, jM.len_sL, jM.len_sR, jM.len_fI, jM.len_fL, jM.len_fR]; omega) | (simp [jM.len_nw, jM.len_sI, jM.len_sL, jM.len_sR, jM.len_fI, jM.len_fL, jM.len_fR, *]; omega)) (by first | omega | (exact R.r _ _) | (simp only [jM.len_sI, jM.len_sL, jM.len_sR, jM.len_fI, jM.len_fL, jM.len_fR]; omega) | (simp [jM.len_nw, jM.len_sI, jM.len_sL, jM.len_sR, jM.len_fI, jM.len_fL, jM.len_fR, *]; omega)) rfl rfl ?_ ?_
                 · exact fun _ _ h => h
                 rintro _ _ ⟨rfl, W, w1, w2, w3, w4, rfl⟩
                 refine J.l2i (pc' := 35) rfl rfl ?_
                 refine J.goto (tgt := 39) rfl rfl ?_
                 refine J.iret rfl rfl (by first | omega | (exact R.r _ _) | (simp only [jM.len_sI, jM.len_sL, jM.len_sR, jM.len_fI, jM.len_fL, jM.len_fR]; omega) | (simp [jM.len_nw, jM.len_sI, jM.len_sL, jM.len_sR, jM.len_fI, jM.len_fL, jM.len_fR, *]; omega)) (by first | omega | (exact R.r _ _) | (simp only [jM.len_sI, jM.len_sL, jM.len_sR, jM.len_fI, jM.len_fL, jM.len_fR]; omega) | (simp [jM.len_nw, jM.len_sI, jM.len_sL, jM.len_sR, jM.len_fI, jM.len_fL, jM.len_fR, *]; omega)) ?_
                 unfold bestQ
                 first | (rw [if_pos (by omega)]; exact ⟨rfl, W, w1, w2, rfl⟩) | (rw [if_neg (by omega)]; exact ⟨rfl, rfl⟩))))
theorem cm_charge {n g : Int} (B : isB β) (R : isR V) (T : isT V) (hn : r32 n) (hg : r32 g) : CT γ mX12_charge 4 0 0 [.ref (β.2 16), .int (jI n), .int (jI g)] (jP β V) (chargeQ β (jU V 16 0 0) n g) X0 := by
  have T : isT (jU V 16 0 0) := T
  refine CT.of MX12_charge (Nat.le_of_ble_eq_true rfl) ?_
  show J γ mX12_charge 4 0 0 0 0 (jP β V) 0 [(0, .ref (β.2 16)), (1, .int (jI n)), (2, .int (jI g))] [] _ _
  first | refine J.aload_n (pc' := 1) rfl rfl rfl ?_ | refine J.aload_nN (pc' := 1) rfl rfl rfl ?_
  refine J.iconst (pc' := 2) rfl rfl ?_
  refine J.mpI (pc' := 5) (j := 0) B rfl fl_X12_1 rfl rfl rfl rfl ?_
  have h0 := jU_same V 16 0 0
  replace R : isR (jU V 16 0 0) := R.up (fun _ => by decide)
  generalize jU V 16 0 0 = V at h0 R T ⊢
  have rest : (1 ≤ n ∧ n ≤ 20 ∧ 0 ≤ g ∧ g < 6) → J γ mX12_charge 4 0 0 0 0 (jP β V) 41 [(0, .ref (β.2 16)), (1, .int (jI n)), (2, .int (jI g))] [] (chargeQ β V n g) X0 := by
    intro q
    unfold chargeQ
    simp only [if_pos q]
    first | refine J.aload_n (pc' := 42) rfl rfl rfl ?_ | refine J.aload_nN (pc' := 42) rfl rfl rfl ?_
    refine J.iload_n (pc' := 43) rfl rfl rfl ?_
    refine J.callV (pc' := 46) (t := 16) rfl MX12_findBest ml_X12_325 iv_X12_findBest (by decide) ⟨_, rfl, rfl⟩ B.1 (cm_findBest B R T (by omega)) rfl rfl (Nat.le_of_ble_eq_true rfl) (by first | omega | (exact R.r _ _) | (simp only [jM.len_sI, jM.len_sL, jM.len_sR, jM.len_fI, jM.len_fL, jM.len_fR]; omega) | (simp [jM.len_nw, jM.len_sI, jM.len_sL, jM.len_sR, jM.len_fI, jM.len_fL, jM.len_fR, *]; omega)) (by first | omega | (exact R.r _ _) | (simp only [jM.len_sI, jM.len_sL, jM.len_sR, jM.len_fI, jM.len_fL, jM.len_fR]; omega) | (simp [jM.len_nw, jM.len_sI, jM.len_sL, jM.len_sR, jM.len_fI, jM.len_fL, jM.len_fR, *]; omega)) (by first | omega | (exact R.r _ _) | (simp only [jM.len_sI, jM.len_sL, jM.len_sR, jM.len_fI, jM.len_fL, jM.len_fR]; omega) | (simp [jM.len_nw, jM.len_sI, jM.len_sL, jM.len_sR, jM.len_fI, jM.len_fL, jM.len_fR, *]; omega)) rfl rfl ?_ ?_
    · exact fun _ _ h => h
    rintro _ _ ⟨rfl, W, w1, w2, w3, w4, rfl⟩
    refine J.ldc2 (pc' := 49) (z := -1) (v := -1) rfl (List.mem_of_getElem? (i := 1827) (by decide +kernel)) (by decide) rfl ?_
    refine J.lcmp (pc' := 50) rfl rfl (by first | omega | (exact R.r _ _) | (simp only [jM.len_sI, jM.len_sL, jM.len_sR, jM.len_fI, jM.len_fL, jM.len_fR]; omega) | (simp [jM.len_nw, jM.len_sI, jM.len_sL, jM.len_sR, jM.len_fI, jM.len_fL, jM.len_fR, *]; omega)) (by first | omega | (exact R.r _ _) | (simp only [jM.len_sI, jM.len_sL, jM.len_sR, jM.len_fI, jM.len_fL, jM.len_fR]; omega) | (simp [jM.len_nw, jM.len_sI, jM.len_sL, jM.len_sR, jM.len_fI, jM.len_fL, jM.len_fR, *]; omega)) ?_
    by_cases e : (bestP V n).1 = -1
    · rw [if_neg (by omega), if_pos e]
      refine J.if_ne (tgt := 57) (pc' := 53) rfl rfl rfl (by first | omega | (exact R.r _ _) | (simp only [jM.len_sI, jM.len_sL, jM.len_sR, jM.len_fI, jM.len_fL, jM.len_fR]; omega) | (simp [jM.len_nw, jM.len_sI, jM.len_sL, jM.len_sR, jM.len_fI, jM.len_fL, jM.len_fR, *]; omega)) (fun c1 => ?_) (fun c1 => ?_)
      · omega
      · refine J.iconst (pc' := 54) rfl rfl ?_
        refine J.goto (tgt := 63) rfl rfl ?_
        refine J.iret rfl rfl (by first | omega | (exact R.r _ _) | (simp only [jM.len_sI, jM.len_sL, jM.len_sR, jM.len_fI, jM.len_fL, jM.len_fR]; omega) | (simp [jM.len_nw, jM.len_sI, jM.len_sL, jM.len_sR, jM.len_fI, jM.len_fL, jM.len_fR, *]; omega)) (by first | omega | (exact R.r _ _) | (simp only [jM.len_sI, jM.len_sL, jM.len_sR, jM.len_fI, jM.len_fL, jM.len_fR]; omega) | (simp [jM.len_nw, jM.len_sI, jM.len_sL, jM.len_sR, jM.len_fI, jM.len_fL, jM.len_fR, *]; omega)) ?_
        exact ⟨by rw [if_pos e], W, w1, w2, rfl⟩
    · rw [if_pos (by omega)]
      have e2 : W 150 g = (bestP V n).2 g := by
        rcases w3 with z | z
        · exact absurd z e
        · exact z g (by omega) (by omega)
      refine J.if_ne (tgt := 57) (pc' := 53) rfl rfl rfl (by first | omega | (exact R.r _ _) | (simp only [jM.len_sI, jM.len_sL, jM.len_sR, jM.len_fI, jM.len_fL, jM.len_fR]; omega) | (simp [jM.len_nw, jM.len_sI, jM.len_sL, jM.len_sR, jM.len_fI, jM.len_fL, jM.len_fR, *]; omega)) (fun c1 => ?_) (fun c1 => ?_)
      · first | refine J.aload_n (pc' := 58) rfl rfl rfl ?_ | refine J.aload_nN (pc' := 58) rfl rfl rfl ?_
        refine J.mgR (pc' := 61) (t := 150) B rfl fl_X12_127 rfl rfl (by decide) rfl ?_
        refine J.iload_n (pc' := 62) rfl rfl rfl ?_
        refine J.mald (pc' := 63) B rfl rfl rfl (by omega) (by simp only [jLn]; omega) rfl ?_
        rw [e2]
        refine J.iret rfl rfl (by first | omega | (exact R.r _ _) | (simp only [jM.len_sI, jM.len_sL, jM.len_sR, jM.len_fI, jM.len_fL, jM.len_fR]; omega) | (simp [jM.len_nw, jM.len_sI, jM.len_sL, jM.len_sR, jM.len_fI, jM.len_fL, jM.len_fR, *]; omega)) (by first | omega | (exact R.r _ _) | (simp only [jM.len_sI, jM.len_sL, jM.len_sR, jM.len_fI, jM.len_fL, jM.len_fR]; omega) | (simp [jM.len_nw, jM.len_sI, jM.len_sL, jM.len_sR, jM.len_fI, jM.len_fL, jM.len_fR, *]; omega)) ?_
        exact ⟨by rw [if_neg e], W, w1, w2, rfl⟩
      · omega
  first | refine J.aload_n (pc' := 6) rfl rfl rfl ?_ | refine J.aload_nN (pc' := 6) rfl rfl rfl ?_
  refine J.iload_n (pc' := 7) rfl rfl rfl ?_
  refine J.iconst (pc' := 8) rfl rfl ?_
  refine J.icmp_lt (tgt := 31) (pc' := 11) rfl rfl rfl (by first | omega | (exact R.r _ _) | (simp only [jM.len_sI, jM.len_sL, jM.len_sR, jM.len_fI, jM.len_fL, jM.len_fR]; omega) | (simp [jM.len_nw, jM.len_sI, jM.len_sL, jM.len_sR, jM.len_fI, jM.len_fL, jM.len_fR, *]; omega)) (by first | omega | (exact R.r _ _) | (simp only [jM.len_sI, jM.len_sL, jM.len_sR, jM.len_fI, jM.len_fL, jM.len_fR]; omega) | (simp [jM.len_nw, jM.len_sI, jM.len_sL, jM.len_sR, jM.len_fI, jM.len_fL, jM.len_fR, *]; omega)) (fun c8 => ?_) (fun c8 => ?_)
  · first
    | (exfalso; omega)
    | (refine J.iconst (pc' := 32) rfl rfl ?_
       refine J.iconst (pc' := 33) rfl rfl ?_
       first | refine J.callV (pc' := 36) (t := 16) rfl MX12_may ml_X12_161 iv_X12_may (by decide) ⟨_, rfl, rfl⟩ B.1 (cm_may1 B h0) rfl rfl (Nat.le_of_ble_eq_true rfl) (by first | omega | (exact R.r _ _) | (simp only [jM.len_sI, jM.len_sL, jM.len_sR, jM.len_fI, jM.len_fL, jM.len_fR]; omega) | (simp [jM.len_nw, jM.len_sI, jM.len_sL, jM.len_sR, jM.len_fI, jM.len_fL, jM.len_fR, *]; omega)) (by first | omega | (exact R.r _ _) | (simp only [jM.len_sI, jM.len_sL, jM.len_sR, jM.len_fI, jM.len_fL, jM.len_fR]; omega) | (simp [jM.len_nw, jM.len_sI, jM.len_sL, jM.len_sR, jM.len_fI, jM.len_fL, jM.len_fR, *]; omega)) (by first | omega | (exact R.r _ _) | (simp only [jM.len_sI, jM.len_sL, jM.len_sR, jM.len_fI, jM.len_fL, jM.len_fR]; omega) | (simp [jM.len_nw, jM.len_sI, jM.len_sL, jM.len_sR, jM.len_fI, jM.len_fL, jM.len_fR, *]; omega)) rfl rfl ?_ ?_ | refine J.callV (pc' := 36) (t := 16) rfl MX12_may ml_X12_161 iv_X12_may (by decide) ⟨_, rfl, rfl⟩ B.1 (cm_may0 B h0 (by omega)) rfl rfl (Nat.le_of_ble_eq_true rfl) (by first | omega | (exact R.r _ _) | (simp only [jM.len_sI, jM.len_sL, jM.len_sR, jM.len_fI, jM.len_fL, jM.len_fR]; omega) | (simp [jM.len_nw, jM.len_sI, jM.len_sL, jM.len_sR, jM.len_fI, jM.len_fL, jM.len_fR, *]; omega)) (by first | omega | (exact R.r _ _) | (simp only [jM.len_sI, jM.len_sL, jM.len_sR, jM.len_fI, jM.len_fL, jM.len_fR]; omega) | (simp [jM.len_nw, jM.len_sI, jM.len_sL, jM.len_sR, jM.len_fI, jM.len_fL, jM.len_fR, *]; omega)) (by first | omega | (exact R.r _ _) | (simp only [jM.len_sI, jM.len_sL, jM.len_sR, jM.len_fI, jM.len_fL, jM.len_fR]; omega) | (simp [jM.len_nw, jM.len_sI, jM.len_sL, jM.len_sR, jM.len_fI, jM.len_fL, jM.len_fR, *]; omega)) rfl rfl ?_ ?_
       · exact fun _ _ h => h
       rintro _ _ ⟨rfl, rfl⟩
       refine J.if_ne (tgt := 41) (pc' := 39) rfl rfl rfl (by first | omega | (exact R.r _ _) | (simp only [jM.len_sI, jM.len_sL, jM.len_sR, jM.len_fI, jM.len_fL, jM.len_fR]; omega) | (simp [jM.len_nw, jM.len_sI, jM.len_sL, jM.len_sR, jM.len_fI, jM.len_fL, jM.len_fR, *]; omega)) (fun c36 => ?_) (fun c36 => ?_)
       · first
         | (exfalso; omega)
         | (exact rest (by omega))
       · first
         | (exfalso; omega)
         | (refine J.iconst (pc' := 40) rfl rfl ?_
            refine J.iret rfl rfl (by first | omega | (exact R.r _ _) | (simp only [jM.len_sI, jM.len_sL, jM.len_sR, jM.len_fI, jM.len_fL, jM.len_fR]; omega) | (simp [jM.len_nw, jM.len_sI, jM.len_sL, jM.len_sR, jM.len_fI, jM.len_fL, jM.len_fR, *]; omega)) (by first | omega | (exact R.r _ _) | (simp only [jM.len_sI, jM.len_sL, jM.len_sR, jM.len_fI, jM.len_fL, jM.len_fR]; omega) | (simp [jM.len_nw, jM.len_sI, jM.len_sL, jM.len_sR, jM.len_fI, jM.len_fL, jM.len_fR, *]; omega)) ?_
            unfold chargeQ
            rw [if_neg (by omega)]
            exact ⟨rfl, rfl⟩))
  · first
    | (exfalso; omega)
    | (refine J.iload_n (pc' := 12) rfl rfl rfl ?_
       refine J.bipush (pc' := 14) rfl rfl (by decide) ?_
       refine J.icmp_gt (tgt := 31) (pc' := 17) rfl rfl rfl (by first | omega | (exact R.r _ _) | (simp only [jM.len_sI, jM.len_sL, jM.len_sR, jM.len_fI, jM.len_fL, jM.len_fR]; omega) | (simp [jM.len_nw, jM.len_sI, jM.len_sL, jM.len_sR, jM.len_fI, jM.len_fL, jM.len_fR, *]; omega)) (by first | omega | (exact R.r _ _) | (simp only [jM.len_sI, jM.len_sL, jM.len_sR, jM.len_fI, jM.len_fL, jM.len_fR]; omega) | (simp [jM.len_nw, jM.len_sI, jM.len_sL, jM.len_sR, jM.len_fI, jM.len_fL, jM.len_fR, *]; omega)) (fun c14 => ?_) (fun c14 => ?_)
       · first
         | (exfalso; omega)
         | (refine J.iconst (pc' := 32) rfl rfl ?_
            refine J.iconst (pc' := 33) rfl rfl ?_
            first | refine J.callV (pc' := 36) (t := 16) rfl MX12_may ml_X12_161 iv_X12_may (by decide) ⟨_, rfl, rfl⟩ B.1 (cm_may1 B h0) rfl rfl (Nat.le_of_ble_eq_true rfl) (by first | omega | (exact R.r _ _) | (simp only [jM.len_sI, jM.len_sL, jM.len_sR, jM.len_fI, jM.len_fL, jM.len_fR]; omega) | (simp [jM.len_nw, jM.len_sI, jM.len_sL, jM.len_sR, jM.len_fI, jM.len_fL, jM.len_fR, *]; omega)) (by first | omega | (exact R.r _ _) | (simp only [jM.len_sI, jM.len_sL, jM.len_sR, jM.len_fI, jM.len_fL, jM.len_fR]; omega) | (simp [jM.len_nw, jM.len_sI, jM.len_sL, jM.len_sR, jM.len_fI, jM.len_fL, jM.len_fR, *]; omega)) (by first | omega | (exact R.r _ _) | (simp only [jM.len_sI, jM.len_sL, jM.len_sR, jM.len_fI, jM.len_fL, jM.len_fR]; omega) | (simp [jM.len_nw, jM.len_sI, jM.len_sL, jM.len_sR, jM.len_fI, jM.len_fL, jM.len_fR, *]; omega)) rfl rfl ?_ ?_ | refine J.callV (pc' := 36) (t := 16) rfl MX12_may ml_X12_161 iv_X12_may (by decide) ⟨_, rfl, rfl⟩ B.1 (cm_may0 B h0 (by omega)) rfl rfl (Nat.le_of_ble_eq_true rfl) (by first | omega | (exact R.r _ _) | (simp only [jM.len_sI, jM.len_sL, jM.len_sR, jM.len_fI, jM.len_fL, jM.len_fR]; omega) | (simp [jM.len_nw, jM.len_sI, jM.len_sL, jM.len_sR, jM.len_fI, jM.len_fL, jM.len_fR, *]; omega)) (by first | omega | (exact R.r _ _) | (simp only [jM.len_sI, jM.len_sL, jM.len_sR, jM.len_fI, jM.len_fL, jM.len_fR]; omega) | (simp [jM.len_nw, jM.len_sI, jM.len_sL, jM.len_sR, jM.len_fI, jM.len_fL, jM.len_fR, *]; omega)) (by first | omega | (exact R.r _ _) | (simp only [jM.len_sI, jM.len_sL, jM.len_sR, jM.len_fI, jM.len_fL, jM.len_fR]; omega) | (simp [jM.len_nw, jM.len_sI, jM.len_sL, jM.len_sR, jM.len_fI, jM.len_fL, jM.len_fR, *]; omega)) rfl rfl ?_ ?_
            · exact fun _ _ h => h
            rintro _ _ ⟨rfl, rfl⟩
            refine J.if_ne (tgt := 41) (pc' := 39) rfl rfl rfl (by first | omega | (exact R.r _ _) | (simp only [jM.len_sI, jM.len_sL, jM.len_sR, jM.len_fI, jM.len_fL, jM.len_fR]; omega) | (simp [jM.len_nw, jM.len_sI, jM.len_sL, jM.len_sR, jM.len_fI, jM.len_fL, jM.len_fR, *]; omega)) (fun c36 => ?_) (fun c36 => ?_)
            · first
              | (exfalso; omega)
              | (exact rest (by omega))
            · first
              | (exfalso; omega)
              | (refine J.iconst (pc' := 40) rfl rfl ?_
                 refine J.iret rfl rfl (by first | omega | (exact R.r _ _) | (simp only [jM.len_sI, jM.len_sL, jM.len_sR, jM.len_fI, jM.len_fL, jM.len_fR]; omega) | (simp [jM.len_nw, jM.len_sI, jM.len_sL, jM.len_sR, jM.len_fI, jM.len_fL, jM.len_fR, *]; omega)) (by first | omega | (exact R.r _ _) | (simp only [jM.len_sI, jM.len_sL, jM.len_sR, jM.len_fI, jM.len_fL, jM.len_fR]; omega) | (simp [jM.len_nw, jM.len_sI, jM.len_sL, jM.len_sR, jM.len_fI, jM.len_fL, jM.len_fR, *]; omega)) ?_
                 unfold chargeQ
                 rw [if_neg (by omega)]
                 exact ⟨rfl, rfl⟩))
       · first
         | (exfalso; omega)
         | (refine J.iload_n (pc' := 18) rfl rfl rfl ?_
            refine J.if_lt (tgt := 31) (pc' := 21) rfl rfl rfl (by first | omega | (exact R.r _ _) | (simp only [jM.len_sI, jM.len_sL, jM.len_sR, jM.len_fI, jM.len_fL, jM.len_fR]; omega) | (simp [jM.len_nw, jM.len_sI, jM.len_sL, jM.len_sR, jM.len_fI, jM.len_fL, jM.len_fR, *]; omega)) (fun c18 => ?_) (fun c18 => ?_)
            · first
              | (exfalso; omega)
              | (refine J.iconst (pc' := 32) rfl rfl ?_
                 refine J.iconst (pc' := 33) rfl rfl ?_
                 first | refine J.callV (pc' := 36) (t := 16) rfl MX12_may ml_X12_161 iv_X12_may (by decide) ⟨_, rfl, rfl⟩ B.1 (cm_may1 B h0) rfl rfl (Nat.le_of_ble_eq_true rfl) (by first | omega | (exact R.r _ _) | (simp only [jM.len_sI, jM.len_sL, jM.len_sR, jM.len_fI, jM.len_fL, jM.len_fR]; omega) | (simp [jM.len_nw, jM.len_sI, jM.len_sL, jM.len_sR, jM.len_fI, jM.len_fL, jM.len_fR, *]; omega)) (by first | omega | (exact R.r _ _) | (simp only [jM.len_sI, jM.len_sL, jM.len_sR, jM.len_fI, jM.len_fL, jM.len_fR]; omega) | (simp [jM.len_nw, jM.len_sI, jM.len_sL, jM.len_sR, jM.len_fI, jM.len_fL, jM.len_fR, *]; omega)) (by first | omega | (exact R.r _ _) | (simp only [jM.len_sI, jM.len_sL, jM.len_sR, jM.len_fI, jM.len_fL, jM.len_fR]; omega) | (simp [jM.len_nw, jM.len_sI, jM.len_sL, jM.len_sR, jM.len_fI, jM.len_fL, jM.len_fR, *]; omega)) rfl rfl ?_ ?_ | refine J.callV (pc' := 36) (t := 16) rfl MX12_may ml_X12_161 iv_X12_may (by decide) ⟨_, rfl, rfl⟩ B.1 (cm_may0 B h0 (by omega)) rfl rfl (Nat.le_of_ble_eq_true rfl) (by first | omega | (exact R.r _ _) | (simp only [jM.len_sI, jM.len_sL, jM.len_sR, jM.len_fI, jM.len_fL, jM.len_fR]; omega) | (simp [jM.len_nw, jM.len_sI, jM.len_sL, jM.len_sR, jM.len_fI, jM.len_fL, jM.len_fR, *]; omega)) (by first | omega | (exact R.r _ _) | (simp only [jM.len_sI, jM.len_sL, jM.len_sR, jM.len_fI, jM.len_fL, jM.len_fR]; omega) | (simp [jM.len_nw, jM.len_sI, jM.len_sL, jM.len_sR, jM.len_fI, jM.len_fL, jM.len_fR, *]; omega)) (by first | omega | (exact R.r _ _) | (simp only [jM.len_sI, jM.len_sL, jM.len_sR, jM.len_fI, jM.len_fL, jM.len_fR]; omega) | (simp [jM.len_nw, jM.len_sI, jM.len_sL, jM.len_sR, jM.len_fI, jM.len_fL, jM.len_fR, *]; omega)) rfl rfl ?_ ?_
                 · exact fun _ _ h => h
                 rintro _ _ ⟨rfl, rfl⟩
                 refine J.if_ne (tgt := 41) (pc' := 39) rfl rfl rfl (by first | omega | (exact R.r _ _) | (simp only [jM.len_sI, jM.len_sL, jM.len_sR, jM.len_fI, jM.len_fL, jM.len_fR]; omega) | (simp [jM.len_nw, jM.len_sI, jM.len_sL, jM.len_sR, jM.len_fI, jM.len_fL, jM.len_fR, *]; omega)) (fun c36 => ?_) (fun c36 => ?_)
                 · first
                   | (exfalso; omega)
                   | (exact rest (by omega))
                 · first
                   | (exfalso; omega)
                   | (refine J.iconst (pc' := 40) rfl rfl ?_
                      refine J.iret rfl rfl (by first | omega | (exact R.r _ _) | (simp only [jM.len_sI, jM.len_sL, jM.len_sR, jM.len_fI, jM.len_fL, jM.len_fR]; omega) | (simp [jM.len_nw, jM.len_sI, jM.len_sL, jM.len_sR, jM.len_fI, jM.len_fL, jM.len_fR, *]; omega)) (by first | omega | (exact R.r _ _) | (simp only [jM.len_sI, jM.len_sL, jM.len_sR, jM.len_fI, jM.len_fL, jM.len_fR]; omega) | (simp [jM.len_nw, jM.len_sI, jM.len_sL, jM.len_sR, jM.len_fI, jM.len_fL, jM.len_fR, *]; omega)) ?_
                      unfold chargeQ
                      rw [if_neg (by omega)]
                      exact ⟨rfl, rfl⟩))
            · first
              | (exfalso; omega)
              | (refine J.iload_n (pc' := 22) rfl rfl rfl ?_
                 refine J.bipush (pc' := 24) rfl rfl (by decide) ?_
                 refine J.icmp_ge (tgt := 31) (pc' := 27) rfl rfl rfl (by first | omega | (exact R.r _ _) | (simp only [jM.len_sI, jM.len_sL, jM.len_sR, jM.len_fI, jM.len_fL, jM.len_fR]; omega) | (simp [jM.len_nw, jM.len_sI, jM.len_sL, jM.len_sR, jM.len_fI, jM.len_fL, jM.len_fR, *]; omega)) (by first | omega | (exact R.r _ _) | (simp only [jM.len_sI, jM.len_sL, jM.len_sR, jM.len_fI, jM.len_fL, jM.len_fR]; omega) | (simp [jM.len_nw, jM.len_sI, jM.len_sL, jM.len_sR, jM.len_fI, jM.len_fL, jM.len_fR, *]; omega)) (fun c24 => ?_) (fun c24 => ?_)
                 · first
                   | (exfalso; omega)
                   | (refine J.iconst (pc' := 32) rfl rfl ?_
                      refine J.iconst (pc' := 33) rfl rfl ?_
                      first | refine J.callV (pc' := 36) (t := 16) rfl MX12_may ml_X12_161 iv_X12_may (by decide) ⟨_, rfl, rfl⟩ B.1 (cm_may1 B h0) rfl rfl (Nat.le_of_ble_eq_true rfl) (by first | omega | (exact R.r _ _) | (simp only [jM.len_sI, jM.len_sL, jM.len_sR, jM.len_fI, jM.len_fL, jM.len_fR]; omega) | (simp [jM.len_nw, jM.len_sI, jM.len_sL, jM.len_sR, jM.len_fI, jM.len_fL, jM.len_fR, *]; omega)) (by first | omega | (exact R.r _ _) | (simp only [jM.len_sI, jM.len_sL, jM.len_sR, jM.len_fI, jM.len_fL, jM.len_fR]; omega) | (simp [jM.len_nw, jM.len_sI, jM.len_sL, jM.len_sR, jM.len_fI, jM.len_fL, jM.len_fR, *]; omega)) (by first | omega | (exact R.r _ _) | (simp only [jM.len_sI, jM.len_sL, jM.len_sR, jM.len_fI, jM.len_fL, jM.len_fR]; omega) | (simp [jM.len_nw, jM.len_sI, jM.len_sL, jM.len_sR, jM.len_fI, jM.len_fL, jM.len_fR, *]; omega)) rfl rfl ?_ ?_ | refine J.callV (pc' := 36) (t := 16) rfl MX12_may ml_X12_161 iv_X12_may (by decide) ⟨_, rfl, rfl⟩ B.1 (cm_may0 B h0 (by omega)) rfl rfl (Nat.le_of_ble_eq_true rfl) (by first | omega | (exact R.r _ _) | (simp only [jM.len_sI, jM.len_sL, jM.len_sR, jM.len_fI, jM.len_fL, jM.len_fR]; omega) | (simp [jM.len_nw, jM.len_sI, jM.len_sL, jM.len_sR, jM.len_fI, jM.len_fL, jM.len_fR, *]; omega)) (by first | omega | (exact R.r _ _) | (simp only [jM.len_sI, jM.len_sL, jM.len_sR, jM.len_fI, jM.len_fL, jM.len_fR]; omega) | (simp [jM.len_nw, jM.len_sI, jM.len_sL, jM.len_sR, jM.len_fI, jM.len_fL, jM.len_fR, *]; omega)) (by first | omega | (exact R.r _ _) | (simp only [jM.len_sI, jM.len_sL, jM.len_sR, jM.len_fI, jM.len_fL, jM.len_fR]; omega) | (simp [jM.len_nw, jM.len_sI, jM.len_sL, jM.len_sR, jM.len_fI, jM.len_fL, jM.len_fR, *]; omega)) rfl rfl ?_ ?_
                      · exact fun _ _ h => h
                      rintro _ _ ⟨rfl, rfl⟩
                      refine J.if_ne (tgt := 41) (pc' := 39) rfl rfl rfl (by first | omega | (exact R.r _ _) | (simp only [jM.len_sI, jM.len_sL, jM.len_sR, jM.len_fI, jM.len_fL, jM.len_fR]; omega) | (simp [jM.len_nw, jM.len_sI, jM.len_sL, jM.len_sR, jM.len_fI, jM.len_fL, jM.len_fR, *]; omega)) (fun c36 => ?_) (fun c36 => ?_)
                      · first
                        | (exfalso; omega)
                        | (exact rest (by omega))
                      · first
                        | (exfalso; omega)
                        | (refine J.iconst (pc' := 40) rfl rfl ?_
                           refine J.iret rfl rfl (by first | omega | (exact R.r _ _) | (simp only [jM.len_sI, jM.len_sL, jM.len_sR, jM.len_fI, jM.len_fL, jM.len_fR]; omega) | (simp [jM.len_nw, jM.len_sI, jM.len_sL, jM.len_sR, jM.len_fI, jM.len_fL, jM.len_fR, *]; omega)) (by first | omega | (exact R.r _ _) | (simp only [jM.len_sI, jM.len_sL, jM.len_sR, jM.len_fI, jM.len_fL, jM.len_fR]; omega) | (simp [jM.len_nw, jM.len_sI, jM.len_sL, jM.len_sR, jM.len_fI, jM.len_fL, jM.len_fR, *]; omega)) ?_
                           unfold chargeQ
                           rw [if_neg (by omega)]
                           exact ⟨rfl, rfl⟩))
                 · first
                   | (exfalso; omega)
                   | (refine J.iconst (pc' := 28) rfl rfl ?_
                      refine J.goto (tgt := 32) rfl rfl ?_
                      refine J.iconst (pc' := 33) rfl rfl ?_
                      first | refine J.callV (pc' := 36) (t := 16) rfl MX12_may ml_X12_161 iv_X12_may (by decide) ⟨_, rfl, rfl⟩ B.1 (cm_may1 B h0) rfl rfl (Nat.le_of_ble_eq_true rfl) (by first | omega | (exact R.r _ _) | (simp only [jM.len_sI, jM.len_sL, jM.len_sR, jM.len_fI, jM.len_fL, jM.len_fR]; omega) | (simp [jM.len_nw, jM.len_sI, jM.len_sL, jM.len_sR, jM.len_fI, jM.len_fL, jM.len_fR, *]; omega)) (by first | omega | (exact R.r _ _) | (simp only [jM.len_sI, jM.len_sL, jM.len_sR, jM.len_fI, jM.len_fL, jM.len_fR]; omega) | (simp [jM.len_nw, jM.len_sI, jM.len_sL, jM.len_sR, jM.len_fI, jM.len_fL, jM.len_fR, *]; omega)) (by first | omega | (exact R.r _ _) | (simp only [jM.len_sI, jM.len_sL, jM.len_sR, jM.len_fI, jM.len_fL, jM.len_fR]; omega) | (simp [jM.len_nw, jM.len_sI, jM.len_sL, jM.len_sR, jM.len_fI, jM.len_fL, jM.len_fR, *]; omega)) rfl rfl ?_ ?_ | refine J.callV (pc' := 36) (t := 16) rfl MX12_may ml_X12_161 iv_X12_may (by decide) ⟨_, rfl, rfl⟩ B.1 (cm_may0 B h0 (by omega)) rfl rfl (Nat.le_of_ble_eq_true rfl) (by first | omega | (exact R.r _ _) | (simp only [jM.len_sI, jM.len_sL, jM.len_sR, jM.len_fI, jM.len_fL, jM.len_fR]; omega) | (simp [jM.len_nw, jM.len_sI, jM.len_sL, jM.len_sR, jM.len_fI, jM.len_fL, jM.len_fR, *]; omega)) (by first | omega | (exact R.r _ _) | (simp only [jM.len_sI, jM.len_sL, jM.len_sR, jM.len_fI, jM.len_fL, jM.len_fR]; omega) | (simp [jM.len_nw, jM.len_sI, jM.len_sL, jM.len_sR, jM.len_fI, jM.len_fL, jM.len_fR, *]; omega)) (by first | omega | (exact R.r _ _) | (simp only [jM.len_sI, jM.len_sL, jM.len_sR, jM.len_fI, jM.len_fL, jM.len_fR]; omega) | (simp [jM.len_nw, jM.len_sI, jM.len_sL, jM.len_sR, jM.len_fI, jM.len_fL, jM.len_fR, *]; omega)) rfl rfl ?_ ?_
                      · exact fun _ _ h => h
                      rintro _ _ ⟨rfl, rfl⟩
                      refine J.if_ne (tgt := 41) (pc' := 39) rfl rfl rfl (by first | omega | (exact R.r _ _) | (simp only [jM.len_sI, jM.len_sL, jM.len_sR, jM.len_fI, jM.len_fL, jM.len_fR]; omega) | (simp [jM.len_nw, jM.len_sI, jM.len_sL, jM.len_sR, jM.len_fI, jM.len_fL, jM.len_fR, *]; omega)) (fun c36 => ?_) (fun c36 => ?_)
                      · first
                        | (exfalso; omega)
                        | (exact rest (by omega))
                      · first
                        | (exfalso; omega)
                        | (refine J.iconst (pc' := 40) rfl rfl ?_
                           refine J.iret rfl rfl (by first | omega | (exact R.r _ _) | (simp only [jM.len_sI, jM.len_sL, jM.len_sR, jM.len_fI, jM.len_fL, jM.len_fR]; omega) | (simp [jM.len_nw, jM.len_sI, jM.len_sL, jM.len_sR, jM.len_fI, jM.len_fL, jM.len_fR, *]; omega)) (by first | omega | (exact R.r _ _) | (simp only [jM.len_sI, jM.len_sL, jM.len_sR, jM.len_fI, jM.len_fL, jM.len_fR]; omega) | (simp [jM.len_nw, jM.len_sI, jM.len_sL, jM.len_sR, jM.len_fI, jM.len_fL, jM.len_fR, *]; omega)) ?_
                           unfold chargeQ
                           rw [if_neg (by omega)]
                           exact ⟨rfl, rfl⟩)))))
end M13
/-- one layer y gives t tons to portion p -/
def mlA (U : VV) (y p t m : Int) : VV := fun r i => if (r = 156 ∨ r = 157) ∧ 5 * p ≤ i ∧ i < 5 * p + m then (if r = 156 then lowL U y (i - 5 * p) else highL U y (i - 5 * p)) else if r = 155 ∧ i = p then U 140 y else if r = 154 ∧ i = p then t else U r i
def mlB (U : VV) (y p t : Int) : VV := jU (jU (mlA U y p t 5) 153 (U 16 52) (U 153 (U 16 52) + 1)) 139 y (U 139 y - t)
def mlY (U : VV) (h : Int) : Int := 41 * h + U 138 h - 1
def mlT (U : VV) (h left : Int) : Int := if left < U 139 (mlY U h) then left else U 139 (mlY U h)
def mlP (U : VV) : Int := 20 * U 16 52 + U 153 (U 16 52)
def mlV (U : VV) (h left : Int) : VV := if U 139 (mlY U h) - mlT U h left = 0 then jU (mlB U (mlY U h) (mlP U) (mlT U h left)) 138 h (U 138 h - 1) else mlB U (mlY U h) (mlP U) (mlT U h left)
def mlG : Nat → VV → Int → Int → VV
  | 0, U, _, _ => U
  | k + 1, U, h, left => if 0 < left then mlG k (mlV U h left) h (left - mlT U h left) else U
def mlH (U : VV) (bt : Int → Int) : Nat → VV
  | 0 => U
  | g + 1 => mlG (bt g).toNat (mlH U bt g) g (bt g)
section M14
variable {γ : jG} {β : jB} {V U : VV}
theorem mlA_o {y p t m i : Int} {r : Nat} (h1 : r ≠ 154) (h2 : r ≠ 155) (h3 : r ≠ 156) (h4 : r ≠ 157) : mlA U y p t m r i = U r i := by
  unfold mlA
  rw [if_neg (by omega), if_neg (by omega), if_neg (by omega)]
theorem mlV_o {h left i : Int} {r : Nat} (h1 : r ≠ 138) (h2 : r ≠ 139) (h3 : r < 153 ∨ 157 < r) : mlV U h left r i = U r i := by
  have e : mlB U (mlY U h) (mlP U) (mlT U h left) r i = U r i := by
    unfold mlB
    rw [jU_o _ h2, jU_o _ (by omega), mlA_o (by omega) (by omega) (by omega) (by omega)]
  unfold mlV
  split
  · rw [jU_o _ h1, e]
  · exact e
theorem mlV_153 {h left i : Int} : mlV U h left 153 i = if i = U 16 52 then U 153 (U 16 52) + 1 else U 153 i := by
  have e : mlB U (mlY U h) (mlP U) (mlT U h left) 153 i = if i = U 16 52 then U 153 (U 16 52) + 1 else U 153 i := by
    unfold mlB
    rw [jU_o _ (by decide), jU_at]
    split
    · rfl
    · exact mlA_o (by decide) (by decide) (by decide) (by decide)
  unfold mlV
  split
  · rw [jU_o _ (by decide), e]
  · exact e
theorem mlV_138 {h left i : Int} : mlV U h left 138 i = if i = h ∧ U 139 (mlY U h) - mlT U h left = 0 then U 138 h - 1 else U 138 i := by
  have e : mlB U (mlY U h) (mlP U) (mlT U h left) 138 i = U 138 i := by
    unfold mlB
    rw [jU_o _ (by decide), jU_o _ (by decide), mlA_o (by decide) (by decide) (by decide) (by decide)]
  unfold mlV
  split
  · rename_i q
    rw [jU_at, e]
    by_cases z : i = h
    · rw [if_pos z, if_pos ⟨z, q⟩]
    · rw [if_neg z, if_neg (fun q => z q.1)]
  · rename_i q
    rw [e, if_neg (fun z => q z.2)]
theorem mlV_139 {h left i : Int} : mlV U h left 139 i = if i = mlY U h then U 139 (mlY U h) - mlT U h left else U 139 i := by
  have e : mlB U (mlY U h) (mlP U) (mlT U h left) 139 i = if i = mlY U h then U 139 (mlY U h) - mlT U h left else U 139 i := by
    unfold mlB
    rw [jU_at]
    split
    · rfl
    · rw [jU_o _ (by decide), mlA_o (by decide) (by decide) (by decide) (by decide)]
  unfold mlV
  split
  · rw [jU_o _ (by decide), e]
  · exact e
/-- as the melting goes on -/
def mlI (U : VV) (M : Int) : Prop := isR U ∧ isT U ∧ U 16 52 = M
theorem mlT_b {h left : Int} (I : isR U) (T : isT U) (hh : 0 ≤ h ∧ h < 6) (hl : 0 < left ∧ left ≤ tonsOf U h) : 1 ≤ U 138 h ∧ U 138 h ≤ 40 ∧ 1 ≤ U 139 (mlY U h) ∧ U 139 (mlY U h) ≤ 5000 ∧ 1 ≤ mlT U h left ∧ mlT U h left ≤ left ∧ mlT U h left ≤ U 139 (mlY U h) := by
  have h1 := I 138 h rfl
  have h2 := I 139 (mlY U h) rfl
  simp [jLo, jHi] at h1 h2
  have h3 : 1 ≤ U 138 h := by
    rcases (by omega : U 138 h = 0 ∨ 1 ≤ U 138 h) with q | q
    · exfalso
      unfold tonsOf at hl
      rw [q] at hl
      simp [Sm] at hl
      omega
    · exact q
  have h4 := T h (U 138 h - 1) hh.1 hh.2 (by omega) (by omega)
  rw [show 41 * h + (U 138 h - 1) = mlY U h by unfold mlY; omega] at h4
  refine ⟨h3, by omega, h4, by omega, ?_⟩
  unfold mlT
  split <;> omega
theorem mlV_tons {h left : Int} (I : isR U) (T : isT U) (hh : 0 ≤ h ∧ h < 6) (hl : 0 < left ∧ left ≤ tonsOf U h) : tonsOf (mlV U h left) h = tonsOf U h - mlT U h left ∧ ∀ g, 0 ≤ g → g < 6 → g ≠ h → tonsOf (mlV U h left) g = tonsOf U g := by
  obtain ⟨b1, b2, b3, b4, b5, b6, b7⟩ := mlT_b I T hh hl
  constructor
  · have e0 : tonsOf U h = Sm (fun k => U 139 (41 * h + k)) (U 138 h - 1).toNat + U 139 (mlY U h) := by
      unfold tonsOf
      rw [show (U 138 h).toNat = (U 138 h - 1).toNat + 1 by omega, Sm, show (((U 138 h - 1).toNat : Nat) : Int) = U 138 h - 1 by omega, show 41 * h + (U 138 h - 1) = mlY U h by unfold mlY; omega]
    have e1 : Sm (fun k => mlV U h left 139 (41 * h + k)) (U 138 h - 1).toNat = Sm (fun k => U 139 (41 * h + k)) (U 138 h - 1).toNat := Sm_cg (fun i hi => by
      show mlV U h left 139 (41 * h + (i : Int)) = U 139 (41 * h + i)
      rw [mlV_139, if_neg (by unfold mlY; omega)])
    by_cases q : U 139 (mlY U h) - mlT U h left = 0
    · unfold tonsOf
      rw [mlV_138, if_pos ⟨rfl, q⟩, e1]
      have e0 : Sm (fun k => U 139 (41 * h + k)) (U 138 h).toNat = Sm (fun k => U 139 (41 * h + k)) (U 138 h - 1).toNat + U 139 (mlY U h) := e0
      omega
    · unfold tonsOf
      rw [mlV_138, if_neg (fun z => q z.2), show (U 138 h).toNat = (U 138 h - 1).toNat + 1 by omega, Sm, e1, show (((U 138 h - 1).toNat : Nat) : Int) = U 138 h - 1 by omega, show 41 * h + (U 138 h - 1) = mlY U h by unfold mlY; omega, mlV_139, if_pos rfl]
      rw [Sm, show (((U 138 h - 1).toNat : Nat) : Int) = U 138 h - 1 by omega, show 41 * h + (U 138 h - 1) = mlY U h by unfold mlY; omega]
      omega
  · intro g g1 g2 g3
    have h5 := I 138 g rfl
    simp [jLo, jHi] at h5
    unfold tonsOf
    rw [mlV_138, if_neg (fun z => g3 z.1)]
    exact Sm_cg (fun i hi => by
      show mlV U h left 139 (41 * g + (i : Int)) = U 139 (41 * g + i)
      rw [mlV_139, if_neg (by unfold mlY; omega)])
theorem mlV_I {h left M : Int} (I : mlI U M) (hh : 0 ≤ h ∧ h < 6) (hl : 0 < left ∧ left ≤ tonsOf U h ∧ left ≤ 20) (hM : U 153 M < 20) : mlI (mlV U h left) M := by
  obtain ⟨R, T, e⟩ := I
  obtain ⟨b1, b2, b3, b4, b5, b6, b7⟩ := mlT_b R T hh ⟨hl.1, hl.2.1⟩
  have r3 := R 153 M rfl
  simp [jLo, jHi] at r3
  refine ⟨?_, fun g j g1 g2 j1 j2 => ?_, by rw [mlV_o (by decide) (by decide) (by decide)]; exact e⟩
  · have RA : isR (mlA U (mlY U h) (mlP U) (mlT U h left) 5) := by
      intro r i hr
      unfold mlA
      split
      · rename_i q
        have lb := lowL_b R (mlY U h) (i - 5 * mlP U)
        rcases q.1 with z | z
        · subst z; rw [if_pos rfl]; exact lb.1
        · subst z; rw [if_neg (by decide)]; exact lb.2
      · split
        · rename_i q
          have := R 140 (mlY U h) rfl
          rw [q.1]
          exact this
        · split
          · rename_i q
            rw [q.1]
            show (0 : Int) ≤ _ ∧ _ ≤ (20 : Int)
            omega
          · exact R r i hr
    have RB : isR (mlB U (mlY U h) (mlP U) (mlT U h left)) := (RA.up (fun _ => by show (0 : Int) ≤ U 153 (U 16 52) + 1 ∧ U 153 (U 16 52) + 1 ≤ 20; rw [e]; omega)).up (fun _ => by show (0 : Int) ≤ U 139 (mlY U h) - mlT U h left ∧ U 139 (mlY U h) - mlT U h left ≤ 5000; omega)
    unfold mlV
    split
    · exact RB.up (fun _ => by show (0 : Int) ≤ U 138 h - 1 ∧ U 138 h - 1 ≤ 40; omega)
    · exact RB
  · rw [mlV_138] at j2
    have h5 := R 138 g rfl
    simp [jLo, jHi] at h5
    rw [mlV_139]
    split
    · rename_i q
      have eg : g = h := by unfold mlY at q; split at j2 <;> omega
      subst eg
      split at j2
      · unfold mlY at q; omega
      · rename_i z
        have : ¬ (U 139 (mlY U g) - mlT U g left = 0) := fun y => z ⟨rfl, y⟩
        omega
    · refine T g j g1 g2 j1 ?_
      split at j2
      · rename_i z; rw [z.1]; omega
      · exact j2
end M14

