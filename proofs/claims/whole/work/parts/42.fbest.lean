section M12
variable {γ : jG} {β : jB} {V : VV}
abbrev fbL (β : jB) (n b h left : Int) : List (Nat × Value) := [(0, .ref (β.2 16)), (1, .int (jI n)), (2, .long (jL b)), (4, .int (jI h)), (5, .int (jI left))]
/-- one step of the search's loop: the next ton count is tried on heap g -/
theorem fb_step {n L g : Int} {t : Nat} {tr : Int → Int} {a : Acc} {W : VV} (B : isB β) (hn : 1 ≤ n ∧ n ≤ 20) (hL : 0 ≤ L ∧ L ≤ n) (hg : 0 ≤ g ∧ g ≤ 5) (S : sbS W V n tr a g) (hW : W 149 g = (t : Int) - 1) (ht : (t : Int) ≤ min L (mostP V n g) + 1)
    (k0 : min L (mostP V n g) < (t : Int) → ∀ lv, hasL lv (fbL β n a.1 (g - 1) L) → J γ mX12_findBest 3 0 0 0 0 (jP β (jU W 149 g t)) 22 lv [] (fbQ β V n) X0)
    (k1 : (t : Int) ≤ min L (mostP V n g) → ∀ lv, hasL lv (fbL β n a.1 g (L - t)) → J γ mX12_findBest 3 0 0 0 0 (jP β (jU W 149 g t)) 99 lv [] (fbQ β V n) X0)
    {lv : List (Nat × Value)} (hlv : hasL lv (fbL β n a.1 g (if t = 0 then L else L - ((t : Int) - 1)))) : J γ mX12_findBest 3 0 0 0 0 (jP β W) 22 lv [] (fbQ β V n) X0 := by
  have hm : W 148 g = mostP V n g := (S.1.2.2 g hg.1 (by omega)).1
  have hmb : mostP V n g ≤ 20 := by unfold mostP; omega
  have at45 : ∀ x : Int, (if t = 0 then L else L - ((t : Int) - 1)) - x = L - t → J γ mX12_findBest 3 0 0 0 0 (jP β W) 45 (fbL β n a.1 g (if t = 0 then L else L - ((t : Int) - 1))) [.int (jI x), .int (jI (if t = 0 then L else L - ((t : Int) - 1)))] (fbQ β V n) X0 := by
    intro x hx
    have out : min L (mostP V n g) < (t : Int) → J γ mX12_findBest 3 0 0 0 0 (jP β (jU W 149 g t)) 81 (fbL β n a.1 g (L - t)) [] (fbQ β V n) X0 := by
      intro q
      refine J.iload (pc' := 83) rfl rfl rfl ?_
      first | refine J.aload_n (pc' := 84) rfl rfl rfl ?_ | refine J.aload_nN (pc' := 84) rfl rfl rfl ?_
      refine J.mgR (pc' := 87) (t := 149) B rfl fl_X12_124 rfl rfl (by decide) rfl ?_
      refine J.iload (pc' := 89) rfl rfl rfl ?_
      refine J.mald (pc' := 90) B rfl rfl rfl (by omega) (by simp only [jLn]; omega) rfl ?_
      rw [jU_same]
      refine J.iadd (pc' := 91) rfl rfl ?_
      rw [show L - (t : Int) + t = L by omega]
      refine J.istore (pc' := 93) rfl rfl (by decide) ?_
      refine J.iinc (pc' := 96) rfl rfl rfl (by decide) ?_
      refine J.goto (tgt := 22) rfl rfl ?_
      exact k0 q _ ⟨rfl, rfl, rfl, rfl, rfl, trivial⟩
    refine J.isub (pc' := 46) rfl rfl ?_
    rw [hx]
    refine J.istore (pc' := 48) rfl rfl (by decide) ?_
    first | refine J.aload_n (pc' := 49) rfl rfl rfl ?_ | refine J.aload_nN (pc' := 49) rfl rfl rfl ?_
    refine J.mgR (pc' := 52) (t := 149) B rfl fl_X12_124 rfl rfl (by decide) rfl ?_
    refine J.iload (pc' := 54) rfl rfl rfl ?_
    first | refine J.dup2 (pc' := 55) rfl rfl rfl rfl ?_ | refine J.dup2L (pc' := 55) rfl rfl rfl ?_
    refine J.mald (pc' := 56) B rfl rfl rfl (by omega) (by simp only [jLn]; omega) rfl ?_
    rw [hW]
    refine J.iconst (pc' := 57) rfl rfl ?_
    refine J.iadd (pc' := 58) rfl rfl ?_
    refine J.mast (pc' := 59) B rfl rfl rfl rfl (by omega) (by simp only [jLn]; omega) rfl ?_
    first | refine J.aload_n (pc' := 60) rfl rfl rfl ?_ | refine J.aload_nN (pc' := 60) rfl rfl rfl ?_
    refine J.mgR (pc' := 63) (t := 149) B rfl fl_X12_124 rfl rfl (by decide) rfl ?_
    refine J.iload (pc' := 65) rfl rfl rfl ?_
    refine J.mald (pc' := 66) B rfl rfl rfl (by omega) (by simp only [jLn]; omega) rfl ?_
    first | refine J.aload_n (pc' := 67) rfl rfl rfl ?_ | refine J.aload_nN (pc' := 67) rfl rfl rfl ?_
    refine J.mgR (pc' := 70) (t := 148) B rfl fl_X12_121 rfl rfl (by decide) rfl ?_
    refine J.iload (pc' := 72) rfl rfl rfl ?_
    refine J.mald (pc' := 73) B rfl rfl rfl (by omega) (by simp only [jLn]; omega) rfl ?_
    rw [show (t : Int) - 1 + 1 = t by omega, jU_same, jU_o _ (by decide), hm]
    refine J.icmp_gt (tgt := 81) (pc' := 76) rfl rfl rfl (by first | omega | (exact R.r _ _) | (simp only [jM.len_sI, jM.len_sL, jM.len_sR, jM.len_fI, jM.len_fL, jM.len_fR]; omega) | (simp [jM.len_nw, jM.len_sI, jM.len_sL, jM.len_sR, jM.len_fI, jM.len_fL, jM.len_fR, *]; omega)) (by first | omega | (exact R.r _ _) | (simp only [jM.len_sI, jM.len_sL, jM.len_sR, jM.len_fI, jM.len_fL, jM.len_fR]; omega) | (simp [jM.len_nw, jM.len_sI, jM.len_sL, jM.len_sR, jM.len_fI, jM.len_fL, jM.len_fR, *]; omega)) (fun c1 => ?_) (fun c1 => ?_)
    · exact out (by omega)
    · refine J.iload (pc' := 78) rfl rfl rfl ?_
      refine J.if_ge (tgt := 99) (pc' := 81) rfl rfl rfl (by first | omega | (exact R.r _ _) | (simp only [jM.len_sI, jM.len_sL, jM.len_sR, jM.len_fI, jM.len_fL, jM.len_fR]; omega) | (simp [jM.len_nw, jM.len_sI, jM.len_sL, jM.len_sR, jM.len_fI, jM.len_fL, jM.len_fR, *]; omega)) (fun c2 => ?_) (fun c2 => ?_)
      · exact k1 (by omega) _ ⟨rfl, rfl, rfl, rfl, rfl, trivial⟩
      · exact out (by omega)
  refine J.lc hlv ?_
  refine J.iload (pc' := 24) rfl rfl rfl ?_
  refine J.if_lt (tgt := 196) (pc' := 27) rfl rfl rfl (by first | omega | (exact R.r _ _) | (simp only [jM.len_sI, jM.len_sL, jM.len_sR, jM.len_fI, jM.len_fL, jM.len_fR]; omega) | (simp [jM.len_nw, jM.len_sI, jM.len_sL, jM.len_sR, jM.len_fI, jM.len_fL, jM.len_fR, *]; omega)) (fun c1 => ?_) (fun c1 => ?_)
  · omega
  · refine J.iload (pc' := 29) rfl rfl rfl ?_
    first | refine J.aload_n (pc' := 30) rfl rfl rfl ?_ | refine J.aload_nN (pc' := 30) rfl rfl rfl ?_
    refine J.mgR (pc' := 33) (t := 149) B rfl fl_X12_124 rfl rfl (by decide) rfl ?_
    refine J.iload (pc' := 35) rfl rfl rfl ?_
    refine J.mald (pc' := 36) B rfl rfl rfl (by omega) (by simp only [jLn]; omega) rfl ?_
    rw [hW]
    refine J.iconst (pc' := 37) rfl rfl ?_
    refine J.icmp_ne (tgt := 44) (pc' := 40) rfl rfl rfl (by first | omega | (exact R.r _ _) | (simp only [jM.len_sI, jM.len_sL, jM.len_sR, jM.len_fI, jM.len_fL, jM.len_fR]; omega) | (simp [jM.len_nw, jM.len_sI, jM.len_sL, jM.len_sR, jM.len_fI, jM.len_fL, jM.len_fR, *]; omega)) (by first | omega | (exact R.r _ _) | (simp only [jM.len_sI, jM.len_sL, jM.len_sR, jM.len_fI, jM.len_fL, jM.len_fR]; omega) | (simp [jM.len_nw, jM.len_sI, jM.len_sL, jM.len_sR, jM.len_fI, jM.len_fL, jM.len_fR, *]; omega)) (fun c2 => ?_) (fun c2 => ?_)
    · refine J.iconst (pc' := 45) rfl rfl ?_
      exact at45 1 (by rw [if_neg (by omega)]; omega)
    · refine J.iconst (pc' := 41) rfl rfl ?_
      refine J.goto (tgt := 45) rfl rfl ?_
      exact at45 0 (by rw [if_pos (by omega)]; omega)
/-- a full charge is judged -/
theorem fb_leaf {n left : Int} {tr : Int → Int} {a : Acc} {W : VV} (B : isB β) (R : isR V) (hn : 1 ≤ n ∧ n ≤ 20) (S : sbS W V n tr a 6)
    (k : ∀ W', sbS W' V n tr (leafP V n tr a) 6 → ∀ lv, hasL lv (fbL β n (leafP V n tr a).1 5 left) → J γ mX12_findBest 3 0 0 0 0 (jP β W') 22 lv [] (fbQ β V n) X0)
    {lv : List (Nat × Value)} (hlv : hasL lv (fbL β n a.1 5 left)) : J γ mX12_findBest 3 0 0 0 0 (jP β W) 127 lv [] (fbQ β V n) X0 := by
  have ht : ∀ h, 0 ≤ h → h < 6 → 0 ≤ W 149 h ∧ W 149 h ≤ 20 := fun h h1 h2 => by
    have := S.2.1 h h1 h2
    unfold mostP at this
    omega
  have hP : ∀ i, 0 ≤ i → i < 11 → tot W i = totP V tr i := fun i h1 h2 => tot_P S.1 ⟨h1, h2⟩ S.2.1
  have hPb : ∀ i, 0 ≤ totP V tr i ∧ totP V tr i ≤ 12000000 := fun i => totP_b R hn.2 i (fun j h1 h2 => (S.2.1 j h1 h2).2)
  have hG : allB (gdB W n) 0 5 = goodP V n tr := by
    refine allB_cg (fun i hi => ?_)
    unfold gdB gdP
    rw [S.1.2.1 146 _ (by omega), S.1.2.1 147 _ (by omega), hP _ (by omega) (by omega), hP _ (by omega) (by omega)]
  have ab := S.2.2.2
  have tb := hPb 0
  have no : ¬ ((a.1 = -1 ∨ totP V tr 0 < a.1) ∧ goodP V n tr = true) → ∀ lv, hasL lv (fbL β n a.1 5 left) → J γ mX12_findBest 3 0 0 0 0 (jP β W) 22 lv [] (fbQ β V n) X0 := by
    intro q
    unfold leafP at k
    rw [if_neg q] at k
    exact k W S
  have at149 : (a.1 = -1 ∨ totP V tr 0 < a.1) → J γ mX12_findBest 3 0 0 0 0 (jP β W) 149 [(0, .ref (β.2 16)), (1, .int (jI n)), (2, .long (jL a.1)), (4, .int (jI 5)), (5, .int (jI left)), (6, .long (jL (totP V tr 0)))] [] (fbQ β V n) X0 := by
    intro q
    first | refine J.aload_n (pc' := 150) rfl rfl rfl ?_ | refine J.aload_nN (pc' := 150) rfl rfl rfl ?_
    refine J.iload_n (pc' := 151) rfl rfl rfl ?_
    refine J.callV (pc' := 154) (t := 16) rfl MX12_isGood ml_X12_322 iv_X12_isGood (by decide) ⟨_, rfl, rfl⟩ B.1 (cm_isGood B S.1.1 (by omega) ht (fun i h1 h2 => by rw [hP i h1 h2]; exact hPb i)) rfl rfl (Nat.le_of_ble_eq_true rfl) (by first | omega | (exact R.r _ _) | (simp only [jM.len_sI, jM.len_sL, jM.len_sR, jM.len_fI, jM.len_fL, jM.len_fR]; omega) | (simp [jM.len_nw, jM.len_sI, jM.len_sL, jM.len_sR, jM.len_fI, jM.len_fL, jM.len_fR, *]; omega)) (by first | omega | (exact R.r _ _) | (simp only [jM.len_sI, jM.len_sL, jM.len_sR, jM.len_fI, jM.len_fL, jM.len_fR]; omega) | (simp [jM.len_nw, jM.len_sI, jM.len_sL, jM.len_sR, jM.len_fI, jM.len_fL, jM.len_fR, *]; omega)) (by first | omega | (exact R.r _ _) | (simp only [jM.len_sI, jM.len_sL, jM.len_sR, jM.len_fI, jM.len_fL, jM.len_fR]; omega) | (simp [jM.len_nw, jM.len_sI, jM.len_sL, jM.len_sR, jM.len_fI, jM.len_fL, jM.len_fR, *]; omega)) rfl rfl ?_ ?_
    · exact fun _ _ h => h
    rintro _ _ ⟨rfl, rfl⟩
    rw [hG]
    cases hq : goodP V n tr with
    | false =>
      simp only [b2i, cond_false]
      refine J.if_ne (tgt := 160) (pc' := 157) rfl rfl rfl (by first | omega | (exact R.r _ _) | (simp only [jM.len_sI, jM.len_sL, jM.len_sR, jM.len_fI, jM.len_fL, jM.len_fR]; omega) | (simp [jM.len_nw, jM.len_sI, jM.len_sL, jM.len_sR, jM.len_fI, jM.len_fL, jM.len_fR, *]; omega)) (fun c1 => ?_) (fun c1 => ?_)
      · omega
      · refine J.goto (tgt := 22) rfl rfl ?_
        exact no (by rw [hq]; simp) _ ⟨rfl, rfl, rfl, rfl, rfl, trivial⟩
    | true =>
      simp only [b2i, cond_true]
      unfold leafP at k
      rw [if_pos ⟨q, hq⟩] at k
      refine J.if_ne (tgt := 160) (pc' := 157) rfl rfl rfl (by first | omega | (exact R.r _ _) | (simp only [jM.len_sI, jM.len_sL, jM.len_sR, jM.len_fI, jM.len_fL, jM.len_fR]; omega) | (simp [jM.len_nw, jM.len_sI, jM.len_sL, jM.len_sR, jM.len_fI, jM.len_fL, jM.len_fR, *]; omega)) (fun c1 => ?_) (fun c1 => ?_)
      · refine J.lload (pc' := 162) rfl rfl rfl ?_
        refine J.lstore_n (pc' := 163) rfl rfl (by decide) ?_
        refine J.iconst (pc' := 164) rfl rfl ?_
        refine J.istore (pc' := 166) rfl rfl (by decide) ?_
        have cp : ∀ (m i : Nat), i + m = 6 → ∀ W', fsG W' V n 6 → (∀ j, W' 149 j = W 149 j) → (∀ j : Int, 0 ≤ j → j < i → W' 150 j = tr j) → ∀ lv, hasL lv [(0, .ref (β.2 16)), (1, .int (jI n)), (2, .long (jL (totP V tr 0))), (4, .int (jI 5)), (5, .int (jI left)), (8, .int (jI (i : Int)))] → J γ mX12_findBest 3 0 0 0 0 (jP β W') 166 lv [] (fbQ β V n) X0 := by
          intro m
          induction m with
          | zero =>
            intro i hi W' G' e1 e2 lv hlv
            refine J.lc hlv ?_
            refine J.iload (pc' := 168) rfl rfl rfl ?_
            refine J.bipush (pc' := 170) rfl rfl (by decide) ?_
            refine J.icmp_ge (tgt := 193) (pc' := 173) rfl rfl rfl (by first | omega | (exact R.r _ _) | (simp only [jM.len_sI, jM.len_sL, jM.len_sR, jM.len_fI, jM.len_fL, jM.len_fR]; omega) | (simp [jM.len_nw, jM.len_sI, jM.len_sL, jM.len_sR, jM.len_fI, jM.len_fL, jM.len_fR, *]; omega)) (by first | omega | (exact R.r _ _) | (simp only [jM.len_sI, jM.len_sL, jM.len_sR, jM.len_fI, jM.len_fL, jM.len_fR]; omega) | (simp [jM.len_nw, jM.len_sI, jM.len_sL, jM.len_sR, jM.len_fI, jM.len_fL, jM.len_fR, *]; omega)) (fun c2 => ?_) (fun c2 => ?_)
            · refine J.goto (tgt := 22) rfl rfl ?_
              exact k W' ⟨G', fun j h1 h2 => by rw [e1]; exact S.2.1 j h1 h2, Or.inr (fun j h1 h2 => e2 j h1 (by omega)), by show -1 ≤ totP V tr 0 ∧ totP V tr 0 ≤ 12000000; omega⟩ _ ⟨rfl, rfl, rfl, rfl, rfl, trivial⟩
            · omega
          | succ m ih =>
            intro i hi W' G' e1 e2 lv hlv
            have hti := ht i (by omega) (by omega)
            have hsi := S.2.1 i (by omega) (by omega)
            refine J.lc hlv ?_
            refine J.iload (pc' := 168) rfl rfl rfl ?_
            refine J.bipush (pc' := 170) rfl rfl (by decide) ?_
            refine J.icmp_ge (tgt := 193) (pc' := 173) rfl rfl rfl (by first | omega | (exact R.r _ _) | (simp only [jM.len_sI, jM.len_sL, jM.len_sR, jM.len_fI, jM.len_fL, jM.len_fR]; omega) | (simp [jM.len_nw, jM.len_sI, jM.len_sL, jM.len_sR, jM.len_fI, jM.len_fL, jM.len_fR, *]; omega)) (by first | omega | (exact R.r _ _) | (simp only [jM.len_sI, jM.len_sL, jM.len_sR, jM.len_fI, jM.len_fL, jM.len_fR]; omega) | (simp [jM.len_nw, jM.len_sI, jM.len_sL, jM.len_sR, jM.len_fI, jM.len_fL, jM.len_fR, *]; omega)) (fun c2 => ?_) (fun c2 => ?_)
            · omega
            · first | refine J.aload_n (pc' := 174) rfl rfl rfl ?_ | refine J.aload_nN (pc' := 174) rfl rfl rfl ?_
              refine J.mgR (pc' := 177) (t := 150) B rfl fl_X12_127 rfl rfl (by decide) rfl ?_
              refine J.iload (pc' := 179) rfl rfl rfl ?_
              first | refine J.aload_n (pc' := 180) rfl rfl rfl ?_ | refine J.aload_nN (pc' := 180) rfl rfl rfl ?_
              refine J.mgR (pc' := 183) (t := 149) B rfl fl_X12_124 rfl rfl (by decide) rfl ?_
              refine J.iload (pc' := 185) rfl rfl rfl ?_
              refine J.mald (pc' := 186) B rfl rfl rfl (by omega) (by simp only [jLn]; omega) rfl ?_
              refine J.mast (pc' := 187) B rfl rfl rfl rfl (by omega) (by simp only [jLn]; omega) rfl ?_
              refine J.iinc (pc' := 190) rfl rfl rfl (by decide) ?_
              refine J.goto (tgt := 166) rfl rfl ?_
              refine ih (i + 1) (by omega) _ (G'.u150 (by rw [e1]; omega)) (fun j => by rw [jU_o _ (by decide)]; exact e1 j) (fun j h1 h2 => ?_) _ ⟨rfl, rfl, rfl, rfl, rfl, rfl, trivial⟩
              rw [jU_at]
              split
              · rename_i q9
                rw [q9, e1]
                exact hsi.1
              · exact e2 j h1 (by omega)
        exact cp 6 0 (by omega) W S.1 (fun _ => rfl) (fun j h1 h2 => by omega) _ ⟨rfl, rfl, rfl, rfl, rfl, rfl, trivial⟩
      · omega
  refine J.lc hlv ?_
  first | refine J.aload_n (pc' := 128) rfl rfl rfl ?_ | refine J.aload_nN (pc' := 128) rfl rfl rfl ?_
  refine J.iconst (pc' := 129) rfl rfl ?_
  refine J.callV (pc' := 132) (t := 16) rfl MX12_total ml_X12_318 iv_X12_total (by decide) ⟨_, rfl, rfl⟩ B.1 (cm_total B (by omega) ht) rfl rfl (Nat.le_of_ble_eq_true rfl) (by first | omega | (exact R.r _ _) | (simp only [jM.len_sI, jM.len_sL, jM.len_sR, jM.len_fI, jM.len_fL, jM.len_fR]; omega) | (simp [jM.len_nw, jM.len_sI, jM.len_sL, jM.len_sR, jM.len_fI, jM.len_fL, jM.len_fR, *]; omega)) (by first | omega | (exact R.r _ _) | (simp only [jM.len_sI, jM.len_sL, jM.len_sR, jM.len_fI, jM.len_fL, jM.len_fR]; omega) | (simp [jM.len_nw, jM.len_sI, jM.len_sL, jM.len_sR, jM.len_fI, jM.len_fL, jM.len_fR, *]; omega)) (by first | omega | (exact R.r _ _) | (simp only [jM.len_sI, jM.len_sL, jM.len_sR, jM.len_fI, jM.len_fL, jM.len_fR]; omega) | (simp [jM.len_nw, jM.len_sI, jM.len_sL, jM.len_sR, jM.len_fI, jM.len_fL, jM.len_fR, *]; omega)) rfl rfl ?_ ?_
  · exact fun _ _ h => h
  rintro _ _ ⟨rfl, rfl⟩
  rw [hP 0 (by omega) (by omega)]
  refine J.lstore (pc' := 134) rfl rfl (by decide) ?_
  refine J.lload_n (pc' := 135) rfl rfl rfl ?_
  refine J.ldc2 (pc' := 138) (z := -1) (v := -1) rfl (List.mem_of_getElem? (i := 1827) (by decide +kernel)) (by decide) rfl ?_
  refine J.lcmp (pc' := 139) rfl rfl (by first | omega | (exact R.r _ _) | (simp only [jM.len_sI, jM.len_sL, jM.len_sR, jM.len_fI, jM.len_fL, jM.len_fR]; omega) | (simp [jM.len_nw, jM.len_sI, jM.len_sL, jM.len_sR, jM.len_fI, jM.len_fL, jM.len_fR, *]; omega)) (by first | omega | (exact R.r _ _) | (simp only [jM.len_sI, jM.len_sL, jM.len_sR, jM.len_fI, jM.len_fL, jM.len_fR]; omega) | (simp [jM.len_nw, jM.len_sI, jM.len_sL, jM.len_sR, jM.len_fI, jM.len_fL, jM.len_fR, *]; omega)) ?_
  by_cases q1 : a.1 = -1
  · refine J.if_eq (tgt := 149) (pc' := 142) rfl rfl rfl (by first | omega | (exact R.r _ _) | (simp only [jM.len_sI, jM.len_sL, jM.len_sR, jM.len_fI, jM.len_fL, jM.len_fR]; omega) | (simp [jM.len_nw, jM.len_sI, jM.len_sL, jM.len_sR, jM.len_fI, jM.len_fL, jM.len_fR, *]; omega)) (fun c1 => ?_) (fun c1 => ?_)
    · exact at149 (Or.inl q1)
    · exfalso
      revert c1
      rw [if_neg (by omega), if_pos q1]
      simp
  · refine J.if_eq (tgt := 149) (pc' := 142) rfl rfl rfl (by first | omega | (exact R.r _ _) | (simp only [jM.len_sI, jM.len_sL, jM.len_sR, jM.len_fI, jM.len_fL, jM.len_fR]; omega) | (simp [jM.len_nw, jM.len_sI, jM.len_sL, jM.len_sR, jM.len_fI, jM.len_fL, jM.len_fR, *]; omega)) (fun c1 => ?_) (fun c1 => ?_)
    · exfalso
      revert c1
      rw [if_pos (by omega)]
      decide
    · refine J.lload (pc' := 144) rfl rfl rfl ?_
      refine J.lload_n (pc' := 145) rfl rfl rfl ?_
      refine J.lcmp (pc' := 146) rfl rfl (by first | omega | (exact R.r _ _) | (simp only [jM.len_sI, jM.len_sL, jM.len_sR, jM.len_fI, jM.len_fL, jM.len_fR]; omega) | (simp [jM.len_nw, jM.len_sI, jM.len_sL, jM.len_sR, jM.len_fI, jM.len_fL, jM.len_fR, *]; omega)) (by first | omega | (exact R.r _ _) | (simp only [jM.len_sI, jM.len_sL, jM.len_sR, jM.len_fI, jM.len_fL, jM.len_fR]; omega) | (simp [jM.len_nw, jM.len_sI, jM.len_sL, jM.len_sR, jM.len_fI, jM.len_fL, jM.len_fR, *]; omega)) ?_
      by_cases q2 : totP V tr 0 < a.1
      · refine J.if_ge (tgt := 22) (pc' := 149) rfl rfl rfl (by first | omega | (exact R.r _ _) | (simp only [jM.len_sI, jM.len_sL, jM.len_sR, jM.len_fI, jM.len_fL, jM.len_fR]; omega) | (simp [jM.len_nw, jM.len_sI, jM.len_sL, jM.len_sR, jM.len_fI, jM.len_fL, jM.len_fR, *]; omega)) (fun c2 => ?_) (fun c2 => ?_)
        · exfalso
          revert c2
          rw [if_neg (by omega), if_neg (by omega)]
          decide
        · exact at149 (Or.inr q2)
      · refine J.if_ge (tgt := 22) (pc' := 149) rfl rfl rfl (by first | omega | (exact R.r _ _) | (simp only [jM.len_sI, jM.len_sL, jM.len_sR, jM.len_fI, jM.len_fL, jM.len_fR]; omega) | (simp [jM.len_nw, jM.len_sI, jM.len_sL, jM.len_sR, jM.len_fI, jM.len_fL, jM.len_fR, *]; omega)) (fun c2 => ?_) (fun c2 => ?_)
        · exact no (fun q => by rcases q.1 with z | z; exact q1 z; exact q2 z) _ ⟨rfl, rfl, rfl, rfl, rfl, trivial⟩
        · exfalso
          revert c2
          split
          · simp
          · rw [if_pos (by omega)]
            simp
theorem itF_s (f : Int → Acc → Acc) (t : Int) (m : Nat) (a : Acc) : itF f t (m + 1) a = itF f (t + 1) m (f t a) := rfl
theorem sbS.inn {n g t : Int} {tr : Int → Int} {a : Acc} {W : VV} (S : sbS W V n tr a g) (hW : W 149 g = t) (ht : 0 ≤ t ∧ t ≤ mostP V n g) : sbS W V n (updT tr g t) a (g + 1) := by
  refine ⟨S.1, fun j h1 h2 => ?_, S.2.2.1, S.2.2.2⟩
  unfold updT
  by_cases e : j = g
  · rw [if_pos e, e]
    exact ⟨hW, ht⟩
  · rw [if_neg e]
    exact S.2.1 j h1 (by omega)
theorem sbS.outt {n g t : Int} {tr : Int → Int} {a : Acc} {W : VV} (S : sbS W V n (updT tr g t) a (g + 1)) (hg : 0 ≤ g) : sbS W V n tr a g ∧ W 149 g = t := by
  refine ⟨⟨S.1, fun j h1 h2 => ?_, S.2.2.1, S.2.2.2⟩, ?_⟩
  · have := S.2.1 j h1 (by omega)
    unfold updT at this
    rw [if_neg (by omega)] at this
    exact this
  · have := (S.2.1 g hg (by omega)).1
    unfold updT at this
    rw [if_pos rfl] at this
    exact this
theorem fb_main {n : Int} (B : isB β) (R : isR V) (hn : 1 ≤ n ∧ n ≤ 20) : ∀ d : Nat, d < 6 → ∀ (L : Int) (tr : Int → Int) (a : Acc), 0 ≤ L → L ≤ n →
    (∀ W, sbS W V n tr (dfs V n (d + 1) L tr a) (5 - (d : Int)) → ∀ lv, hasL lv (fbL β n (dfs V n (d + 1) L tr a).1 (5 - (d : Int) - 1) L) → J γ mX12_findBest 3 0 0 0 0 (jP β W) 22 lv [] (fbQ β V n) X0) →
    ∀ W, sbS W V n tr a (5 - (d : Int)) → W 149 (5 - (d : Int)) = -1 → ∀ lv, hasL lv (fbL β n a.1 (5 - (d : Int)) L) → J γ mX12_findBest 3 0 0 0 0 (jP β W) 22 lv [] (fbQ β V n) X0 := by
  intro d
  induction d with
  | zero =>
    intro _ L tr a h0 h1 K W S hW lv hlv
    have hmo : 0 ≤ mostP V n (5 - ((0 : Nat) : Int)) := by have := tons_b R (f := 5 - ((0 : Nat) : Int)); unfold mostP; omega
    have inner : ∀ (m t : Nat), (t : Int) + m = min L (mostP V n (5 - ((0 : Nat) : Int))) + 1 → ∀ a : Acc, (∀ W, sbS W V n tr (itF (fun t a => dfs V n 0 (L - t) (updT tr (5 - ((0 : Nat) : Int)) t) a) t m a) (5 - ((0 : Nat) : Int)) → ∀ lv, hasL lv (fbL β n (itF (fun t a => dfs V n 0 (L - t) (updT tr (5 - ((0 : Nat) : Int)) t) a) t m a).1 (5 - ((0 : Nat) : Int) - 1) L) → J γ mX12_findBest 3 0 0 0 0 (jP β W) 22 lv [] (fbQ β V n) X0) →
        ∀ W, sbS W V n tr a (5 - ((0 : Nat) : Int)) → W 149 (5 - ((0 : Nat) : Int)) = (t : Int) - 1 → ∀ lv, hasL lv (fbL β n a.1 (5 - ((0 : Nat) : Int)) (if t = 0 then L else L - ((t : Int) - 1))) → J γ mX12_findBest 3 0 0 0 0 (jP β W) 22 lv [] (fbQ β V n) X0 := by
      intro m
      induction m with
      | zero =>
        intro t ht a K W S hW lv hlv
        exact fb_step B hn ⟨h0, h1⟩ (by omega) S hW (by omega) (fun _ lv hlv => K _ (S.u149 (by unfold mostP at ht; omega)) lv hlv) (fun q => by omega) hlv
      | succ m ih =>
        intro t ht a K W S hW lv hlv
        rw [itF_s] at K
        refine fb_step B hn ⟨h0, h1⟩ (by omega) S hW (by omega) (fun q => by omega) (fun q lv hlv => ?_) hlv
        have S1 : sbS (jU W 149 (5 - ((0 : Nat) : Int)) t) V n tr a (5 - ((0 : Nat) : Int)) := S.u149 (by unfold mostP at q; omega)
        have S2 := S1.inn (jU_same _ _ _ _) (t := (t : Int)) (by omega)
        have nxt := ih (t + 1) (by omega) (dfs V n 0 (L - t) (updT tr (5 - ((0 : Nat) : Int)) t) a) K
        refine J.lc hlv ?_
        refine J.iload (pc' := 101) rfl rfl rfl ?_
        refine J.iconst (pc' := 102) rfl rfl ?_
        refine J.icmp_ge (tgt := 119) (pc' := 105) rfl rfl rfl (by first | omega | (exact R.r _ _) | (simp only [jM.len_sI, jM.len_sL, jM.len_sR, jM.len_fI, jM.len_fL, jM.len_fR]; omega) | (simp [jM.len_nw, jM.len_sI, jM.len_sL, jM.len_sR, jM.len_fI, jM.len_fL, jM.len_fR, *]; omega)) (by first | omega | (exact R.r _ _) | (simp only [jM.len_sI, jM.len_sL, jM.len_sR, jM.len_fI, jM.len_fL, jM.len_fR]; omega) | (simp [jM.len_nw, jM.len_sI, jM.len_sL, jM.len_sR, jM.len_fI, jM.len_fL, jM.len_fR, *]; omega)) (fun c1 => ?_) (fun c1 => ?_)
        · refine J.iload (pc' := 121) rfl rfl rfl ?_
          refine J.if_le (tgt := 127) (pc' := 124) rfl rfl rfl (by first | omega | (exact R.r _ _) | (simp only [jM.len_sI, jM.len_sL, jM.len_sR, jM.len_fI, jM.len_fL, jM.len_fR]; omega) | (simp [jM.len_nw, jM.len_sI, jM.len_sL, jM.len_sR, jM.len_fI, jM.len_fL, jM.len_fR, *]; omega)) (fun c2 => ?_) (fun c2 => ?_)
          · have e0 : L - t = 0 := by omega
            rw [dfs, if_pos e0] at nxt
            rw [e0]
            refine fb_leaf (left := 0) (tr := updT tr (5 - ((0 : Nat) : Int)) t) B R hn S2 (fun W' S' lv' hlv' => ?_) (lv := _) ⟨rfl, rfl, rfl, rfl, rfl, trivial⟩
            obtain ⟨S3, e3⟩ := S'.outt (by omega)
            refine nxt W' S3 (by rw [e3]; omega) lv' ?_
            rw [if_neg (by omega), show L - (((t + 1 : Nat) : Int) - 1) = 0 by omega]
            exact hlv'
          · rw [dfs, if_neg (by omega)] at nxt
            refine J.goto (tgt := 22) rfl rfl ?_
            refine nxt _ S1 (by rw [jU_same]; omega) _ ⟨rfl, rfl, rfl, rfl, ?_, trivial⟩
            rw [if_neg (by omega), show L - (((t + 1 : Nat) : Int) - 1) = L - t by omega]
            rfl
        · omega
    exact inner (min L (mostP V n (5 - ((0 : Nat) : Int))) + 1).toNat 0 (by omega) a K W S (by rw [hW]; rfl) lv hlv
  | succ d ihd =>
    intro hd L tr a h0 h1 K W S hW lv hlv
    have ihd := ihd (by omega)
    obtain ⟨g, eg⟩ : ∃ g : Int, g = 5 - ((d + 1 : Nat) : Int) := ⟨_, rfl⟩
    have eg1 : 5 - (d : Int) = g + 1 := by omega
    rw [eg1] at ihd
    rw [← eg] at K S hW hlv
    rw [dfs, ← eg] at K
    have hmo : 0 ≤ mostP V n g := by have := tons_b R (f := g); unfold mostP; omega
    have inner : ∀ (m t : Nat), (t : Int) + m = min L (mostP V n g) + 1 → ∀ a : Acc, (∀ W, sbS W V n tr (itF (fun t a => dfs V n (d + 1) (L - t) (updT tr g t) a) t m a) g → ∀ lv, hasL lv (fbL β n (itF (fun t a => dfs V n (d + 1) (L - t) (updT tr g t) a) t m a).1 (g - 1) L) → J γ mX12_findBest 3 0 0 0 0 (jP β W) 22 lv [] (fbQ β V n) X0) →
        ∀ W, sbS W V n tr a g → W 149 g = (t : Int) - 1 → ∀ lv, hasL lv (fbL β n a.1 g (if t = 0 then L else L - ((t : Int) - 1))) → J γ mX12_findBest 3 0 0 0 0 (jP β W) 22 lv [] (fbQ β V n) X0 := by
      intro m
      induction m with
      | zero =>
        intro t ht a K W S hW lv hlv
        exact fb_step B hn ⟨h0, h1⟩ (by omega) S hW (by omega) (fun _ lv hlv => K _ (S.u149 (by unfold mostP at ht; omega)) lv hlv) (fun q => by omega) hlv
      | succ m ih =>
        intro t ht a K W S hW lv hlv
        rw [itF_s] at K
        refine fb_step B hn ⟨h0, h1⟩ (by omega) S hW (by omega) (fun q => by omega) (fun q lv hlv => ?_) hlv
        have S1 : sbS (jU W 149 g t) V n tr a g := S.u149 (by unfold mostP at q; omega)
        have S2 := S1.inn (jU_same _ _ _ _) (t := (t : Int)) (by omega)
        have nxt := ih (t + 1) (by omega) (dfs V n (d + 1) (L - t) (updT tr g t) a) K
        refine J.lc hlv ?_
        refine J.iload (pc' := 101) rfl rfl rfl ?_
        refine J.iconst (pc' := 102) rfl rfl ?_
        refine J.icmp_ge (tgt := 119) (pc' := 105) rfl rfl rfl (by first | omega | (exact R.r _ _) | (simp only [jM.len_sI, jM.len_sL, jM.len_sR, jM.len_fI, jM.len_fL, jM.len_fR]; omega) | (simp [jM.len_nw, jM.len_sI, jM.len_sL, jM.len_sR, jM.len_fI, jM.len_fL, jM.len_fR, *]; omega)) (by first | omega | (exact R.r _ _) | (simp only [jM.len_sI, jM.len_sL, jM.len_sR, jM.len_fI, jM.len_fL, jM.len_fR]; omega) | (simp [jM.len_nw, jM.len_sI, jM.len_sL, jM.len_sR, jM.len_fI, jM.len_fL, jM.len_fR, *]; omega)) (fun c1 => ?_) (fun c1 => ?_)
        · omega
        · refine J.iinc (pc' := 108) rfl rfl rfl (by decide) ?_
          first | refine J.aload_n (pc' := 109) rfl rfl rfl ?_ | refine J.aload_nN (pc' := 109) rfl rfl rfl ?_
          refine J.mgR (pc' := 112) (t := 149) B rfl fl_X12_124 rfl rfl (by decide) rfl ?_
          refine J.iload (pc' := 114) rfl rfl rfl ?_
          refine J.iconst (pc' := 115) rfl rfl ?_
          refine J.mast (pc' := 116) B rfl rfl rfl rfl (by omega) (by simp only [jLn]; omega) rfl ?_
          refine J.goto (tgt := 22) rfl rfl ?_
          refine ihd (L - t) (updT tr g t) a (by omega) (by omega) (fun W' S' lv' hlv' => ?_) _ (S2.u149 (x := -1) (by omega)) (jU_same _ _ _ _) _ ⟨rfl, rfl, rfl, rfl, rfl, trivial⟩
          obtain ⟨S3, e3⟩ := S'.outt (by omega)
          refine nxt W' S3 (by rw [e3]; omega) lv' ?_
          rw [if_neg (by omega), show L - (((t + 1 : Nat) : Int) - 1) = L - t by omega]
          rw [show g + 1 - 1 = g by omega] at hlv'
          exact hlv'
    exact inner (min L (mostP V n g) + 1).toNat 0 (by omega) a K W S (by rw [hW]; rfl) lv hlv
theorem cm_findBest {n : Int} (B : isB β) (R : isR V) (T : isT V) (hn : 1 ≤ n ∧ n ≤ 20) : CT γ mX12_findBest 3 0 0 [.ref (β.2 16), .int (jI n)] (jP β V) (fbQ β V n) X0 := by
  refine CT.of MX12_findBest (Nat.le_of_ble_eq_true rfl) ?_
  show J γ mX12_findBest 3 0 0 0 0 (jP β V) 0 [(0, .ref (β.2 16)), (1, .int (jI n))] [] _ _
  first | refine J.aload_n (pc' := 1) rfl rfl rfl ?_ | refine J.aload_nN (pc' := 1) rfl rfl rfl ?_
  refine J.iload_n (pc' := 2) rfl rfl rfl ?_
  refine J.callV (pc' := 5) (t := 16) rfl MX12_findSums ml_X12_313 iv_X12_findSums (by decide) ⟨_, rfl, rfl⟩ B.1 (cm_findSums B R T hn) rfl rfl (Nat.le_of_ble_eq_true rfl) (by first | omega | (exact R.r _ _) | (simp only [jM.len_sI, jM.len_sL, jM.len_sR, jM.len_fI, jM.len_fL, jM.len_fR]; omega) | (simp [jM.len_nw, jM.len_sI, jM.len_sL, jM.len_sR, jM.len_fI, jM.len_fL, jM.len_fR, *]; omega)) (by first | omega | (exact R.r _ _) | (simp only [jM.len_sI, jM.len_sL, jM.len_sR, jM.len_fI, jM.len_fL, jM.len_fR]; omega) | (simp [jM.len_nw, jM.len_sI, jM.len_sL, jM.len_sR, jM.len_fI, jM.len_fL, jM.len_fR, *]; omega)) (by first | omega | (exact R.r _ _) | (simp only [jM.len_sI, jM.len_sL, jM.len_sR, jM.len_fI, jM.len_fL, jM.len_fR]; omega) | (simp [jM.len_nw, jM.len_sI, jM.len_sL, jM.len_sR, jM.len_fI, jM.len_fL, jM.len_fR, *]; omega)) rfl rfl ?_ ?_
  · exact fun _ _ h => h
  rintro _ _ ⟨rfl, W, G, rfl⟩
  refine J.ldc2 (pc' := 8) (z := -1) (v := -1) rfl (List.mem_of_getElem? (i := 1827) (by decide +kernel)) (by decide) rfl ?_
  refine J.lstore_n (pc' := 9) rfl rfl (by decide) ?_
  refine J.iconst (pc' := 10) rfl rfl ?_
  refine J.istore (pc' := 12) rfl rfl (by decide) ?_
  refine J.iload_n (pc' := 13) rfl rfl rfl ?_
  refine J.istore (pc' := 15) rfl rfl (by decide) ?_
  first | refine J.aload_n (pc' := 16) rfl rfl rfl ?_ | refine J.aload_nN (pc' := 16) rfl rfl rfl ?_
  refine J.mgR (pc' := 19) (t := 149) B rfl fl_X12_124 rfl rfl (by decide) rfl ?_
  refine J.iconst (pc' := 20) rfl rfl ?_
  refine J.iconst (pc' := 21) rfl rfl ?_
  refine J.mast (pc' := 22) B rfl rfl rfl rfl (by omega) (by simp only [jLn]; omega) rfl ?_
  refine fb_main B R hn 5 (by omega) n (fun _ => 0) (-1, fun _ => 0) (by omega) (by omega) (fun W' S' lv' hlv' => ?_) _ ⟨G.u149 (by omega), fun j h1 h2 => by omega, Or.inl rfl, by decide⟩ (jU_same _ _ _ _) _ ⟨rfl, rfl, rfl, rfl, rfl, trivial⟩
  have S' : sbS W' V n (fun _ => 0) (bestP V n) (5 - ((5 : Nat) : Int)) := S'
  have hlv' : hasL lv' (fbL β n (bestP V n).1 (5 - ((5 : Nat) : Int) - 1) n) := hlv'
  have sb := S'.2.2.2
  refine J.lc hlv' ?_
  refine J.iload (pc' := 24) rfl rfl rfl ?_
  refine J.if_lt (tgt := 196) (pc' := 27) rfl rfl rfl (by first | omega | (exact R.r _ _) | (simp only [jM.len_sI, jM.len_sL, jM.len_sR, jM.len_fI, jM.len_fL, jM.len_fR]; omega) | (simp [jM.len_nw, jM.len_sI, jM.len_sL, jM.len_sR, jM.len_fI, jM.len_fL, jM.len_fR, *]; omega)) (fun c1 => ?_) (fun c1 => ?_)
  · refine J.lload_n (pc' := 197) rfl rfl rfl ?_
    refine J.lret rfl rfl (by first | omega | (exact R.r _ _) | (simp only [jM.len_sI, jM.len_sL, jM.len_sR, jM.len_fI, jM.len_fL, jM.len_fR]; omega) | (simp [jM.len_nw, jM.len_sI, jM.len_sL, jM.len_sR, jM.len_fI, jM.len_fL, jM.len_fR, *]; omega)) (by first | omega | (exact R.r _ _) | (simp only [jM.len_sI, jM.len_sL, jM.len_sR, jM.len_fI, jM.len_fL, jM.len_fR]; omega) | (simp [jM.len_nw, jM.len_sI, jM.len_sL, jM.len_sR, jM.len_fI, jM.len_fL, jM.len_fR, *]; omega)) ?_
    exact ⟨rfl, W', S'.1.1, S'.1.2.1, S'.2.2.1, sb, rfl⟩
  · omega
def sp_bestR (V : VV) (n : Int) : Int := (bestP V n).1
end M12

