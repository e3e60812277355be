/-- sum i of what is tried -/
def tot (W : VV) (i : Int) : Int := Sm (fun h => W 151 (11 * (21 * h + W 149 h) + i)) 6
def gdB (W : VV) (n m : Int) : Bool := decide (W 146 m * n ≤ tot W (1 + m)) && decide (tot W (6 + m) ≤ W 147 m * n)
theorem allB_st {f : Int → Bool} {a : Int} {n : Nat} (h : allB f a n = false) (k : Nat) : allB f a (n + k) = false := by
  induction k with
  | zero => exact h
  | succ k ih => rw [show n + (k + 1) = (n + k) + 1 by omega, allB, ih, Bool.false_and]
theorem allB_cg {f g : Int → Bool} {a : Int} {n : Nat} (h : ∀ i : Nat, i < n → f (a + i) = g (a + i)) : allB f a n = allB g a n := by
  induction n with
  | zero => rfl
  | succ n ih => rw [allB, allB, ih (fun i hi => h i (by omega)), h n (by omega)]
section M10
variable {γ : jG} {β : jB} {V W : VV}
theorem cm_total {i : Int} (B : isB β) (hi : 0 ≤ i ∧ i < 11) (ht : ∀ h, 0 ≤ h → h < 6 → 0 ≤ W 149 h ∧ W 149 h ≤ 20) : CT γ mX12_total 1 0 0 [.ref (β.2 16), .int (jI i)] (jP β W) (fun r h' => r = some (.long (jL (tot W i))) ∧ h' = jP β W) X0 := by
  refine CT.of MX12_total (Nat.le_of_ble_eq_true rfl) ?_
  show J γ mX12_total 1 0 0 0 0 (jP β W) 0 [(0, .ref (β.2 16)), (1, .int (jI i))] [] _ _
  refine J.lconst (pc' := 1) rfl rfl ?_
  refine J.lstore_n (pc' := 2) rfl rfl (by decide) ?_
  refine J.iconst (pc' := 3) rfl rfl ?_
  refine J.istore (pc' := 5) rfl rfl (by decide) ?_
  have key : ∀ (m g : Nat), g + m = 6 → J γ mX12_total 1 0 0 0 0 (jP β W) 5 [(0, .ref (β.2 16)), (1, .int (jI i)), (2, .long (jL (Sm (fun h => W 151 (11 * (21 * h + W 149 h) + i)) g))), (4, .int (jI (g : Int)))] [] (fun r h' => r = some (.long (jL (tot W i))) ∧ h' = jP β W) X0 := by
    intro m
    induction m with
    | zero =>
      intro g hg
      refine J.iload (pc' := 7) rfl rfl rfl ?_
      refine J.bipush (pc' := 9) rfl rfl (by decide) ?_
      refine J.icmp_ge (tgt := 40) (pc' := 12) rfl rfl rfl (by first | omega | (exact R.r _ _) | (simp only [jM.len_sI, jM.len_sL, jM.len_sR, jM.len_fI, jM.len_fL, jM.len_fR]; omega) | (simp [jM.len_nw, jM.len_sI, jM.len_sL, jM.len_sR, jM.len_fI, jM.len_fL, jM.len_fR, *]; omega)) (by first | omega | (exact R.r _ _) | (simp only [jM.len_sI, jM.len_sL, jM.len_sR, jM.len_fI, jM.len_fL, jM.len_fR]; omega) | (simp [jM.len_nw, jM.len_sI, jM.len_sL, jM.len_sR, jM.len_fI, jM.len_fL, jM.len_fR, *]; omega)) (fun c1 => ?_) (fun c1 => ?_)
      · refine J.lload_n (pc' := 41) rfl rfl rfl ?_
        refine J.lret rfl rfl (by first | omega | (exact R.r _ _) | (simp only [jM.len_sI, jM.len_sL, jM.len_sR, jM.len_fI, jM.len_fL, jM.len_fR]; omega) | (simp [jM.len_nw, jM.len_sI, jM.len_sL, jM.len_sR, jM.len_fI, jM.len_fL, jM.len_fR, *]; omega)) (by first | omega | (exact R.r _ _) | (simp only [jM.len_sI, jM.len_sL, jM.len_sR, jM.len_fI, jM.len_fL, jM.len_fR]; omega) | (simp [jM.len_nw, jM.len_sI, jM.len_sL, jM.len_sR, jM.len_fI, jM.len_fL, jM.len_fR, *]; omega)) ?_
        exact ⟨by rw [tot, show g = 6 by omega], rfl⟩
      · omega
    | succ m ih =>
      intro g hg
      have h9 := ih (g + 1) (by omega)
      rw [Sm, show ((g + 1 : Nat) : Int) = (g : Int) + 1 by omega] at h9
      have h1 := ht g (by omega) (by omega)
      refine J.iload (pc' := 7) rfl rfl rfl ?_
      refine J.bipush (pc' := 9) rfl rfl (by decide) ?_
      refine J.icmp_ge (tgt := 40) (pc' := 12) rfl rfl rfl (by first | omega | (exact R.r _ _) | (simp only [jM.len_sI, jM.len_sL, jM.len_sR, jM.len_fI, jM.len_fL, jM.len_fR]; omega) | (simp [jM.len_nw, jM.len_sI, jM.len_sL, jM.len_sR, jM.len_fI, jM.len_fL, jM.len_fR, *]; omega)) (by first | omega | (exact R.r _ _) | (simp only [jM.len_sI, jM.len_sL, jM.len_sR, jM.len_fI, jM.len_fL, jM.len_fR]; omega) | (simp [jM.len_nw, jM.len_sI, jM.len_sL, jM.len_sR, jM.len_fI, jM.len_fL, jM.len_fR, *]; omega)) (fun c1 => ?_) (fun c1 => ?_)
      · omega
      · refine J.lload_n (pc' := 13) rfl rfl rfl ?_
        first | refine J.aload_n (pc' := 14) rfl rfl rfl ?_ | refine J.aload_nN (pc' := 14) rfl rfl rfl ?_
        refine J.mgR (pc' := 17) (t := 151) B rfl fl_X12_130 rfl rfl (by decide) rfl ?_
        refine J.iload (pc' := 19) rfl rfl rfl ?_
        first | refine J.aload_n (pc' := 20) rfl rfl rfl ?_ | refine J.aload_nN (pc' := 20) rfl rfl rfl ?_
        refine J.mgR (pc' := 23) (t := 149) B rfl fl_X12_124 rfl rfl (by decide) rfl ?_
        refine J.iload (pc' := 25) rfl rfl rfl ?_
        refine J.mald (pc' := 26) B rfl rfl rfl (by omega) (by simp only [jLn]; omega) rfl ?_
        refine J.callS (pc' := 29) rfl MX12_sumAt ml_X12_310 is_X12_sumAt cm_sumAt rfl rfl (Nat.le_of_ble_eq_true rfl) (by first | omega | (exact R.r _ _) | (simp only [jM.len_sI, jM.len_sL, jM.len_sR, jM.len_fI, jM.len_fL, jM.len_fR]; omega) | (simp [jM.len_nw, jM.len_sI, jM.len_sL, jM.len_sR, jM.len_fI, jM.len_fL, jM.len_fR, *]; omega)) (by first | omega | (exact R.r _ _) | (simp only [jM.len_sI, jM.len_sL, jM.len_sR, jM.len_fI, jM.len_fL, jM.len_fR]; omega) | (simp [jM.len_nw, jM.len_sI, jM.len_sL, jM.len_sR, jM.len_fI, jM.len_fL, jM.len_fR, *]; omega)) (by first | omega | (exact R.r _ _) | (simp only [jM.len_sI, jM.len_sL, jM.len_sR, jM.len_fI, jM.len_fL, jM.len_fR]; omega) | (simp [jM.len_nw, jM.len_sI, jM.len_sL, jM.len_sR, jM.len_fI, jM.len_fL, jM.len_fR, *]; omega)) rfl rfl ?_ ?_
        · exact fun _ _ h => h
        rintro _ _ ⟨rfl, rfl⟩
        refine J.iload_n (pc' := 30) rfl rfl rfl ?_
        refine J.iadd (pc' := 31) rfl rfl ?_
        refine J.mlald (pc' := 32) B rfl rfl rfl (by omega) (by simp only [jLn]; omega) rfl ?_
        refine J.ladd (pc' := 33) rfl rfl ?_
        refine J.lstore_n (pc' := 34) rfl rfl (by decide) ?_
        refine J.iinc (pc' := 37) rfl rfl rfl (by decide) ?_
        refine J.goto (tgt := 5) rfl rfl ?_
        exact h9
  exact key 6 0 (by omega)
theorem cm_isGood {n : Int} (B : isB β) (R : isR W) (hn : 0 ≤ n ∧ n ≤ 20) (ht : ∀ h, 0 ≤ h → h < 6 → 0 ≤ W 149 h ∧ W 149 h ≤ 20) (hb : ∀ i, 0 ≤ i → i < 11 → 0 ≤ tot W i ∧ tot W i ≤ 12000000) : CT γ mX12_isGood 2 0 0 [.ref (β.2 16), .int (jI n)] (jP β W) (fun r h' => r = some (.int (jI (b2i (allB (gdB W n) 0 5)))) ∧ h' = jP β W) X0 := by
  refine CT.of MX12_isGood (Nat.le_of_ble_eq_true rfl) ?_
  show J γ mX12_isGood 2 0 0 0 0 (jP β W) 0 [(0, .ref (β.2 16)), (1, .int (jI n))] [] _ _
  refine J.iconst (pc' := 1) rfl rfl ?_
  refine J.istore_n (pc' := 2) rfl rfl (by decide) ?_
  refine J.iconst (pc' := 3) rfl rfl ?_
  refine J.istore_n (pc' := 4) rfl rfl (by decide) ?_
  have key : ∀ (m i : Nat), i + m = 5 → J γ mX12_isGood 2 0 0 0 0 (jP β W) 4 [(0, .ref (β.2 16)), (1, .int (jI n)), (2, .int (jI (b2i (allB (gdB W n) 0 i)))), (3, .int (jI (i : Int)))] [] (fun r h' => r = some (.int (jI (b2i (allB (gdB W n) 0 5)))) ∧ h' = jP β W) X0 := by
    intro m
    induction m with
    | zero =>
      intro i hi
      have e5 : i = 5 := by omega
      subst e5
      have bz : r32 (b2i (allB (gdB W n) 0 5)) := by cases allB (gdB W n) 0 5 <;> decide
      refine J.iload_n (pc' := 5) rfl rfl rfl ?_
      refine J.iconst (pc' := 6) rfl rfl ?_
      refine J.icmp_ge (tgt := 68) (pc' := 9) rfl rfl rfl (by first | omega | (exact R.r _ _) | (simp only [jM.len_sI, jM.len_sL, jM.len_sR, jM.len_fI, jM.len_fL, jM.len_fR]; omega) | (simp [jM.len_nw, jM.len_sI, jM.len_sL, jM.len_sR, jM.len_fI, jM.len_fL, jM.len_fR, *]; omega)) (by first | omega | (exact R.r _ _) | (simp only [jM.len_sI, jM.len_sL, jM.len_sR, jM.len_fI, jM.len_fL, jM.len_fR]; omega) | (simp [jM.len_nw, jM.len_sI, jM.len_sL, jM.len_sR, jM.len_fI, jM.len_fL, jM.len_fR, *]; omega)) (fun c1 => ?_) (fun c1 => ?_)
      · refine J.iload_n (pc' := 69) rfl rfl rfl ?_
        refine J.zret rfl rfl (by cases allB (gdB W n) 0 5 <;> rfl) (by first | omega | (exact R.r _ _) | (simp only [jM.len_sI, jM.len_sL, jM.len_sR, jM.len_fI, jM.len_fL, jM.len_fR]; omega) | (simp [jM.len_nw, jM.len_sI, jM.len_sL, jM.len_sR, jM.len_fI, jM.len_fL, jM.len_fR, *]; omega)) (by first | omega | (exact R.r _ _) | (simp only [jM.len_sI, jM.len_sL, jM.len_sR, jM.len_fI, jM.len_fL, jM.len_fR]; omega) | (simp [jM.len_nw, jM.len_sI, jM.len_sL, jM.len_sR, jM.len_fI, jM.len_fL, jM.len_fR, *]; omega)) ?_
        exact ⟨rfl, rfl⟩
      · omega
    | succ m ih =>
      intro i hi
      have h9 := ih (i + 1) (by omega)
      rw [allB, show ((i + 1 : Nat) : Int) = (i : Int) + 1 by omega] at h9
      have hst := fun q => allB_st (f := gdB W n) (a := 0) (n := i) q (m + 1)
      rw [show i + (m + 1) = 5 by omega] at hst
      refine J.iload_n (pc' := 5) rfl rfl rfl ?_
      refine J.iconst (pc' := 6) rfl rfl ?_
      refine J.icmp_ge (tgt := 68) (pc' := 9) rfl rfl rfl (by first | omega | (exact R.r _ _) | (simp only [jM.len_sI, jM.len_sL, jM.len_sR, jM.len_fI, jM.len_fL, jM.len_fR]; omega) | (simp [jM.len_nw, jM.len_sI, jM.len_sL, jM.len_sR, jM.len_fI, jM.len_fL, jM.len_fR, *]; omega)) (by first | omega | (exact R.r _ _) | (simp only [jM.len_sI, jM.len_sL, jM.len_sR, jM.len_fI, jM.len_fL, jM.len_fR]; omega) | (simp [jM.len_nw, jM.len_sI, jM.len_sL, jM.len_sR, jM.len_fI, jM.len_fL, jM.len_fR, *]; omega)) (fun c1 => ?_) (fun c1 => ?_)
      · omega
      · cases hA : allB (gdB W n) 0 i with
        | false =>
          rw [hst hA]
          simp only [b2i, cond_false]
          refine J.iload_n (pc' := 10) rfl rfl rfl ?_
          refine J.if_eq (tgt := 68) (pc' := 13) rfl rfl rfl (by first | omega | (exact R.r _ _) | (simp only [jM.len_sI, jM.len_sL, jM.len_sR, jM.len_fI, jM.len_fL, jM.len_fR]; omega) | (simp [jM.len_nw, jM.len_sI, jM.len_sL, jM.len_sR, jM.len_fI, jM.len_fL, jM.len_fR, *]; omega)) (fun c2 => ?_) (fun c2 => ?_)
          · refine J.iload_n (pc' := 69) rfl rfl rfl ?_
            refine J.zret rfl rfl (by rfl) (by first | omega | (exact R.r _ _) | (simp only [jM.len_sI, jM.len_sL, jM.len_sR, jM.len_fI, jM.len_fL, jM.len_fR]; omega) | (simp [jM.len_nw, jM.len_sI, jM.len_sL, jM.len_sR, jM.len_fI, jM.len_fL, jM.len_fR, *]; omega)) (by first | omega | (exact R.r _ _) | (simp only [jM.len_sI, jM.len_sL, jM.len_sR, jM.len_fI, jM.len_fL, jM.len_fR]; omega) | (simp [jM.len_nw, jM.len_sI, jM.len_sL, jM.len_sR, jM.len_fI, jM.len_fL, jM.len_fR, *]; omega)) ?_
            exact ⟨rfl, rfl⟩
          · omega
        | true =>
          rw [hA, Bool.true_and, Int.zero_add] at h9
          simp only [b2i, cond_true]
          have r1 := R 146 i rfl
          have r2 := R 147 i rfl
          simp [jLo, jHi] at r1 r2
          have p1 := mul_b (A := 10000) (C := 20) r1 hn
          have p2 := mul_b (A := 10000) (C := 20) r2 hn
          have t1 := hb (1 + i) (by omega) (by omega)
          have t2 := hb (6 + i) (by omega) (by omega)
          refine J.iload_n (pc' := 10) rfl rfl rfl ?_
          refine J.if_eq (tgt := 68) (pc' := 13) rfl rfl rfl (by first | omega | (exact R.r _ _) | (simp only [jM.len_sI, jM.len_sL, jM.len_sR, jM.len_fI, jM.len_fL, jM.len_fR]; omega) | (simp [jM.len_nw, jM.len_sI, jM.len_sL, jM.len_sR, jM.len_fI, jM.len_fL, jM.len_fR, *]; omega)) (fun c2 => ?_) (fun c2 => ?_)
          · omega
          · first | refine J.aload_n (pc' := 14) rfl rfl rfl ?_ | refine J.aload_nN (pc' := 14) rfl rfl rfl ?_
            refine J.iconst (pc' := 15) rfl rfl ?_
            refine J.iload_n (pc' := 16) rfl rfl rfl ?_
            refine J.iadd (pc' := 17) rfl rfl ?_
            refine J.callV (pc' := 20) (t := 16) rfl MX12_total ml_X12_318 iv_X12_total (by decide) ⟨_, rfl, rfl⟩ B.1 (cm_total B (by omega) ht) rfl rfl (Nat.le_of_ble_eq_true rfl) (by first | omega | (exact R.r _ _) | (simp only [jM.len_sI, jM.len_sL, jM.len_sR, jM.len_fI, jM.len_fL, jM.len_fR]; omega) | (simp [jM.len_nw, jM.len_sI, jM.len_sL, jM.len_sR, jM.len_fI, jM.len_fL, jM.len_fR, *]; omega)) (by first | omega | (exact R.r _ _) | (simp only [jM.len_sI, jM.len_sL, jM.len_sR, jM.len_fI, jM.len_fL, jM.len_fR]; omega) | (simp [jM.len_nw, jM.len_sI, jM.len_sL, jM.len_sR, jM.len_fI, jM.len_fL, jM.len_fR, *]; omega)) (by first | omega | (exact R.r _ _) | (simp only [jM.len_sI, jM.len_sL, jM.len_sR, jM.len_fI, jM.len_fL, jM.len_fR]; omega) | (simp [jM.len_nw, jM.len_sI, jM.len_sL, jM.len_sR, jM.len_fI, jM.len_fL, jM.len_fR, *]; omega)) rfl rfl ?_ ?_
            · exact fun _ _ h => h
            rintro _ _ ⟨rfl, rfl⟩
            first | refine J.aload_n (pc' := 21) rfl rfl rfl ?_ | refine J.aload_nN (pc' := 21) rfl rfl rfl ?_
            refine J.mgR (pc' := 24) (t := 146) B rfl fl_X12_115 rfl rfl (by decide) rfl ?_
            refine J.iload_n (pc' := 25) rfl rfl rfl ?_
            refine J.mald (pc' := 26) B rfl rfl rfl (by omega) (by simp only [jLn]; omega) rfl ?_
            refine J.i2l (pc' := 27) rfl rfl (by first | omega | (exact R.r _ _) | (simp only [jM.len_sI, jM.len_sL, jM.len_sR, jM.len_fI, jM.len_fL, jM.len_fR]; omega) | (simp [jM.len_nw, jM.len_sI, jM.len_sL, jM.len_sR, jM.len_fI, jM.len_fL, jM.len_fR, *]; omega)) ?_
            refine J.iload_n (pc' := 28) rfl rfl rfl ?_
            refine J.i2l (pc' := 29) rfl rfl (by first | omega | (exact R.r _ _) | (simp only [jM.len_sI, jM.len_sL, jM.len_sR, jM.len_fI, jM.len_fL, jM.len_fR]; omega) | (simp [jM.len_nw, jM.len_sI, jM.len_sL, jM.len_sR, jM.len_fI, jM.len_fL, jM.len_fR, *]; omega)) ?_
            refine J.lmul (pc' := 30) rfl rfl ?_
            by_cases q1 : W 146 i * n ≤ tot W (1 + i)
            · refine J.lcmp (pc' := 31) rfl rfl (by first | omega | (exact R.r _ _) | (simp only [jM.len_sI, jM.len_sL, jM.len_sR, jM.len_fI, jM.len_fL, jM.len_fR]; omega) | (simp [jM.len_nw, jM.len_sI, jM.len_sL, jM.len_sR, jM.len_fI, jM.len_fL, jM.len_fR, *]; omega)) (by first | omega | (exact R.r _ _) | (simp only [jM.len_sI, jM.len_sL, jM.len_sR, jM.len_fI, jM.len_fL, jM.len_fR]; omega) | (simp [jM.len_nw, jM.len_sI, jM.len_sL, jM.len_sR, jM.len_fI, jM.len_fL, jM.len_fR, *]; omega)) ?_
              refine J.if_lt (tgt := 60) (pc' := 34) rfl rfl rfl (by first | omega | (exact R.r _ _) | (simp only [jM.len_sI, jM.len_sL, jM.len_sR, jM.len_fI, jM.len_fL, jM.len_fR]; omega) | (simp [jM.len_nw, jM.len_sI, jM.len_sL, jM.len_sR, jM.len_fI, jM.len_fL, jM.len_fR, *]; omega)) (fun c3 => ?_) (fun c3 => ?_)
              · exfalso
                revert c3
                split
                · omega
                · split <;> omega
              · first | refine J.aload_n (pc' := 35) rfl rfl rfl ?_ | refine J.aload_nN (pc' := 35) rfl rfl rfl ?_
                refine J.bipush (pc' := 37) rfl rfl (by decide) ?_
                refine J.iload_n (pc' := 38) rfl rfl rfl ?_
                refine J.iadd (pc' := 39) rfl rfl ?_
                refine J.callV (pc' := 42) (t := 16) rfl MX12_total ml_X12_318 iv_X12_total (by decide) ⟨_, rfl, rfl⟩ B.1 (cm_total B (by omega) ht) rfl rfl (Nat.le_of_ble_eq_true rfl) (by first | omega | (exact R.r _ _) | (simp only [jM.len_sI, jM.len_sL, jM.len_sR, jM.len_fI, jM.len_fL, jM.len_fR]; omega) | (simp [jM.len_nw, jM.len_sI, jM.len_sL, jM.len_sR, jM.len_fI, jM.len_fL, jM.len_fR, *]; omega)) (by first | omega | (exact R.r _ _) | (simp only [jM.len_sI, jM.len_sL, jM.len_sR, jM.len_fI, jM.len_fL, jM.len_fR]; omega) | (simp [jM.len_nw, jM.len_sI, jM.len_sL, jM.len_sR, jM.len_fI, jM.len_fL, jM.len_fR, *]; omega)) (by first | omega | (exact R.r _ _) | (simp only [jM.len_sI, jM.len_sL, jM.len_sR, jM.len_fI, jM.len_fL, jM.len_fR]; omega) | (simp [jM.len_nw, jM.len_sI, jM.len_sL, jM.len_sR, jM.len_fI, jM.len_fL, jM.len_fR, *]; omega)) rfl rfl ?_ ?_
                · exact fun _ _ h => h
                rintro _ _ ⟨rfl, rfl⟩
                first | refine J.aload_n (pc' := 43) rfl rfl rfl ?_ | refine J.aload_nN (pc' := 43) rfl rfl rfl ?_
                refine J.mgR (pc' := 46) (t := 147) B rfl fl_X12_118 rfl rfl (by decide) rfl ?_
                refine J.iload_n (pc' := 47) rfl rfl rfl ?_
                refine J.mald (pc' := 48) B rfl rfl rfl (by omega) (by simp only [jLn]; omega) rfl ?_
                refine J.i2l (pc' := 49) rfl rfl (by first | omega | (exact R.r _ _) | (simp only [jM.len_sI, jM.len_sL, jM.len_sR, jM.len_fI, jM.len_fL, jM.len_fR]; omega) | (simp [jM.len_nw, jM.len_sI, jM.len_sL, jM.len_sR, jM.len_fI, jM.len_fL, jM.len_fR, *]; omega)) ?_
                refine J.iload_n (pc' := 50) rfl rfl rfl ?_
                refine J.i2l (pc' := 51) rfl rfl (by first | omega | (exact R.r _ _) | (simp only [jM.len_sI, jM.len_sL, jM.len_sR, jM.len_fI, jM.len_fL, jM.len_fR]; omega) | (simp [jM.len_nw, jM.len_sI, jM.len_sL, jM.len_sR, jM.len_fI, jM.len_fL, jM.len_fR, *]; omega)) ?_
                refine J.lmul (pc' := 52) rfl rfl ?_
                by_cases q2 : tot W (6 + i) ≤ W 147 i * n
                · refine J.lcmp (pc' := 53) rfl rfl (by first | omega | (exact R.r _ _) | (simp only [jM.len_sI, jM.len_sL, jM.len_sR, jM.len_fI, jM.len_fL, jM.len_fR]; omega) | (simp [jM.len_nw, jM.len_sI, jM.len_sL, jM.len_sR, jM.len_fI, jM.len_fL, jM.len_fR, *]; omega)) (by first | omega | (exact R.r _ _) | (simp only [jM.len_sI, jM.len_sL, jM.len_sR, jM.len_fI, jM.len_fL, jM.len_fR]; omega) | (simp [jM.len_nw, jM.len_sI, jM.len_sL, jM.len_sR, jM.len_fI, jM.len_fL, jM.len_fR, *]; omega)) ?_
                  refine J.if_gt (tgt := 60) (pc' := 56) rfl rfl rfl (by first | omega | (exact R.r _ _) | (simp only [jM.len_sI, jM.len_sL, jM.len_sR, jM.len_fI, jM.len_fL, jM.len_fR]; omega) | (simp [jM.len_nw, jM.len_sI, jM.len_sL, jM.len_sR, jM.len_fI, jM.len_fL, jM.len_fR, *]; omega)) (fun c4 => ?_) (fun c4 => ?_)
                  · exfalso
                    revert c4
                    split
                    · omega
                    · split <;> omega
                  · refine J.iconst (pc' := 57) rfl rfl ?_
                    refine J.goto (tgt := 61) rfl rfl ?_
                    refine J.istore_n (pc' := 62) rfl rfl (by decide) ?_
                    refine J.iinc (pc' := 65) rfl rfl rfl (by decide) ?_
                    refine J.goto (tgt := 4) rfl rfl ?_
                    rw [gdB, decide_eq_true q1, decide_eq_true q2] at h9
                    exact h9
                · refine J.lcmp (pc' := 53) rfl rfl (by first | omega | (exact R.r _ _) | (simp only [jM.len_sI, jM.len_sL, jM.len_sR, jM.len_fI, jM.len_fL, jM.len_fR]; omega) | (simp [jM.len_nw, jM.len_sI, jM.len_sL, jM.len_sR, jM.len_fI, jM.len_fL, jM.len_fR, *]; omega)) (by first | omega | (exact R.r _ _) | (simp only [jM.len_sI, jM.len_sL, jM.len_sR, jM.len_fI, jM.len_fL, jM.len_fR]; omega) | (simp [jM.len_nw, jM.len_sI, jM.len_sL, jM.len_sR, jM.len_fI, jM.len_fL, jM.len_fR, *]; omega)) ?_
                  refine J.if_gt (tgt := 60) (pc' := 56) rfl rfl rfl (by first | omega | (exact R.r _ _) | (simp only [jM.len_sI, jM.len_sL, jM.len_sR, jM.len_fI, jM.len_fL, jM.len_fR]; omega) | (simp [jM.len_nw, jM.len_sI, jM.len_sL, jM.len_sR, jM.len_fI, jM.len_fL, jM.len_fR, *]; omega)) (fun c4 => ?_) (fun c4 => ?_)
                  · refine J.iconst (pc' := 61) rfl rfl ?_
                    refine J.istore_n (pc' := 62) rfl rfl (by decide) ?_
                    refine J.iinc (pc' := 65) rfl rfl rfl (by decide) ?_
                    refine J.goto (tgt := 4) rfl rfl ?_
                    rw [gdB, decide_eq_false q2, Bool.and_false] at h9
                    exact h9
                  · exfalso
                    revert c4
                    split
                    · omega
                    · split <;> omega
            · refine J.lcmp (pc' := 31) rfl rfl (by first | omega | (exact R.r _ _) | (simp only [jM.len_sI, jM.len_sL, jM.len_sR, jM.len_fI, jM.len_fL, jM.len_fR]; omega) | (simp [jM.len_nw, jM.len_sI, jM.len_sL, jM.len_sR, jM.len_fI, jM.len_fL, jM.len_fR, *]; omega)) (by first | omega | (exact R.r _ _) | (simp only [jM.len_sI, jM.len_sL, jM.len_sR, jM.len_fI, jM.len_fL, jM.len_fR]; omega) | (simp [jM.len_nw, jM.len_sI, jM.len_sL, jM.len_sR, jM.len_fI, jM.len_fL, jM.len_fR, *]; omega)) ?_
              refine J.if_lt (tgt := 60) (pc' := 34) rfl rfl rfl (by first | omega | (exact R.r _ _) | (simp only [jM.len_sI, jM.len_sL, jM.len_sR, jM.len_fI, jM.len_fL, jM.len_fR]; omega) | (simp [jM.len_nw, jM.len_sI, jM.len_sL, jM.len_sR, jM.len_fI, jM.len_fL, jM.len_fR, *]; omega)) (fun c3 => ?_) (fun c3 => ?_)
              · refine J.iconst (pc' := 61) rfl rfl ?_
                refine J.istore_n (pc' := 62) rfl rfl (by decide) ?_
                refine J.iinc (pc' := 65) rfl rfl rfl (by decide) ?_
                refine J.goto (tgt := 4) rfl rfl ?_
                rw [gdB, decide_eq_false q1, Bool.false_and] at h9
                exact h9
              · exfalso
                revert c3
                split
                · omega
                · split <;> omega
  exact key 5 0 (by omega)
end M10
/-- the search: what was best so far and its tons -/
abbrev Acc : Type := Int × (Int → Int)
def updT (tr : Int → Int) (g t : Int) : Int → Int := fun j => if j = g then t else tr j
def itF (f : Int → Acc → Acc) : Int → Nat → Acc → Acc
  | _, 0, a => a
  | t, m + 1, a => itF f (t + 1) m (f t a)
def totP (V : VV) (tr : Int → Int) (i : Int) : Int := Sm (fun h => gs V h i (tr h).toNat) 6
def gdP (V : VV) (n : Int) (tr : Int → Int) (m : Int) : Bool := decide (V 146 m * n ≤ totP V tr (1 + m)) && decide (totP V tr (6 + m) ≤ V 147 m * n)
def goodP (V : VV) (n : Int) (tr : Int → Int) : Bool := allB (gdP V n tr) 0 5
def leafP (V : VV) (n : Int) (tr : Int → Int) (a : Acc) : Acc := if (a.1 = -1 ∨ totP V tr 0 < a.1) ∧ goodP V n tr = true then (totP V tr 0, tr) else a
def mostP (V : VV) (n g : Int) : Int := min (tonsOf V g) n
def dfs (V : VV) (n : Int) : Nat → Int → (Int → Int) → Acc → Acc
  | 0, L, tr, a => if L = 0 then leafP V n tr a else a
  | d + 1, L, tr, a => itF (fun t a => dfs V n d (L - t) (updT tr (5 - (d : Int)) t) a) 0 (min L (mostP V n (5 - (d : Int))) + 1).toNat a
def bestP (V : VV) (n : Int) : Acc := dfs V n 6 n (fun _ => 0) (-1, fun _ => 0)
def sbS (W V : VV) (n : Int) (tr : Int → Int) (a : Acc) (g : Int) : Prop := fsG W V n 6 ∧ (∀ j, 0 ≤ j → j < g → W 149 j = tr j ∧ 0 ≤ tr j ∧ tr j ≤ mostP V n j) ∧ (a.1 = -1 ∨ ∀ j, 0 ≤ j → j < 6 → W 150 j = a.2 j) ∧ -1 ≤ a.1 ∧ a.1 ≤ 12000000
def fbQ (β : jB) (V : VV) (n : Int) : Option Value → jM → Prop := fun r h' => r = some (.long (jL (bestP V n).1)) ∧ ∃ W, isR W ∧ scr W V ∧ ((bestP V n).1 = -1 ∨ ∀ j, 0 ≤ j → j < 6 → W 150 j = (bestP V n).2 j) ∧ (-1 ≤ (bestP V n).1 ∧ (bestP V n).1 ≤ 12000000) ∧ h' = jP β W
section M11
variable {γ : jG} {β : jB} {V W : VV}
theorem fsG.u149 {n g x : Int} (G : fsG W V n 6) (hx : -1 ≤ x ∧ x ≤ 21) : fsG (jU W 149 g x) V n 6 :=
  ⟨G.1.up (fun _ => hx), G.2.1.up (by omega), fun g' a b => ⟨by rw [jU_o _ (by decide)]; exact (G.2.2 g' a b).1, fun t i h1 h2 h3 => by rw [jU_o _ (by decide)]; exact (G.2.2 g' a b).2 t i h1 h2 h3⟩⟩
theorem fsG.u150 {n g x : Int} (G : fsG W V n 6) (hx : 0 ≤ x ∧ x ≤ 20) : fsG (jU W 150 g x) V n 6 :=
  ⟨G.1.up (fun _ => hx), G.2.1.up (by omega), fun g' a b => ⟨by rw [jU_o _ (by decide)]; exact (G.2.2 g' a b).1, fun t i h1 h2 h3 => by rw [jU_o _ (by decide)]; exact (G.2.2 g' a b).2 t i h1 h2 h3⟩⟩
theorem sbS.u149 {n g x : Int} {tr : Int → Int} {a : Acc} (S : sbS W V n tr a g) (hx : -1 ≤ x ∧ x ≤ 21) : sbS (jU W 149 g x) V n tr a g :=
  ⟨S.1.u149 hx, fun j h1 h2 => by rw [jU_i _ (by omega)]; exact S.2.1 j h1 h2, by rcases S.2.2.1 with q | q; exact Or.inl q; exact Or.inr (fun j h1 h2 => by rw [jU_o _ (by decide)]; exact q j h1 h2), S.2.2.2⟩
theorem tot_P {n i : Int} {tr : Int → Int} (G : fsG W V n 6) (hi : 0 ≤ i ∧ i < 11) (ht : ∀ j, 0 ≤ j → j < 6 → W 149 j = tr j ∧ 0 ≤ tr j ∧ tr j ≤ mostP V n j) : tot W i = totP V tr i := by
  refine Sm_cg (fun j hj => ?_)
  obtain ⟨h1, h2, h3⟩ := ht j (by omega) (by omega)
  have h4 := (G.2.2 j (by omega) (by omega)).2 (tr j).toNat i (by unfold mostP at h3; omega) hi.1 hi.2
  rw [show (((tr j).toNat : Nat) : Int) = tr j by omega] at h4
  show W 151 (11 * (21 * (j : Int) + W 149 j) + i) = _
  rw [h1, h4]
theorem totP_b {n : Int} {tr : Int → Int} (R : isR V) (hn : n ≤ 20) (i : Int) (ht : ∀ j, 0 ≤ j → j < 6 → 0 ≤ tr j ∧ tr j ≤ mostP V n j) : 0 ≤ totP V tr i ∧ totP V tr i ≤ 12000000 := by
  have h := Sm_le (f := fun h => gs V h i (tr h).toNat) (n := 6) (a := 0) (b := 1999980) (fun j hj => by
    have h1 := gs_b R j i (tr j).toNat
    have h2 := ht j (by omega) (by omega)
    unfold mostP at h2
    show 0 ≤ gs V j i (tr j).toNat ∧ gs V j i (tr j).toNat ≤ 1999980
    omega)
  unfold totP
  omega
end M11

