/-- the locals are at least these -/
def hasL (lv : List (Nat × Value)) : List (Nat × Value) → Prop
  | [] => True
  | q :: t => jGet lv q.1 = some q.2 ∧ hasL lv t
theorem hasL.all {lv : List (Nat × Value)} : ∀ {lv' : List (Nat × Value)}, hasL lv lv' → ∀ q ∈ lv', jGet lv q.1 = some q.2
  | [], _, q, hq => nomatch hq
  | x :: t, h, q, hq => by
    rcases List.mem_cons.mp hq with e | e
    · rw [e]; exact h.1
    · exact hasL.all h.2 q e
theorem J.lc {γ : jG} {μ : jMth} {f mc ms cells slots : Nat} {h : jM} {pc : Nat} {lv lv' : List (Nat × Value)} {st : List Value} {Q : Option Value → jM → Prop} {X : String → jM → Prop} (hs : hasL lv lv') (kk : J γ μ f mc ms cells slots h pc lv' st Q X) : J γ μ f mc ms cells slots h pc lv st Q X := J.locs hs.all kk
def fsH (W V : VV) (n h : Int) : Prop := ∀ g, 0 ≤ g → g < h → W 148 g = min (tonsOf V g) n ∧ ∀ (t : Nat) (i : Int), (t : Int) ≤ min (tonsOf V g) n → 0 ≤ i → i < 11 → W 151 (11 * (21 * g + t) + i) = gs V g i t
def fsG (W V : VV) (n h : Int) : Prop := isR W ∧ scr W V ∧ fsH W V n h
def fsQ (β : jB) (V : VV) (n : Int) : Option Value → jM → Prop := fun r h' => r = none ∧ ∃ W, fsG W V n 6 ∧ h' = jP β W
theorem fsG.up {W V : VV} {n h t i x : Int} (G : fsG W V n h) (hn : n ≤ 20) (ht : 0 ≤ t ∧ t ≤ 20) (hi : 0 ≤ i ∧ i < 11) : fsG (jU W 151 (11 * (21 * h + t) + i) x) V n h := by
  refine ⟨G.1.up (fun q => by cases q), G.2.1.up (by omega), fun g g0 g1 => ?_⟩
  obtain ⟨a, b⟩ := G.2.2 g g0 g1
  refine ⟨by rw [jU_o _ (by decide)]; exact a, fun t' i' h1 h2 h3 => ?_⟩
  rw [jU_i _ (by omega)]
  exact b t' i' h1 h2 h3
section M9
variable {γ : jG} {β : jB} {V : VV}
theorem cm_sumAt {g t : Int} {h : jM} : CT γ mX12_sumAt 0 0 0 [.int (jI g), .int (jI t)] h (fun r h' => r = some (.int (jI (11 * (21 * g + t)))) ∧ h' = h) X0 := by
  refine CT.of MX12_sumAt (Nat.le_of_ble_eq_true rfl) ?_
  show J γ mX12_sumAt 0 0 0 0 0 h 0 [(0, .int (jI g)), (1, .int (jI t))] [] _ _
  refine J.bipush (pc' := 2) rfl rfl (by decide) ?_
  refine J.bipush (pc' := 4) rfl rfl (by decide) ?_
  refine J.iload_n (pc' := 5) rfl rfl rfl ?_
  refine J.imul (pc' := 6) rfl rfl ?_
  refine J.iload_n (pc' := 7) rfl rfl rfl ?_
  refine J.iadd (pc' := 8) rfl rfl ?_
  refine J.imul (pc' := 9) rfl rfl ?_
  refine J.iret rfl rfl (by first | omega | (exact R.r _ _) | (simp only [jM.len_sI, jM.len_sL, jM.len_sR, jM.len_fI, jM.len_fL, jM.len_fR]; omega) | (simp [jM.len_nw, jM.len_sI, jM.len_sL, jM.len_sR, jM.len_fI, jM.len_fL, jM.len_fR, *]; omega)) (by first | omega | (exact R.r _ _) | (simp only [jM.len_sI, jM.len_sL, jM.len_sR, jM.len_fI, jM.len_fL, jM.len_fR]; omega) | (simp [jM.len_nw, jM.len_sI, jM.len_sL, jM.len_sR, jM.len_fI, jM.len_fL, jM.len_fR, *]; omega)) ?_
  exact ⟨rfl, rfl⟩
set_option maxHeartbeats 1000000 in
theorem cm_findSums {n : Int} (B : isB β) (R : isR V) (T : isT V) (hn : 1 ≤ n ∧ n ≤ 20) : CT γ mX12_findSums 1 0 0 [.ref (β.2 16), .int (jI n)] (jP β V) (fsQ β V n) X0 := by
  refine CT.of MX12_findSums (Nat.le_of_ble_eq_true rfl) ?_
  show J γ mX12_findSums 1 0 0 0 0 (jP β V) 0 [(0, .ref (β.2 16)), (1, .int (jI n))] [] _ _
  refine J.iconst (pc' := 1) rfl rfl ?_
  refine J.istore_n (pc' := 2) rfl rfl (by decide) ?_
  have key : ∀ (m g : Nat), g + m = 6 → ∀ W, fsG W V n g → ∀ lv, hasL lv [(0, .ref (β.2 16)), (1, .int (jI n)), (2, .int (jI (g : Int)))] → J γ mX12_findSums 1 0 0 0 0 (jP β W) 2 lv [] (fsQ β V n) X0 := by
    intro m
    induction m with
    | zero =>
      intro g hg W G lv hlv
      refine J.lc hlv ?_
      refine J.iload_n (pc' := 3) rfl rfl rfl ?_
      refine J.bipush (pc' := 5) rfl rfl (by decide) ?_
      refine J.icmp_ge (tgt := 258) (pc' := 8) rfl rfl rfl (by first | omega | (exact R.r _ _) | (simp only [jM.len_sI, jM.len_sL, jM.len_sR, jM.len_fI, jM.len_fL, jM.len_fR]; omega) | (simp [jM.len_nw, jM.len_sI, jM.len_sL, jM.len_sR, jM.len_fI, jM.len_fL, jM.len_fR, *]; omega)) (by first | omega | (exact R.r _ _) | (simp only [jM.len_sI, jM.len_sL, jM.len_sR, jM.len_fI, jM.len_fL, jM.len_fR]; omega) | (simp [jM.len_nw, jM.len_sI, jM.len_sL, jM.len_sR, jM.len_fI, jM.len_fL, jM.len_fR, *]; omega)) (fun c1 => ?_) (fun c1 => ?_)
      · refine J.vret rfl rfl (by first | omega | (exact R.r _ _) | (simp only [jM.len_sI, jM.len_sL, jM.len_sR, jM.len_fI, jM.len_fL, jM.len_fR]; omega) | (simp [jM.len_nw, jM.len_sI, jM.len_sL, jM.len_sR, jM.len_fI, jM.len_fL, jM.len_fR, *]; omega)) (by first | omega | (exact R.r _ _) | (simp only [jM.len_sI, jM.len_sL, jM.len_sR, jM.len_fI, jM.len_fL, jM.len_fR]; omega) | (simp [jM.len_nw, jM.len_sI, jM.len_sL, jM.len_sR, jM.len_fI, jM.len_fL, jM.len_fR, *]; omega)) ?_
        refine ⟨rfl, W, ?_, rfl⟩
        rw [show (g : Int) = 6 by omega] at G
        exact G
      · omega
    | succ m ih =>
      intro g hg W G lv hlv
      have hto := tons_b R (f := (g : Int))
      have hmg := R 138 g rfl
      simp [jLo, jHi] at hmg
      have hT : ∀ j : Int, 0 ≤ j → j < V 138 g → 1 ≤ V 139 (41 * g + j) := fun j h1 h2 => T g j (by omega) (by omega) h1 h2
      refine J.lc hlv ?_
      refine J.iload_n (pc' := 3) rfl rfl rfl ?_
      refine J.bipush (pc' := 5) rfl rfl (by decide) ?_
      refine J.icmp_ge (tgt := 258) (pc' := 8) rfl rfl rfl (by first | omega | (exact R.r _ _) | (simp only [jM.len_sI, jM.len_sL, jM.len_sR, jM.len_fI, jM.len_fL, jM.len_fR]; omega) | (simp [jM.len_nw, jM.len_sI, jM.len_sL, jM.len_sR, jM.len_fI, jM.len_fL, jM.len_fR, *]; omega)) (by first | omega | (exact R.r _ _) | (simp only [jM.len_sI, jM.len_sL, jM.len_sR, jM.len_fI, jM.len_fL, jM.len_fR]; omega) | (simp [jM.len_nw, jM.len_sI, jM.len_sL, jM.len_sR, jM.len_fI, jM.len_fL, jM.len_fR, *]; omega)) (fun c1 => ?_) (fun c1 => ?_)
      · omega
      · first | refine J.aload_n (pc' := 9) rfl rfl rfl ?_ | refine J.aload_nN (pc' := 9) rfl rfl rfl ?_
        refine J.iload_n (pc' := 10) rfl rfl rfl ?_
        refine J.callV (pc' := 13) (t := 16) rfl MX12_tonsOf ml_X12_300 iv_X12_tonsOf (by decide) ⟨_, rfl, rfl⟩ B.1 (cm_tonsOf B G.1 (by omega)) rfl rfl (Nat.le_of_ble_eq_true rfl) (by first | omega | (exact R.r _ _) | (simp only [jM.len_sI, jM.len_sL, jM.len_sR, jM.len_fI, jM.len_fL, jM.len_fR]; omega) | (simp [jM.len_nw, jM.len_sI, jM.len_sL, jM.len_sR, jM.len_fI, jM.len_fL, jM.len_fR, *]; omega)) (by first | omega | (exact R.r _ _) | (simp only [jM.len_sI, jM.len_sL, jM.len_sR, jM.len_fI, jM.len_fL, jM.len_fR]; omega) | (simp [jM.len_nw, jM.len_sI, jM.len_sL, jM.len_sR, jM.len_fI, jM.len_fL, jM.len_fR, *]; omega)) (by first | omega | (exact R.r _ _) | (simp only [jM.len_sI, jM.len_sL, jM.len_sR, jM.len_fI, jM.len_fL, jM.len_fR]; omega) | (simp [jM.len_nw, jM.len_sI, jM.len_sL, jM.len_sR, jM.len_fI, jM.len_fL, jM.len_fR, *]; omega)) rfl rfl ?_ ?_
        · exact fun _ _ h => h
        rintro _ _ ⟨rfl, rfl⟩
        rw [scr_tonsOf G.2.1]
        have at29 : ∀ v : Int, v = min (tonsOf V g) n → J γ mX12_findSums 1 0 0 0 0 (jP β W) 29 [(0, .ref (β.2 16)), (1, .int (jI n)), (2, .int (jI (g : Int))), (3, .int (jI (tonsOf V g)))] [.int (jI v), .int (jI (g : Int)), .ref (β.2 148)] (fsQ β V n) X0 := by
          intro v hv
          have G0 : fsG (jU W 148 g v) V n g := ⟨G.1.up (fun _ => by show (0 : Int) ≤ v ∧ v ≤ 20; omega), G.2.1.up (by omega), fun g' a b => by
            obtain ⟨q1, q2⟩ := G.2.2 g' a b
            exact ⟨by rw [jU_i _ (by omega)]; exact q1, fun t i h1 h2 h3 => by rw [jU_o _ (by decide)]; exact q2 t i h1 h2 h3⟩⟩
          have tl : ∀ (m t : Nat), (t : Int) + m = v → ∀ W', fsG W' V n g → W' 148 g = v → (∀ (t' : Nat) (i : Int), t' ≤ t → 0 ≤ i → i < 11 → W' 151 (11 * (21 * (g : Int) + t') + i) = gs V g i t') → ∀ lv, hasL lv [(0, .ref (β.2 16)), (1, .int (jI n)), (2, .int (jI (g : Int))), (4, .int (jI (tk V g t).1)), (5, .int (jI (tk V g t).2)), (6, .int (jI ((t : Int) + 1)))] → J γ mX12_findSums 1 0 0 0 0 (jP β W') 76 lv [] (fsQ β V n) X0 := by
            intro m
            induction m with
            | zero =>
              intro t ht W' G' hv' hr lv hlv
              refine J.lc hlv ?_
              refine J.iload (pc' := 78) rfl rfl rfl ?_
              first | refine J.aload_n (pc' := 79) rfl rfl rfl ?_ | refine J.aload_nN (pc' := 79) rfl rfl rfl ?_
              refine J.mgR (pc' := 82) (t := 148) B rfl fl_X12_121 rfl rfl (by decide) rfl ?_
              refine J.iload_n (pc' := 83) rfl rfl rfl ?_
              refine J.mald (pc' := 84) B rfl rfl rfl (by omega) (by simp only [jLn]; omega) rfl ?_
              rw [hv']
              refine J.icmp_gt (tgt := 252) (pc' := 87) rfl rfl rfl (by first | omega | (exact R.r _ _) | (simp only [jM.len_sI, jM.len_sL, jM.len_sR, jM.len_fI, jM.len_fL, jM.len_fR]; omega) | (simp [jM.len_nw, jM.len_sI, jM.len_sL, jM.len_sR, jM.len_fI, jM.len_fL, jM.len_fR, *]; omega)) (by first | omega | (exact R.r _ _) | (simp only [jM.len_sI, jM.len_sL, jM.len_sR, jM.len_fI, jM.len_fL, jM.len_fR]; omega) | (simp [jM.len_nw, jM.len_sI, jM.len_sL, jM.len_sR, jM.len_fI, jM.len_fL, jM.len_fR, *]; omega)) (fun c2 => ?_) (fun c2 => ?_)
              · refine J.iinc (pc' := 255) rfl rfl rfl (by decide) ?_
                refine J.goto (tgt := 2) rfl rfl ?_
                refine ih (g + 1) (by omega) W' ⟨G'.1, G'.2.1, fun g' a b => ?_⟩ _ ⟨rfl, rfl, rfl, trivial⟩
                rcases (by omega : g' < (g : Int) ∨ g' = (g : Int)) with q | q
                · exact G'.2.2 g' a q
                · subst q
                  exact ⟨by rw [hv', hv], fun t' i h1 h2 h3 => hr t' i (by omega) h2 h3⟩
              · omega
            | succ m ih2 =>
              intro t ht W' G' hv' hr lv hlv
              obtain ⟨tb1, tb2, tb3, tb4, tb5⟩ := tk_b hmg.1 hT t (by omega)
              have tb0 := tk_0 hmg.1 hT (t := t) (by omega)
              have ih3 := ih2 (t + 1) (by omega)
              rw [tk] at ih3
              have hgs : ∀ i, gs V g i (t + 1) = gs V g i t + sv11 V (41 * g + (tk V g t).1) i := fun i => rfl
              generalize tk V g t = k at tb1 tb2 tb3 tb4 tb0 ih3 hgs hlv
              refine J.lc hlv ?_
              refine J.iload (pc' := 78) rfl rfl rfl ?_
              first | refine J.aload_n (pc' := 79) rfl rfl rfl ?_ | refine J.aload_nN (pc' := 79) rfl rfl rfl ?_
              refine J.mgR (pc' := 82) (t := 148) B rfl fl_X12_121 rfl rfl (by decide) rfl ?_
              refine J.iload_n (pc' := 83) rfl rfl rfl ?_
              refine J.mald (pc' := 84) B rfl rfl rfl (by omega) (by simp only [jLn]; omega) rfl ?_
              rw [hv']
              refine J.icmp_gt (tgt := 252) (pc' := 87) rfl rfl rfl (by first | omega | (exact R.r _ _) | (simp only [jM.len_sI, jM.len_sL, jM.len_sR, jM.len_fI, jM.len_fL, jM.len_fR]; omega) | (simp [jM.len_nw, jM.len_sI, jM.len_sL, jM.len_sR, jM.len_fI, jM.len_fL, jM.len_fR, *]; omega)) (by first | omega | (exact R.r _ _) | (simp only [jM.len_sI, jM.len_sL, jM.len_sR, jM.len_fI, jM.len_fL, jM.len_fR]; omega) | (simp [jM.len_nw, jM.len_sI, jM.len_sL, jM.len_sR, jM.len_fI, jM.len_fL, jM.len_fR, *]; omega)) (fun c2 => ?_) (fun c2 => ?_)
              · omega
              · refine J.bipush (pc' := 89) rfl rfl (by decide) ?_
                refine J.iload_n (pc' := 90) rfl rfl rfl ?_
                refine J.imul (pc' := 91) rfl rfl ?_
                refine J.iload (pc' := 93) rfl rfl rfl ?_
                refine J.iadd (pc' := 94) rfl rfl ?_
                refine J.istore (pc' := 96) rfl rfl (by decide) ?_
                refine J.iload_n (pc' := 97) rfl rfl rfl ?_
                refine J.iload (pc' := 99) rfl rfl rfl ?_
                refine J.callS (pc' := 102) rfl MX12_sumAt ml_X12_310 is_X12_sumAt cm_sumAt rfl rfl (Nat.le_of_ble_eq_true rfl) (by first | omega | (exact R.r _ _) | (simp only [jM.len_sI, jM.len_sL, jM.len_sR, jM.len_fI, jM.len_fL, jM.len_fR]; omega) | (simp [jM.len_nw, jM.len_sI, jM.len_sL, jM.len_sR, jM.len_fI, jM.len_fL, jM.len_fR, *]; omega)) (by first | omega | (exact R.r _ _) | (simp only [jM.len_sI, jM.len_sL, jM.len_sR, jM.len_fI, jM.len_fL, jM.len_fR]; omega) | (simp [jM.len_nw, jM.len_sI, jM.len_sL, jM.len_sR, jM.len_fI, jM.len_fL, jM.len_fR, *]; omega)) (by first | omega | (exact R.r _ _) | (simp only [jM.len_sI, jM.len_sL, jM.len_sR, jM.len_fI, jM.len_fL, jM.len_fR]; omega) | (simp [jM.len_nw, jM.len_sI, jM.len_sL, jM.len_sR, jM.len_fI, jM.len_fL, jM.len_fR, *]; omega)) rfl rfl ?_ ?_
                · exact fun _ _ h => h
                rintro _ _ ⟨rfl, rfl⟩
                refine J.istore (pc' := 104) rfl rfl (by decide) ?_
                refine J.iload_n (pc' := 105) rfl rfl rfl ?_
                refine J.iload (pc' := 107) rfl rfl rfl ?_
                refine J.iconst (pc' := 108) rfl rfl ?_
                refine J.isub (pc' := 109) rfl rfl ?_
                refine J.callS (pc' := 112) rfl MX12_sumAt ml_X12_310 is_X12_sumAt cm_sumAt rfl rfl (Nat.le_of_ble_eq_true rfl) (by first | omega | (exact R.r _ _) | (simp only [jM.len_sI, jM.len_sL, jM.len_sR, jM.len_fI, jM.len_fL, jM.len_fR]; omega) | (simp [jM.len_nw, jM.len_sI, jM.len_sL, jM.len_sR, jM.len_fI, jM.len_fL, jM.len_fR, *]; omega)) (by first | omega | (exact R.r _ _) | (simp only [jM.len_sI, jM.len_sL, jM.len_sR, jM.len_fI, jM.len_fL, jM.len_fR]; omega) | (simp [jM.len_nw, jM.len_sI, jM.len_sL, jM.len_sR, jM.len_fI, jM.len_fL, jM.len_fR, *]; omega)) (by first | omega | (exact R.r _ _) | (simp only [jM.len_sI, jM.len_sL, jM.len_sR, jM.len_fI, jM.len_fL, jM.len_fR]; omega) | (simp [jM.len_nw, jM.len_sI, jM.len_sL, jM.len_sR, jM.len_fI, jM.len_fL, jM.len_fR, *]; omega)) rfl rfl ?_ ?_
                · exact fun _ _ h => h
                rintro _ _ ⟨rfl, rfl⟩
                have R' := G'.1
                have e41 : W' 141 (41 * (g : Int) + k.1) = V 141 (41 * (g : Int) + k.1) := G'.2.1 _ _ (by omega)
                refine J.istore (pc' := 114) rfl rfl (by decide) ?_
                first | refine J.aload_n (pc' := 115) rfl rfl rfl ?_ | refine J.aload_nN (pc' := 115) rfl rfl rfl ?_
                refine J.mgR (pc' := 118) (t := 151) B rfl fl_X12_130 rfl rfl (by decide) rfl ?_
                refine J.iload (pc' := 120) rfl rfl rfl ?_
                first | refine J.aload_n (pc' := 121) rfl rfl rfl ?_ | refine J.aload_nN (pc' := 121) rfl rfl rfl ?_
                refine J.mgR (pc' := 124) (t := 151) B rfl fl_X12_130 rfl rfl (by decide) rfl ?_
                refine J.iload (pc' := 126) rfl rfl rfl ?_
                refine J.mlald (pc' := 127) B rfl rfl rfl (by omega) (by simp only [jLn]; omega) rfl ?_
                first | refine J.aload_n (pc' := 128) rfl rfl rfl ?_ | refine J.aload_nN (pc' := 128) rfl rfl rfl ?_
                refine J.mgR (pc' := 131) (t := 141) B rfl fl_X12_100 rfl rfl (by decide) rfl ?_
                refine J.iload (pc' := 133) rfl rfl rfl ?_
                refine J.mald (pc' := 134) B rfl rfl rfl (by omega) (by simp only [jLn]; omega) rfl ?_
                rw [e41]
                refine J.i2l (pc' := 135) rfl rfl (by first | omega | (exact R.r _ _) | (simp only [jM.len_sI, jM.len_sL, jM.len_sR, jM.len_fI, jM.len_fL, jM.len_fR]; omega) | (simp [jM.len_nw, jM.len_sI, jM.len_sL, jM.len_sR, jM.len_fI, jM.len_fL, jM.len_fR, *]; omega)) ?_
                refine J.ladd (pc' := 136) rfl rfl ?_
                refine J.mlast (pc' := 137) B rfl rfl rfl rfl (by omega) (by simp only [jLn]; omega) rfl ?_
                refine J.iconst (pc' := 138) rfl rfl ?_
                refine J.istore (pc' := 140) rfl rfl (by decide) ?_
                have e0 := hr t 0 (Nat.le_refl _) (by omega) (by omega)
                rw [show 11 * (21 * (g : Int) + ((t : Int) + 1 - 1)) = 11 * (21 * (g : Int) + (t : Int)) + 0 by omega, e0, show 11 * (21 * (g : Int) + ((t : Int) + 1)) = 11 * (21 * (g : Int) + ((t : Int) + 1)) + 0 by omega]
                have ml : ∀ (m i : Nat), i + m = 5 → ∀ W2, fsG W2 V n g → W2 148 g = v → (∀ (t' : Nat) (j : Int), t' ≤ t → 0 ≤ j → j < 11 → W2 151 (11 * (21 * (g : Int) + t') + j) = gs V g j t') → W2 151 (11 * (21 * (g : Int) + ((t : Int) + 1)) + 0) = gs V g 0 (t + 1) → (∀ j : Int, 0 ≤ j → j < i → W2 151 (11 * (21 * (g : Int) + ((t : Int) + 1)) + (1 + j)) = gs V g (1 + j) (t + 1) ∧ W2 151 (11 * (21 * (g : Int) + ((t : Int) + 1)) + (6 + j)) = gs V g (6 + j) (t + 1)) → ∀ lv, hasL lv [(0, .ref (β.2 16)), (1, .int (jI n)), (2, .int (jI (g : Int))), (4, .int (jI k.1)), (5, .int (jI k.2)), (6, .int (jI ((t : Int) + 1))), (7, .int (jI (41 * (g : Int) + k.1))), (8, .int (jI (11 * (21 * (g : Int) + ((t : Int) + 1)) + 0))), (9, .int (jI (11 * (21 * (g : Int) + (t : Int)) + 0))), (10, .int (jI (i : Int)))] → J γ mX12_findSums 1 0 0 0 0 (jP β W2) 140 lv [] (fsQ β V n) X0 := by
                  intro m
                  induction m with
                  | zero =>
                    intro i hi W2 G2 v2 hr2 h02 hm2 lv hlv
                    have e39 : W2 139 (41 * (g : Int) + k.1) = V 139 (41 * (g : Int) + k.1) := G2.2.1 _ _ (by omega)
                    have r39 := R 139 (41 * (g : Int) + k.1) rfl
                    simp [jLo, jHi] at r39
                    have row : ∀ (t' : Nat) (j : Int), t' ≤ t + 1 → 0 ≤ j → j < 11 → W2 151 (11 * (21 * (g : Int) + t') + j) = gs V g j t' := by
                      intro t' j a b c
                      rcases (by omega : t' ≤ t ∨ t' = t + 1) with q | q
                      · exact hr2 t' j q b c
                      · subst q
                        rw [show ((t + 1 : Nat) : Int) = (t : Int) + 1 by omega]
                        rcases (by omega : j = 0 ∨ (1 ≤ j ∧ j < 6) ∨ 6 ≤ j) with z | z | z
                        · rw [z]; exact h02
                        · have := (hm2 (j - 1) (by omega) (by omega)).1
                          rw [show 1 + (j - 1) = j by omega] at this
                          exact this
                        · have := (hm2 (j - 6) (by omega) (by omega)).2
                          rw [show 6 + (j - 6) = j by omega] at this
                          exact this
                    refine J.lc hlv ?_
                    refine J.iload (pc' := 142) rfl rfl rfl ?_
                    refine J.iconst (pc' := 143) rfl rfl ?_
                    refine J.icmp_ge (tgt := 222) (pc' := 146) rfl rfl rfl (by first | omega | (exact R.r _ _) | (simp only [jM.len_sI, jM.len_sL, jM.len_sR, jM.len_fI, jM.len_fL, jM.len_fR]; omega) | (simp [jM.len_nw, jM.len_sI, jM.len_sL, jM.len_sR, jM.len_fI, jM.len_fL, jM.len_fR, *]; omega)) (by first | omega | (exact R.r _ _) | (simp only [jM.len_sI, jM.len_sL, jM.len_sR, jM.len_fI, jM.len_fL, jM.len_fR]; omega) | (simp [jM.len_nw, jM.len_sI, jM.len_sL, jM.len_sR, jM.len_fI, jM.len_fL, jM.len_fR, *]; omega)) (fun c3 => ?_) (fun c3 => ?_)
                    · refine J.iinc (pc' := 225) rfl rfl rfl (by decide) ?_
                      refine J.iload (pc' := 227) rfl rfl rfl ?_
                      first | refine J.aload_n (pc' := 228) rfl rfl rfl ?_ | refine J.aload_nN (pc' := 228) rfl rfl rfl ?_
                      refine J.mgR (pc' := 231) (t := 139) B rfl fl_X12_94 rfl rfl (by decide) rfl ?_
                      refine J.iload (pc' := 233) rfl rfl rfl ?_
                      refine J.mald (pc' := 234) B rfl rfl rfl (by omega) (by simp only [jLn]; omega) rfl ?_
                      rw [e39]
                      have ih4 := ih3 W2 G2 v2 row
                      rw [show ((t + 1 : Nat) : Int) = (t : Int) + 1 by omega] at ih4
                      refine J.icmp_ge (tgt := 240) (pc' := 237) rfl rfl rfl (by first | omega | (exact R.r _ _) | (simp only [jM.len_sI, jM.len_sL, jM.len_sR, jM.len_fI, jM.len_fL, jM.len_fR]; omega) | (simp [jM.len_nw, jM.len_sI, jM.len_sL, jM.len_sR, jM.len_fI, jM.len_fL, jM.len_fR, *]; omega)) (by first | omega | (exact R.r _ _) | (simp only [jM.len_sI, jM.len_sL, jM.len_sR, jM.len_fI, jM.len_fL, jM.len_fR]; omega) | (simp [jM.len_nw, jM.len_sI, jM.len_sL, jM.len_sR, jM.len_fI, jM.len_fL, jM.len_fR, *]; omega)) (fun c4 => ?_) (fun c4 => ?_)
                      · rw [if_neg (by omega)] at ih4
                        refine J.iinc (pc' := 243) rfl rfl rfl (by decide) ?_
                        refine J.iconst (pc' := 244) rfl rfl ?_
                        refine J.istore (pc' := 246) rfl rfl (by decide) ?_
                        refine J.iinc (pc' := 249) rfl rfl rfl (by decide) ?_
                        refine J.goto (tgt := 76) rfl rfl ?_
                        exact ih4 _ ⟨rfl, rfl, rfl, by rw [show k.1 - 1 = k.1 + -1 by omega]; rfl, rfl, rfl, trivial⟩
                      · rw [if_pos (by omega)] at ih4
                        refine J.goto (tgt := 246) rfl rfl ?_
                        refine J.iinc (pc' := 249) rfl rfl rfl (by decide) ?_
                        refine J.goto (tgt := 76) rfl rfl ?_
                        exact ih4 _ ⟨rfl, rfl, rfl, rfl, rfl, rfl, trivial⟩
                    · omega
                  | succ m ih5 =>
                    intro i hi W2 G2 v2 hr2 h02 hm2 lv hlv
                    refine J.lc hlv ?_
                    refine J.iload (pc' := 142) rfl rfl rfl ?_
                    refine J.iconst (pc' := 143) rfl rfl ?_
                    refine J.icmp_ge (tgt := 222) (pc' := 146) rfl rfl rfl (by first | omega | (exact R.r _ _) | (simp only [jM.len_sI, jM.len_sL, jM.len_sR, jM.len_fI, jM.len_fL, jM.len_fR]; omega) | (simp [jM.len_nw, jM.len_sI, jM.len_sL, jM.len_sR, jM.len_fI, jM.len_fL, jM.len_fR, *]; omega)) (by first | omega | (exact R.r _ _) | (simp only [jM.len_sI, jM.len_sL, jM.len_sR, jM.len_fI, jM.len_fL, jM.len_fR]; omega) | (simp [jM.len_nw, jM.len_sI, jM.len_sL, jM.len_sR, jM.len_fI, jM.len_fL, jM.len_fR, *]; omega)) (fun c3 => ?_) (fun c3 => ?_)
                    · omega
                    · have el : lowL W2 (41 * (g : Int) + k.1) i = lowL V (41 * (g : Int) + k.1) i := scr_lowL G2.2.1 _ _
                      have eh : highL W2 (41 * (g : Int) + k.1) i = highL V (41 * (g : Int) + k.1) i := scr_highL G2.2.1 _ _
                      have lb := lowL_b R (41 * (g : Int) + k.1) i
                      have b1 := hr2 t (1 + i) (Nat.le_refl _) (by omega) (by omega)
                      have b2 := hr2 t (6 + i) (Nat.le_refl _) (by omega) (by omega)
                      first | refine J.aload_n (pc' := 147) rfl rfl rfl ?_ | refine J.aload_nN (pc' := 147) rfl rfl rfl ?_
                      refine J.mgR (pc' := 150) (t := 151) B rfl fl_X12_130 rfl rfl (by decide) rfl ?_
                      refine J.iload (pc' := 152) rfl rfl rfl ?_
                      refine J.iconst (pc' := 153) rfl rfl ?_
                      refine J.iadd (pc' := 154) rfl rfl ?_
                      refine J.iload (pc' := 156) rfl rfl rfl ?_
                      refine J.iadd (pc' := 157) rfl rfl ?_
                      first | refine J.aload_n (pc' := 158) rfl rfl rfl ?_ | refine J.aload_nN (pc' := 158) rfl rfl rfl ?_
                      refine J.mgR (pc' := 161) (t := 151) B rfl fl_X12_130 rfl rfl (by decide) rfl ?_
                      refine J.iload (pc' := 163) rfl rfl rfl ?_
                      refine J.iconst (pc' := 164) rfl rfl ?_
                      refine J.iadd (pc' := 165) rfl rfl ?_
                      refine J.iload (pc' := 167) rfl rfl rfl ?_
                      refine J.iadd (pc' := 168) rfl rfl ?_
                      refine J.mlald (pc' := 169) B rfl rfl rfl (by omega) (by simp only [jLn]; omega) rfl ?_
                      first | refine J.aload_n (pc' := 170) rfl rfl rfl ?_ | refine J.aload_nN (pc' := 170) rfl rfl rfl ?_
                      refine J.iload (pc' := 172) rfl rfl rfl ?_
                      refine J.iload (pc' := 174) rfl rfl rfl ?_
                      refine J.callV (pc' := 177) (t := 16) rfl MX12_lowOfLayer ml_X12_304 iv_X12_lowOfLayer (by decide) ⟨_, rfl, rfl⟩ B.1 (cm_lowL B G2.1 (by omega) (by omega)) rfl rfl (Nat.le_of_ble_eq_true rfl) (by first | omega | (exact R.r _ _) | (simp only [jM.len_sI, jM.len_sL, jM.len_sR, jM.len_fI, jM.len_fL, jM.len_fR]; omega) | (simp [jM.len_nw, jM.len_sI, jM.len_sL, jM.len_sR, jM.len_fI, jM.len_fL, jM.len_fR, *]; omega)) (by first | omega | (exact R.r _ _) | (simp only [jM.len_sI, jM.len_sL, jM.len_sR, jM.len_fI, jM.len_fL, jM.len_fR]; omega) | (simp [jM.len_nw, jM.len_sI, jM.len_sL, jM.len_sR, jM.len_fI, jM.len_fL, jM.len_fR, *]; omega)) (by first | omega | (exact R.r _ _) | (simp only [jM.len_sI, jM.len_sL, jM.len_sR, jM.len_fI, jM.len_fL, jM.len_fR]; omega) | (simp [jM.len_nw, jM.len_sI, jM.len_sL, jM.len_sR, jM.len_fI, jM.len_fL, jM.len_fR, *]; omega)) rfl rfl ?_ ?_
                      · exact fun _ _ h => h
                      rintro _ _ ⟨rfl, rfl⟩
                      rw [el, show 11 * (21 * (g : Int) + (t : Int)) + 0 + 1 + (i : Int) = 11 * (21 * (g : Int) + (t : Int)) + (1 + i) by omega, b1]
                      refine J.i2l (pc' := 178) rfl rfl (by first | omega | (exact R.r _ _) | (simp only [jM.len_sI, jM.len_sL, jM.len_sR, jM.len_fI, jM.len_fL, jM.len_fR]; omega) | (simp [jM.len_nw, jM.len_sI, jM.len_sL, jM.len_sR, jM.len_fI, jM.len_fL, jM.len_fR, *]; omega)) ?_
                      refine J.ladd (pc' := 179) rfl rfl ?_
                      refine J.mlast (pc' := 180) B rfl rfl rfl rfl (by omega) (by simp only [jLn]; omega) rfl ?_
                      rw [show 11 * (21 * (g : Int) + ((t : Int) + 1)) + 0 + 1 + (i : Int) = 11 * (21 * (g : Int) + ((t : Int) + 1)) + (1 + i) by omega]
                      have G3 := G2.up (t := (t : Int) + 1) (i := 1 + i) (x := gs V g (1 + i) t + lowL V (41 * (g : Int) + k.1) i) hn.2 (by omega) (by omega)
                      have s1 : sv11 V (41 * (g : Int) + k.1) (1 + i) = lowL V (41 * (g : Int) + k.1) i := by unfold sv11; rw [if_neg (by omega), if_pos (by omega)]; congr 1; omega
                      have s2 : sv11 V (41 * (g : Int) + k.1) (6 + i) = highL V (41 * (g : Int) + k.1) i := by unfold sv11; rw [if_neg (by omega), if_neg (by omega)]; congr 1; omega
                      have eh3 : highL (jU W2 151 (11 * (21 * (g : Int) + ((t : Int) + 1)) + (1 + i)) (gs V g (1 + i) t + lowL V (41 * (g : Int) + k.1) i)) (41 * (g : Int) + k.1) i = highL V (41 * (g : Int) + k.1) i := scr_highL G3.2.1 _ _
                      first | refine J.aload_n (pc' := 181) rfl rfl rfl ?_ | refine J.aload_nN (pc' := 181) rfl rfl rfl ?_
                      refine J.mgR (pc' := 184) (t := 151) B rfl fl_X12_130 rfl rfl (by decide) rfl ?_
                      refine J.iload (pc' := 186) rfl rfl rfl ?_
                      refine J.bipush (pc' := 188) rfl rfl (by decide) ?_
                      refine J.iadd (pc' := 189) rfl rfl ?_
                      refine J.iload (pc' := 191) rfl rfl rfl ?_
                      refine J.iadd (pc' := 192) rfl rfl ?_
                      first | refine J.aload_n (pc' := 193) rfl rfl rfl ?_ | refine J.aload_nN (pc' := 193) rfl rfl rfl ?_
                      refine J.mgR (pc' := 196) (t := 151) B rfl fl_X12_130 rfl rfl (by decide) rfl ?_
                      refine J.iload (pc' := 198) rfl rfl rfl ?_
                      refine J.bipush (pc' := 200) rfl rfl (by decide) ?_
                      refine J.iadd (pc' := 201) rfl rfl ?_
                      refine J.iload (pc' := 203) rfl rfl rfl ?_
                      refine J.iadd (pc' := 204) rfl rfl ?_
                      refine J.mlald (pc' := 205) B rfl rfl rfl (by omega) (by simp only [jLn]; omega) rfl ?_
                      first | refine J.aload_n (pc' := 206) rfl rfl rfl ?_ | refine J.aload_nN (pc' := 206) rfl rfl rfl ?_
                      refine J.iload (pc' := 208) rfl rfl rfl ?_
                      refine J.iload (pc' := 210) rfl rfl rfl ?_
                      refine J.callV (pc' := 213) (t := 16) rfl MX12_highOfLayer ml_X12_307 iv_X12_highOfLayer (by decide) ⟨_, rfl, rfl⟩ B.1 (cm_highL B G3.1 (by omega) (by omega)) rfl rfl (Nat.le_of_ble_eq_true rfl) (by first | omega | (exact R.r _ _) | (simp only [jM.len_sI, jM.len_sL, jM.len_sR, jM.len_fI, jM.len_fL, jM.len_fR]; omega) | (simp [jM.len_nw, jM.len_sI, jM.len_sL, jM.len_sR, jM.len_fI, jM.len_fL, jM.len_fR, *]; omega)) (by first | omega | (exact R.r _ _) | (simp only [jM.len_sI, jM.len_sL, jM.len_sR, jM.len_fI, jM.len_fL, jM.len_fR]; omega) | (simp [jM.len_nw, jM.len_sI, jM.len_sL, jM.len_sR, jM.len_fI, jM.len_fL, jM.len_fR, *]; omega)) (by first | omega | (exact R.r _ _) | (simp only [jM.len_sI, jM.len_sL, jM.len_sR, jM.len_fI, jM.len_fL, jM.len_fR]; omega) | (simp [jM.len_nw, jM.len_sI, jM.len_sL, jM.len_sR, jM.len_fI, jM.len_fL, jM.len_fR, *]; omega)) rfl rfl ?_ ?_
                      · exact fun _ _ h => h
                      rintro _ _ ⟨rfl, rfl⟩
                      rw [eh3, show 11 * (21 * (g : Int) + (t : Int)) + 0 + 6 + (i : Int) = 11 * (21 * (g : Int) + (t : Int)) + (6 + i) by omega, jU_i _ (by omega), b2]
                      refine J.i2l (pc' := 214) rfl rfl (by first | omega | (exact R.r _ _) | (simp only [jM.len_sI, jM.len_sL, jM.len_sR, jM.len_fI, jM.len_fL, jM.len_fR]; omega) | (simp [jM.len_nw, jM.len_sI, jM.len_sL, jM.len_sR, jM.len_fI, jM.len_fL, jM.len_fR, *]; omega)) ?_
                      refine J.ladd (pc' := 215) rfl rfl ?_
                      refine J.mlast (pc' := 216) B rfl rfl rfl rfl (by omega) (by simp only [jLn]; omega) rfl ?_
                      rw [show 11 * (21 * (g : Int) + ((t : Int) + 1)) + 0 + 6 + (i : Int) = 11 * (21 * (g : Int) + ((t : Int) + 1)) + (6 + i) by omega]
                      have G4 := G3.up (t := (t : Int) + 1) (i := 6 + i) (x := gs V g (6 + i) t + highL V (41 * (g : Int) + k.1) i) hn.2 (by omega) (by omega)
                      refine J.iinc (pc' := 219) rfl rfl rfl (by decide) ?_
                      refine J.goto (tgt := 140) rfl rfl ?_
                      refine ih5 (i + 1) (by omega) _ G4 (by rw [jU_o _ (by decide), jU_o _ (by decide)]; exact v2) (fun t' j a b c => ?_) ?_ (fun j a b => ⟨?_, ?_⟩) _ ⟨rfl, rfl, rfl, rfl, rfl, rfl, rfl, rfl, rfl, rfl, trivial⟩
                      · rw [jU_i _ (by omega), jU_i _ (by omega)]
                        exact hr2 t' j a b c
                      · rw [jU_i _ (by omega), jU_i _ (by omega)]
                        exact h02
                      · rw [jU_i _ (by omega), jU_at]
                        split
                        · rename_i q
                          rw [show 1 + j = 1 + (i : Int) by omega, hgs, s1]
                        · exact (hm2 j a (by omega)).1
                      · rw [jU_at]
                        split
                        · rename_i q
                          rw [show 6 + j = 6 + (i : Int) by omega, hgs, s2]
                        · rw [jU_i _ (by omega)]
                          exact (hm2 j a (by omega)).2
                have G1 := G'.up (t := (t : Int) + 1) (i := 0) (x := gs V g 0 t + V 141 (41 * (g : Int) + k.1)) hn.2 (by omega) (by omega)
                refine ml 5 0 (by omega) _ G1 (by rw [jU_o _ (by decide)]; exact hv') (fun t' j a b c => ?_) ?_ (fun j a b => by omega) _ ⟨rfl, rfl, rfl, rfl, rfl, rfl, rfl, rfl, rfl, rfl, trivial⟩
                · rw [jU_i _ (by omega)]
                  exact hr t' j a b c
                · rw [jU_same, hgs]
                  unfold sv11
                  rw [if_pos rfl]
          have zl : ∀ (m i : Nat), i + m = 11 → ∀ W', fsG W' V n g → W' 148 g = v → (∀ j : Int, 0 ≤ j → j < i → W' 151 (11 * (21 * (g : Int) + 0) + j) = 0) → ∀ lv, hasL lv [(0, .ref (β.2 16)), (1, .int (jI n)), (2, .int (jI (g : Int))), (4, .int (jI (i : Int)))] → J γ mX12_findSums 1 0 0 0 0 (jP β W') 33 lv [] (fsQ β V n) X0 := by
            intro m
            induction m with
            | zero =>
              intro i hi W' G' hv' hz lv hlv
              have e38 : W' 138 g = V 138 g := G'.2.1 _ _ (by omega)
              refine J.lc hlv ?_
              refine J.iload (pc' := 35) rfl rfl rfl ?_
              refine J.bipush (pc' := 37) rfl rfl (by decide) ?_
              refine J.icmp_ge (tgt := 60) (pc' := 40) rfl rfl rfl (by first | omega | (exact R.r _ _) | (simp only [jM.len_sI, jM.len_sL, jM.len_sR, jM.len_fI, jM.len_fL, jM.len_fR]; omega) | (simp [jM.len_nw, jM.len_sI, jM.len_sL, jM.len_sR, jM.len_fI, jM.len_fL, jM.len_fR, *]; omega)) (by first | omega | (exact R.r _ _) | (simp only [jM.len_sI, jM.len_sL, jM.len_sR, jM.len_fI, jM.len_fL, jM.len_fR]; omega) | (simp [jM.len_nw, jM.len_sI, jM.len_sL, jM.len_sR, jM.len_fI, jM.len_fL, jM.len_fR, *]; omega)) (fun c2 => ?_) (fun c2 => ?_)
              · first | refine J.aload_n (pc' := 61) rfl rfl rfl ?_ | refine J.aload_nN (pc' := 61) rfl rfl rfl ?_
                refine J.mgR (pc' := 64) (t := 138) B rfl fl_X12_91 rfl rfl (by decide) rfl ?_
                refine J.iload_n (pc' := 65) rfl rfl rfl ?_
                refine J.mald (pc' := 66) B rfl rfl rfl (by omega) (by simp only [jLn]; omega) rfl ?_
                refine J.iconst (pc' := 67) rfl rfl ?_
                refine J.isub (pc' := 68) rfl rfl ?_
                refine J.istore (pc' := 70) rfl rfl (by decide) ?_
                refine J.iconst (pc' := 71) rfl rfl ?_
                refine J.istore (pc' := 73) rfl rfl (by decide) ?_
                refine J.iconst (pc' := 74) rfl rfl ?_
                refine J.istore (pc' := 76) rfl rfl (by decide) ?_
                rw [e38]
                refine tl v.toNat 0 (by omega) W' G' hv' (fun t' j a b c => ?_) _ ⟨rfl, rfl, rfl, rfl, rfl, rfl, trivial⟩
                have e0 : t' = 0 := by omega
                subst e0
                exact hz j b (by omega)
              · omega
            | succ m ih2 =>
              intro i hi W' G' hv' hz lv hlv
              refine J.lc hlv ?_
              refine J.iload (pc' := 35) rfl rfl rfl ?_
              refine J.bipush (pc' := 37) rfl rfl (by decide) ?_
              refine J.icmp_ge (tgt := 60) (pc' := 40) rfl rfl rfl (by first | omega | (exact R.r _ _) | (simp only [jM.len_sI, jM.len_sL, jM.len_sR, jM.len_fI, jM.len_fL, jM.len_fR]; omega) | (simp [jM.len_nw, jM.len_sI, jM.len_sL, jM.len_sR, jM.len_fI, jM.len_fL, jM.len_fR, *]; omega)) (by first | omega | (exact R.r _ _) | (simp only [jM.len_sI, jM.len_sL, jM.len_sR, jM.len_fI, jM.len_fL, jM.len_fR]; omega) | (simp [jM.len_nw, jM.len_sI, jM.len_sL, jM.len_sR, jM.len_fI, jM.len_fL, jM.len_fR, *]; omega)) (fun c2 => ?_) (fun c2 => ?_)
              · omega
              · first | refine J.aload_n (pc' := 41) rfl rfl rfl ?_ | refine J.aload_nN (pc' := 41) rfl rfl rfl ?_
                refine J.mgR (pc' := 44) (t := 151) B rfl fl_X12_130 rfl rfl (by decide) rfl ?_
                refine J.iload_n (pc' := 45) rfl rfl rfl ?_
                refine J.iconst (pc' := 46) rfl rfl ?_
                refine J.callS (pc' := 49) rfl MX12_sumAt ml_X12_310 is_X12_sumAt cm_sumAt rfl rfl (Nat.le_of_ble_eq_true rfl) (by first | omega | (exact R.r _ _) | (simp only [jM.len_sI, jM.len_sL, jM.len_sR, jM.len_fI, jM.len_fL, jM.len_fR]; omega) | (simp [jM.len_nw, jM.len_sI, jM.len_sL, jM.len_sR, jM.len_fI, jM.len_fL, jM.len_fR, *]; omega)) (by first | omega | (exact R.r _ _) | (simp only [jM.len_sI, jM.len_sL, jM.len_sR, jM.len_fI, jM.len_fL, jM.len_fR]; omega) | (simp [jM.len_nw, jM.len_sI, jM.len_sL, jM.len_sR, jM.len_fI, jM.len_fL, jM.len_fR, *]; omega)) (by first | omega | (exact R.r _ _) | (simp only [jM.len_sI, jM.len_sL, jM.len_sR, jM.len_fI, jM.len_fL, jM.len_fR]; omega) | (simp [jM.len_nw, jM.len_sI, jM.len_sL, jM.len_sR, jM.len_fI, jM.len_fL, jM.len_fR, *]; omega)) rfl rfl ?_ ?_
                · exact fun _ _ h => h
                rintro _ _ ⟨rfl, rfl⟩
                refine J.iload (pc' := 51) rfl rfl rfl ?_
                refine J.iadd (pc' := 52) rfl rfl ?_
                refine J.lconst (pc' := 53) rfl rfl ?_
                refine J.mlast (pc' := 54) B rfl rfl rfl rfl (by omega) (by simp only [jLn]; omega) rfl ?_
                refine J.iinc (pc' := 57) rfl rfl rfl (by decide) ?_
                refine J.goto (tgt := 33) rfl rfl ?_
                refine ih2 (i + 1) (by omega) _ (G'.up (t := 0) (i := i) (x := 0) hn.2 (by omega) (by omega)) (by rw [jU_o _ (by decide)]; exact hv') (fun j a b => ?_) _ ⟨rfl, rfl, rfl, rfl, trivial⟩
                rw [jU_at]
                split
                · rfl
                · exact hz j a (by omega)
          refine J.mast (pc' := 30) B rfl rfl rfl rfl (by omega) (by simp only [jLn]; omega) rfl ?_
          refine J.iconst (pc' := 31) rfl rfl ?_
          refine J.istore (pc' := 33) rfl rfl (by decide) ?_
          exact zl 11 0 (by omega) _ G0 (jU_same _ _ _ _) (fun j a b => by omega) _ ⟨rfl, rfl, rfl, rfl, trivial⟩
        refine J.istore_n (pc' := 14) rfl rfl (by decide) ?_
        first | refine J.aload_n (pc' := 15) rfl rfl rfl ?_ | refine J.aload_nN (pc' := 15) rfl rfl rfl ?_
        refine J.mgR (pc' := 18) (t := 148) B rfl fl_X12_121 rfl rfl (by decide) rfl ?_
        refine J.iload_n (pc' := 19) rfl rfl rfl ?_
        refine J.iload_n (pc' := 20) rfl rfl rfl ?_
        refine J.iload_n (pc' := 21) rfl rfl rfl ?_
        refine J.icmp_ge (tgt := 28) (pc' := 24) rfl rfl rfl (by first | omega | (exact R.r _ _) | (simp only [jM.len_sI, jM.len_sL, jM.len_sR, jM.len_fI, jM.len_fL, jM.len_fR]; omega) | (simp [jM.len_nw, jM.len_sI, jM.len_sL, jM.len_sR, jM.len_fI, jM.len_fL, jM.len_fR, *]; omega)) (by first | omega | (exact R.r _ _) | (simp only [jM.len_sI, jM.len_sL, jM.len_sR, jM.len_fI, jM.len_fL, jM.len_fR]; omega) | (simp [jM.len_nw, jM.len_sI, jM.len_sL, jM.len_sR, jM.len_fI, jM.len_fL, jM.len_fR, *]; omega)) (fun c2 => ?_) (fun c2 => ?_)
        · refine J.iload_n (pc' := 29) rfl rfl rfl ?_
          exact at29 _ (by omega)
        · refine J.iload_n (pc' := 25) rfl rfl rfl ?_
          refine J.goto (tgt := 29) rfl rfl ?_
          exact at29 _ (by omega)
  exact key 6 0 (by omega) V ⟨R, scr.rf, fun g a b => by omega⟩ _ ⟨rfl, rfl, rfl, trivial⟩
end M9

