theorem jU_116 (V : VV) (i x : Int) : (jU V 16 i x) 116 = V 116 := by
  funext j
  exact jU_o _ (by decide)
def dgAt (T : Int → Int) (n q : Int) : Prop := q < n ∧ (48 ≤ T q ∧ T q ≤ 57)
def tsV (V : VV) (q : Int) (t : Tst) : VV := jU (jU (jU (jU (jU V 16 13 q) 123 (100 * V 16 11 + V 16 15) t.1) 124 (100 * V 16 11 + V 16 15) t.2.1) 125 (100 * V 16 11 + V 16 15) t.2.2) 16 15 (V 16 15 + 1)
def testQ (β : jB) (V : VV) : Option Value → jM → Prop := fun r h' => r = none ∧ ∃ U, h' = jP β U ∧ ((∃ e, pTest (V 116) (V 16 12) (V 16 13) = .inl e ∧ badS U V (V 16 11) e) ∨ (∃ q t, pTest (V 116) (V 16 12) (V 16 13) = .inr (q, t) ∧ ((dgAt (V 116) (V 16 12) q ∧ badS U V (V 16 11) q) ∨ (¬ dgAt (V 116) (V 16 12) q ∧ U = tsV V q t))))
theorem we_2 {T : Int → Int} {n s : Int} (h : s ≤ n) (hw : 256 ≤ wcode T n s) : s + 2 ≤ we T n s := by
  have wb := we_b (T := T) h
  rcases (by omega : we T n s = s ∨ we T n s = s + 1 ∨ s + 2 ≤ we T n s) with q | q | q
  · exfalso
    unfold wcode at hw
    rw [q, if_pos (by omega), show (s - s).toNat = 0 by omega] at hw
    simp [wc] at hw
  · exfalso
    unfold wcode at hw
    have h1 := wb.2.2.1 s (by omega) (by omega)
    rw [q, if_pos (by omega), show (s + 1 - s).toNat = 1 by omega] at hw
    simp [wc] at hw
    omega
  · exact q
theorem mof_256 {w : Int} (h : mof w ≠ -1) : 256 ≤ w := by
  unfold mof at h
  split at h
  · omega
  · split at h
    · omega
    · split at h
      · omega
      · split at h
        · omega
        · split at h
          · omega
          · exact absurd rfl h
/-- a TEST takes four bytes at least -/
theorem pTest_b {T : Int → Int} {n p q : Int} {t : Tst} (hp : p ≤ n) (h : pTest T n p = .inr (q, t)) : p + 4 ≤ q ∧ q ≤ n ∧ (0 ≤ t.1 ∧ t.1 ≤ 4) ∧ (t.2.1 = 60 ∨ t.2.1 = 62) ∧ (0 ≤ t.2.2 ∧ t.2.2 ≤ 99999) := by
  have sb := sk_b (T := T) hp
  unfold pTest at h
  split at h
  · cases h
  · rename_i h1
    have mb := mof_b (wcode T n (sk T n p))
    have w2 := we_2 sb.2.1 (mof_256 h1)
    have wb := we_b (T := T) sb.2.1
    have s2 := sk_b (T := T) wb.2.1
    split at h
    · cases h
    · rename_i h2
      have h2' : sk T n (we T n (sk T n p)) < n ∧ (T (sk T n (we T n (sk T n p))) = 60 ∨ T (sk T n (we T n (sk T n p))) = 62) := Classical.not_not.mp h2
      have s3 := sk_b (T := T) (n := n) (p := sk T n (we T n (sk T n p)) + 1) (by omega)
      have nb := numN_b (T := T) (n := n) 5 (sk T n (sk T n (we T n (sk T n p)) + 1)) 0 s3.2.1 (by omega)
      split at h
      · cases h
      · rename_i h3
        have e := Sum.inr.inj h
        have e1 := (Prod.mk.inj e).1
        have e2 := (Prod.mk.inj e).2
        rw [← e1, ← e2]
        have p5 : ((0 : Int) + 1) * 10 ^ 5 = 100000 := by decide
        rw [p5] at nb
        exact ⟨by omega, by omega, ⟨by show 0 ≤ mof _; omega, by show mof _ ≤ 4; omega⟩, h2'.2, by show 0 ≤ (numN _ _ _ _ _).2; omega, by show (numN _ _ _ _ _).2 ≤ 99999; omega⟩
section M20
variable {γ : jG} {β : jB} {V : VV}
set_option maxHeartbeats 2000000 in
theorem cm_test (B : isB β) (R : isR V) (hp : V 16 13 ≤ V 16 12) (hb : V 16 14 = -1) (hc : V 16 11 < 20) (hk : 4 * V 16 15 ≤ V 16 13) : CT γ mX12_test 2 0 0 [.ref (β.2 16)] (jP β V) (testQ β V) X0 := by
  have hf := R.f
  obtain ⟨s, hs⟩ : ∃ s, sk (V 116) (V 16 12) (V 16 13) = s := ⟨_, rfl⟩
  have sb := sk_b (T := V 116) hp
  rw [hs] at sb
  obtain ⟨w, hw⟩ : ∃ w, wcode (V 116) (V 16 12) s = w := ⟨_, rfl⟩
  have wb := wcode_b (T := V 116) sb.2.1
  rw [hw] at wb
  have mb := mof_b w
  have R1 : ∀ x, 0 ≤ x → x ≤ V 16 12 → isR (jU V 16 13 x) := fun x x1 x2 => R.up (fun _ => by show (0 : Int) ≤ x ∧ x ≤ 400; omega)
  have RB : ∀ x, 0 ≤ x → x ≤ V 16 12 → isR (jU (jU V 16 13 x) 16 14 x) := fun x x1 x2 => (R1 x x1 x2).up (fun _ => by show (-1 : Int) ≤ x ∧ x ≤ 400; omega)
  have bS : ∀ x, 0 ≤ x → x ≤ V 16 12 → badS (jU (jU V 16 13 x) 16 14 x) V (V 16 11) x := fun x x1 x2 => ⟨RB x x1 x2, (scc.rf.up (cSc_16 (by omega))).up (cSc_16 (by omega)), by rw [jU_i _ (by decide), jU_i _ (by decide)], by rw [jU_i _ (by decide), jU_same]; exact x2, jU_same _ _ _ _, fun _ => rfl⟩
  have bad : ∀ U, isR U → U 16 14 ≠ -1 → testQ β V none (jP β U) → ∀ lv, hasL lv [(0, .ref (β.2 16))] → J γ mX12_test 2 0 0 0 0 (jP β U) 75 lv [] (testQ β V) X0 := by
    intro U RU hU hq lv hlv
    refine J.lc hlv ?_
    first | refine J.aload_n (pc' := 76) rfl rfl rfl ?_ | refine J.aload_nN (pc' := 76) rfl rfl rfl ?_
    refine J.callV (pc' := 79) (t := 16) rfl MX12_fine ml_X12_212 iv_X12_fine (by decide) ⟨_, rfl, rfl⟩ B.1 (cm_fine B RU) rfl rfl (Nat.le_of_ble_eq_true rfl) (by first | omega | (exact R.r _ _) | (simp only [jM.len_sI, jM.len_sL, jM.len_sR, jM.len_fI, jM.len_fL, jM.len_fR]; omega) | (simp [jM.len_nw, jM.len_sI, jM.len_sL, jM.len_sR, jM.len_fI, jM.len_fL, jM.len_fR, *]; omega)) (by first | omega | (exact R.r _ _) | (simp only [jM.len_sI, jM.len_sL, jM.len_sR, jM.len_fI, jM.len_fL, jM.len_fR]; omega) | (simp [jM.len_nw, jM.len_sI, jM.len_sL, jM.len_sR, jM.len_fI, jM.len_fL, jM.len_fR, *]; omega)) (by first | omega | (exact R.r _ _) | (simp only [jM.len_sI, jM.len_sL, jM.len_sR, jM.len_fI, jM.len_fL, jM.len_fR]; omega) | (simp [jM.len_nw, jM.len_sI, jM.len_sL, jM.len_sR, jM.len_fI, jM.len_fL, jM.len_fR, *]; omega)) rfl rfl ?_ ?_
    · exact fun _ _ h => h
    rintro _ _ ⟨rfl, rfl⟩
    rw [if_neg hU]
    refine J.if_eq (tgt := 92) (pc' := 82) rfl rfl rfl (by first | omega | (exact R.r _ _) | (simp only [jM.len_sI, jM.len_sL, jM.len_sR, jM.len_fI, jM.len_fL, jM.len_fR]; omega) | (simp [jM.len_nw, jM.len_sI, jM.len_sL, jM.len_sR, jM.len_fI, jM.len_fL, jM.len_fR, *]; omega)) (fun c1 => ?_) (fun c1 => ?_)
    · first | refine J.aload_n (pc' := 93) rfl rfl rfl ?_ | refine J.aload_nN (pc' := 93) rfl rfl rfl ?_
      refine J.callV (pc' := 96) (t := 16) rfl MX12_fine ml_X12_212 iv_X12_fine (by decide) ⟨_, rfl, rfl⟩ B.1 (cm_fine B RU) rfl rfl (Nat.le_of_ble_eq_true rfl) (by first | omega | (exact R.r _ _) | (simp only [jM.len_sI, jM.len_sL, jM.len_sR, jM.len_fI, jM.len_fL, jM.len_fR]; omega) | (simp [jM.len_nw, jM.len_sI, jM.len_sL, jM.len_sR, jM.len_fI, jM.len_fL, jM.len_fR, *]; omega)) (by first | omega | (exact R.r _ _) | (simp only [jM.len_sI, jM.len_sL, jM.len_sR, jM.len_fI, jM.len_fL, jM.len_fR]; omega) | (simp [jM.len_nw, jM.len_sI, jM.len_sL, jM.len_sR, jM.len_fI, jM.len_fL, jM.len_fR, *]; omega)) (by first | omega | (exact R.r _ _) | (simp only [jM.len_sI, jM.len_sL, jM.len_sR, jM.len_fI, jM.len_fL, jM.len_fR]; omega) | (simp [jM.len_nw, jM.len_sI, jM.len_sL, jM.len_sR, jM.len_fI, jM.len_fL, jM.len_fR, *]; omega)) rfl rfl ?_ ?_
      · exact fun _ _ h => h
      rintro _ _ ⟨rfl, rfl⟩
      rw [if_neg hU]
      refine J.if_eq (tgt := 106) (pc' := 99) rfl rfl rfl (by first | omega | (exact R.r _ _) | (simp only [jM.len_sI, jM.len_sL, jM.len_sR, jM.len_fI, jM.len_fL, jM.len_fR]; omega) | (simp [jM.len_nw, jM.len_sI, jM.len_sL, jM.len_sR, jM.len_fI, jM.len_fL, jM.len_fR, *]; omega)) (fun c2 => ?_) (fun c2 => ?_)
      · refine J.iconst (pc' := 107) rfl rfl ?_
        refine J.istore_n (pc' := 108) rfl rfl (by decide) ?_
        first | refine J.aload_n (pc' := 109) rfl rfl rfl ?_ | refine J.aload_nN (pc' := 109) rfl rfl rfl ?_
        refine J.callV (pc' := 112) (t := 16) rfl MX12_fine ml_X12_212 iv_X12_fine (by decide) ⟨_, rfl, rfl⟩ B.1 (cm_fine B RU) rfl rfl (Nat.le_of_ble_eq_true rfl) (by first | omega | (exact R.r _ _) | (simp only [jM.len_sI, jM.len_sL, jM.len_sR, jM.len_fI, jM.len_fL, jM.len_fR]; omega) | (simp [jM.len_nw, jM.len_sI, jM.len_sL, jM.len_sR, jM.len_fI, jM.len_fL, jM.len_fR, *]; omega)) (by first | omega | (exact R.r _ _) | (simp only [jM.len_sI, jM.len_sL, jM.len_sR, jM.len_fI, jM.len_fL, jM.len_fR]; omega) | (simp [jM.len_nw, jM.len_sI, jM.len_sL, jM.len_sR, jM.len_fI, jM.len_fL, jM.len_fR, *]; omega)) (by first | omega | (exact R.r _ _) | (simp only [jM.len_sI, jM.len_sL, jM.len_sR, jM.len_fI, jM.len_fL, jM.len_fR]; omega) | (simp [jM.len_nw, jM.len_sI, jM.len_sL, jM.len_sR, jM.len_fI, jM.len_fL, jM.len_fR, *]; omega)) rfl rfl ?_ ?_
        · exact fun _ _ h => h
        rintro _ _ ⟨rfl, rfl⟩
        rw [if_neg hU]
        refine J.if_ne (tgt := 116) (pc' := 115) rfl rfl rfl (by first | omega | (exact R.r _ _) | (simp only [jM.len_sI, jM.len_sL, jM.len_sR, jM.len_fI, jM.len_fL, jM.len_fR]; omega) | (simp [jM.len_nw, jM.len_sI, jM.len_sL, jM.len_sR, jM.len_fI, jM.len_fL, jM.len_fR, *]; omega)) (fun c3 => ?_) (fun c3 => ?_)
        · omega
        · refine J.vret rfl rfl (by first | omega | (exact R.r _ _) | (simp only [jM.len_sI, jM.len_sL, jM.len_sR, jM.len_fI, jM.len_fL, jM.len_fR]; omega) | (simp [jM.len_nw, jM.len_sI, jM.len_sL, jM.len_sR, jM.len_fI, jM.len_fL, jM.len_fR, *]; omega)) (by first | omega | (exact R.r _ _) | (simp only [jM.len_sI, jM.len_sL, jM.len_sR, jM.len_fI, jM.len_fL, jM.len_fR]; omega) | (simp [jM.len_nw, jM.len_sI, jM.len_sL, jM.len_sR, jM.len_fI, jM.len_fL, jM.len_fR, *]; omega)) ?_
          exact hq
      · omega
    · omega
  have bad21 : ∀ U, isR U → U 16 14 ≠ -1 → testQ β V none (jP β U) → ∀ lv, hasL lv [(0, .ref (β.2 16))] → J γ mX12_test 2 0 0 0 0 (jP β U) 21 lv [] (testQ β V) X0 := by
    intro U RU hU hq lv hlv
    refine J.lc hlv ?_
    first | refine J.aload_n (pc' := 22) rfl rfl rfl ?_ | refine J.aload_nN (pc' := 22) rfl rfl rfl ?_
    refine J.callV (pc' := 25) (t := 16) rfl MX12_fine ml_X12_212 iv_X12_fine (by decide) ⟨_, rfl, rfl⟩ B.1 (cm_fine B RU) rfl rfl (Nat.le_of_ble_eq_true rfl) (by first | omega | (exact R.r _ _) | (simp only [jM.len_sI, jM.len_sL, jM.len_sR, jM.len_fI, jM.len_fL, jM.len_fR]; omega) | (simp [jM.len_nw, jM.len_sI, jM.len_sL, jM.len_sR, jM.len_fI, jM.len_fL, jM.len_fR, *]; omega)) (by first | omega | (exact R.r _ _) | (simp only [jM.len_sI, jM.len_sL, jM.len_sR, jM.len_fI, jM.len_fL, jM.len_fR]; omega) | (simp [jM.len_nw, jM.len_sI, jM.len_sL, jM.len_sR, jM.len_fI, jM.len_fL, jM.len_fR, *]; omega)) (by first | omega | (exact R.r _ _) | (simp only [jM.len_sI, jM.len_sL, jM.len_sR, jM.len_fI, jM.len_fL, jM.len_fR]; omega) | (simp [jM.len_nw, jM.len_sI, jM.len_sL, jM.len_sR, jM.len_fI, jM.len_fL, jM.len_fR, *]; omega)) rfl rfl ?_ ?_
    · exact fun _ _ h => h
    rintro _ _ ⟨rfl, rfl⟩
    rw [if_neg hU]
    refine J.if_eq (tgt := 32) (pc' := 28) rfl rfl rfl (by first | omega | (exact R.r _ _) | (simp only [jM.len_sI, jM.len_sL, jM.len_sR, jM.len_fI, jM.len_fL, jM.len_fR]; omega) | (simp [jM.len_nw, jM.len_sI, jM.len_sL, jM.len_sR, jM.len_fI, jM.len_fL, jM.len_fR, *]; omega)) (fun c1 => ?_) (fun c1 => ?_)
    · first | refine J.aload_n (pc' := 33) rfl rfl rfl ?_ | refine J.aload_nN (pc' := 33) rfl rfl rfl ?_
      refine J.callV (pc' := 36) (t := 16) rfl MX12_fine ml_X12_212 iv_X12_fine (by decide) ⟨_, rfl, rfl⟩ B.1 (cm_fine B RU) rfl rfl (Nat.le_of_ble_eq_true rfl) (by first | omega | (exact R.r _ _) | (simp only [jM.len_sI, jM.len_sL, jM.len_sR, jM.len_fI, jM.len_fL, jM.len_fR]; omega) | (simp [jM.len_nw, jM.len_sI, jM.len_sL, jM.len_sR, jM.len_fI, jM.len_fL, jM.len_fR, *]; omega)) (by first | omega | (exact R.r _ _) | (simp only [jM.len_sI, jM.len_sL, jM.len_sR, jM.len_fI, jM.len_fL, jM.len_fR]; omega) | (simp [jM.len_nw, jM.len_sI, jM.len_sL, jM.len_sR, jM.len_fI, jM.len_fL, jM.len_fR, *]; omega)) (by first | omega | (exact R.r _ _) | (simp only [jM.len_sI, jM.len_sL, jM.len_sR, jM.len_fI, jM.len_fL, jM.len_fR]; omega) | (simp [jM.len_nw, jM.len_sI, jM.len_sL, jM.len_sR, jM.len_fI, jM.len_fL, jM.len_fR, *]; omega)) rfl rfl ?_ ?_
      · exact fun _ _ h => h
      rintro _ _ ⟨rfl, rfl⟩
      rw [if_neg hU]
      refine J.if_eq (tgt := 46) (pc' := 39) rfl rfl rfl (by first | omega | (exact R.r _ _) | (simp only [jM.len_sI, jM.len_sL, jM.len_sR, jM.len_fI, jM.len_fL, jM.len_fR]; omega) | (simp [jM.len_nw, jM.len_sI, jM.len_sL, jM.len_sR, jM.len_fI, jM.len_fL, jM.len_fR, *]; omega)) (fun c2 => ?_) (fun c2 => ?_)
      · refine J.iconst (pc' := 47) rfl rfl ?_
        refine J.istore_n (pc' := 48) rfl rfl (by decide) ?_
        first | refine J.aload_n (pc' := 49) rfl rfl rfl ?_ | refine J.aload_nN (pc' := 49) rfl rfl rfl ?_
        refine J.callV (pc' := 52) (t := 16) rfl MX12_fine ml_X12_212 iv_X12_fine (by decide) ⟨_, rfl, rfl⟩ B.1 (cm_fine B RU) rfl rfl (Nat.le_of_ble_eq_true rfl) (by first | omega | (exact R.r _ _) | (simp only [jM.len_sI, jM.len_sL, jM.len_sR, jM.len_fI, jM.len_fL, jM.len_fR]; omega) | (simp [jM.len_nw, jM.len_sI, jM.len_sL, jM.len_sR, jM.len_fI, jM.len_fL, jM.len_fR, *]; omega)) (by first | omega | (exact R.r _ _) | (simp only [jM.len_sI, jM.len_sL, jM.len_sR, jM.len_fI, jM.len_fL, jM.len_fR]; omega) | (simp [jM.len_nw, jM.len_sI, jM.len_sL, jM.len_sR, jM.len_fI, jM.len_fL, jM.len_fR, *]; omega)) (by first | omega | (exact R.r _ _) | (simp only [jM.len_sI, jM.len_sL, jM.len_sR, jM.len_fI, jM.len_fL, jM.len_fR]; omega) | (simp [jM.len_nw, jM.len_sI, jM.len_sL, jM.len_sR, jM.len_fI, jM.len_fL, jM.len_fR, *]; omega)) rfl rfl ?_ ?_
        · exact fun _ _ h => h
        rintro _ _ ⟨rfl, rfl⟩
        rw [if_neg hU]
        refine J.if_eq (tgt := 75) (pc' := 55) rfl rfl rfl (by first | omega | (exact R.r _ _) | (simp only [jM.len_sI, jM.len_sL, jM.len_sR, jM.len_fI, jM.len_fL, jM.len_fR]; omega) | (simp [jM.len_nw, jM.len_sI, jM.len_sL, jM.len_sR, jM.len_fI, jM.len_fL, jM.len_fR, *]; omega)) (fun c3 => ?_) (fun c3 => ?_)
        · exact bad U RU hU hq _ ⟨rfl, trivial⟩
        · omega
      · omega
    · omega
  refine CT.of MX12_test (Nat.le_of_ble_eq_true rfl) ?_
  show J γ mX12_test 2 0 0 0 0 (jP β V) 0 [(0, .ref (β.2 16))] [] _ _
  first | refine J.aload_n (pc' := 1) rfl rfl rfl ?_ | refine J.aload_nN (pc' := 1) rfl rfl rfl ?_
  refine J.callV (pc' := 4) (t := 16) rfl MX12_word ml_X12_204 iv_X12_word (by decide) ⟨_, rfl, rfl⟩ B.1 (cm_word B R hp) rfl rfl (Nat.le_of_ble_eq_true rfl) (by first | omega | (exact R.r _ _) | (simp only [jM.len_sI, jM.len_sL, jM.len_sR, jM.len_fI, jM.len_fL, jM.len_fR]; omega) | (simp [jM.len_nw, jM.len_sI, jM.len_sL, jM.len_sR, jM.len_fI, jM.len_fL, jM.len_fR, *]; omega)) (by first | omega | (exact R.r _ _) | (simp only [jM.len_sI, jM.len_sL, jM.len_sR, jM.len_fI, jM.len_fL, jM.len_fR]; omega) | (simp [jM.len_nw, jM.len_sI, jM.len_sL, jM.len_sR, jM.len_fI, jM.len_fL, jM.len_fR, *]; omega)) (by first | omega | (exact R.r _ _) | (simp only [jM.len_sI, jM.len_sL, jM.len_sR, jM.len_fI, jM.len_fL, jM.len_fR]; omega) | (simp [jM.len_nw, jM.len_sI, jM.len_sL, jM.len_sR, jM.len_fI, jM.len_fL, jM.len_fR, *]; omega)) rfl rfl ?_ ?_
  · exact fun _ _ h => h
  rintro _ _ ⟨rfl, rfl⟩
  rw [hs, hw]
  refine J.callS (pc' := 7) rfl MX12_metalOf ml_X12_232 is_X12_metalOf (cm_metalOf wb) rfl rfl (Nat.le_of_ble_eq_true rfl) (by first | omega | (exact R.r _ _) | (simp only [jM.len_sI, jM.len_sL, jM.len_sR, jM.len_fI, jM.len_fL, jM.len_fR]; omega) | (simp [jM.len_nw, jM.len_sI, jM.len_sL, jM.len_sR, jM.len_fI, jM.len_fL, jM.len_fR, *]; omega)) (by first | omega | (exact R.r _ _) | (simp only [jM.len_sI, jM.len_sL, jM.len_sR, jM.len_fI, jM.len_fL, jM.len_fR]; omega) | (simp [jM.len_nw, jM.len_sI, jM.len_sL, jM.len_sR, jM.len_fI, jM.len_fL, jM.len_fR, *]; omega)) (by first | omega | (exact R.r _ _) | (simp only [jM.len_sI, jM.len_sL, jM.len_sR, jM.len_fI, jM.len_fL, jM.len_fR]; omega) | (simp [jM.len_nw, jM.len_sI, jM.len_sL, jM.len_sR, jM.len_fI, jM.len_fL, jM.len_fR, *]; omega)) rfl rfl ?_ ?_
  · exact fun _ _ h => h
  rintro _ _ ⟨rfl, rfl⟩
  refine J.istore_n (pc' := 8) rfl rfl (by decide) ?_
  refine J.iload_n (pc' := 9) rfl rfl rfl ?_
  refine J.iconst (pc' := 10) rfl rfl ?_
  refine J.icmp_ne (tgt := 21) (pc' := 13) rfl rfl rfl (by first | omega | (exact R.r _ _) | (simp only [jM.len_sI, jM.len_sL, jM.len_sR, jM.len_fI, jM.len_fL, jM.len_fR]; omega) | (simp [jM.len_nw, jM.len_sI, jM.len_sL, jM.len_sR, jM.len_fI, jM.len_fL, jM.len_fR, *]; omega)) (by first | omega | (exact R.r _ _) | (simp only [jM.len_sI, jM.len_sL, jM.len_sR, jM.len_fI, jM.len_fL, jM.len_fR]; omega) | (simp [jM.len_nw, jM.len_sI, jM.len_sL, jM.len_sR, jM.len_fI, jM.len_fL, jM.len_fR, *]; omega)) (fun c1 => ?_) (fun c1 => ?_)
  · have w2 := we_2 sb.2.1 (by rw [hw]; exact mof_256 c1)
    have web := we_b (T := V 116) sb.2.1
    obtain ⟨q1, hq1⟩ : ∃ x, we (V 116) (V 16 12) s = x := ⟨_, rfl⟩
    rw [hq1] at w2 web
    have s2 := sk_b (T := V 116) web.2.1
    obtain ⟨x2, hx2⟩ : ∃ x, sk (V 116) (V 16 12) q1 = x := ⟨_, rfl⟩
    rw [hx2] at s2
    have rT := R.s 116 x2
    have hvb : r32 (hv (V 116) (V 16 12) x2) := by unfold hv; split <;> omega
    first | refine J.aload_n (pc' := 22) rfl rfl rfl ?_ | refine J.aload_nN (pc' := 22) rfl rfl rfl ?_
    refine J.callV (pc' := 25) (t := 16) rfl MX12_fine ml_X12_212 iv_X12_fine (by decide) ⟨_, rfl, rfl⟩ B.1 (cm_fine B (R1 s (by omega) sb.2.1)) rfl rfl (Nat.le_of_ble_eq_true rfl) (by first | omega | (exact R.r _ _) | (simp only [jM.len_sI, jM.len_sL, jM.len_sR, jM.len_fI, jM.len_fL, jM.len_fR]; omega) | (simp [jM.len_nw, jM.len_sI, jM.len_sL, jM.len_sR, jM.len_fI, jM.len_fL, jM.len_fR, *]; omega)) (by first | omega | (exact R.r _ _) | (simp only [jM.len_sI, jM.len_sL, jM.len_sR, jM.len_fI, jM.len_fL, jM.len_fR]; omega) | (simp [jM.len_nw, jM.len_sI, jM.len_sL, jM.len_sR, jM.len_fI, jM.len_fL, jM.len_fR, *]; omega)) (by first | omega | (exact R.r _ _) | (simp only [jM.len_sI, jM.len_sL, jM.len_sR, jM.len_fI, jM.len_fL, jM.len_fR]; omega) | (simp [jM.len_nw, jM.len_sI, jM.len_sL, jM.len_sR, jM.len_fI, jM.len_fL, jM.len_fR, *]; omega)) rfl rfl ?_ ?_
    · exact fun _ _ h => h
    rintro _ _ ⟨rfl, rfl⟩
    rw [if_pos (show (jU V 16 13 s) 16 14 = -1 from hb)]
    refine J.if_eq (tgt := 32) (pc' := 28) rfl rfl rfl (by first | omega | (exact R.r _ _) | (simp only [jM.len_sI, jM.len_sL, jM.len_sR, jM.len_fI, jM.len_fL, jM.len_fR]; omega) | (simp [jM.len_nw, jM.len_sI, jM.len_sL, jM.len_sR, jM.len_fI, jM.len_fL, jM.len_fR, *]; omega)) (fun c2 => ?_) (fun c2 => ?_)
    · omega
    · first | refine J.aload_n (pc' := 29) rfl rfl rfl ?_ | refine J.aload_nN (pc' := 29) rfl rfl rfl ?_
      refine J.callV (pc' := 32) (t := 16) rfl MX12_pass ml_X12_216 iv_X12_pass (by decide) ⟨_, rfl, rfl⟩ B.1 (cm_pass B (R1 s (by omega) sb.2.1) (by rw [jU_same]; exact sb.2.1)) rfl rfl (Nat.le_of_ble_eq_true rfl) (by first | omega | (exact R.r _ _) | (simp only [jM.len_sI, jM.len_sL, jM.len_sR, jM.len_fI, jM.len_fL, jM.len_fR]; omega) | (simp [jM.len_nw, jM.len_sI, jM.len_sL, jM.len_sR, jM.len_fI, jM.len_fL, jM.len_fR, *]; omega)) (by first | omega | (exact R.r _ _) | (simp only [jM.len_sI, jM.len_sL, jM.len_sR, jM.len_fI, jM.len_fL, jM.len_fR]; omega) | (simp [jM.len_nw, jM.len_sI, jM.len_sL, jM.len_sR, jM.len_fI, jM.len_fL, jM.len_fR, *]; omega)) (by first | omega | (exact R.r _ _) | (simp only [jM.len_sI, jM.len_sL, jM.len_sR, jM.len_fI, jM.len_fL, jM.len_fR]; omega) | (simp [jM.len_nw, jM.len_sI, jM.len_sL, jM.len_sR, jM.len_fI, jM.len_fL, jM.len_fR, *]; omega)) rfl rfl ?_ ?_
      · exact fun _ _ h => h
      rintro _ _ ⟨rfl, rfl⟩
      rw [jU_116, jU_i _ (by decide), jU_same, jU_jU, hq1]
      have Rq := R1 q1 (by omega) web.2.1
      first | refine J.aload_n (pc' := 33) rfl rfl rfl ?_ | refine J.aload_nN (pc' := 33) rfl rfl rfl ?_
      refine J.callV (pc' := 36) (t := 16) rfl MX12_fine ml_X12_212 iv_X12_fine (by decide) ⟨_, rfl, rfl⟩ B.1 (cm_fine B Rq) rfl rfl (Nat.le_of_ble_eq_true rfl) (by first | omega | (exact R.r _ _) | (simp only [jM.len_sI, jM.len_sL, jM.len_sR, jM.len_fI, jM.len_fL, jM.len_fR]; omega) | (simp [jM.len_nw, jM.len_sI, jM.len_sL, jM.len_sR, jM.len_fI, jM.len_fL, jM.len_fR, *]; omega)) (by first | omega | (exact R.r _ _) | (simp only [jM.len_sI, jM.len_sL, jM.len_sR, jM.len_fI, jM.len_fL, jM.len_fR]; omega) | (simp [jM.len_nw, jM.len_sI, jM.len_sL, jM.len_sR, jM.len_fI, jM.len_fL, jM.len_fR, *]; omega)) (by first | omega | (exact R.r _ _) | (simp only [jM.len_sI, jM.len_sL, jM.len_sR, jM.len_fI, jM.len_fL, jM.len_fR]; omega) | (simp [jM.len_nw, jM.len_sI, jM.len_sL, jM.len_sR, jM.len_fI, jM.len_fL, jM.len_fR, *]; omega)) rfl rfl ?_ ?_
      · exact fun _ _ h => h
      rintro _ _ ⟨rfl, rfl⟩
      rw [if_pos (show (jU V 16 13 q1) 16 14 = -1 from hb)]
      refine J.if_eq (tgt := 46) (pc' := 39) rfl rfl rfl (by first | omega | (exact R.r _ _) | (simp only [jM.len_sI, jM.len_sL, jM.len_sR, jM.len_fI, jM.len_fL, jM.len_fR]; omega) | (simp [jM.len_nw, jM.len_sI, jM.len_sL, jM.len_sR, jM.len_fI, jM.len_fL, jM.len_fR, *]; omega)) (fun c3 => ?_) (fun c3 => ?_)
      · omega
      · first | refine J.aload_n (pc' := 40) rfl rfl rfl ?_ | refine J.aload_nN (pc' := 40) rfl rfl rfl ?_
        refine J.callV (pc' := 43) (t := 16) rfl MX12_here ml_X12_197 iv_X12_here (by decide) ⟨_, rfl, rfl⟩ B.1 (cm_here B Rq (by rw [jU_same]; exact web.2.1)) rfl rfl (Nat.le_of_ble_eq_true rfl) (by first | omega | (exact R.r _ _) | (simp only [jM.len_sI, jM.len_sL, jM.len_sR, jM.len_fI, jM.len_fL, jM.len_fR]; omega) | (simp [jM.len_nw, jM.len_sI, jM.len_sL, jM.len_sR, jM.len_fI, jM.len_fL, jM.len_fR, *]; omega)) (by first | omega | (exact R.r _ _) | (simp only [jM.len_sI, jM.len_sL, jM.len_sR, jM.len_fI, jM.len_fL, jM.len_fR]; omega) | (simp [jM.len_nw, jM.len_sI, jM.len_sL, jM.len_sR, jM.len_fI, jM.len_fL, jM.len_fR, *]; omega)) (by first | omega | (exact R.r _ _) | (simp only [jM.len_sI, jM.len_sL, jM.len_sR, jM.len_fI, jM.len_fL, jM.len_fR]; omega) | (simp [jM.len_nw, jM.len_sI, jM.len_sL, jM.len_sR, jM.len_fI, jM.len_fL, jM.len_fR, *]; omega)) rfl rfl ?_ ?_
        · exact fun _ _ h => h
        rintro _ _ ⟨rfl, rfl⟩
        rw [jU_116, jU_i _ (by decide), jU_same, jU_jU, hx2]
        have R2 := R1 x2 (by omega) s2.2.1
        refine J.goto (tgt := 47) rfl rfl ?_
        refine J.istore_n (pc' := 48) rfl rfl (by decide) ?_
        first | refine J.aload_n (pc' := 49) rfl rfl rfl ?_ | refine J.aload_nN (pc' := 49) rfl rfl rfl ?_
        refine J.lc (lv' := [(0, .ref (β.2 16)), (1, .int (jI (mof w))), (2, .int (jI (hv (V 116) (V 16 12) x2)))]) (by repeat' (first | exact trivial | refine ⟨rfl, ?_⟩)) ?_
        refine J.callV (pc' := 52) (t := 16) rfl MX12_fine ml_X12_212 iv_X12_fine (by decide) ⟨_, rfl, rfl⟩ B.1 (cm_fine B R2) rfl rfl (Nat.le_of_ble_eq_true rfl) (by first | omega | (exact R.r _ _) | (simp only [jM.len_sI, jM.len_sL, jM.len_sR, jM.len_fI, jM.len_fL, jM.len_fR]; omega) | (simp [jM.len_nw, jM.len_sI, jM.len_sL, jM.len_sR, jM.len_fI, jM.len_fL, jM.len_fR, *]; omega)) (by first | omega | (exact R.r _ _) | (simp only [jM.len_sI, jM.len_sL, jM.len_sR, jM.len_fI, jM.len_fL, jM.len_fR]; omega) | (simp [jM.len_nw, jM.len_sI, jM.len_sL, jM.len_sR, jM.len_fI, jM.len_fL, jM.len_fR, *]; omega)) (by first | omega | (exact R.r _ _) | (simp only [jM.len_sI, jM.len_sL, jM.len_sR, jM.len_fI, jM.len_fL, jM.len_fR]; omega) | (simp [jM.len_nw, jM.len_sI, jM.len_sL, jM.len_sR, jM.len_fI, jM.len_fL, jM.len_fR, *]; omega)) rfl rfl ?_ ?_
        · exact fun _ _ h => h
        rintro _ _ ⟨rfl, rfl⟩
        rw [if_pos (show (jU V 16 13 x2) 16 14 = -1 from hb)]
        have ok75 : (x2 < V 16 12 ∧ (V 116 x2 = 60 ∨ V 116 x2 = 62)) → J γ mX12_test 2 0 0 0 0 (jP β (jU V 16 13 x2)) 75 [(0, .ref (β.2 16)), (1, .int (jI (mof w))), (2, .int (jI (V 116 x2)))] [] (testQ β V) X0 := by
          intro hx
          have R3 := R1 (x2 + 1) (by omega) (by omega)
          obtain ⟨x3, hx3⟩ : ∃ x, sk (V 116) (V 16 12) (x2 + 1) = x := ⟨_, rfl⟩
          have s3 := sk_b (T := V 116) (n := V 16 12) (p := x2 + 1) (by omega)
          rw [hx3] at s3
          obtain ⟨e, v, hN⟩ : ∃ e v, numN (V 116) (V 16 12) 5 x3 0 = (e, v) := ⟨_, _, rfl⟩
          have nb := numN_b (T := V 116) (n := V 16 12) 5 x3 0 s3.2.1 (by omega)
          rw [hN] at nb
          have p5 : ((0 : Int) + 1) * 10 ^ 5 = 100000 := by decide
          rw [p5] at nb
          simp only at nb
          have hP : e ≠ x3 → pTest (V 116) (V 16 12) (V 16 13) = .inr (e, mof w, V 116 x2, v) := fun z => by
            unfold pTest
            rw [hs, hw, hq1, hx2, hx3, hN, if_neg c1, if_neg (Classical.not_not.mpr hx)]
            exact if_neg z
          have hP2 : e = x3 → pTest (V 116) (V 16 12) (V 16 13) = .inl x3 := fun z => by
            unfold pTest
            rw [hs, hw, hq1, hx2, hx3, hN, if_neg c1, if_neg (Classical.not_not.mpr hx)]
            exact if_pos z
          first | refine J.aload_n (pc' := 76) rfl rfl rfl ?_ | refine J.aload_nN (pc' := 76) rfl rfl rfl ?_
          refine J.callV (pc' := 79) (t := 16) rfl MX12_fine ml_X12_212 iv_X12_fine (by decide) ⟨_, rfl, rfl⟩ B.1 (cm_fine B R2) rfl rfl (Nat.le_of_ble_eq_true rfl) (by first | omega | (exact R.r _ _) | (simp only [jM.len_sI, jM.len_sL, jM.len_sR, jM.len_fI, jM.len_fL, jM.len_fR]; omega) | (simp [jM.len_nw, jM.len_sI, jM.len_sL, jM.len_sR, jM.len_fI, jM.len_fL, jM.len_fR, *]; omega)) (by first | omega | (exact R.r _ _) | (simp only [jM.len_sI, jM.len_sL, jM.len_sR, jM.len_fI, jM.len_fL, jM.len_fR]; omega) | (simp [jM.len_nw, jM.len_sI, jM.len_sL, jM.len_sR, jM.len_fI, jM.len_fL, jM.len_fR, *]; omega)) (by first | omega | (exact R.r _ _) | (simp only [jM.len_sI, jM.len_sL, jM.len_sR, jM.len_fI, jM.len_fL, jM.len_fR]; omega) | (simp [jM.len_nw, jM.len_sI, jM.len_sL, jM.len_sR, jM.len_fI, jM.len_fL, jM.len_fR, *]; omega)) rfl rfl ?_ ?_
          · exact fun _ _ h => h
          rintro _ _ ⟨rfl, rfl⟩
          rw [if_pos (show (jU V 16 13 x2) 16 14 = -1 from hb)]
          refine J.if_eq (tgt := 92) (pc' := 82) rfl rfl rfl (by first | omega | (exact R.r _ _) | (simp only [jM.len_sI, jM.len_sL, jM.len_sR, jM.len_fI, jM.len_fL, jM.len_fR]; omega) | (simp [jM.len_nw, jM.len_sI, jM.len_sL, jM.len_sR, jM.len_fI, jM.len_fL, jM.len_fR, *]; omega)) (fun c4 => ?_) (fun c4 => ?_)
          · omega
          · first | refine J.aload_n (pc' := 83) rfl rfl rfl ?_ | refine J.aload_nN (pc' := 83) rfl rfl rfl ?_
            refine J.dup (pc' := 84) rfl rfl rfl ?_
            refine J.mgI (pc' := 87) (j := 13) B rfl fl_X12_191 rfl rfl rfl ?_
            rw [jU_same]
            refine J.iconst (pc' := 88) rfl rfl ?_
            refine J.iadd (pc' := 89) rfl rfl ?_
            refine J.mpI (pc' := 92) (j := 13) B rfl fl_X12_191 rfl rfl rfl rfl ?_
            rw [jU_jU]
            first | refine J.aload_n (pc' := 93) rfl rfl rfl ?_ | refine J.aload_nN (pc' := 93) rfl rfl rfl ?_
            refine J.callV (pc' := 96) (t := 16) rfl MX12_fine ml_X12_212 iv_X12_fine (by decide) ⟨_, rfl, rfl⟩ B.1 (cm_fine B R3) rfl rfl (Nat.le_of_ble_eq_true rfl) (by first | omega | (exact R.r _ _) | (simp only [jM.len_sI, jM.len_sL, jM.len_sR, jM.len_fI, jM.len_fL, jM.len_fR]; omega) | (simp [jM.len_nw, jM.len_sI, jM.len_sL, jM.len_sR, jM.len_fI, jM.len_fL, jM.len_fR, *]; omega)) (by first | omega | (exact R.r _ _) | (simp only [jM.len_sI, jM.len_sL, jM.len_sR, jM.len_fI, jM.len_fL, jM.len_fR]; omega) | (simp [jM.len_nw, jM.len_sI, jM.len_sL, jM.len_sR, jM.len_fI, jM.len_fL, jM.len_fR, *]; omega)) (by first | omega | (exact R.r _ _) | (simp only [jM.len_sI, jM.len_sL, jM.len_sR, jM.len_fI, jM.len_fL, jM.len_fR]; omega) | (simp [jM.len_nw, jM.len_sI, jM.len_sL, jM.len_sR, jM.len_fI, jM.len_fL, jM.len_fR, *]; omega)) rfl rfl ?_ ?_
            · exact fun _ _ h => h
            rintro _ _ ⟨rfl, rfl⟩
            rw [if_pos (show (jU V 16 13 (x2 + 1)) 16 14 = -1 from hb)]
            refine J.if_eq (tgt := 106) (pc' := 99) rfl rfl rfl (by first | omega | (exact R.r _ _) | (simp only [jM.len_sI, jM.len_sL, jM.len_sR, jM.len_fI, jM.len_fL, jM.len_fR]; omega) | (simp [jM.len_nw, jM.len_sI, jM.len_sL, jM.len_sR, jM.len_fI, jM.len_fL, jM.len_fR, *]; omega)) (fun c5 => ?_) (fun c5 => ?_)
            · omega
            · first | refine J.aload_n (pc' := 100) rfl rfl rfl ?_ | refine J.aload_nN (pc' := 100) rfl rfl rfl ?_
              refine J.callV (pc' := 103) (t := 16) rfl MX12_digits ml_X12_236 iv_X12_digits (by decide) ⟨_, rfl, rfl⟩ B.1 (cm_digits B R3 (by rw [jU_same]; show x2 + 1 ≤ V 16 12; omega) hb) rfl rfl (Nat.le_of_ble_eq_true rfl) (by first | omega | (exact R.r _ _) | (simp only [jM.len_sI, jM.len_sL, jM.len_sR, jM.len_fI, jM.len_fL, jM.len_fR]; omega) | (simp [jM.len_nw, jM.len_sI, jM.len_sL, jM.len_sR, jM.len_fI, jM.len_fL, jM.len_fR, *]; omega)) (by first | omega | (exact R.r _ _) | (simp only [jM.len_sI, jM.len_sL, jM.len_sR, jM.len_fI, jM.len_fL, jM.len_fR]; omega) | (simp [jM.len_nw, jM.len_sI, jM.len_sL, jM.len_sR, jM.len_fI, jM.len_fL, jM.len_fR, *]; omega)) (by first | omega | (exact R.r _ _) | (simp only [jM.len_sI, jM.len_sL, jM.len_sR, jM.len_fI, jM.len_fL, jM.len_fR]; omega) | (simp [jM.len_nw, jM.len_sI, jM.len_sL, jM.len_sR, jM.len_fI, jM.len_fL, jM.len_fR, *]; omega)) rfl rfl ?_ ?_
              · exact fun _ _ h => h
              rintro _ _ ⟨rfl, rfl⟩
              have hD : dgV (jU V 16 13 (x2 + 1)) = if e = x3 then jU (jU V 16 13 x3) 16 14 x3 else if e < V 16 12 ∧ (48 ≤ V 116 e ∧ V 116 e ≤ 57) then jU (jU V 16 13 e) 16 14 e else jU V 16 13 e := by
                unfold dgV
                rw [jU_116, jU_i _ (show (12 : Int) ≠ 13 by decide), jU_same, hx3, hN]
                simp only [jU_jU]
              rw [jU_116, jU_i _ (show (12 : Int) ≠ 13 by decide), jU_same, hx3, hN, hD]
              refine J.goto (tgt := 107) rfl rfl ?_
              refine J.istore_n (pc' := 108) rfl rfl (by decide) ?_
              first | refine J.aload_n (pc' := 109) rfl rfl rfl ?_ | refine J.aload_nN (pc' := 109) rfl rfl rfl ?_
              refine J.lc (lv' := [(0, .ref (β.2 16)), (1, .int (jI (mof w))), (2, .int (jI (V 116 x2))), (3, .int (jI v))]) (by repeat' (first | exact trivial | refine ⟨rfl, ?_⟩)) ?_
              by_cases z : e = x3
              · rw [if_pos z]
                refine J.callV (pc' := 112) (t := 16) rfl MX12_fine ml_X12_212 iv_X12_fine (by decide) ⟨_, rfl, rfl⟩ B.1 (cm_fine B (RB x3 (by omega) s3.2.1)) rfl rfl (Nat.le_of_ble_eq_true rfl) (by first | omega | (exact R.r _ _) | (simp only [jM.len_sI, jM.len_sL, jM.len_sR, jM.len_fI, jM.len_fL, jM.len_fR]; omega) | (simp [jM.len_nw, jM.len_sI, jM.len_sL, jM.len_sR, jM.len_fI, jM.len_fL, jM.len_fR, *]; omega)) (by first | omega | (exact R.r _ _) | (simp only [jM.len_sI, jM.len_sL, jM.len_sR, jM.len_fI, jM.len_fL, jM.len_fR]; omega) | (simp [jM.len_nw, jM.len_sI, jM.len_sL, jM.len_sR, jM.len_fI, jM.len_fL, jM.len_fR, *]; omega)) (by first | omega | (exact R.r _ _) | (simp only [jM.len_sI, jM.len_sL, jM.len_sR, jM.len_fI, jM.len_fL, jM.len_fR]; omega) | (simp [jM.len_nw, jM.len_sI, jM.len_sL, jM.len_sR, jM.len_fI, jM.len_fL, jM.len_fR, *]; omega)) rfl rfl ?_ ?_
                · exact fun _ _ h => h
                rintro _ _ ⟨rfl, rfl⟩
                rw [if_neg (by rw [jU_same]; omega)]
                refine J.if_ne (tgt := 116) (pc' := 115) rfl rfl rfl (by first | omega | (exact R.r _ _) | (simp only [jM.len_sI, jM.len_sL, jM.len_sR, jM.len_fI, jM.len_fL, jM.len_fR]; omega) | (simp [jM.len_nw, jM.len_sI, jM.len_sL, jM.len_sR, jM.len_fI, jM.len_fL, jM.len_fR, *]; omega)) (fun c6 => ?_) (fun c6 => ?_)
                · omega
                · refine J.vret rfl rfl (by first | omega | (exact R.r _ _) | (simp only [jM.len_sI, jM.len_sL, jM.len_sR, jM.len_fI, jM.len_fL, jM.len_fR]; omega) | (simp [jM.len_nw, jM.len_sI, jM.len_sL, jM.len_sR, jM.len_fI, jM.len_fL, jM.len_fR, *]; omega)) (by first | omega | (exact R.r _ _) | (simp only [jM.len_sI, jM.len_sL, jM.len_sR, jM.len_fI, jM.len_fL, jM.len_fR]; omega) | (simp [jM.len_nw, jM.len_sI, jM.len_sL, jM.len_sR, jM.len_fI, jM.len_fL, jM.len_fR, *]; omega)) ?_
                  exact ⟨rfl, _, rfl, Or.inl ⟨x3, hP2 z, bS x3 (by omega) s3.2.1⟩⟩
              · rw [if_neg z]
                by_cases z2 : e < V 16 12 ∧ (48 ≤ V 116 e ∧ V 116 e ≤ 57)
                · rw [if_pos z2]
                  refine J.callV (pc' := 112) (t := 16) rfl MX12_fine ml_X12_212 iv_X12_fine (by decide) ⟨_, rfl, rfl⟩ B.1 (cm_fine B (RB e (by omega) (by omega))) rfl rfl (Nat.le_of_ble_eq_true rfl) (by first | omega | (exact R.r _ _) | (simp only [jM.len_sI, jM.len_sL, jM.len_sR, jM.len_fI, jM.len_fL, jM.len_fR]; omega) | (simp [jM.len_nw, jM.len_sI, jM.len_sL, jM.len_sR, jM.len_fI, jM.len_fL, jM.len_fR, *]; omega)) (by first | omega | (exact R.r _ _) | (simp only [jM.len_sI, jM.len_sL, jM.len_sR, jM.len_fI, jM.len_fL, jM.len_fR]; omega) | (simp [jM.len_nw, jM.len_sI, jM.len_sL, jM.len_sR, jM.len_fI, jM.len_fL, jM.len_fR, *]; omega)) (by first | omega | (exact R.r _ _) | (simp only [jM.len_sI, jM.len_sL, jM.len_sR, jM.len_fI, jM.len_fL, jM.len_fR]; omega) | (simp [jM.len_nw, jM.len_sI, jM.len_sL, jM.len_sR, jM.len_fI, jM.len_fL, jM.len_fR, *]; omega)) rfl rfl ?_ ?_
                  · exact fun _ _ h => h
                  rintro _ _ ⟨rfl, rfl⟩
                  rw [if_neg (by rw [jU_same]; omega)]
                  refine J.if_ne (tgt := 116) (pc' := 115) rfl rfl rfl (by first | omega | (exact R.r _ _) | (simp only [jM.len_sI, jM.len_sL, jM.len_sR, jM.len_fI, jM.len_fL, jM.len_fR]; omega) | (simp [jM.len_nw, jM.len_sI, jM.len_sL, jM.len_sR, jM.len_fI, jM.len_fL, jM.len_fR, *]; omega)) (fun c6 => ?_) (fun c6 => ?_)
                  · omega
                  · refine J.vret rfl rfl (by first | omega | (exact R.r _ _) | (simp only [jM.len_sI, jM.len_sL, jM.len_sR, jM.len_fI, jM.len_fL, jM.len_fR]; omega) | (simp [jM.len_nw, jM.len_sI, jM.len_sL, jM.len_sR, jM.len_fI, jM.len_fL, jM.len_fR, *]; omega)) (by first | omega | (exact R.r _ _) | (simp only [jM.len_sI, jM.len_sL, jM.len_sR, jM.len_fI, jM.len_fL, jM.len_fR]; omega) | (simp [jM.len_nw, jM.len_sI, jM.len_sL, jM.len_sR, jM.len_fI, jM.len_fL, jM.len_fR, *]; omega)) ?_
                    exact ⟨rfl, _, rfl, Or.inr ⟨e, _, hP z, Or.inl ⟨z2, bS e (by omega) (by omega)⟩⟩⟩
                · rw [if_neg z2]
                  have tb := pTest_b hp (hP z)
                  simp only at tb
                  have f15 : (jU V 16 13 e) 16 15 = V 16 15 := rfl
                  have f11 : (jU V 16 13 e) 16 11 = V 16 11 := rfl
                  refine J.callV (pc' := 112) (t := 16) rfl MX12_fine ml_X12_212 iv_X12_fine (by decide) ⟨_, rfl, rfl⟩ B.1 (cm_fine B (R1 e (by omega) (by omega))) rfl rfl (Nat.le_of_ble_eq_true rfl) (by first | omega | (exact R.r _ _) | (simp only [jM.len_sI, jM.len_sL, jM.len_sR, jM.len_fI, jM.len_fL, jM.len_fR]; omega) | (simp [jM.len_nw, jM.len_sI, jM.len_sL, jM.len_sR, jM.len_fI, jM.len_fL, jM.len_fR, *]; omega)) (by first | omega | (exact R.r _ _) | (simp only [jM.len_sI, jM.len_sL, jM.len_sR, jM.len_fI, jM.len_fL, jM.len_fR]; omega) | (simp [jM.len_nw, jM.len_sI, jM.len_sL, jM.len_sR, jM.len_fI, jM.len_fL, jM.len_fR, *]; omega)) (by first | omega | (exact R.r _ _) | (simp only [jM.len_sI, jM.len_sL, jM.len_sR, jM.len_fI, jM.len_fL, jM.len_fR]; omega) | (simp [jM.len_nw, jM.len_sI, jM.len_sL, jM.len_sR, jM.len_fI, jM.len_fL, jM.len_fR, *]; omega)) rfl rfl ?_ ?_
                  · exact fun _ _ h => h
                  rintro _ _ ⟨rfl, rfl⟩
                  rw [if_pos (show (jU V 16 13 e) 16 14 = -1 from hb)]
                  have hQ : testQ β V none (jP β (tsV V e (mof w, V 116 x2, v))) := ⟨rfl, _, rfl, Or.inr ⟨e, _, hP z, Or.inr ⟨z2, rfl⟩⟩⟩
                  unfold tsV at hQ
                  simp only at hQ
                  refine J.if_ne (tgt := 116) (pc' := 115) rfl rfl rfl (by first | omega | (exact R.r _ _) | (simp only [jM.len_sI, jM.len_sL, jM.len_sR, jM.len_fI, jM.len_fL, jM.len_fR]; omega) | (simp [jM.len_nw, jM.len_sI, jM.len_sL, jM.len_sR, jM.len_fI, jM.len_fL, jM.len_fR, *]; omega)) (fun c6 => ?_) (fun c6 => ?_)
                  · first | refine J.aload_n (pc' := 117) rfl rfl rfl ?_ | refine J.aload_nN (pc' := 117) rfl rfl rfl ?_
                    refine J.mgR (pc' := 120) (t := 123) B rfl fl_X12_55 rfl rfl (by decide) rfl ?_
                    refine J.bipush (pc' := 122) rfl rfl (by decide) ?_
                    first | refine J.aload_n (pc' := 123) rfl rfl rfl ?_ | refine J.aload_nN (pc' := 123) rfl rfl rfl ?_
                    refine J.mgI (pc' := 126) (j := 11) B rfl fl_X12_239 rfl rfl rfl ?_
                    rw [f11]
                    refine J.imul (pc' := 127) rfl rfl ?_
                    first | refine J.aload_n (pc' := 128) rfl rfl rfl ?_ | refine J.aload_nN (pc' := 128) rfl rfl rfl ?_
                    refine J.mgI (pc' := 131) (j := 15) B rfl fl_X12_242 rfl rfl rfl ?_
                    rw [f15]
                    refine J.iadd (pc' := 132) rfl rfl ?_
                    refine J.iload_n (pc' := 133) rfl rfl rfl ?_
                    refine J.mast (pc' := 134) B rfl rfl rfl rfl (by omega) (by simp only [jLn]; omega) rfl ?_
                    first | refine J.aload_n (pc' := 135) rfl rfl rfl ?_ | refine J.aload_nN (pc' := 135) rfl rfl rfl ?_
                    refine J.mgR (pc' := 138) (t := 124) B rfl fl_X12_58 rfl rfl (by decide) rfl ?_
                    refine J.bipush (pc' := 140) rfl rfl (by decide) ?_
                    first | refine J.aload_n (pc' := 141) rfl rfl rfl ?_ | refine J.aload_nN (pc' := 141) rfl rfl rfl ?_
                    refine J.mgI (pc' := 144) (j := 11) B rfl fl_X12_239 rfl rfl rfl ?_
                    rw [jU_o _ (by decide), f11]
                    refine J.imul (pc' := 145) rfl rfl ?_
                    first | refine J.aload_n (pc' := 146) rfl rfl rfl ?_ | refine J.aload_nN (pc' := 146) rfl rfl rfl ?_
                    refine J.mgI (pc' := 149) (j := 15) B rfl fl_X12_242 rfl rfl rfl ?_
                    rw [jU_o _ (by decide), f15]
                    refine J.iadd (pc' := 150) rfl rfl ?_
                    refine J.iload_n (pc' := 151) rfl rfl rfl ?_
                    refine J.mast (pc' := 152) B rfl rfl rfl rfl (by omega) (by simp only [jLn]; omega) rfl ?_
                    first | refine J.aload_n (pc' := 153) rfl rfl rfl ?_ | refine J.aload_nN (pc' := 153) rfl rfl rfl ?_
                    refine J.mgR (pc' := 156) (t := 125) B rfl fl_X12_61 rfl rfl (by decide) rfl ?_
                    refine J.bipush (pc' := 158) rfl rfl (by decide) ?_
                    first | refine J.aload_n (pc' := 159) rfl rfl rfl ?_ | refine J.aload_nN (pc' := 159) rfl rfl rfl ?_
                    refine J.mgI (pc' := 162) (j := 11) B rfl fl_X12_239 rfl rfl rfl ?_
                    rw [jU_o _ (by decide), jU_o _ (by decide), f11]
                    refine J.imul (pc' := 163) rfl rfl ?_
                    first | refine J.aload_n (pc' := 164) rfl rfl rfl ?_ | refine J.aload_nN (pc' := 164) rfl rfl rfl ?_
                    refine J.mgI (pc' := 167) (j := 15) B rfl fl_X12_242 rfl rfl rfl ?_
                    rw [jU_o _ (by decide), jU_o _ (by decide), f15]
                    refine J.iadd (pc' := 168) rfl rfl ?_
                    refine J.iload_n (pc' := 169) rfl rfl rfl ?_
                    refine J.mast (pc' := 170) B rfl rfl rfl rfl (by omega) (by simp only [jLn]; omega) rfl ?_
                    first | refine J.aload_n (pc' := 171) rfl rfl rfl ?_ | refine J.aload_nN (pc' := 171) rfl rfl rfl ?_
                    refine J.dup (pc' := 172) rfl rfl rfl ?_
                    refine J.mgI (pc' := 175) (j := 15) B rfl fl_X12_242 rfl rfl rfl ?_
                    rw [jU_o _ (by decide), jU_o _ (by decide), jU_o _ (by decide), f15]
                    refine J.iconst (pc' := 176) rfl rfl ?_
                    refine J.iadd (pc' := 177) rfl rfl ?_
                    refine J.mpI (pc' := 180) (j := 15) B rfl fl_X12_242 rfl rfl rfl rfl ?_
                    refine J.vret rfl rfl (by first | omega | (exact R.r _ _) | (simp only [jM.len_sI, jM.len_sL, jM.len_sR, jM.len_fI, jM.len_fL, jM.len_fR]; omega) | (simp [jM.len_nw, jM.len_sI, jM.len_sL, jM.len_sR, jM.len_fI, jM.len_fL, jM.len_fR, *]; omega)) (by first | omega | (exact R.r _ _) | (simp only [jM.len_sI, jM.len_sL, jM.len_sR, jM.len_fI, jM.len_fL, jM.len_fR]; omega) | (simp [jM.len_nw, jM.len_sI, jM.len_sL, jM.len_sR, jM.len_fI, jM.len_fL, jM.len_fR, *]; omega)) ?_
                    exact hQ
                  · omega
        have no75 : ¬ (x2 < V 16 12 ∧ (V 116 x2 = 60 ∨ V 116 x2 = 62)) → J γ mX12_test 2 0 0 0 0 (jP β (jU V 16 13 x2)) 67 [(0, .ref (β.2 16)), (1, .int (jI (mof w))), (2, .int (jI (hv (V 116) (V 16 12) x2)))] [] (testQ β V) X0 := by
          intro hx
          have hP : pTest (V 116) (V 16 12) (V 16 13) = .inl x2 := by
            unfold pTest
            rw [hs, hw, hq1, hx2, if_neg c1, if_pos hx]
          first | refine J.aload_n (pc' := 68) rfl rfl rfl ?_ | refine J.aload_nN (pc' := 68) rfl rfl rfl ?_
          first | refine J.aload_n (pc' := 69) rfl rfl rfl ?_ | refine J.aload_nN (pc' := 69) rfl rfl rfl ?_
          refine J.mgI (pc' := 72) (j := 13) B rfl fl_X12_191 rfl rfl rfl ?_
          rw [jU_same]
          refine J.callV (pc' := 75) (t := 16) rfl MX12_wrong ml_X12_208 iv_X12_wrong (by decide) ⟨_, rfl, rfl⟩ B.1 (cm_wrong B R2) rfl rfl (Nat.le_of_ble_eq_true rfl) (by first | omega | (exact R.r _ _) | (simp only [jM.len_sI, jM.len_sL, jM.len_sR, jM.len_fI, jM.len_fL, jM.len_fR]; omega) | (simp [jM.len_nw, jM.len_sI, jM.len_sL, jM.len_sR, jM.len_fI, jM.len_fL, jM.len_fR, *]; omega)) (by first | omega | (exact R.r _ _) | (simp only [jM.len_sI, jM.len_sL, jM.len_sR, jM.len_fI, jM.len_fL, jM.len_fR]; omega) | (simp [jM.len_nw, jM.len_sI, jM.len_sL, jM.len_sR, jM.len_fI, jM.len_fL, jM.len_fR, *]; omega)) (by first | omega | (exact R.r _ _) | (simp only [jM.len_sI, jM.len_sL, jM.len_sR, jM.len_fI, jM.len_fL, jM.len_fR]; omega) | (simp [jM.len_nw, jM.len_sI, jM.len_sL, jM.len_sR, jM.len_fI, jM.len_fL, jM.len_fR, *]; omega)) rfl rfl ?_ ?_
          · exact fun _ _ h => h
          rintro _ _ ⟨rfl, rfl⟩
          rw [if_pos (show (jU V 16 13 x2) 16 14 = -1 from hb)]
          exact bad _ (RB x2 (by omega) s2.2.1) (by rw [jU_same]; omega) ⟨rfl, _, rfl, Or.inl ⟨x2, hP, bS x2 (by omega) s2.2.1⟩⟩ _ ⟨rfl, trivial⟩
        refine J.if_eq (tgt := 75) (pc' := 55) rfl rfl rfl (by first | omega | (exact R.r _ _) | (simp only [jM.len_sI, jM.len_sL, jM.len_sR, jM.len_fI, jM.len_fL, jM.len_fR]; omega) | (simp [jM.len_nw, jM.len_sI, jM.len_sL, jM.len_sR, jM.len_fI, jM.len_fL, jM.len_fR, *]; omega)) (fun c4 => ?_) (fun c4 => ?_)
        · omega
        · refine J.iload_n (pc' := 56) rfl rfl rfl ?_
          refine J.bipush (pc' := 58) rfl rfl (by decide) ?_
          refine J.icmp_eq (tgt := 75) (pc' := 61) rfl rfl rfl (by first | omega | (exact R.r _ _) | (simp only [jM.len_sI, jM.len_sL, jM.len_sR, jM.len_fI, jM.len_fL, jM.len_fR]; omega) | (simp [jM.len_nw, jM.len_sI, jM.len_sL, jM.len_sR, jM.len_fI, jM.len_fL, jM.len_fR, *]; omega)) (by first | omega | (exact R.r _ _) | (simp only [jM.len_sI, jM.len_sL, jM.len_sR, jM.len_fI, jM.len_fL, jM.len_fR]; omega) | (simp [jM.len_nw, jM.len_sI, jM.len_sL, jM.len_sR, jM.len_fI, jM.len_fL, jM.len_fR, *]; omega)) (fun c5 => ?_) (fun c5 => ?_)
          · have c5' : x2 < V 16 12 ∧ V 116 x2 = 60 := by unfold hv at c5; split at c5 <;> omega
            have e5 : hv (V 116) (V 16 12) x2 = V 116 x2 := by unfold hv; rw [if_pos c5'.1]
            rw [e5]
            exact ok75 ⟨c5'.1, Or.inl c5'.2⟩
          · refine J.iload_n (pc' := 62) rfl rfl rfl ?_
            refine J.bipush (pc' := 64) rfl rfl (by decide) ?_
            refine J.icmp_eq (tgt := 75) (pc' := 67) rfl rfl rfl (by first | omega | (exact R.r _ _) | (simp only [jM.len_sI, jM.len_sL, jM.len_sR, jM.len_fI, jM.len_fL, jM.len_fR]; omega) | (simp [jM.len_nw, jM.len_sI, jM.len_sL, jM.len_sR, jM.len_fI, jM.len_fL, jM.len_fR, *]; omega)) (by first | omega | (exact R.r _ _) | (simp only [jM.len_sI, jM.len_sL, jM.len_sR, jM.len_fI, jM.len_fL, jM.len_fR]; omega) | (simp [jM.len_nw, jM.len_sI, jM.len_sL, jM.len_sR, jM.len_fI, jM.len_fL, jM.len_fR, *]; omega)) (fun c6 => ?_) (fun c6 => ?_)
            · have c5' : x2 < V 16 12 ∧ V 116 x2 = 62 := by unfold hv at c6; split at c6 <;> omega
              have e5 : hv (V 116) (V 16 12) x2 = V 116 x2 := by unfold hv; rw [if_pos c5'.1]
              rw [e5]
              exact ok75 ⟨c5'.1, Or.inr c5'.2⟩
            · refine no75 (fun z => ?_)
              unfold hv at c5 c6
              rw [if_pos z.1] at c5 c6
              rcases z.2 with y | y
              · exact c5 y
              · exact c6 y
  · have hP : pTest (V 116) (V 16 12) (V 16 13) = .inl s := by
      unfold pTest
      rw [hs, hw, if_pos c1]
    first | refine J.aload_n (pc' := 14) rfl rfl rfl ?_ | refine J.aload_nN (pc' := 14) rfl rfl rfl ?_
    first | refine J.aload_n (pc' := 15) rfl rfl rfl ?_ | refine J.aload_nN (pc' := 15) rfl rfl rfl ?_
    refine J.mgI (pc' := 18) (j := 13) B rfl fl_X12_191 rfl rfl rfl ?_
    rw [jU_same]
    refine J.callV (pc' := 21) (t := 16) rfl MX12_wrong ml_X12_208 iv_X12_wrong (by decide) ⟨_, rfl, rfl⟩ B.1 (cm_wrong B (R1 s (by omega) sb.2.1)) rfl rfl (Nat.le_of_ble_eq_true rfl) (by first | omega | (exact R.r _ _) | (simp only [jM.len_sI, jM.len_sL, jM.len_sR, jM.len_fI, jM.len_fL, jM.len_fR]; omega) | (simp [jM.len_nw, jM.len_sI, jM.len_sL, jM.len_sR, jM.len_fI, jM.len_fL, jM.len_fR, *]; omega)) (by first | omega | (exact R.r _ _) | (simp only [jM.len_sI, jM.len_sL, jM.len_sR, jM.len_fI, jM.len_fL, jM.len_fR]; omega) | (simp [jM.len_nw, jM.len_sI, jM.len_sL, jM.len_sR, jM.len_fI, jM.len_fL, jM.len_fR, *]; omega)) (by first | omega | (exact R.r _ _) | (simp only [jM.len_sI, jM.len_sL, jM.len_sR, jM.len_fI, jM.len_fL, jM.len_fR]; omega) | (simp [jM.len_nw, jM.len_sI, jM.len_sL, jM.len_sR, jM.len_fI, jM.len_fL, jM.len_fR, *]; omega)) rfl rfl ?_ ?_
    · exact fun _ _ h => h
    rintro _ _ ⟨rfl, rfl⟩
    rw [if_pos (show (jU V 16 13 s) 16 14 = -1 from hb)]
    exact bad21 _ (RB s (by omega) sb.2.1) (by rw [jU_same]; omega) ⟨rfl, _, rfl, Or.inl ⟨s, hP, bS s (by omega) sb.2.1⟩⟩ _ ⟨rfl, trivial⟩
end M20

