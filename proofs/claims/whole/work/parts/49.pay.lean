def payQ (β : jB) (V : VV) : Option Value → jM → Prop := fun r h' => ∃ x U, r = some (.int (jI x)) ∧ h' = jP β U ∧ (0 ≤ x ∧ x ≤ 99999) ∧ ((∃ e, pPay (V 116) (V 16 12) (V 16 13) = .inl e ∧ badS U V (V 16 11) e) ∨ (∃ q, pPay (V 116) (V 16 12) (V 16 13) = .inr (q, x) ∧ U = jU V 16 13 q ∧ V 16 13 ≤ q ∧ q ≤ V 16 12))
section M21
variable {γ : jG} {β : jB} {V : VV}
theorem badS_of {x : Int} (R : isR V) (x1 : 0 ≤ x) (x2 : x ≤ V 16 12) : badS (jU (jU V 16 13 x) 16 14 x) V (V 16 11) x := by
  have hf := R.f
  exact ⟨(R.up (fun _ => by show (0 : Int) ≤ x ∧ x ≤ 400; omega)).up (fun _ => by show (-1 : Int) ≤ x ∧ x ≤ 400; omega), (scc.rf.up (cSc_16 (by omega))).up (cSc_16 (by omega)), by rw [jU_i _ (by decide), jU_i _ (by decide)], by rw [jU_i _ (by decide), jU_same]; exact x2, jU_same _ _ _ _, fun _ => rfl⟩
theorem cm_payB (B : isB β) (R : isR V) (hb : V 16 14 ≠ -1) : CT γ mX12_pay 3 0 0 [.ref (β.2 16)] (jP β V) (fun r h' => r = some (.int (jI 0)) ∧ h' = jP β V) X0 := by
  refine CT.of MX12_pay (Nat.le_of_ble_eq_true rfl) ?_
  show J γ mX12_pay 3 0 0 0 0 (jP β V) 0 [(0, .ref (β.2 16))] [] _ _
  first | refine J.aload_n (pc' := 1) rfl rfl rfl ?_ | refine J.aload_nN (pc' := 1) rfl rfl rfl ?_
  refine J.callV (pc' := 4) (t := 16) rfl MX12_fine ml_X12_212 iv_X12_fine (by decide) ⟨_, rfl, rfl⟩ B.1 (cm_fine B R) rfl rfl (Nat.le_of_ble_eq_true rfl) (by first | omega | (exact R.r _ _) | (simp only [jM.len_sI, jM.len_sL, jM.len_sR, jM.len_fI, jM.len_fL, jM.len_fR]; omega) | (simp [jM.len_nw, jM.len_sI, jM.len_sL, jM.len_sR, jM.len_fI, jM.len_fL, jM.len_fR, *]; omega)) (by first | omega | (exact R.r _ _) | (simp only [jM.len_sI, jM.len_sL, jM.len_sR, jM.len_fI, jM.len_fL, jM.len_fR]; omega) | (simp [jM.len_nw, jM.len_sI, jM.len_sL, jM.len_sR, jM.len_fI, jM.len_fL, jM.len_fR, *]; omega)) (by first | omega | (exact R.r _ _) | (simp only [jM.len_sI, jM.len_sL, jM.len_sR, jM.len_fI, jM.len_fL, jM.len_fR]; omega) | (simp [jM.len_nw, jM.len_sI, jM.len_sL, jM.len_sR, jM.len_fI, jM.len_fL, jM.len_fR, *]; omega)) rfl rfl ?_ ?_
  · exact fun _ _ h => h
  rintro _ _ ⟨rfl, rfl⟩
  rw [if_neg hb]
  refine J.if_eq (tgt := 14) (pc' := 7) rfl rfl rfl (by first | omega | (exact R.r _ _) | (simp only [jM.len_sI, jM.len_sL, jM.len_sR, jM.len_fI, jM.len_fL, jM.len_fR]; omega) | (simp [jM.len_nw, jM.len_sI, jM.len_sL, jM.len_sR, jM.len_fI, jM.len_fL, jM.len_fR, *]; omega)) (fun c1 => ?_) (fun c1 => ?_)
  · first | refine J.aload_n (pc' := 15) rfl rfl rfl ?_ | refine J.aload_nN (pc' := 15) rfl rfl rfl ?_
    refine J.callV (pc' := 18) (t := 16) rfl MX12_fine ml_X12_212 iv_X12_fine (by decide) ⟨_, rfl, rfl⟩ B.1 (cm_fine B R) rfl rfl (Nat.le_of_ble_eq_true rfl) (by first | omega | (exact R.r _ _) | (simp only [jM.len_sI, jM.len_sL, jM.len_sR, jM.len_fI, jM.len_fL, jM.len_fR]; omega) | (simp [jM.len_nw, jM.len_sI, jM.len_sL, jM.len_sR, jM.len_fI, jM.len_fL, jM.len_fR, *]; omega)) (by first | omega | (exact R.r _ _) | (simp only [jM.len_sI, jM.len_sL, jM.len_sR, jM.len_fI, jM.len_fL, jM.len_fR]; omega) | (simp [jM.len_nw, jM.len_sI, jM.len_sL, jM.len_sR, jM.len_fI, jM.len_fL, jM.len_fR, *]; omega)) (by first | omega | (exact R.r _ _) | (simp only [jM.len_sI, jM.len_sL, jM.len_sR, jM.len_fI, jM.len_fL, jM.len_fR]; omega) | (simp [jM.len_nw, jM.len_sI, jM.len_sL, jM.len_sR, jM.len_fI, jM.len_fL, jM.len_fR, *]; omega)) rfl rfl ?_ ?_
    · exact fun _ _ h => h
    rintro _ _ ⟨rfl, rfl⟩
    rw [if_neg hb]
    refine J.if_eq (tgt := 28) (pc' := 21) rfl rfl rfl (by first | omega | (exact R.r _ _) | (simp only [jM.len_sI, jM.len_sL, jM.len_sR, jM.len_fI, jM.len_fL, jM.len_fR]; omega) | (simp [jM.len_nw, jM.len_sI, jM.len_sL, jM.len_sR, jM.len_fI, jM.len_fL, jM.len_fR, *]; omega)) (fun c2 => ?_) (fun c2 => ?_)
    · refine J.iconst (pc' := 29) rfl rfl ?_
      refine J.istore_n (pc' := 30) rfl rfl (by decide) ?_
      first | refine J.aload_n (pc' := 31) rfl rfl rfl ?_ | refine J.aload_nN (pc' := 31) rfl rfl rfl ?_
      refine J.callV (pc' := 34) (t := 16) rfl MX12_fine ml_X12_212 iv_X12_fine (by decide) ⟨_, rfl, rfl⟩ B.1 (cm_fine B R) rfl rfl (Nat.le_of_ble_eq_true rfl) (by first | omega | (exact R.r _ _) | (simp only [jM.len_sI, jM.len_sL, jM.len_sR, jM.len_fI, jM.len_fL, jM.len_fR]; omega) | (simp [jM.len_nw, jM.len_sI, jM.len_sL, jM.len_sR, jM.len_fI, jM.len_fL, jM.len_fR, *]; omega)) (by first | omega | (exact R.r _ _) | (simp only [jM.len_sI, jM.len_sL, jM.len_sR, jM.len_fI, jM.len_fL, jM.len_fR]; omega) | (simp [jM.len_nw, jM.len_sI, jM.len_sL, jM.len_sR, jM.len_fI, jM.len_fL, jM.len_fR, *]; omega)) (by first | omega | (exact R.r _ _) | (simp only [jM.len_sI, jM.len_sL, jM.len_sR, jM.len_fI, jM.len_fL, jM.len_fR]; omega) | (simp [jM.len_nw, jM.len_sI, jM.len_sL, jM.len_sR, jM.len_fI, jM.len_fL, jM.len_fR, *]; omega)) rfl rfl ?_ ?_
      · exact fun _ _ h => h
      rintro _ _ ⟨rfl, rfl⟩
      rw [if_neg hb]
      refine J.if_eq (tgt := 43) (pc' := 37) rfl rfl rfl (by first | omega | (exact R.r _ _) | (simp only [jM.len_sI, jM.len_sL, jM.len_sR, jM.len_fI, jM.len_fL, jM.len_fR]; omega) | (simp [jM.len_nw, jM.len_sI, jM.len_sL, jM.len_sR, jM.len_fI, jM.len_fL, jM.len_fR, *]; omega)) (fun c3 => ?_) (fun c3 => ?_)
      · refine J.iload_n (pc' := 44) rfl rfl rfl ?_
        refine J.iret rfl rfl (by first | omega | (exact R.r _ _) | (simp only [jM.len_sI, jM.len_sL, jM.len_sR, jM.len_fI, jM.len_fL, jM.len_fR]; omega) | (simp [jM.len_nw, jM.len_sI, jM.len_sL, jM.len_sR, jM.len_fI, jM.len_fL, jM.len_fR, *]; omega)) (by first | omega | (exact R.r _ _) | (simp only [jM.len_sI, jM.len_sL, jM.len_sR, jM.len_fI, jM.len_fL, jM.len_fR]; omega) | (simp [jM.len_nw, jM.len_sI, jM.len_sL, jM.len_sR, jM.len_fI, jM.len_fL, jM.len_fR, *]; omega)) ?_
        exact ⟨rfl, rfl⟩
      · omega
    · omega
  · omega
set_option maxHeartbeats 2000000 in
theorem cm_pay (B : isB β) (R : isR V) (hp : V 16 13 ≤ V 16 12) (hb : V 16 14 = -1) : CT γ mX12_pay 3 0 0 [.ref (β.2 16)] (jP β V) (payQ β V) X0 := by
  have hf := R.f
  obtain ⟨s, hs⟩ : ∃ s, sk (V 116) (V 16 12) (V 16 13) = s := ⟨_, rfl⟩
  have sb := sk_b (T := V 116) hp
  rw [hs] at sb
  obtain ⟨w, hw⟩ : ∃ w, wcode (V 116) (V 16 12) s = w := ⟨_, rfl⟩
  have R1 : ∀ x, 0 ≤ x → x ≤ V 16 12 → isR (jU V 16 13 x) := fun x x1 x2 => R.up (fun _ => by show (0 : Int) ≤ x ∧ x ≤ 400; omega)
  have RB : ∀ x, 0 ≤ x → x ≤ V 16 12 → isR (jU (jU V 16 13 x) 16 14 x) := fun x x1 x2 => (badS_of R x1 x2).1
  have tail : ∀ U x, isR U → U 16 14 ≠ -1 → payQ β V (some (.int (jI x))) (jP β U) → ∀ lv, hasL lv [(0, .ref (β.2 16)), (1, .int (jI x))] → J γ mX12_pay 3 0 0 0 0 (jP β U) 30 lv [] (payQ β V) X0 := by
    intro U x RU hU hq lv hlv
    refine J.lc hlv ?_
    first | refine J.aload_n (pc' := 31) rfl rfl rfl ?_ | refine J.aload_nN (pc' := 31) rfl rfl rfl ?_
    refine J.callV (pc' := 34) (t := 16) rfl MX12_fine ml_X12_212 iv_X12_fine (by decide) ⟨_, rfl, rfl⟩ B.1 (cm_fine B RU) rfl rfl (Nat.le_of_ble_eq_true rfl) (by first | omega | (exact R.r _ _) | (simp only [jM.len_sI, jM.len_sL, jM.len_sR, jM.len_fI, jM.len_fL, jM.len_fR]; omega) | (simp [jM.len_nw, jM.len_sI, jM.len_sL, jM.len_sR, jM.len_fI, jM.len_fL, jM.len_fR, *]; omega)) (by first | omega | (exact R.r _ _) | (simp only [jM.len_sI, jM.len_sL, jM.len_sR, jM.len_fI, jM.len_fL, jM.len_fR]; omega) | (simp [jM.len_nw, jM.len_sI, jM.len_sL, jM.len_sR, jM.len_fI, jM.len_fL, jM.len_fR, *]; omega)) (by first | omega | (exact R.r _ _) | (simp only [jM.len_sI, jM.len_sL, jM.len_sR, jM.len_fI, jM.len_fL, jM.len_fR]; omega) | (simp [jM.len_nw, jM.len_sI, jM.len_sL, jM.len_sR, jM.len_fI, jM.len_fL, jM.len_fR, *]; omega)) rfl rfl ?_ ?_
    · exact fun _ _ h => h
    rintro _ _ ⟨rfl, rfl⟩
    rw [if_neg hU]
    refine J.if_eq (tgt := 43) (pc' := 37) rfl rfl rfl (by first | omega | (exact R.r _ _) | (simp only [jM.len_sI, jM.len_sL, jM.len_sR, jM.len_fI, jM.len_fL, jM.len_fR]; omega) | (simp [jM.len_nw, jM.len_sI, jM.len_sL, jM.len_sR, jM.len_fI, jM.len_fL, jM.len_fR, *]; omega)) (fun c3 => ?_) (fun c3 => ?_)
    · refine J.iload_n (pc' := 44) rfl rfl rfl ?_
      refine J.iret rfl rfl (by first | omega | (exact R.r _ _) | (simp only [jM.len_sI, jM.len_sL, jM.len_sR, jM.len_fI, jM.len_fL, jM.len_fR]; omega) | (simp [jM.len_nw, jM.len_sI, jM.len_sL, jM.len_sR, jM.len_fI, jM.len_fL, jM.len_fR, *]; omega)) (by first | omega | (exact R.r _ _) | (simp only [jM.len_sI, jM.len_sL, jM.len_sR, jM.len_fI, jM.len_fL, jM.len_fR]; omega) | (simp [jM.len_nw, jM.len_sI, jM.len_sL, jM.len_sR, jM.len_fI, jM.len_fL, jM.len_fR, *]; omega)) ?_
      exact hq
    · omega
  refine CT.of MX12_pay (Nat.le_of_ble_eq_true rfl) ?_
  show J γ mX12_pay 3 0 0 0 0 (jP β V) 0 [(0, .ref (β.2 16))] [] _ _
  first | refine J.aload_n (pc' := 1) rfl rfl rfl ?_ | refine J.aload_nN (pc' := 1) rfl rfl rfl ?_
  refine J.callV (pc' := 4) (t := 16) rfl MX12_fine ml_X12_212 iv_X12_fine (by decide) ⟨_, rfl, rfl⟩ B.1 (cm_fine B R) rfl rfl (Nat.le_of_ble_eq_true rfl) (by first | omega | (exact R.r _ _) | (simp only [jM.len_sI, jM.len_sL, jM.len_sR, jM.len_fI, jM.len_fL, jM.len_fR]; omega) | (simp [jM.len_nw, jM.len_sI, jM.len_sL, jM.len_sR, jM.len_fI, jM.len_fL, jM.len_fR, *]; omega)) (by first | omega | (exact R.r _ _) | (simp only [jM.len_sI, jM.len_sL, jM.len_sR, jM.len_fI, jM.len_fL, jM.len_fR]; omega) | (simp [jM.len_nw, jM.len_sI, jM.len_sL, jM.len_sR, jM.len_fI, jM.len_fL, jM.len_fR, *]; omega)) (by first | omega | (exact R.r _ _) | (simp only [jM.len_sI, jM.len_sL, jM.len_sR, jM.len_fI, jM.len_fL, jM.len_fR]; omega) | (simp [jM.len_nw, jM.len_sI, jM.len_sL, jM.len_sR, jM.len_fI, jM.len_fL, jM.len_fR, *]; omega)) rfl rfl ?_ ?_
  · exact fun _ _ h => h
  rintro _ _ ⟨rfl, rfl⟩
  rw [if_pos hb]
  refine J.if_eq (tgt := 14) (pc' := 7) rfl rfl rfl (by first | omega | (exact R.r _ _) | (simp only [jM.len_sI, jM.len_sL, jM.len_sR, jM.len_fI, jM.len_fL, jM.len_fR]; omega) | (simp [jM.len_nw, jM.len_sI, jM.len_sL, jM.len_sR, jM.len_fI, jM.len_fL, jM.len_fR, *]; omega)) (fun c1 => ?_) (fun c1 => ?_)
  · omega
  · first | refine J.aload_n (pc' := 8) rfl rfl rfl ?_ | refine J.aload_nN (pc' := 8) rfl rfl rfl ?_
    refine J.ldc2 (pc' := 11) (z := 7364985) (v := 7364985) rfl (List.mem_of_getElem? (i := 1722) (by decide +kernel)) (by decide) rfl ?_
    refine J.callV (pc' := 14) (t := 16) rfl MX12_needWord ml_X12_247 iv_X12_needWord (by decide) ⟨_, rfl, rfl⟩ B.1 (cm_needWord B R hp hb (by decide)) rfl rfl (Nat.le_of_ble_eq_true rfl) (by first | omega | (exact R.r _ _) | (simp only [jM.len_sI, jM.len_sL, jM.len_sR, jM.len_fI, jM.len_fL, jM.len_fR]; omega) | (simp [jM.len_nw, jM.len_sI, jM.len_sL, jM.len_sR, jM.len_fI, jM.len_fL, jM.len_fR, *]; omega)) (by first | omega | (exact R.r _ _) | (simp only [jM.len_sI, jM.len_sL, jM.len_sR, jM.len_fI, jM.len_fL, jM.len_fR]; omega) | (simp [jM.len_nw, jM.len_sI, jM.len_sL, jM.len_sR, jM.len_fI, jM.len_fL, jM.len_fR, *]; omega)) (by first | omega | (exact R.r _ _) | (simp only [jM.len_sI, jM.len_sL, jM.len_sR, jM.len_fI, jM.len_fL, jM.len_fR]; omega) | (simp [jM.len_nw, jM.len_sI, jM.len_sL, jM.len_sR, jM.len_fI, jM.len_fL, jM.len_fR, *]; omega)) rfl rfl ?_ ?_
    · exact fun _ _ h => h
    rintro _ _ ⟨rfl, rfl⟩
    rw [hs, hw]
    by_cases c2 : w = 7364985
    · rw [if_pos c2]
      have web := we_b (T := V 116) sb.2.1
      obtain ⟨q1, hq1⟩ : ∃ x, we (V 116) (V 16 12) s = x := ⟨_, rfl⟩
      rw [hq1] at web ⊢
      have Rq := R1 q1 (by omega) web.2.1
      obtain ⟨x2, hx2⟩ : ∃ x, sk (V 116) (V 16 12) q1 = x := ⟨_, rfl⟩
      have s2 := sk_b (T := V 116) web.2.1
      rw [hx2] at s2
      obtain ⟨e, v, hN⟩ : ∃ e v, numN (V 116) (V 16 12) 5 x2 0 = (e, v) := ⟨_, _, rfl⟩
      have nb := numN_b (T := V 116) (n := V 16 12) 5 x2 0 s2.2.1 (by omega)
      rw [hN] at nb
      have p5 : ((0 : Int) + 1) * 10 ^ 5 = 100000 := by decide
      rw [p5] at nb
      simp only at nb
      obtain ⟨x3, hx3⟩ : ∃ x, sk (V 116) (V 16 12) e = x := ⟨_, rfl⟩
      have s3 := sk_b (T := V 116) (n := V 16 12) (p := e) nb.2.2.1
      rw [hx3] at s3
      have hP : pPay (V 116) (V 16 12) (V 16 13) = if e = x2 then .inl x2 else if x3 < V 16 12 ∧ V 116 x3 = 59 then .inr (x3 + 1, v) else .inl x3 := by
        unfold pPay
        rw [hs, hw, hq1, hx2, hN, if_neg (fun z => z c2)]
        simp only
        rw [hx3]
      first | refine J.aload_n (pc' := 15) rfl rfl rfl ?_ | refine J.aload_nN (pc' := 15) rfl rfl rfl ?_
      refine J.callV (pc' := 18) (t := 16) rfl MX12_fine ml_X12_212 iv_X12_fine (by decide) ⟨_, rfl, rfl⟩ B.1 (cm_fine B Rq) rfl rfl (Nat.le_of_ble_eq_true rfl) (by first | omega | (exact R.r _ _) | (simp only [jM.len_sI, jM.len_sL, jM.len_sR, jM.len_fI, jM.len_fL, jM.len_fR]; omega) | (simp [jM.len_nw, jM.len_sI, jM.len_sL, jM.len_sR, jM.len_fI, jM.len_fL, jM.len_fR, *]; omega)) (by first | omega | (exact R.r _ _) | (simp only [jM.len_sI, jM.len_sL, jM.len_sR, jM.len_fI, jM.len_fL, jM.len_fR]; omega) | (simp [jM.len_nw, jM.len_sI, jM.len_sL, jM.len_sR, jM.len_fI, jM.len_fL, jM.len_fR, *]; omega)) (by first | omega | (exact R.r _ _) | (simp only [jM.len_sI, jM.len_sL, jM.len_sR, jM.len_fI, jM.len_fL, jM.len_fR]; omega) | (simp [jM.len_nw, jM.len_sI, jM.len_sL, jM.len_sR, jM.len_fI, jM.len_fL, jM.len_fR, *]; omega)) rfl rfl ?_ ?_
      · exact fun _ _ h => h
      rintro _ _ ⟨rfl, rfl⟩
      rw [if_pos (show (jU V 16 13 q1) 16 14 = -1 from hb)]
      refine J.if_eq (tgt := 28) (pc' := 21) rfl rfl rfl (by first | omega | (exact R.r _ _) | (simp only [jM.len_sI, jM.len_sL, jM.len_sR, jM.len_fI, jM.len_fL, jM.len_fR]; omega) | (simp [jM.len_nw, jM.len_sI, jM.len_sL, jM.len_sR, jM.len_fI, jM.len_fL, jM.len_fR, *]; omega)) (fun c3 => ?_) (fun c3 => ?_)
      · omega
      · first | refine J.aload_n (pc' := 22) rfl rfl rfl ?_ | refine J.aload_nN (pc' := 22) rfl rfl rfl ?_
        refine J.callV (pc' := 25) (t := 16) rfl MX12_digits ml_X12_236 iv_X12_digits (by decide) ⟨_, rfl, rfl⟩ B.1 (cm_digits B Rq (by rw [jU_same]; exact web.2.1) hb) rfl rfl (Nat.le_of_ble_eq_true rfl) (by first | omega | (exact R.r _ _) | (simp only [jM.len_sI, jM.len_sL, jM.len_sR, jM.len_fI, jM.len_fL, jM.len_fR]; omega) | (simp [jM.len_nw, jM.len_sI, jM.len_sL, jM.len_sR, jM.len_fI, jM.len_fL, jM.len_fR, *]; omega)) (by first | omega | (exact R.r _ _) | (simp only [jM.len_sI, jM.len_sL, jM.len_sR, jM.len_fI, jM.len_fL, jM.len_fR]; omega) | (simp [jM.len_nw, jM.len_sI, jM.len_sL, jM.len_sR, jM.len_fI, jM.len_fL, jM.len_fR, *]; omega)) (by first | omega | (exact R.r _ _) | (simp only [jM.len_sI, jM.len_sL, jM.len_sR, jM.len_fI, jM.len_fL, jM.len_fR]; omega) | (simp [jM.len_nw, jM.len_sI, jM.len_sL, jM.len_sR, jM.len_fI, jM.len_fL, jM.len_fR, *]; omega)) rfl rfl ?_ ?_
        · exact fun _ _ h => h
        rintro _ _ ⟨rfl, rfl⟩
        have hD : dgV (jU V 16 13 q1) = if e = x2 then jU (jU V 16 13 x2) 16 14 x2 else if e < V 16 12 ∧ (48 ≤ V 116 e ∧ V 116 e ≤ 57) then jU (jU V 16 13 e) 16 14 e else jU V 16 13 e := by
          unfold dgV
          rw [jU_116, jU_i _ (show (12 : Int) ≠ 13 by decide), jU_same, hx2, hN]
          simp only [jU_jU]
        rw [jU_116, jU_i _ (show (12 : Int) ≠ 13 by decide), jU_same, hx2, hN, hD]
        refine J.goto (tgt := 29) rfl rfl ?_
        refine J.istore_n (pc' := 30) rfl rfl (by decide) ?_
        by_cases z : e = x2
        · rw [if_pos z]
          rw [if_pos z] at hP
          exact tail _ v (RB x2 (by omega) s2.2.1) (by rw [jU_same]; omega) ⟨v, _, rfl, rfl, by omega, Or.inl ⟨x2, hP, badS_of R (by omega) s2.2.1⟩⟩ _ ⟨rfl, rfl, trivial⟩
        · rw [if_neg z]
          rw [if_neg z] at hP
          by_cases z2 : e < V 16 12 ∧ (48 ≤ V 116 e ∧ V 116 e ≤ 57)
          · rw [if_pos z2]
            have e3 : x3 = e := by rw [← hx3]; exact sk_st (Or.inr (by omega))
            rw [e3, if_neg (by omega)] at hP
            exact tail _ v (RB e (by omega) (by omega)) (by rw [jU_same]; omega) ⟨v, _, rfl, rfl, by omega, Or.inl ⟨e, hP, badS_of R (by omega) (by omega)⟩⟩ _ ⟨rfl, rfl, trivial⟩
          · rw [if_neg z2]
            have Re := R1 e (by omega) (by omega)
            refine J.lc (lv' := [(0, .ref (β.2 16)), (1, .int (jI v))]) (by repeat' (first | exact trivial | refine ⟨rfl, ?_⟩)) ?_
            first | refine J.aload_n (pc' := 31) rfl rfl rfl ?_ | refine J.aload_nN (pc' := 31) rfl rfl rfl ?_
            refine J.callV (pc' := 34) (t := 16) rfl MX12_fine ml_X12_212 iv_X12_fine (by decide) ⟨_, rfl, rfl⟩ B.1 (cm_fine B Re) rfl rfl (Nat.le_of_ble_eq_true rfl) (by first | omega | (exact R.r _ _) | (simp only [jM.len_sI, jM.len_sL, jM.len_sR, jM.len_fI, jM.len_fL, jM.len_fR]; omega) | (simp [jM.len_nw, jM.len_sI, jM.len_sL, jM.len_sR, jM.len_fI, jM.len_fL, jM.len_fR, *]; omega)) (by first | omega | (exact R.r _ _) | (simp only [jM.len_sI, jM.len_sL, jM.len_sR, jM.len_fI, jM.len_fL, jM.len_fR]; omega) | (simp [jM.len_nw, jM.len_sI, jM.len_sL, jM.len_sR, jM.len_fI, jM.len_fL, jM.len_fR, *]; omega)) (by first | omega | (exact R.r _ _) | (simp only [jM.len_sI, jM.len_sL, jM.len_sR, jM.len_fI, jM.len_fL, jM.len_fR]; omega) | (simp [jM.len_nw, jM.len_sI, jM.len_sL, jM.len_sR, jM.len_fI, jM.len_fL, jM.len_fR, *]; omega)) rfl rfl ?_ ?_
            · exact fun _ _ h => h
            rintro _ _ ⟨rfl, rfl⟩
            rw [if_pos (show (jU V 16 13 e) 16 14 = -1 from hb)]
            refine J.if_eq (tgt := 43) (pc' := 37) rfl rfl rfl (by first | omega | (exact R.r _ _) | (simp only [jM.len_sI, jM.len_sL, jM.len_sR, jM.len_fI, jM.len_fL, jM.len_fR]; omega) | (simp [jM.len_nw, jM.len_sI, jM.len_sL, jM.len_sR, jM.len_fI, jM.len_fL, jM.len_fR, *]; omega)) (fun c4 => ?_) (fun c4 => ?_)
            · omega
            · first | refine J.aload_n (pc' := 38) rfl rfl rfl ?_ | refine J.aload_nN (pc' := 38) rfl rfl rfl ?_
              refine J.bipush (pc' := 40) rfl rfl (by decide) ?_
              refine J.callV (pc' := 43) (t := 16) rfl MX12_need ml_X12_251 iv_X12_need (by decide) ⟨_, rfl, rfl⟩ B.1 (cm_need B Re (by rw [jU_same]; show e ≤ V 16 12; omega) hb (by decide)) rfl rfl (Nat.le_of_ble_eq_true rfl) (by first | omega | (exact R.r _ _) | (simp only [jM.len_sI, jM.len_sL, jM.len_sR, jM.len_fI, jM.len_fL, jM.len_fR]; omega) | (simp [jM.len_nw, jM.len_sI, jM.len_sL, jM.len_sR, jM.len_fI, jM.len_fL, jM.len_fR, *]; omega)) (by first | omega | (exact R.r _ _) | (simp only [jM.len_sI, jM.len_sL, jM.len_sR, jM.len_fI, jM.len_fL, jM.len_fR]; omega) | (simp [jM.len_nw, jM.len_sI, jM.len_sL, jM.len_sR, jM.len_fI, jM.len_fL, jM.len_fR, *]; omega)) (by first | omega | (exact R.r _ _) | (simp only [jM.len_sI, jM.len_sL, jM.len_sR, jM.len_fI, jM.len_fL, jM.len_fR]; omega) | (simp [jM.len_nw, jM.len_sI, jM.len_sL, jM.len_sR, jM.len_fI, jM.len_fL, jM.len_fR, *]; omega)) rfl rfl ?_ ?_
              · exact fun _ _ h => h
              rintro _ _ ⟨rfl, rfl⟩
              rw [jU_116, jU_i _ (show (12 : Int) ≠ 13 by decide), jU_same, hx3, jU_jU, jU_jU]
              refine J.iload_n (pc' := 44) rfl rfl rfl ?_
              refine J.iret rfl rfl (by first | omega | (exact R.r _ _) | (simp only [jM.len_sI, jM.len_sL, jM.len_sR, jM.len_fI, jM.len_fL, jM.len_fR]; omega) | (simp [jM.len_nw, jM.len_sI, jM.len_sL, jM.len_sR, jM.len_fI, jM.len_fL, jM.len_fR, *]; omega)) (by first | omega | (exact R.r _ _) | (simp only [jM.len_sI, jM.len_sL, jM.len_sR, jM.len_fI, jM.len_fL, jM.len_fR]; omega) | (simp [jM.len_nw, jM.len_sI, jM.len_sL, jM.len_sR, jM.len_fI, jM.len_fL, jM.len_fR, *]; omega)) ?_
              by_cases z3 : x3 < V 16 12 ∧ V 116 x3 = 59
              · rw [if_pos z3] at hP ⊢
                exact ⟨v, _, rfl, rfl, by omega, Or.inr ⟨_, hP, rfl, by omega, by omega⟩⟩
              · rw [if_neg z3] at hP ⊢
                exact ⟨v, _, rfl, rfl, by omega, Or.inl ⟨_, hP, badS_of R (by omega) (by omega)⟩⟩
    · rw [if_neg c2]
      have hP : pPay (V 116) (V 16 12) (V 16 13) = .inl s := by
        unfold pPay
        rw [hs, hw, if_pos c2]
      first | refine J.aload_n (pc' := 15) rfl rfl rfl ?_ | refine J.aload_nN (pc' := 15) rfl rfl rfl ?_
      refine J.callV (pc' := 18) (t := 16) rfl MX12_fine ml_X12_212 iv_X12_fine (by decide) ⟨_, rfl, rfl⟩ B.1 (cm_fine B (RB s (by omega) sb.2.1)) rfl rfl (Nat.le_of_ble_eq_true rfl) (by first | omega | (exact R.r _ _) | (simp only [jM.len_sI, jM.len_sL, jM.len_sR, jM.len_fI, jM.len_fL, jM.len_fR]; omega) | (simp [jM.len_nw, jM.len_sI, jM.len_sL, jM.len_sR, jM.len_fI, jM.len_fL, jM.len_fR, *]; omega)) (by first | omega | (exact R.r _ _) | (simp only [jM.len_sI, jM.len_sL, jM.len_sR, jM.len_fI, jM.len_fL, jM.len_fR]; omega) | (simp [jM.len_nw, jM.len_sI, jM.len_sL, jM.len_sR, jM.len_fI, jM.len_fL, jM.len_fR, *]; omega)) (by first | omega | (exact R.r _ _) | (simp only [jM.len_sI, jM.len_sL, jM.len_sR, jM.len_fI, jM.len_fL, jM.len_fR]; omega) | (simp [jM.len_nw, jM.len_sI, jM.len_sL, jM.len_sR, jM.len_fI, jM.len_fL, jM.len_fR, *]; omega)) rfl rfl ?_ ?_
      · exact fun _ _ h => h
      rintro _ _ ⟨rfl, rfl⟩
      rw [if_neg (by rw [jU_same]; omega)]
      refine J.if_eq (tgt := 28) (pc' := 21) rfl rfl rfl (by first | omega | (exact R.r _ _) | (simp only [jM.len_sI, jM.len_sL, jM.len_sR, jM.len_fI, jM.len_fL, jM.len_fR]; omega) | (simp [jM.len_nw, jM.len_sI, jM.len_sL, jM.len_sR, jM.len_fI, jM.len_fL, jM.len_fR, *]; omega)) (fun c3 => ?_) (fun c3 => ?_)
      · refine J.iconst (pc' := 29) rfl rfl ?_
        refine J.istore_n (pc' := 30) rfl rfl (by decide) ?_
        exact tail _ 0 (RB s (by omega) sb.2.1) (by rw [jU_same]; omega) ⟨0, _, rfl, rfl, by omega, Or.inl ⟨s, hP, badS_of R (by omega) sb.2.1⟩⟩ _ ⟨rfl, rfl, trivial⟩
      · omega
end M21

