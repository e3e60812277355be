section M23
variable {γ : jG} {β : jB} {V : VV}
/-- a grade's tests are read, its pay comes -/
theorem ct_213 {n sel dy c p k K : Int} {j : Nat} {U : VV} {gl : List Grd} {l : List Tst} (B : isB β) (h : cS U V c n p k) (hn : 0 ≤ p ∧ n ≤ 400) (hc : 0 ≤ c ∧ c < 20) (e11 : U 16 11 = c) (hG : gRep U c gl K) (hT : tRep U c K l) (hk : k = K + (l.length : Int)) (hK : 0 ≤ K) (hj : gl.length + (j + 1) = 12)
    (IH : ∀ (p : Int) (U : VV) (gl' : List Grd) (K : Int), gl'.length + j = 12 → 0 ≤ p → cS U V c n p K → U 16 11 = c → gRep U c gl' K → 0 ≤ K → ∀ lv, hasL lv (ctL β n sel dy c) → J γ mX12_contract 4 0 0 0 0 (jP β U) 131 lv [] (ctR β V c sel dy (pRest (V 116) n j p gl')) X0)
    {lv : List (Nat × Value)} (hlv : hasL lv (ctL β n sel dy c)) : J γ mX12_contract 4 0 0 0 0 (jP β U) 213 lv [] (ctR β V c sel dy (kPay (V 116) n j gl l (pPay (V 116) n p))) X0 := by
  have h0 := h
  obtain ⟨R, S, a1, a2, a3, a4, a5, a6, a7⟩ := h0
  have eT := S.T
  refine J.lc hlv ?_
  first | refine J.aload_n (pc' := 214) rfl rfl rfl ?_ | refine J.aload_nN (pc' := 214) rfl rfl rfl ?_
  refine J.callV (pc' := 217) (t := 16) rfl MX12_pay ml_X12_259 iv_X12_pay (by decide) ⟨_, rfl, rfl⟩ B.1 (cm_pay B R (by omega) a3) rfl rfl (Nat.le_of_ble_eq_true rfl) (by first | omega | (exact R.r _ _) | (simp only [jM.len_sI, jM.len_sL, jM.len_sR, jM.len_fI, jM.len_fL, jM.len_fR]; omega) | (simp [jM.len_nw, jM.len_sI, jM.len_sL, jM.len_sR, jM.len_fI, jM.len_fL, jM.len_fR, *]; omega)) (by first | omega | (exact R.r _ _) | (simp only [jM.len_sI, jM.len_sL, jM.len_sR, jM.len_fI, jM.len_fL, jM.len_fR]; omega) | (simp [jM.len_nw, jM.len_sI, jM.len_sL, jM.len_sR, jM.len_fI, jM.len_fL, jM.len_fR, *]; omega)) (by first | omega | (exact R.r _ _) | (simp only [jM.len_sI, jM.len_sL, jM.len_sR, jM.len_fI, jM.len_fL, jM.len_fR]; omega) | (simp [jM.len_nw, jM.len_sI, jM.len_sL, jM.len_sR, jM.len_fI, jM.len_fL, jM.len_fR, *]; omega)) rfl rfl ?_ ?_
  · exact fun _ _ h => h
  rintro _ _ ⟨x, U', rfl, rfl, hx, hq⟩
  rw [eT, a1, a2, e11] at hq
  rcases hq with ⟨e, hP, hb⟩ | ⟨q, hP, hU, hq1, hq2⟩
  · rw [hP]
    have eb := pPay_e (by omega) hP
    have hB := hb.cB S a1 eb.1
    have e9 : U' 119 c = (gl.length : Int) := by rw [hb.2.2.2.2.2]; exact hG.1
    exact ct_217 B hB.1 hc e9 (by omega) (fun lv hlv => ct_b131 B ⟨gwV_R hB.1 (by omega) hx, gwV_S hB.2.1 (by omega), hB.2.2.1, hB.2.2.2.1, hB.2.2.2.2.1, hB.2.2.2.2.2⟩ hlv) ⟨rfl, rfl, rfl, rfl, rfl, trivial⟩
  · rw [hP]
    subst hU
    have hS1 := h.at (q := q) hn.2 (by omega)
    have hg1 : (jU U 16 13 q) 119 c = (gl.length : Int) := hG.1
    refine ct_217 B hS1.1 hc hg1 (by omega) (fun lv hlv => ?_) ⟨rfl, rfl, rfl, rfl, rfl, trivial⟩
    have hk' : (jU U 16 13 q) 16 15 = K + (l.length : Int) := by rw [jU_i _ (by decide), a4, hk]
    have hG2 := gwV_g (x := x) (hG.at (i := 13) (q := q)) (hT.at (i := 13) (q := q)) hk' hK
    refine IH q _ (gl ++ [(l, x)]) k (by simp; omega) (by omega) ⟨gwV_R hS1.1 (by omega) hx, gwV_S hS1.2.1 (by omega), hS1.2.2.1, hS1.2.2.2.1, hS1.2.2.2.2.1, hS1.2.2.2.2.2.1, hq2, by omega, ?_⟩ e11 ?_ (by omega) lv hlv
    · unfold gwV
      rw [jU_o _ (by decide), jU_o _ (by decide), jU_o _ (by decide)]
      exact a7
    · rw [hk', ← hk] at hG2
      exact hG2
/-- a test is read, at q; a comma may follow -/
theorem ct_180 {n sel dy c K : Int} {j : Nat} {gl : List Grd} (B : isB β) (hn : n ≤ 400) (hc : 0 ≤ c ∧ c < 20) (hK : 0 ≤ K) (hj : gl.length + (j + 1) = 12)
    (IH : ∀ (p : Int) (U : VV) (gl' : List Grd) (K : Int), gl'.length + j = 12 → 0 ≤ p → cS U V c n p K → U 16 11 = c → gRep U c gl' K → 0 ≤ K → ∀ lv, hasL lv (ctL β n sel dy c) → J γ mX12_contract 4 0 0 0 0 (jP β U) 131 lv [] (ctR β V c sel dy (pRest (V 116) n j p gl')) X0) :
    ∀ (k : Nat) (q : Int) (U : VV) (l : List Tst), n ≤ q + k → 0 ≤ q → cS U V c n q (K + (l.length : Int)) → U 16 11 = c → gRep U c gl K → tRep U c K l → ∀ lv, hasL lv (ctL β n sel dy c) → J γ mX12_contract 4 0 0 0 0 (jP β U) 180 lv [] (ctR β V c sel dy (kTs (V 116) n j gl (if sk (V 116) n q < n ∧ V 116 (sk (V 116) n q) = 44 then pTs (V 116) n k (sk (V 116) n q + 1) l else .inr (sk (V 116) n q, l)))) X0 := by
  intro k
  induction k with
  | zero =>
    intro q U l hq hq0 h e11 hG hT lv hlv
    have h0 := h
    obtain ⟨R, S, a1, a2, a3, a4, a5, a6, a7⟩ := h0
    have eT := S.T
    have sb := sk_b (T := V 116) (n := n) (p := q) (by omega)
    have hS := h.at (q := sk (V 116) n q) hn (by omega)
    have rT := R.s 116 (sk (V 116) n q)
    refine J.lc hlv ?_
    first | refine J.aload_n (pc' := 181) rfl rfl rfl ?_ | refine J.aload_nN (pc' := 181) rfl rfl rfl ?_
    refine J.callV (pc' := 184) (t := 16) rfl MX12_fine ml_X12_212 iv_X12_fine (by decide) ⟨_, rfl, rfl⟩ B.1 (cm_fine B R) rfl rfl (Nat.le_of_ble_eq_true rfl) (by first | omega | (exact R.r _ _) | (simp only [jM.len_sI, jM.len_sL, jM.len_sR, jM.len_fI, jM.len_fL, jM.len_fR]; omega) | (simp [jM.len_nw, jM.len_sI, jM.len_sL, jM.len_sR, jM.len_fI, jM.len_fL, jM.len_fR, *]; omega)) (by first | omega | (exact R.r _ _) | (simp only [jM.len_sI, jM.len_sL, jM.len_sR, jM.len_fI, jM.len_fL, jM.len_fR]; omega) | (simp [jM.len_nw, jM.len_sI, jM.len_sL, jM.len_sR, jM.len_fI, jM.len_fL, jM.len_fR, *]; omega)) (by first | omega | (exact R.r _ _) | (simp only [jM.len_sI, jM.len_sL, jM.len_sR, jM.len_fI, jM.len_fL, jM.len_fR]; omega) | (simp [jM.len_nw, jM.len_sI, jM.len_sL, jM.len_sR, jM.len_fI, jM.len_fL, jM.len_fR, *]; omega)) rfl rfl ?_ ?_
    · exact fun _ _ h => h
    rintro _ _ ⟨rfl, rfl⟩
    rw [if_pos a3]
    refine J.if_eq (tgt := 213) (pc' := 187) rfl rfl rfl (by first | omega | (exact R.r _ _) | (simp only [jM.len_sI, jM.len_sL, jM.len_sR, jM.len_fI, jM.len_fL, jM.len_fR]; omega) | (simp [jM.len_nw, jM.len_sI, jM.len_sL, jM.len_sR, jM.len_fI, jM.len_fL, jM.len_fR, *]; omega)) (fun c1 => ?_) (fun c1 => ?_)
    · omega
    · first | refine J.aload_n (pc' := 188) rfl rfl rfl ?_ | refine J.aload_nN (pc' := 188) rfl rfl rfl ?_
      refine J.callV (pc' := 191) (t := 16) rfl MX12_here ml_X12_197 iv_X12_here (by decide) ⟨_, rfl, rfl⟩ B.1 (cm_here B R (by omega)) rfl rfl (Nat.le_of_ble_eq_true rfl) (by first | omega | (exact R.r _ _) | (simp only [jM.len_sI, jM.len_sL, jM.len_sR, jM.len_fI, jM.len_fL, jM.len_fR]; omega) | (simp [jM.len_nw, jM.len_sI, jM.len_sL, jM.len_sR, jM.len_fI, jM.len_fL, jM.len_fR, *]; omega)) (by first | omega | (exact R.r _ _) | (simp only [jM.len_sI, jM.len_sL, jM.len_sR, jM.len_fI, jM.len_fL, jM.len_fR]; omega) | (simp [jM.len_nw, jM.len_sI, jM.len_sL, jM.len_sR, jM.len_fI, jM.len_fL, jM.len_fR, *]; omega)) (by first | omega | (exact R.r _ _) | (simp only [jM.len_sI, jM.len_sL, jM.len_sR, jM.len_fI, jM.len_fL, jM.len_fR]; omega) | (simp [jM.len_nw, jM.len_sI, jM.len_sL, jM.len_sR, jM.len_fI, jM.len_fL, jM.len_fR, *]; omega)) rfl rfl ?_ ?_
      · exact fun _ _ h => h
      rintro _ _ ⟨rfl, rfl⟩
      rw [eT, a1, a2]
      have e0 : hv (V 116) n (sk (V 116) n q) = 0 := by unfold hv; rw [if_neg (by omega)]
      rw [e0, if_neg (by omega)]
      refine J.bipush (pc' := 193) rfl rfl (by decide) ?_
      refine J.icmp_ne (tgt := 213) (pc' := 196) rfl rfl rfl (by first | omega | (exact R.r _ _) | (simp only [jM.len_sI, jM.len_sL, jM.len_sR, jM.len_fI, jM.len_fL, jM.len_fR]; omega) | (simp [jM.len_nw, jM.len_sI, jM.len_sL, jM.len_sR, jM.len_fI, jM.len_fL, jM.len_fR, *]; omega)) (by first | omega | (exact R.r _ _) | (simp only [jM.len_sI, jM.len_sL, jM.len_sR, jM.len_fI, jM.len_fL, jM.len_fR]; omega) | (simp [jM.len_nw, jM.len_sI, jM.len_sL, jM.len_sR, jM.len_fI, jM.len_fL, jM.len_fR, *]; omega)) (fun c2 => ?_) (fun c2 => ?_)
      · exact ct_213 B hS (by omega) hc e11 hG hT rfl hK hj IH ⟨rfl, rfl, rfl, rfl, rfl, trivial⟩
      · omega
  | succ k ih =>
    intro q U l hq hq0 h e11 hG hT lv hlv
    have h0 := h
    obtain ⟨R, S, a1, a2, a3, a4, a5, a6, a7⟩ := h0
    have eT := S.T
    have hf := R.f
    have sb := sk_b (T := V 116) (n := n) (p := q) (by omega)
    obtain ⟨s, hs⟩ : ∃ s, sk (V 116) n q = s := ⟨_, rfl⟩
    rw [hs] at sb ⊢
    have hS := h.at (q := s) hn (by omega)
    have rT := R.s 116 s
    rw [eT] at rT
    have hvb : r32 (hv (V 116) n s) := by unfold hv; split <;> omega
    refine J.lc hlv ?_
    first | refine J.aload_n (pc' := 181) rfl rfl rfl ?_ | refine J.aload_nN (pc' := 181) rfl rfl rfl ?_
    refine J.callV (pc' := 184) (t := 16) rfl MX12_fine ml_X12_212 iv_X12_fine (by decide) ⟨_, rfl, rfl⟩ B.1 (cm_fine B R) rfl rfl (Nat.le_of_ble_eq_true rfl) (by first | omega | (exact R.r _ _) | (simp only [jM.len_sI, jM.len_sL, jM.len_sR, jM.len_fI, jM.len_fL, jM.len_fR]; omega) | (simp [jM.len_nw, jM.len_sI, jM.len_sL, jM.len_sR, jM.len_fI, jM.len_fL, jM.len_fR, *]; omega)) (by first | omega | (exact R.r _ _) | (simp only [jM.len_sI, jM.len_sL, jM.len_sR, jM.len_fI, jM.len_fL, jM.len_fR]; omega) | (simp [jM.len_nw, jM.len_sI, jM.len_sL, jM.len_sR, jM.len_fI, jM.len_fL, jM.len_fR, *]; omega)) (by first | omega | (exact R.r _ _) | (simp only [jM.len_sI, jM.len_sL, jM.len_sR, jM.len_fI, jM.len_fL, jM.len_fR]; omega) | (simp [jM.len_nw, jM.len_sI, jM.len_sL, jM.len_sR, jM.len_fI, jM.len_fL, jM.len_fR, *]; omega)) rfl rfl ?_ ?_
    · exact fun _ _ h => h
    rintro _ _ ⟨rfl, rfl⟩
    rw [if_pos a3]
    refine J.if_eq (tgt := 213) (pc' := 187) rfl rfl rfl (by first | omega | (exact R.r _ _) | (simp only [jM.len_sI, jM.len_sL, jM.len_sR, jM.len_fI, jM.len_fL, jM.len_fR]; omega) | (simp [jM.len_nw, jM.len_sI, jM.len_sL, jM.len_sR, jM.len_fI, jM.len_fL, jM.len_fR, *]; omega)) (fun c1 => ?_) (fun c1 => ?_)
    · omega
    · first | refine J.aload_n (pc' := 188) rfl rfl rfl ?_ | refine J.aload_nN (pc' := 188) rfl rfl rfl ?_
      refine J.callV (pc' := 191) (t := 16) rfl MX12_here ml_X12_197 iv_X12_here (by decide) ⟨_, rfl, rfl⟩ B.1 (cm_here B R (by omega)) rfl rfl (Nat.le_of_ble_eq_true rfl) (by first | omega | (exact R.r _ _) | (simp only [jM.len_sI, jM.len_sL, jM.len_sR, jM.len_fI, jM.len_fL, jM.len_fR]; omega) | (simp [jM.len_nw, jM.len_sI, jM.len_sL, jM.len_sR, jM.len_fI, jM.len_fL, jM.len_fR, *]; omega)) (by first | omega | (exact R.r _ _) | (simp only [jM.len_sI, jM.len_sL, jM.len_sR, jM.len_fI, jM.len_fL, jM.len_fR]; omega) | (simp [jM.len_nw, jM.len_sI, jM.len_sL, jM.len_sR, jM.len_fI, jM.len_fL, jM.len_fR, *]; omega)) (by first | omega | (exact R.r _ _) | (simp only [jM.len_sI, jM.len_sL, jM.len_sR, jM.len_fI, jM.len_fL, jM.len_fR]; omega) | (simp [jM.len_nw, jM.len_sI, jM.len_sL, jM.len_sR, jM.len_fI, jM.len_fL, jM.len_fR, *]; omega)) rfl rfl ?_ ?_
      · exact fun _ _ h => h
      rintro _ _ ⟨rfl, rfl⟩
      rw [eT, a1, a2, hs]
      refine J.bipush (pc' := 193) rfl rfl (by decide) ?_
      by_cases z : s < n ∧ V 116 s = 44
      · have e0 : hv (V 116) n s = 44 := by unfold hv; rw [if_pos z.1]; exact z.2
        rw [if_pos z, pTs, e0]
        have hS1 := h.at (q := s + 1) hn (by omega)
        refine J.icmp_ne (tgt := 213) (pc' := 196) rfl rfl rfl (by first | omega | (exact R.r _ _) | (simp only [jM.len_sI, jM.len_sL, jM.len_sR, jM.len_fI, jM.len_fL, jM.len_fR]; omega) | (simp [jM.len_nw, jM.len_sI, jM.len_sL, jM.len_sR, jM.len_fI, jM.len_fL, jM.len_fR, *]; omega)) (by first | omega | (exact R.r _ _) | (simp only [jM.len_sI, jM.len_sL, jM.len_sR, jM.len_fI, jM.len_fL, jM.len_fR]; omega) | (simp [jM.len_nw, jM.len_sI, jM.len_sL, jM.len_sR, jM.len_fI, jM.len_fL, jM.len_fR, *]; omega)) (fun c2 => ?_) (fun c2 => ?_)
        · omega
        · first | refine J.aload_n (pc' := 197) rfl rfl rfl ?_ | refine J.aload_nN (pc' := 197) rfl rfl rfl ?_
          refine J.dup (pc' := 198) rfl rfl rfl ?_
          refine J.mgI (pc' := 201) (j := 13) B rfl fl_X12_191 rfl rfl rfl ?_
          rw [jU_same]
          refine J.iconst (pc' := 202) rfl rfl ?_
          refine J.iadd (pc' := 203) rfl rfl ?_
          refine J.mpI (pc' := 206) (j := 13) B rfl fl_X12_191 rfl rfl rfl rfl ?_
          first | refine J.aload_n (pc' := 207) rfl rfl rfl ?_ | refine J.aload_nN (pc' := 207) rfl rfl rfl ?_
          rw [jU_jU]
          refine J.callV (pc' := 210) (t := 16) rfl MX12_test ml_X12_256 iv_X12_test (by decide) ⟨_, rfl, rfl⟩ B.1 (cm_test B hS1.1 (by rw [hS1.2.2.2.1, hS1.2.2.1]; omega) hS1.2.2.2.2.1 (by show U 16 11 < 20; omega) (by rw [hS1.2.2.2.2.2.1, hS1.2.2.2.1]; omega)) rfl rfl (Nat.le_of_ble_eq_true rfl) (by first | omega | (exact R.r _ _) | (simp only [jM.len_sI, jM.len_sL, jM.len_sR, jM.len_fI, jM.len_fL, jM.len_fR]; omega) | (simp [jM.len_nw, jM.len_sI, jM.len_sL, jM.len_sR, jM.len_fI, jM.len_fL, jM.len_fR, *]; omega)) (by first | omega | (exact R.r _ _) | (simp only [jM.len_sI, jM.len_sL, jM.len_sR, jM.len_fI, jM.len_fL, jM.len_fR]; omega) | (simp [jM.len_nw, jM.len_sI, jM.len_sL, jM.len_sR, jM.len_fI, jM.len_fL, jM.len_fR, *]; omega)) (by first | omega | (exact R.r _ _) | (simp only [jM.len_sI, jM.len_sL, jM.len_sR, jM.len_fI, jM.len_fL, jM.len_fR]; omega) | (simp [jM.len_nw, jM.len_sI, jM.len_sL, jM.len_sR, jM.len_fI, jM.len_fL, jM.len_fR, *]; omega)) rfl rfl ?_ ?_
          · exact fun _ _ h => h
          rintro _ _ ⟨rfl, U', rfl, hq9⟩
          rw [jU_116, eT, jU_i _ (show (12 : Int) ≠ 13 by decide), jU_same, a1, jU_i _ (show (11 : Int) ≠ 13 by decide), e11] at hq9
          have hg9 : (jU U 16 13 (s + 1)) 119 c = (gl.length : Int) := hG.1
          refine J.goto (tgt := 180) rfl rfl ?_
          rcases hq9 with ⟨e, hP, hb⟩ | ⟨q', t, hP, hr⟩
          · rw [hP]
            have eb := pTest_e (by omega) hP
            exact ct_b180 B (hb.cB hS1.2.1 hS1.2.2.1 eb.1) hc (by rw [hb.2.2.2.2.2, hg9]; omega) ⟨rfl, rfl, rfl, rfl, rfl, trivial⟩
          · rw [hP]
            simp only
            have tb := pTest_b (by omega) hP
            rcases hr with ⟨hd, hb⟩ | ⟨hd, hU⟩
            · have e1 : sk (V 116) n q' = q' := sk_st (Or.inr (by unfold dgAt at hd; omega))
              have e2 : pPay (V 116) n q' = .inl q' := by
                unfold pPay
                have e3 : wcode (V 116) n q' = 0 := by
                  unfold wcode
                  rw [we_st (Or.inr (by unfold dgAt at hd; omega)), if_pos (by omega), show (q' - q').toNat = 0 by omega]
                  rfl
                rw [e1, e3, if_pos (by decide)]
              rw [e1, if_neg (by unfold dgAt at hd; omega)]
              unfold kTs
              simp only
              rw [e2]
              exact ct_b180 B (hb.cB hS1.2.1 hS1.2.2.1 (by omega)) hc (by rw [hb.2.2.2.2.2, hg9]; omega) ⟨rfl, rfl, rfl, rfl, rfl, trivial⟩
            · subst hU
              have k1 : (jU U 16 13 (s + 1)) 16 15 = K + (l.length : Int) := a4
              have hS2 := hS1.ts (q := q') (t := t) e11 hc hn (by omega) tb.2.2.1 tb.2.2.2.1 tb.2.2.2.2
              have hT2 := (hT.at (i := 13) (q := s + 1)).ts (q := q') (t := t) e11 k1
              have hG2 := (hG.at (i := 13) (q := s + 1)).ts (q := q') (t := t) e11 (by rw [k1]; omega)
              refine ih q' (tsV (jU U 16 13 (s + 1)) q' t) (l ++ [t]) (by omega) (by omega) (by rw [show K + ((l ++ [t]).length : Int) = K + (l.length : Int) + 1 by simp; omega]; exact hS2) e11 hG2 hT2 _ ⟨rfl, rfl, rfl, rfl, rfl, trivial⟩
      · have e0 : hv (V 116) n s ≠ 44 := fun y => z (by unfold hv at y; split at y <;> omega)
        rw [if_neg z]
        refine J.icmp_ne (tgt := 213) (pc' := 196) rfl rfl rfl (by first | omega | (exact R.r _ _) | (simp only [jM.len_sI, jM.len_sL, jM.len_sR, jM.len_fI, jM.len_fL, jM.len_fR]; omega) | (simp [jM.len_nw, jM.len_sI, jM.len_sL, jM.len_sR, jM.len_fI, jM.len_fL, jM.len_fR, *]; omega)) (by first | omega | (exact R.r _ _) | (simp only [jM.len_sI, jM.len_sL, jM.len_sR, jM.len_fI, jM.len_fL, jM.len_fR]; omega) | (simp [jM.len_nw, jM.len_sI, jM.len_sL, jM.len_sR, jM.len_fI, jM.len_fL, jM.len_fR, *]; omega)) (fun c2 => ?_) (fun c2 => ?_)
        · exact ct_213 B hS (by omega) hc e11 hG hT rfl hK hj IH ⟨rfl, rfl, rfl, rfl, rfl, trivial⟩
        · exact absurd c2 e0
/-- the loop over grades -/
theorem ct_131 {n sel dy c : Int} (B : isB β) (hn : n ≤ 400) (hc : 0 ≤ c ∧ c < 20) : ∀ (j : Nat) (p : Int) (U : VV) (gl : List Grd) (K : Int), gl.length + j = 12 → 0 ≤ p → cS U V c n p K → U 16 11 = c → gRep U c gl K → 0 ≤ K → ∀ lv, hasL lv (ctL β n sel dy c) → J γ mX12_contract 4 0 0 0 0 (jP β U) 131 lv [] (ctR β V c sel dy (pRest (V 116) n j p gl)) X0 := by
  intro j
  induction j with
  | zero =>
    intro p U gl K hj hp h e11 hG hK lv hlv
    have h0 := h
    obtain ⟨R, S, a1, a2, a3, a4, a5, a6, a7⟩ := h0
    have eT := S.T
    have hf := R.f
    have sb := sk_b (T := V 116) (n := n) (p := p) (by omega)
    have wb := wcode_b (T := V 116) sb.2.1
    have hS := h.at (q := sk (V 116) n p) hn (by omega)
    refine J.lc hlv ?_
    first | refine J.aload_n (pc' := 132) rfl rfl rfl ?_ | refine J.aload_nN (pc' := 132) rfl rfl rfl ?_
    refine J.callV (pc' := 135) (t := 16) rfl MX12_fine ml_X12_212 iv_X12_fine (by decide) ⟨_, rfl, rfl⟩ B.1 (cm_fine B R) rfl rfl (Nat.le_of_ble_eq_true rfl) (by first | omega | (exact R.r _ _) | (simp only [jM.len_sI, jM.len_sL, jM.len_sR, jM.len_fI, jM.len_fL, jM.len_fR]; omega) | (simp [jM.len_nw, jM.len_sI, jM.len_sL, jM.len_sR, jM.len_fI, jM.len_fL, jM.len_fR, *]; omega)) (by first | omega | (exact R.r _ _) | (simp only [jM.len_sI, jM.len_sL, jM.len_sR, jM.len_fI, jM.len_fL, jM.len_fR]; omega) | (simp [jM.len_nw, jM.len_sI, jM.len_sL, jM.len_sR, jM.len_fI, jM.len_fL, jM.len_fR, *]; omega)) (by first | omega | (exact R.r _ _) | (simp only [jM.len_sI, jM.len_sL, jM.len_sR, jM.len_fI, jM.len_fL, jM.len_fR]; omega) | (simp [jM.len_nw, jM.len_sI, jM.len_sL, jM.len_sR, jM.len_fI, jM.len_fL, jM.len_fR, *]; omega)) rfl rfl ?_ ?_
    · exact fun _ _ h => h
    rintro _ _ ⟨rfl, rfl⟩
    rw [if_pos a3]
    refine J.if_eq (tgt := 275) (pc' := 138) rfl rfl rfl (by first | omega | (exact R.r _ _) | (simp only [jM.len_sI, jM.len_sL, jM.len_sR, jM.len_fI, jM.len_fL, jM.len_fR]; omega) | (simp [jM.len_nw, jM.len_sI, jM.len_sL, jM.len_sR, jM.len_fI, jM.len_fL, jM.len_fR, *]; omega)) (fun c1 => ?_) (fun c1 => ?_)
    · omega
    · first | refine J.aload_n (pc' := 139) rfl rfl rfl ?_ | refine J.aload_nN (pc' := 139) rfl rfl rfl ?_
      refine J.callV (pc' := 142) (t := 16) rfl MX12_word ml_X12_204 iv_X12_word (by decide) ⟨_, rfl, rfl⟩ B.1 (cm_word B R (by omega)) rfl rfl (Nat.le_of_ble_eq_true rfl) (by first | omega | (exact R.r _ _) | (simp only [jM.len_sI, jM.len_sL, jM.len_sR, jM.len_fI, jM.len_fL, jM.len_fR]; omega) | (simp [jM.len_nw, jM.len_sI, jM.len_sL, jM.len_sR, jM.len_fI, jM.len_fL, jM.len_fR, *]; omega)) (by first | omega | (exact R.r _ _) | (simp only [jM.len_sI, jM.len_sL, jM.len_sR, jM.len_fI, jM.len_fL, jM.len_fR]; omega) | (simp [jM.len_nw, jM.len_sI, jM.len_sL, jM.len_sR, jM.len_fI, jM.len_fL, jM.len_fR, *]; omega)) (by first | omega | (exact R.r _ _) | (simp only [jM.len_sI, jM.len_sL, jM.len_sR, jM.len_fI, jM.len_fL, jM.len_fR]; omega) | (simp [jM.len_nw, jM.len_sI, jM.len_sL, jM.len_sR, jM.len_fI, jM.len_fL, jM.len_fR, *]; omega)) rfl rfl ?_ ?_
      · exact fun _ _ h => h
      rintro _ _ ⟨rfl, rfl⟩
      rw [eT, a1, a2]
      refine J.ldc2 (pc' := 145) (z := 444300616805) (v := 444300616805) rfl (List.mem_of_getElem? (i := 1690) (by decide +kernel)) (by decide) rfl ?_
      refine J.lcmp (pc' := 146) rfl rfl (by first | omega | (exact R.r _ _) | (simp only [jM.len_sI, jM.len_sL, jM.len_sR, jM.len_fI, jM.len_fL, jM.len_fR]; omega) | (simp [jM.len_nw, jM.len_sI, jM.len_sL, jM.len_sR, jM.len_fI, jM.len_fL, jM.len_fR, *]; omega)) (by first | omega | (exact R.r _ _) | (simp only [jM.len_sI, jM.len_sL, jM.len_sR, jM.len_fI, jM.len_fL, jM.len_fR]; omega) | (simp [jM.len_nw, jM.len_sI, jM.len_sL, jM.len_sR, jM.len_fI, jM.len_fL, jM.len_fR, *]; omega)) ?_
      refine J.if_ne (tgt := 275) (pc' := 149) rfl rfl rfl (lcr _ _) (fun c2 => ?_) (fun c2 => ?_)
      · replace c2 := mt (lc0 _ _).mpr c2
        rw [pRest_n c2]
        have e : pFin (V 116) n gl p = pFin (V 116) n gl (sk (V 116) n p) := by unfold pFin; rw [sk_sk (by omega)]
        rw [e]
        exact ct_275 B hS ⟨by omega, hn⟩ hc e11 hG ⟨rfl, rfl, rfl, rfl, rfl, trivial⟩
      · replace c2 := (lc0 _ _).mp c2
        rw [show pRest (V 116) n 0 p gl = pFin (V 116) n gl p from rfl, pFin_g (by omega) c2]
        have e9 : (jU U 16 13 (sk (V 116) n p)) 119 c = (gl.length : Int) := hG.1
        first | refine J.aload_n (pc' := 150) rfl rfl rfl ?_ | refine J.aload_nN (pc' := 150) rfl rfl rfl ?_
        refine J.mgR (pc' := 153) (t := 119) B rfl fl_X12_43 rfl rfl (by decide) rfl ?_
        refine J.iload (pc' := 155) rfl rfl rfl ?_
        refine J.mald (pc' := 156) B rfl rfl rfl (by omega) (by simp only [jLn]; omega) rfl ?_
        rw [e9]
        refine J.bipush (pc' := 158) rfl rfl (by decide) ?_
        refine J.icmp_ne (tgt := 172) (pc' := 161) rfl rfl rfl (by first | omega | (exact R.r _ _) | (simp only [jM.len_sI, jM.len_sL, jM.len_sR, jM.len_fI, jM.len_fL, jM.len_fR]; omega) | (simp [jM.len_nw, jM.len_sI, jM.len_sL, jM.len_sR, jM.len_fI, jM.len_fL, jM.len_fR, *]; omega)) (by first | omega | (exact R.r _ _) | (simp only [jM.len_sI, jM.len_sL, jM.len_sR, jM.len_fI, jM.len_fL, jM.len_fR]; omega) | (simp [jM.len_nw, jM.len_sI, jM.len_sL, jM.len_sR, jM.len_fI, jM.len_fL, jM.len_fR, *]; omega)) (fun c3 => ?_) (fun c3 => ?_)
        · omega
        · first | refine J.aload_n (pc' := 162) rfl rfl rfl ?_ | refine J.aload_nN (pc' := 162) rfl rfl rfl ?_
          first | refine J.aload_n (pc' := 163) rfl rfl rfl ?_ | refine J.aload_nN (pc' := 163) rfl rfl rfl ?_
          refine J.mgI (pc' := 166) (j := 13) B rfl fl_X12_191 rfl rfl rfl ?_
          rw [jU_same]
          refine J.callV (pc' := 169) (t := 16) rfl MX12_wrong ml_X12_208 iv_X12_wrong (by decide) ⟨_, rfl, rfl⟩ B.1 (cm_wrong B hS.1) rfl rfl (Nat.le_of_ble_eq_true rfl) (by first | omega | (exact R.r _ _) | (simp only [jM.len_sI, jM.len_sL, jM.len_sR, jM.len_fI, jM.len_fL, jM.len_fR]; omega) | (simp [jM.len_nw, jM.len_sI, jM.len_sL, jM.len_sR, jM.len_fI, jM.len_fL, jM.len_fR, *]; omega)) (by first | omega | (exact R.r _ _) | (simp only [jM.len_sI, jM.len_sL, jM.len_sR, jM.len_fI, jM.len_fL, jM.len_fR]; omega) | (simp [jM.len_nw, jM.len_sI, jM.len_sL, jM.len_sR, jM.len_fI, jM.len_fL, jM.len_fR, *]; omega)) (by first | omega | (exact R.r _ _) | (simp only [jM.len_sI, jM.len_sL, jM.len_sR, jM.len_fI, jM.len_fL, jM.len_fR]; omega) | (simp [jM.len_nw, jM.len_sI, jM.len_sL, jM.len_sR, jM.len_fI, jM.len_fL, jM.len_fR, *]; omega)) rfl rfl ?_ ?_
          · exact fun _ _ h => h
          rintro _ _ ⟨rfl, rfl⟩
          rw [if_pos hS.2.2.2.2.1]
          refine J.goto (tgt := 275) rfl rfl ?_
          have hB : cB (jU (jU U 16 13 (sk (V 116) n p)) 16 14 (sk (V 116) n p)) V c n (sk (V 116) n p) := ⟨hS.1.up (fun _ => by show (-1 : Int) ≤ sk (V 116) n p ∧ sk (V 116) n p ≤ 400; omega), hS.2.1.up (cSc_16 (by omega)), hS.2.2.1, by rw [jU_i _ (by decide), hS.2.2.2.1]; exact sb.2.1, jU_same _ _ _ _, by omega⟩
          exact ct_b275 B hB ⟨rfl, rfl, rfl, rfl, rfl, trivial⟩
  | succ j IH =>
    intro p U gl K hj hp h e11 hG hK lv hlv
    have h0 := h
    obtain ⟨R, S, a1, a2, a3, a4, a5, a6, a7⟩ := h0
    have eT := S.T
    have hf := R.f
    have sb := sk_b (T := V 116) (n := n) (p := p) (by omega)
    have wb := wcode_b (T := V 116) sb.2.1
    have hS := h.at (q := sk (V 116) n p) hn (by omega)
    refine J.lc hlv ?_
    first | refine J.aload_n (pc' := 132) rfl rfl rfl ?_ | refine J.aload_nN (pc' := 132) rfl rfl rfl ?_
    refine J.callV (pc' := 135) (t := 16) rfl MX12_fine ml_X12_212 iv_X12_fine (by decide) ⟨_, rfl, rfl⟩ B.1 (cm_fine B R) rfl rfl (Nat.le_of_ble_eq_true rfl) (by first | omega | (exact R.r _ _) | (simp only [jM.len_sI, jM.len_sL, jM.len_sR, jM.len_fI, jM.len_fL, jM.len_fR]; omega) | (simp [jM.len_nw, jM.len_sI, jM.len_sL, jM.len_sR, jM.len_fI, jM.len_fL, jM.len_fR, *]; omega)) (by first | omega | (exact R.r _ _) | (simp only [jM.len_sI, jM.len_sL, jM.len_sR, jM.len_fI, jM.len_fL, jM.len_fR]; omega) | (simp [jM.len_nw, jM.len_sI, jM.len_sL, jM.len_sR, jM.len_fI, jM.len_fL, jM.len_fR, *]; omega)) (by first | omega | (exact R.r _ _) | (simp only [jM.len_sI, jM.len_sL, jM.len_sR, jM.len_fI, jM.len_fL, jM.len_fR]; omega) | (simp [jM.len_nw, jM.len_sI, jM.len_sL, jM.len_sR, jM.len_fI, jM.len_fL, jM.len_fR, *]; omega)) rfl rfl ?_ ?_
    · exact fun _ _ h => h
    rintro _ _ ⟨rfl, rfl⟩
    rw [if_pos a3]
    refine J.if_eq (tgt := 275) (pc' := 138) rfl rfl rfl (by first | omega | (exact R.r _ _) | (simp only [jM.len_sI, jM.len_sL, jM.len_sR, jM.len_fI, jM.len_fL, jM.len_fR]; omega) | (simp [jM.len_nw, jM.len_sI, jM.len_sL, jM.len_sR, jM.len_fI, jM.len_fL, jM.len_fR, *]; omega)) (fun c1 => ?_) (fun c1 => ?_)
    · omega
    · first | refine J.aload_n (pc' := 139) rfl rfl rfl ?_ | refine J.aload_nN (pc' := 139) rfl rfl rfl ?_
      refine J.callV (pc' := 142) (t := 16) rfl MX12_word ml_X12_204 iv_X12_word (by decide) ⟨_, rfl, rfl⟩ B.1 (cm_word B R (by omega)) rfl rfl (Nat.le_of_ble_eq_true rfl) (by first | omega | (exact R.r _ _) | (simp only [jM.len_sI, jM.len_sL, jM.len_sR, jM.len_fI, jM.len_fL, jM.len_fR]; omega) | (simp [jM.len_nw, jM.len_sI, jM.len_sL, jM.len_sR, jM.len_fI, jM.len_fL, jM.len_fR, *]; omega)) (by first | omega | (exact R.r _ _) | (simp only [jM.len_sI, jM.len_sL, jM.len_sR, jM.len_fI, jM.len_fL, jM.len_fR]; omega) | (simp [jM.len_nw, jM.len_sI, jM.len_sL, jM.len_sR, jM.len_fI, jM.len_fL, jM.len_fR, *]; omega)) (by first | omega | (exact R.r _ _) | (simp only [jM.len_sI, jM.len_sL, jM.len_sR, jM.len_fI, jM.len_fL, jM.len_fR]; omega) | (simp [jM.len_nw, jM.len_sI, jM.len_sL, jM.len_sR, jM.len_fI, jM.len_fL, jM.len_fR, *]; omega)) rfl rfl ?_ ?_
      · exact fun _ _ h => h
      rintro _ _ ⟨rfl, rfl⟩
      rw [eT, a1, a2]
      refine J.ldc2 (pc' := 145) (z := 444300616805) (v := 444300616805) rfl (List.mem_of_getElem? (i := 1690) (by decide +kernel)) (by decide) rfl ?_
      refine J.lcmp (pc' := 146) rfl rfl (by first | omega | (exact R.r _ _) | (simp only [jM.len_sI, jM.len_sL, jM.len_sR, jM.len_fI, jM.len_fL, jM.len_fR]; omega) | (simp [jM.len_nw, jM.len_sI, jM.len_sL, jM.len_sR, jM.len_fI, jM.len_fL, jM.len_fR, *]; omega)) (by first | omega | (exact R.r _ _) | (simp only [jM.len_sI, jM.len_sL, jM.len_sR, jM.len_fI, jM.len_fL, jM.len_fR]; omega) | (simp [jM.len_nw, jM.len_sI, jM.len_sL, jM.len_sR, jM.len_fI, jM.len_fL, jM.len_fR, *]; omega)) ?_
      refine J.if_ne (tgt := 275) (pc' := 149) rfl rfl rfl (lcr _ _) (fun c2 => ?_) (fun c2 => ?_)
      · replace c2 := mt (lc0 _ _).mpr c2
        rw [pRest_n c2]
        have e : pFin (V 116) n gl p = pFin (V 116) n gl (sk (V 116) n p) := by unfold pFin; rw [sk_sk (by omega)]
        rw [e]
        exact ct_275 B hS ⟨by omega, hn⟩ hc e11 hG ⟨rfl, rfl, rfl, rfl, rfl, trivial⟩
      · replace c2 := (lc0 _ _).mp c2
        rw [pRest_g c2]
        have w0 := wcode_0 (T := V 116) sb.2.1 (by rw [c2]; decide)
        obtain ⟨s, hs⟩ : ∃ s, sk (V 116) n p = s := ⟨_, rfl⟩
        rw [hs] at sb wb hS c2 w0 ⊢
        have e9 : (jU U 16 13 s) 119 c = (gl.length : Int) := hG.1
        first | refine J.aload_n (pc' := 150) rfl rfl rfl ?_ | refine J.aload_nN (pc' := 150) rfl rfl rfl ?_
        refine J.mgR (pc' := 153) (t := 119) B rfl fl_X12_43 rfl rfl (by decide) rfl ?_
        refine J.iload (pc' := 155) rfl rfl rfl ?_
        refine J.mald (pc' := 156) B rfl rfl rfl (by omega) (by simp only [jLn]; omega) rfl ?_
        rw [e9]
        refine J.bipush (pc' := 158) rfl rfl (by decide) ?_
        refine J.icmp_ne (tgt := 172) (pc' := 161) rfl rfl rfl (by first | omega | (exact R.r _ _) | (simp only [jM.len_sI, jM.len_sL, jM.len_sR, jM.len_fI, jM.len_fL, jM.len_fR]; omega) | (simp [jM.len_nw, jM.len_sI, jM.len_sL, jM.len_sR, jM.len_fI, jM.len_fL, jM.len_fR, *]; omega)) (by first | omega | (exact R.r _ _) | (simp only [jM.len_sI, jM.len_sL, jM.len_sR, jM.len_fI, jM.len_fL, jM.len_fR]; omega) | (simp [jM.len_nw, jM.len_sI, jM.len_sL, jM.len_sR, jM.len_fI, jM.len_fL, jM.len_fR, *]; omega)) (fun c3 => ?_) (fun c3 => ?_)
        · first | refine J.aload_n (pc' := 173) rfl rfl rfl ?_ | refine J.aload_nN (pc' := 173) rfl rfl rfl ?_
          refine J.callV (pc' := 176) (t := 16) rfl MX12_pass ml_X12_216 iv_X12_pass (by decide) ⟨_, rfl, rfl⟩ B.1 (cm_pass B hS.1 (by rw [hS.2.2.2.1, hS.2.2.1]; exact sb.2.1)) rfl rfl (Nat.le_of_ble_eq_true rfl) (by first | omega | (exact R.r _ _) | (simp only [jM.len_sI, jM.len_sL, jM.len_sR, jM.len_fI, jM.len_fL, jM.len_fR]; omega) | (simp [jM.len_nw, jM.len_sI, jM.len_sL, jM.len_sR, jM.len_fI, jM.len_fL, jM.len_fR, *]; omega)) (by first | omega | (exact R.r _ _) | (simp only [jM.len_sI, jM.len_sL, jM.len_sR, jM.len_fI, jM.len_fL, jM.len_fR]; omega) | (simp [jM.len_nw, jM.len_sI, jM.len_sL, jM.len_sR, jM.len_fI, jM.len_fL, jM.len_fR, *]; omega)) (by first | omega | (exact R.r _ _) | (simp only [jM.len_sI, jM.len_sL, jM.len_sR, jM.len_fI, jM.len_fL, jM.len_fR]; omega) | (simp [jM.len_nw, jM.len_sI, jM.len_sL, jM.len_sR, jM.len_fI, jM.len_fL, jM.len_fR, *]; omega)) rfl rfl ?_ ?_
          · exact fun _ _ h => h
          rintro _ _ ⟨rfl, rfl⟩
          rw [jU_116, eT, jU_i _ (by decide), jU_same, jU_jU, a1]
          obtain ⟨q1, hq1⟩ : ∃ x, we (V 116) n s = x := ⟨_, rfl⟩
          rw [hq1] at w0 ⊢
          have hS1 := h.at (q := q1) hn (by omega)
          have hg9 : (jU U 16 13 q1) 119 c = (gl.length : Int) := hG.1
          first | refine J.aload_n (pc' := 177) rfl rfl rfl ?_ | refine J.aload_nN (pc' := 177) rfl rfl rfl ?_
          refine J.callV (pc' := 180) (t := 16) rfl MX12_test ml_X12_256 iv_X12_test (by decide) ⟨_, rfl, rfl⟩ B.1 (cm_test B hS1.1 (by rw [hS1.2.2.2.1, hS1.2.2.1]; omega) hS1.2.2.2.2.1 (by show U 16 11 < 20; omega) (by rw [hS1.2.2.2.2.2.1, hS1.2.2.2.1]; omega)) rfl rfl (Nat.le_of_ble_eq_true rfl) (by first | omega | (exact R.r _ _) | (simp only [jM.len_sI, jM.len_sL, jM.len_sR, jM.len_fI, jM.len_fL, jM.len_fR]; omega) | (simp [jM.len_nw, jM.len_sI, jM.len_sL, jM.len_sR, jM.len_fI, jM.len_fL, jM.len_fR, *]; omega)) (by first | omega | (exact R.r _ _) | (simp only [jM.len_sI, jM.len_sL, jM.len_sR, jM.len_fI, jM.len_fL, jM.len_fR]; omega) | (simp [jM.len_nw, jM.len_sI, jM.len_sL, jM.len_sR, jM.len_fI, jM.len_fL, jM.len_fR, *]; omega)) (by first | omega | (exact R.r _ _) | (simp only [jM.len_sI, jM.len_sL, jM.len_sR, jM.len_fI, jM.len_fL, jM.len_fR]; omega) | (simp [jM.len_nw, jM.len_sI, jM.len_sL, jM.len_sR, jM.len_fI, jM.len_fL, jM.len_fR, *]; omega)) rfl rfl ?_ ?_
          · exact fun _ _ h => h
          rintro _ _ ⟨rfl, U', rfl, hq9⟩
          rw [jU_116, eT, jU_i _ (show (12 : Int) ≠ 13 by decide), jU_same, a1, jU_i _ (show (11 : Int) ≠ 13 by decide), e11] at hq9
          rw [pTs]
          rcases hq9 with ⟨e, hP, hb⟩ | ⟨q', t, hP, hr⟩
          · rw [hP]
            have eb := pTest_e (by omega) hP
            exact ct_b180 B (hb.cB hS1.2.1 hS1.2.2.1 eb.1) hc (by rw [hb.2.2.2.2.2, hg9]; omega) ⟨rfl, rfl, rfl, rfl, rfl, trivial⟩
          · rw [hP]
            simp only
            have tb := pTest_b (by omega) hP
            rcases hr with ⟨hd, hb⟩ | ⟨hd, hU⟩
            · have e1 : sk (V 116) n q' = q' := sk_st (Or.inr (by unfold dgAt at hd; omega))
              have e2 : pPay (V 116) n q' = .inl q' := by
                unfold pPay
                have e3 : wcode (V 116) n q' = 0 := by
                  unfold wcode
                  rw [we_st (Or.inr (by unfold dgAt at hd; omega)), if_pos (by omega), show (q' - q').toNat = 0 by omega]
                  rfl
                rw [e1, e3, if_pos (by decide)]
              rw [e1, if_neg (by unfold dgAt at hd; omega)]
              unfold kTs
              simp only
              rw [e2]
              exact ct_b180 B (hb.cB hS1.2.1 hS1.2.2.1 (by omega)) hc (by rw [hb.2.2.2.2.2, hg9]; omega) ⟨rfl, rfl, rfl, rfl, rfl, trivial⟩
            · subst hU
              have hS2 := hS1.ts (q := q') (t := t) e11 hc hn (by omega) tb.2.2.1 tb.2.2.2.1 tb.2.2.2.2
              have hT0 : tRep (jU U 16 13 q1) c K [] := fun i y hy => by simp at hy
              have k1 : (jU U 16 13 q1) 16 15 = K + (([] : List Tst).length : Int) := by rw [jU_i _ (by decide), a4]; simp
              have hT2 := hT0.ts (q := q') (t := t) e11 k1
              have hG2 := (hG.at (i := 13) (q := q1)).ts (q := q') (t := t) e11 (by rw [jU_i _ (by decide), a4]; omega)
              exact ct_180 B hn hc hK hj IH 399 q' _ [t] (by omega) (by omega) hS2 e11 hG2 hT2 _ ⟨rfl, rfl, rfl, rfl, rfl, trivial⟩
        · omega
end M23

