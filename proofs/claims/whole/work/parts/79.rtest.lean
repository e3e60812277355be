/-- what a GRADE's tests come to -/
def gB (l : List Tst) : Int → Int := fun m => l.foldl (fun b t => if t.1 = m ∧ t.2.1 = 60 then min b t.2.2 else b) 10001
def gA (l : List Tst) : Int → Int := fun m => l.foldl (fun b t => if t.1 = m ∧ t.2.1 ≠ 60 then max b t.2.2 else b) (-1)
theorem gB_app (l : List Tst) (t : Tst) (m : Int) : gB (l ++ [t]) m = if t.1 = m ∧ t.2.1 = 60 then min (gB l m) t.2.2 else gB l m := by unfold gB; rw [List.foldl_append]; rfl
theorem gA_app (l : List Tst) (t : Tst) (m : Int) : gA (l ++ [t]) m = if t.1 = m ∧ t.2.1 ≠ 60 then max (gA l m) t.2.2 else gA l m := by unfold gA; rw [List.foldl_append]; rfl
section RT
variable {γ : jG} {h : jM} {rd s e c g p1 p2 : Nat} {n p pl nm : Int} {T : Int → Int} {l : List Tst}
abbrev rF (h h' : jM) (rd p1 p2 : Nat) : Prop := Fr h h' (fun b => b = rd ∨ b = p1 ∨ b = p2) ∧ Nt h h' [1, 35]
def rtQ (h : jM) (rd s e : Nat) (n : Int) (T : Int → Int) (c g p1 p2 : Nat) (l : List Tst) (p : Int) : Option Value → jM → Prop := fun r h' => match pTest T n p with
  | .inl er => r = some (.int (jI 0)) ∧ (∃ p' nm', isRd h' rd s e n T c p' er nm') ∧ rF h h' rd p1 p2
  | .inr (q, t) => r = some (.int (jI 1)) ∧ (∃ pl', isRd h' rd s e n T c q pl' t.2.2) ∧ isG h' g p1 p2 (gB (l ++ [t])) (gA (l ++ [t])) 0 ∧ rF h h' rd p1 p2
theorem isG.keptR {h' : jM} {B A : Int → Int} {pay : Int} (hG : isG h g p1 p2 B A pay) (tr : h.tag rd = 6) (F : Fr h h' (fun b => b = rd)) : isG h' g p1 p2 B A pay := by
  have t1 := hG.1
  have t2 := hG.2.2.1
  have t3 := hG.2.2.2.2.2.2.1
  exact hG.kept F (fun z => by rw [z] at t1; omega) (fun z => by rw [z] at t2; omega) (fun z => by rw [z] at t3; omega)
theorem cr_test (hR : isRd h rd s e n T c p pl nm) (hK : isK γ h) (hG : isG h g p1 p2 (gB l) (gA l) 0) (hb : ∀ m, r32 (gB l m) ∧ r32 (gA l m)) : CT γ mX2_readsTest 7 2 ((we T n (sk T n p) - sk T n p).toNat + 4) [.ref rd, .ref g] h (rtQ h rd s e n T c g p1 p2 l p) X0 := by
  have hp := hR.2.2.2.2.2.2.2
  have skb := sk_b (T := T) hp.2
  have web := we_b (T := T) skb.2.1
  have hbn := hR.bnd
  have tr := hR.1
  have mb := mof_b (wcode T n (sk T n p))
  have tg := hG.1
  refine CT.of MX2_readsTest (Nat.le_of_ble_eq_true rfl) ?_
  show J γ mX2_readsTest 7 2 ((we T n (sk T n p) - sk T n p).toNat+4) 0 0 h 0 [(0, .ref rd), (1, .ref g)] [] _ _
  first | refine J.aload_n (pc' := 1) rfl rfl rfl ?_ | refine J.aload_nN (pc' := 1) rfl rfl rfl ?_
  refine J.callV (pc' := 4) (t := 6) rfl MX2_takenMetal ml_X2_82 iv_X2_takenMetal (by decide) ⟨_, rfl, rfl⟩ (by first | assumption | (simp only [jM.tag_sI, jM.tag_sL, jM.tag_sR, jM.tag_fI, jM.tag_fL, jM.tag_fR]; assumption) | (simp [jM.tag_nw, jM.tag_sI, jM.tag_sL, jM.tag_sR, jM.tag_fI, jM.tag_fL, jM.tag_fR, *]; done)) (cr_metal hR hK) rfl rfl (Nat.le_of_ble_eq_true rfl) (by first | omega | (exact R.r _ _) | (simp only [jM.len_sI, jM.len_sL, jM.len_sR, jM.len_fI, jM.len_fL, jM.len_fR]; omega) | (simp [jM.len_nw, jM.len_sI, jM.len_sL, jM.len_sR, jM.len_fI, jM.len_fL, jM.len_fR, *]; omega)) (by first | omega | (exact R.r _ _) | (simp only [jM.len_sI, jM.len_sL, jM.len_sR, jM.len_fI, jM.len_fL, jM.len_fR]; omega) | (simp [jM.len_nw, jM.len_sI, jM.len_sL, jM.len_sR, jM.len_fI, jM.len_fL, jM.len_fR, *]; omega)) (by first | omega | (exact R.r _ _) | (simp only [jM.len_sI, jM.len_sL, jM.len_sR, jM.len_fI, jM.len_fL, jM.len_fR]; omega) | (simp [jM.len_nw, jM.len_sI, jM.len_sL, jM.len_sR, jM.len_fI, jM.len_fL, jM.len_fR, *]; omega)) rfl rfl ?_ ?_
  · exact fun _ _ h => h
  rintro _ k1 ⟨rfl, g2, g3, g4⟩
  have G1 := hG.keptR tr g3
  refine J.istore_n (pc' := 5) rfl rfl (by decide) ?_
  refine J.iload_n (pc' := 6) rfl rfl rfl ?_
  refine J.iconst (pc' := 7) rfl rfl ?_
  refine J.icmp_ne (tgt := 12) (pc' := 10) rfl rfl rfl (by first | omega | (exact R.r _ _) | (simp only [jM.len_sI, jM.len_sL, jM.len_sR, jM.len_fI, jM.len_fL, jM.len_fR]; omega) | (simp [jM.len_nw, jM.len_sI, jM.len_sL, jM.len_sR, jM.len_fI, jM.len_fL, jM.len_fR, *]; omega)) (by first | omega | (exact R.r _ _) | (simp only [jM.len_sI, jM.len_sL, jM.len_sR, jM.len_fI, jM.len_fL, jM.len_fR]; omega) | (simp [jM.len_nw, jM.len_sI, jM.len_sL, jM.len_sR, jM.len_fI, jM.len_fL, jM.len_fR, *]; omega)) (fun z1 => ?_) (fun z1 => ?_)
  · rw [if_neg z1] at g2
    have tr1 := g2.1
    have e1 : ∀ er, sk T n (we T n (sk T n p)) = er → ¬ (er < n ∧ (T er = 60 ∨ T er = 62)) → pTest T n p = .inl er := fun er h1 h2 => by
      unfold pTest
      rw [if_neg z1, h1, if_pos h2]
    have x2b := sk_b (T := T) web.2.1
    first | refine J.aload_n (pc' := 13) rfl rfl rfl ?_ | refine J.aload_nN (pc' := 13) rfl rfl rfl ?_
    refine J.bipush (pc' := 15) rfl rfl (by decide) ?_
    refine J.callV (pc' := 18) (t := 6) rfl MX2_takesSign ml_X2_65 iv_X2_takesSign (by decide) ⟨_, rfl, rfl⟩ (by first | assumption | (simp only [jM.tag_sI, jM.tag_sL, jM.tag_sR, jM.tag_fI, jM.tag_fL, jM.tag_fR]; assumption) | (simp [jM.tag_nw, jM.tag_sI, jM.tag_sL, jM.tag_sR, jM.tag_fI, jM.tag_fL, jM.tag_fR, *]; done)) (cr_sign (ch := 60) (by decide) g2) rfl rfl (Nat.le_of_ble_eq_true rfl) (by first | omega | (exact R.r _ _) | (simp only [jM.len_sI, jM.len_sL, jM.len_sR, jM.len_fI, jM.len_fL, jM.len_fR]; omega) | (simp [jM.len_nw, jM.len_sI, jM.len_sL, jM.len_sR, jM.len_fI, jM.len_fL, jM.len_fR, *]; omega)) (by first | omega | (exact R.r _ _) | (simp only [jM.len_sI, jM.len_sL, jM.len_sR, jM.len_fI, jM.len_fL, jM.len_fR]; omega) | (simp [jM.len_nw, jM.len_sI, jM.len_sL, jM.len_sR, jM.len_fI, jM.len_fL, jM.len_fR, *]; omega)) (by first | omega | (exact R.r _ _) | (simp only [jM.len_sI, jM.len_sL, jM.len_sR, jM.len_fI, jM.len_fL, jM.len_fR]; omega) | (simp [jM.len_nw, jM.len_sI, jM.len_sL, jM.len_sR, jM.len_fI, jM.len_fL, jM.len_fR, *]; omega)) rfl rfl ?_ ?_
    · exact fun _ _ h => h
    have out : ∀ (c1 c2 : Nat), c1 ≤ 2 → c2 ≤ (we T n (sk T n p) - sk T n p).toNat + 4 → ∀ (b : Int) (k : jM), b = 0 ∨ b = 1 → (sk T n (we T n (sk T n p)) < n ∧ T (sk T n (we T n (sk T n p))) = (if b = 1 then 60 else 62)) → (∃ pl', isRd k rd s e n T c (sk T n (we T n (sk T n p)) + 1) pl' nm) → Fr h k (fun x => x = rd) → Nt h k [1, 35] → ∀ lv, hasL lv [(0, .ref rd), (1, .ref g), (2, .int (jI (mof (wcode T n (sk T n p))))), (3, .int (jI b))] → J γ mX2_readsTest 7 2 ((we T n (sk T n p) - sk T n p).toNat + 4) c1 c2 k 34 lv [] (rtQ h rd s e n T c g p1 p2 l p) X0 := by
      rintro c1 c2 hc1 hc2 b k hb2 hx2 ⟨pl', b1⟩ b2 b3 lv hlv
      have G2 := hG.keptR tr b2
      have tr2 := b1.1
      have x3b := sk_b (T := T) b1.2.2.2.2.2.2.2.2
      have nb := numN_b (T := T) (n := n) 5 (sk T n (sk T n (we T n (sk T n p)) + 1)) 0 x3b.2.1 (by omega)
      refine J.lc hlv ?_
      first | refine J.aload_n (pc' := 35) rfl rfl rfl ?_ | refine J.aload_nN (pc' := 35) rfl rfl rfl ?_
      refine J.callV (pc' := 38) (t := 6) rfl MX2_takesNumber ml_X2_85 iv_X2_takesNumber (by decide) ⟨_, rfl, rfl⟩ (by first | assumption | (simp only [jM.tag_sI, jM.tag_sL, jM.tag_sR, jM.tag_fI, jM.tag_fL, jM.tag_fR]; assumption) | (simp [jM.tag_nw, jM.tag_sI, jM.tag_sL, jM.tag_sR, jM.tag_fI, jM.tag_fL, jM.tag_fR, *]; done)) (cr_number b1) rfl rfl (Nat.le_of_ble_eq_true rfl) (by first | omega | (exact R.r _ _) | (simp only [jM.len_sI, jM.len_sL, jM.len_sR, jM.len_fI, jM.len_fL, jM.len_fR]; omega) | (simp [jM.len_nw, jM.len_sI, jM.len_sL, jM.len_sR, jM.len_fI, jM.len_fL, jM.len_fR, *]; omega)) (by first | omega | (exact R.r _ _) | (simp only [jM.len_sI, jM.len_sL, jM.len_sR, jM.len_fI, jM.len_fL, jM.len_fR]; omega) | (simp [jM.len_nw, jM.len_sI, jM.len_sL, jM.len_sR, jM.len_fI, jM.len_fL, jM.len_fR, *]; omega)) (by first | omega | (exact R.r _ _) | (simp only [jM.len_sI, jM.len_sL, jM.len_sR, jM.len_fI, jM.len_fL, jM.len_fR]; omega) | (simp [jM.len_nw, jM.len_sI, jM.len_sL, jM.len_sR, jM.len_fI, jM.len_fL, jM.len_fR, *]; omega)) rfl rfl ?_ ?_
      · exact fun _ _ h => h
      rintro _ k2 ⟨rfl, c2, c3, c4⟩
      have G3 := G2.keptR tr2 c3
      have F3 : Fr h k2 (fun x => x = rd) := b2.trans c3 (fun _ _ z => z.elim id id)
      have N3 : Nt h k2 [1, 35] := b3.trans c4 c3 (by simp)
      by_cases z3 : sk T n (sk T n (we T n (sk T n p)) + 1) < (numN T n 5 (sk T n (sk T n (we T n (sk T n p)) + 1)) 0).1
      · rw [if_pos z3]
        refine J.if_ne (tgt := 43) (pc' := 41) rfl rfl rfl (by first | omega | (exact R.r _ _) | (simp only [jM.len_sI, jM.len_sL, jM.len_sR, jM.len_fI, jM.len_fL, jM.len_fR]; omega) | (simp [jM.len_nw, jM.len_sI, jM.len_sL, jM.len_sR, jM.len_fI, jM.len_fL, jM.len_fR, *]; omega)) (fun z4 => ?_) (fun z4 => ?_)
        · have e9 : pTest T n p = .inr ((numN T n 5 (sk T n (sk T n (we T n (sk T n p)) + 1)) 0).1, mof (wcode T n (sk T n p)), T (sk T n (we T n (sk T n p))), (numN T n 5 (sk T n (sk T n (we T n (sk T n p)) + 1)) 0).2) := by
            unfold pTest
            rw [if_neg z1, if_neg (by rcases hb2 with rfl | rfl <;> simp at hx2 <;> omega), if_neg (by omega)]
          have c7 := c2.2.2.2.2.2.2.1
          have tr3 := c2.1
          have tg3 := G3.1
          have rn : r32 (numN T n 5 (sk T n (sk T n (we T n (sk T n p)) + 1)) 0).2 := by constructor <;> omega
          first | refine J.aload_n (pc' := 44) rfl rfl rfl ?_ | refine J.aload_nN (pc' := 44) rfl rfl rfl ?_
          refine J.iload_n (pc' := 45) rfl rfl rfl ?_
          refine J.iload_n (pc' := 46) rfl rfl rfl ?_
          first | refine J.aload_n (pc' := 47) rfl rfl rfl ?_ | refine J.aload_nN (pc' := 47) rfl rfl rfl ?_
          refine J.getI (pc' := 50) rfl fl_X2_18 rfl (by first | assumption | (simp only [jM.tag_sI, jM.tag_sL, jM.tag_sR, jM.tag_fI, jM.tag_fL, jM.tag_fR]; assumption) | (simp [jM.tag_nw, jM.tag_sI, jM.tag_sL, jM.tag_sR, jM.tag_fI, jM.tag_fL, jM.tag_fR, *]; done)) rfl ?_
          rw [c7]
          generalize (numN T n 5 (sk T n (sk T n (we T n (sk T n p)) + 1)) 0) = nq at e9 c2 rn ⊢
          rcases hb2 with rfl | rfl
          · rw [if_neg (by decide)] at hx2
            refine J.callV (pc' := 53) (t := 7) rfl MX3_addTest ml_X2_88 iv_X3_addTest (by decide) ⟨_, rfl, rfl⟩ (by first | assumption | (simp only [jM.tag_sI, jM.tag_sL, jM.tag_sR, jM.tag_fI, jM.tag_fL, jM.tag_fR]; assumption) | (simp [jM.tag_nw, jM.tag_sI, jM.tag_sL, jM.tag_sR, jM.tag_fI, jM.tag_fL, jM.tag_fR, *]; done)) (cx_addA G3 (by omega) (hb _).2 rn) rfl rfl (Nat.le_of_ble_eq_true rfl) (by first | omega | (exact R.r _ _) | (simp only [jM.len_sI, jM.len_sL, jM.len_sR, jM.len_fI, jM.len_fL, jM.len_fR]; omega) | (simp [jM.len_nw, jM.len_sI, jM.len_sL, jM.len_sR, jM.len_fI, jM.len_fL, jM.len_fR, *]; omega)) (by first | omega | (exact R.r _ _) | (simp only [jM.len_sI, jM.len_sL, jM.len_sR, jM.len_fI, jM.len_fL, jM.len_fR]; omega) | (simp [jM.len_nw, jM.len_sI, jM.len_sL, jM.len_sR, jM.len_fI, jM.len_fL, jM.len_fR, *]; omega)) (by first | omega | (exact R.r _ _) | (simp only [jM.len_sI, jM.len_sL, jM.len_sR, jM.len_fI, jM.len_fL, jM.len_fR]; omega) | (simp [jM.len_nw, jM.len_sI, jM.len_sL, jM.len_sR, jM.len_fI, jM.len_fL, jM.len_fR, *]; omega)) rfl rfl ?_ ?_
            · exact fun _ _ h => h
            rintro _ k3 ⟨rfl, d1, d2, d3⟩
            refine J.iconst (pc' := 54) rfl rfl ?_
            refine J.zret rfl rfl (by rfl) (by first | omega | (exact R.r _ _) | (simp only [jM.len_sI, jM.len_sL, jM.len_sR, jM.len_fI, jM.len_fL, jM.len_fR]; omega) | (simp [jM.len_nw, jM.len_sI, jM.len_sL, jM.len_sR, jM.len_fI, jM.len_fL, jM.len_fR, *]; omega)) (by first | omega | (exact R.r _ _) | (simp only [jM.len_sI, jM.len_sL, jM.len_sR, jM.len_fI, jM.len_fL, jM.len_fR]; omega) | (simp [jM.len_nw, jM.len_sI, jM.len_sL, jM.len_sR, jM.len_fI, jM.len_fL, jM.len_fR, *]; omega)) ?_
            unfold rtQ
            rw [e9]
            refine ⟨rfl, ⟨_, c2.kept d2 (fun z => by have := G3.2.2.2.2.2.2.1; rw [z] at tr3; omega) (fun z => by have := G3.2.2.2.2.2.2.1; have := c2.2.2.1.1; rw [z] at this; omega) (fun z => by have := G3.2.2.2.2.2.2.1; have := c2.2.2.1.2.2.1; rw [z] at this; omega)⟩, ?_, F3.trans d2 (fun _ _ z => z.elim Or.inl (fun z => Or.inr (Or.inr z))), N3.st d3⟩
            have eB : gB (l ++ [(mof (wcode T n (sk T n p)), T (sk T n (we T n (sk T n p))), nq.2)]) = gB l := funext fun m => by
              rw [gB_app, if_neg (fun z => by have := z.2; simp at this; omega)]
            have eA : gA (l ++ [(mof (wcode T n (sk T n p)), T (sk T n (we T n (sk T n p))), nq.2)]) = upF (gA l) (mof (wcode T n (sk T n p))) (max (gA l (mof (wcode T n (sk T n p)))) nq.2) := funext fun m => by
              rw [gA_app]
              unfold upF
              show (if mof (wcode T n (sk T n p)) = m ∧ T (sk T n (we T n (sk T n p))) ≠ 60 then max (gA l m) nq.2 else gA l m) = _
              by_cases q9 : m = mof (wcode T n (sk T n p))
              · rw [if_pos ⟨q9.symm, by omega⟩, if_pos q9, q9]
              · rw [if_neg (fun z => q9 z.1.symm), if_neg q9]
            rw [eB, eA]
            exact d1
          · rw [if_pos rfl] at hx2
            refine J.callV (pc' := 53) (t := 7) rfl MX3_addTest ml_X2_88 iv_X3_addTest (by decide) ⟨_, rfl, rfl⟩ (by first | assumption | (simp only [jM.tag_sI, jM.tag_sL, jM.tag_sR, jM.tag_fI, jM.tag_fL, jM.tag_fR]; assumption) | (simp [jM.tag_nw, jM.tag_sI, jM.tag_sL, jM.tag_sR, jM.tag_fI, jM.tag_fL, jM.tag_fR, *]; done)) (cx_addB G3 (by omega) (hb _).1 rn) rfl rfl (Nat.le_of_ble_eq_true rfl) (by first | omega | (exact R.r _ _) | (simp only [jM.len_sI, jM.len_sL, jM.len_sR, jM.len_fI, jM.len_fL, jM.len_fR]; omega) | (simp [jM.len_nw, jM.len_sI, jM.len_sL, jM.len_sR, jM.len_fI, jM.len_fL, jM.len_fR, *]; omega)) (by first | omega | (exact R.r _ _) | (simp only [jM.len_sI, jM.len_sL, jM.len_sR, jM.len_fI, jM.len_fL, jM.len_fR]; omega) | (simp [jM.len_nw, jM.len_sI, jM.len_sL, jM.len_sR, jM.len_fI, jM.len_fL, jM.len_fR, *]; omega)) (by first | omega | (exact R.r _ _) | (simp only [jM.len_sI, jM.len_sL, jM.len_sR, jM.len_fI, jM.len_fL, jM.len_fR]; omega) | (simp [jM.len_nw, jM.len_sI, jM.len_sL, jM.len_sR, jM.len_fI, jM.len_fL, jM.len_fR, *]; omega)) rfl rfl ?_ ?_
            · exact fun _ _ h => h
            rintro _ k3 ⟨rfl, d1, d2, d3⟩
            refine J.iconst (pc' := 54) rfl rfl ?_
            refine J.zret rfl rfl (by rfl) (by first | omega | (exact R.r _ _) | (simp only [jM.len_sI, jM.len_sL, jM.len_sR, jM.len_fI, jM.len_fL, jM.len_fR]; omega) | (simp [jM.len_nw, jM.len_sI, jM.len_sL, jM.len_sR, jM.len_fI, jM.len_fL, jM.len_fR, *]; omega)) (by first | omega | (exact R.r _ _) | (simp only [jM.len_sI, jM.len_sL, jM.len_sR, jM.len_fI, jM.len_fL, jM.len_fR]; omega) | (simp [jM.len_nw, jM.len_sI, jM.len_sL, jM.len_sR, jM.len_fI, jM.len_fL, jM.len_fR, *]; omega)) ?_
            unfold rtQ
            rw [e9]
            refine ⟨rfl, ⟨_, c2.kept d2 (fun z => by have := G3.2.2.1; rw [z] at tr3; omega) (fun z => by have := G3.2.2.1; have := c2.2.2.1.1; rw [z] at this; omega) (fun z => by have := G3.2.2.1; have := c2.2.2.1.2.2.1; rw [z] at this; omega)⟩, ?_, F3.trans d2 (fun _ _ z => z.elim Or.inl (fun z => Or.inr (Or.inl z))), N3.st d3⟩
            have eA : gA (l ++ [(mof (wcode T n (sk T n p)), T (sk T n (we T n (sk T n p))), nq.2)]) = gA l := funext fun m => by
              rw [gA_app, if_neg (fun z => by have := z.2; simp at this; omega)]
            have eB : gB (l ++ [(mof (wcode T n (sk T n p)), T (sk T n (we T n (sk T n p))), nq.2)]) = upF (gB l) (mof (wcode T n (sk T n p))) (min (gB l (mof (wcode T n (sk T n p)))) nq.2) := funext fun m => by
              rw [gB_app]
              unfold upF
              show (if mof (wcode T n (sk T n p)) = m ∧ T (sk T n (we T n (sk T n p))) = 60 then min (gB l m) nq.2 else gB l m) = _
              by_cases q9 : m = mof (wcode T n (sk T n p))
              · rw [if_pos ⟨q9.symm, by omega⟩, if_pos q9, q9]
              · rw [if_neg (fun z => q9 z.1.symm), if_neg q9]
            rw [eB, eA]
            exact d1
        · omega
      · rw [if_neg z3]
        refine J.if_ne (tgt := 43) (pc' := 41) rfl rfl rfl (by first | omega | (exact R.r _ _) | (simp only [jM.len_sI, jM.len_sL, jM.len_sR, jM.len_fI, jM.len_fL, jM.len_fR]; omega) | (simp [jM.len_nw, jM.len_sI, jM.len_sL, jM.len_sR, jM.len_fI, jM.len_fL, jM.len_fR, *]; omega)) (fun z4 => ?_) (fun z4 => ?_)
        · omega
        · refine J.iconst (pc' := 42) rfl rfl ?_
          refine J.zret rfl rfl (by rfl) (by first | omega | (exact R.r _ _) | (simp only [jM.len_sI, jM.len_sL, jM.len_sR, jM.len_fI, jM.len_fL, jM.len_fR]; omega) | (simp [jM.len_nw, jM.len_sI, jM.len_sL, jM.len_sR, jM.len_fI, jM.len_fL, jM.len_fR, *]; omega)) (by first | omega | (exact R.r _ _) | (simp only [jM.len_sI, jM.len_sL, jM.len_sR, jM.len_fI, jM.len_fL, jM.len_fR]; omega) | (simp [jM.len_nw, jM.len_sI, jM.len_sL, jM.len_sR, jM.len_fI, jM.len_fL, jM.len_fR, *]; omega)) ?_
          have e9 : pTest T n p = .inl (sk T n (sk T n (we T n (sk T n p)) + 1)) := by
            unfold pTest
            rw [if_neg z1, if_neg (by rcases hb2 with rfl | rfl <;> simp at hx2 <;> omega), if_pos (by omega)]
          unfold rtQ
          rw [e9]
          exact ⟨rfl, ⟨_, _, c2⟩, F3.mono (fun _ _ z => Or.inl z), N3⟩
    rintro _ k2 (⟨x1, rfl, c2, c3, c4⟩ | ⟨x1, rfl, c2, c3, c4⟩)
    · have F2 : Fr h k2 (fun x => x = rd) := g3.trans c3 (fun _ _ z => z.elim id id)
      have N2 : Nt h k2 [1, 35] := g4.trans c4 c3 (by simp)
      refine J.istore_n (pc' := 19) rfl rfl (by decide) ?_
      refine J.iload_n (pc' := 20) rfl rfl rfl ?_
      refine J.if_ne (tgt := 34) (pc' := 23) rfl rfl rfl (by first | omega | (exact R.r _ _) | (simp only [jM.len_sI, jM.len_sL, jM.len_sR, jM.len_fI, jM.len_fL, jM.len_fR]; omega) | (simp [jM.len_nw, jM.len_sI, jM.len_sL, jM.len_sR, jM.len_fI, jM.len_fL, jM.len_fR, *]; omega)) (fun z2 => ?_) (fun z2 => ?_)
      · exact out _ _ (by omega) (by omega) 1 k2 (Or.inr rfl) (by rw [if_pos rfl]; exact x1) ⟨_, c2⟩ F2 N2 _ ⟨rfl, rfl, rfl, rfl, trivial⟩
      · omega
    · have F2 : Fr h k2 (fun x => x = rd) := g3.trans c3 (fun _ _ z => z.elim id id)
      have N2 : Nt h k2 [1, 35] := g4.trans c4 c3 (by simp)
      have tr2 := c2.1
      have e2 := sk_sk (T := T) web.2.1
      refine J.istore_n (pc' := 19) rfl rfl (by decide) ?_
      refine J.iload_n (pc' := 20) rfl rfl rfl ?_
      refine J.if_ne (tgt := 34) (pc' := 23) rfl rfl rfl (by first | omega | (exact R.r _ _) | (simp only [jM.len_sI, jM.len_sL, jM.len_sR, jM.len_fI, jM.len_fL, jM.len_fR]; omega) | (simp [jM.len_nw, jM.len_sI, jM.len_sL, jM.len_sR, jM.len_fI, jM.len_fL, jM.len_fR, *]; omega)) (fun z2 => ?_) (fun z2 => ?_)
      · omega
      · first | refine J.aload_n (pc' := 24) rfl rfl rfl ?_ | refine J.aload_nN (pc' := 24) rfl rfl rfl ?_
        refine J.bipush (pc' := 26) rfl rfl (by decide) ?_
        refine J.callV (pc' := 29) (t := 6) rfl MX2_takesSign ml_X2_65 iv_X2_takesSign (by decide) ⟨_, rfl, rfl⟩ (by first | assumption | (simp only [jM.tag_sI, jM.tag_sL, jM.tag_sR, jM.tag_fI, jM.tag_fL, jM.tag_fR]; assumption) | (simp [jM.tag_nw, jM.tag_sI, jM.tag_sL, jM.tag_sR, jM.tag_fI, jM.tag_fL, jM.tag_fR, *]; done)) (cr_sign (ch := 62) (by decide) c2) rfl rfl (Nat.le_of_ble_eq_true rfl) (by first | omega | (exact R.r _ _) | (simp only [jM.len_sI, jM.len_sL, jM.len_sR, jM.len_fI, jM.len_fL, jM.len_fR]; omega) | (simp [jM.len_nw, jM.len_sI, jM.len_sL, jM.len_sR, jM.len_fI, jM.len_fL, jM.len_fR, *]; omega)) (by first | omega | (exact R.r _ _) | (simp only [jM.len_sI, jM.len_sL, jM.len_sR, jM.len_fI, jM.len_fL, jM.len_fR]; omega) | (simp [jM.len_nw, jM.len_sI, jM.len_sL, jM.len_sR, jM.len_fI, jM.len_fL, jM.len_fR, *]; omega)) (by first | omega | (exact R.r _ _) | (simp only [jM.len_sI, jM.len_sL, jM.len_sR, jM.len_fI, jM.len_fL, jM.len_fR]; omega) | (simp [jM.len_nw, jM.len_sI, jM.len_sL, jM.len_sR, jM.len_fI, jM.len_fL, jM.len_fR, *]; omega)) rfl rfl ?_ ?_
        · exact fun _ _ h => h
        rintro _ k3 (⟨y1, rfl, d2, d3, d4⟩ | ⟨y1, rfl, d2, d3, d4⟩)
        · rw [e2] at y1 d2
          refine J.if_ne (tgt := 34) (pc' := 32) rfl rfl rfl (by first | omega | (exact R.r _ _) | (simp only [jM.len_sI, jM.len_sL, jM.len_sR, jM.len_fI, jM.len_fL, jM.len_fR]; omega) | (simp [jM.len_nw, jM.len_sI, jM.len_sL, jM.len_sR, jM.len_fI, jM.len_fL, jM.len_fR, *]; omega)) (fun z3 => ?_) (fun z3 => ?_)
          · exact out _ _ (by omega) (by omega) 0 k3 (Or.inl rfl) (by rw [if_neg (by decide)]; exact y1) ⟨_, d2⟩ (F2.trans d3 (fun _ _ z => z.elim id id)) (N2.trans d4 d3 (by simp)) _ ⟨rfl, rfl, rfl, rfl, trivial⟩
          · omega
        · rw [e2] at y1 d2
          refine J.if_ne (tgt := 34) (pc' := 32) rfl rfl rfl (by first | omega | (exact R.r _ _) | (simp only [jM.len_sI, jM.len_sL, jM.len_sR, jM.len_fI, jM.len_fL, jM.len_fR]; omega) | (simp [jM.len_nw, jM.len_sI, jM.len_sL, jM.len_sR, jM.len_fI, jM.len_fL, jM.len_fR, *]; omega)) (fun z3 => ?_) (fun z3 => ?_)
          · omega
          · refine J.iconst (pc' := 33) rfl rfl ?_
            refine J.zret rfl rfl (by rfl) (by first | omega | (exact R.r _ _) | (simp only [jM.len_sI, jM.len_sL, jM.len_sR, jM.len_fI, jM.len_fL, jM.len_fR]; omega) | (simp [jM.len_nw, jM.len_sI, jM.len_sL, jM.len_sR, jM.len_fI, jM.len_fL, jM.len_fR, *]; omega)) (by first | omega | (exact R.r _ _) | (simp only [jM.len_sI, jM.len_sL, jM.len_sR, jM.len_fI, jM.len_fL, jM.len_fR]; omega) | (simp [jM.len_nw, jM.len_sI, jM.len_sL, jM.len_sR, jM.len_fI, jM.len_fL, jM.len_fR, *]; omega)) ?_
            unfold rtQ
            rw [e1 _ rfl (fun z => by rcases z with ⟨z, z2 | z2⟩; exact x1 ⟨z, z2⟩; exact y1 ⟨z, z2⟩)]
            exact ⟨rfl, ⟨_, _, d2⟩, (F2.trans d3 (fun _ _ z => z.elim id id) : Fr h k3 (fun x => x = rd)).mono (fun _ _ z => Or.inl z), N2.trans d4 d3 (by simp)⟩
  · have z0 : mof (wcode T n (sk T n p)) = -1 := by omega
    rw [if_pos z0] at g2
    refine J.iconst (pc' := 11) rfl rfl ?_
    refine J.zret rfl rfl (by rfl) (by first | omega | (exact R.r _ _) | (simp only [jM.len_sI, jM.len_sL, jM.len_sR, jM.len_fI, jM.len_fL, jM.len_fR]; omega) | (simp [jM.len_nw, jM.len_sI, jM.len_sL, jM.len_sR, jM.len_fI, jM.len_fL, jM.len_fR, *]; omega)) (by first | omega | (exact R.r _ _) | (simp only [jM.len_sI, jM.len_sL, jM.len_sR, jM.len_fI, jM.len_fL, jM.len_fR]; omega) | (simp [jM.len_nw, jM.len_sI, jM.len_sL, jM.len_sR, jM.len_fI, jM.len_fL, jM.len_fR, *]; omega)) ?_
    unfold rtQ
    rw [show pTest T n p = .inl (sk T n p) by unfold pTest; rw [if_pos z0]]
    exact ⟨rfl, ⟨_, _, g2⟩, g3.mono (fun _ _ z => Or.inl z), g4⟩
def pyQ (h : jM) (rd s e : Nat) (n : Int) (T : Int → Int) (c : Nat) (p : Int) : Option Value → jM → Prop := fun r h' => match pPay T n p with
  | .inl er => r = some (.int (jI 0)) ∧ (∃ p' nm', isRd h' rd s e n T c p' er nm') ∧ Fr h h' (fun b => b = rd) ∧ Nt h h' [1, 35]
  | .inr (q, v) => r = some (.int (jI 1)) ∧ (∃ pl', isRd h' rd s e n T c q pl' v) ∧ Fr h h' (fun b => b = rd) ∧ Nt h h' [1, 35]
theorem cr_pay (hR : isRd h rd s e n T c p pl nm) (hK : isK γ h) : CT γ mX2_readsPay 7 2 ((we T n (sk T n p) - sk T n p).toNat + 4) [.ref rd] h (pyQ h rd s e n T c p) X0 := by
  have hp := hR.2.2.2.2.2.2.2
  have skb := sk_b (T := T) hp.2
  have web := we_b (T := T) skb.2.1
  have hbn := hR.bnd
  have tr := hR.1
  have out : ∀ (c1 c2 : Nat), c1 ≤ 2 → c2 ≤ (we T n (sk T n p) - sk T n p).toNat + 4 → ∀ (er : Int) (k : jM), pPay T n p = .inl er → (∃ p' nm', isRd k rd s e n T c p' er nm') → Fr h k (fun b => b = rd) → Nt h k [1, 35] → ∀ lv, J γ mX2_readsPay 7 2 ((we T n (sk T n p) - sk T n p).toNat + 4) c1 c2 k 29 lv [] (pyQ h rd s e n T c p) X0 := by
    intro c1 c2 hc1 hc2 er k he b1 b2 b3 lv
    refine J.iconst (pc' := 30) rfl rfl ?_
    refine J.zret rfl rfl (by rfl) (by first | omega | (exact R.r _ _) | (simp only [jM.len_sI, jM.len_sL, jM.len_sR, jM.len_fI, jM.len_fL, jM.len_fR]; omega) | (simp [jM.len_nw, jM.len_sI, jM.len_sL, jM.len_sR, jM.len_fI, jM.len_fL, jM.len_fR, *]; omega)) (by first | omega | (exact R.r _ _) | (simp only [jM.len_sI, jM.len_sL, jM.len_sR, jM.len_fI, jM.len_fL, jM.len_fR]; omega) | (simp [jM.len_nw, jM.len_sI, jM.len_sL, jM.len_sR, jM.len_fI, jM.len_fL, jM.len_fR, *]; omega)) ?_
    unfold pyQ
    rw [he]
    exact ⟨rfl, b1, b2, b3⟩
  have hw := cr_word (γ := γ) (q := (3, [112, 97, 121])) (by simp [txs]) hR hK
  rw [show wc (tx (3, ([112, 97, 121] : List Int)).2) 0 (3, ([112, 97, 121] : List Int)).2.length = 7364985 from txs_3] at hw
  refine CT.of MX2_readsPay (Nat.le_of_ble_eq_true rfl) ?_
  show J γ mX2_readsPay 7 2 ((we T n (sk T n p) - sk T n p).toNat+4) 0 0 h 0 [(0, .ref rd)] [] _ _
  first | refine J.aload_n (pc' := 1) rfl rfl rfl ?_ | refine J.aload_nN (pc' := 1) rfl rfl rfl ?_
  refine J.ldcS (pc' := 3) (i := 3) (text := "pay") rfl (List.mem_of_getElem? (i := 969) (by decide +kernel)) (show (3, Term.string "ScrapYard$ContractReader" 92) ∈ jKs by simp [jKs]) rfl ?_
  refine J.callV (pc' := 6) (t := 6) rfl MX2_takesWord ml_X2_31 iv_X2_takesWord (by decide) ⟨_, rfl, rfl⟩ (by first | assumption | (simp only [jM.tag_sI, jM.tag_sL, jM.tag_sR, jM.tag_fI, jM.tag_fL, jM.tag_fR]; assumption) | (simp [jM.tag_nw, jM.tag_sI, jM.tag_sL, jM.tag_sR, jM.tag_fI, jM.tag_fL, jM.tag_fR, *]; done)) hw rfl rfl (Nat.le_of_ble_eq_true rfl) (by first | omega | (exact R.r _ _) | (simp only [jM.len_sI, jM.len_sL, jM.len_sR, jM.len_fI, jM.len_fL, jM.len_fR]; omega) | (simp [jM.len_nw, jM.len_sI, jM.len_sL, jM.len_sR, jM.len_fI, jM.len_fL, jM.len_fR, *]; omega)) (by first | omega | (exact R.r _ _) | (simp only [jM.len_sI, jM.len_sL, jM.len_sR, jM.len_fI, jM.len_fL, jM.len_fR]; omega) | (simp [jM.len_nw, jM.len_sI, jM.len_sL, jM.len_sR, jM.len_fI, jM.len_fL, jM.len_fR, *]; omega)) (by first | omega | (exact R.r _ _) | (simp only [jM.len_sI, jM.len_sL, jM.len_sR, jM.len_fI, jM.len_fL, jM.len_fR]; omega) | (simp [jM.len_nw, jM.len_sI, jM.len_sL, jM.len_sR, jM.len_fI, jM.len_fL, jM.len_fR, *]; omega)) rfl rfl ?_ ?_
  · exact fun _ _ h => h
  rintro _ k1 (⟨x1, rfl, c2, c3, c4⟩ | ⟨x1, rfl, c2, c3, c4⟩)
  · have tr1 := c2.1
    have x2b := sk_b (T := T) web.2.1
    have nb := numN_b (T := T) (n := n) 5 (sk T n (we T n (sk T n p))) 0 x2b.2.1 (by omega)
    refine J.if_eq (tgt := 29) (pc' := 9) rfl rfl rfl (by first | omega | (exact R.r _ _) | (simp only [jM.len_sI, jM.len_sL, jM.len_sR, jM.len_fI, jM.len_fL, jM.len_fR]; omega) | (simp [jM.len_nw, jM.len_sI, jM.len_sL, jM.len_sR, jM.len_fI, jM.len_fL, jM.len_fR, *]; omega)) (fun z1 => ?_) (fun z1 => ?_)
    · omega
    · first | refine J.aload_n (pc' := 10) rfl rfl rfl ?_ | refine J.aload_nN (pc' := 10) rfl rfl rfl ?_
      refine J.callV (pc' := 13) (t := 6) rfl MX2_takesNumber ml_X2_85 iv_X2_takesNumber (by decide) ⟨_, rfl, rfl⟩ (by first | assumption | (simp only [jM.tag_sI, jM.tag_sL, jM.tag_sR, jM.tag_fI, jM.tag_fL, jM.tag_fR]; assumption) | (simp [jM.tag_nw, jM.tag_sI, jM.tag_sL, jM.tag_sR, jM.tag_fI, jM.tag_fL, jM.tag_fR, *]; done)) (cr_number c2) rfl rfl (Nat.le_of_ble_eq_true rfl) (by first | omega | (exact R.r _ _) | (simp only [jM.len_sI, jM.len_sL, jM.len_sR, jM.len_fI, jM.len_fL, jM.len_fR]; omega) | (simp [jM.len_nw, jM.len_sI, jM.len_sL, jM.len_sR, jM.len_fI, jM.len_fL, jM.len_fR, *]; omega)) (by first | omega | (exact R.r _ _) | (simp only [jM.len_sI, jM.len_sL, jM.len_sR, jM.len_fI, jM.len_fL, jM.len_fR]; omega) | (simp [jM.len_nw, jM.len_sI, jM.len_sL, jM.len_sR, jM.len_fI, jM.len_fL, jM.len_fR, *]; omega)) (by first | omega | (exact R.r _ _) | (simp only [jM.len_sI, jM.len_sL, jM.len_sR, jM.len_fI, jM.len_fL, jM.len_fR]; omega) | (simp [jM.len_nw, jM.len_sI, jM.len_sL, jM.len_sR, jM.len_fI, jM.len_fL, jM.len_fR, *]; omega)) rfl rfl ?_ ?_
      · exact fun _ _ h => h
      rintro _ k2 ⟨rfl, d2, d3, d4⟩
      have F2 : Fr h k2 (fun x => x = rd) := c3.trans d3 (fun _ _ z => z.elim id id)
      have N2 : Nt h k2 [1, 35] := c4.trans d4 d3 (by simp)
      have tr2 := d2.1
      by_cases z3 : sk T n (we T n (sk T n p)) < (numN T n 5 (sk T n (we T n (sk T n p))) 0).1
      · rw [if_pos z3]
        refine J.if_eq (tgt := 29) (pc' := 16) rfl rfl rfl (by first | omega | (exact R.r _ _) | (simp only [jM.len_sI, jM.len_sL, jM.len_sR, jM.len_fI, jM.len_fL, jM.len_fR]; omega) | (simp [jM.len_nw, jM.len_sI, jM.len_sL, jM.len_sR, jM.len_fI, jM.len_fL, jM.len_fR, *]; omega)) (fun z4 => ?_) (fun z4 => ?_)
        · omega
        · first | refine J.aload_n (pc' := 17) rfl rfl rfl ?_ | refine J.aload_nN (pc' := 17) rfl rfl rfl ?_
          refine J.bipush (pc' := 19) rfl rfl (by decide) ?_
          refine J.callV (pc' := 22) (t := 6) rfl MX2_takesSign ml_X2_65 iv_X2_takesSign (by decide) ⟨_, rfl, rfl⟩ (by first | assumption | (simp only [jM.tag_sI, jM.tag_sL, jM.tag_sR, jM.tag_fI, jM.tag_fL, jM.tag_fR]; assumption) | (simp [jM.tag_nw, jM.tag_sI, jM.tag_sL, jM.tag_sR, jM.tag_fI, jM.tag_fL, jM.tag_fR, *]; done)) (cr_sign (ch := 59) (by decide) d2) rfl rfl (Nat.le_of_ble_eq_true rfl) (by first | omega | (exact R.r _ _) | (simp only [jM.len_sI, jM.len_sL, jM.len_sR, jM.len_fI, jM.len_fL, jM.len_fR]; omega) | (simp [jM.len_nw, jM.len_sI, jM.len_sL, jM.len_sR, jM.len_fI, jM.len_fL, jM.len_fR, *]; omega)) (by first | omega | (exact R.r _ _) | (simp only [jM.len_sI, jM.len_sL, jM.len_sR, jM.len_fI, jM.len_fL, jM.len_fR]; omega) | (simp [jM.len_nw, jM.len_sI, jM.len_sL, jM.len_sR, jM.len_fI, jM.len_fL, jM.len_fR, *]; omega)) (by first | omega | (exact R.r _ _) | (simp only [jM.len_sI, jM.len_sL, jM.len_sR, jM.len_fI, jM.len_fL, jM.len_fR]; omega) | (simp [jM.len_nw, jM.len_sI, jM.len_sL, jM.len_sR, jM.len_fI, jM.len_fL, jM.len_fR, *]; omega)) rfl rfl ?_ ?_
          · exact fun _ _ h => h
          rintro _ k3 (⟨y1, rfl, f2, f3, f4⟩ | ⟨y1, rfl, f2, f3, f4⟩)
          · refine J.if_eq (tgt := 29) (pc' := 25) rfl rfl rfl (by first | omega | (exact R.r _ _) | (simp only [jM.len_sI, jM.len_sL, jM.len_sR, jM.len_fI, jM.len_fL, jM.len_fR]; omega) | (simp [jM.len_nw, jM.len_sI, jM.len_sL, jM.len_sR, jM.len_fI, jM.len_fL, jM.len_fR, *]; omega)) (fun z5 => ?_) (fun z5 => ?_)
            · omega
            · refine J.iconst (pc' := 26) rfl rfl ?_
              refine J.goto (tgt := 30) rfl rfl ?_
              refine J.zret rfl rfl (by rfl) (by first | omega | (exact R.r _ _) | (simp only [jM.len_sI, jM.len_sL, jM.len_sR, jM.len_fI, jM.len_fL, jM.len_fR]; omega) | (simp [jM.len_nw, jM.len_sI, jM.len_sL, jM.len_sR, jM.len_fI, jM.len_fL, jM.len_fR, *]; omega)) (by first | omega | (exact R.r _ _) | (simp only [jM.len_sI, jM.len_sL, jM.len_sR, jM.len_fI, jM.len_fL, jM.len_fR]; omega) | (simp [jM.len_nw, jM.len_sI, jM.len_sL, jM.len_sR, jM.len_fI, jM.len_fL, jM.len_fR, *]; omega)) ?_
              unfold pyQ
              rw [show pPay T n p = .inr (sk T n (numN T n 5 (sk T n (we T n (sk T n p))) 0).1 + 1, (numN T n 5 (sk T n (we T n (sk T n p))) 0).2) by unfold pPay; rw [if_neg (fun z => z x1), if_neg (by omega), if_pos y1]]
              exact ⟨rfl, ⟨_, f2⟩, F2.trans f3 (fun _ _ z => z.elim id id), N2.trans f4 f3 (by simp)⟩
          · refine J.if_eq (tgt := 29) (pc' := 25) rfl rfl rfl (by first | omega | (exact R.r _ _) | (simp only [jM.len_sI, jM.len_sL, jM.len_sR, jM.len_fI, jM.len_fL, jM.len_fR]; omega) | (simp [jM.len_nw, jM.len_sI, jM.len_sL, jM.len_sR, jM.len_fI, jM.len_fL, jM.len_fR, *]; omega)) (fun z5 => ?_) (fun z5 => ?_)
            · exact out _ _ (by omega) (by omega) _ k3 (by unfold pPay; rw [if_neg (fun z => z x1), if_neg (by omega), if_neg y1]) ⟨_, _, f2⟩ (F2.trans f3 (fun _ _ z => z.elim id id)) (N2.trans f4 f3 (by simp)) _
            · omega
      · rw [if_neg z3]
        refine J.if_eq (tgt := 29) (pc' := 16) rfl rfl rfl (by first | omega | (exact R.r _ _) | (simp only [jM.len_sI, jM.len_sL, jM.len_sR, jM.len_fI, jM.len_fL, jM.len_fR]; omega) | (simp [jM.len_nw, jM.len_sI, jM.len_sL, jM.len_sR, jM.len_fI, jM.len_fL, jM.len_fR, *]; omega)) (fun z4 => ?_) (fun z4 => ?_)
        · exact out _ _ (by omega) (by omega) _ k2 (by unfold pPay; rw [if_neg (fun z => z x1), if_pos (by omega)]) ⟨_, _, d2⟩ F2 N2 _
        · omega
  · refine J.if_eq (tgt := 29) (pc' := 9) rfl rfl rfl (by first | omega | (exact R.r _ _) | (simp only [jM.len_sI, jM.len_sL, jM.len_sR, jM.len_fI, jM.len_fL, jM.len_fR]; omega) | (simp [jM.len_nw, jM.len_sI, jM.len_sL, jM.len_sR, jM.len_fI, jM.len_fL, jM.len_fR, *]; omega)) (fun z1 => ?_) (fun z1 => ?_)
    · exact out _ _ (by omega) (by omega) _ k1 (by unfold pPay; rw [if_pos x1]) ⟨_, _, c2⟩ c3 c4 _
    · omega
end RT

