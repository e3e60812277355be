section LD
variable {γ : jG} {h : jM}
/-- a LOAD -/
def isLd (h : jM) (l : Nat) (n : Int) (s k : Nat) (t d : Int) (c sp : Nat) (P : Nat → Int) (g py : Int) : Prop := h.tag l = 11 ∧ h.I 11 l 0 = n ∧ h.R 11 l 1 = some s ∧ h.R 11 l 2 = some k ∧ h.I 11 l 3 = t ∧ h.I 11 l 4 = d ∧ h.R 11 l 5 = some c ∧ h.R 11 l 6 = some sp ∧ isO h sp l P ∧ h.I 11 l 7 = g ∧ h.I 11 l 8 = py
theorem isLd.kept {h' : jM} {W : Nat → Prop} {l s k c sp : Nat} {n t d g py : Int} {P : Nat → Int} (F : Fr h h' W) (hL : isLd h l n s k t d c sp P g py) (h1 : ¬ W l) (h2 : ¬ W sp) (h3 : ¬ W (pa h sp)) : isLd h' l n s k t d c sp P g py := by
  obtain ⟨a1, a2, a3, a4, a5, a6, a7, a8, a9, a10, a11⟩ := hL
  exact ⟨F.tag a1 (by omega), by rw [F.I a1 (by omega) h1]; exact a2, by rw [F.R a1 (by omega) h1]; exact a3, by rw [F.R a1 (by omega) h1]; exact a4, by rw [F.I a1 (by omega) h1]; exact a5, by rw [F.I a1 (by omega) h1]; exact a6, by rw [F.R a1 (by omega) h1]; exact a7, by rw [F.R a1 (by omega) h1]; exact a8, a9.kept2 F h2 h3, by rw [F.I a1 (by omega) h1]; exact a10, by rw [F.I a1 (by omega) h1]; exact a11⟩
theorem cx_gradeAnew {l s k c sp g e : Nat} {gl : List Nat} {GB GA : Int → Int → Int} {GP : Int → Int} {n t d ep g0 p0 : Int} {P : Nat → Int} (hL : isLd h l n s k t d c sp P g0 p0) (hC : isCt γ h c g e gl GB GA GP ep) (hB : ∀ i m : Nat, i < gl.length → m < 5 → r32 (GB i m) ∧ r32 (GA i m)) (hPb : ∀ j, j < 10 → r32 (P j)) (hep : r32 ep) : CT γ mX7_gradeAnew 4 0 0 [.ref l] h (fun r h' => r = none ∧ h' = (h.sI 11 l 7 (gradeR (fun i => sureG (GB i) (GA i) P) gl.length ep)).sI 11 l 8 (payR GP gl.length ep (gradeR (fun i => sureG (GB i) (GA i) P) gl.length ep))) X0 := by
  have hC0 := hC
  obtain ⟨a1, a2, a3, a4, a5, a6, a7, a8, a9, a10, a11⟩ := hL
  have tc := hC.1
  have tsp := a9.1.1
  have hlen := hC.2.2.1.len
  have gb := gFb_b (fun i => sureG (GB i) (GA i) P) gl.length
  have rg : r32 (gradeR (fun i => sureG (GB i) (GA i) P) gl.length ep) := by
    unfold gradeR
    split
    · split <;> constructor <;> omega
    · constructor <;> omega
  refine CT.of MX7_gradeAnew (Nat.le_of_ble_eq_true rfl) ?_
  show J γ mX7_gradeAnew 4 0 0 0 0 h 0 [(0, .ref l)] [] _ _
  first | refine J.aload_n (pc' := 1) rfl rfl rfl ?_ | refine J.aload_nN (pc' := 1) rfl rfl rfl ?_
  first | refine J.aload_n (pc' := 2) rfl rfl rfl ?_ | refine J.aload_nN (pc' := 2) rfl rfl rfl ?_
  first | refine J.getR (pc' := 5) rfl fl_X7_42 rfl (by first | assumption | (simp only [jM.tag_sI, jM.tag_sL, jM.tag_sR, jM.tag_fI, jM.tag_fL, jM.tag_fR]; assumption) | (simp [jM.tag_nw, jM.tag_sI, jM.tag_sL, jM.tag_sR, jM.tag_fI, jM.tag_fL, jM.tag_fR, *]; done)) (by first | assumption | (simp only [jM.R_sI, jM.R_sL, jM.R_fI, jM.R_fL]; assumption) | (simp [jM.R_nw, jM.R_sR, jM.R_fR, jM.R_sI, jM.R_sL, jM.R_fI, jM.R_fL, *]; done)) rfl ?_ | refine J.getRN (pc' := 5) rfl fl_X7_42 rfl (by first | assumption | (simp only [jM.tag_sI, jM.tag_sL, jM.tag_sR, jM.tag_fI, jM.tag_fL, jM.tag_fR]; assumption) | (simp [jM.tag_nw, jM.tag_sI, jM.tag_sL, jM.tag_sR, jM.tag_fI, jM.tag_fL, jM.tag_fR, *]; done)) (by first | assumption | (simp only [jM.R_sI, jM.R_sL, jM.R_fI, jM.R_fL]; assumption) | (simp [jM.R_nw, jM.R_sR, jM.R_fR, jM.R_sI, jM.R_sL, jM.R_fI, jM.R_fL, *]; done)) rfl ?_
  first | refine J.aload_n (pc' := 6) rfl rfl rfl ?_ | refine J.aload_nN (pc' := 6) rfl rfl rfl ?_
  first | refine J.getR (pc' := 9) rfl fl_X7_12 rfl (by first | assumption | (simp only [jM.tag_sI, jM.tag_sL, jM.tag_sR, jM.tag_fI, jM.tag_fL, jM.tag_fR]; assumption) | (simp [jM.tag_nw, jM.tag_sI, jM.tag_sL, jM.tag_sR, jM.tag_fI, jM.tag_fL, jM.tag_fR, *]; done)) (by first | assumption | (simp only [jM.R_sI, jM.R_sL, jM.R_fI, jM.R_fL]; assumption) | (simp [jM.R_nw, jM.R_sR, jM.R_fR, jM.R_sI, jM.R_sL, jM.R_fI, jM.R_fL, *]; done)) rfl ?_ | refine J.getRN (pc' := 9) rfl fl_X7_12 rfl (by first | assumption | (simp only [jM.tag_sI, jM.tag_sL, jM.tag_sR, jM.tag_fI, jM.tag_fL, jM.tag_fR]; assumption) | (simp [jM.tag_nw, jM.tag_sI, jM.tag_sL, jM.tag_sR, jM.tag_fI, jM.tag_fL, jM.tag_fR, *]; done)) (by first | assumption | (simp only [jM.R_sI, jM.R_sL, jM.R_fI, jM.R_fL]; assumption) | (simp [jM.R_nw, jM.R_sR, jM.R_fR, jM.R_sI, jM.R_sL, jM.R_fI, jM.R_fL, *]; done)) rfl ?_
  refine J.callV (pc' := 12) (t := 5) rfl MX1_gradeOf ml_X7_56 iv_X1_gradeOf (by decide) ⟨_, rfl, rfl⟩ (by first | assumption | (simp only [jM.tag_sI, jM.tag_sL, jM.tag_sR, jM.tag_fI, jM.tag_fL, jM.tag_fR]; assumption) | (simp [jM.tag_nw, jM.tag_sI, jM.tag_sL, jM.tag_sR, jM.tag_fI, jM.tag_fL, jM.tag_fR, *]; done)) (cx_gradeOf hC a9 hB hPb hep) rfl rfl (Nat.le_of_ble_eq_true rfl) (by first | omega | (exact R.r _ _) | (simp only [jM.len_sI, jM.len_sL, jM.len_sR, jM.len_fI, jM.len_fL, jM.len_fR]; omega) | (simp [jM.len_nw, jM.len_sI, jM.len_sL, jM.len_sR, jM.len_fI, jM.len_fL, jM.len_fR, *]; omega)) (by first | omega | (exact R.r _ _) | (simp only [jM.len_sI, jM.len_sL, jM.len_sR, jM.len_fI, jM.len_fL, jM.len_fR]; omega) | (simp [jM.len_nw, jM.len_sI, jM.len_sL, jM.len_sR, jM.len_fI, jM.len_fL, jM.len_fR, *]; omega)) (by first | omega | (exact R.r _ _) | (simp only [jM.len_sI, jM.len_sL, jM.len_sR, jM.len_fI, jM.len_fL, jM.len_fR]; omega) | (simp [jM.len_nw, jM.len_sI, jM.len_sL, jM.len_sR, jM.len_fI, jM.len_fL, jM.len_fR, *]; omega)) rfl rfl ?_ ?_
  · exact fun _ _ h => h
  rintro _ h ⟨rfl, rfl⟩
  generalize gradeR (fun i => sureG (GB i) (GA i) P) gl.length ep = x at rg ⊢
  refine J.putI (pc' := 15) rfl fl_X7_18 rfl (Or.inl rfl) (by first | assumption | (simp only [jM.tag_sI, jM.tag_sL, jM.tag_sR, jM.tag_fI, jM.tag_fL, jM.tag_fR]; assumption) | (simp [jM.tag_nw, jM.tag_sI, jM.tag_sL, jM.tag_sR, jM.tag_fI, jM.tag_fL, jM.tag_fR, *]; done)) (Or.inl rfl) rfl ?_
  have F : Fr h (h.sI 11 l 7 x) (fun b => b = l) := Fr.sI
  have b1 : (h.sI 11 l 7 x).tag l = 11 := a1
  have b2 : (h.sI 11 l 7 x).R 11 l 5 = some c := a7
  have b3 : (h.sI 11 l 7 x).I 11 l 7 = x := by rw [jM.I_sI, if_pos ⟨rfl, rfl, rfl⟩]
  have hC2 : isCt γ (h.sI 11 l 7 x) c g e gl GB GA GP ep := by
    obtain ⟨c1, c2, c3, c4, c5⟩ := hC0
    refine ⟨c1, c2, c3.keptW F (fun q => by have := c3.1; rw [q] at this; omega) (Or.inl (fun q => by have := c3.2.2.1; rw [q] at this; omega)), by rw [jM.I_sI, if_neg (by omega)]; exact c4, fun i y hy => ?_⟩
    obtain ⟨p1, p2, hG⟩ := c5 i y hy
    have hn := hG.2.2.1
    have hn2 := hG.2.2.2.2.2.2.1
    exact ⟨p1, p2, hG.kept F (fun q => by have := hG.1; rw [q] at this; omega) (fun q => by rw [q] at hn; omega) (fun q => by rw [q] at hn2; omega)⟩
  generalize h.sI 11 l 7 x = k1 at F b1 b2 b3 hC2 ⊢
  have tc2 := hC2.1
  first | refine J.aload_n (pc' := 16) rfl rfl rfl ?_ | refine J.aload_nN (pc' := 16) rfl rfl rfl ?_
  first | refine J.aload_n (pc' := 17) rfl rfl rfl ?_ | refine J.aload_nN (pc' := 17) rfl rfl rfl ?_
  first | refine J.getR (pc' := 20) rfl fl_X7_42 rfl (by first | assumption | (simp only [jM.tag_sI, jM.tag_sL, jM.tag_sR, jM.tag_fI, jM.tag_fL, jM.tag_fR]; assumption) | (simp [jM.tag_nw, jM.tag_sI, jM.tag_sL, jM.tag_sR, jM.tag_fI, jM.tag_fL, jM.tag_fR, *]; done)) (by first | assumption | (simp only [jM.R_sI, jM.R_sL, jM.R_fI, jM.R_fL]; assumption) | (simp [jM.R_nw, jM.R_sR, jM.R_fR, jM.R_sI, jM.R_sL, jM.R_fI, jM.R_fL, *]; done)) rfl ?_ | refine J.getRN (pc' := 20) rfl fl_X7_42 rfl (by first | assumption | (simp only [jM.tag_sI, jM.tag_sL, jM.tag_sR, jM.tag_fI, jM.tag_fL, jM.tag_fR]; assumption) | (simp [jM.tag_nw, jM.tag_sI, jM.tag_sL, jM.tag_sR, jM.tag_fI, jM.tag_fL, jM.tag_fR, *]; done)) (by first | assumption | (simp only [jM.R_sI, jM.R_sL, jM.R_fI, jM.R_fL]; assumption) | (simp [jM.R_nw, jM.R_sR, jM.R_fR, jM.R_sI, jM.R_sL, jM.R_fI, jM.R_fL, *]; done)) rfl ?_
  first | refine J.aload_n (pc' := 21) rfl rfl rfl ?_ | refine J.aload_nN (pc' := 21) rfl rfl rfl ?_
  refine J.getI (pc' := 24) rfl fl_X7_18 rfl (by first | assumption | (simp only [jM.tag_sI, jM.tag_sL, jM.tag_sR, jM.tag_fI, jM.tag_fL, jM.tag_fR]; assumption) | (simp [jM.tag_nw, jM.tag_sI, jM.tag_sL, jM.tag_sR, jM.tag_fI, jM.tag_fL, jM.tag_fR, *]; done)) rfl ?_
  rw [b3]
  refine J.callV (pc' := 27) (t := 5) rfl MX1_payOf ml_X7_62 iv_X1_payOf (by decide) ⟨_, rfl, rfl⟩ (by first | assumption | (simp only [jM.tag_sI, jM.tag_sL, jM.tag_sR, jM.tag_fI, jM.tag_fL, jM.tag_fR]; assumption) | (simp [jM.tag_nw, jM.tag_sI, jM.tag_sL, jM.tag_sR, jM.tag_fI, jM.tag_fL, jM.tag_fR, *]; done)) (cx_payOf hC2 rg) rfl rfl (Nat.le_of_ble_eq_true rfl) (by first | omega | (exact R.r _ _) | (simp only [jM.len_sI, jM.len_sL, jM.len_sR, jM.len_fI, jM.len_fL, jM.len_fR]; omega) | (simp [jM.len_nw, jM.len_sI, jM.len_sL, jM.len_sR, jM.len_fI, jM.len_fL, jM.len_fR, *]; omega)) (by first | omega | (exact R.r _ _) | (simp only [jM.len_sI, jM.len_sL, jM.len_sR, jM.len_fI, jM.len_fL, jM.len_fR]; omega) | (simp [jM.len_nw, jM.len_sI, jM.len_sL, jM.len_sR, jM.len_fI, jM.len_fL, jM.len_fR, *]; omega)) (by first | omega | (exact R.r _ _) | (simp only [jM.len_sI, jM.len_sL, jM.len_sR, jM.len_fI, jM.len_fL, jM.len_fR]; omega) | (simp [jM.len_nw, jM.len_sI, jM.len_sL, jM.len_sR, jM.len_fI, jM.len_fL, jM.len_fR, *]; omega)) rfl rfl ?_ ?_
  · exact fun _ _ h => h
  rintro _ k1 ⟨rfl, rfl⟩
  refine J.putI (pc' := 30) rfl fl_X7_22 rfl (Or.inl rfl) (by first | assumption | (simp only [jM.tag_sI, jM.tag_sL, jM.tag_sR, jM.tag_fI, jM.tag_fL, jM.tag_fR]; assumption) | (simp [jM.tag_nw, jM.tag_sI, jM.tag_sL, jM.tag_sR, jM.tag_fI, jM.tag_fL, jM.tag_fR, *]; done)) (Or.inl rfl) rfl ?_
  refine J.vret rfl rfl (by first | omega | (exact R.r _ _) | (simp only [jM.len_sI, jM.len_sL, jM.len_sR, jM.len_fI, jM.len_fL, jM.len_fR]; omega) | (simp [jM.len_nw, jM.len_sI, jM.len_sL, jM.len_sR, jM.len_fI, jM.len_fL, jM.len_fR, *]; omega)) (by first | omega | (exact R.r _ _) | (simp only [jM.len_sI, jM.len_sL, jM.len_sR, jM.len_fI, jM.len_fL, jM.len_fR]; omega) | (simp [jM.len_nw, jM.len_sI, jM.len_sL, jM.len_sR, jM.len_fI, jM.len_fL, jM.len_fR, *]; omega)) ?_
  exact ⟨rfl, rfl⟩
/-- the loop of Load's constructor -/
theorem cx_LoadL {mc ms c1 c2 : Nat} {a s o k ks y0 c sp : Nat} {n t d i p : Int} {O : Int → Int} {kn : Int} {PK : Nat → Int} {h0 : jM} (hc1 : c1 ≤ mc) (hc2 : c2 ≤ ms) (h1 : 0 ≤ kn ∧ kn < 10) (hO : ∀ j : Int, -1 ≤ O j ∧ O j ≤ 10000) (spf : h0.tag sp = 0) : ∀ (m j : Nat), j + m = 10 → ∀ (k1 : jM) (P : Nat → Int), isLd k1 a n s k t d c sp P (-1) 0 → isSl k1 s o i O p → k1.tag k = 9 → k1.I 9 k 0 = kn → k1.R 9 k 1 = some ks → isO k1 ks y0 PK → ks ≠ sp → (∀ x : Nat, x < j → P x = usP O PK kn x) → Fr h0 k1 (fun b => b = a) → h0.tag (pa k1 sp) = 0 → Nt h0 k1 [14, 20] → ∀ lv, hasL lv [(0, .ref a), (2, .ref s), (3, .ref k), (7, .int (jI (j : Int)))] → J γ mX7_init 2 mc ms c1 c2 k1 61 lv [] (fun r h' => r = none ∧ ∃ P', isLd h' a n s k t d c sp P' (-1) 0 ∧ (∀ x : Nat, x < 10 → P' x = usP O PK kn x) ∧ Fr h0 h' (fun b => b = a) ∧ Nt h0 h' [14, 20]) X0 := by
  intro m
  induction m with
  | zero =>
    intro j hj k1 P b1 b2 b3 b4 b5 b6 b7 b8 b9 b10 b11 lv hlv
    refine J.lc hlv ?_
    refine J.iload (pc' := 63) rfl rfl rfl ?_
    refine J.bipush (pc' := 65) rfl rfl (by decide) ?_
    refine J.icmp_ge (tgt := 91) (pc' := 68) rfl rfl rfl (by first | omega | (exact R.r _ _) | (simp only [jM.len_sI, jM.len_sL, jM.len_sR, jM.len_fI, jM.len_fL, jM.len_fR]; omega) | (simp [jM.len_nw, jM.len_sI, jM.len_sL, jM.len_sR, jM.len_fI, jM.len_fL, jM.len_fR, *]; omega)) (by first | omega | (exact R.r _ _) | (simp only [jM.len_sI, jM.len_sL, jM.len_sR, jM.len_fI, jM.len_fL, jM.len_fR]; omega) | (simp [jM.len_nw, jM.len_sI, jM.len_sL, jM.len_sR, jM.len_fI, jM.len_fL, jM.len_fR, *]; omega)) (fun c3 => ?_) (fun c3 => ?_)
    · refine J.vret rfl rfl (by first | omega | (exact R.r _ _) | (simp only [jM.len_sI, jM.len_sL, jM.len_sR, jM.len_fI, jM.len_fL, jM.len_fR]; omega) | (simp [jM.len_nw, jM.len_sI, jM.len_sL, jM.len_sR, jM.len_fI, jM.len_fL, jM.len_fR, *]; omega)) (by first | omega | (exact R.r _ _) | (simp only [jM.len_sI, jM.len_sL, jM.len_sR, jM.len_fI, jM.len_fL, jM.len_fR]; omega) | (simp [jM.len_nw, jM.len_sI, jM.len_sL, jM.len_sR, jM.len_fI, jM.len_fL, jM.len_fR, *]; omega)) ?_
      exact ⟨rfl, P, b1, fun x hx => b8 x (by omega), b9, b11⟩
    · omega
  | succ m ih =>
    intro j hj k1 P b1 b2 b3 b4 b5 b6 b7 b8 b9 b10 b11 lv hlv
    have hL0 := b1
    obtain ⟨a1, a2, a3, a4, a5, a6, a7, a8, a9, a10, a11⟩ := b1
    have hS0 := b2
    obtain ⟨s1, s2, s3, s4, s5, s6, s7, s8⟩ := b2
    obtain ⟨q1, q2, q3, q4, q5⟩ := a9.1
    refine J.lc hlv ?_
    refine J.iload (pc' := 63) rfl rfl rfl ?_
    refine J.bipush (pc' := 65) rfl rfl (by decide) ?_
    refine J.icmp_ge (tgt := 91) (pc' := 68) rfl rfl rfl (by first | omega | (exact R.r _ _) | (simp only [jM.len_sI, jM.len_sL, jM.len_sR, jM.len_fI, jM.len_fL, jM.len_fR]; omega) | (simp [jM.len_nw, jM.len_sI, jM.len_sL, jM.len_sR, jM.len_fI, jM.len_fL, jM.len_fR, *]; omega)) (by first | omega | (exact R.r _ _) | (simp only [jM.len_sI, jM.len_sL, jM.len_sR, jM.len_fI, jM.len_fL, jM.len_fR]; omega) | (simp [jM.len_nw, jM.len_sI, jM.len_sL, jM.len_sR, jM.len_fI, jM.len_fL, jM.len_fR, *]; omega)) (fun c3 => ?_) (fun c3 => ?_)
    · omega
    · first | refine J.aload_n (pc' := 69) rfl rfl rfl ?_ | refine J.aload_nN (pc' := 69) rfl rfl rfl ?_
      first | refine J.getR (pc' := 72) rfl fl_X7_12 rfl (by first | assumption | (simp only [jM.tag_sI, jM.tag_sL, jM.tag_sR, jM.tag_fI, jM.tag_fL, jM.tag_fR]; assumption) | (simp [jM.tag_nw, jM.tag_sI, jM.tag_sL, jM.tag_sR, jM.tag_fI, jM.tag_fL, jM.tag_fR, *]; done)) (by first | assumption | (simp only [jM.R_sI, jM.R_sL, jM.R_fI, jM.R_fL]; assumption) | (simp [jM.R_nw, jM.R_sR, jM.R_fR, jM.R_sI, jM.R_sL, jM.R_fI, jM.R_fL, *]; done)) rfl ?_ | refine J.getRN (pc' := 72) rfl fl_X7_12 rfl (by first | assumption | (simp only [jM.tag_sI, jM.tag_sL, jM.tag_sR, jM.tag_fI, jM.tag_fL, jM.tag_fR]; assumption) | (simp [jM.tag_nw, jM.tag_sI, jM.tag_sL, jM.tag_sR, jM.tag_fI, jM.tag_fL, jM.tag_fR, *]; done)) (by first | assumption | (simp only [jM.R_sI, jM.R_sL, jM.R_fI, jM.R_fL]; assumption) | (simp [jM.R_nw, jM.R_sR, jM.R_fR, jM.R_sI, jM.R_sL, jM.R_fI, jM.R_fL, *]; done)) rfl ?_
      first | refine J.getR (pc' := 75) rfl fl_X7_46 rfl (by first | assumption | (simp only [jM.tag_sI, jM.tag_sL, jM.tag_sR, jM.tag_fI, jM.tag_fL, jM.tag_fR]; assumption) | (simp [jM.tag_nw, jM.tag_sI, jM.tag_sL, jM.tag_sR, jM.tag_fI, jM.tag_fL, jM.tag_fR, *]; done)) (by first | assumption | (simp only [jM.R_sI, jM.R_sL, jM.R_fI, jM.R_fL]; assumption) | (simp [jM.R_nw, jM.R_sR, jM.R_fR, jM.R_sI, jM.R_sL, jM.R_fI, jM.R_fL, *]; done)) rfl ?_ | refine J.getRN (pc' := 75) rfl fl_X7_46 rfl (by first | assumption | (simp only [jM.tag_sI, jM.tag_sL, jM.tag_sR, jM.tag_fI, jM.tag_fL, jM.tag_fR]; assumption) | (simp [jM.tag_nw, jM.tag_sI, jM.tag_sL, jM.tag_sR, jM.tag_fI, jM.tag_fL, jM.tag_fR, *]; done)) (by first | assumption | (simp only [jM.R_sI, jM.R_sL, jM.R_fI, jM.R_fL]; assumption) | (simp [jM.R_nw, jM.R_sR, jM.R_fR, jM.R_sI, jM.R_sL, jM.R_fI, jM.R_fL, *]; done)) rfl ?_
      refine J.iload (pc' := 77) rfl rfl rfl ?_
      first | refine J.aload_n (pc' := 78) rfl rfl rfl ?_ | refine J.aload_nN (pc' := 78) rfl rfl rfl ?_
      first | refine J.aload_n (pc' := 79) rfl rfl rfl ?_ | refine J.aload_nN (pc' := 79) rfl rfl rfl ?_
      refine J.iload (pc' := 81) rfl rfl rfl ?_
      refine J.callV (pc' := 84) (t := 13) rfl MX9_usualPart ml_X7_50 iv_X9_usualPart (by decide) ⟨_, rfl, rfl⟩ (by first | assumption | (simp only [jM.tag_sI, jM.tag_sL, jM.tag_sR, jM.tag_fI, jM.tag_fL, jM.tag_fR]; assumption) | (simp [jM.tag_nw, jM.tag_sI, jM.tag_sL, jM.tag_sR, jM.tag_fI, jM.tag_fL, jM.tag_fR, *]; done)) (cx_usual (place := (j : Int)) hS0 b3 b4 b5 b6 h1 (by omega) hO) rfl rfl (Nat.le_of_ble_eq_true rfl) (by first | omega | (exact R.r _ _) | (simp only [jM.len_sI, jM.len_sL, jM.len_sR, jM.len_fI, jM.len_fL, jM.len_fR]; omega) | (simp [jM.len_nw, jM.len_sI, jM.len_sL, jM.len_sR, jM.len_fI, jM.len_fL, jM.len_fR, *]; omega)) (by first | omega | (exact R.r _ _) | (simp only [jM.len_sI, jM.len_sL, jM.len_sR, jM.len_fI, jM.len_fL, jM.len_fR]; omega) | (simp [jM.len_nw, jM.len_sI, jM.len_sL, jM.len_sR, jM.len_fI, jM.len_fL, jM.len_fR, *]; omega)) (by first | omega | (exact R.r _ _) | (simp only [jM.len_sI, jM.len_sL, jM.len_sR, jM.len_fI, jM.len_fL, jM.len_fR]; omega) | (simp [jM.len_nw, jM.len_sI, jM.len_sL, jM.len_sR, jM.len_fI, jM.len_fL, jM.len_fR, *]; omega)) rfl rfl ?_ ?_
      · exact fun _ _ h => h
      rintro _ k1 ⟨rfl, rfl⟩
      rw [show (if O (kn * 10 + (j : Int)) = -1 then PK (j : Int).toNat else O (kn * 10 + (j : Int))) = usP O PK kn j from rfl]
      refine J.iast (pc' := 85) rfl (by first | assumption | (simp only [jM.tag_sI, jM.tag_sL, jM.tag_sR, jM.tag_fI, jM.tag_fL, jM.tag_fR]; assumption) | (simp [jM.tag_nw, jM.tag_sI, jM.tag_sL, jM.tag_sR, jM.tag_fI, jM.tag_fL, jM.tag_fR, *]; done)) (by decide) rfl (by first | omega | (exact R.r _ _) | (simp only [jM.len_sI, jM.len_sL, jM.len_sR, jM.len_fI, jM.len_fL, jM.len_fR]; omega) | (simp [jM.len_nw, jM.len_sI, jM.len_sL, jM.len_sR, jM.len_fI, jM.len_fL, jM.len_fR, *]; omega)) (by first | omega | (exact R.r _ _) | (simp only [jM.len_sI, jM.len_sL, jM.len_sR, jM.len_fI, jM.len_fL, jM.len_fR]; omega) | (simp [jM.len_nw, jM.len_sI, jM.len_sL, jM.len_sR, jM.len_fI, jM.len_fL, jM.len_fR, *]; omega)) (by first | omega | (exact R.r _ _) | (simp only [jM.len_sI, jM.len_sL, jM.len_sR, jM.len_fI, jM.len_fL, jM.len_fR]; omega) | (simp [jM.len_nw, jM.len_sI, jM.len_sL, jM.len_sR, jM.len_fI, jM.len_fL, jM.len_fR, *]; omega)) (Or.inl rfl) rfl ?_
      refine J.iinc (pc' := 88) rfl rfl rfl (by decide) ?_
      refine J.goto (tgt := 61) rfl rfl ?_
      have eN : (j : Int).toNat = j := by omega
      rw [eN]
      have F : Fr k1 (k1.sI 20 (pa k1 sp) j (usP O PK kn j)) (fun b => b = pa k1 sp) := Fr.sI
      have ep : pa (k1.sI 20 (pa k1 sp) j (usP O PK kn j)) sp = pa k1 sp := rfl
      have np : pa k1 ks ≠ pa k1 sp := b6.1.ne a9.1 b7
      have hks := b6.1.1
      refine ih (j + 1) (by omega) (k1.sI 20 (pa k1 sp) j (usP O PK kn j)) (fun x => if x = j then usP O PK kn j else P x) ⟨a1, ?_, a3, a4, ?_, ?_, a7, a8, ⟨⟨q1, q2, q3, q4, q5⟩, a9.2.1, a9.2.2.1, fun x hx => ?_⟩, ?_, ?_⟩ (hS0.kept F (fun q => by rw [q] at s1; omega) (fun q => by rw [q] at s4; omega)) b3 (by rw [jM.I_sI, if_neg (by omega)]; exact b4) b5 (b6.kept2 F (fun q => by rw [q] at hks; omega) np) b7 (fun x hx => ?_) (b9.stI (Or.inr b10)) b10 (b11.st rfl) _ ⟨rfl, rfl, rfl, rfl, trivial⟩
      · rw [jM.I_sI, if_neg (by omega)]; exact a2
      · rw [jM.I_sI, if_neg (by omega)]; exact a5
      · rw [jM.I_sI, if_neg (by omega)]; exact a6
      · show (k1.sI 20 (pa k1 sp) j (usP O PK kn j)).I 20 (pa k1 sp) x = if x = j then usP O PK kn j else P x
        rw [jM.I_sI]
        by_cases z : x = j
        · rw [if_pos ⟨rfl, rfl, z⟩, if_pos z]
        · rw [if_neg (fun y => z y.2.2), if_neg z]
          exact a9.2.2.2 x hx
      · rw [jM.I_sI, if_neg (by omega)]; exact a10
      · rw [jM.I_sI, if_neg (by omega)]; exact a11
      · show (if x = j then usP O PK kn j else P x) = _
        by_cases z : x = j
        · rw [if_pos z, z]
        · rw [if_neg z]; exact b8 x (by omega)
theorem cx_Load {a s o k ks y0 c : Nat} {n t d i p : Int} {O : Int → Int} {kn : Int} {PK : Nat → Int} (ha : h.tag a = 11) (hS : isSl h s o i O p) (hk : h.tag k = 9) (hkn : h.I 9 k 0 = kn) (hks : h.R 9 k 1 = some ks) (hPK : isO h ks y0 PK) (h1 : 0 ≤ kn ∧ kn < 10) (hO : ∀ j : Int, -1 ≤ O j ∧ O j ≤ 10000) : CT γ mX7_init 2 2 11 [.ref a, .int (jI n), .ref s, .ref k, .int (jI t), .int (jI d), .ref c] h (fun r h' => r = none ∧ ∃ sp P', h.tag sp = 0 ∧ isLd h' a n s k t d c sp P' (-1) 0 ∧ (∀ x : Nat, x < 10 → P' x = usP O PK kn x) ∧ Fr h h' (fun b => b = a) ∧ Nt h h' [14, 20]) X0 := by
  refine CT.of MX7_init (Nat.le_of_ble_eq_true rfl) ?_
  show J γ mX7_init 2 2 11 0 0 h 0 [(0, .ref a), (1, .int (jI n)), (2, .ref s), (3, .ref k), (4, .int (jI t)), (5, .int (jI d)), (6, .ref c)] [] _ _
  first | refine J.aload_n (pc' := 1) rfl rfl rfl ?_ | refine J.aload_nN (pc' := 1) rfl rfl rfl ?_
  refine J.objI (pc' := 4) rfl (List.mem_of_getElem? (i := 1016) (by decide +kernel)) jObj_i jObj_c (by omega) (Nat.le_of_ble_eq_true rfl) rfl ?_
  first | refine J.aload_n (pc' := 5) rfl rfl rfl ?_ | refine J.aload_nN (pc' := 5) rfl rfl rfl ?_
  refine J.new (pc' := 8) (t := 14) (N := 1) (n := 1) rfl ⟨by decide, by decide, _, rfl, rfl, List.mem_of_getElem? (i := 1017) (by decide +kernel), List.mem_of_getElem? (i := 135) (by decide +kernel), List.mem_of_getElem? (i := 68) (by decide +kernel)⟩ (by first | omega | (exact R.r _ _) | (simp only [jM.len_sI, jM.len_sL, jM.len_sR, jM.len_fI, jM.len_fL, jM.len_fR]; omega) | (simp [jM.len_nw, jM.len_sI, jM.len_sL, jM.len_sR, jM.len_fI, jM.len_fL, jM.len_fR, *]; omega)) (by first | omega | (exact R.r _ _) | (simp only [jM.len_sI, jM.len_sL, jM.len_sR, jM.len_fI, jM.len_fL, jM.len_fR]; omega) | (simp [jM.len_nw, jM.len_sI, jM.len_sL, jM.len_sR, jM.len_fI, jM.len_fL, jM.len_fR, *]; omega)) rfl (fun q qf qb => ?_)
  have hne : ¬ a = q := fun e1 => by rw [e1] at ha; omega
  have tq : (h.nw q 14 1).tag q = 14 := by rw [jM.tag_nw, if_pos rfl]
  refine J.dup (pc' := 9) rfl rfl rfl ?_
  refine J.callI (pc' := 12) rfl MX10_init ml_X7_11 iv_X10_init ⟨rfl, rfl⟩ (cs_init tq) rfl rfl (Nat.le_of_ble_eq_true rfl) (by first | omega | (exact R.r _ _) | (simp only [jM.len_sI, jM.len_sL, jM.len_sR, jM.len_fI, jM.len_fL, jM.len_fR]; omega) | (simp [jM.len_nw, jM.len_sI, jM.len_sL, jM.len_sR, jM.len_fI, jM.len_fL, jM.len_fR, *]; omega)) (by first | omega | (exact R.r _ _) | (simp only [jM.len_sI, jM.len_sL, jM.len_sR, jM.len_fI, jM.len_fL, jM.len_fR]; omega) | (simp [jM.len_nw, jM.len_sI, jM.len_sL, jM.len_sR, jM.len_fI, jM.len_fL, jM.len_fR, *]; omega)) (by first | omega | (exact R.r _ _) | (simp only [jM.len_sI, jM.len_sL, jM.len_sR, jM.len_fI, jM.len_fL, jM.len_fR]; omega) | (simp [jM.len_nw, jM.len_sI, jM.len_sL, jM.len_sR, jM.len_fI, jM.len_fL, jM.len_fR, *]; omega)) rfl ?_
  rintro _ h1' ⟨rfl, g1, g2, g3, g4, g5⟩
  have F0 : Fr h (h.nw q 14 1) (fun b => b = a) := Fr.stN Fr.rf qf
  have F1 : Fr h h1' (fun b => b = a) := F0.trans g3 (fun b hb q9 => by
    rcases q9 with q9 | q9
    · exact q9
    · rw [q9] at hb; exact absurd qf hb)
  have N1 : Nt h h1' [14, 20] := (Nt.stN (q := q) (t := 14) (n := 1) Nt.rf (by simp)).trans g4 g3 (by simp)
  refine J.ownS a g1 (fun h2 o1 t2 e2 f2 => ?_)
  have fp : h.tag (pa h2 q) = 0 := by rw [e2]; exact F0.free g5
  have F2 := f2 h _ F1 qf (F0.free g5)
  have N2 : Nt h h2 [14, 20] := N1.st t2
  have ta : h2.tag a = 11 := F2.tag ha (by omega)
  have tqq := o1.1.1
  generalize sv h1' q = PP at o1
  first | refine J.putR (pc' := 15) rfl fl_X7_12 rfl (Or.inr ⟨rfl, rfl, rfl⟩) (by first | assumption | (simp only [jM.tag_sI, jM.tag_sL, jM.tag_sR, jM.tag_fI, jM.tag_fL, jM.tag_fR]; assumption) | (simp [jM.tag_nw, jM.tag_sI, jM.tag_sL, jM.tag_sR, jM.tag_fI, jM.tag_fL, jM.tag_fR, *]; done)) (Or.inl rfl) rfl ?_ | refine J.putRN (pc' := 15) rfl fl_X7_12 rfl (Or.inr ⟨rfl, rfl, rfl⟩) (by first | assumption | (simp only [jM.tag_sI, jM.tag_sL, jM.tag_sR, jM.tag_fI, jM.tag_fL, jM.tag_fR]; assumption) | (simp [jM.tag_nw, jM.tag_sI, jM.tag_sL, jM.tag_sR, jM.tag_fI, jM.tag_fL, jM.tag_fR, *]; done)) (Or.inl rfl) rfl ?_
  first | refine J.aload_n (pc' := 16) rfl rfl rfl ?_ | refine J.aload_nN (pc' := 16) rfl rfl rfl ?_
  refine J.iconst (pc' := 17) rfl rfl ?_
  refine J.putI (pc' := 20) rfl fl_X7_18 rfl (Or.inl rfl) (by first | assumption | (simp only [jM.tag_sI, jM.tag_sL, jM.tag_sR, jM.tag_fI, jM.tag_fL, jM.tag_fR]; assumption) | (simp [jM.tag_nw, jM.tag_sI, jM.tag_sL, jM.tag_sR, jM.tag_fI, jM.tag_fL, jM.tag_fR, *]; done)) (Or.inl rfl) rfl ?_
  first | refine J.aload_n (pc' := 21) rfl rfl rfl ?_ | refine J.aload_nN (pc' := 21) rfl rfl rfl ?_
  refine J.iconst (pc' := 22) rfl rfl ?_
  refine J.putI (pc' := 25) rfl fl_X7_22 rfl (Or.inl rfl) (by first | assumption | (simp only [jM.tag_sI, jM.tag_sL, jM.tag_sR, jM.tag_fI, jM.tag_fL, jM.tag_fR]; assumption) | (simp [jM.tag_nw, jM.tag_sI, jM.tag_sL, jM.tag_sR, jM.tag_fI, jM.tag_fL, jM.tag_fR, *]; done)) (Or.inl rfl) rfl ?_
  first | refine J.aload_n (pc' := 26) rfl rfl rfl ?_ | refine J.aload_nN (pc' := 26) rfl rfl rfl ?_
  refine J.iload_n (pc' := 27) rfl rfl rfl ?_
  refine J.putI (pc' := 30) rfl fl_X7_25 rfl (Or.inr ⟨rfl, rfl, rfl⟩) (by first | assumption | (simp only [jM.tag_sI, jM.tag_sL, jM.tag_sR, jM.tag_fI, jM.tag_fL, jM.tag_fR]; assumption) | (simp [jM.tag_nw, jM.tag_sI, jM.tag_sL, jM.tag_sR, jM.tag_fI, jM.tag_fL, jM.tag_fR, *]; done)) (Or.inl rfl) rfl ?_
  first | refine J.aload_n (pc' := 31) rfl rfl rfl ?_ | refine J.aload_nN (pc' := 31) rfl rfl rfl ?_
  first | refine J.aload_n (pc' := 32) rfl rfl rfl ?_ | refine J.aload_nN (pc' := 32) rfl rfl rfl ?_
  first | refine J.putR (pc' := 35) rfl fl_X7_28 rfl (Or.inr ⟨rfl, rfl, rfl⟩) (by first | assumption | (simp only [jM.tag_sI, jM.tag_sL, jM.tag_sR, jM.tag_fI, jM.tag_fL, jM.tag_fR]; assumption) | (simp [jM.tag_nw, jM.tag_sI, jM.tag_sL, jM.tag_sR, jM.tag_fI, jM.tag_fL, jM.tag_fR, *]; done)) (Or.inl rfl) rfl ?_ | refine J.putRN (pc' := 35) rfl fl_X7_28 rfl (Or.inr ⟨rfl, rfl, rfl⟩) (by first | assumption | (simp only [jM.tag_sI, jM.tag_sL, jM.tag_sR, jM.tag_fI, jM.tag_fL, jM.tag_fR]; assumption) | (simp [jM.tag_nw, jM.tag_sI, jM.tag_sL, jM.tag_sR, jM.tag_fI, jM.tag_fL, jM.tag_fR, *]; done)) (Or.inl rfl) rfl ?_
  first | refine J.aload_n (pc' := 36) rfl rfl rfl ?_ | refine J.aload_nN (pc' := 36) rfl rfl rfl ?_
  first | refine J.aload_n (pc' := 37) rfl rfl rfl ?_ | refine J.aload_nN (pc' := 37) rfl rfl rfl ?_
  first | refine J.putR (pc' := 40) rfl fl_X7_32 rfl (Or.inr ⟨rfl, rfl, rfl⟩) (by first | assumption | (simp only [jM.tag_sI, jM.tag_sL, jM.tag_sR, jM.tag_fI, jM.tag_fL, jM.tag_fR]; assumption) | (simp [jM.tag_nw, jM.tag_sI, jM.tag_sL, jM.tag_sR, jM.tag_fI, jM.tag_fL, jM.tag_fR, *]; done)) (Or.inl rfl) rfl ?_ | refine J.putRN (pc' := 40) rfl fl_X7_32 rfl (Or.inr ⟨rfl, rfl, rfl⟩) (by first | assumption | (simp only [jM.tag_sI, jM.tag_sL, jM.tag_sR, jM.tag_fI, jM.tag_fL, jM.tag_fR]; assumption) | (simp [jM.tag_nw, jM.tag_sI, jM.tag_sL, jM.tag_sR, jM.tag_fI, jM.tag_fL, jM.tag_fR, *]; done)) (Or.inl rfl) rfl ?_
  first | refine J.aload_n (pc' := 41) rfl rfl rfl ?_ | refine J.aload_nN (pc' := 41) rfl rfl rfl ?_
  refine J.iload (pc' := 43) rfl rfl rfl ?_
  refine J.putI (pc' := 46) rfl fl_X7_36 rfl (Or.inr ⟨rfl, rfl, rfl⟩) (by first | assumption | (simp only [jM.tag_sI, jM.tag_sL, jM.tag_sR, jM.tag_fI, jM.tag_fL, jM.tag_fR]; assumption) | (simp [jM.tag_nw, jM.tag_sI, jM.tag_sL, jM.tag_sR, jM.tag_fI, jM.tag_fL, jM.tag_fR, *]; done)) (Or.inl rfl) rfl ?_
  first | refine J.aload_n (pc' := 47) rfl rfl rfl ?_ | refine J.aload_nN (pc' := 47) rfl rfl rfl ?_
  refine J.iload (pc' := 49) rfl rfl rfl ?_
  refine J.putI (pc' := 52) rfl fl_X7_39 rfl (Or.inr ⟨rfl, rfl, rfl⟩) (by first | assumption | (simp only [jM.tag_sI, jM.tag_sL, jM.tag_sR, jM.tag_fI, jM.tag_fL, jM.tag_fR]; assumption) | (simp [jM.tag_nw, jM.tag_sI, jM.tag_sL, jM.tag_sR, jM.tag_fI, jM.tag_fL, jM.tag_fR, *]; done)) (Or.inl rfl) rfl ?_
  first | refine J.aload_n (pc' := 53) rfl rfl rfl ?_ | refine J.aload_nN (pc' := 53) rfl rfl rfl ?_
  first | refine J.aload (pc' := 55) rfl rfl rfl ?_ | refine J.aloadN (pc' := 55) rfl rfl rfl ?_
  first | refine J.putR (pc' := 58) rfl fl_X7_42 rfl (Or.inr ⟨rfl, rfl, rfl⟩) (by first | assumption | (simp only [jM.tag_sI, jM.tag_sL, jM.tag_sR, jM.tag_fI, jM.tag_fL, jM.tag_fR]; assumption) | (simp [jM.tag_nw, jM.tag_sI, jM.tag_sL, jM.tag_sR, jM.tag_fI, jM.tag_fL, jM.tag_fR, *]; done)) (Or.inl rfl) rfl ?_ | refine J.putRN (pc' := 58) rfl fl_X7_42 rfl (Or.inr ⟨rfl, rfl, rfl⟩) (by first | assumption | (simp only [jM.tag_sI, jM.tag_sL, jM.tag_sR, jM.tag_fI, jM.tag_fL, jM.tag_fR]; assumption) | (simp [jM.tag_nw, jM.tag_sI, jM.tag_sL, jM.tag_sR, jM.tag_fI, jM.tag_fL, jM.tag_fR, *]; done)) (Or.inl rfl) rfl ?_
  refine J.iconst (pc' := 59) rfl rfl ?_
  refine J.istore (pc' := 61) rfl rfl (by decide) ?_
  have F3 : Fr h2 (((((((((h2.sR 11 a 6 (some q)).sI 11 a 7 (-1)).sI 11 a 8 0).sI 11 a 0 n).sR 11 a 1 (some s)).sR 11 a 2 (some k)).sI 11 a 3 t).sI 11 a 4 d).sR 11 a 5 (some c)) (fun b => b = a) := by
    refine Fr.stR (Fr.stI (Fr.stI (Fr.stR (Fr.stR (Fr.stI (Fr.stI (Fr.stI (Fr.stR Fr.rf ?_) ?_) ?_) ?_) ?_) ?_) ?_) ?_) ?_ <;> exact Or.inl rfl
  have L3 : isLd (((((((((h2.sR 11 a 6 (some q)).sI 11 a 7 (-1)).sI 11 a 8 0).sI 11 a 0 n).sR 11 a 1 (some s)).sR 11 a 2 (some k)).sI 11 a 3 t).sI 11 a 4 d).sR 11 a 5 (some c)) a n s k t d c q PP (-1) 0 := by
    refine ⟨ta, ?_, ?_, ?_, ?_, ?_, ?_, ?_, o1.kept1 F3 (by omega), ?_, ?_⟩
    · rw [jM.I_sR, jM.I_sI, if_neg (by omega), jM.I_sI, if_neg (by omega), jM.I_sR, jM.I_sR, jM.I_sI, if_pos ⟨rfl, rfl, rfl⟩]
    · rw [jM.R_sR, if_neg (by omega), jM.R_sI, jM.R_sI, jM.R_sR, if_neg (by omega), jM.R_sR, if_pos ⟨rfl, rfl, rfl⟩]
    · rw [jM.R_sR, if_neg (by omega), jM.R_sI, jM.R_sI, jM.R_sR, if_pos ⟨rfl, rfl, rfl⟩]
    · rw [jM.I_sR, jM.I_sI, if_neg (by omega), jM.I_sI, if_pos ⟨rfl, rfl, rfl⟩]
    · rw [jM.I_sR, jM.I_sI, if_pos ⟨rfl, rfl, rfl⟩]
    · rw [jM.R_sR, if_pos ⟨rfl, rfl, rfl⟩]
    · rw [jM.R_sR, if_neg (by omega), jM.R_sI, jM.R_sI, jM.R_sR, if_neg (by omega), jM.R_sR, if_neg (by omega), jM.R_sI, jM.R_sI, jM.R_sI, jM.R_sR, if_pos ⟨rfl, rfl, rfl⟩]
    · rw [jM.I_sR, jM.I_sI, if_neg (by omega), jM.I_sI, if_neg (by omega), jM.I_sR, jM.I_sR, jM.I_sI, if_neg (by omega), jM.I_sI, if_neg (by omega), jM.I_sI, if_pos ⟨rfl, rfl, rfl⟩]
    · rw [jM.I_sR, jM.I_sI, if_neg (by omega), jM.I_sI, if_neg (by omega), jM.I_sR, jM.I_sR, jM.I_sI, if_neg (by omega), jM.I_sI, if_pos ⟨rfl, rfl, rfl⟩]
  have N3 : Nt h (((((((((h2.sR 11 a 6 (some q)).sI 11 a 7 (-1)).sI 11 a 8 0).sI 11 a 0 n).sR 11 a 1 (some s)).sR 11 a 2 (some k)).sI 11 a 3 t).sI 11 a 4 d).sR 11 a 5 (some c)) [14, 20] := N2.st rfl
  have F4 := F2.trans F3 (W := fun b => b = a) (fun b _ z => z.elim id id)
  have fp3 : h.tag (pa (((((((((h2.sR 11 a 6 (some q)).sI 11 a 7 (-1)).sI 11 a 8 0).sI 11 a 0 n).sR 11 a 1 (some s)).sR 11 a 2 (some k)).sI 11 a 3 t).sI 11 a 4 d).sR 11 a 5 (some c)) q) = 0 := by
    rw [o1.1.paK F3 (fun z => hne z.symm)]
    exact fp
  generalize ((((((((h2.sR 11 a 6 (some q)).sI 11 a 7 (-1)).sI 11 a 8 0).sI 11 a 0 n).sR 11 a 1 (some s)).sR 11 a 2 (some k)).sI 11 a 3 t).sI 11 a 4 d).sR 11 a 5 (some c) = k3 at L3 N3 F4 fp3 ⊢
  refine J.widenQ (fun r h' z => ?_) (fun _ _ z => z) (cx_LoadL (PK := PK) (kn := kn) (O := O) (by omega) (by omega) h1 hO qf 10 0 (by omega) k3 PP L3 (hS.kept F4 (fun z => by have := hS.1; rw [z] at this; omega) (fun z => by have := hS.2.2.2.1; rw [z] at this; omega)) (F4.tag hk (by omega)) (by rw [F4.I hk (by omega) (fun z => by rw [z] at hk; omega)]; exact hkn) (by rw [F4.R hk (by omega) (fun z => by rw [z] at hk; omega)]; exact hks) (hPK.kept1 F4 (by omega)) (fun z => by have := hPK.1.1; rw [z] at this; omega) (fun x hx => by omega) F4 fp3 N3 _ ⟨rfl, rfl, rfl, rfl, trivial⟩)
  obtain ⟨z1, P', z2, z3, z4, z5⟩ := z
  exact ⟨z1, q, P', qf, z2, z3, z4, z5⟩
end LD

