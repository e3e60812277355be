section GV2
variable {γ : jG} {h : jM} {a e b d p : Nat} {xs ys : List Nat} {N C M C2 : Int → Int} {D D2 : Int → Option Nat} {P P2 : Int → Nat → Int}
abbrev gvR (γ : jG) (h : jM) (a e b d : Nat) (xs ys : List Nat) (N : Int → Int) (D : Int → Option Nat) (C : Int → Int) (P : Int → Nat → Int) (M : Int → Int) (D2 : Int → Option Nat) (C2 : Int → Int) (P2 : Int → Nat → Int) (w : Nat) (l : Int) : Option Value → jM → Prop := fun r h' => r = none ∧ gvE γ h h' a e b d xs ys N D C P M D2 C2 P2 w l
theorem cx_gvOut {mc ms c1 c2 : Nat} {k : jM} {i : Int} {Q : Option Value → jM → Prop} (hi : r32 i) (h1 : c1 ≤ mc) (h2 : c2 ≤ ms) (hQ : Q none k) : ∀ lv, hasL lv [(3, .int (jI 0)), (4, .int (jI i))] → J γ mX4_giveTo 7 mc ms c1 c2 k 13 lv [] Q X0 := by
  intro lv hlv
  refine J.lc hlv ?_
  refine J.iload (pc' := 15) rfl rfl rfl ?_
  refine J.if_lt (tgt := 92) (pc' := 18) rfl rfl rfl (by first | omega | (exact R.r _ _) | (simp only [jM.len_sI, jM.len_sL, jM.len_sR, jM.len_fI, jM.len_fL, jM.len_fR]; omega) | (simp [jM.len_nw, jM.len_sI, jM.len_sL, jM.len_sR, jM.len_fI, jM.len_fL, jM.len_fR, *]; omega)) (fun c3 => ?_) (fun c3 => ?_)
  · refine J.vret rfl rfl (by first | omega | (exact R.r _ _) | (simp only [jM.len_sI, jM.len_sL, jM.len_sR, jM.len_fI, jM.len_fL, jM.len_fR]; omega) | (simp [jM.len_nw, jM.len_sI, jM.len_sL, jM.len_sR, jM.len_fI, jM.len_fL, jM.len_fR, *]; omega)) (by first | omega | (exact R.r _ _) | (simp only [jM.len_sI, jM.len_sL, jM.len_sR, jM.len_fI, jM.len_fL, jM.len_fR]; omega) | (simp [jM.len_nw, jM.len_sI, jM.len_sL, jM.len_sR, jM.len_fI, jM.len_fL, jM.len_fR, *]; omega)) ?_
    exact hQ
  · refine J.iload_n (pc' := 19) rfl rfl rfl ?_
    refine J.if_le (tgt := 92) (pc' := 22) rfl rfl rfl (by first | omega | (exact R.r _ _) | (simp only [jM.len_sI, jM.len_sL, jM.len_sR, jM.len_fI, jM.len_fL, jM.len_fR]; omega) | (simp [jM.len_nw, jM.len_sI, jM.len_sL, jM.len_sR, jM.len_fI, jM.len_fL, jM.len_fR, *]; omega)) (fun c4 => ?_) (fun c4 => ?_)
    · refine J.vret rfl rfl (by first | omega | (exact R.r _ _) | (simp only [jM.len_sI, jM.len_sL, jM.len_sR, jM.len_fI, jM.len_fL, jM.len_fR]; omega) | (simp [jM.len_nw, jM.len_sI, jM.len_sL, jM.len_sR, jM.len_fI, jM.len_fL, jM.len_fR, *]; omega)) (by first | omega | (exact R.r _ _) | (simp only [jM.len_sI, jM.len_sL, jM.len_sR, jM.len_fI, jM.len_fL, jM.len_fR]; omega) | (simp [jM.len_nw, jM.len_sI, jM.len_sL, jM.len_sR, jM.len_fI, jM.len_fL, jM.len_fR, *]; omega)) ?_
      exact hQ
    · omega
theorem take_ho {k : jM} {m y : Nat} (hA : isLs γ k a e (xs.take (m + 1))) (hy : xs[m]? = some y) : isL γ k a e (xs.take m ++ [y]) ∧ (xs.take m).Nodup ∧ y ∉ xs.take m ∧ (∀ z ∈ xs.take m, ho k z = some a) ∧ ho k y = some a := by
  have e1 : xs.take (m + 1) = xs.take m ++ [y] := by rw [List.take_succ, hy]; rfl
  rw [e1] at hA
  obtain ⟨a1, a2, a3⟩ := hA
  rw [List.nodup_append] at a2
  refine ⟨a1, a2.1, fun hz => a2.2.2 y hz y (by simp) rfl, fun z hz => a3 z (by simp [hz]), a3 y (by simp)⟩
theorem cx_gvStep {mc ms c1 c2 : Nat} {m w : Nat} {l : Int} {k : jM} {d' y : Nat} {zs : List Nat} {Q : Option Value → jM → Prop}
    (hK : γ.K 0 < γ.base) (hc1 : c1 + 1 ≤ mc) (hc2 : c2 + 150 ≤ ms) (hmw : m + 1 + w = xs.length) (hlen : xs.length + ys.length < 100) (hN : 1 ≤ N m ∧ N m ≤ 5000) (hl : 0 < l ∧ l ≤ 1000000) (hle : N m ≤ l) (hy : xs[m]? = some y)
    (hA : isLs γ k a e (xs.take (m + 1))) (hX : lays k (xs.take (m + 1)) N D C P) (hB : isLs γ k b d' zs) (hzl : zs.length = ys.length + w) (hZ : lays k zs (glD ys.length xs.length M N) (glD ys.length xs.length D2 D) (glD ys.length xs.length C2 C) (glD ys.length xs.length P2 P)) (hab : a ≠ b)
    (F : Fr h k (gvS h a e b d xs)) (Nn : Nt h k [10, 14, 20, 34]) (hd : d' = d ∨ h.tag d' = 0) (hae : h.tag e = 34) (hdd : h.tag d = 34) (tp : k.tag p = 8) (rp : k.R 8 p 0 = some a)
    (kk : ∀ (k' : jM) (d'' : Nat) (zs' : List Nat), isLs γ k' a e (xs.take m) → lays k' (xs.take m) N D C P → isLs γ k' b d'' zs' → zs'.length = ys.length + (w + 1) → lays k' zs' (glD ys.length xs.length M N) (glD ys.length xs.length D2 D) (glD ys.length xs.length C2 C) (glD ys.length xs.length P2 P) → Fr h k' (gvS h a e b d xs) → Nt h k' [10, 14, 20, 34] → (d'' = d ∨ h.tag d'' = 0) → k'.tag p = 8 → k'.R 8 p 0 = some a → ∀ lv, hasL lv [(0, .ref p), (1, .ref b), (3, .int (jI (l - N m))), (4, .int (jI ((m : Int) - 1)))] → J γ mX4_giveTo 7 mc ms (c1 + 1) (c2 + 150) k' 13 lv [] Q X0) :
    ∀ lv, hasL lv [(0, .ref p), (1, .ref b), (3, .int (jI l)), (4, .int (jI (m : Int))), (5, .ref y)] → J γ mX4_giveTo 7 mc ms c1 c2 k 61 lv [] Q X0 := by
  intro lv hlv
  have hX0 : lays k (xs.take m) N D C P := fun i z hz => hX i z (by
    rw [List.getElem?_take] at hz ⊢
    split at hz
    · rw [if_pos (by omega)]; exact hz
    · cases hz)
  have hyY : isY k y (N m) (D m) (C m) (P m) := hX m y (by rw [List.getElem?_take, if_pos (by omega)]; exact hy)
  have hymem : y ∈ xs := List.mem_of_getElem? hy
  obtain ⟨g1, g2, g3, g4, g5⟩ := take_ho hA hy
  have elen : (xs.take m).length = m := by rw [List.length_take]; omega
  have ta := hA.1.1
  have te := hA.1.2.2.1
  have tb := hB.1.1
  have td := hB.1.2.2.1
  have ty := hyY.1
  refine J.lc hlv ?_
  first | refine J.aload_n (pc' := 62) rfl rfl rfl ?_ | refine J.aload_nN (pc' := 62) rfl rfl rfl ?_
  first | refine J.getR (pc' := 65) rfl fl_X4_12 rfl (by first | assumption | (simp only [jM.tag_sI, jM.tag_sL, jM.tag_sR, jM.tag_fI, jM.tag_fL, jM.tag_fR]; assumption) | (simp [jM.tag_nw, jM.tag_sI, jM.tag_sL, jM.tag_sR, jM.tag_fI, jM.tag_fL, jM.tag_fR, *]; done)) (by first | assumption | (simp only [jM.R_sI, jM.R_sL, jM.R_fI, jM.R_fL]; assumption) | (simp [jM.R_nw, jM.R_sR, jM.R_fR, jM.R_sI, jM.R_sL, jM.R_fI, jM.R_fL, *]; done)) rfl ?_ | refine J.getRN (pc' := 65) rfl fl_X4_12 rfl (by first | assumption | (simp only [jM.tag_sI, jM.tag_sL, jM.tag_sR, jM.tag_fI, jM.tag_fL, jM.tag_fR]; assumption) | (simp [jM.tag_nw, jM.tag_sI, jM.tag_sL, jM.tag_sR, jM.tag_fI, jM.tag_fL, jM.tag_fR, *]; done)) (by first | assumption | (simp only [jM.R_sI, jM.R_sL, jM.R_fI, jM.R_fL]; assumption) | (simp [jM.R_nw, jM.R_sR, jM.R_fR, jM.R_sI, jM.R_sL, jM.R_fI, jM.R_fL, *]; done)) rfl ?_
  refine J.iload (pc' := 67) rfl rfl rfl ?_
  have hrem := cl_remove g1
  rw [elen] at hrem
  refine J.callV (pc' := 70) (t := 3) rfl MJx4a65c_remove_915e3 ml_X4_43 iv_Jx4a65c_remove_915e3 (by decide) ⟨_, rfl, rfl⟩ (by first | assumption | (simp only [jM.tag_sI, jM.tag_sL, jM.tag_sR, jM.tag_fI, jM.tag_fL, jM.tag_fR]; assumption) | (simp [jM.tag_nw, jM.tag_sI, jM.tag_sL, jM.tag_sR, jM.tag_fI, jM.tag_fL, jM.tag_fR, *]; done)) hrem rfl rfl (Nat.le_of_ble_eq_true rfl) (by first | omega | (exact R.r _ _) | (simp only [jM.len_sI, jM.len_sL, jM.len_sR, jM.len_fI, jM.len_fL, jM.len_fR]; omega) | (simp [jM.len_nw, jM.len_sI, jM.len_sL, jM.len_sR, jM.len_fI, jM.len_fL, jM.len_fR, *]; omega)) (by first | omega | (exact R.r _ _) | (simp only [jM.len_sI, jM.len_sL, jM.len_sR, jM.len_fI, jM.len_fL, jM.len_fR]; omega) | (simp [jM.len_nw, jM.len_sI, jM.len_sL, jM.len_sR, jM.len_fI, jM.len_fL, jM.len_fR, *]; omega)) (by first | omega | (exact R.r _ _) | (simp only [jM.len_sI, jM.len_sL, jM.len_sR, jM.len_fI, jM.len_fL, jM.len_fR]; omega) | (simp [jM.len_nw, jM.len_sI, jM.len_sL, jM.len_sR, jM.len_fI, jM.len_fL, jM.len_fR, *]; omega)) rfl rfl ?_ ?_
  · exact fun _ _ h => h
  rintro _ k1 ⟨rfl, q1, q2, q3⟩
  have nwA : ∀ z, (k.tag z = 8 ∨ k.tag z = 10 ∨ k.tag z = 14 ∨ k.tag z = 20) → ¬ lW k a e z := fun z hz q => by
    rcases q with q | q
    · rw [q] at hz; omega
    · rw [q.1] at hz; omega
  have Y1 : isY k1 y (N m) (D m) (C m) (P m) := hyY.keptT q2 (fun c hc _ => nwA c (Or.inr hc))
  have ne := hA.1.ne hB.1 (fun z => hab z.symm)
  have B1 : isLs γ k1 b d' zs := hB.kept q2 (fun q => by
    rcases q with q | q
    · exact hab q.symm
    · rw [q.1] at tb; omega) (by
    rcases ne with q | q
    · refine Or.inl (fun z => ?_)
      rcases z with z | z
      · rw [z] at td; omega
      · exact q z.1
    · exact Or.inr q) (fun z hz => ⟨by have := hZ.tag hz; omega, nwA z (Or.inr (Or.inl (hZ.tag hz)))⟩)
  have Z1 := hZ.kept q2 (fun z _ c hc _ => nwA c (Or.inr hc))
  have A1 : isLs γ k1 a e (xs.take m) := ⟨q1, g2, fun z hz => by rw [q2.ho (by have := hX0.tag hz; omega) (nwA z (Or.inr (Or.inl (hX0.tag hz))))]; exact g4 z hz⟩
  have X1 := hX0.kept q2 (fun z _ c hc _ => nwA c (Or.inr hc))
  have ho1 : ho k1 y = some a := by rw [q2.ho (by omega) (nwA y (Or.inr (Or.inl ty)))]; exact g5
  have tp1 : k1.tag p = 8 := q2.tag tp (by omega)
  have rp1 : k1.R 8 p 0 = some a := by rw [q2.R tp (by omega) (nwA p (Or.inl tp))]; exact rp
  have F1 : Fr h k1 (gvS h a e b d xs) := F.trans q2 (fun z hz q => by
    rcases q with q | q
    · exact q
    · refine Or.inl ?_
      rcases q with q | q
      · exact Or.inl q
      · exact Or.inr ⟨q.1, by rw [← F.len (by omega)]; exact q.2⟩)
  have N1 : Nt h k1 [10, 14, 20, 34] := Nn.trans q3 q2 (by simp)
  refine J.own y 1 (some b) ?_
  have G : Fr k1 (k1.sR 0 y 1 (some b)) (fun z => z = y) := Fr.stH Fr.rf (Or.inl rfl)
  have ty1 := Y1.1
  have nwY : ∀ z, z ≠ y → ¬ (fun z => z = y) z := fun z hz q => hz q
  have Y2 : isY (k1.sR 0 y 1 (some b)) y (N m) (D m) (C m) (P m) := by
    obtain ⟨b1, b0, b2, b3, b4, s, b5, b6⟩ := Y1
    refine ⟨b1, ?_, b2, b3, b4, s, ?_, b6.kept1 G (by omega)⟩
    · show (k1.sR 0 y 1 (some b)).R 0 y 0 = _
      rw [jM.R_sR, if_neg (by omega)]; exact b0
    · rw [jM.R_sR, if_neg (by omega)]; exact b5
  have ho2 : ho (k1.sR 0 y 1 (some b)) y = some b := by show (k1.sR 0 y 1 (some b)).R 0 y 1 = _; rw [jM.R_sR, if_pos ⟨rfl, rfl, rfl⟩]
  have hyz : y ∉ zs := fun hz => by
    have := B1.2.2 y hz
    rw [ho1] at this
    exact hab (Option.some.inj this)
  have keepY : ∀ (us : List Nat) (N' C' : Int → Int) (D' : Int → Option Nat) (P' : Int → Nat → Int), y ∉ us → lays k1 us N' D' C' P' → lays (k1.sR 0 y 1 (some b)) us N' D' C' P' := fun us N' C' D' P' hu hl => hl.kept G (fun z hz c hc ho q => by
    rw [q, Y1.2.1] at ho
    exact hu (by rw [Option.some.inj ho]; exact hz))
  have B2 : isLs γ (k1.sR 0 y 1 (some b)) b d' zs := B1.kept G (fun q => by have := B1.1.1; rw [q] at this; omega) (Or.inl (fun q => by have := B1.1.2.2.1; rw [q] at this; omega)) (fun z hz => ⟨by have := Z1.tag hz; omega, fun q => hyz (by rw [← q]; exact hz)⟩)
  have A2 : isLs γ (k1.sR 0 y 1 (some b)) a e (xs.take m) := A1.kept G (fun q => by have := A1.1.1; rw [q] at this; omega) (Or.inl (fun q => by have := A1.1.2.2.1; rw [q] at this; omega)) (fun z hz => ⟨by have := X1.tag hz; omega, fun q => g3 (by rw [← q]; exact hz)⟩)
  have X2 := keepY _ _ _ _ _ g3 X1
  have Z2 := keepY _ _ _ _ _ hyz Z1
  have F2 : Fr h (k1.sR 0 y 1 (some b)) (gvS h a e b d xs) := F1.trans G (fun z hz q => by
    rcases q with q | q
    · exact q
    · exact Or.inr (Or.inr (by rw [q]; exact hymem)))
  have N2 : Nt h (k1.sR 0 y 1 (some b)) [10, 14, 20, 34] := N1.st rfl
  have tp2 : (k1.sR 0 y 1 (some b)).tag p = 8 := tp1
  have rp2 : (k1.sR 0 y 1 (some b)).R 8 p 0 = some a := by rw [jM.R_sR, if_neg (by omega)]; exact rp1
  generalize k1.sR 0 y 1 (some b) = k2 at Y2 ho2 B2 A2 X2 Z2 F2 N2 tp2 rp2 ⊢
  have tb2 := B2.1.1
  have td2 := B2.1.2.2.1
  have ty2 := Y2.1
  refine J.pop (pc' := 71) rfl rfl rfl ?_
  first | refine J.aload_n (pc' := 72) rfl rfl rfl ?_ | refine J.aload_nN (pc' := 72) rfl rfl rfl ?_
  first | refine J.aload (pc' := 74) rfl rfl rfl ?_ | refine J.aloadN (pc' := 74) rfl rfl rfl ?_
  refine J.callV (pc' := 77) (t := 3) rfl MJx4a65c_add_9ea2d ml_X4_39 iv_Jx4a65c_add_9ea2d (by decide) ⟨_, rfl, rfl⟩ (by first | assumption | (simp only [jM.tag_sI, jM.tag_sL, jM.tag_sR, jM.tag_fI, jM.tag_fL, jM.tag_fR]; assumption) | (simp [jM.tag_nw, jM.tag_sI, jM.tag_sL, jM.tag_sR, jM.tag_fI, jM.tag_fL, jM.tag_fR, *]; done)) (cl_add (x := y) B2.1 (fun z hz => by rw [Z2.tag hz]; rfl) (by omega) (by rw [ty2]; rfl) hK) rfl rfl (Nat.le_of_ble_eq_true rfl) (by first | omega | (exact R.r _ _) | (simp only [jM.len_sI, jM.len_sL, jM.len_sR, jM.len_fI, jM.len_fL, jM.len_fR]; omega) | (simp [jM.len_nw, jM.len_sI, jM.len_sL, jM.len_sR, jM.len_fI, jM.len_fL, jM.len_fR, *]; omega)) (by first | omega | (exact R.r _ _) | (simp only [jM.len_sI, jM.len_sL, jM.len_sR, jM.len_fI, jM.len_fL, jM.len_fR]; omega) | (simp [jM.len_nw, jM.len_sI, jM.len_sL, jM.len_sR, jM.len_fI, jM.len_fL, jM.len_fR, *]; omega)) (by first | omega | (exact R.r _ _) | (simp only [jM.len_sI, jM.len_sL, jM.len_sR, jM.len_fI, jM.len_fL, jM.len_fR]; omega) | (simp [jM.len_nw, jM.len_sI, jM.len_sL, jM.len_sR, jM.len_fI, jM.len_fL, jM.len_fR, *]; omega)) rfl rfl ?_ ?_
  · exact fun _ _ h => h
  rintro _ k3 ⟨rfl, d'', r1, r2, r3, r4⟩
  have ej : (xs.length : Int) - 1 - ((zs.length : Int) - (ys.length : Int)) = (m : Int) := by omega
  have Y2' : isY k2 y (glD ys.length xs.length M N zs.length) (glD ys.length xs.length D2 D zs.length) (glD ys.length xs.length C2 C zs.length) (glD ys.length xs.length P2 P zs.length) := by
    unfold glD
    rw [if_neg (by omega), if_neg (by omega), if_neg (by omega), if_neg (by omega), ej]
    exact Y2
  obtain ⟨s1, s2, s3, s4⟩ := gv_add A2 X2 B2 Z2 hab Y2' hyz ho2 r3 r1
  have nwB : ∀ z, (k2.tag z = 8 ∨ k2.tag z = 10) → ¬ lW k2 b d' z := fun z hz q => by
    rcases q with q | q
    · rw [q] at hz; omega
    · rw [q.1] at hz; omega
  have i3 : k3.I 10 y 0 = N m := by rw [r3.I ty2 (by omega) (nwB y (Or.inr ty2))]; exact Y2.2.2.1
  have ty3 : k3.tag y = 10 := r3.tag ty2 (by omega)
  refine J.pop (pc' := 78) rfl rfl rfl ?_
  refine J.iload_n (pc' := 79) rfl rfl rfl ?_
  first | refine J.aload (pc' := 81) rfl rfl rfl ?_ | refine J.aloadN (pc' := 81) rfl rfl rfl ?_
  refine J.getI (pc' := 84) rfl fl_X4_32 rfl (by first | assumption | (simp only [jM.tag_sI, jM.tag_sL, jM.tag_sR, jM.tag_fI, jM.tag_fL, jM.tag_fR]; assumption) | (simp [jM.tag_nw, jM.tag_sI, jM.tag_sL, jM.tag_sR, jM.tag_fI, jM.tag_fL, jM.tag_fR, *]; done)) rfl ?_
  rw [i3]
  refine J.isub (pc' := 85) rfl rfl ?_
  refine J.istore_n (pc' := 86) rfl rfl (by decide) ?_
  refine J.iinc (pc' := 89) rfl rfl rfl (by decide) ?_
  refine J.goto (tgt := 13) rfl rfl ?_
  refine kk k3 d'' (zs ++ [y]) s1 s2 s3 (by rw [List.length_append, hzl]; simp; omega) s4 (F2.trans r3 (fun z hz q => ?_)) (N2.trans r4 r3 (by simp)) ?_ (r3.tag tp2 (by omega)) (by rw [r3.R tp2 (by omega) (nwB p (Or.inl tp2))]; exact rp2) _ ⟨rfl, rfl, rfl, rfl, trivial⟩
  · rcases q with q | q
    · exact q
    · refine Or.inr (Or.inl ?_)
      rcases q with q | q
      · exact Or.inl q
      · rcases hd with hd | hd
        · exact Or.inr ⟨by rw [q.1]; exact hd, by rw [← F2.len (by omega), ← hd]; exact q.2⟩
        · rw [q.1] at hz; exact absurd hd hz
  · rcases r2 with r2 | r2
    · rw [r2]; exact hd
    · exact Or.inr (F2.free r2.1)
end GV2

