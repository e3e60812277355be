section GV3
variable {γ : jG} {h : jM} {a e b d p : Nat} {xs ys : List Nat} {N C M C2 : Int → Int} {D D2 : Int → Option Nat} {P P2 : Int → Nat → Int}
theorem cx_gvSplit {mc ms c1 c2 : Nat} {m w : Nat} {l : Int} {k : jM} {d' y : Nat} {zs : List Nat}
    (hK : γ.K 0 < γ.base) (hc1 : c1 + 4 ≤ mc) (hc2 : c2 + 165 ≤ ms) (hmw : m + 1 + w = xs.length) (hlen : xs.length + ys.length < 100) (hN : 1 ≤ N m ∧ N m ≤ 5000) (hl : 0 < l ∧ l ≤ 1000000) (hle : l < N m) (hy : xs[m]? = some y)
    (hA : isLs γ k a e (xs.take (m + 1))) (hX : lays k (xs.take (m + 1)) N D C P) (hB : isLs γ k b d' zs) (hzl : zs.length = ys.length + w) (hZ : lays k zs (glD ys.length xs.length M N) (glD ys.length xs.length D2 D) (glD ys.length xs.length C2 C) (glD ys.length xs.length P2 P)) (hab : a ≠ b)
    (F : Fr h k (gvS h a e b d xs)) (Nn : Nt h k [10, 14, 20, 34]) (hd : d' = d ∨ h.tag d' = 0) (hdd : h.tag d = 34) (tp : k.tag p = 8) (rp : k.R 8 p 0 = some a) :
    ∀ lv, hasL lv [(0, .ref p), (1, .ref b), (3, .int (jI l)), (4, .int (jI (m : Int))), (5, .ref y)] → J γ mX4_giveTo 7 mc ms c1 c2 k 45 lv [] (gvR γ h a e b d xs ys N D C P M D2 C2 P2 w l) X0 := by
  intro lv hlv
  have hyY : isY k y (N m) (D m) (C m) (P m) := hX m y (by rw [List.getElem?_take, if_pos (by omega)]; exact hy)
  have hymem : y ∈ xs := List.mem_of_getElem? hy
  have hylast : (xs.take (m + 1))[m]? = some y := by rw [List.getElem?_take, if_pos (by omega)]; exact hy
  obtain ⟨g1, g2, g3, g4, g5⟩ := take_ho hA hy
  have ta := hA.1.1
  have te := hA.1.2.2.1
  have tb := hB.1.1
  have td := hB.1.2.2.1
  have ty := hyY.1
  have hyz : y ∉ zs := fun hz => by
    have := hB.2.2 y hz
    rw [g5] at this
    exact hab (Option.some.inj this)
  refine J.lc hlv ?_
  first | refine J.aload_n (pc' := 46) rfl rfl rfl ?_ | refine J.aload_nN (pc' := 46) rfl rfl rfl ?_
  first | refine J.aload (pc' := 48) rfl rfl rfl ?_ | refine J.aloadN (pc' := 48) rfl rfl rfl ?_
  refine J.iload_n (pc' := 49) rfl rfl rfl ?_
  refine J.callV (pc' := 52) (t := 10) rfl MX6_splitOff ml_X4_36 iv_X6_splitOff (by decide) ⟨_, rfl, rfl⟩ (by first | assumption | (simp only [jM.tag_sI, jM.tag_sL, jM.tag_sR, jM.tag_fI, jM.tag_fL, jM.tag_fR]; assumption) | (simp [jM.tag_nw, jM.tag_sI, jM.tag_sL, jM.tag_sR, jM.tag_fI, jM.tag_fL, jM.tag_fR, *]; done)) (cy_split (g := l) hyY) rfl rfl (Nat.le_of_ble_eq_true rfl) (by first | omega | (exact R.r _ _) | (simp only [jM.len_sI, jM.len_sL, jM.len_sR, jM.len_fI, jM.len_fL, jM.len_fR]; omega) | (simp [jM.len_nw, jM.len_sI, jM.len_sL, jM.len_sR, jM.len_fI, jM.len_fL, jM.len_fR, *]; omega)) (by first | omega | (exact R.r _ _) | (simp only [jM.len_sI, jM.len_sL, jM.len_sR, jM.len_fI, jM.len_fL, jM.len_fR]; omega) | (simp [jM.len_nw, jM.len_sI, jM.len_sL, jM.len_sR, jM.len_fI, jM.len_fL, jM.len_fR, *]; omega)) (by first | omega | (exact R.r _ _) | (simp only [jM.len_sI, jM.len_sL, jM.len_sR, jM.len_fI, jM.len_fL, jM.len_fR]; omega) | (simp [jM.len_nw, jM.len_sI, jM.len_sL, jM.len_sR, jM.len_fI, jM.len_fL, jM.len_fR, *]; omega)) rfl rfl ?_ ?_
  · exact fun _ _ h => h
  rintro _ k1 ⟨z, rfl, zf, Y1z, Y1, q2, q3⟩
  have hzy : ¬ z = y := fun e1 => by rw [e1] at zf; omega
  have B1 : isLs γ k1 b d' zs := hB.kept q2 (fun q => by rw [q] at tb; omega) (Or.inl (fun q => by rw [q] at td; omega)) (fun u hu => ⟨by have := hZ.tag hu; omega, fun q => hyz (by rw [← q]; exact hu)⟩)
  have Z1 := hZ.kept q2 (fun u hu c hc ho q => by
    rw [q, hyY.2.1] at ho
    exact hyz (by rw [Option.some.inj ho]; exact hu))
  have hoy : ho k1 y = some a ∨ True := Or.inr trivial
  have X1 : lays k1 (xs.take (m + 1)) (glX xs.length w l N) D C P := fun i u hu => by
    unfold glX
    by_cases c : i = m
    · subst c
      rw [hylast] at hu
      cases hu
      rw [if_pos ⟨hl.1, by omega⟩]
      exact Y1
    · rw [if_neg (by omega)]
      refine (hX i u hu).keptT q2 (fun c2 hc2 ho q => ?_)
      rw [q, hyY.2.1] at ho
      have hyu := Option.some.inj ho
      subst hyu
      have hi := (List.getElem?_eq_some_iff.mp hu).1
      rw [List.length_take] at hi
      refine g3 (List.mem_of_getElem? (i := i) ?_)
      rw [List.getElem?_take] at hu ⊢
      rw [if_pos (by omega)] at hu ⊢
      exact hu
  have F1 : Fr h k1 (gvS h a e b d xs) := F.trans q2 (fun u hu q => by
    rcases q with q | q
    · exact q
    · exact Or.inr (Or.inr (by rw [q]; exact hymem)))
  have N1 : Nt h k1 [10, 14, 20, 34] := Nn.trans q3 q2 (by simp)
  have zf0 : h.tag z = 0 := F.free zf
  -- the list a: its own cells are kept, and who holds its layers
  have A1L : isL γ k1 a e (xs.take (m + 1)) := hA.1.keptW q2 (fun q => by rw [q] at ta; omega) (Or.inl (fun q => by rw [q] at te; omega))
  refine J.own y 1 (some a) (J.own z 1 (some b) ?_)
  have ty1 := Y1.1
  have tz1 := Y1z.1
  have G : Fr k1 ((k1.sR 0 y 1 (some a)).sR 0 z 1 (some b)) (fun u => u = y ∨ u = z) := Fr.stH (Fr.stH Fr.rf (Or.inl (Or.inl rfl))) (Or.inl (Or.inr rfl))
  have hoz : ho ((k1.sR 0 y 1 (some a)).sR 0 z 1 (some b)) z = some b := by show ((k1.sR 0 y 1 (some a)).sR 0 z 1 (some b)).R 0 z 1 = _; rw [jM.R_sR, if_pos ⟨rfl, rfl, rfl⟩]
  have hoy2 : ho ((k1.sR 0 y 1 (some a)).sR 0 z 1 (some b)) y = some a := by show ((k1.sR 0 y 1 (some a)).sR 0 z 1 (some b)).R 0 y 1 = _; rw [jM.R_sR, if_neg (fun q => hzy q.2.1.symm), jM.R_sR, if_pos ⟨rfl, rfl, rfl⟩]
  have eR : ∀ t u j, t ≠ 0 → ((k1.sR 0 y 1 (some a)).sR 0 z 1 (some b)).R t u j = k1.R t u j := fun t u j ht => by rw [jM.R_sR, if_neg (fun q => ht q.1), jM.R_sR, if_neg (fun q => ht q.1)]
  have eo : ∀ u, ow ((k1.sR 0 y 1 (some a)).sR 0 z 1 (some b)) u = ow k1 u := fun u => by show ((k1.sR 0 y 1 (some a)).sR 0 z 1 (some b)).R 0 u 0 = _; rw [jM.R_sR, if_neg (by omega), jM.R_sR, if_neg (by omega)]
  have yy : ∀ (u : Nat) (n c : Int) (ld : Option Nat) (PP : Nat → Int), isY k1 u n ld c PP → isY ((k1.sR 0 y 1 (some a)).sR 0 z 1 (some b)) u n ld c PP := fun u n c ld PP hu => by
    obtain ⟨b1, b0, b2, b3, b4, s, b5, b6⟩ := hu
    refine ⟨b1, by rw [eo]; exact b0, b2, by rw [eR _ _ _ (by omega)]; exact b3, b4, s, by rw [eR _ _ _ (by omega)]; exact b5, b6.kept2 G (fun q => ?_) (fun q => ?_)⟩
    · have := b6.1.1
      rcases q with q | q <;> rw [q] at this <;> omega
    · have := b6.1.2.2.1
      rcases q with q | q <;> rw [q] at this <;> omega
  have B2 : isLs γ ((k1.sR 0 y 1 (some a)).sR 0 z 1 (some b)) b d' zs := B1.kept G (fun q => by have := B1.1.1; rcases q with q | q <;> rw [q] at this <;> omega) (Or.inl (fun q => by have := B1.1.2.2.1; rcases q with q | q <;> rw [q] at this <;> omega)) (fun u hu => ⟨by have := Z1.tag hu; omega, fun q => by
    rcases q with q | q
    · exact hyz (by rw [← q]; exact hu)
    · have := hZ.tag hu; rw [q] at this; omega⟩)
  have A2 : isLs γ ((k1.sR 0 y 1 (some a)).sR 0 z 1 (some b)) a e (xs.take (m + 1)) := ⟨A1L.keptW G (fun q => by have := A1L.1; rcases q with q | q <;> rw [q] at this <;> omega) (Or.inl (fun q => by have := A1L.2.2.1; rcases q with q | q <;> rw [q] at this <;> omega)), hA.2.1, fun u hu => by
    by_cases c : u = y
    · rw [c]; exact hoy2
    · have tu := hX.tag hu
      rw [G.ho (by rw [q2.tag tu (by omega)]; omega) (fun q => by
        rcases q with q | q
        · exact c q
        · rw [q] at tu; omega), q2.ho (by omega) c]
      exact hA.2.2 u hu⟩
  have X2 : lays ((k1.sR 0 y 1 (some a)).sR 0 z 1 (some b)) (xs.take (m + 1)) (glX xs.length w l N) D C P := fun i u hu => yy _ _ _ _ _ (X1 i u hu)
  have Z2 : lays ((k1.sR 0 y 1 (some a)).sR 0 z 1 (some b)) zs (glN ys.length xs.length w l M N) (glD ys.length xs.length D2 D) (glD ys.length xs.length C2 C) (glD ys.length xs.length P2 P) := by
    have Z1' : lays ((k1.sR 0 y 1 (some a)).sR 0 z 1 (some b)) zs (glD ys.length xs.length M N) (glD ys.length xs.length D2 D) (glD ys.length xs.length C2 C) (glD ys.length xs.length P2 P) := fun i u hu => yy _ _ _ _ _ (Z1 i u hu)
    refine Z1'.cg (fun i hi => ⟨?_, rfl, rfl, rfl⟩)
    unfold glD glN
    by_cases c : (i : Int) < (ys.length : Int)
    · rw [if_pos c, if_pos c]
    · rw [if_neg c, if_neg c, if_pos (by omega)]
  have Yz2 := yy _ _ _ _ _ Y1z
  have F2 : Fr h ((k1.sR 0 y 1 (some a)).sR 0 z 1 (some b)) (gvS h a e b d xs) := F1.trans G (fun u hu q => by
    rcases q with q | q | q
    · exact q
    · exact Or.inr (Or.inr (by rw [q]; exact hymem))
    · rw [q] at hu; exact absurd zf0 hu)
  have N2 : Nt h ((k1.sR 0 y 1 (some a)).sR 0 z 1 (some b)) [10, 14, 20, 34] := N1.st rfl
  generalize (k1.sR 0 y 1 (some a)).sR 0 z 1 (some b) = k2 at hoz B2 A2 X2 Z2 Yz2 F2 N2 ⊢
  clear yy eo eR hoy2 G
  have tb2 := B2.1.1
  have td2 := B2.1.2.2.1
  have tz2 := Yz2.1
  have hzz : z ∉ zs := fun hz => by have := hZ.tag hz; omega
  refine J.callV (pc' := 55) (t := 3) rfl MJx4a65c_add_9ea2d ml_X4_39 iv_Jx4a65c_add_9ea2d (by decide) ⟨_, rfl, rfl⟩ (by first | assumption | (simp only [jM.tag_sI, jM.tag_sL, jM.tag_sR, jM.tag_fI, jM.tag_fL, jM.tag_fR]; assumption) | (simp [jM.tag_nw, jM.tag_sI, jM.tag_sL, jM.tag_sR, jM.tag_fI, jM.tag_fL, jM.tag_fR, *]; done)) (cl_add (x := z) B2.1 (fun u hu => by rw [Z2.tag hu]; rfl) (by omega) (by rw [tz2]; rfl) hK) rfl rfl (Nat.le_of_ble_eq_true rfl) (by first | omega | (exact R.r _ _) | (simp only [jM.len_sI, jM.len_sL, jM.len_sR, jM.len_fI, jM.len_fL, jM.len_fR]; omega) | (simp [jM.len_nw, jM.len_sI, jM.len_sL, jM.len_sR, jM.len_fI, jM.len_fL, jM.len_fR, *]; omega)) (by first | omega | (exact R.r _ _) | (simp only [jM.len_sI, jM.len_sL, jM.len_sR, jM.len_fI, jM.len_fL, jM.len_fR]; omega) | (simp [jM.len_nw, jM.len_sI, jM.len_sL, jM.len_sR, jM.len_fI, jM.len_fL, jM.len_fR, *]; omega)) (by first | omega | (exact R.r _ _) | (simp only [jM.len_sI, jM.len_sL, jM.len_sR, jM.len_fI, jM.len_fL, jM.len_fR]; omega) | (simp [jM.len_nw, jM.len_sI, jM.len_sL, jM.len_sR, jM.len_fI, jM.len_fL, jM.len_fR, *]; omega)) rfl rfl ?_ ?_
  · exact fun _ _ h => h
  rintro _ k3 ⟨rfl, d'', r1, r2, r3, r4⟩
  have ej : (xs.length : Int) - 1 - ((zs.length : Int) - (ys.length : Int)) = (m : Int) := by omega
  have Y2' : isY k2 z (glN ys.length xs.length w l M N zs.length) (glD ys.length xs.length D2 D zs.length) (glD ys.length xs.length C2 C zs.length) (glD ys.length xs.length P2 P zs.length) := by
    unfold glD glN
    rw [if_neg (by omega), if_neg (by omega), if_neg (by omega), if_neg (by omega), if_neg (by omega), ej]
    exact Yz2
  obtain ⟨s1, s2, s3, s4⟩ := gv_add A2 X2 B2 Z2 hab Y2' hzz hoz r3 r1
  refine J.pop (pc' := 56) rfl rfl rfl ?_
  refine J.iconst (pc' := 57) rfl rfl ?_
  refine J.istore_n (pc' := 58) rfl rfl (by decide) ?_
  refine J.goto (tgt := 86) rfl rfl ?_
  refine J.iinc (pc' := 89) rfl rfl rfl (by decide) ?_
  refine J.goto (tgt := 13) rfl rfl ?_
  refine cx_gvOut (i := (m : Int) - 1) (by constructor <;> omega) (by omega) (by omega) ⟨rfl, d'', zs ++ [z], ?_, ?_, s3, by rw [List.length_append, hzl, if_pos hl.1]; rfl, s4, F2.trans r3 (fun u hu q => ?_), N2.trans r4 r3 (by simp), ?_⟩ _ ⟨rfl, rfl, trivial⟩
  · rw [show xs.length - w = m + 1 by omega]; exact s1
  · rw [show xs.length - w = m + 1 by omega]; exact s2
  · rcases q with q | q
    · exact q
    · refine Or.inr (Or.inl ?_)
      rcases q with q | q
      · exact Or.inl q
      · rcases hd with hd | hd
        · exact Or.inr ⟨by rw [q.1]; exact hd, by rw [← F2.len (by omega), ← hd]; exact q.2⟩
        · rw [q.1] at hu; exact absurd hd hu
  · rcases r2 with r2 | r2
    · rw [r2]; exact hd
    · exact Or.inr (F2.free r2.1)
theorem gvW_b {N : Int → Int} : ∀ (k : Nat) (n : Int), 0 ≤ n → (gvW N k n).1 ≤ k ∧ (gvW N k n).2 ≤ n ∨ ∃ j : Nat, j < k ∧ N j < 0 := fun k => by
  induction k with
  | zero => intro n hn; exact Or.inl ⟨Nat.le_refl _, Int.le_refl _⟩
  | succ k ih =>
    intro n hn
    rw [gvW]
    split
    · rename_i c
      rcases ih (n - N k) (by omega) with q | ⟨j, q1, q2⟩
      · by_cases z : N k < 0
        · exact Or.inr ⟨k, by omega, z⟩
        · exact Or.inl ⟨by show (gvW N k (n - N k)).1 + 1 ≤ k + 1; omega, by show (gvW N k (n - N k)).2 ≤ n; omega⟩
      · exact Or.inr ⟨j, by omega, q2⟩
    · exact Or.inl ⟨Nat.zero_le _, Int.le_refl _⟩
theorem cx_giveTo {t : Int} (hp : h.tag p = 8) (hr : h.R 8 p 0 = some a) (hA : isLs γ h a e xs) (hX : lays h xs N D C P) (hB : isLs γ h b d ys) (hZ : lays h ys M D2 C2 P2) (hab : a ≠ b) (hN : ∀ k : Nat, k < xs.length → 1 ≤ N k ∧ N k ≤ 5000) (ht : 0 ≤ t ∧ t ≤ 1000000) (hts : t ≤ Sm N xs.length) (hlen : xs.length + ys.length < 100) (hK : γ.K 0 < γ.base) : CT γ mX4_giveTo 7 (xs.length + 4) (150 * xs.length + 165) [.ref p, .ref b, .int (jI t)] h (gvR γ h a e b d xs ys N D C P M D2 C2 P2 (gvW N xs.length t).1 (gvW N xs.length t).2) X0 := by
  have ta := hA.1.1
  have te := hA.1.2.2.1
  have tb := hB.1.1
  have td := hB.1.2.2.1
  refine CT.of MX4_giveTo (Nat.le_of_ble_eq_true rfl) ?_
  show J γ mX4_giveTo 7 (xs.length+4) (150*xs.length+165) 0 0 h 0 [(0, .ref p), (1, .ref b), (2, .int (jI t))] [] _ _
  refine J.iload_n (pc' := 1) rfl rfl rfl ?_
  refine J.istore_n (pc' := 2) rfl rfl (by decide) ?_
  first | refine J.aload_n (pc' := 3) rfl rfl rfl ?_ | refine J.aload_nN (pc' := 3) rfl rfl rfl ?_
  first | refine J.getR (pc' := 6) rfl fl_X4_12 rfl (by first | assumption | (simp only [jM.tag_sI, jM.tag_sL, jM.tag_sR, jM.tag_fI, jM.tag_fL, jM.tag_fR]; assumption) | (simp [jM.tag_nw, jM.tag_sI, jM.tag_sL, jM.tag_sR, jM.tag_fI, jM.tag_fL, jM.tag_fR, *]; done)) (by first | assumption | (simp only [jM.R_sI, jM.R_sL, jM.R_fI, jM.R_fL]; assumption) | (simp [jM.R_nw, jM.R_sR, jM.R_fR, jM.R_sI, jM.R_sL, jM.R_fI, jM.R_fL, *]; done)) rfl ?_ | refine J.getRN (pc' := 6) rfl fl_X4_12 rfl (by first | assumption | (simp only [jM.tag_sI, jM.tag_sL, jM.tag_sR, jM.tag_fI, jM.tag_fL, jM.tag_fR]; assumption) | (simp [jM.tag_nw, jM.tag_sI, jM.tag_sL, jM.tag_sR, jM.tag_fI, jM.tag_fL, jM.tag_fR, *]; done)) (by first | assumption | (simp only [jM.R_sI, jM.R_sL, jM.R_fI, jM.R_fL]; assumption) | (simp [jM.R_nw, jM.R_sR, jM.R_fR, jM.R_sI, jM.R_sL, jM.R_fI, jM.R_fL, *]; done)) rfl ?_
  refine J.callV (pc' := 9) (t := 3) rfl MJx4a65c_size_8abf5 ml_X4_18 iv_Jx4a65c_size_8abf5 (by decide) ⟨_, rfl, rfl⟩ (by first | assumption | (simp only [jM.tag_sI, jM.tag_sL, jM.tag_sR, jM.tag_fI, jM.tag_fL, jM.tag_fR]; assumption) | (simp [jM.tag_nw, jM.tag_sI, jM.tag_sL, jM.tag_sR, jM.tag_fI, jM.tag_fL, jM.tag_fR, *]; done)) hA.1.size rfl rfl (Nat.le_of_ble_eq_true rfl) (by first | omega | (exact R.r _ _) | (simp only [jM.len_sI, jM.len_sL, jM.len_sR, jM.len_fI, jM.len_fL, jM.len_fR]; omega) | (simp [jM.len_nw, jM.len_sI, jM.len_sL, jM.len_sR, jM.len_fI, jM.len_fL, jM.len_fR, *]; omega)) (by first | omega | (exact R.r _ _) | (simp only [jM.len_sI, jM.len_sL, jM.len_sR, jM.len_fI, jM.len_fL, jM.len_fR]; omega) | (simp [jM.len_nw, jM.len_sI, jM.len_sL, jM.len_sR, jM.len_fI, jM.len_fL, jM.len_fR, *]; omega)) (by first | omega | (exact R.r _ _) | (simp only [jM.len_sI, jM.len_sL, jM.len_sR, jM.len_fI, jM.len_fL, jM.len_fR]; omega) | (simp [jM.len_nw, jM.len_sI, jM.len_sL, jM.len_sR, jM.len_fI, jM.len_fL, jM.len_fR, *]; omega)) rfl rfl ?_ ?_
  · exact fun _ _ h => h
  rintro _ h ⟨rfl, rfl⟩
  refine J.iconst (pc' := 10) rfl rfl ?_
  refine J.isub (pc' := 11) rfl rfl ?_
  refine J.istore (pc' := 13) rfl rfl (by decide) ?_
  have key : ∀ (m w : Nat) (l : Int), m + w = xs.length → 0 ≤ l ∧ l ≤ 1000000 → l ≤ Sm N m → gvW N xs.length t = ((gvW N m l).1 + w, (gvW N m l).2) → ∀ (k : jM) (d' : Nat) (zs : List Nat), isLs γ k a e (xs.take m) → lays k (xs.take m) N D C P → isLs γ k b d' zs → zs.length = ys.length + w → lays k zs (glD ys.length xs.length M N) (glD ys.length xs.length D2 D) (glD ys.length xs.length C2 C) (glD ys.length xs.length P2 P) → Fr h k (gvS h a e b d xs) → Nt h k [10, 14, 20, 34] → (d' = d ∨ h.tag d' = 0) → k.tag p = 8 → k.R 8 p 0 = some a → ∀ c1 c2, c1 ≤ w → c2 ≤ 150 * w → ∀ lv, hasL lv [(0, .ref p), (1, .ref b), (3, .int (jI l)), (4, .int (jI ((m : Int) - 1)))] → J γ mX4_giveTo 7 (xs.length + 4) (150 * xs.length + 165) c1 c2 k 13 lv [] (gvR γ h a e b d xs ys N D C P M D2 C2 P2 (gvW N xs.length t).1 (gvW N xs.length t).2) X0 := by
    have fin : ∀ (m w : Nat), m + w = xs.length → gvW N xs.length t = (w, 0) → ∀ (k : jM) (d' : Nat) (zs : List Nat), isLs γ k a e (xs.take m) → lays k (xs.take m) N D C P → isLs γ k b d' zs → zs.length = ys.length + w → lays k zs (glD ys.length xs.length M N) (glD ys.length xs.length D2 D) (glD ys.length xs.length C2 C) (glD ys.length xs.length P2 P) → Fr h k (gvS h a e b d xs) → Nt h k [10, 14, 20, 34] → (d' = d ∨ h.tag d' = 0) → gvE γ h k a e b d xs ys N D C P M D2 C2 P2 (gvW N xs.length t).1 (gvW N xs.length t).2 := by
      intro m w hmw hg k d' zs x1 x2 x3 x4 x5 x6 x7 x8
      rw [hg]
      refine ⟨d', zs, ?_, ?_, x3, by rw [x4]; rfl, x5.cg (fun i hi => ⟨?_, rfl, rfl, rfl⟩), x6, x7, x8⟩
      · rw [show xs.length - w = m by omega]; exact x1
      · rw [show xs.length - w = m by omega]
        exact x2.cg (fun i _ => ⟨by unfold glX; rw [if_neg (fun q => Int.lt_irrefl 0 q.1)], rfl, rfl, rfl⟩)
      · unfold glD glN
        by_cases c : (i : Int) < (ys.length : Int)
        · rw [if_pos c, if_pos c]
        · rw [if_neg c, if_neg c, if_pos (by omega)]
    intro m
    induction m with
    | zero =>
      intro w l hmw hl hls hg k d' zs x1 x2 x3 x4 x5 x6 x7 x8 x9 x10 c1 c2 hc1 hc2 lv hlv
      have el : l = 0 := by have : Sm N 0 = 0 := rfl; omega
      subst el
      refine cx_gvOut (i := ((0 : Nat) : Int) - 1) (by decide) (by omega) (by omega) ⟨rfl, fin 0 w hmw (by rw [hg]; simp [gvW]) k d' zs x1 x2 x3 x4 x5 x6 x7 x8⟩ lv ⟨hlv.2.2.1, hlv.2.2.2.1, trivial⟩
    | succ m ih =>
      intro w l hmw hl hls hg k d' zs x1 x2 x3 x4 x5 x6 x7 x8 x9 x10 c1 c2 hc1 hc2 lv hlv
      by_cases l0 : l = 0
      · subst l0
        refine cx_gvOut (i := ((m + 1 : Nat) : Int) - 1) (by constructor <;> omega) (by omega) (by omega) ⟨rfl, fin (m + 1) w hmw (by rw [hg, gvW, if_neg (by omega)]; simp) k d' zs x1 x2 x3 x4 x5 x6 x7 x8⟩ lv ⟨hlv.2.2.1, hlv.2.2.2.1, trivial⟩
      · obtain ⟨y, hy⟩ : ∃ y, xs[m]? = some y := ⟨_, List.getElem?_eq_getElem (by omega)⟩
        have hy2 : (xs.take (m + 1))[m]? = some y := by rw [List.getElem?_take, if_pos (by omega)]; exact hy
        obtain ⟨y1, y0, y2, y3⟩ := x2 m y hy2
        have hNm := hN m (by omega)
        have e1 : ((m + 1 : Nat) : Int) - 1 = (m : Int) := by omega
        rw [e1] at hlv
        have ta := x1.1.1
        refine J.lc hlv ?_
        refine J.iload (pc' := 15) rfl rfl rfl ?_
        refine J.if_lt (tgt := 92) (pc' := 18) rfl rfl rfl (by first | omega | (exact R.r _ _) | (simp only [jM.len_sI, jM.len_sL, jM.len_sR, jM.len_fI, jM.len_fL, jM.len_fR]; omega) | (simp [jM.len_nw, jM.len_sI, jM.len_sL, jM.len_sR, jM.len_fI, jM.len_fL, jM.len_fR, *]; omega)) (fun c3 => ?_) (fun c3 => ?_)
        · omega
        · refine J.iload_n (pc' := 19) rfl rfl rfl ?_
          refine J.if_le (tgt := 92) (pc' := 22) rfl rfl rfl (by first | omega | (exact R.r _ _) | (simp only [jM.len_sI, jM.len_sL, jM.len_sR, jM.len_fI, jM.len_fL, jM.len_fR]; omega) | (simp [jM.len_nw, jM.len_sI, jM.len_sL, jM.len_sR, jM.len_fI, jM.len_fL, jM.len_fR, *]; omega)) (fun c4 => ?_) (fun c4 => ?_)
          · omega
          · first | refine J.aload_n (pc' := 23) rfl rfl rfl ?_ | refine J.aload_nN (pc' := 23) rfl rfl rfl ?_
            first | refine J.getR (pc' := 26) rfl fl_X4_12 rfl (by first | assumption | (simp only [jM.tag_sI, jM.tag_sL, jM.tag_sR, jM.tag_fI, jM.tag_fL, jM.tag_fR]; assumption) | (simp [jM.tag_nw, jM.tag_sI, jM.tag_sL, jM.tag_sR, jM.tag_fI, jM.tag_fL, jM.tag_fR, *]; done)) (by first | assumption | (simp only [jM.R_sI, jM.R_sL, jM.R_fI, jM.R_fL]; assumption) | (simp [jM.R_nw, jM.R_sR, jM.R_fR, jM.R_sI, jM.R_sL, jM.R_fI, jM.R_fL, *]; done)) rfl ?_ | refine J.getRN (pc' := 26) rfl fl_X4_12 rfl (by first | assumption | (simp only [jM.tag_sI, jM.tag_sL, jM.tag_sR, jM.tag_fI, jM.tag_fL, jM.tag_fR]; assumption) | (simp [jM.tag_nw, jM.tag_sI, jM.tag_sL, jM.tag_sR, jM.tag_fI, jM.tag_fL, jM.tag_fR, *]; done)) (by first | assumption | (simp only [jM.R_sI, jM.R_sL, jM.R_fI, jM.R_fL]; assumption) | (simp [jM.R_nw, jM.R_sR, jM.R_fR, jM.R_sI, jM.R_sL, jM.R_fI, jM.R_fL, *]; done)) rfl ?_
            refine J.iload (pc' := 28) rfl rfl rfl ?_
            refine J.callV (pc' := 31) (t := 3) rfl MJx4a65c_get_915e3 ml_X4_22 iv_Jx4a65c_get_915e3 (by decide) ⟨_, rfl, rfl⟩ (by first | assumption | (simp only [jM.tag_sI, jM.tag_sL, jM.tag_sR, jM.tag_fI, jM.tag_fL, jM.tag_fR]; assumption) | (simp [jM.tag_nw, jM.tag_sI, jM.tag_sL, jM.tag_sR, jM.tag_fI, jM.tag_fL, jM.tag_fR, *]; done)) (x1.1.get hy2) rfl rfl (Nat.le_of_ble_eq_true rfl) (by first | omega | (exact R.r _ _) | (simp only [jM.len_sI, jM.len_sL, jM.len_sR, jM.len_fI, jM.len_fL, jM.len_fR]; omega) | (simp [jM.len_nw, jM.len_sI, jM.len_sL, jM.len_sR, jM.len_fI, jM.len_fL, jM.len_fR, *]; omega)) (by first | omega | (exact R.r _ _) | (simp only [jM.len_sI, jM.len_sL, jM.len_sR, jM.len_fI, jM.len_fL, jM.len_fR]; omega) | (simp [jM.len_nw, jM.len_sI, jM.len_sL, jM.len_sR, jM.len_fI, jM.len_fL, jM.len_fR, *]; omega)) (by first | omega | (exact R.r _ _) | (simp only [jM.len_sI, jM.len_sL, jM.len_sR, jM.len_fI, jM.len_fL, jM.len_fR]; omega) | (simp [jM.len_nw, jM.len_sI, jM.len_sL, jM.len_sR, jM.len_fI, jM.len_fL, jM.len_fR, *]; omega)) rfl rfl ?_ ?_
            · exact fun _ _ h => h
            rintro _ k ⟨rfl, rfl⟩
            refine J.cast (pc' := 34) (t := 10) rfl (⟨by decide, by decide, _, RX6, rfl, List.mem_of_getElem? (i := 1169) (by decide +kernel), Or.inl rfl⟩) (by first | assumption | (simp only [jM.tag_sI, jM.tag_sL, jM.tag_sR, jM.tag_fI, jM.tag_fL, jM.tag_fR]; assumption) | (simp [jM.tag_nw, jM.tag_sI, jM.tag_sL, jM.tag_sR, jM.tag_fI, jM.tag_fL, jM.tag_fR, *]; done)) rfl ?_
            first | refine J.astore (pc' := 36) rfl rfl (by decide) ?_ | refine J.astoreN (pc' := 36) rfl rfl (by decide) ?_
            first | refine J.aload (pc' := 38) rfl rfl rfl ?_ | refine J.aloadN (pc' := 38) rfl rfl rfl ?_
            refine J.getI (pc' := 41) rfl fl_X4_32 rfl (by first | assumption | (simp only [jM.tag_sI, jM.tag_sL, jM.tag_sR, jM.tag_fI, jM.tag_fL, jM.tag_fR]; assumption) | (simp [jM.tag_nw, jM.tag_sI, jM.tag_sL, jM.tag_sR, jM.tag_fI, jM.tag_fL, jM.tag_fR, *]; done)) rfl ?_
            rw [y2]
            refine J.iload_n (pc' := 42) rfl rfl rfl ?_
            refine J.icmp_le (tgt := 61) (pc' := 45) rfl rfl rfl (by first | omega | (exact R.r _ _) | (simp only [jM.len_sI, jM.len_sL, jM.len_sR, jM.len_fI, jM.len_fL, jM.len_fR]; omega) | (simp [jM.len_nw, jM.len_sI, jM.len_sL, jM.len_sR, jM.len_fI, jM.len_fL, jM.len_fR, *]; omega)) (by first | omega | (exact R.r _ _) | (simp only [jM.len_sI, jM.len_sL, jM.len_sR, jM.len_fI, jM.len_fL, jM.len_fR]; omega) | (simp [jM.len_nw, jM.len_sI, jM.len_sL, jM.len_sR, jM.len_fI, jM.len_fL, jM.len_fR, *]; omega)) (fun c5 => ?_) (fun c5 => ?_)
            · refine cx_gvStep (m := m) (w := w) (l := l) hK (by omega) (by omega) (by omega) hlen hNm (by omega) c5 hy x1 x2 x3 x4 x5 hab x6 x7 x8 te td x9 x10 (fun k' d'' zs' w1 w2 w3 w4 w5 w6 w7 w8 w9 w10 lv2 hlv2 => ?_) _ ⟨rfl, rfl, rfl, rfl, rfl, trivial⟩
              have hS : Sm N (m + 1) = Sm N m + N m := rfl
              refine ih (w + 1) (l - N m) (by omega) (by omega) (by omega) ?_ k' d'' zs' w1 w2 w3 w4 w5 w6 w7 w8 w9 w10 (c1 + 1) (c2 + 150) (by omega) (by omega) lv2 hlv2
              rw [hg, gvW, if_pos (by omega)]
              show ((gvW N m (l - N m)).1 + 1 + w, _) = ((gvW N m (l - N m)).1 + (w + 1), _)
              rw [show (gvW N m (l - N m)).1 + 1 + w = (gvW N m (l - N m)).1 + (w + 1) by omega]
            · have eg : gvW N xs.length t = (w, l) := by rw [hg, gvW, if_neg (by omega)]; simp
              rw [eg]
              exact cx_gvSplit (m := m) (w := w) (l := l) hK (by omega) (by omega) (by omega) hlen hNm (by omega) (by omega) hy x1 x2 x3 x4 x5 hab x6 x7 x8 td x9 x10 _ ⟨rfl, rfl, rfl, rfl, rfl, trivial⟩
  refine key xs.length 0 t (by omega) ht hts (by simp) h d ys (by rw [List.take_length]; exact hA) (by rw [List.take_length]; exact hX) hB (by omega) (hZ.cg (fun i hi => ?_)) Fr.rf Nt.rf (Or.inl rfl) hp hr 0 0 (by omega) (by omega) _ ⟨rfl, rfl, rfl, rfl, trivial⟩
  unfold glD
  rw [if_pos (by omega), if_pos (by omega), if_pos (by omega), if_pos (by omega)]
  exact ⟨rfl, rfl, rfl, rfl⟩
end GV3

