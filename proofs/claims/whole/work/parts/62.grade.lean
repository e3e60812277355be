section GR
variable {γ : jG} {h : jM}
def usP (O : Int → Int) (P : Nat → Int) (kn place : Int) : Int := if O (kn * 10 + place) = -1 then P place.toNat else O (kn * 10 + place)
def puO (O : Int → Int) (P R : Nat → Int) (kn m : Int) : Int → Int := fun j => if j = kn * 10 + (2 * m + 1) then -(-(3 * usP O P kn (2 * m + 1) + R (2 * m + 1).toNat) / 4) else if j = kn * 10 + 2 * m then (3 * usP O P kn (2 * m) + R (2 * m).toNat) / 4 else O j
theorem cx_putRight {s o k sp y0 q y1 : Nat} {i p : Int} {O : Int → Int} {kn m : Int} {P R : Nat → Int} (hS : isSl h s o i O p) (hk : h.tag k = 9) (hkn : h.I 9 k 0 = kn) (hks : h.R 9 k 1 = some sp) (hP : isO h sp y0 P) (hR : isO h q y1 R) (h1 : 0 ≤ kn ∧ kn < 10) (h2 : 0 ≤ m ∧ m < 5) (hO : ∀ j : Int, -1 ≤ O j ∧ O j ≤ 10000) (hPb : ∀ j, j < 10 → 0 ≤ P j ∧ P j ≤ 10000) (hRb : ∀ j, j < 10 → 0 ≤ R j ∧ R j ≤ 10000) : CT γ mX9_putRight 2 0 0 [.ref s, .ref k, .int (jI m), .ref q] h (fun r h' => r = none ∧ isSl h' s o i (puO O P R kn m) p ∧ Fr h h' (fun b => b = o) ∧ h'.tag = h.tag) X0 := by
  have hS0 := hS
  obtain ⟨a1, a2, a3, a4, a5, a6, a7, a8⟩ := hS0
  have hR0 := hR
  obtain ⟨⟨b1, b2, b3, b4, b5⟩, c2, c3, c4⟩ := hR0
  have ub : ∀ pl : Int, 0 ≤ pl → pl < 10 → 0 ≤ usP O P kn pl ∧ usP O P kn pl ≤ 10000 := fun pl p1 p2 => by
    have e1 := hO (kn * 10 + pl)
    have e2 := hPb pl.toNat (by omega)
    unfold usP
    split <;> omega
  have u1 := ub (2 * m) (by omega) (by omega)
  have u2 := ub (2 * m + 1) (by omega) (by omega)
  have r1 := hRb (2 * m).toNat (by omega)
  have r2 := hRb (2 * m + 1).toNat (by omega)
  have e1 : h.I 20 (pa h q) (2 * m).toNat = R (2 * m).toNat := c4 _ (by omega)
  have e2 : h.I 20 (pa h q) (2 * m + 1).toNat = R (2 * m + 1).toNat := c4 _ (by omega)
  refine CT.of MX9_putRight (Nat.le_of_ble_eq_true rfl) ?_
  show J γ mX9_putRight 2 0 0 0 0 h 0 [(0, .ref s), (1, .ref k), (2, .int (jI m)), (3, .ref q)] [] _ _
  refine J.iconst (pc' := 1) rfl rfl ?_
  refine J.iload_n (pc' := 2) rfl rfl rfl ?_
  refine J.imul (pc' := 3) rfl rfl ?_
  refine J.istore (pc' := 5) rfl rfl (by decide) ?_
  refine J.iload (pc' := 7) rfl rfl rfl ?_
  refine J.iconst (pc' := 8) rfl rfl ?_
  refine J.iadd (pc' := 9) rfl rfl ?_
  refine J.istore (pc' := 11) rfl rfl (by decide) ?_
  refine J.lc (lv' := [(0, .ref s), (1, .ref k), (2, .int (jI m)), (3, .ref q), (4, .int (jI (2 * m))), (5, .int (jI (2 * m + 1)))]) (by repeat' (first | exact trivial | refine ⟨rfl, ?_⟩)) ?_
  refine J.iconst (pc' := 12) rfl rfl ?_
  first | refine J.aload_n (pc' := 13) rfl rfl rfl ?_ | refine J.aload_nN (pc' := 13) rfl rfl rfl ?_
  first | refine J.aload_n (pc' := 14) rfl rfl rfl ?_ | refine J.aload_nN (pc' := 14) rfl rfl rfl ?_
  refine J.iload (pc' := 16) rfl rfl rfl ?_
  refine J.callV (pc' := 19) (t := 13) rfl MX9_usualPart ml_X9_35 iv_X9_usualPart (by decide) ⟨_, rfl, rfl⟩ (by first | assumption | (simp only [jM.tag_sI, jM.tag_sL, jM.tag_sR, jM.tag_fI, jM.tag_fL, jM.tag_fR]; assumption) | (simp [jM.tag_nw, jM.tag_sI, jM.tag_sL, jM.tag_sR, jM.tag_fI, jM.tag_fL, jM.tag_fR, *]; done)) (cx_usual (place := 2 * m) hS hk hkn hks hP h1 (by omega) hO) rfl rfl (Nat.le_of_ble_eq_true rfl) (by first | omega | (exact R.r _ _) | (simp only [jM.len_sI, jM.len_sL, jM.len_sR, jM.len_fI, jM.len_fL, jM.len_fR]; omega) | (simp [jM.len_nw, jM.len_sI, jM.len_sL, jM.len_sR, jM.len_fI, jM.len_fL, jM.len_fR, *]; omega)) (by first | omega | (exact R.r _ _) | (simp only [jM.len_sI, jM.len_sL, jM.len_sR, jM.len_fI, jM.len_fL, jM.len_fR]; omega) | (simp [jM.len_nw, jM.len_sI, jM.len_sL, jM.len_sR, jM.len_fI, jM.len_fL, jM.len_fR, *]; omega)) (by first | omega | (exact R.r _ _) | (simp only [jM.len_sI, jM.len_sL, jM.len_sR, jM.len_fI, jM.len_fL, jM.len_fR]; omega) | (simp [jM.len_nw, jM.len_sI, jM.len_sL, jM.len_sR, jM.len_fI, jM.len_fL, jM.len_fR, *]; omega)) rfl rfl ?_ ?_
  · exact fun _ _ h => h
  rintro _ h ⟨rfl, rfl⟩
  rw [show (if O (kn * 10 + 2 * m) = -1 then P (2 * m).toNat else O (kn * 10 + 2 * m)) = usP O P kn (2 * m) from rfl]
  refine J.imul (pc' := 20) rfl rfl ?_
  first | refine J.aload_n (pc' := 21) rfl rfl rfl ?_ | refine J.aload_nN (pc' := 21) rfl rfl rfl ?_
  first | refine J.getR (pc' := 24) rfl fl_X9_30 rfl (by first | assumption | (simp only [jM.tag_sI, jM.tag_sL, jM.tag_sR, jM.tag_fI, jM.tag_fL, jM.tag_fR]; assumption) | (simp [jM.tag_nw, jM.tag_sI, jM.tag_sL, jM.tag_sR, jM.tag_fI, jM.tag_fL, jM.tag_fR, *]; done)) (by first | assumption | (simp only [jM.R_sI, jM.R_sL, jM.R_fI, jM.R_fL]; assumption) | (simp [jM.R_nw, jM.R_sR, jM.R_fR, jM.R_sI, jM.R_sL, jM.R_fI, jM.R_fL, *]; done)) rfl ?_ | refine J.getRN (pc' := 24) rfl fl_X9_30 rfl (by first | assumption | (simp only [jM.tag_sI, jM.tag_sL, jM.tag_sR, jM.tag_fI, jM.tag_fL, jM.tag_fR]; assumption) | (simp [jM.tag_nw, jM.tag_sI, jM.tag_sL, jM.tag_sR, jM.tag_fI, jM.tag_fL, jM.tag_fR, *]; done)) (by first | assumption | (simp only [jM.R_sI, jM.R_sL, jM.R_fI, jM.R_fL]; assumption) | (simp [jM.R_nw, jM.R_sR, jM.R_fR, jM.R_sI, jM.R_sL, jM.R_fI, jM.R_fL, *]; done)) rfl ?_
  refine J.iload (pc' := 26) rfl rfl rfl ?_
  refine J.iald (pc' := 27) rfl (by first | assumption | (simp only [jM.tag_sI, jM.tag_sL, jM.tag_sR, jM.tag_fI, jM.tag_fL, jM.tag_fR]; assumption) | (simp [jM.tag_nw, jM.tag_sI, jM.tag_sL, jM.tag_sR, jM.tag_fI, jM.tag_fL, jM.tag_fR, *]; done)) (by decide) rfl (by first | omega | (exact R.r _ _) | (simp only [jM.len_sI, jM.len_sL, jM.len_sR, jM.len_fI, jM.len_fL, jM.len_fR]; omega) | (simp [jM.len_nw, jM.len_sI, jM.len_sL, jM.len_sR, jM.len_fI, jM.len_fL, jM.len_fR, *]; omega)) (by first | omega | (exact R.r _ _) | (simp only [jM.len_sI, jM.len_sL, jM.len_sR, jM.len_fI, jM.len_fL, jM.len_fR]; omega) | (simp [jM.len_nw, jM.len_sI, jM.len_sL, jM.len_sR, jM.len_fI, jM.len_fL, jM.len_fR, *]; omega)) (by first | omega | (exact R.r _ _) | (simp only [jM.len_sI, jM.len_sL, jM.len_sR, jM.len_fI, jM.len_fL, jM.len_fR]; omega) | (simp [jM.len_nw, jM.len_sI, jM.len_sL, jM.len_sR, jM.len_fI, jM.len_fL, jM.len_fR, *]; omega)) rfl ?_
  rw [e1]
  refine J.iadd (pc' := 28) rfl rfl ?_
  refine J.iconst (pc' := 29) rfl rfl ?_
  refine J.callSN (pc' := 32) rfl MX11_cut ml_X9_39 is_X11_cut (cx_cut (by constructor <;> omega) (by decide) (by omega)) rfl rfl (Nat.le_of_ble_eq_true rfl) (by first | omega | (exact R.r _ _) | (simp only [jM.len_sI, jM.len_sL, jM.len_sR, jM.len_fI, jM.len_fL, jM.len_fR]; omega) | (simp [jM.len_nw, jM.len_sI, jM.len_sL, jM.len_sR, jM.len_fI, jM.len_fL, jM.len_fR, *]; omega)) (by first | omega | (exact R.r _ _) | (simp only [jM.len_sI, jM.len_sL, jM.len_sR, jM.len_fI, jM.len_fL, jM.len_fR]; omega) | (simp [jM.len_nw, jM.len_sI, jM.len_sL, jM.len_sR, jM.len_fI, jM.len_fL, jM.len_fR, *]; omega)) (by first | omega | (exact R.r _ _) | (simp only [jM.len_sI, jM.len_sL, jM.len_sR, jM.len_fI, jM.len_fL, jM.len_fR]; omega) | (simp [jM.len_nw, jM.len_sI, jM.len_sL, jM.len_sR, jM.len_fI, jM.len_fL, jM.len_fR, *]; omega)) rfl ?_
  rintro _ h ⟨rfl, rfl⟩
  refine J.istore (pc' := 34) rfl rfl (by decide) ?_
  refine J.iconst (pc' := 35) rfl rfl ?_
  first | refine J.aload_n (pc' := 36) rfl rfl rfl ?_ | refine J.aload_nN (pc' := 36) rfl rfl rfl ?_
  first | refine J.aload_n (pc' := 37) rfl rfl rfl ?_ | refine J.aload_nN (pc' := 37) rfl rfl rfl ?_
  refine J.iload (pc' := 39) rfl rfl rfl ?_
  refine J.callV (pc' := 42) (t := 13) rfl MX9_usualPart ml_X9_35 iv_X9_usualPart (by decide) ⟨_, rfl, rfl⟩ (by first | assumption | (simp only [jM.tag_sI, jM.tag_sL, jM.tag_sR, jM.tag_fI, jM.tag_fL, jM.tag_fR]; assumption) | (simp [jM.tag_nw, jM.tag_sI, jM.tag_sL, jM.tag_sR, jM.tag_fI, jM.tag_fL, jM.tag_fR, *]; done)) (cx_usual (place := 2 * m + 1) hS hk hkn hks hP h1 (by omega) hO) rfl rfl (Nat.le_of_ble_eq_true rfl) (by first | omega | (exact R.r _ _) | (simp only [jM.len_sI, jM.len_sL, jM.len_sR, jM.len_fI, jM.len_fL, jM.len_fR]; omega) | (simp [jM.len_nw, jM.len_sI, jM.len_sL, jM.len_sR, jM.len_fI, jM.len_fL, jM.len_fR, *]; omega)) (by first | omega | (exact R.r _ _) | (simp only [jM.len_sI, jM.len_sL, jM.len_sR, jM.len_fI, jM.len_fL, jM.len_fR]; omega) | (simp [jM.len_nw, jM.len_sI, jM.len_sL, jM.len_sR, jM.len_fI, jM.len_fL, jM.len_fR, *]; omega)) (by first | omega | (exact R.r _ _) | (simp only [jM.len_sI, jM.len_sL, jM.len_sR, jM.len_fI, jM.len_fL, jM.len_fR]; omega) | (simp [jM.len_nw, jM.len_sI, jM.len_sL, jM.len_sR, jM.len_fI, jM.len_fL, jM.len_fR, *]; omega)) rfl rfl ?_ ?_
  · exact fun _ _ h => h
  rintro _ h ⟨rfl, rfl⟩
  rw [show (if O (kn * 10 + (2 * m + 1)) = -1 then P (2 * m + 1).toNat else O (kn * 10 + (2 * m + 1))) = usP O P kn (2 * m + 1) from rfl]
  refine J.imul (pc' := 43) rfl rfl ?_
  first | refine J.aload_n (pc' := 44) rfl rfl rfl ?_ | refine J.aload_nN (pc' := 44) rfl rfl rfl ?_
  first | refine J.getR (pc' := 47) rfl fl_X9_30 rfl (by first | assumption | (simp only [jM.tag_sI, jM.tag_sL, jM.tag_sR, jM.tag_fI, jM.tag_fL, jM.tag_fR]; assumption) | (simp [jM.tag_nw, jM.tag_sI, jM.tag_sL, jM.tag_sR, jM.tag_fI, jM.tag_fL, jM.tag_fR, *]; done)) (by first | assumption | (simp only [jM.R_sI, jM.R_sL, jM.R_fI, jM.R_fL]; assumption) | (simp [jM.R_nw, jM.R_sR, jM.R_fR, jM.R_sI, jM.R_sL, jM.R_fI, jM.R_fL, *]; done)) rfl ?_ | refine J.getRN (pc' := 47) rfl fl_X9_30 rfl (by first | assumption | (simp only [jM.tag_sI, jM.tag_sL, jM.tag_sR, jM.tag_fI, jM.tag_fL, jM.tag_fR]; assumption) | (simp [jM.tag_nw, jM.tag_sI, jM.tag_sL, jM.tag_sR, jM.tag_fI, jM.tag_fL, jM.tag_fR, *]; done)) (by first | assumption | (simp only [jM.R_sI, jM.R_sL, jM.R_fI, jM.R_fL]; assumption) | (simp [jM.R_nw, jM.R_sR, jM.R_fR, jM.R_sI, jM.R_sL, jM.R_fI, jM.R_fL, *]; done)) rfl ?_
  refine J.iload (pc' := 49) rfl rfl rfl ?_
  refine J.iald (pc' := 50) rfl (by first | assumption | (simp only [jM.tag_sI, jM.tag_sL, jM.tag_sR, jM.tag_fI, jM.tag_fL, jM.tag_fR]; assumption) | (simp [jM.tag_nw, jM.tag_sI, jM.tag_sL, jM.tag_sR, jM.tag_fI, jM.tag_fL, jM.tag_fR, *]; done)) (by decide) rfl (by first | omega | (exact R.r _ _) | (simp only [jM.len_sI, jM.len_sL, jM.len_sR, jM.len_fI, jM.len_fL, jM.len_fR]; omega) | (simp [jM.len_nw, jM.len_sI, jM.len_sL, jM.len_sR, jM.len_fI, jM.len_fL, jM.len_fR, *]; omega)) (by first | omega | (exact R.r _ _) | (simp only [jM.len_sI, jM.len_sL, jM.len_sR, jM.len_fI, jM.len_fL, jM.len_fR]; omega) | (simp [jM.len_nw, jM.len_sI, jM.len_sL, jM.len_sR, jM.len_fI, jM.len_fL, jM.len_fR, *]; omega)) (by first | omega | (exact R.r _ _) | (simp only [jM.len_sI, jM.len_sL, jM.len_sR, jM.len_fI, jM.len_fL, jM.len_fR]; omega) | (simp [jM.len_nw, jM.len_sI, jM.len_sL, jM.len_sR, jM.len_fI, jM.len_fL, jM.len_fR, *]; omega)) rfl ?_
  rw [e2]
  refine J.iadd (pc' := 51) rfl rfl ?_
  refine J.iconst (pc' := 52) rfl rfl ?_
  refine J.callSN (pc' := 55) rfl MX11_roundedUp ml_X9_43 is_X11_roundedUp (cx_up (by constructor <;> omega) (by constructor <;> omega) (by decide) (by omega)) rfl rfl (Nat.le_of_ble_eq_true rfl) (by first | omega | (exact R.r _ _) | (simp only [jM.len_sI, jM.len_sL, jM.len_sR, jM.len_fI, jM.len_fL, jM.len_fR]; omega) | (simp [jM.len_nw, jM.len_sI, jM.len_sL, jM.len_sR, jM.len_fI, jM.len_fL, jM.len_fR, *]; omega)) (by first | omega | (exact R.r _ _) | (simp only [jM.len_sI, jM.len_sL, jM.len_sR, jM.len_fI, jM.len_fL, jM.len_fR]; omega) | (simp [jM.len_nw, jM.len_sI, jM.len_sL, jM.len_sR, jM.len_fI, jM.len_fL, jM.len_fR, *]; omega)) (by first | omega | (exact R.r _ _) | (simp only [jM.len_sI, jM.len_sL, jM.len_sR, jM.len_fI, jM.len_fL, jM.len_fR]; omega) | (simp [jM.len_nw, jM.len_sI, jM.len_sL, jM.len_sR, jM.len_fI, jM.len_fL, jM.len_fR, *]; omega)) rfl ?_
  rintro _ h ⟨rfl, rfl⟩
  refine J.istore (pc' := 57) rfl rfl (by decide) ?_
  first | refine J.aload_n (pc' := 58) rfl rfl rfl ?_ | refine J.aload_nN (pc' := 58) rfl rfl rfl ?_
  first | refine J.getR (pc' := 61) rfl fl_X9_9 rfl (by first | assumption | (simp only [jM.tag_sI, jM.tag_sL, jM.tag_sR, jM.tag_fI, jM.tag_fL, jM.tag_fR]; assumption) | (simp [jM.tag_nw, jM.tag_sI, jM.tag_sL, jM.tag_sR, jM.tag_fI, jM.tag_fL, jM.tag_fR, *]; done)) (by first | assumption | (simp only [jM.R_sI, jM.R_sL, jM.R_fI, jM.R_fL]; assumption) | (simp [jM.R_nw, jM.R_sR, jM.R_fR, jM.R_sI, jM.R_sL, jM.R_fI, jM.R_fL, *]; done)) rfl ?_ | refine J.getRN (pc' := 61) rfl fl_X9_9 rfl (by first | assumption | (simp only [jM.tag_sI, jM.tag_sL, jM.tag_sR, jM.tag_fI, jM.tag_fL, jM.tag_fR]; assumption) | (simp [jM.tag_nw, jM.tag_sI, jM.tag_sL, jM.tag_sR, jM.tag_fI, jM.tag_fL, jM.tag_fR, *]; done)) (by first | assumption | (simp only [jM.R_sI, jM.R_sL, jM.R_fI, jM.R_fL]; assumption) | (simp [jM.R_nw, jM.R_sR, jM.R_fR, jM.R_sI, jM.R_sL, jM.R_fI, jM.R_fL, *]; done)) rfl ?_
  first | refine J.aload_n (pc' := 62) rfl rfl rfl ?_ | refine J.aload_nN (pc' := 62) rfl rfl rfl ?_
  refine J.getI (pc' := 65) rfl fl_X9_23 rfl (by first | assumption | (simp only [jM.tag_sI, jM.tag_sL, jM.tag_sR, jM.tag_fI, jM.tag_fL, jM.tag_fR]; assumption) | (simp [jM.tag_nw, jM.tag_sI, jM.tag_sL, jM.tag_sR, jM.tag_fI, jM.tag_fL, jM.tag_fR, *]; done)) rfl ?_
  rw [hkn]
  refine J.bipush (pc' := 67) rfl rfl (by decide) ?_
  refine J.imul (pc' := 68) rfl rfl ?_
  refine J.iload (pc' := 70) rfl rfl rfl ?_
  refine J.iadd (pc' := 71) rfl rfl ?_
  refine J.iload (pc' := 73) rfl rfl rfl ?_
  refine J.iast (pc' := 74) rfl (by first | assumption | (simp only [jM.tag_sI, jM.tag_sL, jM.tag_sR, jM.tag_fI, jM.tag_fL, jM.tag_fR]; assumption) | (simp [jM.tag_nw, jM.tag_sI, jM.tag_sL, jM.tag_sR, jM.tag_fI, jM.tag_fL, jM.tag_fR, *]; done)) (by decide) rfl (by first | omega | (exact R.r _ _) | (simp only [jM.len_sI, jM.len_sL, jM.len_sR, jM.len_fI, jM.len_fL, jM.len_fR]; omega) | (simp [jM.len_nw, jM.len_sI, jM.len_sL, jM.len_sR, jM.len_fI, jM.len_fL, jM.len_fR, *]; omega)) (by first | omega | (exact R.r _ _) | (simp only [jM.len_sI, jM.len_sL, jM.len_sR, jM.len_fI, jM.len_fL, jM.len_fR]; omega) | (simp [jM.len_nw, jM.len_sI, jM.len_sL, jM.len_sR, jM.len_fI, jM.len_fL, jM.len_fR, *]; omega)) (by first | omega | (exact R.r _ _) | (simp only [jM.len_sI, jM.len_sL, jM.len_sR, jM.len_fI, jM.len_fL, jM.len_fR]; omega) | (simp [jM.len_nw, jM.len_sI, jM.len_sL, jM.len_sR, jM.len_fI, jM.len_fL, jM.len_fR, *]; omega)) (Or.inl rfl) rfl ?_
  first | refine J.aload_n (pc' := 75) rfl rfl rfl ?_ | refine J.aload_nN (pc' := 75) rfl rfl rfl ?_
  first | refine J.getR (pc' := 78) rfl fl_X9_9 rfl (by first | assumption | (simp only [jM.tag_sI, jM.tag_sL, jM.tag_sR, jM.tag_fI, jM.tag_fL, jM.tag_fR]; assumption) | (simp [jM.tag_nw, jM.tag_sI, jM.tag_sL, jM.tag_sR, jM.tag_fI, jM.tag_fL, jM.tag_fR, *]; done)) (by first | assumption | (simp only [jM.R_sI, jM.R_sL, jM.R_fI, jM.R_fL]; assumption) | (simp [jM.R_nw, jM.R_sR, jM.R_fR, jM.R_sI, jM.R_sL, jM.R_fI, jM.R_fL, *]; done)) rfl ?_ | refine J.getRN (pc' := 78) rfl fl_X9_9 rfl (by first | assumption | (simp only [jM.tag_sI, jM.tag_sL, jM.tag_sR, jM.tag_fI, jM.tag_fL, jM.tag_fR]; assumption) | (simp [jM.tag_nw, jM.tag_sI, jM.tag_sL, jM.tag_sR, jM.tag_fI, jM.tag_fL, jM.tag_fR, *]; done)) (by first | assumption | (simp only [jM.R_sI, jM.R_sL, jM.R_fI, jM.R_fL]; assumption) | (simp [jM.R_nw, jM.R_sR, jM.R_fR, jM.R_sI, jM.R_sL, jM.R_fI, jM.R_fL, *]; done)) rfl ?_
  first | refine J.aload_n (pc' := 79) rfl rfl rfl ?_ | refine J.aload_nN (pc' := 79) rfl rfl rfl ?_
  refine J.getI (pc' := 82) rfl fl_X9_23 rfl (by first | assumption | (simp only [jM.tag_sI, jM.tag_sL, jM.tag_sR, jM.tag_fI, jM.tag_fL, jM.tag_fR]; assumption) | (simp [jM.tag_nw, jM.tag_sI, jM.tag_sL, jM.tag_sR, jM.tag_fI, jM.tag_fL, jM.tag_fR, *]; done)) rfl ?_
  rw [show (h.sI 21 o (kn * 10 + 2 * m).toNat ((3 * usP O P kn (2 * m) + R (2 * m).toNat) / 4)).I 9 k 0 = kn by rw [jM.I_sI, if_neg (by omega)]; exact hkn]
  refine J.bipush (pc' := 84) rfl rfl (by decide) ?_
  refine J.imul (pc' := 85) rfl rfl ?_
  refine J.iload (pc' := 87) rfl rfl rfl ?_
  refine J.iadd (pc' := 88) rfl rfl ?_
  refine J.iload (pc' := 90) rfl rfl rfl ?_
  refine J.iast (pc' := 91) rfl (by first | assumption | (simp only [jM.tag_sI, jM.tag_sL, jM.tag_sR, jM.tag_fI, jM.tag_fL, jM.tag_fR]; assumption) | (simp [jM.tag_nw, jM.tag_sI, jM.tag_sL, jM.tag_sR, jM.tag_fI, jM.tag_fL, jM.tag_fR, *]; done)) (by decide) rfl (by first | omega | (exact R.r _ _) | (simp only [jM.len_sI, jM.len_sL, jM.len_sR, jM.len_fI, jM.len_fL, jM.len_fR]; omega) | (simp [jM.len_nw, jM.len_sI, jM.len_sL, jM.len_sR, jM.len_fI, jM.len_fL, jM.len_fR, *]; omega)) (by first | omega | (exact R.r _ _) | (simp only [jM.len_sI, jM.len_sL, jM.len_sR, jM.len_fI, jM.len_fL, jM.len_fR]; omega) | (simp [jM.len_nw, jM.len_sI, jM.len_sL, jM.len_sR, jM.len_fI, jM.len_fL, jM.len_fR, *]; omega)) (by first | omega | (exact R.r _ _) | (simp only [jM.len_sI, jM.len_sL, jM.len_sR, jM.len_fI, jM.len_fL, jM.len_fR]; omega) | (simp [jM.len_nw, jM.len_sI, jM.len_sL, jM.len_sR, jM.len_fI, jM.len_fL, jM.len_fR, *]; omega)) (Or.inl rfl) rfl ?_
  refine J.vret rfl rfl (by first | omega | (exact R.r _ _) | (simp only [jM.len_sI, jM.len_sL, jM.len_sR, jM.len_fI, jM.len_fL, jM.len_fR]; omega) | (simp [jM.len_nw, jM.len_sI, jM.len_sL, jM.len_sR, jM.len_fI, jM.len_fL, jM.len_fR, *]; omega)) (by first | omega | (exact R.r _ _) | (simp only [jM.len_sI, jM.len_sL, jM.len_sR, jM.len_fI, jM.len_fL, jM.len_fR]; omega) | (simp [jM.len_nw, jM.len_sI, jM.len_sL, jM.len_sR, jM.len_fI, jM.len_fL, jM.len_fR, *]; omega)) ?_
  refine ⟨rfl, ⟨a1, ?_, a3, a4, a5, a6, a7, fun j hj => ?_⟩, ?_, rfl⟩
  · rw [jM.I_sI, if_neg (by omega), jM.I_sI, if_neg (by omega)]; exact a2
  · rw [jM.I_sI]
    unfold puO
    by_cases z : (j : Int) = kn * 10 + (2 * m + 1)
    · rw [if_pos ⟨rfl, rfl, by omega⟩, if_pos z]
    · rw [if_neg (by omega), if_neg z, jM.I_sI]
      by_cases z2 : (j : Int) = kn * 10 + 2 * m
      · rw [if_pos ⟨rfl, rfl, by omega⟩, if_pos z2]
      · rw [if_neg (by omega), if_neg z2]
        exact a8 j hj
  · refine Fr.stI (Fr.stI Fr.rf ?_) ?_ <;> exact Or.inl rfl
/-- a GRADE -/
def isG (h : jM) (g p1 p2 : Nat) (B A : Int → Int) (pay : Int) : Prop := h.tag g = 7 ∧ h.R 7 g 0 = some p1 ∧ h.tag p1 = 22 ∧ h.len p1 = 5 ∧ h.R 22 p1 0 = some g ∧ h.R 7 g 1 = some p2 ∧ h.tag p2 = 23 ∧ h.len p2 = 5 ∧ h.R 23 p2 0 = some g ∧ h.I 7 g 2 = pay ∧ ∀ m : Nat, m < 5 → h.I 22 p1 m = B m ∧ h.I 23 p2 m = A m
theorem isG.kept {h' : jM} {W : Nat → Prop} {g p1 p2 : Nat} {B A : Int → Int} {pay : Int} (F : Fr h h' W) (hS : isG h g p1 p2 B A pay) (h1 : ¬ W g) (h2 : ¬ W p1) (h3 : ¬ W p2) : isG h' g p1 p2 B A pay := by
  obtain ⟨a1, a2, a3, a4, a5, a6, a7, a8, a9, a10, a11⟩ := hS
  exact ⟨F.tag a1 (by omega), by rw [F.R a1 (by omega) h1]; exact a2, F.tag a3 (by omega), by rw [F.len (by omega)]; exact a4, by rw [F.R a3 (by omega) h2]; exact a5, by rw [F.R a1 (by omega) h1]; exact a6, F.tag a7 (by omega), by rw [F.len (by omega)]; exact a8, by rw [F.R a7 (by omega) h3]; exact a9, by rw [F.I a1 (by omega) h1]; exact a10, fun m hm => by rw [F.I a3 (by omega) h2, F.I a7 (by omega) h3]; exact a11 m hm⟩
def sureM (B A : Int → Int) (P : Nat → Int) (m : Int) : Bool := decide (P (2 * m + 1).toNat < B m) && decide (A m < P (2 * m).toNat)
def sureG (B A : Int → Int) (P : Nat → Int) : Bool := allB (sureM B A P) 0 5
theorem cx_isSure {g p1 p2 sp y0 : Nat} {B A : Int → Int} {pay : Int} {P : Nat → Int} (hG : isG h g p1 p2 B A pay) (hP : isO h sp y0 P) (hB : ∀ m : Nat, m < 5 → r32 (B m) ∧ r32 (A m)) (hPb : ∀ j, j < 10 → r32 (P j)) : CT γ mX3_isSure 1 0 0 [.ref g, .ref sp] h (fun r h' => r = some (.int (jI (b2i (sureG B A P)))) ∧ h' = h) X0 := by
  obtain ⟨a1, a2, a3, a4, a5, a6, a7, a8, a9, a10, a11⟩ := hG
  have hsp := hP.1
  have tsp := hsp.1
  refine CT.of MX3_isSure (Nat.le_of_ble_eq_true rfl) ?_
  show J γ mX3_isSure 1 0 0 0 0 h 0 [(0, .ref g), (1, .ref sp)] [] _ _
  refine J.iconst (pc' := 1) rfl rfl ?_
  refine J.istore_n (pc' := 2) rfl rfl (by decide) ?_
  have key : ∀ (k m : Nat), m + k = 5 → allB (sureM B A P) 0 m = true → ∀ lv, hasL lv [(0, .ref g), (1, .ref sp), (2, .int (jI (m : Int)))] → J γ mX3_isSure 1 0 0 0 0 h 2 lv [] (fun r h' => r = some (.int (jI (b2i (sureG B A P)))) ∧ h' = h) X0 := by
    intro k
    induction k with
    | zero =>
      intro m hm hall lv hlv
      have em : m = 5 := by omega
      subst em
      refine J.lc hlv ?_
      refine J.iload_n (pc' := 3) rfl rfl rfl ?_
      refine J.iconst (pc' := 4) rfl rfl ?_
      refine J.icmp_ge (tgt := 43) (pc' := 7) rfl rfl rfl (by first | omega | (exact R.r _ _) | (simp only [jM.len_sI, jM.len_sL, jM.len_sR, jM.len_fI, jM.len_fL, jM.len_fR]; omega) | (simp [jM.len_nw, jM.len_sI, jM.len_sL, jM.len_sR, jM.len_fI, jM.len_fL, jM.len_fR, *]; omega)) (by first | omega | (exact R.r _ _) | (simp only [jM.len_sI, jM.len_sL, jM.len_sR, jM.len_fI, jM.len_fL, jM.len_fR]; omega) | (simp [jM.len_nw, jM.len_sI, jM.len_sL, jM.len_sR, jM.len_fI, jM.len_fL, jM.len_fR, *]; omega)) (fun c1 => ?_) (fun c1 => ?_)
      · refine J.iconst (pc' := 44) rfl rfl ?_
        refine J.zret rfl rfl (by rfl) (by first | omega | (exact R.r _ _) | (simp only [jM.len_sI, jM.len_sL, jM.len_sR, jM.len_fI, jM.len_fL, jM.len_fR]; omega) | (simp [jM.len_nw, jM.len_sI, jM.len_sL, jM.len_sR, jM.len_fI, jM.len_fL, jM.len_fR, *]; omega)) (by first | omega | (exact R.r _ _) | (simp only [jM.len_sI, jM.len_sL, jM.len_sR, jM.len_fI, jM.len_fL, jM.len_fR]; omega) | (simp [jM.len_nw, jM.len_sI, jM.len_sL, jM.len_sR, jM.len_fI, jM.len_fL, jM.len_fR, *]; omega)) ?_
        exact ⟨by unfold sureG; rw [hall]; rfl, rfl⟩
      · omega
    | succ k ih =>
      intro m hm hall lv hlv
      have bm := hB m (by omega)
      have am := a11 m (by omega)
      have q1 : sv h sp (2 * (m : Int) + 1).toNat = P (2 * (m : Int) + 1).toNat := hP.2.2.2 _ (by omega)
      have q2 : sv h sp (2 * (m : Int)).toNat = P (2 * (m : Int)).toNat := hP.2.2.2 _ (by omega)
      have w1 := hPb (2 * (m : Int) + 1).toNat (by omega)
      have w2 := hPb (2 * (m : Int)).toNat (by omega)
      have fl : sureM B A P m = false → sureG B A P = false := fun z => by
        have z1 : allB (sureM B A P) 0 (m + 1) = false := by rw [allB, Int.zero_add, z, Bool.and_false]
        have z2 := allB_st z1 k
        rw [show m + 1 + k = 5 by omega] at z2
        exact z2
      have out : sureM B A P m = false → ∀ lv, J γ mX3_isSure 1 0 0 0 0 h 35 lv [] (fun r h' => r = some (.int (jI (b2i (sureG B A P)))) ∧ h' = h) X0 := by
        intro z lv
        refine J.iconst (pc' := 36) rfl rfl ?_
        refine J.zret rfl rfl (by rfl) (by first | omega | (exact R.r _ _) | (simp only [jM.len_sI, jM.len_sL, jM.len_sR, jM.len_fI, jM.len_fL, jM.len_fR]; omega) | (simp [jM.len_nw, jM.len_sI, jM.len_sL, jM.len_sR, jM.len_fI, jM.len_fL, jM.len_fR, *]; omega)) (by first | omega | (exact R.r _ _) | (simp only [jM.len_sI, jM.len_sL, jM.len_sR, jM.len_fI, jM.len_fL, jM.len_fR]; omega) | (simp [jM.len_nw, jM.len_sI, jM.len_sL, jM.len_sR, jM.len_fI, jM.len_fL, jM.len_fR, *]; omega)) ?_
        exact ⟨by rw [fl z]; rfl, rfl⟩
      refine J.lc hlv ?_
      refine J.iload_n (pc' := 3) rfl rfl rfl ?_
      refine J.iconst (pc' := 4) rfl rfl ?_
      refine J.icmp_ge (tgt := 43) (pc' := 7) rfl rfl rfl (by first | omega | (exact R.r _ _) | (simp only [jM.len_sI, jM.len_sL, jM.len_sR, jM.len_fI, jM.len_fL, jM.len_fR]; omega) | (simp [jM.len_nw, jM.len_sI, jM.len_sL, jM.len_sR, jM.len_fI, jM.len_fL, jM.len_fR, *]; omega)) (by first | omega | (exact R.r _ _) | (simp only [jM.len_sI, jM.len_sL, jM.len_sR, jM.len_fI, jM.len_fL, jM.len_fR]; omega) | (simp [jM.len_nw, jM.len_sI, jM.len_sL, jM.len_sR, jM.len_fI, jM.len_fL, jM.len_fR, *]; omega)) (fun c1 => ?_) (fun c1 => ?_)
      · omega
      · first | refine J.aload_n (pc' := 8) rfl rfl rfl ?_ | refine J.aload_nN (pc' := 8) rfl rfl rfl ?_
        refine J.iload_n (pc' := 9) rfl rfl rfl ?_
        refine J.callV (pc' := 12) (t := 14) rfl MX10_high ml_X3_31 iv_X10_high (by decide) ⟨_, rfl, rfl⟩ (by first | assumption | (simp only [jM.tag_sI, jM.tag_sL, jM.tag_sR, jM.tag_fI, jM.tag_fL, jM.tag_fR]; assumption) | (simp [jM.tag_nw, jM.tag_sI, jM.tag_sL, jM.tag_sR, jM.tag_fI, jM.tag_fL, jM.tag_fR, *]; done)) (cs_high hsp (by omega) (by omega)) rfl rfl (Nat.le_of_ble_eq_true rfl) (by first | omega | (exact R.r _ _) | (simp only [jM.len_sI, jM.len_sL, jM.len_sR, jM.len_fI, jM.len_fL, jM.len_fR]; omega) | (simp [jM.len_nw, jM.len_sI, jM.len_sL, jM.len_sR, jM.len_fI, jM.len_fL, jM.len_fR, *]; omega)) (by first | omega | (exact R.r _ _) | (simp only [jM.len_sI, jM.len_sL, jM.len_sR, jM.len_fI, jM.len_fL, jM.len_fR]; omega) | (simp [jM.len_nw, jM.len_sI, jM.len_sL, jM.len_sR, jM.len_fI, jM.len_fL, jM.len_fR, *]; omega)) (by first | omega | (exact R.r _ _) | (simp only [jM.len_sI, jM.len_sL, jM.len_sR, jM.len_fI, jM.len_fL, jM.len_fR]; omega) | (simp [jM.len_nw, jM.len_sI, jM.len_sL, jM.len_sR, jM.len_fI, jM.len_fL, jM.len_fR, *]; omega)) rfl rfl ?_ ?_
        · exact fun _ _ h => h
        rintro _ h ⟨rfl, rfl⟩
        rw [q1]
        first | refine J.aload_n (pc' := 13) rfl rfl rfl ?_ | refine J.aload_nN (pc' := 13) rfl rfl rfl ?_
        first | refine J.getR (pc' := 16) rfl fl_X3_9 rfl (by first | assumption | (simp only [jM.tag_sI, jM.tag_sL, jM.tag_sR, jM.tag_fI, jM.tag_fL, jM.tag_fR]; assumption) | (simp [jM.tag_nw, jM.tag_sI, jM.tag_sL, jM.tag_sR, jM.tag_fI, jM.tag_fL, jM.tag_fR, *]; done)) (by first | assumption | (simp only [jM.R_sI, jM.R_sL, jM.R_fI, jM.R_fL]; assumption) | (simp [jM.R_nw, jM.R_sR, jM.R_fR, jM.R_sI, jM.R_sL, jM.R_fI, jM.R_fL, *]; done)) rfl ?_ | refine J.getRN (pc' := 16) rfl fl_X3_9 rfl (by first | assumption | (simp only [jM.tag_sI, jM.tag_sL, jM.tag_sR, jM.tag_fI, jM.tag_fL, jM.tag_fR]; assumption) | (simp [jM.tag_nw, jM.tag_sI, jM.tag_sL, jM.tag_sR, jM.tag_fI, jM.tag_fL, jM.tag_fR, *]; done)) (by first | assumption | (simp only [jM.R_sI, jM.R_sL, jM.R_fI, jM.R_fL]; assumption) | (simp [jM.R_nw, jM.R_sR, jM.R_fR, jM.R_sI, jM.R_sL, jM.R_fI, jM.R_fL, *]; done)) rfl ?_
        refine J.iload_n (pc' := 17) rfl rfl rfl ?_
        refine J.iald (pc' := 18) rfl (by first | assumption | (simp only [jM.tag_sI, jM.tag_sL, jM.tag_sR, jM.tag_fI, jM.tag_fL, jM.tag_fR]; assumption) | (simp [jM.tag_nw, jM.tag_sI, jM.tag_sL, jM.tag_sR, jM.tag_fI, jM.tag_fL, jM.tag_fR, *]; done)) (by decide) rfl (by first | omega | (exact R.r _ _) | (simp only [jM.len_sI, jM.len_sL, jM.len_sR, jM.len_fI, jM.len_fL, jM.len_fR]; omega) | (simp [jM.len_nw, jM.len_sI, jM.len_sL, jM.len_sR, jM.len_fI, jM.len_fL, jM.len_fR, *]; omega)) (by first | omega | (exact R.r _ _) | (simp only [jM.len_sI, jM.len_sL, jM.len_sR, jM.len_fI, jM.len_fL, jM.len_fR]; omega) | (simp [jM.len_nw, jM.len_sI, jM.len_sL, jM.len_sR, jM.len_fI, jM.len_fL, jM.len_fR, *]; omega)) (by first | omega | (exact R.r _ _) | (simp only [jM.len_sI, jM.len_sL, jM.len_sR, jM.len_fI, jM.len_fL, jM.len_fR]; omega) | (simp [jM.len_nw, jM.len_sI, jM.len_sL, jM.len_sR, jM.len_fI, jM.len_fL, jM.len_fR, *]; omega)) rfl ?_
        rw [Int.toNat_natCast, am.1]
        refine J.icmp_ge (tgt := 35) (pc' := 21) rfl rfl rfl (by first | omega | (exact R.r _ _) | (simp only [jM.len_sI, jM.len_sL, jM.len_sR, jM.len_fI, jM.len_fL, jM.len_fR]; omega) | (simp [jM.len_nw, jM.len_sI, jM.len_sL, jM.len_sR, jM.len_fI, jM.len_fL, jM.len_fR, *]; omega)) (by first | omega | (exact R.r _ _) | (simp only [jM.len_sI, jM.len_sL, jM.len_sR, jM.len_fI, jM.len_fL, jM.len_fR]; omega) | (simp [jM.len_nw, jM.len_sI, jM.len_sL, jM.len_sR, jM.len_fI, jM.len_fL, jM.len_fR, *]; omega)) (fun c2 => ?_) (fun c2 => ?_)
        · exact out (by unfold sureM; rw [decide_eq_false (by omega), Bool.false_and]) _
        · first | refine J.aload_n (pc' := 22) rfl rfl rfl ?_ | refine J.aload_nN (pc' := 22) rfl rfl rfl ?_
          refine J.iload_n (pc' := 23) rfl rfl rfl ?_
          refine J.callV (pc' := 26) (t := 14) rfl MX10_low ml_X3_37 iv_X10_low (by decide) ⟨_, rfl, rfl⟩ (by first | assumption | (simp only [jM.tag_sI, jM.tag_sL, jM.tag_sR, jM.tag_fI, jM.tag_fL, jM.tag_fR]; assumption) | (simp [jM.tag_nw, jM.tag_sI, jM.tag_sL, jM.tag_sR, jM.tag_fI, jM.tag_fL, jM.tag_fR, *]; done)) (cs_low hsp (by omega) (by omega)) rfl rfl (Nat.le_of_ble_eq_true rfl) (by first | omega | (exact R.r _ _) | (simp only [jM.len_sI, jM.len_sL, jM.len_sR, jM.len_fI, jM.len_fL, jM.len_fR]; omega) | (simp [jM.len_nw, jM.len_sI, jM.len_sL, jM.len_sR, jM.len_fI, jM.len_fL, jM.len_fR, *]; omega)) (by first | omega | (exact R.r _ _) | (simp only [jM.len_sI, jM.len_sL, jM.len_sR, jM.len_fI, jM.len_fL, jM.len_fR]; omega) | (simp [jM.len_nw, jM.len_sI, jM.len_sL, jM.len_sR, jM.len_fI, jM.len_fL, jM.len_fR, *]; omega)) (by first | omega | (exact R.r _ _) | (simp only [jM.len_sI, jM.len_sL, jM.len_sR, jM.len_fI, jM.len_fL, jM.len_fR]; omega) | (simp [jM.len_nw, jM.len_sI, jM.len_sL, jM.len_sR, jM.len_fI, jM.len_fL, jM.len_fR, *]; omega)) rfl rfl ?_ ?_
          · exact fun _ _ h => h
          rintro _ h ⟨rfl, rfl⟩
          rw [q2]
          first | refine J.aload_n (pc' := 27) rfl rfl rfl ?_ | refine J.aload_nN (pc' := 27) rfl rfl rfl ?_
          first | refine J.getR (pc' := 30) rfl fl_X3_15 rfl (by first | assumption | (simp only [jM.tag_sI, jM.tag_sL, jM.tag_sR, jM.tag_fI, jM.tag_fL, jM.tag_fR]; assumption) | (simp [jM.tag_nw, jM.tag_sI, jM.tag_sL, jM.tag_sR, jM.tag_fI, jM.tag_fL, jM.tag_fR, *]; done)) (by first | assumption | (simp only [jM.R_sI, jM.R_sL, jM.R_fI, jM.R_fL]; assumption) | (simp [jM.R_nw, jM.R_sR, jM.R_fR, jM.R_sI, jM.R_sL, jM.R_fI, jM.R_fL, *]; done)) rfl ?_ | refine J.getRN (pc' := 30) rfl fl_X3_15 rfl (by first | assumption | (simp only [jM.tag_sI, jM.tag_sL, jM.tag_sR, jM.tag_fI, jM.tag_fL, jM.tag_fR]; assumption) | (simp [jM.tag_nw, jM.tag_sI, jM.tag_sL, jM.tag_sR, jM.tag_fI, jM.tag_fL, jM.tag_fR, *]; done)) (by first | assumption | (simp only [jM.R_sI, jM.R_sL, jM.R_fI, jM.R_fL]; assumption) | (simp [jM.R_nw, jM.R_sR, jM.R_fR, jM.R_sI, jM.R_sL, jM.R_fI, jM.R_fL, *]; done)) rfl ?_
          refine J.iload_n (pc' := 31) rfl rfl rfl ?_
          refine J.iald (pc' := 32) rfl (by first | assumption | (simp only [jM.tag_sI, jM.tag_sL, jM.tag_sR, jM.tag_fI, jM.tag_fL, jM.tag_fR]; assumption) | (simp [jM.tag_nw, jM.tag_sI, jM.tag_sL, jM.tag_sR, jM.tag_fI, jM.tag_fL, jM.tag_fR, *]; done)) (by decide) rfl (by first | omega | (exact R.r _ _) | (simp only [jM.len_sI, jM.len_sL, jM.len_sR, jM.len_fI, jM.len_fL, jM.len_fR]; omega) | (simp [jM.len_nw, jM.len_sI, jM.len_sL, jM.len_sR, jM.len_fI, jM.len_fL, jM.len_fR, *]; omega)) (by first | omega | (exact R.r _ _) | (simp only [jM.len_sI, jM.len_sL, jM.len_sR, jM.len_fI, jM.len_fL, jM.len_fR]; omega) | (simp [jM.len_nw, jM.len_sI, jM.len_sL, jM.len_sR, jM.len_fI, jM.len_fL, jM.len_fR, *]; omega)) (by first | omega | (exact R.r _ _) | (simp only [jM.len_sI, jM.len_sL, jM.len_sR, jM.len_fI, jM.len_fL, jM.len_fR]; omega) | (simp [jM.len_nw, jM.len_sI, jM.len_sL, jM.len_sR, jM.len_fI, jM.len_fL, jM.len_fR, *]; omega)) rfl ?_
          rw [Int.toNat_natCast, am.2]
          refine J.icmp_gt (tgt := 37) (pc' := 35) rfl rfl rfl (by first | omega | (exact R.r _ _) | (simp only [jM.len_sI, jM.len_sL, jM.len_sR, jM.len_fI, jM.len_fL, jM.len_fR]; omega) | (simp [jM.len_nw, jM.len_sI, jM.len_sL, jM.len_sR, jM.len_fI, jM.len_fL, jM.len_fR, *]; omega)) (by first | omega | (exact R.r _ _) | (simp only [jM.len_sI, jM.len_sL, jM.len_sR, jM.len_fI, jM.len_fL, jM.len_fR]; omega) | (simp [jM.len_nw, jM.len_sI, jM.len_sL, jM.len_sR, jM.len_fI, jM.len_fL, jM.len_fR, *]; omega)) (fun c3 => ?_) (fun c3 => ?_)
          · refine J.iinc (pc' := 40) rfl rfl rfl (by decide) ?_
            refine J.goto (tgt := 2) rfl rfl ?_
            refine ih (m + 1) (by omega) ?_ _ ⟨rfl, rfl, rfl, trivial⟩
            rw [allB, hall, Bool.true_and, Int.zero_add]
            unfold sureM
            rw [decide_eq_true (by omega), decide_eq_true (by omega)]
            rfl
          · exact out (by unfold sureM; rw [decide_eq_false (p := A m < P (2 * (m : Int)).toNat) (by omega), Bool.and_false]) _
  exact key 5 0 (by omega) rfl _ ⟨rfl, rfl, rfl, trivial⟩
end GR

