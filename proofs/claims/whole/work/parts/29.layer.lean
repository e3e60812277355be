/-- a LAYER or PORTION -/
def isY (h : jM) (y : Nat) (n : Int) (ld : Option Nat) (c : Int) (P : Nat → Int) : Prop := h.tag y = 10 ∧ ow h y = some y ∧ h.I 10 y 0 = n ∧ h.R 10 y 1 = ld ∧ h.I 10 y 2 = c ∧ ∃ s, h.R 10 y 3 = some s ∧ isO h s y P
theorem isY.kept {h h' : jM} {W : Nat → Prop} {y : Nat} {n c : Int} {ld : Option Nat} {P : Nat → Int} (F : Fr h h' W) (hY : isY h y n ld c P) (hw : ∀ b, ow h b = some y → ¬ W b) : isY h' y n ld c P := by
  obtain ⟨a1, a0, a2, a3, a4, s, a5, a6⟩ := hY
  have hy := hw y a0
  exact ⟨F.tag a1 (by omega), by rw [F.ow (by omega)]; exact a0, by rw [F.I a1 (by omega) hy]; exact a2, by rw [F.R a1 (by omega) hy]; exact a3, by rw [F.I a1 (by omega) hy]; exact a4, s, by rw [F.R a1 (by omega) hy]; exact a5, a6.kept F hw⟩
section LY
variable {γ : jG} {h : jM} {y l : Nat} {n c g : Int} {P : Nat → Int}
theorem cy_number (hy : h.tag y = 10) (hl : h.R 10 y 1 = some l) (tl : h.tag l = 11) : CT γ mX6_loadNumber 0 0 0 [.ref y] h (fun r h' => r = some (.int (jI (h.I 11 l 0))) ∧ h' = h) X0 := by
  refine CT.of MX6_loadNumber (Nat.le_of_ble_eq_true rfl) ?_
  show J γ mX6_loadNumber 0 0 0 0 0 h 0 [(0, .ref y)] [] _ _
  first | refine J.aload_n (pc' := 1) rfl rfl rfl ?_ | refine J.aload_nN (pc' := 1) rfl rfl rfl ?_
  first | refine J.getR (pc' := 4) rfl fl_X6_22 rfl (by first | assumption | (simp only [jM.tag_sI, jM.tag_sL, jM.tag_sR, jM.tag_fI, jM.tag_fL, jM.tag_fR]; assumption) | (simp [jM.tag_nw, jM.tag_sI, jM.tag_sL, jM.tag_sR, jM.tag_fI, jM.tag_fL, jM.tag_fR, *]; done)) (by first | assumption | (simp only [jM.R_sI, jM.R_sL, jM.R_fI, jM.R_fL]; assumption) | (simp [jM.R_nw, jM.R_sR, jM.R_fR, jM.R_sI, jM.R_sL, jM.R_fI, jM.R_fL, *]; done)) rfl ?_ | refine J.getRN (pc' := 4) rfl fl_X6_22 rfl (by first | assumption | (simp only [jM.tag_sI, jM.tag_sL, jM.tag_sR, jM.tag_fI, jM.tag_fL, jM.tag_fR]; assumption) | (simp [jM.tag_nw, jM.tag_sI, jM.tag_sL, jM.tag_sR, jM.tag_fI, jM.tag_fL, jM.tag_fR, *]; done)) (by first | assumption | (simp only [jM.R_sI, jM.R_sL, jM.R_fI, jM.R_fL]; assumption) | (simp [jM.R_nw, jM.R_sR, jM.R_fR, jM.R_sI, jM.R_sL, jM.R_fI, jM.R_fL, *]; done)) rfl ?_
  first | refine J.ifnonnull (tgt := 11) rfl rfl ?_ | refine J.ifnonnullN (pc' := 7) rfl rfl ?_
  first | refine J.aload_n (pc' := 12) rfl rfl rfl ?_ | refine J.aload_nN (pc' := 12) rfl rfl rfl ?_
  first | refine J.getR (pc' := 15) rfl fl_X6_22 rfl (by first | assumption | (simp only [jM.tag_sI, jM.tag_sL, jM.tag_sR, jM.tag_fI, jM.tag_fL, jM.tag_fR]; assumption) | (simp [jM.tag_nw, jM.tag_sI, jM.tag_sL, jM.tag_sR, jM.tag_fI, jM.tag_fL, jM.tag_fR, *]; done)) (by first | assumption | (simp only [jM.R_sI, jM.R_sL, jM.R_fI, jM.R_fL]; assumption) | (simp [jM.R_nw, jM.R_sR, jM.R_fR, jM.R_sI, jM.R_sL, jM.R_fI, jM.R_fL, *]; done)) rfl ?_ | refine J.getRN (pc' := 15) rfl fl_X6_22 rfl (by first | assumption | (simp only [jM.tag_sI, jM.tag_sL, jM.tag_sR, jM.tag_fI, jM.tag_fL, jM.tag_fR]; assumption) | (simp [jM.tag_nw, jM.tag_sI, jM.tag_sL, jM.tag_sR, jM.tag_fI, jM.tag_fL, jM.tag_fR, *]; done)) (by first | assumption | (simp only [jM.R_sI, jM.R_sL, jM.R_fI, jM.R_fL]; assumption) | (simp [jM.R_nw, jM.R_sR, jM.R_fR, jM.R_sI, jM.R_sL, jM.R_fI, jM.R_fL, *]; done)) rfl ?_
  refine J.getI (pc' := 18) rfl fl_X6_33 rfl (by first | assumption | (simp only [jM.tag_sI, jM.tag_sL, jM.tag_sR, jM.tag_fI, jM.tag_fL, jM.tag_fR]; assumption) | (simp [jM.tag_nw, jM.tag_sI, jM.tag_sL, jM.tag_sR, jM.tag_fI, jM.tag_fL, jM.tag_fR, *]; done)) rfl ?_
  refine J.iret rfl rfl (by first | omega | (simp only [jM.len_sI, jM.len_sL, jM.len_sR, jM.len_fI, jM.len_fL, jM.len_fR]; omega) | (simp [jM.len_nw, jM.len_sI, jM.len_sL, jM.len_sR, jM.len_fI, jM.len_fL, jM.len_fR, *]; omega)) (by first | omega | (simp only [jM.len_sI, jM.len_sL, jM.len_sR, jM.len_fI, jM.len_fL, jM.len_fR]; omega) | (simp [jM.len_nw, jM.len_sI, jM.len_sL, jM.len_sR, jM.len_fI, jM.len_fL, jM.len_fR, *]; omega)) ?_
  exact ⟨rfl, rfl⟩
theorem cy_numberN (hy : h.tag y = 10) (hl : h.R 10 y 1 = none) : CT γ mX6_loadNumber 0 0 0 [.ref y] h (fun r h' => r = some (.int (jI (-1))) ∧ h' = h) X0 := by
  refine CT.of MX6_loadNumber (Nat.le_of_ble_eq_true rfl) ?_
  show J γ mX6_loadNumber 0 0 0 0 0 h 0 [(0, .ref y)] [] _ _
  first | refine J.aload_n (pc' := 1) rfl rfl rfl ?_ | refine J.aload_nN (pc' := 1) rfl rfl rfl ?_
  first | refine J.getR (pc' := 4) rfl fl_X6_22 rfl (by first | assumption | (simp only [jM.tag_sI, jM.tag_sL, jM.tag_sR, jM.tag_fI, jM.tag_fL, jM.tag_fR]; assumption) | (simp [jM.tag_nw, jM.tag_sI, jM.tag_sL, jM.tag_sR, jM.tag_fI, jM.tag_fL, jM.tag_fR, *]; done)) (by first | assumption | (simp only [jM.R_sI, jM.R_sL, jM.R_fI, jM.R_fL]; assumption) | (simp [jM.R_nw, jM.R_sR, jM.R_fR, jM.R_sI, jM.R_sL, jM.R_fI, jM.R_fL, *]; done)) rfl ?_ | refine J.getRN (pc' := 4) rfl fl_X6_22 rfl (by first | assumption | (simp only [jM.tag_sI, jM.tag_sL, jM.tag_sR, jM.tag_fI, jM.tag_fL, jM.tag_fR]; assumption) | (simp [jM.tag_nw, jM.tag_sI, jM.tag_sL, jM.tag_sR, jM.tag_fI, jM.tag_fL, jM.tag_fR, *]; done)) (by first | assumption | (simp only [jM.R_sI, jM.R_sL, jM.R_fI, jM.R_fL]; assumption) | (simp [jM.R_nw, jM.R_sR, jM.R_fR, jM.R_sI, jM.R_sL, jM.R_fI, jM.R_fL, *]; done)) rfl ?_
  first | refine J.ifnonnull (tgt := 11) rfl rfl ?_ | refine J.ifnonnullN (pc' := 7) rfl rfl ?_
  refine J.iconst (pc' := 8) rfl rfl ?_
  refine J.goto (tgt := 18) rfl rfl ?_
  refine J.iret rfl rfl (by first | omega | (simp only [jM.len_sI, jM.len_sL, jM.len_sR, jM.len_fI, jM.len_fL, jM.len_fR]; omega) | (simp [jM.len_nw, jM.len_sI, jM.len_sL, jM.len_sR, jM.len_fI, jM.len_fL, jM.len_fR, *]; omega)) (by first | omega | (simp only [jM.len_sI, jM.len_sL, jM.len_sR, jM.len_fI, jM.len_fL, jM.len_fR]; omega) | (simp [jM.len_nw, jM.len_sI, jM.len_sL, jM.len_sR, jM.len_fI, jM.len_fL, jM.len_fR, *]; omega)) ?_
  exact ⟨rfl, rfl⟩
theorem cy_split {ld : Option Nat} (hY : isY h y n ld c P) : CT γ mX6_splitOff 3 3 15 [.ref y, .int (jI g)] h (fun r h' => ∃ z, r = some (.ref z) ∧ h.tag z = 0 ∧ isY h' z g ld c P ∧ isY h' y (n - g) ld c P ∧ Fr h h' (fun b => b = y) ∧ Nt h h' [10, 14, 20]) X0 := by
  obtain ⟨hy, h0, h1, h2, h3, s, h4, hO⟩ := hY
  refine CT.of MX6_splitOff (Nat.le_of_ble_eq_true rfl) ?_
  show J γ mX6_splitOff 3 3 15 0 0 h 0 [(0, .ref y), (1, .int (jI g))] [] _ _
  first | refine J.aload_n (pc' := 1) rfl rfl rfl ?_ | refine J.aload_nN (pc' := 1) rfl rfl rfl ?_
  refine J.dup (pc' := 2) rfl rfl rfl ?_
  refine J.getI (pc' := 5) rfl fl_X6_18 rfl (by first | assumption | (simp only [jM.tag_sI, jM.tag_sL, jM.tag_sR, jM.tag_fI, jM.tag_fL, jM.tag_fR]; assumption) | (simp [jM.tag_nw, jM.tag_sI, jM.tag_sL, jM.tag_sR, jM.tag_fI, jM.tag_fL, jM.tag_fR, *]; done)) rfl ?_
  refine J.iload_n (pc' := 6) rfl rfl rfl ?_
  refine J.isub (pc' := 7) rfl rfl ?_
  refine J.putI (pc' := 10) rfl fl_X6_18 rfl (Or.inl rfl) (by first | assumption | (simp only [jM.tag_sI, jM.tag_sL, jM.tag_sR, jM.tag_fI, jM.tag_fL, jM.tag_fR]; assumption) | (simp [jM.tag_nw, jM.tag_sI, jM.tag_sL, jM.tag_sR, jM.tag_fI, jM.tag_fL, jM.tag_fR, *]; done)) (Or.inl rfl) rfl ?_
  rw [h1]
  have F0 : Fr h (h.sI 10 y 0 (n - g)) (fun b => b = y) := Fr.sI
  have N0 : Nt h (h.sI 10 y 0 (n - g)) [10, 14, 20] := Nt.rf.st rfl
  have a1 : (h.sI 10 y 0 (n - g)).I 10 y 0 = n - g := by rw [jM.I_sI, if_pos ⟨rfl, rfl, rfl⟩]
  have a2 : (h.sI 10 y 0 (n - g)).R 10 y 1 = ld := h2
  have a3 : (h.sI 10 y 0 (n - g)).I 10 y 2 = c := by rw [jM.I_sI, if_neg (by omega)]; exact h3
  have a4 : (h.sI 10 y 0 (n - g)).R 10 y 3 = some s := h4
  have a5 : isO (h.sI 10 y 0 (n - g)) s y P := hO.kept1 F0 (by omega)
  have a6 : (h.sI 10 y 0 (n - g)).tag y = 10 := hy
  have a0 : ow (h.sI 10 y 0 (n - g)) y = some y := h0
  generalize h.sI 10 y 0 (n - g) = k1 at F0 N0 a0 a1 a2 a3 a4 a5 a6 ⊢
  refine J.new (pc' := 13) (t := 10) (N := 4) (n := 4) rfl ⟨by decide, by decide, _, rfl, rfl, List.mem_of_getElem? (i := 1223) (by decide +kernel), List.mem_of_getElem? (i := 1086) (by decide +kernel), List.mem_of_getElem? (i := 96) (by decide +kernel)⟩ (by first | omega | (simp only [jM.len_sI, jM.len_sL, jM.len_sR, jM.len_fI, jM.len_fL, jM.len_fR]; omega) | (simp [jM.len_nw, jM.len_sI, jM.len_sL, jM.len_sR, jM.len_fI, jM.len_fL, jM.len_fR, *]; omega)) (by first | omega | (simp only [jM.len_sI, jM.len_sL, jM.len_sR, jM.len_fI, jM.len_fL, jM.len_fR]; omega) | (simp [jM.len_nw, jM.len_sI, jM.len_sL, jM.len_sR, jM.len_fI, jM.len_fL, jM.len_fR, *]; omega)) rfl (fun z zf zb => ?_)
  refine J.own z 0 (some z) ?_
  have hz : ¬ y = z := fun e1 => by rw [e1] at a6; omega
  have F1 : Fr k1 ((k1.nw z 10 4).sR 0 z 0 (some z)) (fun _ => False) := Fr.stO (Fr.nw (by decide) zf) zf
  have N1 : Nt k1 ((k1.nw z 10 4).sR 0 z 0 (some z)) [10] := (Nt.stN (n := 4) (q := z) (t := 10) Nt.rf (by simp)).st rfl
  have tz : ((k1.nw z 10 4).sR 0 z 0 (some z)).tag z = 10 := by rw [jM.tag_sR, jM.tag_nw, if_pos rfl]
  have oz : ow ((k1.nw z 10 4).sR 0 z 0 (some z)) z = some z := by show ((k1.nw z 10 4).sR 0 z 0 (some z)).R 0 z 0 = _; rw [jM.R_sR, if_pos ⟨rfl, rfl, rfl⟩]
  have b1 := F1.I a6 (by omega) (fun q => q) 0
  have b2 := F1.R a6 (by omega) (fun q => q) 1
  have b3 := F1.I a6 (by omega) (fun q => q) 2
  have b4 := F1.R a6 (by omega) (fun q => q) 3
  have b5 := a5.kept F1 (fun _ _ q => q)
  have b6 := F1.tag a6 (by omega)
  have F01 : Fr h ((k1.nw z 10 4).sR 0 z 0 (some z)) (fun b => b = y) := F0.trans F1 (fun b _ q => q.elim id (fun q => q.elim))
  have N01 : Nt h ((k1.nw z 10 4).sR 0 z 0 (some z)) [10, 14, 20] := N0.trans N1 F1 (by simp)
  have zf0 : h.tag z = 0 := F0.free zf
  rw [a1] at b1
  rw [a2] at b2
  rw [a3] at b3
  rw [a4] at b4
  have b0 : ow ((k1.nw z 10 4).sR 0 z 0 (some z)) y = some y := by rw [F1.ow (by omega)]; exact a0
  generalize (k1.nw z 10 4).sR 0 z 0 (some z) = k2 at tz oz b0 b1 b2 b3 b4 b5 b6 F01 N01 ⊢
  have fin : ∀ v : Value, v = va_rf ld → J γ mX6_splitOff 3 3 15 1 4 k2 19 [(0, .ref y), (1, .int (jI g))] [v, .int (jI g), .ref z, .ref z] (fun r h' => ∃ z, r = some (.ref z) ∧ h.tag z = 0 ∧ isY h' z g ld c P ∧ isY h' y (n - g) ld c P ∧ Fr h h' (fun b => b = y) ∧ Nt h h' [10, 14, 20]) X0 := by
    intro v hv
    first | refine J.aload_n (pc' := 20) rfl rfl rfl ?_ | refine J.aload_nN (pc' := 20) rfl rfl rfl ?_
    refine J.getI (pc' := 23) rfl fl_X6_26 rfl (by first | assumption | (simp only [jM.tag_sI, jM.tag_sL, jM.tag_sR, jM.tag_fI, jM.tag_fL, jM.tag_fR]; assumption) | (simp [jM.tag_nw, jM.tag_sI, jM.tag_sL, jM.tag_sR, jM.tag_fI, jM.tag_fL, jM.tag_fR, *]; done)) rfl ?_
    first | refine J.aload_n (pc' := 24) rfl rfl rfl ?_ | refine J.aload_nN (pc' := 24) rfl rfl rfl ?_
    first | refine J.getR (pc' := 27) rfl fl_X6_12 rfl (by first | assumption | (simp only [jM.tag_sI, jM.tag_sL, jM.tag_sR, jM.tag_fI, jM.tag_fL, jM.tag_fR]; assumption) | (simp [jM.tag_nw, jM.tag_sI, jM.tag_sL, jM.tag_sR, jM.tag_fI, jM.tag_fL, jM.tag_fR, *]; done)) (by first | assumption | (simp only [jM.R_sI, jM.R_sL, jM.R_fI, jM.R_fL]; assumption) | (simp [jM.R_nw, jM.R_sR, jM.R_fR, jM.R_sI, jM.R_sL, jM.R_fI, jM.R_fL, *]; done)) rfl ?_ | refine J.getRN (pc' := 27) rfl fl_X6_12 rfl (by first | assumption | (simp only [jM.tag_sI, jM.tag_sL, jM.tag_sR, jM.tag_fI, jM.tag_fL, jM.tag_fR]; assumption) | (simp [jM.tag_nw, jM.tag_sI, jM.tag_sL, jM.tag_sR, jM.tag_fI, jM.tag_fL, jM.tag_fR, *]; done)) (by first | assumption | (simp only [jM.R_sI, jM.R_sL, jM.R_fI, jM.R_fL]; assumption) | (simp [jM.R_nw, jM.R_sR, jM.R_fR, jM.R_sI, jM.R_sL, jM.R_fI, jM.R_fL, *]; done)) rfl ?_
    rw [b3, hv]
    refine J.callI (pc' := 30) rfl MX6_init ml_X6_38 iv_X6_init ⟨rfl, rfl⟩ (cl_init (n := g) (c := c) (ld := ld) tz b5) rfl rfl (Nat.le_of_ble_eq_true rfl) (by first | omega | (simp only [jM.len_sI, jM.len_sL, jM.len_sR, jM.len_fI, jM.len_fL, jM.len_fR]; omega) | (simp [jM.len_nw, jM.len_sI, jM.len_sL, jM.len_sR, jM.len_fI, jM.len_fL, jM.len_fR, *]; omega)) (by first | omega | (simp only [jM.len_sI, jM.len_sL, jM.len_sR, jM.len_fI, jM.len_fL, jM.len_fR]; omega) | (simp [jM.len_nw, jM.len_sI, jM.len_sL, jM.len_sR, jM.len_fI, jM.len_fL, jM.len_fR, *]; omega)) (by first | omega | (simp only [jM.len_sI, jM.len_sL, jM.len_sR, jM.len_fI, jM.len_fL, jM.len_fR]; omega) | (simp [jM.len_nw, jM.len_sI, jM.len_sL, jM.len_sR, jM.len_fI, jM.len_fL, jM.len_fR, *]; omega)) rfl ?_
    rintro _ k3 ⟨rfl, s2, f1, f2, f3, f4, f5, f6, f7, f8⟩
    have c6 := f7.tag b6 (by omega)
    have c1 := f7.I b6 (by omega) (fun q => hz q) 0
    have c2 := f7.R b6 (by omega) (fun q => hz q) 1
    have c3 := f7.I b6 (by omega) (fun q => hz q) 2
    have c4 := f7.R b6 (by omega) (fun q => hz q) 3
    have c5 := b5.kept1 f7 (by omega)
    first | refine J.aret rfl rfl rfl (by first | omega | (simp only [jM.len_sI, jM.len_sL, jM.len_sR, jM.len_fI, jM.len_fL, jM.len_fR]; omega) | (simp [jM.len_nw, jM.len_sI, jM.len_sL, jM.len_sR, jM.len_fI, jM.len_fL, jM.len_fR, *]; omega)) (by first | omega | (simp only [jM.len_sI, jM.len_sL, jM.len_sR, jM.len_fI, jM.len_fL, jM.len_fR]; omega) | (simp [jM.len_nw, jM.len_sI, jM.len_sL, jM.len_sR, jM.len_fI, jM.len_fL, jM.len_fR, *]; omega)) ?_ | refine J.aretN rfl rfl rfl (by first | omega | (simp only [jM.len_sI, jM.len_sL, jM.len_sR, jM.len_fI, jM.len_fL, jM.len_fR]; omega) | (simp [jM.len_nw, jM.len_sI, jM.len_sL, jM.len_sR, jM.len_fI, jM.len_fL, jM.len_fR, *]; omega)) (by first | omega | (simp only [jM.len_sI, jM.len_sL, jM.len_sR, jM.len_fI, jM.len_fL, jM.len_fR]; omega) | (simp [jM.len_nw, jM.len_sI, jM.len_sL, jM.len_sR, jM.len_fI, jM.len_fL, jM.len_fR, *]; omega)) ?_
    refine ⟨z, rfl, zf0, ⟨f7.tag tz (by omega), by rw [f7.ow (by omega)]; exact oz, f5, f4, f6, s2, f3, f2⟩, ⟨c6, by rw [f7.ow (by omega)]; exact b0, by rw [c1, b1], by rw [c2, b2], by rw [c3, b3], s, by rw [c4, b4], c5⟩, F01.trans f7 (fun b hb q => ?_), N01.trans f8 f7 (by simp)⟩
    rcases q with q | q
    · exact q
    · rw [q] at hb
      exact absurd zf0 hb
  refine J.dup (pc' := 14) rfl rfl rfl ?_
  refine J.iload_n (pc' := 15) rfl rfl rfl ?_
  first | refine J.aload_n (pc' := 16) rfl rfl rfl ?_ | refine J.aload_nN (pc' := 16) rfl rfl rfl ?_
  cases ld with
  | none =>
    first | refine J.getR (pc' := 19) rfl fl_X6_22 rfl (by first | assumption | (simp only [jM.tag_sI, jM.tag_sL, jM.tag_sR, jM.tag_fI, jM.tag_fL, jM.tag_fR]; assumption) | (simp [jM.tag_nw, jM.tag_sI, jM.tag_sL, jM.tag_sR, jM.tag_fI, jM.tag_fL, jM.tag_fR, *]; done)) (by first | assumption | (simp only [jM.R_sI, jM.R_sL, jM.R_fI, jM.R_fL]; assumption) | (simp [jM.R_nw, jM.R_sR, jM.R_fR, jM.R_sI, jM.R_sL, jM.R_fI, jM.R_fL, *]; done)) rfl ?_ | refine J.getRN (pc' := 19) rfl fl_X6_22 rfl (by first | assumption | (simp only [jM.tag_sI, jM.tag_sL, jM.tag_sR, jM.tag_fI, jM.tag_fL, jM.tag_fR]; assumption) | (simp [jM.tag_nw, jM.tag_sI, jM.tag_sL, jM.tag_sR, jM.tag_fI, jM.tag_fL, jM.tag_fR, *]; done)) (by first | assumption | (simp only [jM.R_sI, jM.R_sL, jM.R_fI, jM.R_fL]; assumption) | (simp [jM.R_nw, jM.R_sR, jM.R_fR, jM.R_sI, jM.R_sL, jM.R_fI, jM.R_fL, *]; done)) rfl ?_
    exact fin _ rfl
  | some x =>
    first | refine J.getR (pc' := 19) rfl fl_X6_22 rfl (by first | assumption | (simp only [jM.tag_sI, jM.tag_sL, jM.tag_sR, jM.tag_fI, jM.tag_fL, jM.tag_fR]; assumption) | (simp [jM.tag_nw, jM.tag_sI, jM.tag_sL, jM.tag_sR, jM.tag_fI, jM.tag_fL, jM.tag_fR, *]; done)) (by first | assumption | (simp only [jM.R_sI, jM.R_sL, jM.R_fI, jM.R_fL]; assumption) | (simp [jM.R_nw, jM.R_sR, jM.R_fR, jM.R_sI, jM.R_sL, jM.R_fI, jM.R_fL, *]; done)) rfl ?_ | refine J.getRN (pc' := 19) rfl fl_X6_22 rfl (by first | assumption | (simp only [jM.tag_sI, jM.tag_sL, jM.tag_sR, jM.tag_fI, jM.tag_fL, jM.tag_fR]; assumption) | (simp [jM.tag_nw, jM.tag_sI, jM.tag_sL, jM.tag_sR, jM.tag_fI, jM.tag_fL, jM.tag_fR, *]; done)) (by first | assumption | (simp only [jM.R_sI, jM.R_sL, jM.R_fI, jM.R_fL]; assumption) | (simp [jM.R_nw, jM.R_sR, jM.R_fR, jM.R_sI, jM.R_sL, jM.R_fI, jM.R_fL, *]; done)) rfl ?_
    exact fin _ rfl
end LY

