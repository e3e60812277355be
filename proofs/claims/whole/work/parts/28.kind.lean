section KD
variable {h : jM} {s : Nat}
/-- spans and their owner -/
def isO (h : jM) (s y : Nat) (P : Nat → Int) : Prop := isSp h s ∧ ow h s = some y ∧ ow h (pa h s) = some y ∧ ∀ i, i < 10 → sv h s i = P i
theorem isO.kept2 {h' : jM} {W : Nat → Prop} {y : Nat} {P : Nat → Int} (F : Fr h h' W) (hS : isO h s y P) (h1 : ¬ W s) (h2 : ¬ W (pa h s)) : isO h' s y P := by
  obtain ⟨a, b, c, d⟩ := hS
  obtain ⟨e1, e2⟩ := a.kept F h1 h2
  have e3 := a.paK F h1
  exact ⟨e1, by rw [F.ow (by have := a.1; omega)]; exact b, by rw [e3, F.ow (by have := a.2.2.1; omega)]; exact c, fun i hi => by rw [e2]; exact d i hi⟩
theorem isO.kept {h' : jM} {W : Nat → Prop} {y : Nat} {P : Nat → Int} (F : Fr h h' W) (hS : isO h s y P) (hw : ∀ b, ow h b = some y → ¬ W b) : isO h' s y P := hS.kept2 F (hw _ hS.2.1) (hw _ hS.2.2.1)
theorem isO.kept1 {h' : jM} {z y : Nat} {P : Nat → Int} (F : Fr h h' (fun b => b = z)) (hS : isO h s y P) (h1 : h.tag z ≠ 14 ∧ h.tag z ≠ 20) : isO h' s y P :=
  hS.kept2 F (fun e => h1.1 (by rw [← e]; exact hS.1.1)) (fun e => h1.2 (by rw [← e]; exact hS.1.2.2.1))
theorem isSp.own {y : Nat} (hS : isSp h s) : isO ((h.sR 0 s 0 (some y)).sR 0 (pa h s) 0 (some y)) s y (sv h s) := by
  have hp : pa ((h.sR 0 s 0 (some y)).sR 0 (pa h s) 0 (some y)) s = pa h s := by
    unfold pa
    rw [jM.R_sR, if_neg (by omega), jM.R_sR, if_neg (by omega)]
  have hs : ∀ k, sv ((h.sR 0 s 0 (some y)).sR 0 (pa h s) 0 (some y)) s k = sv h s k := fun k => by
    unfold sv
    rw [hp]
    rfl
  obtain ⟨a1, a2, a3, a4, a5⟩ := hS
  refine ⟨⟨a1, ?_, ?_, ?_, ?_⟩, ?_, ?_, fun i _ => hs i⟩
  · rw [hp, jM.R_sR, if_neg (by omega), jM.R_sR, if_neg (by omega)]; exact a2
  · rw [hp]; exact a3
  · rw [hp]; exact a4
  · rw [hp, jM.R_sR, if_neg (by omega), jM.R_sR, if_neg (by omega)]; exact a5
  · show ((h.sR 0 s 0 (some y)).sR 0 (pa h s) 0 (some y)).R 0 s 0 = _
    rw [jM.R_sR]
    split
    · rfl
    · rw [jM.R_sR, if_pos ⟨rfl, rfl, rfl⟩]
  · show ((h.sR 0 s 0 (some y)).sR 0 (pa h s) 0 (some y)).R 0 (pa ((h.sR 0 s 0 (some y)).sR 0 (pa h s) 0 (some y)) s) 0 = _
    rw [hp, jM.R_sR, if_pos ⟨rfl, rfl, rfl⟩]
theorem J.ownS {γ : jG} {μ : jMth} {f mc ms cells slots : Nat} {pc : Nat} {lv : List (Nat × Value)} {st : List Value} {Q : Option Value → jM → Prop} {X : String → jM → Prop} (y : Nat) (hS : isSp h s) (kk : ∀ h2 : jM, isO h2 s y (sv h s) → h2.tag = h.tag → pa h2 s = pa h s → (∀ (h0 : jM) (W : Nat → Prop), Fr h0 h W → h0.tag s = 0 → h0.tag (pa h s) = 0 → Fr h0 h2 W) → J γ μ f mc ms cells slots h2 pc lv st Q X) : J γ μ f mc ms cells slots h pc lv st Q X := by
  refine J.own s 0 (some y) (J.own (pa h s) 0 (some y) (kk _ hS.own rfl ?_ (fun h0 W F q1 q2 => (F.stO q1).stO q2)))
  unfold pa
  rw [jM.R_sR, if_neg (by omega), jM.R_sR, if_neg (by omega)]
end KD
section KE
variable {γ : jG} {h : jM} {a s o : Nat}
theorem ck_init {n : Int} (ha : h.tag a = 9) : CT γ mX5_init 2 2 11 [.ref a, .int (jI n)] h (fun r h' => r = none ∧ ∃ s, h.tag s = 0 ∧ isO h' s a spD ∧ h'.R 9 a 1 = some s ∧ h'.I 9 a 0 = n ∧ Fr h h' (fun b => b = a) ∧ Nt h h' [14, 20]) X0 := by
  refine CT.of MX5_init (Nat.le_of_ble_eq_true rfl) ?_
  show J γ mX5_init 2 2 11 0 0 h 0 [(0, .ref a), (1, .int (jI n))] [] _ _
  first | refine J.aload_n (pc' := 1) rfl rfl rfl ?_ | refine J.aload_nN (pc' := 1) rfl rfl rfl ?_
  refine J.objI (pc' := 4) rfl (List.mem_of_getElem? (i := 269) (by decide +kernel)) jObj_i jObj_c (by omega) (Nat.le_of_ble_eq_true rfl) rfl ?_
  first | refine J.aload_n (pc' := 5) rfl rfl rfl ?_ | refine J.aload_nN (pc' := 5) rfl rfl rfl ?_
  refine J.new (pc' := 8) (t := 14) (N := 1) (n := 1) rfl ⟨by decide, by decide, _, rfl, rfl, List.mem_of_getElem? (i := 270) (by decide +kernel), List.mem_of_getElem? (i := 135) (by decide +kernel), List.mem_of_getElem? (i := 68) (by decide +kernel)⟩ (by first | omega | (simp only [jM.len_sI, jM.len_sL, jM.len_sR, jM.len_fI, jM.len_fL, jM.len_fR]; omega) | (simp [jM.len_nw, jM.len_sI, jM.len_sL, jM.len_sR, jM.len_fI, jM.len_fL, jM.len_fR, *]; omega)) (by first | omega | (simp only [jM.len_sI, jM.len_sL, jM.len_sR, jM.len_fI, jM.len_fL, jM.len_fR]; omega) | (simp [jM.len_nw, jM.len_sI, jM.len_sL, jM.len_sR, jM.len_fI, jM.len_fL, jM.len_fR, *]; omega)) rfl (fun q qf qb => ?_)
  have hne : ¬ a = q := fun e1 => by rw [e1] at ha; omega
  have tq : (h.nw q 14 1).tag q = 14 := by rw [jM.tag_nw, if_pos rfl]
  refine J.dup (pc' := 9) rfl rfl rfl ?_
  refine J.callI (pc' := 12) rfl MX10_init ml_X5_9 iv_X10_init ⟨rfl, rfl⟩ (cs_init tq) rfl rfl (Nat.le_of_ble_eq_true rfl) (by first | omega | (simp only [jM.len_sI, jM.len_sL, jM.len_sR, jM.len_fI, jM.len_fL, jM.len_fR]; omega) | (simp [jM.len_nw, jM.len_sI, jM.len_sL, jM.len_sR, jM.len_fI, jM.len_fL, jM.len_fR, *]; omega)) (by first | omega | (simp only [jM.len_sI, jM.len_sL, jM.len_sR, jM.len_fI, jM.len_fL, jM.len_fR]; omega) | (simp [jM.len_nw, jM.len_sI, jM.len_sL, jM.len_sR, jM.len_fI, jM.len_fL, jM.len_fR, *]; omega)) (by first | omega | (simp only [jM.len_sI, jM.len_sL, jM.len_sR, jM.len_fI, jM.len_fL, jM.len_fR]; omega) | (simp [jM.len_nw, jM.len_sI, jM.len_sL, jM.len_sR, jM.len_fI, jM.len_fL, jM.len_fR, *]; omega)) rfl ?_
  rintro _ h1 ⟨rfl, g1, g2, g3, g4, g5⟩
  have F1 : Fr h h1 (fun b => b = a) := (Fr.stN (t := 14) (n := 1) Fr.rf qf).trans g3 (fun b hb q9 => by
    rcases q9 with q9 | q9
    · exact q9
    · rw [q9] at hb; exact absurd qf hb)
  have N1 : Nt h h1 [14, 20] := (Nt.stN (q := q) (t := 14) (n := 1) Nt.rf (by simp)).trans g4 g3 (by simp)
  have ta : h1.tag a = 9 := F1.tag ha (by omega)
  refine J.ownS a g1 (fun h2 o1 t2 _ f2 => ?_)
  rw [g2] at o1
  have F2 := f2 h _ F1 qf ((Fr.stN (t := 14) (n := 1) (W := fun b => b = a) Fr.rf qf).free g5)
  have N2 : Nt h h2 [14, 20] := N1.st t2
  have ta : h2.tag a = 9 := F2.tag ha (by omega)
  first | refine J.putR (pc' := 15) rfl fl_X5_10 rfl (Or.inr ⟨rfl, rfl, rfl⟩) (by first | assumption | (simp only [jM.tag_sI, jM.tag_sL, jM.tag_sR, jM.tag_fI, jM.tag_fL, jM.tag_fR]; assumption) | (simp [jM.tag_nw, jM.tag_sI, jM.tag_sL, jM.tag_sR, jM.tag_fI, jM.tag_fL, jM.tag_fR, *]; done)) (Or.inl rfl) rfl ?_ | refine J.putRN (pc' := 15) rfl fl_X5_10 rfl (Or.inr ⟨rfl, rfl, rfl⟩) (by first | assumption | (simp only [jM.tag_sI, jM.tag_sL, jM.tag_sR, jM.tag_fI, jM.tag_fL, jM.tag_fR]; assumption) | (simp [jM.tag_nw, jM.tag_sI, jM.tag_sL, jM.tag_sR, jM.tag_fI, jM.tag_fL, jM.tag_fR, *]; done)) (Or.inl rfl) rfl ?_
  first | refine J.aload_n (pc' := 16) rfl rfl rfl ?_ | refine J.aload_nN (pc' := 16) rfl rfl rfl ?_
  refine J.iload_n (pc' := 17) rfl rfl rfl ?_
  refine J.putI (pc' := 20) rfl fl_X5_16 rfl (Or.inr ⟨rfl, rfl, rfl⟩) (by first | assumption | (simp only [jM.tag_sI, jM.tag_sL, jM.tag_sR, jM.tag_fI, jM.tag_fL, jM.tag_fR]; assumption) | (simp [jM.tag_nw, jM.tag_sI, jM.tag_sL, jM.tag_sR, jM.tag_fI, jM.tag_fL, jM.tag_fR, *]; done)) (Or.inl rfl) rfl ?_
  refine J.vret rfl rfl (by first | omega | (simp only [jM.len_sI, jM.len_sL, jM.len_sR, jM.len_fI, jM.len_fL, jM.len_fR]; omega) | (simp [jM.len_nw, jM.len_sI, jM.len_sL, jM.len_sR, jM.len_fI, jM.len_fL, jM.len_fR, *]; omega)) (by first | omega | (simp only [jM.len_sI, jM.len_sL, jM.len_sR, jM.len_fI, jM.len_fL, jM.len_fR]; omega) | (simp [jM.len_nw, jM.len_sI, jM.len_sL, jM.len_sR, jM.len_fI, jM.len_fL, jM.len_fR, *]; omega)) ?_
  have F3 : Fr h2 ((h2.sR 9 a 1 (some q)).sI 9 a 0 n) (fun b => b = a) := by refine Fr.stI (Fr.stR Fr.rf ?_) ?_ <;> exact Or.inl rfl
  refine ⟨rfl, q, qf, o1.kept1 F3 (by omega), ?_, ?_, ?_, N2.st rfl⟩
  · rw [jM.R_sI, jM.R_sR, if_pos ⟨rfl, rfl, rfl⟩]
  · rw [jM.I_sI, if_pos ⟨rfl, rfl, rfl⟩]
  · refine Fr.stI (Fr.stR F2 ?_) ?_ <;> exact Or.inl rfl
/-- Layer(tons, load, cost, spans) -/
theorem cl_init {n c : Int} {ld : Option Nat} {y0 : Nat} {P : Nat → Int} (ha : h.tag a = 10) (hO : isO h o y0 P) : CT γ mX6_init 2 2 11 [.ref a, .int (jI n), va_rf ld, .int (jI c), .ref o] h (fun r h' => r = none ∧ ∃ s, h.tag s = 0 ∧ isO h' s a P ∧ h'.R 10 a 3 = some s ∧ h'.R 10 a 1 = ld ∧ h'.I 10 a 0 = n ∧ h'.I 10 a 2 = c ∧ Fr h h' (fun b => b = a) ∧ Nt h h' [14, 20]) X0 := by
  have go : ∀ (v : Value), v = va_rf ld → J γ mX6_init 2 2 11 0 0 h 0 [(0, .ref a), (1, .int (jI n)), (2, v), (3, .int (jI c)), (4, .ref o)] [] (fun r h' => r = none ∧ ∃ s, h.tag s = 0 ∧ isO h' s a P ∧ h'.R 10 a 3 = some s ∧ h'.R 10 a 1 = ld ∧ h'.I 10 a 0 = n ∧ h'.I 10 a 2 = c ∧ Fr h h' (fun b => b = a) ∧ Nt h h' [14, 20]) X0 := by
    intro v hv
    first | refine J.aload_n (pc' := 1) rfl rfl rfl ?_ | refine J.aload_nN (pc' := 1) rfl rfl rfl ?_
    refine J.objI (pc' := 4) rfl (List.mem_of_getElem? (i := 1090) (by decide +kernel)) jObj_i jObj_c (by omega) (Nat.le_of_ble_eq_true rfl) rfl ?_
    first | refine J.aload_n (pc' := 5) rfl rfl rfl ?_ | refine J.aload_nN (pc' := 5) rfl rfl rfl ?_
    refine J.new (pc' := 8) (t := 14) (N := 1) (n := 1) rfl ⟨by decide, by decide, _, rfl, rfl, List.mem_of_getElem? (i := 1091) (by decide +kernel), List.mem_of_getElem? (i := 135) (by decide +kernel), List.mem_of_getElem? (i := 68) (by decide +kernel)⟩ (by first | omega | (simp only [jM.len_sI, jM.len_sL, jM.len_sR, jM.len_fI, jM.len_fL, jM.len_fR]; omega) | (simp [jM.len_nw, jM.len_sI, jM.len_sL, jM.len_sR, jM.len_fI, jM.len_fL, jM.len_fR, *]; omega)) (by first | omega | (simp only [jM.len_sI, jM.len_sL, jM.len_sR, jM.len_fI, jM.len_fL, jM.len_fR]; omega) | (simp [jM.len_nw, jM.len_sI, jM.len_sL, jM.len_sR, jM.len_fI, jM.len_fL, jM.len_fR, *]; omega)) rfl (fun q qf qb => ?_)
    have hne : ¬ a = q := fun e1 => by rw [e1] at ha; omega
    have hno : ¬ o = q := fun e1 => by have := hO.1.1; rw [e1] at this; omega
    have tq : (h.nw q 14 1).tag q = 14 := by rw [jM.tag_nw, if_pos rfl]
    refine J.dup (pc' := 9) rfl rfl rfl ?_
    refine J.callI (pc' := 12) rfl MX10_init ml_X6_11 iv_X10_init ⟨rfl, rfl⟩ (cs_init tq) rfl rfl (Nat.le_of_ble_eq_true rfl) (by first | omega | (simp only [jM.len_sI, jM.len_sL, jM.len_sR, jM.len_fI, jM.len_fL, jM.len_fR]; omega) | (simp [jM.len_nw, jM.len_sI, jM.len_sL, jM.len_sR, jM.len_fI, jM.len_fL, jM.len_fR, *]; omega)) (by first | omega | (simp only [jM.len_sI, jM.len_sL, jM.len_sR, jM.len_fI, jM.len_fL, jM.len_fR]; omega) | (simp [jM.len_nw, jM.len_sI, jM.len_sL, jM.len_sR, jM.len_fI, jM.len_fL, jM.len_fR, *]; omega)) (by first | omega | (simp only [jM.len_sI, jM.len_sL, jM.len_sR, jM.len_fI, jM.len_fL, jM.len_fR]; omega) | (simp [jM.len_nw, jM.len_sI, jM.len_sL, jM.len_sR, jM.len_fI, jM.len_fL, jM.len_fR, *]; omega)) rfl ?_
    rintro _ h1 ⟨rfl, g1, g2, g3, g4, g5⟩
    have F0 : Fr h (h.nw q 14 1) (fun b => b = a) := Fr.stN Fr.rf qf
    have F1 : Fr h h1 (fun b => b = a) := F0.trans g3 (fun b hb q9 => by
      rcases q9 with q9 | q9
      · exact q9
      · rw [q9] at hb; exact absurd qf hb)
    have N1 : Nt h h1 [14, 20] := (Nt.stN (q := q) (t := 14) (n := 1) Nt.rf (by simp)).trans g4 g3 (by simp)
    refine J.ownS a g1 (fun h2 o1 t2 e2 f2 => ?_)
    rw [g2] at o1
    have fp : h.tag (pa h2 q) = 0 := by rw [e2]; exact F0.free g5
    have F2 := f2 h _ F1 qf (F0.free g5)
    have N2 : Nt h h2 [14, 20] := N1.st t2
    have ta : h2.tag a = 10 := F2.tag ha (by omega)
    have oO : isO h2 o y0 P := hO.kept1 F2 (by omega)
    first | refine J.putR (pc' := 15) rfl fl_X6_12 rfl (Or.inr ⟨rfl, rfl, rfl⟩) (by first | assumption | (simp only [jM.tag_sI, jM.tag_sL, jM.tag_sR, jM.tag_fI, jM.tag_fL, jM.tag_fR]; assumption) | (simp [jM.tag_nw, jM.tag_sI, jM.tag_sL, jM.tag_sR, jM.tag_fI, jM.tag_fL, jM.tag_fR, *]; done)) (Or.inl rfl) rfl ?_ | refine J.putRN (pc' := 15) rfl fl_X6_12 rfl (Or.inr ⟨rfl, rfl, rfl⟩) (by first | assumption | (simp only [jM.tag_sI, jM.tag_sL, jM.tag_sR, jM.tag_fI, jM.tag_fL, jM.tag_fR]; assumption) | (simp [jM.tag_nw, jM.tag_sI, jM.tag_sL, jM.tag_sR, jM.tag_fI, jM.tag_fL, jM.tag_fR, *]; done)) (Or.inl rfl) rfl ?_
    first | refine J.aload_n (pc' := 16) rfl rfl rfl ?_ | refine J.aload_nN (pc' := 16) rfl rfl rfl ?_
    refine J.iload_n (pc' := 17) rfl rfl rfl ?_
    refine J.putI (pc' := 20) rfl fl_X6_18 rfl (Or.inl rfl) (by first | assumption | (simp only [jM.tag_sI, jM.tag_sL, jM.tag_sR, jM.tag_fI, jM.tag_fL, jM.tag_fR]; assumption) | (simp [jM.tag_nw, jM.tag_sI, jM.tag_sL, jM.tag_sR, jM.tag_fI, jM.tag_fL, jM.tag_fR, *]; done)) (Or.inl rfl) rfl ?_
    have fin : ∀ h3 : jM, h3 = (((h2.sR 10 a 3 (some q)).sI 10 a 0 n).sR 10 a 1 ld).sI 10 a 2 c → J γ mX6_init 2 2 11 2 11 h3 30 [(0, .ref a), (1, .int (jI n)), (2, v), (3, .int (jI c)), (4, .ref o)] [] (fun r h' => r = none ∧ ∃ s, h.tag s = 0 ∧ isO h' s a P ∧ h'.R 10 a 3 = some s ∧ h'.R 10 a 1 = ld ∧ h'.I 10 a 0 = n ∧ h'.I 10 a 2 = c ∧ Fr h h' (fun b => b = a) ∧ Nt h h' [14, 20]) X0 := by
      intro h3 hh3
      have F3 : Fr h2 h3 (fun b => b = a) := by
        rw [hh3]
        refine Fr.stI (Fr.stR (Fr.stI (Fr.stR Fr.rf ?_) ?_) ?_) ?_ <;> exact Or.inl rfl
      have F4 : Fr h h3 (fun b => b = a) := F2.trans F3 (fun b _ q9 => q9.elim id id)
      have N3 : Nt h h3 [14, 20] := N2.st (by rw [hh3]; rfl)
      have q1 : isO h3 q a spD := o1.kept1 F3 (by omega)
      have q2 : isO h3 o y0 P := oO.kept1 F3 (by omega)
      have r1 : h3.R 10 a 3 = some q := by rw [hh3, jM.R_sI, jM.R_sR, if_neg (by omega), jM.R_sI, jM.R_sR, if_pos ⟨rfl, rfl, rfl⟩]
      have r2 : h3.R 10 a 1 = ld := by rw [hh3, jM.R_sI, jM.R_sR, if_pos ⟨rfl, rfl, rfl⟩]
      have r3 : h3.I 10 a 0 = n := by rw [hh3, jM.I_sI, if_neg (by omega), jM.I_sR, jM.I_sI, if_pos ⟨rfl, rfl, rfl⟩]
      have r4 : h3.I 10 a 2 = c := by rw [hh3, jM.I_sI, if_pos ⟨rfl, rfl, rfl⟩]
      clear hh3
      have t3 : h3.tag a = 10 := F4.tag ha (by omega)
      have t4 := q1.1.1
      first | refine J.aload_n (pc' := 31) rfl rfl rfl ?_ | refine J.aload_nN (pc' := 31) rfl rfl rfl ?_
      first | refine J.getR (pc' := 34) rfl fl_X6_12 rfl (by first | assumption | (simp only [jM.tag_sI, jM.tag_sL, jM.tag_sR, jM.tag_fI, jM.tag_fL, jM.tag_fR]; assumption) | (simp [jM.tag_nw, jM.tag_sI, jM.tag_sL, jM.tag_sR, jM.tag_fI, jM.tag_fL, jM.tag_fR, *]; done)) (by first | assumption | (simp only [jM.R_sI, jM.R_sL, jM.R_fI, jM.R_fL]; assumption) | (simp [jM.R_nw, jM.R_sR, jM.R_fR, jM.R_sI, jM.R_sL, jM.R_fI, jM.R_fL, *]; done)) rfl ?_ | refine J.getRN (pc' := 34) rfl fl_X6_12 rfl (by first | assumption | (simp only [jM.tag_sI, jM.tag_sL, jM.tag_sR, jM.tag_fI, jM.tag_fL, jM.tag_fR]; assumption) | (simp [jM.tag_nw, jM.tag_sI, jM.tag_sL, jM.tag_sR, jM.tag_fI, jM.tag_fL, jM.tag_fR, *]; done)) (by first | assumption | (simp only [jM.R_sI, jM.R_sL, jM.R_fI, jM.R_fL]; assumption) | (simp [jM.R_nw, jM.R_sR, jM.R_fR, jM.R_sI, jM.R_sL, jM.R_fI, jM.R_fL, *]; done)) rfl ?_
      first | refine J.aload (pc' := 36) rfl rfl rfl ?_ | refine J.aloadN (pc' := 36) rfl rfl rfl ?_
      refine J.callV (pc' := 39) (t := 14) rfl MX10_copyFrom ml_X6_29 iv_X10_copyFrom (by decide) ⟨_, rfl, rfl⟩ (by first | assumption | (simp only [jM.tag_sI, jM.tag_sL, jM.tag_sR, jM.tag_fI, jM.tag_fL, jM.tag_fR]; assumption) | (simp [jM.tag_nw, jM.tag_sI, jM.tag_sL, jM.tag_sR, jM.tag_fI, jM.tag_fL, jM.tag_fR, *]; done)) (cs_copyFrom q1.1 q2.1) rfl rfl (Nat.le_of_ble_eq_true rfl) (by first | omega | (simp only [jM.len_sI, jM.len_sL, jM.len_sR, jM.len_fI, jM.len_fL, jM.len_fR]; omega) | (simp [jM.len_nw, jM.len_sI, jM.len_sL, jM.len_sR, jM.len_fI, jM.len_fL, jM.len_fR, *]; omega)) (by first | omega | (simp only [jM.len_sI, jM.len_sL, jM.len_sR, jM.len_fI, jM.len_fL, jM.len_fR]; omega) | (simp [jM.len_nw, jM.len_sI, jM.len_sL, jM.len_sR, jM.len_fI, jM.len_fL, jM.len_fR, *]; omega)) (by first | omega | (simp only [jM.len_sI, jM.len_sL, jM.len_sR, jM.len_fI, jM.len_fL, jM.len_fR]; omega) | (simp [jM.len_nw, jM.len_sI, jM.len_sL, jM.len_sR, jM.len_fI, jM.len_fL, jM.len_fR, *]; omega)) rfl rfl ?_ ?_
      · exact fun _ _ h => h
      rintro _ h4 ⟨rfl, w1, w2, w3, w4, w5, w6, w7, w8⟩
      refine J.vret rfl rfl (by first | omega | (simp only [jM.len_sI, jM.len_sL, jM.len_sR, jM.len_fI, jM.len_fL, jM.len_fR]; omega) | (simp [jM.len_nw, jM.len_sI, jM.len_sL, jM.len_sR, jM.len_fI, jM.len_fL, jM.len_fR, *]; omega)) (by first | omega | (simp only [jM.len_sI, jM.len_sL, jM.len_sR, jM.len_fI, jM.len_fL, jM.len_fR]; omega) | (simp [jM.len_nw, jM.len_sI, jM.len_sL, jM.len_sR, jM.len_fI, jM.len_fL, jM.len_fR, *]; omega)) ?_
      have w9 : pa h4 q = pa h3 q := by unfold pa; rw [w4]
      refine ⟨rfl, q, qf, ⟨w7, by show h4.R 0 q 0 = _; rw [w4]; exact q1.2.1, by rw [w9]; show h4.R 0 _ 0 = _; rw [w4]; exact q1.2.2.1, ?_⟩, by rw [w4]; exact r1, by rw [w4]; exact r2, by rw [w5 10 (by omega)]; exact r3, by rw [w5 10 (by omega)]; exact r4, F4.trans w6 (fun b hb q9 => ?_), N3.st w1⟩
      · intro i hi
        rw [w8]
        show (if i < 10 then sv h3 o i else sv h3 q i) = P i
        rw [if_pos hi]
        exact q2.2.2.2 i hi
      · rcases q9 with q9 | q9
        · exact q9
        · exfalso
          rw [q9, o1.1.paK F3 (fun e1 => by rw [e1] at qf; omega)] at hb
          exact hb fp
    cases ld with
    | none =>
      subst hv
      first | refine J.aload_n (pc' := 21) rfl rfl rfl ?_ | refine J.aload_nN (pc' := 21) rfl rfl rfl ?_
      first | refine J.aload_n (pc' := 22) rfl rfl rfl ?_ | refine J.aload_nN (pc' := 22) rfl rfl rfl ?_
      first | refine J.putR (pc' := 25) rfl fl_X6_22 rfl (Or.inr ⟨rfl, rfl, rfl⟩) (by first | assumption | (simp only [jM.tag_sI, jM.tag_sL, jM.tag_sR, jM.tag_fI, jM.tag_fL, jM.tag_fR]; assumption) | (simp [jM.tag_nw, jM.tag_sI, jM.tag_sL, jM.tag_sR, jM.tag_fI, jM.tag_fL, jM.tag_fR, *]; done)) (Or.inl rfl) rfl ?_ | refine J.putRN (pc' := 25) rfl fl_X6_22 rfl (Or.inr ⟨rfl, rfl, rfl⟩) (by first | assumption | (simp only [jM.tag_sI, jM.tag_sL, jM.tag_sR, jM.tag_fI, jM.tag_fL, jM.tag_fR]; assumption) | (simp [jM.tag_nw, jM.tag_sI, jM.tag_sL, jM.tag_sR, jM.tag_fI, jM.tag_fL, jM.tag_fR, *]; done)) (Or.inl rfl) rfl ?_
      first | refine J.aload_n (pc' := 26) rfl rfl rfl ?_ | refine J.aload_nN (pc' := 26) rfl rfl rfl ?_
      refine J.iload_n (pc' := 27) rfl rfl rfl ?_
      refine J.putI (pc' := 30) rfl fl_X6_26 rfl (Or.inr ⟨rfl, rfl, rfl⟩) (by first | assumption | (simp only [jM.tag_sI, jM.tag_sL, jM.tag_sR, jM.tag_fI, jM.tag_fL, jM.tag_fR]; assumption) | (simp [jM.tag_nw, jM.tag_sI, jM.tag_sL, jM.tag_sR, jM.tag_fI, jM.tag_fL, jM.tag_fR, *]; done)) (Or.inl rfl) rfl ?_
      exact fin _ rfl
    | some x =>
      subst hv
      first | refine J.aload_n (pc' := 21) rfl rfl rfl ?_ | refine J.aload_nN (pc' := 21) rfl rfl rfl ?_
      first | refine J.aload_n (pc' := 22) rfl rfl rfl ?_ | refine J.aload_nN (pc' := 22) rfl rfl rfl ?_
      first | refine J.putR (pc' := 25) rfl fl_X6_22 rfl (Or.inr ⟨rfl, rfl, rfl⟩) (by first | assumption | (simp only [jM.tag_sI, jM.tag_sL, jM.tag_sR, jM.tag_fI, jM.tag_fL, jM.tag_fR]; assumption) | (simp [jM.tag_nw, jM.tag_sI, jM.tag_sL, jM.tag_sR, jM.tag_fI, jM.tag_fL, jM.tag_fR, *]; done)) (Or.inl rfl) rfl ?_ | refine J.putRN (pc' := 25) rfl fl_X6_22 rfl (Or.inr ⟨rfl, rfl, rfl⟩) (by first | assumption | (simp only [jM.tag_sI, jM.tag_sL, jM.tag_sR, jM.tag_fI, jM.tag_fL, jM.tag_fR]; assumption) | (simp [jM.tag_nw, jM.tag_sI, jM.tag_sL, jM.tag_sR, jM.tag_fI, jM.tag_fL, jM.tag_fR, *]; done)) (Or.inl rfl) rfl ?_
      first | refine J.aload_n (pc' := 26) rfl rfl rfl ?_ | refine J.aload_nN (pc' := 26) rfl rfl rfl ?_
      refine J.iload_n (pc' := 27) rfl rfl rfl ?_
      refine J.putI (pc' := 30) rfl fl_X6_26 rfl (Or.inr ⟨rfl, rfl, rfl⟩) (by first | assumption | (simp only [jM.tag_sI, jM.tag_sL, jM.tag_sR, jM.tag_fI, jM.tag_fL, jM.tag_fR]; assumption) | (simp [jM.tag_nw, jM.tag_sI, jM.tag_sL, jM.tag_sR, jM.tag_fI, jM.tag_fL, jM.tag_fR, *]; done)) (Or.inl rfl) rfl ?_
      exact fin _ rfl
  exact CT.of MX6_init (Nat.le_of_ble_eq_true (by cases ld <;> rfl)) (by
    have h9 := go _ rfl
    cases ld <;> exact h9)
end KE

