section LA
variable {γ : jG} {mc ms : Nat} {b : Nat → Nat} {x o sc n : Nat} {S : Int → Int}
theorem law_loop (hS : ∀ j, r32 (S j)) : ∀ (m : Nat) (i : Int) (V : VV) (h : jM) (cells slots : Nat), 0 ≤ i → i ≤ n → (n : Int) < i + 6 * (m + 1) → cells + 1150 * m ≤ mc → slots + 12000 * m ≤ ms → lwS γ V h b x o sc n S → ∀ lv, hasL lv [(0, .ref sc), (1, .ref x), (2, .ref (b 16)), (3, .ref o), (4, .int (jI i))] → J γ mL_law 13 mc ms cells slots h 23 lv [] (fun r _ => r = some (.int (jI 1))) X0 := by
  intro m
  induction m with
  | zero =>
    intro i V h cells slots i0 i1 hn hm hs hL lv hl
    have Z := hL.2.2.2.1
    have n5 := Z.2.2.1
    refine J.lc hl ?_
    refine J.iload (pc' := 25) rfl rfl rfl ?_
    first | refine J.aload_n (pc' := 26) rfl rfl rfl ?_ | refine J.aload_nN (pc' := 26) rfl rfl rfl ?_
    refine J.alenT (pc' := 27) (t := 37) rfl Z.1 (by decide) (by decide) rfl ?_
    rw [Z.2.1]
    refine J.bipush (pc' := 29) rfl rfl (by decide) ?_
    refine J.isub (pc' := 30) rfl rfl ?_
    refine J.icmp_gt (tgt := 1797) (pc' := 33) rfl rfl rfl (by unfold r32; omega) (by unfold r32; omega) (fun c => ?_) (fun c => ?_)
    · refine J.iconst (pc' := 1798) rfl rfl ?_
      refine J.zret rfl rfl (by rfl) (by omega) (by omega) ?_
      exact rfl
    · exfalso
      omega
  | succ m ih =>
    intro i V h cells slots i0 i1 hn hm hs hL lv hl
    have Z := hL.2.2.2.1
    have n5 := Z.2.2.1
    refine J.lc hl ?_
    refine J.iload (pc' := 25) rfl rfl rfl ?_
    first | refine J.aload_n (pc' := 26) rfl rfl rfl ?_ | refine J.aload_nN (pc' := 26) rfl rfl rfl ?_
    refine J.alenT (pc' := 27) (t := 37) rfl Z.1 (by decide) (by decide) rfl ?_
    rw [Z.2.1]
    refine J.bipush (pc' := 29) rfl rfl (by decide) ?_
    refine J.isub (pc' := 30) rfl rfl ?_
    refine J.icmp_gt (tgt := 1797) (pc' := 33) rfl rfl rfl (by unfold r32; omega) (by unfold r32; omega) (fun c => ?_) (fun c => ?_)
    · refine J.iconst (pc' := 1798) rfl rfl ?_
      refine J.zret rfl rfl (by rfl) (by omega) (by omega) ?_
      exact rfl
    · have h1 : cells + 1150 ≤ mc := Nat.le_trans (Nat.add_le_add_left (Nat.le_mul_of_pos_right 1150 (Nat.succ_pos m)) cells) hm
      have h2 : slots + 12000 ≤ ms := Nat.le_trans (Nat.add_le_add_left (Nat.le_mul_of_pos_right 12000 (Nat.succ_pos m)) slots) hs
      refine law_sw (i := i) hS (by omega) h1 h2 hL (fun W k hW lv hl => ?_) _ (by repeat' (first | exact trivial | refine ⟨rfl, ?_⟩))
      refine J.lc hl ?_
      refine J.iinc (pc' := 1794) rfl rfl rfl (by decide) ?_
      refine J.goto (tgt := 23) rfl rfl ?_
      exact ih (i + 6) W k _ _ (by omega) (by omega) (by omega) (by omega) (by omega) hW _ (by repeat' (first | exact trivial | refine ⟨rfl, ?_⟩))
end LA
theorem isSc.kp {h h' : jM} {sc n : Nat} {S : Int → Int} {W : Nat → Prop} (Z : isSc h sc n S) (F : Fr h h' W) (hw : ¬ W sc) : isSc h' sc n S := by
  obtain ⟨a1, a2, a3, a4⟩ := Z
  exact ⟨F.tag a1 (by decide), by rw [F.len (by omega)]; exact a2, a3, fun i hi => by rw [F.I a1 (by decide) hw]; exact a4 i hi⟩
theorem mdl.kp {h h' : jM} {b : Nat → Nat} {V : VV} (M : mdl h b V) (F : Fr h h' (fun _ => False)) : mdl h' b V := by
  obtain ⟨B, c, i, l⟩ := M
  refine ⟨⟨F.tag (show h.tag (b 16) = 16 from B.1) (by decide), fun t ht => ?_⟩, c, fun t k h1 h2 => ?_, fun t k h1 => ?_⟩
  · obtain ⟨p1, p2, p3⟩ := B.2 t ht
    have p1 : h.tag (b t) = t := p1
    have p2 : h.len (b t) = jLn t := p2
    have p3 : h.R 16 (b 16) (t - 100) = some (b t) := p3
    have g := jLn_ge ht
    refine ⟨F.tag p1 (by omega), ?_, ?_⟩
    · show h'.len (b t) = jLn t
      rw [F.len (by omega)]; exact p2
    · show h'.R 16 (b 16) (t - 100) = some (b t)
      rw [F.R (show h.tag (b 16) = 16 from B.1) (by decide) id]; exact p3
  · rw [← i t k h1 h2]
    rcases h2 with z | z
    · subst z
      exact F.I (show h.tag (b 16) = 16 from B.1) (by decide) id k
    · have g := jLn_ge z
      exact F.I (show h.tag (b t) = t from (B.2 t z).1) (by omega) id k
  · rw [← l t k h1]
    have z := jMl_ln h1
    have g := jLn_ge z
    exact F.L (show h.tag (b t) = t from (B.2 t z).1) (by omega) id k
theorem mdl_of {β : jB} {V : VV} (B : isB β) : mdl (jP β V) (fun t => if t = 16 ∨ jLn t ≠ 0 then β.2 t else β.2 16) V := by
  have e : ∀ t, t = 16 ∨ jLn t ≠ 0 → (fun t => if t = 16 ∨ jLn t ≠ 0 then β.2 t else β.2 16) t = β.2 t := fun t ht => if_pos ht
  have e16 := e 16 (Or.inl rfl)
  refine ⟨⟨?_, fun t ht => ?_⟩, fun t t1 t2 => ?_, fun t k h1 h2 => ?_, fun t k h1 => ?_⟩
  · show β.1.tag ((fun t => if t = 16 ∨ jLn t ≠ 0 then β.2 t else β.2 16) 16) = 16
    rw [e16]
    exact B.1
  · show β.1.tag ((fun t => if t = 16 ∨ jLn t ≠ 0 then β.2 t else β.2 16) t) = t ∧ β.1.len ((fun t => if t = 16 ∨ jLn t ≠ 0 then β.2 t else β.2 16) t) = jLn t ∧ β.1.R 16 ((fun t => if t = 16 ∨ jLn t ≠ 0 then β.2 t else β.2 16) 16) (t - 100) = some ((fun t => if t = 16 ∨ jLn t ≠ 0 then β.2 t else β.2 16) t)
    rw [e t (Or.inr ht), e16]
    exact B.2 t ht
  · have n : ¬ (t = 16 ∨ jLn t ≠ 0) := fun z => z.elim t1 (fun w => w t2)
    show (if t = 16 ∨ jLn t ≠ 0 then β.2 t else β.2 16) = (fun t => if t = 16 ∨ jLn t ≠ 0 then β.2 t else β.2 16) 16
    rw [if_neg n, e16]
  · rw [e t h2]
    exact if_pos ⟨h1, rfl⟩
  · rw [e t (Or.inr (jMl_ln h1))]
    exact if_pos ⟨h1, rfl⟩
section LB
variable {γ : jG} {mc ms : Nat} {sc n : Nat} {S : Int → Int} {h : jM}
theorem law_J {N : Nat} (hS : ∀ j, r32 (S j)) (Z : isSc h sc n S) (K : isK γ h) (hn : n < 6 * (N + 1)) (hmc : 150 + 1150 * N ≤ mc) (hms : 26000 + 12000 * N ≤ ms) : J γ mL_law 13 mc ms 0 0 h 0 [(0, .ref sc)] [] (fun r _ => r = some (.int (jI 1))) X0 := by
  refine J.new (pc' := 3) (t := 15) (N := 10) (n := 10) rfl ⟨by decide, by decide, _, rfl, rfl, List.mem_of_getElem? (i := 98) (by decide +kernel), List.mem_of_getElem? (i := 99) (by decide +kernel), List.mem_of_getElem? (i := 64) (by decide +kernel)⟩ (by first | omega | (exact R.r _ _) | (simp only [jM.len_sI, jM.len_sL, jM.len_sR, jM.len_fI, jM.len_fL, jM.len_fR]; omega) | (simp [jM.len_nw, jM.len_sI, jM.len_sL, jM.len_sR, jM.len_fI, jM.len_fL, jM.len_fR, *]; omega)) (by first | omega | (exact R.r _ _) | (simp only [jM.len_sI, jM.len_sL, jM.len_sR, jM.len_fI, jM.len_fL, jM.len_fR]; omega) | (simp [jM.len_nw, jM.len_sI, jM.len_sL, jM.len_sR, jM.len_fI, jM.len_fL, jM.len_fR, *]; omega)) rfl (fun x xf xb => ?_)
  have F1 : Fr h (h.nw x 15 10) (fun _ => False) := Fr.nw (by decide) xf
  have tx : (h.nw x 15 10).tag x = 15 := by rw [jM.tag_nw, if_pos rfl]
  have Z1 := Z.kp F1 id
  have K1 : isK γ (h.nw x 15 10) := K.kept F1 (fun _ _ _ z => z)
  generalize h.nw x 15 10 = h1 at tx Z1 K1 ⊢
  refine J.dup (pc' := 4) rfl rfl rfl ?_
  refine J.callI (pc' := 7) rfl MX11_init ml_L_83 iv_X11_init ⟨rfl, rfl⟩ (cx_Yard tx K1) rfl rfl (Nat.le_of_ble_eq_true rfl) (by first | omega | (exact R.r _ _) | (simp only [jM.len_sI, jM.len_sL, jM.len_sR, jM.len_fI, jM.len_fL, jM.len_fR]; omega) | (simp [jM.len_nw, jM.len_sI, jM.len_sL, jM.len_sR, jM.len_fI, jM.len_fL, jM.len_fR, *]; omega)) (by first | omega | (exact R.r _ _) | (simp only [jM.len_sI, jM.len_sL, jM.len_sR, jM.len_fI, jM.len_fL, jM.len_fR]; omega) | (simp [jM.len_nw, jM.len_sI, jM.len_sL, jM.len_sR, jM.len_fI, jM.len_fL, jM.len_fR, *]; omega)) (by first | omega | (exact R.r _ _) | (simp only [jM.len_sI, jM.len_sL, jM.len_sR, jM.len_fI, jM.len_fL, jM.len_fR]; omega) | (simp [jM.len_nw, jM.len_sI, jM.len_sL, jM.len_sR, jM.len_fI, jM.len_fL, jM.len_fR, *]; omega)) rfl ?_
  rintro _ h2 ⟨rfl, R2, F2⟩
  have Z2 : isSc h2 sc n S := Z1.kp F2 (fun z => by have := Z1.1; rw [z] at this; omega)
  first | refine J.astore_n (pc' := 8) rfl rfl (by decide) ?_ | refine J.astore_nN (pc' := 8) rfl rfl (by decide) ?_
  refine J.new (pc' := 11) (t := 16) (N := 60) (n := 60) rfl ⟨by decide, by decide, _, rfl, rfl, List.mem_of_getElem? (i := 1437) (by decide +kernel), List.mem_of_getElem? (i := 1438) (by decide +kernel), List.mem_of_getElem? (i := 75) (by decide +kernel)⟩ (by first | omega | (exact R.r _ _) | (simp only [jM.len_sI, jM.len_sL, jM.len_sR, jM.len_fI, jM.len_fL, jM.len_fR]; omega) | (simp [jM.len_nw, jM.len_sI, jM.len_sL, jM.len_sR, jM.len_fI, jM.len_fL, jM.len_fR, *]; omega)) (by first | omega | (exact R.r _ _) | (simp only [jM.len_sI, jM.len_sL, jM.len_sR, jM.len_fI, jM.len_fL, jM.len_fR]; omega) | (simp [jM.len_nw, jM.len_sI, jM.len_sL, jM.len_sR, jM.len_fI, jM.len_fL, jM.len_fR, *]; omega)) rfl (fun a af ab => ?_)
  have F3 : Fr h2 (h2.nw a 16 60) (fun _ => False) := Fr.nw (by decide) af
  have ta : (h2.nw a 16 60).tag a = 16 := by rw [jM.tag_nw, if_pos rfl]
  have za : ∀ k, (h2.nw a 16 60).I 16 a k = 0 := fun k => by rw [jM.I_nw, if_pos ⟨rfl, rfl⟩]
  have Z3 := Z2.kp F3 id
  have R3 : RepC γ V0 (h2.nw a 16 60) x := RepC.c (S := fun _ => False) F3 (fun _ z => z.elim) R2
  generalize h2.nw a 16 60 = h3 at ta za Z3 R3 ⊢
  refine J.dup (pc' := 12) rfl rfl rfl ?_
  refine J.callI (pc' := 15) rfl MX12_init ml_L_86 iv_X12_init ⟨rfl, rfl⟩ (cm_init ta za) rfl rfl (Nat.le_of_ble_eq_true rfl) (by first | omega | (exact R.r _ _) | (simp only [jM.len_sI, jM.len_sL, jM.len_sR, jM.len_fI, jM.len_fL, jM.len_fR]; omega) | (simp [jM.len_nw, jM.len_sI, jM.len_sL, jM.len_sR, jM.len_fI, jM.len_fL, jM.len_fR, *]; omega)) (by first | omega | (exact R.r _ _) | (simp only [jM.len_sI, jM.len_sL, jM.len_sR, jM.len_fI, jM.len_fL, jM.len_fR]; omega) | (simp [jM.len_nw, jM.len_sI, jM.len_sL, jM.len_sR, jM.len_fI, jM.len_fL, jM.len_fR, *]; omega)) (by first | omega | (exact R.r _ _) | (simp only [jM.len_sI, jM.len_sL, jM.len_sR, jM.len_fI, jM.len_fL, jM.len_fR]; omega) | (simp [jM.len_nw, jM.len_sI, jM.len_sL, jM.len_sR, jM.len_fI, jM.len_fL, jM.len_fR, *]; omega)) rfl ?_
  rintro _ h4 ⟨rfl, β, eb, B, e4, F4, -⟩
  have Z4 : isSc h4 sc n S := Z3.kp F4 (fun z => by have := Z3.1; rw [z] at this; omega)
  have R4 : RepC γ V0 h4 x := RepC.c (S := fun c => c = 16 ∨ 9000 ≤ c) (F4.mono (fun b _ z => by left; rw [z]; exact kc_o ta (by decide))) (fun _ z => z) R3
  have M4 : mdl h4 (fun t => if t = 16 ∨ jLn t ≠ 0 then β.2 t else β.2 16) V0 := by rw [e4]; exact mdl_of B
  have b16 : (fun t => if t = 16 ∨ jLn t ≠ 0 then β.2 t else β.2 16) 16 = a := (if_pos (Or.inl rfl)).trans eb
  generalize (fun t => if t = 16 ∨ jLn t ≠ 0 then β.2 t else β.2 16) = b at M4 b16
  first | refine J.astore_n (pc' := 16) rfl rfl (by decide) ?_ | refine J.astore_nN (pc' := 16) rfl rfl (by decide) ?_
  refine J.iconst (pc' := 17) rfl rfl ?_
  refine J.newa (pc' := 19) (t := 38) rfl (by decide) rfl (by decide) (List.mem_of_getElem? (i := 1625) (by decide +kernel)) (by first | omega | (exact R.r _ _) | (simp only [jM.len_sI, jM.len_sL, jM.len_sR, jM.len_fI, jM.len_fL, jM.len_fR]; omega) | (simp [jM.len_nw, jM.len_sI, jM.len_sL, jM.len_sR, jM.len_fI, jM.len_fL, jM.len_fR, *]; omega)) (by first | omega | (exact R.r _ _) | (simp only [jM.len_sI, jM.len_sL, jM.len_sR, jM.len_fI, jM.len_fL, jM.len_fR]; omega) | (simp [jM.len_nw, jM.len_sI, jM.len_sL, jM.len_sR, jM.len_fI, jM.len_fL, jM.len_fR, *]; omega)) (by first | omega | (exact R.r _ _) | (simp only [jM.len_sI, jM.len_sL, jM.len_sR, jM.len_fI, jM.len_fL, jM.len_fR]; omega) | (simp [jM.len_nw, jM.len_sI, jM.len_sL, jM.len_sR, jM.len_fI, jM.len_fL, jM.len_fR, *]; omega)) (by first | omega | (exact R.r _ _) | (simp only [jM.len_sI, jM.len_sL, jM.len_sR, jM.len_fI, jM.len_fL, jM.len_fR]; omega) | (simp [jM.len_nw, jM.len_sI, jM.len_sL, jM.len_sR, jM.len_fI, jM.len_fL, jM.len_fR, *]; omega)) rfl (fun o of ob => ?_)
  have F5 : Fr h4 (h4.nw o 38 (Int.toNat 1)) (fun _ => False) := Fr.nw (by decide) of
  have to : (h4.nw o 38 (Int.toNat 1)).tag o = 38 := by rw [jM.tag_nw, if_pos rfl]
  have lo : (h4.nw o 38 (Int.toNat 1)).len o = 1 := by rw [jM.len_nw, if_pos rfl]; rfl
  have Z5 := Z4.kp F5 id
  have R5 : RepC γ V0 (h4.nw o 38 (Int.toNat 1)) x := RepC.c (S := fun _ => False) F5 (fun _ z => z.elim) R4
  have M5 := M4.kp F5
  generalize h4.nw o 38 (Int.toNat 1) = h5 at to lo Z5 R5 M5 ⊢
  first | refine J.astore_n (pc' := 20) rfl rfl (by decide) ?_ | refine J.astore_nN (pc' := 20) rfl rfl (by decide) ?_
  refine J.iconst (pc' := 21) rfl rfl ?_
  refine J.istore (pc' := 23) rfl rfl (by decide) ?_
  refine J.widen (cells' := 150) (slots' := 26000) (by omega) (by omega) ?_
  refine law_loop hS N 0 V0 h5 150 26000 (by omega) (by omega) (by omega) (by omega) (by omega) ⟨M5, R5, inv_V0, Z5, to, lo⟩ _ ⟨rfl, rfl, ?_, rfl, rfl, trivial⟩
  rw [b16]
  rfl
end LB

