section GS
variable {γ : jG} {h : jM}
def upF (B : Int → Int) (m v : Int) : Int → Int := fun j => if j = m then v else B j
theorem cx_GradeL {a q q2 : Nat} (qf : h.tag q = 0) (q20 : h.tag q2 = 0) : ∀ (m i : Nat), i + m = 5 → ∀ k : jM, k.tag a = 7 → k.R 7 a 0 = some q → k.tag q = 22 → k.len q = 5 → k.R 22 q 0 = some a → k.R 7 a 1 = some q2 → k.tag q2 = 23 → k.len q2 = 5 → k.R 23 q2 0 = some a → k.I 7 a 2 = 0 → (∀ j : Nat, j < i → k.I 22 q j = 10001 ∧ k.I 23 q2 j = -1) → Fr h k (fun b => b = a) → Nt h k [22, 23] → ∀ lv, hasL lv [(0, .ref a), (1, .int (jI (i : Int)))] → J γ mX3_init 1 2 10 2 10 k 25 lv [] (fun r h' => r = none ∧ ∃ p1 p2, isG h' a p1 p2 (fun _ => 10001) (fun _ => -1) 0 ∧ h.tag p1 = 0 ∧ h.tag p2 = 0 ∧ Fr h h' (fun b => b = a) ∧ Nt h h' [22, 23]) X0 := by
  intro m
  induction m with
  | zero =>
    intro i hi k b1 b2 b3 b4 b5 b6 b7 b8 b9 b10 b11 b12 b13 lv hlv
    refine J.lc hlv ?_
    refine J.iload_n (pc' := 26) rfl rfl rfl ?_
    refine J.iconst (pc' := 27) rfl rfl ?_
    refine J.icmp_ge (tgt := 52) (pc' := 30) rfl rfl rfl (by first | omega | (exact R.r _ _) | (simp only [jM.len_sI, jM.len_sL, jM.len_sR, jM.len_fI, jM.len_fL, jM.len_fR]; omega) | (simp [jM.len_nw, jM.len_sI, jM.len_sL, jM.len_sR, jM.len_fI, jM.len_fL, jM.len_fR, *]; omega)) (by first | omega | (exact R.r _ _) | (simp only [jM.len_sI, jM.len_sL, jM.len_sR, jM.len_fI, jM.len_fL, jM.len_fR]; omega) | (simp [jM.len_nw, jM.len_sI, jM.len_sL, jM.len_sR, jM.len_fI, jM.len_fL, jM.len_fR, *]; omega)) (fun c1 => ?_) (fun c1 => ?_)
    · refine J.vret rfl rfl (by first | omega | (exact R.r _ _) | (simp only [jM.len_sI, jM.len_sL, jM.len_sR, jM.len_fI, jM.len_fL, jM.len_fR]; omega) | (simp [jM.len_nw, jM.len_sI, jM.len_sL, jM.len_sR, jM.len_fI, jM.len_fL, jM.len_fR, *]; omega)) (by first | omega | (exact R.r _ _) | (simp only [jM.len_sI, jM.len_sL, jM.len_sR, jM.len_fI, jM.len_fL, jM.len_fR]; omega) | (simp [jM.len_nw, jM.len_sI, jM.len_sL, jM.len_sR, jM.len_fI, jM.len_fL, jM.len_fR, *]; omega)) ?_
      exact ⟨rfl, q, q2, ⟨b1, b2, b3, b4, b5, b6, b7, b8, b9, b10, fun j hj => b11 j (by omega)⟩, qf, q20, b12, b13⟩
    · omega
  | succ m ih =>
    intro i hi k b1 b2 b3 b4 b5 b6 b7 b8 b9 b10 b11 b12 b13 lv hlv
    have d1 : (k.sI 22 q (i : Int).toNat 10001).tag a = 7 := b1
    have d2 : (k.sI 22 q (i : Int).toNat 10001).R 7 a 1 = some q2 := b6
    have d3 : (k.sI 22 q (i : Int).toNat 10001).tag q2 = 23 := b7
    have d4 : (k.sI 22 q (i : Int).toNat 10001).len q2 = 5 := b8
    refine J.lc hlv ?_
    refine J.iload_n (pc' := 26) rfl rfl rfl ?_
    refine J.iconst (pc' := 27) rfl rfl ?_
    refine J.icmp_ge (tgt := 52) (pc' := 30) rfl rfl rfl (by first | omega | (exact R.r _ _) | (simp only [jM.len_sI, jM.len_sL, jM.len_sR, jM.len_fI, jM.len_fL, jM.len_fR]; omega) | (simp [jM.len_nw, jM.len_sI, jM.len_sL, jM.len_sR, jM.len_fI, jM.len_fL, jM.len_fR, *]; omega)) (by first | omega | (exact R.r _ _) | (simp only [jM.len_sI, jM.len_sL, jM.len_sR, jM.len_fI, jM.len_fL, jM.len_fR]; omega) | (simp [jM.len_nw, jM.len_sI, jM.len_sL, jM.len_sR, jM.len_fI, jM.len_fL, jM.len_fR, *]; omega)) (fun c1 => ?_) (fun c1 => ?_)
    · omega
    · first | refine J.aload_n (pc' := 31) rfl rfl rfl ?_ | refine J.aload_nN (pc' := 31) rfl rfl rfl ?_
      first | refine J.getR (pc' := 34) rfl fl_X3_9 rfl (by first | assumption | (simp only [jM.tag_sI, jM.tag_sL, jM.tag_sR, jM.tag_fI, jM.tag_fL, jM.tag_fR]; assumption) | (simp [jM.tag_nw, jM.tag_sI, jM.tag_sL, jM.tag_sR, jM.tag_fI, jM.tag_fL, jM.tag_fR, *]; done)) (by first | assumption | (simp only [jM.R_sI, jM.R_sL, jM.R_fI, jM.R_fL]; assumption) | (simp [jM.R_nw, jM.R_sR, jM.R_fR, jM.R_sI, jM.R_sL, jM.R_fI, jM.R_fL, *]; done)) rfl ?_ | refine J.getRN (pc' := 34) rfl fl_X3_9 rfl (by first | assumption | (simp only [jM.tag_sI, jM.tag_sL, jM.tag_sR, jM.tag_fI, jM.tag_fL, jM.tag_fR]; assumption) | (simp [jM.tag_nw, jM.tag_sI, jM.tag_sL, jM.tag_sR, jM.tag_fI, jM.tag_fL, jM.tag_fR, *]; done)) (by first | assumption | (simp only [jM.R_sI, jM.R_sL, jM.R_fI, jM.R_fL]; assumption) | (simp [jM.R_nw, jM.R_sR, jM.R_fR, jM.R_sI, jM.R_sL, jM.R_fI, jM.R_fL, *]; done)) rfl ?_
      refine J.iload_n (pc' := 35) rfl rfl rfl ?_
      refine J.sipush (pc' := 38) rfl rfl (by decide) ?_
      refine J.iast (pc' := 39) rfl (by first | assumption | (simp only [jM.tag_sI, jM.tag_sL, jM.tag_sR, jM.tag_fI, jM.tag_fL, jM.tag_fR]; assumption) | (simp [jM.tag_nw, jM.tag_sI, jM.tag_sL, jM.tag_sR, jM.tag_fI, jM.tag_fL, jM.tag_fR, *]; done)) (by decide) rfl (by first | omega | (exact R.r _ _) | (simp only [jM.len_sI, jM.len_sL, jM.len_sR, jM.len_fI, jM.len_fL, jM.len_fR]; omega) | (simp [jM.len_nw, jM.len_sI, jM.len_sL, jM.len_sR, jM.len_fI, jM.len_fL, jM.len_fR, *]; omega)) (by first | omega | (exact R.r _ _) | (simp only [jM.len_sI, jM.len_sL, jM.len_sR, jM.len_fI, jM.len_fL, jM.len_fR]; omega) | (simp [jM.len_nw, jM.len_sI, jM.len_sL, jM.len_sR, jM.len_fI, jM.len_fL, jM.len_fR, *]; omega)) (by first | omega | (exact R.r _ _) | (simp only [jM.len_sI, jM.len_sL, jM.len_sR, jM.len_fI, jM.len_fL, jM.len_fR]; omega) | (simp [jM.len_nw, jM.len_sI, jM.len_sL, jM.len_sR, jM.len_fI, jM.len_fL, jM.len_fR, *]; omega)) (Or.inl rfl) rfl ?_
      first | refine J.aload_n (pc' := 40) rfl rfl rfl ?_ | refine J.aload_nN (pc' := 40) rfl rfl rfl ?_
      first | refine J.getR (pc' := 43) rfl fl_X3_15 rfl (by first | assumption | (simp only [jM.tag_sI, jM.tag_sL, jM.tag_sR, jM.tag_fI, jM.tag_fL, jM.tag_fR]; assumption) | (simp [jM.tag_nw, jM.tag_sI, jM.tag_sL, jM.tag_sR, jM.tag_fI, jM.tag_fL, jM.tag_fR, *]; done)) (by first | assumption | (simp only [jM.R_sI, jM.R_sL, jM.R_fI, jM.R_fL]; assumption) | (simp [jM.R_nw, jM.R_sR, jM.R_fR, jM.R_sI, jM.R_sL, jM.R_fI, jM.R_fL, *]; done)) rfl ?_ | refine J.getRN (pc' := 43) rfl fl_X3_15 rfl (by first | assumption | (simp only [jM.tag_sI, jM.tag_sL, jM.tag_sR, jM.tag_fI, jM.tag_fL, jM.tag_fR]; assumption) | (simp [jM.tag_nw, jM.tag_sI, jM.tag_sL, jM.tag_sR, jM.tag_fI, jM.tag_fL, jM.tag_fR, *]; done)) (by first | assumption | (simp only [jM.R_sI, jM.R_sL, jM.R_fI, jM.R_fL]; assumption) | (simp [jM.R_nw, jM.R_sR, jM.R_fR, jM.R_sI, jM.R_sL, jM.R_fI, jM.R_fL, *]; done)) rfl ?_
      refine J.iload_n (pc' := 44) rfl rfl rfl ?_
      refine J.iconst (pc' := 45) rfl rfl ?_
      refine J.iast (pc' := 46) rfl (by first | assumption | (simp only [jM.tag_sI, jM.tag_sL, jM.tag_sR, jM.tag_fI, jM.tag_fL, jM.tag_fR]; assumption) | (simp [jM.tag_nw, jM.tag_sI, jM.tag_sL, jM.tag_sR, jM.tag_fI, jM.tag_fL, jM.tag_fR, *]; done)) (by decide) rfl (by first | omega | (exact R.r _ _) | (simp only [jM.len_sI, jM.len_sL, jM.len_sR, jM.len_fI, jM.len_fL, jM.len_fR]; omega) | (simp [jM.len_nw, jM.len_sI, jM.len_sL, jM.len_sR, jM.len_fI, jM.len_fL, jM.len_fR, *]; omega)) (by first | omega | (exact R.r _ _) | (simp only [jM.len_sI, jM.len_sL, jM.len_sR, jM.len_fI, jM.len_fL, jM.len_fR]; omega) | (simp [jM.len_nw, jM.len_sI, jM.len_sL, jM.len_sR, jM.len_fI, jM.len_fL, jM.len_fR, *]; omega)) (by first | omega | (exact R.r _ _) | (simp only [jM.len_sI, jM.len_sL, jM.len_sR, jM.len_fI, jM.len_fL, jM.len_fR]; omega) | (simp [jM.len_nw, jM.len_sI, jM.len_sL, jM.len_sR, jM.len_fI, jM.len_fL, jM.len_fR, *]; omega)) (Or.inl rfl) rfl ?_
      refine J.iinc (pc' := 49) rfl rfl rfl (by decide) ?_
      refine J.goto (tgt := 25) rfl rfl ?_
      refine ih (i + 1) (by omega) ((k.sI 22 q (i : Int).toNat 10001).sI 23 q2 (i : Int).toNat (-1)) b1 b2 b3 b4 b5 b6 b7 b8 b9 (by rw [jM.I_sI, if_neg (by omega), jM.I_sI, if_neg (by omega)]; exact b10) (fun j hj => ?_) ((b12.stI (Or.inr qf)).stI (Or.inr (q20))) ((b13.st rfl).st rfl) _ ⟨rfl, rfl, trivial⟩
      rw [jM.I_sI, if_neg (by omega), jM.I_sI, jM.I_sI, jM.I_sI, if_neg (c := (23 = 22 ∧ _)) (by omega)]
      by_cases z : j = i
      · rw [if_pos ⟨rfl, rfl, by omega⟩, if_pos ⟨rfl, rfl, by omega⟩]
        exact ⟨rfl, rfl⟩
      · rw [if_neg (by omega), if_neg (by omega)]
        exact b11 j (by omega)
end GS

