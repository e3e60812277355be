/-- how low, how high what stands in the model -/
def jLo (t : Nat) (i : Int) : Int := if t = 16 then (if i = 14 ∨ i = 36 then -1 else 0) else if t = 120 ∨ t = 132 ∨ t = 140 ∨ t = 149 ∨ t = 155 then -1 else 0
def jHi (t : Nat) (i : Int) : Int := match t with
  | 16 => if i = 1 then 10 else if i = 2 then 8 else if i = 11 then 20 else if i = 26 then 100 else if i = 52 then 30 else if i = 37 then 99999 else if i = 36 then 12 else if i = 15 then 100 else if i = 3 then 10000 else 400
  | 108 => 1 | 117 => 7 | 119 => 12 | 120 => 99999 | 121 => 99999 | 122 => 100 | 123 => 4 | 125 => 99999
  | 127 => 7 | 128 => 9 | 129 => 50 | 131 => 19 | 132 => 12 | 133 => 99999 | 138 => 40 | 139 => 5000 | 140 => 99 | 141 => 99999
  | 148 => 20 | 149 => 21 | 150 => 20 | 153 => 20 | 154 => 20 | 155 => 99
  | _ => 10000
def isR (V : VV) : Prop := ∀ t i, jMl t = false → jLo t i ≤ V t i ∧ V t i ≤ jHi t i
theorem jLoHi (t : Nat) (i : Int) : -1 ≤ jLo t i ∧ jLo t i ≤ 0 ∧ 0 ≤ jHi t i ∧ jHi t i ≤ 99999 := by
  unfold jLo jHi
  refine ⟨?_, ?_, ?_, ?_⟩ <;> (repeat' split) <;> omega
section R1
variable {V : VV}
theorem isR.up {t : Nat} {i x : Int} (R : isR V) (hx : jMl t = false → jLo t i ≤ x ∧ x ≤ jHi t i) : isR (jU V t i x) := fun t' i' h => by
  unfold jU
  split
  · rename_i q
    rw [q.1, q.2]
    rw [q.1] at h
    exact hx h
  · exact R t' i' h
theorem isR.s (R : isR V) (t : Nat) (i : Int) (h : jMl t = false := by rfl) : -1 ≤ V t i ∧ V t i ≤ 99999 := by
  have h1 := R t i h
  have h2 := jLoHi t i
  omega
theorem isR.r (R : isR V) (t : Nat) (i : Int) (h : jMl t = false := by rfl) : r32 (V t i) := by
  have h1 := R.s t i h
  constructor <;> omega
end R1
theorem isR.f {V : VV} (R : isR V) : (0 ≤ V 16 1 ∧ V 16 1 ≤ 10) ∧ (0 ≤ V 16 2 ∧ V 16 2 ≤ 8) ∧ (0 ≤ V 16 3 ∧ V 16 3 ≤ 10000) ∧ (0 ≤ V 16 10 ∧ V 16 10 ≤ 400) ∧ (0 ≤ V 16 11 ∧ V 16 11 ≤ 20) ∧ (0 ≤ V 16 12 ∧ V 16 12 ≤ 400) ∧ (0 ≤ V 16 13 ∧ V 16 13 ≤ 400) ∧ (-1 ≤ V 16 14 ∧ V 16 14 ≤ 400) ∧ (0 ≤ V 16 15 ∧ V 16 15 ≤ 100) ∧ (0 ≤ V 16 26 ∧ V 16 26 ≤ 100) ∧ (-1 ≤ V 16 36 ∧ V 16 36 ≤ 12) ∧ (0 ≤ V 16 37 ∧ V 16 37 ≤ 99999) ∧ (0 ≤ V 16 52 ∧ V 16 52 ≤ 30) := by
  refine ⟨R 16 1 rfl, R 16 2 rfl, R 16 3 rfl, R 16 10 rfl, R 16 11 rfl, R 16 12 rfl, R 16 13 rfl, R 16 14 rfl, R 16 15 rfl, R 16 26 rfl, R 16 36 rfl, R 16 37 rfl, R 16 52 rfl⟩
section M1
variable {γ : jG} {β : jB} {V : VV}
theorem cm_thrown (B : isB β) : CT γ mX12_thrown 0 0 0 [.ref (β.2 16)] (jP β V) (fun r h' => r = some (.int (jI (V 16 0))) ∧ h' = jP β V) X0 := by
  refine CT.of MX12_thrown (Nat.le_of_ble_eq_true rfl) ?_
  show J γ mX12_thrown 0 0 0 0 0 (jP β V) 0 [(0, .ref (β.2 16))] [] _ _
  first | refine J.aload_n (pc' := 1) rfl rfl rfl ?_ | refine J.aload_nN (pc' := 1) rfl rfl rfl ?_
  refine J.mgI (pc' := 4) (j := 0) B rfl fl_X12_1 rfl rfl rfl ?_
  refine J.iret rfl rfl (by first | omega | (simp only [jM.len_sI, jM.len_sL, jM.len_sR, jM.len_fI, jM.len_fL, jM.len_fR]; omega) | (simp [jM.len_nw, jM.len_sI, jM.len_sL, jM.len_sR, jM.len_fI, jM.len_fL, jM.len_fR, *]; omega)) (by first | omega | (simp only [jM.len_sI, jM.len_sL, jM.len_sR, jM.len_fI, jM.len_fL, jM.len_fR]; omega) | (simp [jM.len_nw, jM.len_sI, jM.len_sL, jM.len_sR, jM.len_fI, jM.len_fL, jM.len_fR, *]; omega)) ?_
  exact ⟨rfl, rfl⟩
theorem cm_may1 {k : Int} (B : isB β) (h0 : V 16 0 = 0) : CT γ mX12_may 0 0 0 [.ref (β.2 16), .int (jI 1), .int (jI k)] (jP β V) (fun r h' => r = some (.int (jI 1)) ∧ h' = jP β V) X0 := by
  refine CT.of MX12_may (Nat.le_of_ble_eq_true rfl) ?_
  show J γ mX12_may 0 0 0 0 0 (jP β V) 0 [(0, .ref (β.2 16)), (1, .int (jI 1)), (2, .int (jI k))] [] _ _
  refine J.iload_n (pc' := 1) rfl rfl rfl ?_
  refine J.if_ne (tgt := 16) (pc' := 4) rfl rfl rfl (by first | omega | (simp only [jM.len_sI, jM.len_sL, jM.len_sR, jM.len_fI, jM.len_fL, jM.len_fR]; omega) | (simp [jM.len_nw, jM.len_sI, jM.len_sL, jM.len_sR, jM.len_fI, jM.len_fL, jM.len_fR, *]; omega)) (fun c1 => ?_) (fun c1 => ?_)
  · first
    | (exfalso; omega)
    | (first | refine J.aload_n (pc' := 17) rfl rfl rfl ?_ | refine J.aload_nN (pc' := 17) rfl rfl rfl ?_
       refine J.mgI (pc' := 20) (j := 0) B rfl fl_X12_1 rfl rfl rfl ?_
       refine J.if_ne (tgt := 27) (pc' := 23) rfl rfl rfl (by first | omega | (simp only [jM.len_sI, jM.len_sL, jM.len_sR, jM.len_fI, jM.len_fL, jM.len_fR]; omega) | (simp [jM.len_nw, jM.len_sI, jM.len_sL, jM.len_sR, jM.len_fI, jM.len_fL, jM.len_fR, *]; omega)) (fun c20 => ?_) (fun c20 => ?_)
       · first
         | (exfalso; omega)
         | (refine J.iconst (pc' := 28) rfl rfl ?_
            refine J.zret rfl rfl (by rfl) (by first | omega | (simp only [jM.len_sI, jM.len_sL, jM.len_sR, jM.len_fI, jM.len_fL, jM.len_fR]; omega) | (simp [jM.len_nw, jM.len_sI, jM.len_sL, jM.len_sR, jM.len_fI, jM.len_fL, jM.len_fR, *]; omega)) (by first | omega | (simp only [jM.len_sI, jM.len_sL, jM.len_sR, jM.len_fI, jM.len_fL, jM.len_fR]; omega) | (simp [jM.len_nw, jM.len_sI, jM.len_sL, jM.len_sR, jM.len_fI, jM.len_fL, jM.len_fR, *]; omega)) ?_
            exact ⟨rfl, rfl⟩)
       · first
         | (exfalso; omega)
         | (refine J.iconst (pc' := 24) rfl rfl ?_
            refine J.goto (tgt := 28) rfl rfl ?_
            refine J.zret rfl rfl (by rfl) (by first | omega | (simp only [jM.len_sI, jM.len_sL, jM.len_sR, jM.len_fI, jM.len_fL, jM.len_fR]; omega) | (simp [jM.len_nw, jM.len_sI, jM.len_sL, jM.len_sR, jM.len_fI, jM.len_fL, jM.len_fR, *]; omega)) (by first | omega | (simp only [jM.len_sI, jM.len_sL, jM.len_sR, jM.len_fI, jM.len_fL, jM.len_fR]; omega) | (simp [jM.len_nw, jM.len_sI, jM.len_sL, jM.len_sR, jM.len_fI, jM.len_fL, jM.len_fR, *]; omega)) ?_
            exact ⟨rfl, rfl⟩))
  · first
    | (exfalso; omega)
    | (first | refine J.aload_n (pc' := 5) rfl rfl rfl ?_ | refine J.aload_nN (pc' := 5) rfl rfl rfl ?_
       refine J.mgI (pc' := 8) (j := 0) B rfl fl_X12_1 rfl rfl rfl ?_
       refine J.if_ne (tgt := 16) (pc' := 11) rfl rfl rfl (by first | omega | (simp only [jM.len_sI, jM.len_sL, jM.len_sR, jM.len_fI, jM.len_fL, jM.len_fR]; omega) | (simp [jM.len_nw, jM.len_sI, jM.len_sL, jM.len_sR, jM.len_fI, jM.len_fL, jM.len_fR, *]; omega)) (fun c8 => ?_) (fun c8 => ?_)
       · first
         | (exfalso; omega)
         | (first | refine J.aload_n (pc' := 17) rfl rfl rfl ?_ | refine J.aload_nN (pc' := 17) rfl rfl rfl ?_
            refine J.mgI (pc' := 20) (j := 0) B rfl fl_X12_1 rfl rfl rfl ?_
            refine J.if_ne (tgt := 27) (pc' := 23) rfl rfl rfl (by first | omega | (simp only [jM.len_sI, jM.len_sL, jM.len_sR, jM.len_fI, jM.len_fL, jM.len_fR]; omega) | (simp [jM.len_nw, jM.len_sI, jM.len_sL, jM.len_sR, jM.len_fI, jM.len_fL, jM.len_fR, *]; omega)) (fun c20 => ?_) (fun c20 => ?_)
            · first
              | (exfalso; omega)
              | (refine J.iconst (pc' := 28) rfl rfl ?_
                 refine J.zret rfl rfl (by rfl) (by first | omega | (simp only [jM.len_sI, jM.len_sL, jM.len_sR, jM.len_fI, jM.len_fL, jM.len_fR]; omega) | (simp [jM.len_nw, jM.len_sI, jM.len_sL, jM.len_sR, jM.len_fI, jM.len_fL, jM.len_fR, *]; omega)) (by first | omega | (simp only [jM.len_sI, jM.len_sL, jM.len_sR, jM.len_fI, jM.len_fL, jM.len_fR]; omega) | (simp [jM.len_nw, jM.len_sI, jM.len_sL, jM.len_sR, jM.len_fI, jM.len_fL, jM.len_fR, *]; omega)) ?_
                 exact ⟨rfl, rfl⟩)
            · first
              | (exfalso; omega)
              | (refine J.iconst (pc' := 24) rfl rfl ?_
                 refine J.goto (tgt := 28) rfl rfl ?_
                 refine J.zret rfl rfl (by rfl) (by first | omega | (simp only [jM.len_sI, jM.len_sL, jM.len_sR, jM.len_fI, jM.len_fL, jM.len_fR]; omega) | (simp [jM.len_nw, jM.len_sI, jM.len_sL, jM.len_sR, jM.len_fI, jM.len_fL, jM.len_fR, *]; omega)) (by first | omega | (simp only [jM.len_sI, jM.len_sL, jM.len_sR, jM.len_fI, jM.len_fL, jM.len_fR]; omega) | (simp [jM.len_nw, jM.len_sI, jM.len_sL, jM.len_sR, jM.len_fI, jM.len_fL, jM.len_fR, *]; omega)) ?_
                 exact ⟨rfl, rfl⟩))
       · first
         | (exfalso; omega)
         | (first | refine J.aload_n (pc' := 12) rfl rfl rfl ?_ | refine J.aload_nN (pc' := 12) rfl rfl rfl ?_
            refine J.iload_n (pc' := 13) rfl rfl rfl ?_
            refine J.mpI (pc' := 16) (j := 0) B rfl fl_X12_1 rfl rfl rfl rfl ?_
            first | refine J.aload_n (pc' := 17) rfl rfl rfl ?_ | refine J.aload_nN (pc' := 17) rfl rfl rfl ?_
            refine J.mgI (pc' := 20) (j := 0) B rfl fl_X12_1 rfl rfl rfl ?_
            refine J.if_ne (tgt := 27) (pc' := 23) rfl rfl rfl (by first | omega | (simp only [jM.len_sI, jM.len_sL, jM.len_sR, jM.len_fI, jM.len_fL, jM.len_fR]; omega) | (simp [jM.len_nw, jM.len_sI, jM.len_sL, jM.len_sR, jM.len_fI, jM.len_fL, jM.len_fR, *]; omega)) (fun c20 => ?_) (fun c20 => ?_)
            · first
              | (exfalso; omega)
              | (refine J.iconst (pc' := 28) rfl rfl ?_
                 refine J.zret rfl rfl (by rfl) (by first | omega | (simp only [jM.len_sI, jM.len_sL, jM.len_sR, jM.len_fI, jM.len_fL, jM.len_fR]; omega) | (simp [jM.len_nw, jM.len_sI, jM.len_sL, jM.len_sR, jM.len_fI, jM.len_fL, jM.len_fR, *]; omega)) (by first | omega | (simp only [jM.len_sI, jM.len_sL, jM.len_sR, jM.len_fI, jM.len_fL, jM.len_fR]; omega) | (simp [jM.len_nw, jM.len_sI, jM.len_sL, jM.len_sR, jM.len_fI, jM.len_fL, jM.len_fR, *]; omega)) ?_
                 exact ⟨rfl, rfl⟩)
            · first
              | (exfalso; omega)
              | (refine J.iconst (pc' := 24) rfl rfl ?_
                 refine J.goto (tgt := 28) rfl rfl ?_
                 refine J.zret rfl rfl (by rfl) (by first | omega | (simp only [jM.len_sI, jM.len_sL, jM.len_sR, jM.len_fI, jM.len_fL, jM.len_fR]; omega) | (simp [jM.len_nw, jM.len_sI, jM.len_sL, jM.len_sR, jM.len_fI, jM.len_fL, jM.len_fR, *]; omega)) (by first | omega | (simp only [jM.len_sI, jM.len_sL, jM.len_sR, jM.len_fI, jM.len_fL, jM.len_fR]; omega) | (simp [jM.len_nw, jM.len_sI, jM.len_sL, jM.len_sR, jM.len_fI, jM.len_fL, jM.len_fR, *]; omega)) ?_
                 exact ⟨rfl, rfl⟩)))
theorem cm_may0 {k : Int} (B : isB β) (h0 : V 16 0 = 0) (hk : 0 < k ∧ k < 4) : CT γ mX12_may 0 0 0 [.ref (β.2 16), .int (jI 0), .int (jI k)] (jP β V) (fun r h' => r = some (.int (jI 0)) ∧ h' = jP β (jU V 16 0 k)) X0 := by
  refine CT.of MX12_may (Nat.le_of_ble_eq_true rfl) ?_
  show J γ mX12_may 0 0 0 0 0 (jP β V) 0 [(0, .ref (β.2 16)), (1, .int (jI 0)), (2, .int (jI k))] [] _ _
  refine J.iload_n (pc' := 1) rfl rfl rfl ?_
  refine J.if_ne (tgt := 16) (pc' := 4) rfl rfl rfl (by first | omega | (simp only [jM.len_sI, jM.len_sL, jM.len_sR, jM.len_fI, jM.len_fL, jM.len_fR]; omega) | (simp [jM.len_nw, jM.len_sI, jM.len_sL, jM.len_sR, jM.len_fI, jM.len_fL, jM.len_fR, *]; omega)) (fun c1 => ?_) (fun c1 => ?_)
  · first
    | (exfalso; omega)
    | (first | refine J.aload_n (pc' := 17) rfl rfl rfl ?_ | refine J.aload_nN (pc' := 17) rfl rfl rfl ?_
       refine J.mgI (pc' := 20) (j := 0) B rfl fl_X12_1 rfl rfl rfl ?_
       try rw [jU_same]
       refine J.if_ne (tgt := 27) (pc' := 23) rfl rfl rfl (by first | omega | (simp only [jM.len_sI, jM.len_sL, jM.len_sR, jM.len_fI, jM.len_fL, jM.len_fR]; omega) | (simp [jM.len_nw, jM.len_sI, jM.len_sL, jM.len_sR, jM.len_fI, jM.len_fL, jM.len_fR, *]; omega)) (fun c20 => ?_) (fun c20 => ?_)
       · first
         | (exfalso; omega)
         | (refine J.iconst (pc' := 28) rfl rfl ?_
            refine J.zret rfl rfl (by rfl) (by first | omega | (simp only [jM.len_sI, jM.len_sL, jM.len_sR, jM.len_fI, jM.len_fL, jM.len_fR]; omega) | (simp [jM.len_nw, jM.len_sI, jM.len_sL, jM.len_sR, jM.len_fI, jM.len_fL, jM.len_fR, *]; omega)) (by first | omega | (simp only [jM.len_sI, jM.len_sL, jM.len_sR, jM.len_fI, jM.len_fL, jM.len_fR]; omega) | (simp [jM.len_nw, jM.len_sI, jM.len_sL, jM.len_sR, jM.len_fI, jM.len_fL, jM.len_fR, *]; omega)) ?_
            exact ⟨rfl, rfl⟩)
       · first
         | (exfalso; omega)
         | (refine J.iconst (pc' := 24) rfl rfl ?_
            refine J.goto (tgt := 28) rfl rfl ?_
            refine J.zret rfl rfl (by rfl) (by first | omega | (simp only [jM.len_sI, jM.len_sL, jM.len_sR, jM.len_fI, jM.len_fL, jM.len_fR]; omega) | (simp [jM.len_nw, jM.len_sI, jM.len_sL, jM.len_sR, jM.len_fI, jM.len_fL, jM.len_fR, *]; omega)) (by first | omega | (simp only [jM.len_sI, jM.len_sL, jM.len_sR, jM.len_fI, jM.len_fL, jM.len_fR]; omega) | (simp [jM.len_nw, jM.len_sI, jM.len_sL, jM.len_sR, jM.len_fI, jM.len_fL, jM.len_fR, *]; omega)) ?_
            exact ⟨rfl, rfl⟩))
  · first
    | (exfalso; omega)
    | (first | refine J.aload_n (pc' := 5) rfl rfl rfl ?_ | refine J.aload_nN (pc' := 5) rfl rfl rfl ?_
       refine J.mgI (pc' := 8) (j := 0) B rfl fl_X12_1 rfl rfl rfl ?_
       refine J.if_ne (tgt := 16) (pc' := 11) rfl rfl rfl (by first | omega | (simp only [jM.len_sI, jM.len_sL, jM.len_sR, jM.len_fI, jM.len_fL, jM.len_fR]; omega) | (simp [jM.len_nw, jM.len_sI, jM.len_sL, jM.len_sR, jM.len_fI, jM.len_fL, jM.len_fR, *]; omega)) (fun c8 => ?_) (fun c8 => ?_)
       · first
         | (exfalso; omega)
         | (first | refine J.aload_n (pc' := 17) rfl rfl rfl ?_ | refine J.aload_nN (pc' := 17) rfl rfl rfl ?_
            refine J.mgI (pc' := 20) (j := 0) B rfl fl_X12_1 rfl rfl rfl ?_
            try rw [jU_same]
            refine J.if_ne (tgt := 27) (pc' := 23) rfl rfl rfl (by first | omega | (simp only [jM.len_sI, jM.len_sL, jM.len_sR, jM.len_fI, jM.len_fL, jM.len_fR]; omega) | (simp [jM.len_nw, jM.len_sI, jM.len_sL, jM.len_sR, jM.len_fI, jM.len_fL, jM.len_fR, *]; omega)) (fun c20 => ?_) (fun c20 => ?_)
            · first
              | (exfalso; omega)
              | (refine J.iconst (pc' := 28) rfl rfl ?_
                 refine J.zret rfl rfl (by rfl) (by first | omega | (simp only [jM.len_sI, jM.len_sL, jM.len_sR, jM.len_fI, jM.len_fL, jM.len_fR]; omega) | (simp [jM.len_nw, jM.len_sI, jM.len_sL, jM.len_sR, jM.len_fI, jM.len_fL, jM.len_fR, *]; omega)) (by first | omega | (simp only [jM.len_sI, jM.len_sL, jM.len_sR, jM.len_fI, jM.len_fL, jM.len_fR]; omega) | (simp [jM.len_nw, jM.len_sI, jM.len_sL, jM.len_sR, jM.len_fI, jM.len_fL, jM.len_fR, *]; omega)) ?_
                 exact ⟨rfl, rfl⟩)
            · first
              | (exfalso; omega)
              | (refine J.iconst (pc' := 24) rfl rfl ?_
                 refine J.goto (tgt := 28) rfl rfl ?_
                 refine J.zret rfl rfl (by rfl) (by first | omega | (simp only [jM.len_sI, jM.len_sL, jM.len_sR, jM.len_fI, jM.len_fL, jM.len_fR]; omega) | (simp [jM.len_nw, jM.len_sI, jM.len_sL, jM.len_sR, jM.len_fI, jM.len_fL, jM.len_fR, *]; omega)) (by first | omega | (simp only [jM.len_sI, jM.len_sL, jM.len_sR, jM.len_fI, jM.len_fL, jM.len_fR]; omega) | (simp [jM.len_nw, jM.len_sI, jM.len_sL, jM.len_sR, jM.len_fI, jM.len_fL, jM.len_fR, *]; omega)) ?_
                 exact ⟨rfl, rfl⟩))
       · first
         | (exfalso; omega)
         | (first | refine J.aload_n (pc' := 12) rfl rfl rfl ?_ | refine J.aload_nN (pc' := 12) rfl rfl rfl ?_
            refine J.iload_n (pc' := 13) rfl rfl rfl ?_
            refine J.mpI (pc' := 16) (j := 0) B rfl fl_X12_1 rfl rfl rfl rfl ?_
            first | refine J.aload_n (pc' := 17) rfl rfl rfl ?_ | refine J.aload_nN (pc' := 17) rfl rfl rfl ?_
            refine J.mgI (pc' := 20) (j := 0) B rfl fl_X12_1 rfl rfl rfl ?_
            try rw [jU_same]
            refine J.if_ne (tgt := 27) (pc' := 23) rfl rfl rfl (by first | omega | (simp only [jM.len_sI, jM.len_sL, jM.len_sR, jM.len_fI, jM.len_fL, jM.len_fR]; omega) | (simp [jM.len_nw, jM.len_sI, jM.len_sL, jM.len_sR, jM.len_fI, jM.len_fL, jM.len_fR, *]; omega)) (fun c20 => ?_) (fun c20 => ?_)
            · first
              | (exfalso; omega)
              | (refine J.iconst (pc' := 28) rfl rfl ?_
                 refine J.zret rfl rfl (by rfl) (by first | omega | (simp only [jM.len_sI, jM.len_sL, jM.len_sR, jM.len_fI, jM.len_fL, jM.len_fR]; omega) | (simp [jM.len_nw, jM.len_sI, jM.len_sL, jM.len_sR, jM.len_fI, jM.len_fL, jM.len_fR, *]; omega)) (by first | omega | (simp only [jM.len_sI, jM.len_sL, jM.len_sR, jM.len_fI, jM.len_fL, jM.len_fR]; omega) | (simp [jM.len_nw, jM.len_sI, jM.len_sL, jM.len_sR, jM.len_fI, jM.len_fL, jM.len_fR, *]; omega)) ?_
                 exact ⟨rfl, rfl⟩)
            · first
              | (exfalso; omega)
              | (refine J.iconst (pc' := 24) rfl rfl ?_
                 refine J.goto (tgt := 28) rfl rfl ?_
                 refine J.zret rfl rfl (by rfl) (by first | omega | (simp only [jM.len_sI, jM.len_sL, jM.len_sR, jM.len_fI, jM.len_fL, jM.len_fR]; omega) | (simp [jM.len_nw, jM.len_sI, jM.len_sL, jM.len_sR, jM.len_fI, jM.len_fL, jM.len_fR, *]; omega)) (by first | omega | (simp only [jM.len_sI, jM.len_sL, jM.len_sR, jM.len_fI, jM.len_fL, jM.len_fR]; omega) | (simp [jM.len_nw, jM.len_sI, jM.len_sL, jM.len_sR, jM.len_fI, jM.len_fL, jM.len_fR, *]; omega)) ?_
                 exact ⟨rfl, rfl⟩)))
def inM (m : Int) : Prop := 0 ≤ m ∧ m < 5
def inS (m l g : Int) : Prop := (0 ≤ m ∧ m < 5) ∧ 0 ≤ l ∧ l ≤ g ∧ g ≤ 10000
theorem cm_isMetal {m : Int} {h : jM} (hm : r32 m) : CT γ mX12_isMetal 0 0 0 [.int (jI m)] h (fun r h' => ∃ b : Int, (b = 1 ∧ (0 ≤ m ∧ m < 5) ∨ b = 0 ∧ ¬ (0 ≤ m ∧ m < 5)) ∧ r = some (.int (jI b)) ∧ h' = h) X0 := by
  refine CT.of MX12_isMetal (Nat.le_of_ble_eq_true rfl) ?_
  show J γ mX12_isMetal 0 0 0 0 0 h 0 [(0, .int (jI m))] [] _ _
  refine J.iload_n (pc' := 1) rfl rfl rfl ?_
  refine J.if_lt (tgt := 13) (pc' := 4) rfl rfl rfl (by first | omega | (simp only [jM.len_sI, jM.len_sL, jM.len_sR, jM.len_fI, jM.len_fL, jM.len_fR]; omega) | (simp [jM.len_nw, jM.len_sI, jM.len_sL, jM.len_sR, jM.len_fI, jM.len_fL, jM.len_fR, *]; omega)) (fun c1 => ?_) (fun c1 => ?_)
  · refine J.iconst (pc' := 14) rfl rfl ?_
    refine J.zret rfl rfl (by rfl) (by first | omega | (simp only [jM.len_sI, jM.len_sL, jM.len_sR, jM.len_fI, jM.len_fL, jM.len_fR]; omega) | (simp [jM.len_nw, jM.len_sI, jM.len_sL, jM.len_sR, jM.len_fI, jM.len_fL, jM.len_fR, *]; omega)) (by first | omega | (simp only [jM.len_sI, jM.len_sL, jM.len_sR, jM.len_fI, jM.len_fL, jM.len_fR]; omega) | (simp [jM.len_nw, jM.len_sI, jM.len_sL, jM.len_sR, jM.len_fI, jM.len_fL, jM.len_fR, *]; omega)) ?_
    exact ⟨_, by omega, rfl, rfl⟩
  · refine J.iload_n (pc' := 5) rfl rfl rfl ?_
    refine J.iconst (pc' := 6) rfl rfl ?_
    refine J.icmp_ge (tgt := 13) (pc' := 9) rfl rfl rfl (by first | omega | (simp only [jM.len_sI, jM.len_sL, jM.len_sR, jM.len_fI, jM.len_fL, jM.len_fR]; omega) | (simp [jM.len_nw, jM.len_sI, jM.len_sL, jM.len_sR, jM.len_fI, jM.len_fL, jM.len_fR, *]; omega)) (by first | omega | (simp only [jM.len_sI, jM.len_sL, jM.len_sR, jM.len_fI, jM.len_fL, jM.len_fR]; omega) | (simp [jM.len_nw, jM.len_sI, jM.len_sL, jM.len_sR, jM.len_fI, jM.len_fL, jM.len_fR, *]; omega)) (fun c6 => ?_) (fun c6 => ?_)
    · refine J.iconst (pc' := 14) rfl rfl ?_
      refine J.zret rfl rfl (by rfl) (by first | omega | (simp only [jM.len_sI, jM.len_sL, jM.len_sR, jM.len_fI, jM.len_fL, jM.len_fR]; omega) | (simp [jM.len_nw, jM.len_sI, jM.len_sL, jM.len_sR, jM.len_fI, jM.len_fL, jM.len_fR, *]; omega)) (by first | omega | (simp only [jM.len_sI, jM.len_sL, jM.len_sR, jM.len_fI, jM.len_fL, jM.len_fR]; omega) | (simp [jM.len_nw, jM.len_sI, jM.len_sL, jM.len_sR, jM.len_fI, jM.len_fL, jM.len_fR, *]; omega)) ?_
      exact ⟨_, by omega, rfl, rfl⟩
    · refine J.iconst (pc' := 10) rfl rfl ?_
      refine J.goto (tgt := 14) rfl rfl ?_
      refine J.zret rfl rfl (by rfl) (by first | omega | (simp only [jM.len_sI, jM.len_sL, jM.len_sR, jM.len_fI, jM.len_fL, jM.len_fR]; omega) | (simp [jM.len_nw, jM.len_sI, jM.len_sL, jM.len_sR, jM.len_fI, jM.len_fL, jM.len_fR, *]; omega)) (by first | omega | (simp only [jM.len_sI, jM.len_sL, jM.len_sR, jM.len_fI, jM.len_fL, jM.len_fR]; omega) | (simp [jM.len_nw, jM.len_sI, jM.len_sL, jM.len_sR, jM.len_fI, jM.len_fL, jM.len_fR, *]; omega)) ?_
      exact ⟨_, by omega, rfl, rfl⟩
theorem cm_isSpan {m l g : Int} {h : jM} (hm : r32 m) (hl : r32 l) (hg : r32 g) : CT γ mX12_isSpan 1 0 0 [.int (jI m), .int (jI l), .int (jI g)] h (fun r h' => ∃ b : Int, (b = 1 ∧ ((0 ≤ m ∧ m < 5) ∧ 0 ≤ l ∧ l ≤ g ∧ g ≤ 10000) ∨ b = 0 ∧ ¬ ((0 ≤ m ∧ m < 5) ∧ 0 ≤ l ∧ l ≤ g ∧ g ≤ 10000)) ∧ r = some (.int (jI b)) ∧ h' = h) X0 := by
  refine CT.of MX12_isSpan (Nat.le_of_ble_eq_true rfl) ?_
  show J γ mX12_isSpan 1 0 0 0 0 h 0 [(0, .int (jI m)), (1, .int (jI l)), (2, .int (jI g))] [] _ _
  refine J.iload_n (pc' := 1) rfl rfl rfl ?_
  refine J.callS (pc' := 4) rfl MX12_isMetal ml_X12_157 is_X12_isMetal (cm_isMetal hm) rfl rfl (Nat.le_of_ble_eq_true rfl) (by first | omega | (simp only [jM.len_sI, jM.len_sL, jM.len_sR, jM.len_fI, jM.len_fL, jM.len_fR]; omega) | (simp [jM.len_nw, jM.len_sI, jM.len_sL, jM.len_sR, jM.len_fI, jM.len_fL, jM.len_fR, *]; omega)) (by first | omega | (simp only [jM.len_sI, jM.len_sL, jM.len_sR, jM.len_fI, jM.len_fL, jM.len_fR]; omega) | (simp [jM.len_nw, jM.len_sI, jM.len_sL, jM.len_sR, jM.len_fI, jM.len_fL, jM.len_fR, *]; omega)) (by first | omega | (simp only [jM.len_sI, jM.len_sL, jM.len_sR, jM.len_fI, jM.len_fL, jM.len_fR]; omega) | (simp [jM.len_nw, jM.len_sI, jM.len_sL, jM.len_sR, jM.len_fI, jM.len_fL, jM.len_fR, *]; omega)) rfl rfl ?_ ?_
  · exact fun _ _ h => h
  rintro _ _ ⟨b, hb, rfl, rfl⟩
  refine J.if_eq (tgt := 27) (pc' := 7) rfl rfl rfl (by first | omega | (simp only [jM.len_sI, jM.len_sL, jM.len_sR, jM.len_fI, jM.len_fL, jM.len_fR]; omega) | (simp [jM.len_nw, jM.len_sI, jM.len_sL, jM.len_sR, jM.len_fI, jM.len_fL, jM.len_fR, *]; omega)) (fun c4 => ?_) (fun c4 => ?_)
  · refine J.iconst (pc' := 28) rfl rfl ?_
    refine J.zret rfl rfl (by rfl) (by first | omega | (simp only [jM.len_sI, jM.len_sL, jM.len_sR, jM.len_fI, jM.len_fL, jM.len_fR]; omega) | (simp [jM.len_nw, jM.len_sI, jM.len_sL, jM.len_sR, jM.len_fI, jM.len_fL, jM.len_fR, *]; omega)) (by first | omega | (simp only [jM.len_sI, jM.len_sL, jM.len_sR, jM.len_fI, jM.len_fL, jM.len_fR]; omega) | (simp [jM.len_nw, jM.len_sI, jM.len_sL, jM.len_sR, jM.len_fI, jM.len_fL, jM.len_fR, *]; omega)) ?_
    exact ⟨_, by omega, rfl, rfl⟩
  · refine J.iload_n (pc' := 8) rfl rfl rfl ?_
    refine J.if_lt (tgt := 27) (pc' := 11) rfl rfl rfl (by first | omega | (simp only [jM.len_sI, jM.len_sL, jM.len_sR, jM.len_fI, jM.len_fL, jM.len_fR]; omega) | (simp [jM.len_nw, jM.len_sI, jM.len_sL, jM.len_sR, jM.len_fI, jM.len_fL, jM.len_fR, *]; omega)) (fun c8 => ?_) (fun c8 => ?_)
    · refine J.iconst (pc' := 28) rfl rfl ?_
      refine J.zret rfl rfl (by rfl) (by first | omega | (simp only [jM.len_sI, jM.len_sL, jM.len_sR, jM.len_fI, jM.len_fL, jM.len_fR]; omega) | (simp [jM.len_nw, jM.len_sI, jM.len_sL, jM.len_sR, jM.len_fI, jM.len_fL, jM.len_fR, *]; omega)) (by first | omega | (simp only [jM.len_sI, jM.len_sL, jM.len_sR, jM.len_fI, jM.len_fL, jM.len_fR]; omega) | (simp [jM.len_nw, jM.len_sI, jM.len_sL, jM.len_sR, jM.len_fI, jM.len_fL, jM.len_fR, *]; omega)) ?_
      exact ⟨_, by omega, rfl, rfl⟩
    · refine J.iload_n (pc' := 12) rfl rfl rfl ?_
      refine J.iload_n (pc' := 13) rfl rfl rfl ?_
      refine J.icmp_gt (tgt := 27) (pc' := 16) rfl rfl rfl (by first | omega | (simp only [jM.len_sI, jM.len_sL, jM.len_sR, jM.len_fI, jM.len_fL, jM.len_fR]; omega) | (simp [jM.len_nw, jM.len_sI, jM.len_sL, jM.len_sR, jM.len_fI, jM.len_fL, jM.len_fR, *]; omega)) (by first | omega | (simp only [jM.len_sI, jM.len_sL, jM.len_sR, jM.len_fI, jM.len_fL, jM.len_fR]; omega) | (simp [jM.len_nw, jM.len_sI, jM.len_sL, jM.len_sR, jM.len_fI, jM.len_fL, jM.len_fR, *]; omega)) (fun c13 => ?_) (fun c13 => ?_)
      · refine J.iconst (pc' := 28) rfl rfl ?_
        refine J.zret rfl rfl (by rfl) (by first | omega | (simp only [jM.len_sI, jM.len_sL, jM.len_sR, jM.len_fI, jM.len_fL, jM.len_fR]; omega) | (simp [jM.len_nw, jM.len_sI, jM.len_sL, jM.len_sR, jM.len_fI, jM.len_fL, jM.len_fR, *]; omega)) (by first | omega | (simp only [jM.len_sI, jM.len_sL, jM.len_sR, jM.len_fI, jM.len_fL, jM.len_fR]; omega) | (simp [jM.len_nw, jM.len_sI, jM.len_sL, jM.len_sR, jM.len_fI, jM.len_fL, jM.len_fR, *]; omega)) ?_
        exact ⟨_, by omega, rfl, rfl⟩
      · refine J.iload_n (pc' := 17) rfl rfl rfl ?_
        refine J.sipush (pc' := 20) rfl rfl (by decide) ?_
        refine J.icmp_gt (tgt := 27) (pc' := 23) rfl rfl rfl (by first | omega | (simp only [jM.len_sI, jM.len_sL, jM.len_sR, jM.len_fI, jM.len_fL, jM.len_fR]; omega) | (simp [jM.len_nw, jM.len_sI, jM.len_sL, jM.len_sR, jM.len_fI, jM.len_fL, jM.len_fR, *]; omega)) (by first | omega | (simp only [jM.len_sI, jM.len_sL, jM.len_sR, jM.len_fI, jM.len_fL, jM.len_fR]; omega) | (simp [jM.len_nw, jM.len_sI, jM.len_sL, jM.len_sR, jM.len_fI, jM.len_fL, jM.len_fR, *]; omega)) (fun c20 => ?_) (fun c20 => ?_)
        · refine J.iconst (pc' := 28) rfl rfl ?_
          refine J.zret rfl rfl (by rfl) (by first | omega | (simp only [jM.len_sI, jM.len_sL, jM.len_sR, jM.len_fI, jM.len_fL, jM.len_fR]; omega) | (simp [jM.len_nw, jM.len_sI, jM.len_sL, jM.len_sR, jM.len_fI, jM.len_fL, jM.len_fR, *]; omega)) (by first | omega | (simp only [jM.len_sI, jM.len_sL, jM.len_sR, jM.len_fI, jM.len_fL, jM.len_fR]; omega) | (simp [jM.len_nw, jM.len_sI, jM.len_sL, jM.len_sR, jM.len_fI, jM.len_fL, jM.len_fR, *]; omega)) ?_
          exact ⟨_, by omega, rfl, rfl⟩
        · refine J.iconst (pc' := 24) rfl rfl ?_
          refine J.goto (tgt := 28) rfl rfl ?_
          refine J.zret rfl rfl (by rfl) (by first | omega | (simp only [jM.len_sI, jM.len_sL, jM.len_sR, jM.len_fI, jM.len_fL, jM.len_fR]; omega) | (simp [jM.len_nw, jM.len_sI, jM.len_sL, jM.len_sR, jM.len_fI, jM.len_fL, jM.len_fR, *]; omega)) (by first | omega | (simp only [jM.len_sI, jM.len_sL, jM.len_sR, jM.len_fI, jM.len_fL, jM.len_fR]; omega) | (simp [jM.len_nw, jM.len_sI, jM.len_sL, jM.len_sR, jM.len_fI, jM.len_fL, jM.len_fR, *]; omega)) ?_
          exact ⟨_, by omega, rfl, rfl⟩
/-- isSeller, isLoad, isMelt, isHeap: one of the first n -/
def mayQ (β : jB) (V : VV) (c : Prop) (k : Int) : Option Value → jM → Prop := fun r h' => ∃ b : Int, (b = 1 ∧ c ∧ h' = jP β V ∨ b = 0 ∧ ¬ c ∧ h' = jP β (jU V 16 0 k)) ∧ r = some (.int (jI b))
theorem cm_isSeller {x : Int} (B : isB β) (R : isR V) (h0 : V 16 0 = 0) (hx : r32 x) : CT γ mX12_isSeller 1 0 0 [.ref (β.2 16), .int (jI x)] (jP β V) (mayQ β V (0 ≤ x ∧ x < V 16 2) 1) X0 := by
  have hf := R.f
  refine CT.of MX12_isSeller (Nat.le_of_ble_eq_true rfl) ?_
  show J γ mX12_isSeller 1 0 0 0 0 (jP β V) 0 [(0, .ref (β.2 16)), (1, .int (jI x))] [] _ _
  first | refine J.aload_n (pc' := 1) rfl rfl rfl ?_ | refine J.aload_nN (pc' := 1) rfl rfl rfl ?_
  refine J.iload_n (pc' := 2) rfl rfl rfl ?_
  refine J.if_lt (tgt := 17) (pc' := 5) rfl rfl rfl (by first | omega | (simp only [jM.len_sI, jM.len_sL, jM.len_sR, jM.len_fI, jM.len_fL, jM.len_fR]; omega) | (simp [jM.len_nw, jM.len_sI, jM.len_sL, jM.len_sR, jM.len_fI, jM.len_fL, jM.len_fR, *]; omega)) (fun c2 => ?_) (fun c2 => ?_)
  · refine J.iconst (pc' := 18) rfl rfl ?_
    refine J.iconst (pc' := 19) rfl rfl ?_
    first | refine J.callV (pc' := 22) (t := 16) rfl MX12_may ml_X12_161 iv_X12_may (by decide) ⟨_, rfl, rfl⟩ B.1 (cm_may1 B h0) rfl rfl (Nat.le_of_ble_eq_true rfl) (by first | omega | (simp only [jM.len_sI, jM.len_sL, jM.len_sR, jM.len_fI, jM.len_fL, jM.len_fR]; omega) | (simp [jM.len_nw, jM.len_sI, jM.len_sL, jM.len_sR, jM.len_fI, jM.len_fL, jM.len_fR, *]; omega)) (by first | omega | (simp only [jM.len_sI, jM.len_sL, jM.len_sR, jM.len_fI, jM.len_fL, jM.len_fR]; omega) | (simp [jM.len_nw, jM.len_sI, jM.len_sL, jM.len_sR, jM.len_fI, jM.len_fL, jM.len_fR, *]; omega)) (by first | omega | (simp only [jM.len_sI, jM.len_sL, jM.len_sR, jM.len_fI, jM.len_fL, jM.len_fR]; omega) | (simp [jM.len_nw, jM.len_sI, jM.len_sL, jM.len_sR, jM.len_fI, jM.len_fL, jM.len_fR, *]; omega)) rfl rfl ?_ ?_ | refine J.callV (pc' := 22) (t := 16) rfl MX12_may ml_X12_161 iv_X12_may (by decide) ⟨_, rfl, rfl⟩ B.1 (cm_may0 B h0 (by omega)) rfl rfl (Nat.le_of_ble_eq_true rfl) (by first | omega | (simp only [jM.len_sI, jM.len_sL, jM.len_sR, jM.len_fI, jM.len_fL, jM.len_fR]; omega) | (simp [jM.len_nw, jM.len_sI, jM.len_sL, jM.len_sR, jM.len_fI, jM.len_fL, jM.len_fR, *]; omega)) (by first | omega | (simp only [jM.len_sI, jM.len_sL, jM.len_sR, jM.len_fI, jM.len_fL, jM.len_fR]; omega) | (simp [jM.len_nw, jM.len_sI, jM.len_sL, jM.len_sR, jM.len_fI, jM.len_fL, jM.len_fR, *]; omega)) (by first | omega | (simp only [jM.len_sI, jM.len_sL, jM.len_sR, jM.len_fI, jM.len_fL, jM.len_fR]; omega) | (simp [jM.len_nw, jM.len_sI, jM.len_sL, jM.len_sR, jM.len_fI, jM.len_fL, jM.len_fR, *]; omega)) rfl rfl ?_ ?_
    · exact fun _ _ h => h
    rintro _ _ ⟨rfl, rfl⟩
    refine J.zret rfl rfl (by rfl) (by first | omega | (simp only [jM.len_sI, jM.len_sL, jM.len_sR, jM.len_fI, jM.len_fL, jM.len_fR]; omega) | (simp [jM.len_nw, jM.len_sI, jM.len_sL, jM.len_sR, jM.len_fI, jM.len_fL, jM.len_fR, *]; omega)) (by first | omega | (simp only [jM.len_sI, jM.len_sL, jM.len_sR, jM.len_fI, jM.len_fL, jM.len_fR]; omega) | (simp [jM.len_nw, jM.len_sI, jM.len_sL, jM.len_sR, jM.len_fI, jM.len_fL, jM.len_fR, *]; omega)) ?_
    first | exact ⟨_, Or.inl ⟨rfl, by omega, rfl⟩, rfl⟩ | exact ⟨_, Or.inr ⟨rfl, by omega, rfl⟩, rfl⟩
  · refine J.iload_n (pc' := 6) rfl rfl rfl ?_
    first | refine J.aload_n (pc' := 7) rfl rfl rfl ?_ | refine J.aload_nN (pc' := 7) rfl rfl rfl ?_
    refine J.mgI (pc' := 10) (j := 2) B rfl fl_X12_169 rfl rfl rfl ?_
    refine J.icmp_ge (tgt := 17) (pc' := 13) rfl rfl rfl (by first | omega | (simp only [jM.len_sI, jM.len_sL, jM.len_sR, jM.len_fI, jM.len_fL, jM.len_fR]; omega) | (simp [jM.len_nw, jM.len_sI, jM.len_sL, jM.len_sR, jM.len_fI, jM.len_fL, jM.len_fR, *]; omega)) (by first | omega | (simp only [jM.len_sI, jM.len_sL, jM.len_sR, jM.len_fI, jM.len_fL, jM.len_fR]; omega) | (simp [jM.len_nw, jM.len_sI, jM.len_sL, jM.len_sR, jM.len_fI, jM.len_fL, jM.len_fR, *]; omega)) (fun c10 => ?_) (fun c10 => ?_)
    · refine J.iconst (pc' := 18) rfl rfl ?_
      refine J.iconst (pc' := 19) rfl rfl ?_
      first | refine J.callV (pc' := 22) (t := 16) rfl MX12_may ml_X12_161 iv_X12_may (by decide) ⟨_, rfl, rfl⟩ B.1 (cm_may1 B h0) rfl rfl (Nat.le_of_ble_eq_true rfl) (by first | omega | (simp only [jM.len_sI, jM.len_sL, jM.len_sR, jM.len_fI, jM.len_fL, jM.len_fR]; omega) | (simp [jM.len_nw, jM.len_sI, jM.len_sL, jM.len_sR, jM.len_fI, jM.len_fL, jM.len_fR, *]; omega)) (by first | omega | (simp only [jM.len_sI, jM.len_sL, jM.len_sR, jM.len_fI, jM.len_fL, jM.len_fR]; omega) | (simp [jM.len_nw, jM.len_sI, jM.len_sL, jM.len_sR, jM.len_fI, jM.len_fL, jM.len_fR, *]; omega)) (by first | omega | (simp only [jM.len_sI, jM.len_sL, jM.len_sR, jM.len_fI, jM.len_fL, jM.len_fR]; omega) | (simp [jM.len_nw, jM.len_sI, jM.len_sL, jM.len_sR, jM.len_fI, jM.len_fL, jM.len_fR, *]; omega)) rfl rfl ?_ ?_ | refine J.callV (pc' := 22) (t := 16) rfl MX12_may ml_X12_161 iv_X12_may (by decide) ⟨_, rfl, rfl⟩ B.1 (cm_may0 B h0 (by omega)) rfl rfl (Nat.le_of_ble_eq_true rfl) (by first | omega | (simp only [jM.len_sI, jM.len_sL, jM.len_sR, jM.len_fI, jM.len_fL, jM.len_fR]; omega) | (simp [jM.len_nw, jM.len_sI, jM.len_sL, jM.len_sR, jM.len_fI, jM.len_fL, jM.len_fR, *]; omega)) (by first | omega | (simp only [jM.len_sI, jM.len_sL, jM.len_sR, jM.len_fI, jM.len_fL, jM.len_fR]; omega) | (simp [jM.len_nw, jM.len_sI, jM.len_sL, jM.len_sR, jM.len_fI, jM.len_fL, jM.len_fR, *]; omega)) (by first | omega | (simp only [jM.len_sI, jM.len_sL, jM.len_sR, jM.len_fI, jM.len_fL, jM.len_fR]; omega) | (simp [jM.len_nw, jM.len_sI, jM.len_sL, jM.len_sR, jM.len_fI, jM.len_fL, jM.len_fR, *]; omega)) rfl rfl ?_ ?_
      · exact fun _ _ h => h
      rintro _ _ ⟨rfl, rfl⟩
      refine J.zret rfl rfl (by rfl) (by first | omega | (simp only [jM.len_sI, jM.len_sL, jM.len_sR, jM.len_fI, jM.len_fL, jM.len_fR]; omega) | (simp [jM.len_nw, jM.len_sI, jM.len_sL, jM.len_sR, jM.len_fI, jM.len_fL, jM.len_fR, *]; omega)) (by first | omega | (simp only [jM.len_sI, jM.len_sL, jM.len_sR, jM.len_fI, jM.len_fL, jM.len_fR]; omega) | (simp [jM.len_nw, jM.len_sI, jM.len_sL, jM.len_sR, jM.len_fI, jM.len_fL, jM.len_fR, *]; omega)) ?_
      first | exact ⟨_, Or.inl ⟨rfl, by omega, rfl⟩, rfl⟩ | exact ⟨_, Or.inr ⟨rfl, by omega, rfl⟩, rfl⟩
    · refine J.iconst (pc' := 14) rfl rfl ?_
      refine J.goto (tgt := 18) rfl rfl ?_
      refine J.iconst (pc' := 19) rfl rfl ?_
      first | refine J.callV (pc' := 22) (t := 16) rfl MX12_may ml_X12_161 iv_X12_may (by decide) ⟨_, rfl, rfl⟩ B.1 (cm_may1 B h0) rfl rfl (Nat.le_of_ble_eq_true rfl) (by first | omega | (simp only [jM.len_sI, jM.len_sL, jM.len_sR, jM.len_fI, jM.len_fL, jM.len_fR]; omega) | (simp [jM.len_nw, jM.len_sI, jM.len_sL, jM.len_sR, jM.len_fI, jM.len_fL, jM.len_fR, *]; omega)) (by first | omega | (simp only [jM.len_sI, jM.len_sL, jM.len_sR, jM.len_fI, jM.len_fL, jM.len_fR]; omega) | (simp [jM.len_nw, jM.len_sI, jM.len_sL, jM.len_sR, jM.len_fI, jM.len_fL, jM.len_fR, *]; omega)) (by first | omega | (simp only [jM.len_sI, jM.len_sL, jM.len_sR, jM.len_fI, jM.len_fL, jM.len_fR]; omega) | (simp [jM.len_nw, jM.len_sI, jM.len_sL, jM.len_sR, jM.len_fI, jM.len_fL, jM.len_fR, *]; omega)) rfl rfl ?_ ?_ | refine J.callV (pc' := 22) (t := 16) rfl MX12_may ml_X12_161 iv_X12_may (by decide) ⟨_, rfl, rfl⟩ B.1 (cm_may0 B h0 (by omega)) rfl rfl (Nat.le_of_ble_eq_true rfl) (by first | omega | (simp only [jM.len_sI, jM.len_sL, jM.len_sR, jM.len_fI, jM.len_fL, jM.len_fR]; omega) | (simp [jM.len_nw, jM.len_sI, jM.len_sL, jM.len_sR, jM.len_fI, jM.len_fL, jM.len_fR, *]; omega)) (by first | omega | (simp only [jM.len_sI, jM.len_sL, jM.len_sR, jM.len_fI, jM.len_fL, jM.len_fR]; omega) | (simp [jM.len_nw, jM.len_sI, jM.len_sL, jM.len_sR, jM.len_fI, jM.len_fL, jM.len_fR, *]; omega)) (by first | omega | (simp only [jM.len_sI, jM.len_sL, jM.len_sR, jM.len_fI, jM.len_fL, jM.len_fR]; omega) | (simp [jM.len_nw, jM.len_sI, jM.len_sL, jM.len_sR, jM.len_fI, jM.len_fL, jM.len_fR, *]; omega)) rfl rfl ?_ ?_
      · exact fun _ _ h => h
      rintro _ _ ⟨rfl, rfl⟩
      refine J.zret rfl rfl (by rfl) (by first | omega | (simp only [jM.len_sI, jM.len_sL, jM.len_sR, jM.len_fI, jM.len_fL, jM.len_fR]; omega) | (simp [jM.len_nw, jM.len_sI, jM.len_sL, jM.len_sR, jM.len_fI, jM.len_fL, jM.len_fR, *]; omega)) (by first | omega | (simp only [jM.len_sI, jM.len_sL, jM.len_sR, jM.len_fI, jM.len_fL, jM.len_fR]; omega) | (simp [jM.len_nw, jM.len_sI, jM.len_sL, jM.len_sR, jM.len_fI, jM.len_fL, jM.len_fR, *]; omega)) ?_
      first | exact ⟨_, Or.inl ⟨rfl, by omega, rfl⟩, rfl⟩ | exact ⟨_, Or.inr ⟨rfl, by omega, rfl⟩, rfl⟩
theorem cm_isLoad {x : Int} (B : isB β) (R : isR V) (h0 : V 16 0 = 0) (hx : r32 x) : CT γ mX12_isLoad 1 0 0 [.ref (β.2 16), .int (jI x)] (jP β V) (mayQ β V (0 ≤ x ∧ x < V 16 26) 1) X0 := by
  have hf := R.f
  refine CT.of MX12_isLoad (Nat.le_of_ble_eq_true rfl) ?_
  show J γ mX12_isLoad 1 0 0 0 0 (jP β V) 0 [(0, .ref (β.2 16)), (1, .int (jI x))] [] _ _
  first | refine J.aload_n (pc' := 1) rfl rfl rfl ?_ | refine J.aload_nN (pc' := 1) rfl rfl rfl ?_
  refine J.iload_n (pc' := 2) rfl rfl rfl ?_
  refine J.if_lt (tgt := 17) (pc' := 5) rfl rfl rfl (by first | omega | (simp only [jM.len_sI, jM.len_sL, jM.len_sR, jM.len_fI, jM.len_fL, jM.len_fR]; omega) | (simp [jM.len_nw, jM.len_sI, jM.len_sL, jM.len_sR, jM.len_fI, jM.len_fL, jM.len_fR, *]; omega)) (fun c2 => ?_) (fun c2 => ?_)
  · refine J.iconst (pc' := 18) rfl rfl ?_
    refine J.iconst (pc' := 19) rfl rfl ?_
    first | refine J.callV (pc' := 22) (t := 16) rfl MX12_may ml_X12_161 iv_X12_may (by decide) ⟨_, rfl, rfl⟩ B.1 (cm_may1 B h0) rfl rfl (Nat.le_of_ble_eq_true rfl) (by first | omega | (simp only [jM.len_sI, jM.len_sL, jM.len_sR, jM.len_fI, jM.len_fL, jM.len_fR]; omega) | (simp [jM.len_nw, jM.len_sI, jM.len_sL, jM.len_sR, jM.len_fI, jM.len_fL, jM.len_fR, *]; omega)) (by first | omega | (simp only [jM.len_sI, jM.len_sL, jM.len_sR, jM.len_fI, jM.len_fL, jM.len_fR]; omega) | (simp [jM.len_nw, jM.len_sI, jM.len_sL, jM.len_sR, jM.len_fI, jM.len_fL, jM.len_fR, *]; omega)) (by first | omega | (simp only [jM.len_sI, jM.len_sL, jM.len_sR, jM.len_fI, jM.len_fL, jM.len_fR]; omega) | (simp [jM.len_nw, jM.len_sI, jM.len_sL, jM.len_sR, jM.len_fI, jM.len_fL, jM.len_fR, *]; omega)) rfl rfl ?_ ?_ | refine J.callV (pc' := 22) (t := 16) rfl MX12_may ml_X12_161 iv_X12_may (by decide) ⟨_, rfl, rfl⟩ B.1 (cm_may0 B h0 (by omega)) rfl rfl (Nat.le_of_ble_eq_true rfl) (by first | omega | (simp only [jM.len_sI, jM.len_sL, jM.len_sR, jM.len_fI, jM.len_fL, jM.len_fR]; omega) | (simp [jM.len_nw, jM.len_sI, jM.len_sL, jM.len_sR, jM.len_fI, jM.len_fL, jM.len_fR, *]; omega)) (by first | omega | (simp only [jM.len_sI, jM.len_sL, jM.len_sR, jM.len_fI, jM.len_fL, jM.len_fR]; omega) | (simp [jM.len_nw, jM.len_sI, jM.len_sL, jM.len_sR, jM.len_fI, jM.len_fL, jM.len_fR, *]; omega)) (by first | omega | (simp only [jM.len_sI, jM.len_sL, jM.len_sR, jM.len_fI, jM.len_fL, jM.len_fR]; omega) | (simp [jM.len_nw, jM.len_sI, jM.len_sL, jM.len_sR, jM.len_fI, jM.len_fL, jM.len_fR, *]; omega)) rfl rfl ?_ ?_
    · exact fun _ _ h => h
    rintro _ _ ⟨rfl, rfl⟩
    refine J.zret rfl rfl (by rfl) (by first | omega | (simp only [jM.len_sI, jM.len_sL, jM.len_sR, jM.len_fI, jM.len_fL, jM.len_fR]; omega) | (simp [jM.len_nw, jM.len_sI, jM.len_sL, jM.len_sR, jM.len_fI, jM.len_fL, jM.len_fR, *]; omega)) (by first | omega | (simp only [jM.len_sI, jM.len_sL, jM.len_sR, jM.len_fI, jM.len_fL, jM.len_fR]; omega) | (simp [jM.len_nw, jM.len_sI, jM.len_sL, jM.len_sR, jM.len_fI, jM.len_fL, jM.len_fR, *]; omega)) ?_
    first | exact ⟨_, Or.inl ⟨rfl, by omega, rfl⟩, rfl⟩ | exact ⟨_, Or.inr ⟨rfl, by omega, rfl⟩, rfl⟩
  · refine J.iload_n (pc' := 6) rfl rfl rfl ?_
    first | refine J.aload_n (pc' := 7) rfl rfl rfl ?_ | refine J.aload_nN (pc' := 7) rfl rfl rfl ?_
    refine J.mgI (pc' := 10) (j := 26) B rfl fl_X12_277 rfl rfl rfl ?_
    refine J.icmp_ge (tgt := 17) (pc' := 13) rfl rfl rfl (by first | omega | (simp only [jM.len_sI, jM.len_sL, jM.len_sR, jM.len_fI, jM.len_fL, jM.len_fR]; omega) | (simp [jM.len_nw, jM.len_sI, jM.len_sL, jM.len_sR, jM.len_fI, jM.len_fL, jM.len_fR, *]; omega)) (by first | omega | (simp only [jM.len_sI, jM.len_sL, jM.len_sR, jM.len_fI, jM.len_fL, jM.len_fR]; omega) | (simp [jM.len_nw, jM.len_sI, jM.len_sL, jM.len_sR, jM.len_fI, jM.len_fL, jM.len_fR, *]; omega)) (fun c10 => ?_) (fun c10 => ?_)
    · refine J.iconst (pc' := 18) rfl rfl ?_
      refine J.iconst (pc' := 19) rfl rfl ?_
      first | refine J.callV (pc' := 22) (t := 16) rfl MX12_may ml_X12_161 iv_X12_may (by decide) ⟨_, rfl, rfl⟩ B.1 (cm_may1 B h0) rfl rfl (Nat.le_of_ble_eq_true rfl) (by first | omega | (simp only [jM.len_sI, jM.len_sL, jM.len_sR, jM.len_fI, jM.len_fL, jM.len_fR]; omega) | (simp [jM.len_nw, jM.len_sI, jM.len_sL, jM.len_sR, jM.len_fI, jM.len_fL, jM.len_fR, *]; omega)) (by first | omega | (simp only [jM.len_sI, jM.len_sL, jM.len_sR, jM.len_fI, jM.len_fL, jM.len_fR]; omega) | (simp [jM.len_nw, jM.len_sI, jM.len_sL, jM.len_sR, jM.len_fI, jM.len_fL, jM.len_fR, *]; omega)) (by first | omega | (simp only [jM.len_sI, jM.len_sL, jM.len_sR, jM.len_fI, jM.len_fL, jM.len_fR]; omega) | (simp [jM.len_nw, jM.len_sI, jM.len_sL, jM.len_sR, jM.len_fI, jM.len_fL, jM.len_fR, *]; omega)) rfl rfl ?_ ?_ | refine J.callV (pc' := 22) (t := 16) rfl MX12_may ml_X12_161 iv_X12_may (by decide) ⟨_, rfl, rfl⟩ B.1 (cm_may0 B h0 (by omega)) rfl rfl (Nat.le_of_ble_eq_true rfl) (by first | omega | (simp only [jM.len_sI, jM.len_sL, jM.len_sR, jM.len_fI, jM.len_fL, jM.len_fR]; omega) | (simp [jM.len_nw, jM.len_sI, jM.len_sL, jM.len_sR, jM.len_fI, jM.len_fL, jM.len_fR, *]; omega)) (by first | omega | (simp only [jM.len_sI, jM.len_sL, jM.len_sR, jM.len_fI, jM.len_fL, jM.len_fR]; omega) | (simp [jM.len_nw, jM.len_sI, jM.len_sL, jM.len_sR, jM.len_fI, jM.len_fL, jM.len_fR, *]; omega)) (by first | omega | (simp only [jM.len_sI, jM.len_sL, jM.len_sR, jM.len_fI, jM.len_fL, jM.len_fR]; omega) | (simp [jM.len_nw, jM.len_sI, jM.len_sL, jM.len_sR, jM.len_fI, jM.len_fL, jM.len_fR, *]; omega)) rfl rfl ?_ ?_
      · exact fun _ _ h => h
      rintro _ _ ⟨rfl, rfl⟩
      refine J.zret rfl rfl (by rfl) (by first | omega | (simp only [jM.len_sI, jM.len_sL, jM.len_sR, jM.len_fI, jM.len_fL, jM.len_fR]; omega) | (simp [jM.len_nw, jM.len_sI, jM.len_sL, jM.len_sR, jM.len_fI, jM.len_fL, jM.len_fR, *]; omega)) (by first | omega | (simp only [jM.len_sI, jM.len_sL, jM.len_sR, jM.len_fI, jM.len_fL, jM.len_fR]; omega) | (simp [jM.len_nw, jM.len_sI, jM.len_sL, jM.len_sR, jM.len_fI, jM.len_fL, jM.len_fR, *]; omega)) ?_
      first | exact ⟨_, Or.inl ⟨rfl, by omega, rfl⟩, rfl⟩ | exact ⟨_, Or.inr ⟨rfl, by omega, rfl⟩, rfl⟩
    · refine J.iconst (pc' := 14) rfl rfl ?_
      refine J.goto (tgt := 18) rfl rfl ?_
      refine J.iconst (pc' := 19) rfl rfl ?_
      first | refine J.callV (pc' := 22) (t := 16) rfl MX12_may ml_X12_161 iv_X12_may (by decide) ⟨_, rfl, rfl⟩ B.1 (cm_may1 B h0) rfl rfl (Nat.le_of_ble_eq_true rfl) (by first | omega | (simp only [jM.len_sI, jM.len_sL, jM.len_sR, jM.len_fI, jM.len_fL, jM.len_fR]; omega) | (simp [jM.len_nw, jM.len_sI, jM.len_sL, jM.len_sR, jM.len_fI, jM.len_fL, jM.len_fR, *]; omega)) (by first | omega | (simp only [jM.len_sI, jM.len_sL, jM.len_sR, jM.len_fI, jM.len_fL, jM.len_fR]; omega) | (simp [jM.len_nw, jM.len_sI, jM.len_sL, jM.len_sR, jM.len_fI, jM.len_fL, jM.len_fR, *]; omega)) (by first | omega | (simp only [jM.len_sI, jM.len_sL, jM.len_sR, jM.len_fI, jM.len_fL, jM.len_fR]; omega) | (simp [jM.len_nw, jM.len_sI, jM.len_sL, jM.len_sR, jM.len_fI, jM.len_fL, jM.len_fR, *]; omega)) rfl rfl ?_ ?_ | refine J.callV (pc' := 22) (t := 16) rfl MX12_may ml_X12_161 iv_X12_may (by decide) ⟨_, rfl, rfl⟩ B.1 (cm_may0 B h0 (by omega)) rfl rfl (Nat.le_of_ble_eq_true rfl) (by first | omega | (simp only [jM.len_sI, jM.len_sL, jM.len_sR, jM.len_fI, jM.len_fL, jM.len_fR]; omega) | (simp [jM.len_nw, jM.len_sI, jM.len_sL, jM.len_sR, jM.len_fI, jM.len_fL, jM.len_fR, *]; omega)) (by first | omega | (simp only [jM.len_sI, jM.len_sL, jM.len_sR, jM.len_fI, jM.len_fL, jM.len_fR]; omega) | (simp [jM.len_nw, jM.len_sI, jM.len_sL, jM.len_sR, jM.len_fI, jM.len_fL, jM.len_fR, *]; omega)) (by first | omega | (simp only [jM.len_sI, jM.len_sL, jM.len_sR, jM.len_fI, jM.len_fL, jM.len_fR]; omega) | (simp [jM.len_nw, jM.len_sI, jM.len_sL, jM.len_sR, jM.len_fI, jM.len_fL, jM.len_fR, *]; omega)) rfl rfl ?_ ?_
      · exact fun _ _ h => h
      rintro _ _ ⟨rfl, rfl⟩
      refine J.zret rfl rfl (by rfl) (by first | omega | (simp only [jM.len_sI, jM.len_sL, jM.len_sR, jM.len_fI, jM.len_fL, jM.len_fR]; omega) | (simp [jM.len_nw, jM.len_sI, jM.len_sL, jM.len_sR, jM.len_fI, jM.len_fL, jM.len_fR, *]; omega)) (by first | omega | (simp only [jM.len_sI, jM.len_sL, jM.len_sR, jM.len_fI, jM.len_fL, jM.len_fR]; omega) | (simp [jM.len_nw, jM.len_sI, jM.len_sL, jM.len_sR, jM.len_fI, jM.len_fL, jM.len_fR, *]; omega)) ?_
      first | exact ⟨_, Or.inl ⟨rfl, by omega, rfl⟩, rfl⟩ | exact ⟨_, Or.inr ⟨rfl, by omega, rfl⟩, rfl⟩
theorem cm_isMelt {x : Int} (B : isB β) (R : isR V) (h0 : V 16 0 = 0) (hx : r32 x) : CT γ mX12_isMelt 1 0 0 [.ref (β.2 16), .int (jI x)] (jP β V) (mayQ β V (0 ≤ x ∧ x < V 16 52) 1) X0 := by
  have hf := R.f
  refine CT.of MX12_isMelt (Nat.le_of_ble_eq_true rfl) ?_
  show J γ mX12_isMelt 1 0 0 0 0 (jP β V) 0 [(0, .ref (β.2 16)), (1, .int (jI x))] [] _ _
  first | refine J.aload_n (pc' := 1) rfl rfl rfl ?_ | refine J.aload_nN (pc' := 1) rfl rfl rfl ?_
  refine J.iload_n (pc' := 2) rfl rfl rfl ?_
  refine J.if_lt (tgt := 17) (pc' := 5) rfl rfl rfl (by first | omega | (simp only [jM.len_sI, jM.len_sL, jM.len_sR, jM.len_fI, jM.len_fL, jM.len_fR]; omega) | (simp [jM.len_nw, jM.len_sI, jM.len_sL, jM.len_sR, jM.len_fI, jM.len_fL, jM.len_fR, *]; omega)) (fun c2 => ?_) (fun c2 => ?_)
  · refine J.iconst (pc' := 18) rfl rfl ?_
    refine J.iconst (pc' := 19) rfl rfl ?_
    first | refine J.callV (pc' := 22) (t := 16) rfl MX12_may ml_X12_161 iv_X12_may (by decide) ⟨_, rfl, rfl⟩ B.1 (cm_may1 B h0) rfl rfl (Nat.le_of_ble_eq_true rfl) (by first | omega | (simp only [jM.len_sI, jM.len_sL, jM.len_sR, jM.len_fI, jM.len_fL, jM.len_fR]; omega) | (simp [jM.len_nw, jM.len_sI, jM.len_sL, jM.len_sR, jM.len_fI, jM.len_fL, jM.len_fR, *]; omega)) (by first | omega | (simp only [jM.len_sI, jM.len_sL, jM.len_sR, jM.len_fI, jM.len_fL, jM.len_fR]; omega) | (simp [jM.len_nw, jM.len_sI, jM.len_sL, jM.len_sR, jM.len_fI, jM.len_fL, jM.len_fR, *]; omega)) (by first | omega | (simp only [jM.len_sI, jM.len_sL, jM.len_sR, jM.len_fI, jM.len_fL, jM.len_fR]; omega) | (simp [jM.len_nw, jM.len_sI, jM.len_sL, jM.len_sR, jM.len_fI, jM.len_fL, jM.len_fR, *]; omega)) rfl rfl ?_ ?_ | refine J.callV (pc' := 22) (t := 16) rfl MX12_may ml_X12_161 iv_X12_may (by decide) ⟨_, rfl, rfl⟩ B.1 (cm_may0 B h0 (by omega)) rfl rfl (Nat.le_of_ble_eq_true rfl) (by first | omega | (simp only [jM.len_sI, jM.len_sL, jM.len_sR, jM.len_fI, jM.len_fL, jM.len_fR]; omega) | (simp [jM.len_nw, jM.len_sI, jM.len_sL, jM.len_sR, jM.len_fI, jM.len_fL, jM.len_fR, *]; omega)) (by first | omega | (simp only [jM.len_sI, jM.len_sL, jM.len_sR, jM.len_fI, jM.len_fL, jM.len_fR]; omega) | (simp [jM.len_nw, jM.len_sI, jM.len_sL, jM.len_sR, jM.len_fI, jM.len_fL, jM.len_fR, *]; omega)) (by first | omega | (simp only [jM.len_sI, jM.len_sL, jM.len_sR, jM.len_fI, jM.len_fL, jM.len_fR]; omega) | (simp [jM.len_nw, jM.len_sI, jM.len_sL, jM.len_sR, jM.len_fI, jM.len_fL, jM.len_fR, *]; omega)) rfl rfl ?_ ?_
    · exact fun _ _ h => h
    rintro _ _ ⟨rfl, rfl⟩
    refine J.zret rfl rfl (by rfl) (by first | omega | (simp only [jM.len_sI, jM.len_sL, jM.len_sR, jM.len_fI, jM.len_fL, jM.len_fR]; omega) | (simp [jM.len_nw, jM.len_sI, jM.len_sL, jM.len_sR, jM.len_fI, jM.len_fL, jM.len_fR, *]; omega)) (by first | omega | (simp only [jM.len_sI, jM.len_sL, jM.len_sR, jM.len_fI, jM.len_fL, jM.len_fR]; omega) | (simp [jM.len_nw, jM.len_sI, jM.len_sL, jM.len_sR, jM.len_fI, jM.len_fL, jM.len_fR, *]; omega)) ?_
    first | exact ⟨_, Or.inl ⟨rfl, by omega, rfl⟩, rfl⟩ | exact ⟨_, Or.inr ⟨rfl, by omega, rfl⟩, rfl⟩
  · refine J.iload_n (pc' := 6) rfl rfl rfl ?_
    first | refine J.aload_n (pc' := 7) rfl rfl rfl ?_ | refine J.aload_nN (pc' := 7) rfl rfl rfl ?_
    refine J.mgI (pc' := 10) (j := 52) B rfl fl_X12_328 rfl rfl rfl ?_
    refine J.icmp_ge (tgt := 17) (pc' := 13) rfl rfl rfl (by first | omega | (simp only [jM.len_sI, jM.len_sL, jM.len_sR, jM.len_fI, jM.len_fL, jM.len_fR]; omega) | (simp [jM.len_nw, jM.len_sI, jM.len_sL, jM.len_sR, jM.len_fI, jM.len_fL, jM.len_fR, *]; omega)) (by first | omega | (simp only [jM.len_sI, jM.len_sL, jM.len_sR, jM.len_fI, jM.len_fL, jM.len_fR]; omega) | (simp [jM.len_nw, jM.len_sI, jM.len_sL, jM.len_sR, jM.len_fI, jM.len_fL, jM.len_fR, *]; omega)) (fun c10 => ?_) (fun c10 => ?_)
    · refine J.iconst (pc' := 18) rfl rfl ?_
      refine J.iconst (pc' := 19) rfl rfl ?_
      first | refine J.callV (pc' := 22) (t := 16) rfl MX12_may ml_X12_161 iv_X12_may (by decide) ⟨_, rfl, rfl⟩ B.1 (cm_may1 B h0) rfl rfl (Nat.le_of_ble_eq_true rfl) (by first | omega | (simp only [jM.len_sI, jM.len_sL, jM.len_sR, jM.len_fI, jM.len_fL, jM.len_fR]; omega) | (simp [jM.len_nw, jM.len_sI, jM.len_sL, jM.len_sR, jM.len_fI, jM.len_fL, jM.len_fR, *]; omega)) (by first | omega | (simp only [jM.len_sI, jM.len_sL, jM.len_sR, jM.len_fI, jM.len_fL, jM.len_fR]; omega) | (simp [jM.len_nw, jM.len_sI, jM.len_sL, jM.len_sR, jM.len_fI, jM.len_fL, jM.len_fR, *]; omega)) (by first | omega | (simp only [jM.len_sI, jM.len_sL, jM.len_sR, jM.len_fI, jM.len_fL, jM.len_fR]; omega) | (simp [jM.len_nw, jM.len_sI, jM.len_sL, jM.len_sR, jM.len_fI, jM.len_fL, jM.len_fR, *]; omega)) rfl rfl ?_ ?_ | refine J.callV (pc' := 22) (t := 16) rfl MX12_may ml_X12_161 iv_X12_may (by decide) ⟨_, rfl, rfl⟩ B.1 (cm_may0 B h0 (by omega)) rfl rfl (Nat.le_of_ble_eq_true rfl) (by first | omega | (simp only [jM.len_sI, jM.len_sL, jM.len_sR, jM.len_fI, jM.len_fL, jM.len_fR]; omega) | (simp [jM.len_nw, jM.len_sI, jM.len_sL, jM.len_sR, jM.len_fI, jM.len_fL, jM.len_fR, *]; omega)) (by first | omega | (simp only [jM.len_sI, jM.len_sL, jM.len_sR, jM.len_fI, jM.len_fL, jM.len_fR]; omega) | (simp [jM.len_nw, jM.len_sI, jM.len_sL, jM.len_sR, jM.len_fI, jM.len_fL, jM.len_fR, *]; omega)) (by first | omega | (simp only [jM.len_sI, jM.len_sL, jM.len_sR, jM.len_fI, jM.len_fL, jM.len_fR]; omega) | (simp [jM.len_nw, jM.len_sI, jM.len_sL, jM.len_sR, jM.len_fI, jM.len_fL, jM.len_fR, *]; omega)) rfl rfl ?_ ?_
      · exact fun _ _ h => h
      rintro _ _ ⟨rfl, rfl⟩
      refine J.zret rfl rfl (by rfl) (by first | omega | (simp only [jM.len_sI, jM.len_sL, jM.len_sR, jM.len_fI, jM.len_fL, jM.len_fR]; omega) | (simp [jM.len_nw, jM.len_sI, jM.len_sL, jM.len_sR, jM.len_fI, jM.len_fL, jM.len_fR, *]; omega)) (by first | omega | (simp only [jM.len_sI, jM.len_sL, jM.len_sR, jM.len_fI, jM.len_fL, jM.len_fR]; omega) | (simp [jM.len_nw, jM.len_sI, jM.len_sL, jM.len_sR, jM.len_fI, jM.len_fL, jM.len_fR, *]; omega)) ?_
      first | exact ⟨_, Or.inl ⟨rfl, by omega, rfl⟩, rfl⟩ | exact ⟨_, Or.inr ⟨rfl, by omega, rfl⟩, rfl⟩
    · refine J.iconst (pc' := 14) rfl rfl ?_
      refine J.goto (tgt := 18) rfl rfl ?_
      refine J.iconst (pc' := 19) rfl rfl ?_
      first | refine J.callV (pc' := 22) (t := 16) rfl MX12_may ml_X12_161 iv_X12_may (by decide) ⟨_, rfl, rfl⟩ B.1 (cm_may1 B h0) rfl rfl (Nat.le_of_ble_eq_true rfl) (by first | omega | (simp only [jM.len_sI, jM.len_sL, jM.len_sR, jM.len_fI, jM.len_fL, jM.len_fR]; omega) | (simp [jM.len_nw, jM.len_sI, jM.len_sL, jM.len_sR, jM.len_fI, jM.len_fL, jM.len_fR, *]; omega)) (by first | omega | (simp only [jM.len_sI, jM.len_sL, jM.len_sR, jM.len_fI, jM.len_fL, jM.len_fR]; omega) | (simp [jM.len_nw, jM.len_sI, jM.len_sL, jM.len_sR, jM.len_fI, jM.len_fL, jM.len_fR, *]; omega)) (by first | omega | (simp only [jM.len_sI, jM.len_sL, jM.len_sR, jM.len_fI, jM.len_fL, jM.len_fR]; omega) | (simp [jM.len_nw, jM.len_sI, jM.len_sL, jM.len_sR, jM.len_fI, jM.len_fL, jM.len_fR, *]; omega)) rfl rfl ?_ ?_ | refine J.callV (pc' := 22) (t := 16) rfl MX12_may ml_X12_161 iv_X12_may (by decide) ⟨_, rfl, rfl⟩ B.1 (cm_may0 B h0 (by omega)) rfl rfl (Nat.le_of_ble_eq_true rfl) (by first | omega | (simp only [jM.len_sI, jM.len_sL, jM.len_sR, jM.len_fI, jM.len_fL, jM.len_fR]; omega) | (simp [jM.len_nw, jM.len_sI, jM.len_sL, jM.len_sR, jM.len_fI, jM.len_fL, jM.len_fR, *]; omega)) (by first | omega | (simp only [jM.len_sI, jM.len_sL, jM.len_sR, jM.len_fI, jM.len_fL, jM.len_fR]; omega) | (simp [jM.len_nw, jM.len_sI, jM.len_sL, jM.len_sR, jM.len_fI, jM.len_fL, jM.len_fR, *]; omega)) (by first | omega | (simp only [jM.len_sI, jM.len_sL, jM.len_sR, jM.len_fI, jM.len_fL, jM.len_fR]; omega) | (simp [jM.len_nw, jM.len_sI, jM.len_sL, jM.len_sR, jM.len_fI, jM.len_fL, jM.len_fR, *]; omega)) rfl rfl ?_ ?_
      · exact fun _ _ h => h
      rintro _ _ ⟨rfl, rfl⟩
      refine J.zret rfl rfl (by rfl) (by first | omega | (simp only [jM.len_sI, jM.len_sL, jM.len_sR, jM.len_fI, jM.len_fL, jM.len_fR]; omega) | (simp [jM.len_nw, jM.len_sI, jM.len_sL, jM.len_sR, jM.len_fI, jM.len_fL, jM.len_fR, *]; omega)) (by first | omega | (simp only [jM.len_sI, jM.len_sL, jM.len_sR, jM.len_fI, jM.len_fL, jM.len_fR]; omega) | (simp [jM.len_nw, jM.len_sI, jM.len_sL, jM.len_sR, jM.len_fI, jM.len_fL, jM.len_fR, *]; omega)) ?_
      first | exact ⟨_, Or.inl ⟨rfl, by omega, rfl⟩, rfl⟩ | exact ⟨_, Or.inr ⟨rfl, by omega, rfl⟩, rfl⟩
theorem cm_isHeap {x : Int} (B : isB β) (h0 : V 16 0 = 0) (hx : r32 x) : CT γ mX12_isHeap 1 0 0 [.ref (β.2 16), .int (jI x)] (jP β V) (mayQ β V (0 ≤ x ∧ x < 6) 1) X0 := by
  refine CT.of MX12_isHeap (Nat.le_of_ble_eq_true rfl) ?_
  show J γ mX12_isHeap 1 0 0 0 0 (jP β V) 0 [(0, .ref (β.2 16)), (1, .int (jI x))] [] _ _
  first | refine J.aload_n (pc' := 1) rfl rfl rfl ?_ | refine J.aload_nN (pc' := 1) rfl rfl rfl ?_
  refine J.iload_n (pc' := 2) rfl rfl rfl ?_
  refine J.if_lt (tgt := 15) (pc' := 5) rfl rfl rfl (by first | omega | (simp only [jM.len_sI, jM.len_sL, jM.len_sR, jM.len_fI, jM.len_fL, jM.len_fR]; omega) | (simp [jM.len_nw, jM.len_sI, jM.len_sL, jM.len_sR, jM.len_fI, jM.len_fL, jM.len_fR, *]; omega)) (fun c2 => ?_) (fun c2 => ?_)
  · refine J.iconst (pc' := 16) rfl rfl ?_
    refine J.iconst (pc' := 17) rfl rfl ?_
    first | refine J.callV (pc' := 20) (t := 16) rfl MX12_may ml_X12_161 iv_X12_may (by decide) ⟨_, rfl, rfl⟩ B.1 (cm_may1 B h0) rfl rfl (Nat.le_of_ble_eq_true rfl) (by first | omega | (simp only [jM.len_sI, jM.len_sL, jM.len_sR, jM.len_fI, jM.len_fL, jM.len_fR]; omega) | (simp [jM.len_nw, jM.len_sI, jM.len_sL, jM.len_sR, jM.len_fI, jM.len_fL, jM.len_fR, *]; omega)) (by first | omega | (simp only [jM.len_sI, jM.len_sL, jM.len_sR, jM.len_fI, jM.len_fL, jM.len_fR]; omega) | (simp [jM.len_nw, jM.len_sI, jM.len_sL, jM.len_sR, jM.len_fI, jM.len_fL, jM.len_fR, *]; omega)) (by first | omega | (simp only [jM.len_sI, jM.len_sL, jM.len_sR, jM.len_fI, jM.len_fL, jM.len_fR]; omega) | (simp [jM.len_nw, jM.len_sI, jM.len_sL, jM.len_sR, jM.len_fI, jM.len_fL, jM.len_fR, *]; omega)) rfl rfl ?_ ?_ | refine J.callV (pc' := 20) (t := 16) rfl MX12_may ml_X12_161 iv_X12_may (by decide) ⟨_, rfl, rfl⟩ B.1 (cm_may0 B h0 (by omega)) rfl rfl (Nat.le_of_ble_eq_true rfl) (by first | omega | (simp only [jM.len_sI, jM.len_sL, jM.len_sR, jM.len_fI, jM.len_fL, jM.len_fR]; omega) | (simp [jM.len_nw, jM.len_sI, jM.len_sL, jM.len_sR, jM.len_fI, jM.len_fL, jM.len_fR, *]; omega)) (by first | omega | (simp only [jM.len_sI, jM.len_sL, jM.len_sR, jM.len_fI, jM.len_fL, jM.len_fR]; omega) | (simp [jM.len_nw, jM.len_sI, jM.len_sL, jM.len_sR, jM.len_fI, jM.len_fL, jM.len_fR, *]; omega)) (by first | omega | (simp only [jM.len_sI, jM.len_sL, jM.len_sR, jM.len_fI, jM.len_fL, jM.len_fR]; omega) | (simp [jM.len_nw, jM.len_sI, jM.len_sL, jM.len_sR, jM.len_fI, jM.len_fL, jM.len_fR, *]; omega)) rfl rfl ?_ ?_
    · exact fun _ _ h => h
    rintro _ _ ⟨rfl, rfl⟩
    refine J.zret rfl rfl (by rfl) (by first | omega | (simp only [jM.len_sI, jM.len_sL, jM.len_sR, jM.len_fI, jM.len_fL, jM.len_fR]; omega) | (simp [jM.len_nw, jM.len_sI, jM.len_sL, jM.len_sR, jM.len_fI, jM.len_fL, jM.len_fR, *]; omega)) (by first | omega | (simp only [jM.len_sI, jM.len_sL, jM.len_sR, jM.len_fI, jM.len_fL, jM.len_fR]; omega) | (simp [jM.len_nw, jM.len_sI, jM.len_sL, jM.len_sR, jM.len_fI, jM.len_fL, jM.len_fR, *]; omega)) ?_
    first | exact ⟨_, Or.inl ⟨rfl, by omega, rfl⟩, rfl⟩ | exact ⟨_, Or.inr ⟨rfl, by omega, rfl⟩, rfl⟩
  · refine J.iload_n (pc' := 6) rfl rfl rfl ?_
    refine J.bipush (pc' := 8) rfl rfl (by decide) ?_
    refine J.icmp_ge (tgt := 15) (pc' := 11) rfl rfl rfl (by first | omega | (simp only [jM.len_sI, jM.len_sL, jM.len_sR, jM.len_fI, jM.len_fL, jM.len_fR]; omega) | (simp [jM.len_nw, jM.len_sI, jM.len_sL, jM.len_sR, jM.len_fI, jM.len_fL, jM.len_fR, *]; omega)) (by first | omega | (simp only [jM.len_sI, jM.len_sL, jM.len_sR, jM.len_fI, jM.len_fL, jM.len_fR]; omega) | (simp [jM.len_nw, jM.len_sI, jM.len_sL, jM.len_sR, jM.len_fI, jM.len_fL, jM.len_fR, *]; omega)) (fun c8 => ?_) (fun c8 => ?_)
    · refine J.iconst (pc' := 16) rfl rfl ?_
      refine J.iconst (pc' := 17) rfl rfl ?_
      first | refine J.callV (pc' := 20) (t := 16) rfl MX12_may ml_X12_161 iv_X12_may (by decide) ⟨_, rfl, rfl⟩ B.1 (cm_may1 B h0) rfl rfl (Nat.le_of_ble_eq_true rfl) (by first | omega | (simp only [jM.len_sI, jM.len_sL, jM.len_sR, jM.len_fI, jM.len_fL, jM.len_fR]; omega) | (simp [jM.len_nw, jM.len_sI, jM.len_sL, jM.len_sR, jM.len_fI, jM.len_fL, jM.len_fR, *]; omega)) (by first | omega | (simp only [jM.len_sI, jM.len_sL, jM.len_sR, jM.len_fI, jM.len_fL, jM.len_fR]; omega) | (simp [jM.len_nw, jM.len_sI, jM.len_sL, jM.len_sR, jM.len_fI, jM.len_fL, jM.len_fR, *]; omega)) (by first | omega | (simp only [jM.len_sI, jM.len_sL, jM.len_sR, jM.len_fI, jM.len_fL, jM.len_fR]; omega) | (simp [jM.len_nw, jM.len_sI, jM.len_sL, jM.len_sR, jM.len_fI, jM.len_fL, jM.len_fR, *]; omega)) rfl rfl ?_ ?_ | refine J.callV (pc' := 20) (t := 16) rfl MX12_may ml_X12_161 iv_X12_may (by decide) ⟨_, rfl, rfl⟩ B.1 (cm_may0 B h0 (by omega)) rfl rfl (Nat.le_of_ble_eq_true rfl) (by first | omega | (simp only [jM.len_sI, jM.len_sL, jM.len_sR, jM.len_fI, jM.len_fL, jM.len_fR]; omega) | (simp [jM.len_nw, jM.len_sI, jM.len_sL, jM.len_sR, jM.len_fI, jM.len_fL, jM.len_fR, *]; omega)) (by first | omega | (simp only [jM.len_sI, jM.len_sL, jM.len_sR, jM.len_fI, jM.len_fL, jM.len_fR]; omega) | (simp [jM.len_nw, jM.len_sI, jM.len_sL, jM.len_sR, jM.len_fI, jM.len_fL, jM.len_fR, *]; omega)) (by first | omega | (simp only [jM.len_sI, jM.len_sL, jM.len_sR, jM.len_fI, jM.len_fL, jM.len_fR]; omega) | (simp [jM.len_nw, jM.len_sI, jM.len_sL, jM.len_sR, jM.len_fI, jM.len_fL, jM.len_fR, *]; omega)) rfl rfl ?_ ?_
      · exact fun _ _ h => h
      rintro _ _ ⟨rfl, rfl⟩
      refine J.zret rfl rfl (by rfl) (by first | omega | (simp only [jM.len_sI, jM.len_sL, jM.len_sR, jM.len_fI, jM.len_fL, jM.len_fR]; omega) | (simp [jM.len_nw, jM.len_sI, jM.len_sL, jM.len_sR, jM.len_fI, jM.len_fL, jM.len_fR, *]; omega)) (by first | omega | (simp only [jM.len_sI, jM.len_sL, jM.len_sR, jM.len_fI, jM.len_fL, jM.len_fR]; omega) | (simp [jM.len_nw, jM.len_sI, jM.len_sL, jM.len_sR, jM.len_fI, jM.len_fL, jM.len_fR, *]; omega)) ?_
      first | exact ⟨_, Or.inl ⟨rfl, by omega, rfl⟩, rfl⟩ | exact ⟨_, Or.inr ⟨rfl, by omega, rfl⟩, rfl⟩
    · refine J.iconst (pc' := 12) rfl rfl ?_
      refine J.goto (tgt := 16) rfl rfl ?_
      refine J.iconst (pc' := 17) rfl rfl ?_
      first | refine J.callV (pc' := 20) (t := 16) rfl MX12_may ml_X12_161 iv_X12_may (by decide) ⟨_, rfl, rfl⟩ B.1 (cm_may1 B h0) rfl rfl (Nat.le_of_ble_eq_true rfl) (by first | omega | (simp only [jM.len_sI, jM.len_sL, jM.len_sR, jM.len_fI, jM.len_fL, jM.len_fR]; omega) | (simp [jM.len_nw, jM.len_sI, jM.len_sL, jM.len_sR, jM.len_fI, jM.len_fL, jM.len_fR, *]; omega)) (by first | omega | (simp only [jM.len_sI, jM.len_sL, jM.len_sR, jM.len_fI, jM.len_fL, jM.len_fR]; omega) | (simp [jM.len_nw, jM.len_sI, jM.len_sL, jM.len_sR, jM.len_fI, jM.len_fL, jM.len_fR, *]; omega)) (by first | omega | (simp only [jM.len_sI, jM.len_sL, jM.len_sR, jM.len_fI, jM.len_fL, jM.len_fR]; omega) | (simp [jM.len_nw, jM.len_sI, jM.len_sL, jM.len_sR, jM.len_fI, jM.len_fL, jM.len_fR, *]; omega)) rfl rfl ?_ ?_ | refine J.callV (pc' := 20) (t := 16) rfl MX12_may ml_X12_161 iv_X12_may (by decide) ⟨_, rfl, rfl⟩ B.1 (cm_may0 B h0 (by omega)) rfl rfl (Nat.le_of_ble_eq_true rfl) (by first | omega | (simp only [jM.len_sI, jM.len_sL, jM.len_sR, jM.len_fI, jM.len_fL, jM.len_fR]; omega) | (simp [jM.len_nw, jM.len_sI, jM.len_sL, jM.len_sR, jM.len_fI, jM.len_fL, jM.len_fR, *]; omega)) (by first | omega | (simp only [jM.len_sI, jM.len_sL, jM.len_sR, jM.len_fI, jM.len_fL, jM.len_fR]; omega) | (simp [jM.len_nw, jM.len_sI, jM.len_sL, jM.len_sR, jM.len_fI, jM.len_fL, jM.len_fR, *]; omega)) (by first | omega | (simp only [jM.len_sI, jM.len_sL, jM.len_sR, jM.len_fI, jM.len_fL, jM.len_fR]; omega) | (simp [jM.len_nw, jM.len_sI, jM.len_sL, jM.len_sR, jM.len_fI, jM.len_fL, jM.len_fR, *]; omega)) rfl rfl ?_ ?_
      · exact fun _ _ h => h
      rintro _ _ ⟨rfl, rfl⟩
      refine J.zret rfl rfl (by rfl) (by first | omega | (simp only [jM.len_sI, jM.len_sL, jM.len_sR, jM.len_fI, jM.len_fL, jM.len_fR]; omega) | (simp [jM.len_nw, jM.len_sI, jM.len_sL, jM.len_sR, jM.len_fI, jM.len_fL, jM.len_fR, *]; omega)) (by first | omega | (simp only [jM.len_sI, jM.len_sL, jM.len_sR, jM.len_fI, jM.len_fL, jM.len_fR]; omega) | (simp [jM.len_nw, jM.len_sI, jM.len_sL, jM.len_sR, jM.len_fI, jM.len_fL, jM.len_fR, *]; omega)) ?_
      first | exact ⟨_, Or.inl ⟨rfl, by omega, rfl⟩, rfl⟩ | exact ⟨_, Or.inr ⟨rfl, by omega, rfl⟩, rfl⟩
/-- the answer and the state after it -/
abbrev RV : Type := Int × VV
def mQ (β : jB) (w : RV) : Option Value → jM → Prop := fun r h' => r = some (.int (jI w.1)) ∧ h' = jP β w.2
theorem mQ.of {β : jB} {w : RV} {x : Int} {V : VV} (h : w = (x, V)) : mQ β w (some (.int (jI x))) (jP β V) := by
  rw [h]
  exact ⟨rfl, rfl⟩
def sp_span (V : VV) (k m l g : Int) : RV := if 0 ≤ k ∧ k < V 16 1 then (if (0 ≤ m ∧ m < 5) ∧ 0 ≤ l ∧ l ≤ g ∧ g ≤ 10000 then (1, jU (jU V 104 (5 * k + m) l) 105 (5 * k + m) g) else (0, jU V 16 0 2)) else (0, jU V 16 0 1)
theorem cm_span {k m l g : Int} (B : isB β) (R : isR V) (hk : r32 k) (hm : r32 m) (hl : r32 l) (hg : r32 g) : CT γ mX12_span 2 0 0 [.ref (β.2 16), .int (jI k), .int (jI m), .int (jI l), .int (jI g)] (jP β V) (mQ β (sp_span (jU V 16 0 0) k m l g)) X0 := by
  refine CT.of MX12_span (Nat.le_of_ble_eq_true rfl) ?_
  show J γ mX12_span 2 0 0 0 0 (jP β V) 0 [(0, .ref (β.2 16)), (1, .int (jI k)), (2, .int (jI m)), (3, .int (jI l)), (4, .int (jI g))] [] _ _
  first | refine J.aload_n (pc' := 1) rfl rfl rfl ?_ | refine J.aload_nN (pc' := 1) rfl rfl rfl ?_
  refine J.iconst (pc' := 2) rfl rfl ?_
  refine J.mpI (pc' := 5) (j := 0) B rfl fl_X12_1 rfl rfl rfl rfl ?_
  have h0 := jU_same V 16 0 0
  replace R : isR (jU V 16 0 0) := R.up (fun _ => by decide)
  generalize jU V 16 0 0 = V at h0 R ⊢
  have hf := R.f
  first | refine J.aload_n (pc' := 6) rfl rfl rfl ?_ | refine J.aload_nN (pc' := 6) rfl rfl rfl ?_
  refine J.iload_n (pc' := 7) rfl rfl rfl ?_
  refine J.if_lt (tgt := 22) (pc' := 10) rfl rfl rfl (by first | omega | (simp only [jM.len_sI, jM.len_sL, jM.len_sR, jM.len_fI, jM.len_fL, jM.len_fR]; omega) | (simp [jM.len_nw, jM.len_sI, jM.len_sL, jM.len_sR, jM.len_fI, jM.len_fL, jM.len_fR, *]; omega)) (fun c7 => ?_) (fun c7 => ?_)
  · first
    | (exfalso; omega)
    | (refine J.iconst (pc' := 23) rfl rfl ?_
       refine J.iconst (pc' := 24) rfl rfl ?_
       first | refine J.callV (pc' := 27) (t := 16) rfl MX12_may ml_X12_161 iv_X12_may (by decide) ⟨_, rfl, rfl⟩ B.1 (cm_may1 B h0) rfl rfl (Nat.le_of_ble_eq_true rfl) (by first | omega | (simp only [jM.len_sI, jM.len_sL, jM.len_sR, jM.len_fI, jM.len_fL, jM.len_fR]; omega) | (simp [jM.len_nw, jM.len_sI, jM.len_sL, jM.len_sR, jM.len_fI, jM.len_fL, jM.len_fR, *]; omega)) (by first | omega | (simp only [jM.len_sI, jM.len_sL, jM.len_sR, jM.len_fI, jM.len_fL, jM.len_fR]; omega) | (simp [jM.len_nw, jM.len_sI, jM.len_sL, jM.len_sR, jM.len_fI, jM.len_fL, jM.len_fR, *]; omega)) (by first | omega | (simp only [jM.len_sI, jM.len_sL, jM.len_sR, jM.len_fI, jM.len_fL, jM.len_fR]; omega) | (simp [jM.len_nw, jM.len_sI, jM.len_sL, jM.len_sR, jM.len_fI, jM.len_fL, jM.len_fR, *]; omega)) rfl rfl ?_ ?_ | refine J.callV (pc' := 27) (t := 16) rfl MX12_may ml_X12_161 iv_X12_may (by decide) ⟨_, rfl, rfl⟩ B.1 (cm_may0 B h0 (by omega)) rfl rfl (Nat.le_of_ble_eq_true rfl) (by first | omega | (simp only [jM.len_sI, jM.len_sL, jM.len_sR, jM.len_fI, jM.len_fL, jM.len_fR]; omega) | (simp [jM.len_nw, jM.len_sI, jM.len_sL, jM.len_sR, jM.len_fI, jM.len_fL, jM.len_fR, *]; omega)) (by first | omega | (simp only [jM.len_sI, jM.len_sL, jM.len_sR, jM.len_fI, jM.len_fL, jM.len_fR]; omega) | (simp [jM.len_nw, jM.len_sI, jM.len_sL, jM.len_sR, jM.len_fI, jM.len_fL, jM.len_fR, *]; omega)) (by first | omega | (simp only [jM.len_sI, jM.len_sL, jM.len_sR, jM.len_fI, jM.len_fL, jM.len_fR]; omega) | (simp [jM.len_nw, jM.len_sI, jM.len_sL, jM.len_sR, jM.len_fI, jM.len_fL, jM.len_fR, *]; omega)) rfl rfl ?_ ?_
       · exact fun _ _ h => h
       rintro _ _ ⟨rfl, rfl⟩
       refine J.if_eq (tgt := 45) (pc' := 30) rfl rfl rfl (by first | omega | (simp only [jM.len_sI, jM.len_sL, jM.len_sR, jM.len_fI, jM.len_fL, jM.len_fR]; omega) | (simp [jM.len_nw, jM.len_sI, jM.len_sL, jM.len_sR, jM.len_fI, jM.len_fL, jM.len_fR, *]; omega)) (fun c27 => ?_) (fun c27 => ?_)
       · first
         | (exfalso; omega)
         | (refine J.iconst (pc' := 46) rfl rfl ?_
            refine J.iret rfl rfl (by first | omega | (simp only [jM.len_sI, jM.len_sL, jM.len_sR, jM.len_fI, jM.len_fL, jM.len_fR]; omega) | (simp [jM.len_nw, jM.len_sI, jM.len_sL, jM.len_sR, jM.len_fI, jM.len_fL, jM.len_fR, *]; omega)) (by first | omega | (simp only [jM.len_sI, jM.len_sL, jM.len_sR, jM.len_fI, jM.len_fL, jM.len_fR]; omega) | (simp [jM.len_nw, jM.len_sI, jM.len_sL, jM.len_sR, jM.len_fI, jM.len_fL, jM.len_fR, *]; omega)) ?_
            exact mQ.of (by unfold sp_span; (repeat (first | rw [if_pos (by omega)] | rw [if_neg (by omega)]))))
       · first
         | (exfalso; omega)
         | (first | refine J.aload_n (pc' := 31) rfl rfl rfl ?_ | refine J.aload_nN (pc' := 31) rfl rfl rfl ?_
            refine J.iload_n (pc' := 32) rfl rfl rfl ?_
            refine J.iload_n (pc' := 33) rfl rfl rfl ?_
            refine J.iload (pc' := 35) rfl rfl rfl ?_
            refine J.callS (pc' := 38) rfl MX12_isSpan ml_X12_165 is_X12_isSpan (cm_isSpan hm hl hg) rfl rfl (Nat.le_of_ble_eq_true rfl) (by first | omega | (simp only [jM.len_sI, jM.len_sL, jM.len_sR, jM.len_fI, jM.len_fL, jM.len_fR]; omega) | (simp [jM.len_nw, jM.len_sI, jM.len_sL, jM.len_sR, jM.len_fI, jM.len_fL, jM.len_fR, *]; omega)) (by first | omega | (simp only [jM.len_sI, jM.len_sL, jM.len_sR, jM.len_fI, jM.len_fL, jM.len_fR]; omega) | (simp [jM.len_nw, jM.len_sI, jM.len_sL, jM.len_sR, jM.len_fI, jM.len_fL, jM.len_fR, *]; omega)) (by first | omega | (simp only [jM.len_sI, jM.len_sL, jM.len_sR, jM.len_fI, jM.len_fL, jM.len_fR]; omega) | (simp [jM.len_nw, jM.len_sI, jM.len_sL, jM.len_sR, jM.len_fI, jM.len_fL, jM.len_fR, *]; omega)) rfl rfl ?_ ?_
            · exact fun _ _ h => h
            rintro _ _ ⟨b, hb, rfl, rfl⟩
            rcases hb with ⟨rfl, hb⟩ | ⟨rfl, hb⟩
            · first
              | (exfalso; omega)
              | (refine J.iconst (pc' := 39) rfl rfl ?_
                 first | refine J.callV (pc' := 42) (t := 16) rfl MX12_may ml_X12_161 iv_X12_may (by decide) ⟨_, rfl, rfl⟩ B.1 (cm_may1 B h0) rfl rfl (Nat.le_of_ble_eq_true rfl) (by first | omega | (simp only [jM.len_sI, jM.len_sL, jM.len_sR, jM.len_fI, jM.len_fL, jM.len_fR]; omega) | (simp [jM.len_nw, jM.len_sI, jM.len_sL, jM.len_sR, jM.len_fI, jM.len_fL, jM.len_fR, *]; omega)) (by first | omega | (simp only [jM.len_sI, jM.len_sL, jM.len_sR, jM.len_fI, jM.len_fL, jM.len_fR]; omega) | (simp [jM.len_nw, jM.len_sI, jM.len_sL, jM.len_sR, jM.len_fI, jM.len_fL, jM.len_fR, *]; omega)) (by first | omega | (simp only [jM.len_sI, jM.len_sL, jM.len_sR, jM.len_fI, jM.len_fL, jM.len_fR]; omega) | (simp [jM.len_nw, jM.len_sI, jM.len_sL, jM.len_sR, jM.len_fI, jM.len_fL, jM.len_fR, *]; omega)) rfl rfl ?_ ?_ | refine J.callV (pc' := 42) (t := 16) rfl MX12_may ml_X12_161 iv_X12_may (by decide) ⟨_, rfl, rfl⟩ B.1 (cm_may0 B h0 (by omega)) rfl rfl (Nat.le_of_ble_eq_true rfl) (by first | omega | (simp only [jM.len_sI, jM.len_sL, jM.len_sR, jM.len_fI, jM.len_fL, jM.len_fR]; omega) | (simp [jM.len_nw, jM.len_sI, jM.len_sL, jM.len_sR, jM.len_fI, jM.len_fL, jM.len_fR, *]; omega)) (by first | omega | (simp only [jM.len_sI, jM.len_sL, jM.len_sR, jM.len_fI, jM.len_fL, jM.len_fR]; omega) | (simp [jM.len_nw, jM.len_sI, jM.len_sL, jM.len_sR, jM.len_fI, jM.len_fL, jM.len_fR, *]; omega)) (by first | omega | (simp only [jM.len_sI, jM.len_sL, jM.len_sR, jM.len_fI, jM.len_fL, jM.len_fR]; omega) | (simp [jM.len_nw, jM.len_sI, jM.len_sL, jM.len_sR, jM.len_fI, jM.len_fL, jM.len_fR, *]; omega)) rfl rfl ?_ ?_
                 · exact fun _ _ h => h
                 rintro _ _ ⟨rfl, rfl⟩
                 refine J.if_ne (tgt := 47) (pc' := 45) rfl rfl rfl (by first | omega | (simp only [jM.len_sI, jM.len_sL, jM.len_sR, jM.len_fI, jM.len_fL, jM.len_fR]; omega) | (simp [jM.len_nw, jM.len_sI, jM.len_sL, jM.len_sR, jM.len_fI, jM.len_fL, jM.len_fR, *]; omega)) (fun c42 => ?_) (fun c42 => ?_)
                 · first
                   | (exfalso; omega)
                   | (first | refine J.aload_n (pc' := 48) rfl rfl rfl ?_ | refine J.aload_nN (pc' := 48) rfl rfl rfl ?_
                      refine J.mgR (pc' := 51) (t := 104) B rfl fl_X12_13 rfl rfl (by decide) rfl ?_
                      refine J.iconst (pc' := 52) rfl rfl ?_
                      refine J.iload_n (pc' := 53) rfl rfl rfl ?_
                      refine J.imul (pc' := 54) rfl rfl ?_
                      refine J.iload_n (pc' := 55) rfl rfl rfl ?_
                      refine J.iadd (pc' := 56) rfl rfl ?_
                      refine J.iload_n (pc' := 57) rfl rfl rfl ?_
                      refine J.mast (pc' := 58) B rfl rfl rfl rfl (by omega) (by simp only [jLn]; omega) rfl ?_
                      first | refine J.aload_n (pc' := 59) rfl rfl rfl ?_ | refine J.aload_nN (pc' := 59) rfl rfl rfl ?_
                      refine J.mgR (pc' := 62) (t := 105) B rfl fl_X12_17 rfl rfl (by decide) rfl ?_
                      refine J.iconst (pc' := 63) rfl rfl ?_
                      refine J.iload_n (pc' := 64) rfl rfl rfl ?_
                      refine J.imul (pc' := 65) rfl rfl ?_
                      refine J.iload_n (pc' := 66) rfl rfl rfl ?_
                      refine J.iadd (pc' := 67) rfl rfl ?_
                      refine J.iload (pc' := 69) rfl rfl rfl ?_
                      refine J.mast (pc' := 70) B rfl rfl rfl rfl (by omega) (by simp only [jLn]; omega) rfl ?_
                      refine J.iconst (pc' := 71) rfl rfl ?_
                      refine J.iret rfl rfl (by first | omega | (simp only [jM.len_sI, jM.len_sL, jM.len_sR, jM.len_fI, jM.len_fL, jM.len_fR]; omega) | (simp [jM.len_nw, jM.len_sI, jM.len_sL, jM.len_sR, jM.len_fI, jM.len_fL, jM.len_fR, *]; omega)) (by first | omega | (simp only [jM.len_sI, jM.len_sL, jM.len_sR, jM.len_fI, jM.len_fL, jM.len_fR]; omega) | (simp [jM.len_nw, jM.len_sI, jM.len_sL, jM.len_sR, jM.len_fI, jM.len_fL, jM.len_fR, *]; omega)) ?_
                      exact mQ.of (by unfold sp_span; (repeat (first | rw [if_pos (by omega)] | rw [if_neg (by omega)]))))
                 · first
                   | (exfalso; omega)
                   | (refine J.iconst (pc' := 46) rfl rfl ?_
                      refine J.iret rfl rfl (by first | omega | (simp only [jM.len_sI, jM.len_sL, jM.len_sR, jM.len_fI, jM.len_fL, jM.len_fR]; omega) | (simp [jM.len_nw, jM.len_sI, jM.len_sL, jM.len_sR, jM.len_fI, jM.len_fL, jM.len_fR, *]; omega)) (by first | omega | (simp only [jM.len_sI, jM.len_sL, jM.len_sR, jM.len_fI, jM.len_fL, jM.len_fR]; omega) | (simp [jM.len_nw, jM.len_sI, jM.len_sL, jM.len_sR, jM.len_fI, jM.len_fL, jM.len_fR, *]; omega)) ?_
                      exact mQ.of (by unfold sp_span; (repeat (first | rw [if_pos (by omega)] | rw [if_neg (by omega)])))))
            · first
              | (exfalso; omega)
              | (refine J.iconst (pc' := 39) rfl rfl ?_
                 first | refine J.callV (pc' := 42) (t := 16) rfl MX12_may ml_X12_161 iv_X12_may (by decide) ⟨_, rfl, rfl⟩ B.1 (cm_may1 B h0) rfl rfl (Nat.le_of_ble_eq_true rfl) (by first | omega | (simp only [jM.len_sI, jM.len_sL, jM.len_sR, jM.len_fI, jM.len_fL, jM.len_fR]; omega) | (simp [jM.len_nw, jM.len_sI, jM.len_sL, jM.len_sR, jM.len_fI, jM.len_fL, jM.len_fR, *]; omega)) (by first | omega | (simp only [jM.len_sI, jM.len_sL, jM.len_sR, jM.len_fI, jM.len_fL, jM.len_fR]; omega) | (simp [jM.len_nw, jM.len_sI, jM.len_sL, jM.len_sR, jM.len_fI, jM.len_fL, jM.len_fR, *]; omega)) (by first | omega | (simp only [jM.len_sI, jM.len_sL, jM.len_sR, jM.len_fI, jM.len_fL, jM.len_fR]; omega) | (simp [jM.len_nw, jM.len_sI, jM.len_sL, jM.len_sR, jM.len_fI, jM.len_fL, jM.len_fR, *]; omega)) rfl rfl ?_ ?_ | refine J.callV (pc' := 42) (t := 16) rfl MX12_may ml_X12_161 iv_X12_may (by decide) ⟨_, rfl, rfl⟩ B.1 (cm_may0 B h0 (by omega)) rfl rfl (Nat.le_of_ble_eq_true rfl) (by first | omega | (simp only [jM.len_sI, jM.len_sL, jM.len_sR, jM.len_fI, jM.len_fL, jM.len_fR]; omega) | (simp [jM.len_nw, jM.len_sI, jM.len_sL, jM.len_sR, jM.len_fI, jM.len_fL, jM.len_fR, *]; omega)) (by first | omega | (simp only [jM.len_sI, jM.len_sL, jM.len_sR, jM.len_fI, jM.len_fL, jM.len_fR]; omega) | (simp [jM.len_nw, jM.len_sI, jM.len_sL, jM.len_sR, jM.len_fI, jM.len_fL, jM.len_fR, *]; omega)) (by first | omega | (simp only [jM.len_sI, jM.len_sL, jM.len_sR, jM.len_fI, jM.len_fL, jM.len_fR]; omega) | (simp [jM.len_nw, jM.len_sI, jM.len_sL, jM.len_sR, jM.len_fI, jM.len_fL, jM.len_fR, *]; omega)) rfl rfl ?_ ?_
                 · exact fun _ _ h => h
                 rintro _ _ ⟨rfl, rfl⟩
                 refine J.if_ne (tgt := 47) (pc' := 45) rfl rfl rfl (by first | omega | (simp only [jM.len_sI, jM.len_sL, jM.len_sR, jM.len_fI, jM.len_fL, jM.len_fR]; omega) | (simp [jM.len_nw, jM.len_sI, jM.len_sL, jM.len_sR, jM.len_fI, jM.len_fL, jM.len_fR, *]; omega)) (fun c42 => ?_) (fun c42 => ?_)
                 · first
                   | (exfalso; omega)
                   | (first | refine J.aload_n (pc' := 48) rfl rfl rfl ?_ | refine J.aload_nN (pc' := 48) rfl rfl rfl ?_
                      refine J.mgR (pc' := 51) (t := 104) B rfl fl_X12_13 rfl rfl (by decide) rfl ?_
                      refine J.iconst (pc' := 52) rfl rfl ?_
                      refine J.iload_n (pc' := 53) rfl rfl rfl ?_
                      refine J.imul (pc' := 54) rfl rfl ?_
                      refine J.iload_n (pc' := 55) rfl rfl rfl ?_
                      refine J.iadd (pc' := 56) rfl rfl ?_
                      refine J.iload_n (pc' := 57) rfl rfl rfl ?_
                      refine J.mast (pc' := 58) B rfl rfl rfl rfl (by omega) (by simp only [jLn]; omega) rfl ?_
                      first | refine J.aload_n (pc' := 59) rfl rfl rfl ?_ | refine J.aload_nN (pc' := 59) rfl rfl rfl ?_
                      refine J.mgR (pc' := 62) (t := 105) B rfl fl_X12_17 rfl rfl (by decide) rfl ?_
                      refine J.iconst (pc' := 63) rfl rfl ?_
                      refine J.iload_n (pc' := 64) rfl rfl rfl ?_
                      refine J.imul (pc' := 65) rfl rfl ?_
                      refine J.iload_n (pc' := 66) rfl rfl rfl ?_
                      refine J.iadd (pc' := 67) rfl rfl ?_
                      refine J.iload (pc' := 69) rfl rfl rfl ?_
                      refine J.mast (pc' := 70) B rfl rfl rfl rfl (by omega) (by simp only [jLn]; omega) rfl ?_
                      refine J.iconst (pc' := 71) rfl rfl ?_
                      refine J.iret rfl rfl (by first | omega | (simp only [jM.len_sI, jM.len_sL, jM.len_sR, jM.len_fI, jM.len_fL, jM.len_fR]; omega) | (simp [jM.len_nw, jM.len_sI, jM.len_sL, jM.len_sR, jM.len_fI, jM.len_fL, jM.len_fR, *]; omega)) (by first | omega | (simp only [jM.len_sI, jM.len_sL, jM.len_sR, jM.len_fI, jM.len_fL, jM.len_fR]; omega) | (simp [jM.len_nw, jM.len_sI, jM.len_sL, jM.len_sR, jM.len_fI, jM.len_fL, jM.len_fR, *]; omega)) ?_
                      exact mQ.of (by unfold sp_span; (repeat (first | rw [if_pos (by omega)] | rw [if_neg (by omega)]))))
                 · first
                   | (exfalso; omega)
                   | (refine J.iconst (pc' := 46) rfl rfl ?_
                      refine J.iret rfl rfl (by first | omega | (simp only [jM.len_sI, jM.len_sL, jM.len_sR, jM.len_fI, jM.len_fL, jM.len_fR]; omega) | (simp [jM.len_nw, jM.len_sI, jM.len_sL, jM.len_sR, jM.len_fI, jM.len_fL, jM.len_fR, *]; omega)) (by first | omega | (simp only [jM.len_sI, jM.len_sL, jM.len_sR, jM.len_fI, jM.len_fL, jM.len_fR]; omega) | (simp [jM.len_nw, jM.len_sI, jM.len_sL, jM.len_sR, jM.len_fI, jM.len_fL, jM.len_fR, *]; omega)) ?_
                      exact mQ.of (by unfold sp_span; (repeat (first | rw [if_pos (by omega)] | rw [if_neg (by omega)])))))))
  · first
    | (exfalso; omega)
    | (refine J.iload_n (pc' := 11) rfl rfl rfl ?_
       first | refine J.aload_n (pc' := 12) rfl rfl rfl ?_ | refine J.aload_nN (pc' := 12) rfl rfl rfl ?_
       refine J.mgI (pc' := 15) (j := 1) B rfl fl_X12_154 rfl rfl rfl ?_
       refine J.icmp_ge (tgt := 22) (pc' := 18) rfl rfl rfl (by first | omega | (simp only [jM.len_sI, jM.len_sL, jM.len_sR, jM.len_fI, jM.len_fL, jM.len_fR]; omega) | (simp [jM.len_nw, jM.len_sI, jM.len_sL, jM.len_sR, jM.len_fI, jM.len_fL, jM.len_fR, *]; omega)) (by first | omega | (simp only [jM.len_sI, jM.len_sL, jM.len_sR, jM.len_fI, jM.len_fL, jM.len_fR]; omega) | (simp [jM.len_nw, jM.len_sI, jM.len_sL, jM.len_sR, jM.len_fI, jM.len_fL, jM.len_fR, *]; omega)) (fun c15 => ?_) (fun c15 => ?_)
       · first
         | (exfalso; omega)
         | (refine J.iconst (pc' := 23) rfl rfl ?_
            refine J.iconst (pc' := 24) rfl rfl ?_
            first | refine J.callV (pc' := 27) (t := 16) rfl MX12_may ml_X12_161 iv_X12_may (by decide) ⟨_, rfl, rfl⟩ B.1 (cm_may1 B h0) rfl rfl (Nat.le_of_ble_eq_true rfl) (by first | omega | (simp only [jM.len_sI, jM.len_sL, jM.len_sR, jM.len_fI, jM.len_fL, jM.len_fR]; omega) | (simp [jM.len_nw, jM.len_sI, jM.len_sL, jM.len_sR, jM.len_fI, jM.len_fL, jM.len_fR, *]; omega)) (by first | omega | (simp only [jM.len_sI, jM.len_sL, jM.len_sR, jM.len_fI, jM.len_fL, jM.len_fR]; omega) | (simp [jM.len_nw, jM.len_sI, jM.len_sL, jM.len_sR, jM.len_fI, jM.len_fL, jM.len_fR, *]; omega)) (by first | omega | (simp only [jM.len_sI, jM.len_sL, jM.len_sR, jM.len_fI, jM.len_fL, jM.len_fR]; omega) | (simp [jM.len_nw, jM.len_sI, jM.len_sL, jM.len_sR, jM.len_fI, jM.len_fL, jM.len_fR, *]; omega)) rfl rfl ?_ ?_ | refine J.callV (pc' := 27) (t := 16) rfl MX12_may ml_X12_161 iv_X12_may (by decide) ⟨_, rfl, rfl⟩ B.1 (cm_may0 B h0 (by omega)) rfl rfl (Nat.le_of_ble_eq_true rfl) (by first | omega | (simp only [jM.len_sI, jM.len_sL, jM.len_sR, jM.len_fI, jM.len_fL, jM.len_fR]; omega) | (simp [jM.len_nw, jM.len_sI, jM.len_sL, jM.len_sR, jM.len_fI, jM.len_fL, jM.len_fR, *]; omega)) (by first | omega | (simp only [jM.len_sI, jM.len_sL, jM.len_sR, jM.len_fI, jM.len_fL, jM.len_fR]; omega) | (simp [jM.len_nw, jM.len_sI, jM.len_sL, jM.len_sR, jM.len_fI, jM.len_fL, jM.len_fR, *]; omega)) (by first | omega | (simp only [jM.len_sI, jM.len_sL, jM.len_sR, jM.len_fI, jM.len_fL, jM.len_fR]; omega) | (simp [jM.len_nw, jM.len_sI, jM.len_sL, jM.len_sR, jM.len_fI, jM.len_fL, jM.len_fR, *]; omega)) rfl rfl ?_ ?_
            · exact fun _ _ h => h
            rintro _ _ ⟨rfl, rfl⟩
            refine J.if_eq (tgt := 45) (pc' := 30) rfl rfl rfl (by first | omega | (simp only [jM.len_sI, jM.len_sL, jM.len_sR, jM.len_fI, jM.len_fL, jM.len_fR]; omega) | (simp [jM.len_nw, jM.len_sI, jM.len_sL, jM.len_sR, jM.len_fI, jM.len_fL, jM.len_fR, *]; omega)) (fun c27 => ?_) (fun c27 => ?_)
            · first
              | (exfalso; omega)
              | (refine J.iconst (pc' := 46) rfl rfl ?_
                 refine J.iret rfl rfl (by first | omega | (simp only [jM.len_sI, jM.len_sL, jM.len_sR, jM.len_fI, jM.len_fL, jM.len_fR]; omega) | (simp [jM.len_nw, jM.len_sI, jM.len_sL, jM.len_sR, jM.len_fI, jM.len_fL, jM.len_fR, *]; omega)) (by first | omega | (simp only [jM.len_sI, jM.len_sL, jM.len_sR, jM.len_fI, jM.len_fL, jM.len_fR]; omega) | (simp [jM.len_nw, jM.len_sI, jM.len_sL, jM.len_sR, jM.len_fI, jM.len_fL, jM.len_fR, *]; omega)) ?_
                 exact mQ.of (by unfold sp_span; (repeat (first | rw [if_pos (by omega)] | rw [if_neg (by omega)]))))
            · first
              | (exfalso; omega)
              | (first | refine J.aload_n (pc' := 31) rfl rfl rfl ?_ | refine J.aload_nN (pc' := 31) rfl rfl rfl ?_
                 refine J.iload_n (pc' := 32) rfl rfl rfl ?_
                 refine J.iload_n (pc' := 33) rfl rfl rfl ?_
                 refine J.iload (pc' := 35) rfl rfl rfl ?_
                 refine J.callS (pc' := 38) rfl MX12_isSpan ml_X12_165 is_X12_isSpan (cm_isSpan hm hl hg) rfl rfl (Nat.le_of_ble_eq_true rfl) (by first | omega | (simp only [jM.len_sI, jM.len_sL, jM.len_sR, jM.len_fI, jM.len_fL, jM.len_fR]; omega) | (simp [jM.len_nw, jM.len_sI, jM.len_sL, jM.len_sR, jM.len_fI, jM.len_fL, jM.len_fR, *]; omega)) (by first | omega | (simp only [jM.len_sI, jM.len_sL, jM.len_sR, jM.len_fI, jM.len_fL, jM.len_fR]; omega) | (simp [jM.len_nw, jM.len_sI, jM.len_sL, jM.len_sR, jM.len_fI, jM.len_fL, jM.len_fR, *]; omega)) (by first | omega | (simp only [jM.len_sI, jM.len_sL, jM.len_sR, jM.len_fI, jM.len_fL, jM.len_fR]; omega) | (simp [jM.len_nw, jM.len_sI, jM.len_sL, jM.len_sR, jM.len_fI, jM.len_fL, jM.len_fR, *]; omega)) rfl rfl ?_ ?_
                 · exact fun _ _ h => h
                 rintro _ _ ⟨b, hb, rfl, rfl⟩
                 rcases hb with ⟨rfl, hb⟩ | ⟨rfl, hb⟩
                 · first
                   | (exfalso; omega)
                   | (refine J.iconst (pc' := 39) rfl rfl ?_
                      first | refine J.callV (pc' := 42) (t := 16) rfl MX12_may ml_X12_161 iv_X12_may (by decide) ⟨_, rfl, rfl⟩ B.1 (cm_may1 B h0) rfl rfl (Nat.le_of_ble_eq_true rfl) (by first | omega | (simp only [jM.len_sI, jM.len_sL, jM.len_sR, jM.len_fI, jM.len_fL, jM.len_fR]; omega) | (simp [jM.len_nw, jM.len_sI, jM.len_sL, jM.len_sR, jM.len_fI, jM.len_fL, jM.len_fR, *]; omega)) (by first | omega | (simp only [jM.len_sI, jM.len_sL, jM.len_sR, jM.len_fI, jM.len_fL, jM.len_fR]; omega) | (simp [jM.len_nw, jM.len_sI, jM.len_sL, jM.len_sR, jM.len_fI, jM.len_fL, jM.len_fR, *]; omega)) (by first | omega | (simp only [jM.len_sI, jM.len_sL, jM.len_sR, jM.len_fI, jM.len_fL, jM.len_fR]; omega) | (simp [jM.len_nw, jM.len_sI, jM.len_sL, jM.len_sR, jM.len_fI, jM.len_fL, jM.len_fR, *]; omega)) rfl rfl ?_ ?_ | refine J.callV (pc' := 42) (t := 16) rfl MX12_may ml_X12_161 iv_X12_may (by decide) ⟨_, rfl, rfl⟩ B.1 (cm_may0 B h0 (by omega)) rfl rfl (Nat.le_of_ble_eq_true rfl) (by first | omega | (simp only [jM.len_sI, jM.len_sL, jM.len_sR, jM.len_fI, jM.len_fL, jM.len_fR]; omega) | (simp [jM.len_nw, jM.len_sI, jM.len_sL, jM.len_sR, jM.len_fI, jM.len_fL, jM.len_fR, *]; omega)) (by first | omega | (simp only [jM.len_sI, jM.len_sL, jM.len_sR, jM.len_fI, jM.len_fL, jM.len_fR]; omega) | (simp [jM.len_nw, jM.len_sI, jM.len_sL, jM.len_sR, jM.len_fI, jM.len_fL, jM.len_fR, *]; omega)) (by first | omega | (simp only [jM.len_sI, jM.len_sL, jM.len_sR, jM.len_fI, jM.len_fL, jM.len_fR]; omega) | (simp [jM.len_nw, jM.len_sI, jM.len_sL, jM.len_sR, jM.len_fI, jM.len_fL, jM.len_fR, *]; omega)) rfl rfl ?_ ?_
                      · exact fun _ _ h => h
                      rintro _ _ ⟨rfl, rfl⟩
                      refine J.if_ne (tgt := 47) (pc' := 45) rfl rfl rfl (by first | omega | (simp only [jM.len_sI, jM.len_sL, jM.len_sR, jM.len_fI, jM.len_fL, jM.len_fR]; omega) | (simp [jM.len_nw, jM.len_sI, jM.len_sL, jM.len_sR, jM.len_fI, jM.len_fL, jM.len_fR, *]; omega)) (fun c42 => ?_) (fun c42 => ?_)
                      · first
                        | (exfalso; omega)
                        | (first | refine J.aload_n (pc' := 48) rfl rfl rfl ?_ | refine J.aload_nN (pc' := 48) rfl rfl rfl ?_
                           refine J.mgR (pc' := 51) (t := 104) B rfl fl_X12_13 rfl rfl (by decide) rfl ?_
                           refine J.iconst (pc' := 52) rfl rfl ?_
                           refine J.iload_n (pc' := 53) rfl rfl rfl ?_
                           refine J.imul (pc' := 54) rfl rfl ?_
                           refine J.iload_n (pc' := 55) rfl rfl rfl ?_
                           refine J.iadd (pc' := 56) rfl rfl ?_
                           refine J.iload_n (pc' := 57) rfl rfl rfl ?_
                           refine J.mast (pc' := 58) B rfl rfl rfl rfl (by omega) (by simp only [jLn]; omega) rfl ?_
                           first | refine J.aload_n (pc' := 59) rfl rfl rfl ?_ | refine J.aload_nN (pc' := 59) rfl rfl rfl ?_
                           refine J.mgR (pc' := 62) (t := 105) B rfl fl_X12_17 rfl rfl (by decide) rfl ?_
                           refine J.iconst (pc' := 63) rfl rfl ?_
                           refine J.iload_n (pc' := 64) rfl rfl rfl ?_
                           refine J.imul (pc' := 65) rfl rfl ?_
                           refine J.iload_n (pc' := 66) rfl rfl rfl ?_
                           refine J.iadd (pc' := 67) rfl rfl ?_
                           refine J.iload (pc' := 69) rfl rfl rfl ?_
                           refine J.mast (pc' := 70) B rfl rfl rfl rfl (by omega) (by simp only [jLn]; omega) rfl ?_
                           refine J.iconst (pc' := 71) rfl rfl ?_
                           refine J.iret rfl rfl (by first | omega | (simp only [jM.len_sI, jM.len_sL, jM.len_sR, jM.len_fI, jM.len_fL, jM.len_fR]; omega) | (simp [jM.len_nw, jM.len_sI, jM.len_sL, jM.len_sR, jM.len_fI, jM.len_fL, jM.len_fR, *]; omega)) (by first | omega | (simp only [jM.len_sI, jM.len_sL, jM.len_sR, jM.len_fI, jM.len_fL, jM.len_fR]; omega) | (simp [jM.len_nw, jM.len_sI, jM.len_sL, jM.len_sR, jM.len_fI, jM.len_fL, jM.len_fR, *]; omega)) ?_
                           exact mQ.of (by unfold sp_span; (repeat (first | rw [if_pos (by omega)] | rw [if_neg (by omega)]))))
                      · first
                        | (exfalso; omega)
                        | (refine J.iconst (pc' := 46) rfl rfl ?_
                           refine J.iret rfl rfl (by first | omega | (simp only [jM.len_sI, jM.len_sL, jM.len_sR, jM.len_fI, jM.len_fL, jM.len_fR]; omega) | (simp [jM.len_nw, jM.len_sI, jM.len_sL, jM.len_sR, jM.len_fI, jM.len_fL, jM.len_fR, *]; omega)) (by first | omega | (simp only [jM.len_sI, jM.len_sL, jM.len_sR, jM.len_fI, jM.len_fL, jM.len_fR]; omega) | (simp [jM.len_nw, jM.len_sI, jM.len_sL, jM.len_sR, jM.len_fI, jM.len_fL, jM.len_fR, *]; omega)) ?_
                           exact mQ.of (by unfold sp_span; (repeat (first | rw [if_pos (by omega)] | rw [if_neg (by omega)])))))
                 · first
                   | (exfalso; omega)
                   | (refine J.iconst (pc' := 39) rfl rfl ?_
                      first | refine J.callV (pc' := 42) (t := 16) rfl MX12_may ml_X12_161 iv_X12_may (by decide) ⟨_, rfl, rfl⟩ B.1 (cm_may1 B h0) rfl rfl (Nat.le_of_ble_eq_true rfl) (by first | omega | (simp only [jM.len_sI, jM.len_sL, jM.len_sR, jM.len_fI, jM.len_fL, jM.len_fR]; omega) | (simp [jM.len_nw, jM.len_sI, jM.len_sL, jM.len_sR, jM.len_fI, jM.len_fL, jM.len_fR, *]; omega)) (by first | omega | (simp only [jM.len_sI, jM.len_sL, jM.len_sR, jM.len_fI, jM.len_fL, jM.len_fR]; omega) | (simp [jM.len_nw, jM.len_sI, jM.len_sL, jM.len_sR, jM.len_fI, jM.len_fL, jM.len_fR, *]; omega)) (by first | omega | (simp only [jM.len_sI, jM.len_sL, jM.len_sR, jM.len_fI, jM.len_fL, jM.len_fR]; omega) | (simp [jM.len_nw, jM.len_sI, jM.len_sL, jM.len_sR, jM.len_fI, jM.len_fL, jM.len_fR, *]; omega)) rfl rfl ?_ ?_ | refine J.callV (pc' := 42) (t := 16) rfl MX12_may ml_X12_161 iv_X12_may (by decide) ⟨_, rfl, rfl⟩ B.1 (cm_may0 B h0 (by omega)) rfl rfl (Nat.le_of_ble_eq_true rfl) (by first | omega | (simp only [jM.len_sI, jM.len_sL, jM.len_sR, jM.len_fI, jM.len_fL, jM.len_fR]; omega) | (simp [jM.len_nw, jM.len_sI, jM.len_sL, jM.len_sR, jM.len_fI, jM.len_fL, jM.len_fR, *]; omega)) (by first | omega | (simp only [jM.len_sI, jM.len_sL, jM.len_sR, jM.len_fI, jM.len_fL, jM.len_fR]; omega) | (simp [jM.len_nw, jM.len_sI, jM.len_sL, jM.len_sR, jM.len_fI, jM.len_fL, jM.len_fR, *]; omega)) (by first | omega | (simp only [jM.len_sI, jM.len_sL, jM.len_sR, jM.len_fI, jM.len_fL, jM.len_fR]; omega) | (simp [jM.len_nw, jM.len_sI, jM.len_sL, jM.len_sR, jM.len_fI, jM.len_fL, jM.len_fR, *]; omega)) rfl rfl ?_ ?_
                      · exact fun _ _ h => h
                      rintro _ _ ⟨rfl, rfl⟩
                      refine J.if_ne (tgt := 47) (pc' := 45) rfl rfl rfl (by first | omega | (simp only [jM.len_sI, jM.len_sL, jM.len_sR, jM.len_fI, jM.len_fL, jM.len_fR]; omega) | (simp [jM.len_nw, jM.len_sI, jM.len_sL, jM.len_sR, jM.len_fI, jM.len_fL, jM.len_fR, *]; omega)) (fun c42 => ?_) (fun c42 => ?_)
                      · first
                        | (exfalso; omega)
                        | (first | refine J.aload_n (pc' := 48) rfl rfl rfl ?_ | refine J.aload_nN (pc' := 48) rfl rfl rfl ?_
                           refine J.mgR (pc' := 51) (t := 104) B rfl fl_X12_13 rfl rfl (by decide) rfl ?_
                           refine J.iconst (pc' := 52) rfl rfl ?_
                           refine J.iload_n (pc' := 53) rfl rfl rfl ?_
                           refine J.imul (pc' := 54) rfl rfl ?_
                           refine J.iload_n (pc' := 55) rfl rfl rfl ?_
                           refine J.iadd (pc' := 56) rfl rfl ?_
                           refine J.iload_n (pc' := 57) rfl rfl rfl ?_
                           refine J.mast (pc' := 58) B rfl rfl rfl rfl (by omega) (by simp only [jLn]; omega) rfl ?_
                           first | refine J.aload_n (pc' := 59) rfl rfl rfl ?_ | refine J.aload_nN (pc' := 59) rfl rfl rfl ?_
                           refine J.mgR (pc' := 62) (t := 105) B rfl fl_X12_17 rfl rfl (by decide) rfl ?_
                           refine J.iconst (pc' := 63) rfl rfl ?_
                           refine J.iload_n (pc' := 64) rfl rfl rfl ?_
                           refine J.imul (pc' := 65) rfl rfl ?_
                           refine J.iload_n (pc' := 66) rfl rfl rfl ?_
                           refine J.iadd (pc' := 67) rfl rfl ?_
                           refine J.iload (pc' := 69) rfl rfl rfl ?_
                           refine J.mast (pc' := 70) B rfl rfl rfl rfl (by omega) (by simp only [jLn]; omega) rfl ?_
                           refine J.iconst (pc' := 71) rfl rfl ?_
                           refine J.iret rfl rfl (by first | omega | (simp only [jM.len_sI, jM.len_sL, jM.len_sR, jM.len_fI, jM.len_fL, jM.len_fR]; omega) | (simp [jM.len_nw, jM.len_sI, jM.len_sL, jM.len_sR, jM.len_fI, jM.len_fL, jM.len_fR, *]; omega)) (by first | omega | (simp only [jM.len_sI, jM.len_sL, jM.len_sR, jM.len_fI, jM.len_fL, jM.len_fR]; omega) | (simp [jM.len_nw, jM.len_sI, jM.len_sL, jM.len_sR, jM.len_fI, jM.len_fL, jM.len_fR, *]; omega)) ?_
                           exact mQ.of (by unfold sp_span; (repeat (first | rw [if_pos (by omega)] | rw [if_neg (by omega)]))))
                      · first
                        | (exfalso; omega)
                        | (refine J.iconst (pc' := 46) rfl rfl ?_
                           refine J.iret rfl rfl (by first | omega | (simp only [jM.len_sI, jM.len_sL, jM.len_sR, jM.len_fI, jM.len_fL, jM.len_fR]; omega) | (simp [jM.len_nw, jM.len_sI, jM.len_sL, jM.len_sR, jM.len_fI, jM.len_fL, jM.len_fR, *]; omega)) (by first | omega | (simp only [jM.len_sI, jM.len_sL, jM.len_sR, jM.len_fI, jM.len_fL, jM.len_fR]; omega) | (simp [jM.len_nw, jM.len_sI, jM.len_sL, jM.len_sR, jM.len_fI, jM.len_fL, jM.len_fR, *]; omega)) ?_
                           exact mQ.of (by unfold sp_span; (repeat (first | rw [if_pos (by omega)] | rw [if_neg (by omega)])))))))
       · first
         | (exfalso; omega)
         | (refine J.iconst (pc' := 19) rfl rfl ?_
            refine J.goto (tgt := 23) rfl rfl ?_
            refine J.iconst (pc' := 24) rfl rfl ?_
            first | refine J.callV (pc' := 27) (t := 16) rfl MX12_may ml_X12_161 iv_X12_may (by decide) ⟨_, rfl, rfl⟩ B.1 (cm_may1 B h0) rfl rfl (Nat.le_of_ble_eq_true rfl) (by first | omega | (simp only [jM.len_sI, jM.len_sL, jM.len_sR, jM.len_fI, jM.len_fL, jM.len_fR]; omega) | (simp [jM.len_nw, jM.len_sI, jM.len_sL, jM.len_sR, jM.len_fI, jM.len_fL, jM.len_fR, *]; omega)) (by first | omega | (simp only [jM.len_sI, jM.len_sL, jM.len_sR, jM.len_fI, jM.len_fL, jM.len_fR]; omega) | (simp [jM.len_nw, jM.len_sI, jM.len_sL, jM.len_sR, jM.len_fI, jM.len_fL, jM.len_fR, *]; omega)) (by first | omega | (simp only [jM.len_sI, jM.len_sL, jM.len_sR, jM.len_fI, jM.len_fL, jM.len_fR]; omega) | (simp [jM.len_nw, jM.len_sI, jM.len_sL, jM.len_sR, jM.len_fI, jM.len_fL, jM.len_fR, *]; omega)) rfl rfl ?_ ?_ | refine J.callV (pc' := 27) (t := 16) rfl MX12_may ml_X12_161 iv_X12_may (by decide) ⟨_, rfl, rfl⟩ B.1 (cm_may0 B h0 (by omega)) rfl rfl (Nat.le_of_ble_eq_true rfl) (by first | omega | (simp only [jM.len_sI, jM.len_sL, jM.len_sR, jM.len_fI, jM.len_fL, jM.len_fR]; omega) | (simp [jM.len_nw, jM.len_sI, jM.len_sL, jM.len_sR, jM.len_fI, jM.len_fL, jM.len_fR, *]; omega)) (by first | omega | (simp only [jM.len_sI, jM.len_sL, jM.len_sR, jM.len_fI, jM.len_fL, jM.len_fR]; omega) | (simp [jM.len_nw, jM.len_sI, jM.len_sL, jM.len_sR, jM.len_fI, jM.len_fL, jM.len_fR, *]; omega)) (by first | omega | (simp only [jM.len_sI, jM.len_sL, jM.len_sR, jM.len_fI, jM.len_fL, jM.len_fR]; omega) | (simp [jM.len_nw, jM.len_sI, jM.len_sL, jM.len_sR, jM.len_fI, jM.len_fL, jM.len_fR, *]; omega)) rfl rfl ?_ ?_
            · exact fun _ _ h => h
            rintro _ _ ⟨rfl, rfl⟩
            refine J.if_eq (tgt := 45) (pc' := 30) rfl rfl rfl (by first | omega | (simp only [jM.len_sI, jM.len_sL, jM.len_sR, jM.len_fI, jM.len_fL, jM.len_fR]; omega) | (simp [jM.len_nw, jM.len_sI, jM.len_sL, jM.len_sR, jM.len_fI, jM.len_fL, jM.len_fR, *]; omega)) (fun c27 => ?_) (fun c27 => ?_)
            · first
              | (exfalso; omega)
              | (refine J.iconst (pc' := 46) rfl rfl ?_
                 refine J.iret rfl rfl (by first | omega | (simp only [jM.len_sI, jM.len_sL, jM.len_sR, jM.len_fI, jM.len_fL, jM.len_fR]; omega) | (simp [jM.len_nw, jM.len_sI, jM.len_sL, jM.len_sR, jM.len_fI, jM.len_fL, jM.len_fR, *]; omega)) (by first | omega | (simp only [jM.len_sI, jM.len_sL, jM.len_sR, jM.len_fI, jM.len_fL, jM.len_fR]; omega) | (simp [jM.len_nw, jM.len_sI, jM.len_sL, jM.len_sR, jM.len_fI, jM.len_fL, jM.len_fR, *]; omega)) ?_
                 exact mQ.of (by unfold sp_span; (repeat (first | rw [if_pos (by omega)] | rw [if_neg (by omega)]))))
            · first
              | (exfalso; omega)
              | (first | refine J.aload_n (pc' := 31) rfl rfl rfl ?_ | refine J.aload_nN (pc' := 31) rfl rfl rfl ?_
                 refine J.iload_n (pc' := 32) rfl rfl rfl ?_
                 refine J.iload_n (pc' := 33) rfl rfl rfl ?_
                 refine J.iload (pc' := 35) rfl rfl rfl ?_
                 refine J.callS (pc' := 38) rfl MX12_isSpan ml_X12_165 is_X12_isSpan (cm_isSpan hm hl hg) rfl rfl (Nat.le_of_ble_eq_true rfl) (by first | omega | (simp only [jM.len_sI, jM.len_sL, jM.len_sR, jM.len_fI, jM.len_fL, jM.len_fR]; omega) | (simp [jM.len_nw, jM.len_sI, jM.len_sL, jM.len_sR, jM.len_fI, jM.len_fL, jM.len_fR, *]; omega)) (by first | omega | (simp only [jM.len_sI, jM.len_sL, jM.len_sR, jM.len_fI, jM.len_fL, jM.len_fR]; omega) | (simp [jM.len_nw, jM.len_sI, jM.len_sL, jM.len_sR, jM.len_fI, jM.len_fL, jM.len_fR, *]; omega)) (by first | omega | (simp only [jM.len_sI, jM.len_sL, jM.len_sR, jM.len_fI, jM.len_fL, jM.len_fR]; omega) | (simp [jM.len_nw, jM.len_sI, jM.len_sL, jM.len_sR, jM.len_fI, jM.len_fL, jM.len_fR, *]; omega)) rfl rfl ?_ ?_
                 · exact fun _ _ h => h
                 rintro _ _ ⟨b, hb, rfl, rfl⟩
                 rcases hb with ⟨rfl, hb⟩ | ⟨rfl, hb⟩
                 · first
                   | (exfalso; omega)
                   | (refine J.iconst (pc' := 39) rfl rfl ?_
                      first | refine J.callV (pc' := 42) (t := 16) rfl MX12_may ml_X12_161 iv_X12_may (by decide) ⟨_, rfl, rfl⟩ B.1 (cm_may1 B h0) rfl rfl (Nat.le_of_ble_eq_true rfl) (by first | omega | (simp only [jM.len_sI, jM.len_sL, jM.len_sR, jM.len_fI, jM.len_fL, jM.len_fR]; omega) | (simp [jM.len_nw, jM.len_sI, jM.len_sL, jM.len_sR, jM.len_fI, jM.len_fL, jM.len_fR, *]; omega)) (by first | omega | (simp only [jM.len_sI, jM.len_sL, jM.len_sR, jM.len_fI, jM.len_fL, jM.len_fR]; omega) | (simp [jM.len_nw, jM.len_sI, jM.len_sL, jM.len_sR, jM.len_fI, jM.len_fL, jM.len_fR, *]; omega)) (by first | omega | (simp only [jM.len_sI, jM.len_sL, jM.len_sR, jM.len_fI, jM.len_fL, jM.len_fR]; omega) | (simp [jM.len_nw, jM.len_sI, jM.len_sL, jM.len_sR, jM.len_fI, jM.len_fL, jM.len_fR, *]; omega)) rfl rfl ?_ ?_ | refine J.callV (pc' := 42) (t := 16) rfl MX12_may ml_X12_161 iv_X12_may (by decide) ⟨_, rfl, rfl⟩ B.1 (cm_may0 B h0 (by omega)) rfl rfl (Nat.le_of_ble_eq_true rfl) (by first | omega | (simp only [jM.len_sI, jM.len_sL, jM.len_sR, jM.len_fI, jM.len_fL, jM.len_fR]; omega) | (simp [jM.len_nw, jM.len_sI, jM.len_sL, jM.len_sR, jM.len_fI, jM.len_fL, jM.len_fR, *]; omega)) (by first | omega | (simp only [jM.len_sI, jM.len_sL, jM.len_sR, jM.len_fI, jM.len_fL, jM.len_fR]; omega) | (simp [jM.len_nw, jM.len_sI, jM.len_sL, jM.len_sR, jM.len_fI, jM.len_fL, jM.len_fR, *]; omega)) (by first | omega | (simp only [jM.len_sI, jM.len_sL, jM.len_sR, jM.len_fI, jM.len_fL, jM.len_fR]; omega) | (simp [jM.len_nw, jM.len_sI, jM.len_sL, jM.len_sR, jM.len_fI, jM.len_fL, jM.len_fR, *]; omega)) rfl rfl ?_ ?_
                      · exact fun _ _ h => h
                      rintro _ _ ⟨rfl, rfl⟩
                      refine J.if_ne (tgt := 47) (pc' := 45) rfl rfl rfl (by first | omega | (simp only [jM.len_sI, jM.len_sL, jM.len_sR, jM.len_fI, jM.len_fL, jM.len_fR]; omega) | (simp [jM.len_nw, jM.len_sI, jM.len_sL, jM.len_sR, jM.len_fI, jM.len_fL, jM.len_fR, *]; omega)) (fun c42 => ?_) (fun c42 => ?_)
                      · first
                        | (exfalso; omega)
                        | (first | refine J.aload_n (pc' := 48) rfl rfl rfl ?_ | refine J.aload_nN (pc' := 48) rfl rfl rfl ?_
                           refine J.mgR (pc' := 51) (t := 104) B rfl fl_X12_13 rfl rfl (by decide) rfl ?_
                           refine J.iconst (pc' := 52) rfl rfl ?_
                           refine J.iload_n (pc' := 53) rfl rfl rfl ?_
                           refine J.imul (pc' := 54) rfl rfl ?_
                           refine J.iload_n (pc' := 55) rfl rfl rfl ?_
                           refine J.iadd (pc' := 56) rfl rfl ?_
                           refine J.iload_n (pc' := 57) rfl rfl rfl ?_
                           refine J.mast (pc' := 58) B rfl rfl rfl rfl (by omega) (by simp only [jLn]; omega) rfl ?_
                           first | refine J.aload_n (pc' := 59) rfl rfl rfl ?_ | refine J.aload_nN (pc' := 59) rfl rfl rfl ?_
                           refine J.mgR (pc' := 62) (t := 105) B rfl fl_X12_17 rfl rfl (by decide) rfl ?_
                           refine J.iconst (pc' := 63) rfl rfl ?_
                           refine J.iload_n (pc' := 64) rfl rfl rfl ?_
                           refine J.imul (pc' := 65) rfl rfl ?_
                           refine J.iload_n (pc' := 66) rfl rfl rfl ?_
                           refine J.iadd (pc' := 67) rfl rfl ?_
                           refine J.iload (pc' := 69) rfl rfl rfl ?_
                           refine J.mast (pc' := 70) B rfl rfl rfl rfl (by omega) (by simp only [jLn]; omega) rfl ?_
                           refine J.iconst (pc' := 71) rfl rfl ?_
                           refine J.iret rfl rfl (by first | omega | (simp only [jM.len_sI, jM.len_sL, jM.len_sR, jM.len_fI, jM.len_fL, jM.len_fR]; omega) | (simp [jM.len_nw, jM.len_sI, jM.len_sL, jM.len_sR, jM.len_fI, jM.len_fL, jM.len_fR, *]; omega)) (by first | omega | (simp only [jM.len_sI, jM.len_sL, jM.len_sR, jM.len_fI, jM.len_fL, jM.len_fR]; omega) | (simp [jM.len_nw, jM.len_sI, jM.len_sL, jM.len_sR, jM.len_fI, jM.len_fL, jM.len_fR, *]; omega)) ?_
                           exact mQ.of (by unfold sp_span; (repeat (first | rw [if_pos (by omega)] | rw [if_neg (by omega)]))))
                      · first
                        | (exfalso; omega)
                        | (refine J.iconst (pc' := 46) rfl rfl ?_
                           refine J.iret rfl rfl (by first | omega | (simp only [jM.len_sI, jM.len_sL, jM.len_sR, jM.len_fI, jM.len_fL, jM.len_fR]; omega) | (simp [jM.len_nw, jM.len_sI, jM.len_sL, jM.len_sR, jM.len_fI, jM.len_fL, jM.len_fR, *]; omega)) (by first | omega | (simp only [jM.len_sI, jM.len_sL, jM.len_sR, jM.len_fI, jM.len_fL, jM.len_fR]; omega) | (simp [jM.len_nw, jM.len_sI, jM.len_sL, jM.len_sR, jM.len_fI, jM.len_fL, jM.len_fR, *]; omega)) ?_
                           exact mQ.of (by unfold sp_span; (repeat (first | rw [if_pos (by omega)] | rw [if_neg (by omega)])))))
                 · first
                   | (exfalso; omega)
                   | (refine J.iconst (pc' := 39) rfl rfl ?_
                      first | refine J.callV (pc' := 42) (t := 16) rfl MX12_may ml_X12_161 iv_X12_may (by decide) ⟨_, rfl, rfl⟩ B.1 (cm_may1 B h0) rfl rfl (Nat.le_of_ble_eq_true rfl) (by first | omega | (simp only [jM.len_sI, jM.len_sL, jM.len_sR, jM.len_fI, jM.len_fL, jM.len_fR]; omega) | (simp [jM.len_nw, jM.len_sI, jM.len_sL, jM.len_sR, jM.len_fI, jM.len_fL, jM.len_fR, *]; omega)) (by first | omega | (simp only [jM.len_sI, jM.len_sL, jM.len_sR, jM.len_fI, jM.len_fL, jM.len_fR]; omega) | (simp [jM.len_nw, jM.len_sI, jM.len_sL, jM.len_sR, jM.len_fI, jM.len_fL, jM.len_fR, *]; omega)) (by first | omega | (simp only [jM.len_sI, jM.len_sL, jM.len_sR, jM.len_fI, jM.len_fL, jM.len_fR]; omega) | (simp [jM.len_nw, jM.len_sI, jM.len_sL, jM.len_sR, jM.len_fI, jM.len_fL, jM.len_fR, *]; omega)) rfl rfl ?_ ?_ | refine J.callV (pc' := 42) (t := 16) rfl MX12_may ml_X12_161 iv_X12_may (by decide) ⟨_, rfl, rfl⟩ B.1 (cm_may0 B h0 (by omega)) rfl rfl (Nat.le_of_ble_eq_true rfl) (by first | omega | (simp only [jM.len_sI, jM.len_sL, jM.len_sR, jM.len_fI, jM.len_fL, jM.len_fR]; omega) | (simp [jM.len_nw, jM.len_sI, jM.len_sL, jM.len_sR, jM.len_fI, jM.len_fL, jM.len_fR, *]; omega)) (by first | omega | (simp only [jM.len_sI, jM.len_sL, jM.len_sR, jM.len_fI, jM.len_fL, jM.len_fR]; omega) | (simp [jM.len_nw, jM.len_sI, jM.len_sL, jM.len_sR, jM.len_fI, jM.len_fL, jM.len_fR, *]; omega)) (by first | omega | (simp only [jM.len_sI, jM.len_sL, jM.len_sR, jM.len_fI, jM.len_fL, jM.len_fR]; omega) | (simp [jM.len_nw, jM.len_sI, jM.len_sL, jM.len_sR, jM.len_fI, jM.len_fL, jM.len_fR, *]; omega)) rfl rfl ?_ ?_
                      · exact fun _ _ h => h
                      rintro _ _ ⟨rfl, rfl⟩
                      refine J.if_ne (tgt := 47) (pc' := 45) rfl rfl rfl (by first | omega | (simp only [jM.len_sI, jM.len_sL, jM.len_sR, jM.len_fI, jM.len_fL, jM.len_fR]; omega) | (simp [jM.len_nw, jM.len_sI, jM.len_sL, jM.len_sR, jM.len_fI, jM.len_fL, jM.len_fR, *]; omega)) (fun c42 => ?_) (fun c42 => ?_)
                      · first
                        | (exfalso; omega)
                        | (first | refine J.aload_n (pc' := 48) rfl rfl rfl ?_ | refine J.aload_nN (pc' := 48) rfl rfl rfl ?_
                           refine J.mgR (pc' := 51) (t := 104) B rfl fl_X12_13 rfl rfl (by decide) rfl ?_
                           refine J.iconst (pc' := 52) rfl rfl ?_
                           refine J.iload_n (pc' := 53) rfl rfl rfl ?_
                           refine J.imul (pc' := 54) rfl rfl ?_
                           refine J.iload_n (pc' := 55) rfl rfl rfl ?_
                           refine J.iadd (pc' := 56) rfl rfl ?_
                           refine J.iload_n (pc' := 57) rfl rfl rfl ?_
                           refine J.mast (pc' := 58) B rfl rfl rfl rfl (by omega) (by simp only [jLn]; omega) rfl ?_
                           first | refine J.aload_n (pc' := 59) rfl rfl rfl ?_ | refine J.aload_nN (pc' := 59) rfl rfl rfl ?_
                           refine J.mgR (pc' := 62) (t := 105) B rfl fl_X12_17 rfl rfl (by decide) rfl ?_
                           refine J.iconst (pc' := 63) rfl rfl ?_
                           refine J.iload_n (pc' := 64) rfl rfl rfl ?_
                           refine J.imul (pc' := 65) rfl rfl ?_
                           refine J.iload_n (pc' := 66) rfl rfl rfl ?_
                           refine J.iadd (pc' := 67) rfl rfl ?_
                           refine J.iload (pc' := 69) rfl rfl rfl ?_
                           refine J.mast (pc' := 70) B rfl rfl rfl rfl (by omega) (by simp only [jLn]; omega) rfl ?_
                           refine J.iconst (pc' := 71) rfl rfl ?_
                           refine J.iret rfl rfl (by first | omega | (simp only [jM.len_sI, jM.len_sL, jM.len_sR, jM.len_fI, jM.len_fL, jM.len_fR]; omega) | (simp [jM.len_nw, jM.len_sI, jM.len_sL, jM.len_sR, jM.len_fI, jM.len_fL, jM.len_fR, *]; omega)) (by first | omega | (simp only [jM.len_sI, jM.len_sL, jM.len_sR, jM.len_fI, jM.len_fL, jM.len_fR]; omega) | (simp [jM.len_nw, jM.len_sI, jM.len_sL, jM.len_sR, jM.len_fI, jM.len_fL, jM.len_fR, *]; omega)) ?_
                           exact mQ.of (by unfold sp_span; (repeat (first | rw [if_pos (by omega)] | rw [if_neg (by omega)]))))
                      · first
                        | (exfalso; omega)
                        | (refine J.iconst (pc' := 46) rfl rfl ?_
                           refine J.iret rfl rfl (by first | omega | (simp only [jM.len_sI, jM.len_sL, jM.len_sR, jM.len_fI, jM.len_fL, jM.len_fR]; omega) | (simp [jM.len_nw, jM.len_sI, jM.len_sL, jM.len_sR, jM.len_fI, jM.len_fL, jM.len_fR, *]; omega)) (by first | omega | (simp only [jM.len_sI, jM.len_sL, jM.len_sR, jM.len_fI, jM.len_fL, jM.len_fR]; omega) | (simp [jM.len_nw, jM.len_sI, jM.len_sL, jM.len_sR, jM.len_fI, jM.len_fL, jM.len_fR, *]; omega)) ?_
                           exact mQ.of (by unfold sp_span; (repeat (first | rw [if_pos (by omega)] | rw [if_neg (by omega)]))))))))
end M1

