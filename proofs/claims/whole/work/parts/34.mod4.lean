theorem jU_o (V : VV) {t t' : Nat} {i i' : Int} {x : Int} (h : t' ≠ t) : jU V t i x t' i' = V t' i' := if_neg (fun q => h q.1)
theorem jU_i (V : VV) {t : Nat} {i i' : Int} {x : Int} (h : i' ≠ i) : jU V t i x t i' = V t i' := if_neg (fun q => h q.2)
def b2i (b : Bool) : Int := cond b 1 0
/-- all of f at a, .., a + n - 1 -/
def allB (f : Int → Bool) (a : Int) : Nat → Bool
  | 0 => true
  | n + 1 => allB f a n && f (a + (n : Int))
def sureB (V : VV) (c t l : Int) : Bool := if V 124 (100 * c + t) = 60 then decide (V 135 (5 * l + V 123 (100 * c + t)) < V 125 (100 * c + t)) else decide (V 125 (100 * c + t) < V 134 (5 * l + V 123 (100 * c + t)))
def gradeB (V : VV) (c l g : Int) : Bool := allB (fun t => sureB V c t l) (V 122 (13 * c + g)) (V 122 (13 * c + g + 1) - V 122 (13 * c + g)).toNat
/-- the first grade that is sure, of n; else -1 -/
def gF (V : VV) (c l : Int) : Nat → Int
  | 0 => -1
  | n + 1 => if gF V c l n = -1 then (if gradeB V c l n = true then (n : Int) else -1) else gF V c l n
theorem gF_b (V : VV) (c l : Int) (n : Nat) : -1 ≤ gF V c l n ∧ gF V c l n < n := by
  induction n with
  | zero => simp [gF]
  | succ n ih =>
    rw [gF]
    split
    · split <;> omega
    · omega
theorem gF_st (V : VV) (c l : Int) (n k : Nat) (h : gF V c l n ≠ -1) : gF V c l (n + k) = gF V c l n := by
  induction k with
  | zero => rfl
  | succ k ih =>
    rw [show n + (k + 1) = (n + k) + 1 by omega, gF, ih, if_neg h]
def pF (V : VV) (c g : Int) : Int := if g = -1 then 0 else V 121 (12 * c + g)
def fgV (V : VV) (g p : Int) : VV := jU (jU V 16 36 g) 16 37 p
theorem fgV_fg (V : VV) (g p g' p' : Int) : jU (jU (fgV V g p) 16 36 g') 16 37 p' = fgV V g' p' := by
  funext t i
  unfold fgV jU
  ((repeat' split) <;> first | rfl | omega | (exfalso; omega))
def grF (V : VV) (c l : Int) : Int := if gF V c l (V 119 c).toNat = -1 ∧ V 120 c ≠ -1 then V 119 c else gF V c l (V 119 c).toNat
def payF (V : VV) (c l : Int) : Int := if gF V c l (V 119 c).toNat = -1 ∧ V 120 c ≠ -1 then V 120 c else pF V c (gF V c l (V 119 c).toNat)
section M4
variable {γ : jG} {β : jB} {V : VV}
theorem cm_isSure {c t l : Int} (B : isB β) (R : isR V) (hc : 0 ≤ c ∧ c < 20) (ht : 0 ≤ t ∧ t < 100) (hl : 0 ≤ l ∧ l < 100) : CT γ mX12_isSure 0 0 0 [.ref (β.2 16), .int (jI c), .int (jI t), .int (jI l)] (jP β V) (fun r h' => ∃ b : Int, (b = 1 ∧ sureB V c t l = true ∨ b = 0 ∧ sureB V c t l = false) ∧ r = some (.int (jI b)) ∧ h' = jP β V) X0 := by
  have h1 := R 123 (100 * c + t) rfl
  simp [jLo, jHi] at h1
  refine CT.of MX12_isSure (Nat.le_of_ble_eq_true rfl) ?_
  show J γ mX12_isSure 0 0 0 0 0 (jP β V) 0 [(0, .ref (β.2 16)), (1, .int (jI c)), (2, .int (jI t)), (3, .int (jI l))] [] _ _
  refine J.bipush (pc' := 2) rfl rfl (by decide) ?_
  refine J.iload_n (pc' := 3) rfl rfl rfl ?_
  refine J.imul (pc' := 4) rfl rfl ?_
  refine J.iload_n (pc' := 5) rfl rfl rfl ?_
  refine J.iadd (pc' := 6) rfl rfl ?_
  refine J.istore (pc' := 8) rfl rfl (by decide) ?_
  refine J.iconst (pc' := 9) rfl rfl ?_
  refine J.iload_n (pc' := 10) rfl rfl rfl ?_
  refine J.imul (pc' := 11) rfl rfl ?_
  first | refine J.aload_n (pc' := 12) rfl rfl rfl ?_ | refine J.aload_nN (pc' := 12) rfl rfl rfl ?_
  refine J.mgR (pc' := 15) (t := 123) B rfl fl_X12_55 rfl rfl (by decide) rfl ?_
  refine J.iload (pc' := 17) rfl rfl rfl ?_
  refine J.mald (pc' := 18) B rfl rfl rfl (by omega) (by simp only [jLn]; omega) rfl ?_
  refine J.iadd (pc' := 19) rfl rfl ?_
  refine J.istore (pc' := 21) rfl rfl (by decide) ?_
  first | refine J.aload_n (pc' := 22) rfl rfl rfl ?_ | refine J.aload_nN (pc' := 22) rfl rfl rfl ?_
  refine J.mgR (pc' := 25) (t := 124) B rfl fl_X12_58 rfl rfl (by decide) rfl ?_
  refine J.iload (pc' := 27) rfl rfl rfl ?_
  refine J.mald (pc' := 28) B rfl rfl rfl (by omega) (by simp only [jLn]; omega) rfl ?_
  refine J.bipush (pc' := 30) rfl rfl (by decide) ?_
  refine J.icmp_ne (tgt := 58) (pc' := 33) rfl rfl rfl (by first | omega | (exact R.r _ _) | (simp only [jM.len_sI, jM.len_sL, jM.len_sR, jM.len_fI, jM.len_fL, jM.len_fR]; omega) | (simp [jM.len_nw, jM.len_sI, jM.len_sL, jM.len_sR, jM.len_fI, jM.len_fL, jM.len_fR, *]; omega)) (by first | omega | (exact R.r _ _) | (simp only [jM.len_sI, jM.len_sL, jM.len_sR, jM.len_fI, jM.len_fL, jM.len_fR]; omega) | (simp [jM.len_nw, jM.len_sI, jM.len_sL, jM.len_sR, jM.len_fI, jM.len_fL, jM.len_fR, *]; omega)) (fun c30 => ?_) (fun c30 => ?_)
  · first | refine J.aload_n (pc' := 59) rfl rfl rfl ?_ | refine J.aload_nN (pc' := 59) rfl rfl rfl ?_
    refine J.mgR (pc' := 62) (t := 134) B rfl fl_X12_85 rfl rfl (by decide) rfl ?_
    refine J.iload (pc' := 64) rfl rfl rfl ?_
    refine J.mald (pc' := 65) B rfl rfl rfl (by omega) (by simp only [jLn]; omega) rfl ?_
    first | refine J.aload_n (pc' := 66) rfl rfl rfl ?_ | refine J.aload_nN (pc' := 66) rfl rfl rfl ?_
    refine J.mgR (pc' := 69) (t := 125) B rfl fl_X12_61 rfl rfl (by decide) rfl ?_
    refine J.iload (pc' := 71) rfl rfl rfl ?_
    refine J.mald (pc' := 72) B rfl rfl rfl (by omega) (by simp only [jLn]; omega) rfl ?_
    refine J.icmp_le (tgt := 79) (pc' := 75) rfl rfl rfl (by first | omega | (exact R.r _ _) | (simp only [jM.len_sI, jM.len_sL, jM.len_sR, jM.len_fI, jM.len_fL, jM.len_fR]; omega) | (simp [jM.len_nw, jM.len_sI, jM.len_sL, jM.len_sR, jM.len_fI, jM.len_fL, jM.len_fR, *]; omega)) (by first | omega | (exact R.r _ _) | (simp only [jM.len_sI, jM.len_sL, jM.len_sR, jM.len_fI, jM.len_fL, jM.len_fR]; omega) | (simp [jM.len_nw, jM.len_sI, jM.len_sL, jM.len_sR, jM.len_fI, jM.len_fL, jM.len_fR, *]; omega)) (fun c72 => ?_) (fun c72 => ?_)
    · refine J.iconst (pc' := 80) rfl rfl ?_
      refine J.zret rfl rfl (by rfl) (by first | omega | (exact R.r _ _) | (simp only [jM.len_sI, jM.len_sL, jM.len_sR, jM.len_fI, jM.len_fL, jM.len_fR]; omega) | (simp [jM.len_nw, jM.len_sI, jM.len_sL, jM.len_sR, jM.len_fI, jM.len_fL, jM.len_fR, *]; omega)) (by first | omega | (exact R.r _ _) | (simp only [jM.len_sI, jM.len_sL, jM.len_sR, jM.len_fI, jM.len_fL, jM.len_fR]; omega) | (simp [jM.len_nw, jM.len_sI, jM.len_sL, jM.len_sR, jM.len_fI, jM.len_fL, jM.len_fR, *]; omega)) ?_
      first | exact ⟨_, Or.inl ⟨rfl, by unfold sureB; (repeat (first | rw [if_pos (by omega)] | rw [if_neg (by omega)])); exact decide_eq_true (by omega)⟩, rfl, rfl⟩ | exact ⟨_, Or.inr ⟨rfl, by unfold sureB; (repeat (first | rw [if_pos (by omega)] | rw [if_neg (by omega)])); exact decide_eq_false (by omega)⟩, rfl, rfl⟩
    · refine J.iconst (pc' := 76) rfl rfl ?_
      refine J.goto (tgt := 80) rfl rfl ?_
      refine J.zret rfl rfl (by rfl) (by first | omega | (exact R.r _ _) | (simp only [jM.len_sI, jM.len_sL, jM.len_sR, jM.len_fI, jM.len_fL, jM.len_fR]; omega) | (simp [jM.len_nw, jM.len_sI, jM.len_sL, jM.len_sR, jM.len_fI, jM.len_fL, jM.len_fR, *]; omega)) (by first | omega | (exact R.r _ _) | (simp only [jM.len_sI, jM.len_sL, jM.len_sR, jM.len_fI, jM.len_fL, jM.len_fR]; omega) | (simp [jM.len_nw, jM.len_sI, jM.len_sL, jM.len_sR, jM.len_fI, jM.len_fL, jM.len_fR, *]; omega)) ?_
      first | exact ⟨_, Or.inl ⟨rfl, by unfold sureB; (repeat (first | rw [if_pos (by omega)] | rw [if_neg (by omega)])); exact decide_eq_true (by omega)⟩, rfl, rfl⟩ | exact ⟨_, Or.inr ⟨rfl, by unfold sureB; (repeat (first | rw [if_pos (by omega)] | rw [if_neg (by omega)])); exact decide_eq_false (by omega)⟩, rfl, rfl⟩
  · first | refine J.aload_n (pc' := 34) rfl rfl rfl ?_ | refine J.aload_nN (pc' := 34) rfl rfl rfl ?_
    refine J.mgR (pc' := 37) (t := 135) B rfl fl_X12_88 rfl rfl (by decide) rfl ?_
    refine J.iload (pc' := 39) rfl rfl rfl ?_
    refine J.mald (pc' := 40) B rfl rfl rfl (by omega) (by simp only [jLn]; omega) rfl ?_
    first | refine J.aload_n (pc' := 41) rfl rfl rfl ?_ | refine J.aload_nN (pc' := 41) rfl rfl rfl ?_
    refine J.mgR (pc' := 44) (t := 125) B rfl fl_X12_61 rfl rfl (by decide) rfl ?_
    refine J.iload (pc' := 46) rfl rfl rfl ?_
    refine J.mald (pc' := 47) B rfl rfl rfl (by omega) (by simp only [jLn]; omega) rfl ?_
    refine J.icmp_ge (tgt := 54) (pc' := 50) rfl rfl rfl (by first | omega | (exact R.r _ _) | (simp only [jM.len_sI, jM.len_sL, jM.len_sR, jM.len_fI, jM.len_fL, jM.len_fR]; omega) | (simp [jM.len_nw, jM.len_sI, jM.len_sL, jM.len_sR, jM.len_fI, jM.len_fL, jM.len_fR, *]; omega)) (by first | omega | (exact R.r _ _) | (simp only [jM.len_sI, jM.len_sL, jM.len_sR, jM.len_fI, jM.len_fL, jM.len_fR]; omega) | (simp [jM.len_nw, jM.len_sI, jM.len_sL, jM.len_sR, jM.len_fI, jM.len_fL, jM.len_fR, *]; omega)) (fun c47 => ?_) (fun c47 => ?_)
    · refine J.iconst (pc' := 55) rfl rfl ?_
      refine J.goto (tgt := 80) rfl rfl ?_
      refine J.zret rfl rfl (by rfl) (by first | omega | (exact R.r _ _) | (simp only [jM.len_sI, jM.len_sL, jM.len_sR, jM.len_fI, jM.len_fL, jM.len_fR]; omega) | (simp [jM.len_nw, jM.len_sI, jM.len_sL, jM.len_sR, jM.len_fI, jM.len_fL, jM.len_fR, *]; omega)) (by first | omega | (exact R.r _ _) | (simp only [jM.len_sI, jM.len_sL, jM.len_sR, jM.len_fI, jM.len_fL, jM.len_fR]; omega) | (simp [jM.len_nw, jM.len_sI, jM.len_sL, jM.len_sR, jM.len_fI, jM.len_fL, jM.len_fR, *]; omega)) ?_
      first | exact ⟨_, Or.inl ⟨rfl, by unfold sureB; (repeat (first | rw [if_pos (by omega)] | rw [if_neg (by omega)])); exact decide_eq_true (by omega)⟩, rfl, rfl⟩ | exact ⟨_, Or.inr ⟨rfl, by unfold sureB; (repeat (first | rw [if_pos (by omega)] | rw [if_neg (by omega)])); exact decide_eq_false (by omega)⟩, rfl, rfl⟩
    · refine J.iconst (pc' := 51) rfl rfl ?_
      refine J.goto (tgt := 80) rfl rfl ?_
      refine J.zret rfl rfl (by rfl) (by first | omega | (exact R.r _ _) | (simp only [jM.len_sI, jM.len_sL, jM.len_sR, jM.len_fI, jM.len_fL, jM.len_fR]; omega) | (simp [jM.len_nw, jM.len_sI, jM.len_sL, jM.len_sR, jM.len_fI, jM.len_fL, jM.len_fR, *]; omega)) (by first | omega | (exact R.r _ _) | (simp only [jM.len_sI, jM.len_sL, jM.len_sR, jM.len_fI, jM.len_fL, jM.len_fR]; omega) | (simp [jM.len_nw, jM.len_sI, jM.len_sL, jM.len_sR, jM.len_fI, jM.len_fL, jM.len_fR, *]; omega)) ?_
      first | exact ⟨_, Or.inl ⟨rfl, by unfold sureB; (repeat (first | rw [if_pos (by omega)] | rw [if_neg (by omega)])); exact decide_eq_true (by omega)⟩, rfl, rfl⟩ | exact ⟨_, Or.inr ⟨rfl, by unfold sureB; (repeat (first | rw [if_pos (by omega)] | rw [if_neg (by omega)])); exact decide_eq_false (by omega)⟩, rfl, rfl⟩
theorem cm_findGrade {c l : Int} (B : isB β) (R : isR V) (hc : 0 ≤ c ∧ c < 20) (hl : 0 ≤ l ∧ l < 100) : CT γ mX12_findGrade 1 0 0 [.ref (β.2 16), .int (jI c), .int (jI l)] (jP β V) (fun r h' => r = none ∧ h' = jP β (fgV V (grF V c l) (payF V c l))) X0 := by
  have hm := R 119 c rfl
  have he := R 120 c rfl
  simp [jLo, jHi] at hm he
  refine CT.of MX12_findGrade (Nat.le_of_ble_eq_true rfl) ?_
  show J γ mX12_findGrade 1 0 0 0 0 (jP β V) 0 [(0, .ref (β.2 16)), (1, .int (jI c)), (2, .int (jI l))] [] _ _
  first | refine J.aload_n (pc' := 1) rfl rfl rfl ?_ | refine J.aload_nN (pc' := 1) rfl rfl rfl ?_
  refine J.iconst (pc' := 2) rfl rfl ?_
  refine J.mpI (pc' := 5) (j := 36) B rfl fl_X12_268 rfl rfl rfl rfl ?_
  first | refine J.aload_n (pc' := 6) rfl rfl rfl ?_ | refine J.aload_nN (pc' := 6) rfl rfl rfl ?_
  refine J.iconst (pc' := 7) rfl rfl ?_
  refine J.mpI (pc' := 10) (j := 37) B rfl fl_X12_271 rfl rfl rfl rfl ?_
  refine J.iconst (pc' := 11) rfl rfl ?_
  refine J.istore_n (pc' := 12) rfl rfl (by decide) ?_
  have fin : ∀ g p : Int, -1 ≤ g → g < 13 → g = gF V c l (V 119 c).toNat → p = pF V c g → ∀ lv, jGet lv 0 = some (.ref (β.2 16)) → jGet lv 1 = some (.int (jI c)) → J γ mX12_findGrade 1 0 0 0 0 (jP β (fgV V g p)) 127 lv [] (fun r h' => r = none ∧ h' = jP β (fgV V (grF V c l) (payF V c l))) X0 := by
    intro g p hg1 hg2 e1 e2 lv l0 l1
    have q1 : (fgV V g p) 16 36 = g := rfl
    have q2 : (fgV V g p) 120 c = V 120 c := rfl
    have q3 : (fgV V g p) 119 c = V 119 c := rfl
    refine J.aload_n (pc' := 128) rfl rfl l0 ?_
    refine J.mgI (pc' := 131) (j := 36) B rfl fl_X12_268 rfl rfl rfl ?_
    refine J.iconst (pc' := 132) rfl rfl ?_
    rw [q1]
    refine J.icmp_ne (tgt := 145) (pc' := 135) rfl rfl rfl (by first | omega | (exact R.r _ _) | (simp only [jM.len_sI, jM.len_sL, jM.len_sR, jM.len_fI, jM.len_fL, jM.len_fR]; omega) | (simp [jM.len_nw, jM.len_sI, jM.len_sL, jM.len_sR, jM.len_fI, jM.len_fL, jM.len_fR, *]; omega)) (by first | omega | (exact R.r _ _) | (simp only [jM.len_sI, jM.len_sL, jM.len_sR, jM.len_fI, jM.len_fL, jM.len_fR]; omega) | (simp [jM.len_nw, jM.len_sI, jM.len_sL, jM.len_sR, jM.len_fI, jM.len_fL, jM.len_fR, *]; omega)) (fun c1 => ?_) (fun c1 => ?_)
    · refine J.vret rfl rfl (by first | omega | (exact R.r _ _) | (simp only [jM.len_sI, jM.len_sL, jM.len_sR, jM.len_fI, jM.len_fL, jM.len_fR]; omega) | (simp [jM.len_nw, jM.len_sI, jM.len_sL, jM.len_sR, jM.len_fI, jM.len_fL, jM.len_fR, *]; omega)) (by first | omega | (exact R.r _ _) | (simp only [jM.len_sI, jM.len_sL, jM.len_sR, jM.len_fI, jM.len_fL, jM.len_fR]; omega) | (simp [jM.len_nw, jM.len_sI, jM.len_sL, jM.len_sR, jM.len_fI, jM.len_fL, jM.len_fR, *]; omega)) ?_
      refine ⟨rfl, ?_⟩
      rw [grF, payF, ← e1, if_neg (by omega), if_neg (by omega), e2]
    · refine J.aload_n (pc' := 136) rfl rfl l0 ?_
      refine J.mgR (pc' := 139) (t := 120) B rfl fl_X12_46 rfl rfl (by decide) rfl ?_
      refine J.iload_n (pc' := 140) rfl rfl l1 ?_
      refine J.mald (pc' := 141) B rfl rfl rfl (by omega) (by simp only [jLn]; omega) rfl ?_
      refine J.iconst (pc' := 142) rfl rfl ?_
      rw [q2]
      refine J.icmp_ne (tgt := 146) (pc' := 145) rfl rfl rfl (by first | omega | (exact R.r _ _) | (simp only [jM.len_sI, jM.len_sL, jM.len_sR, jM.len_fI, jM.len_fL, jM.len_fR]; omega) | (simp [jM.len_nw, jM.len_sI, jM.len_sL, jM.len_sR, jM.len_fI, jM.len_fL, jM.len_fR, *]; omega)) (by first | omega | (exact R.r _ _) | (simp only [jM.len_sI, jM.len_sL, jM.len_sR, jM.len_fI, jM.len_fL, jM.len_fR]; omega) | (simp [jM.len_nw, jM.len_sI, jM.len_sL, jM.len_sR, jM.len_fI, jM.len_fL, jM.len_fR, *]; omega)) (fun c2 => ?_) (fun c2 => ?_)
      · refine J.aload_n (pc' := 147) rfl rfl l0 ?_
        refine J.aload_n (pc' := 148) rfl rfl l0 ?_
        refine J.mgR (pc' := 151) (t := 119) B rfl fl_X12_43 rfl rfl (by decide) rfl ?_
        refine J.iload_n (pc' := 152) rfl rfl l1 ?_
        refine J.mald (pc' := 153) B rfl rfl rfl (by omega) (by simp only [jLn]; omega) rfl ?_
        refine J.mpI (pc' := 156) (j := 36) B rfl fl_X12_268 rfl rfl rfl rfl ?_
        rw [q3]
        refine J.aload_n (pc' := 157) rfl rfl l0 ?_
        refine J.aload_n (pc' := 158) rfl rfl l0 ?_
        refine J.mgR (pc' := 161) (t := 120) B rfl fl_X12_46 rfl rfl (by decide) rfl ?_
        refine J.iload_n (pc' := 162) rfl rfl l1 ?_
        refine J.mald (pc' := 163) B rfl rfl rfl (by omega) (by simp only [jLn]; omega) rfl ?_
        refine J.mpI (pc' := 166) (j := 37) B rfl fl_X12_271 rfl rfl rfl rfl ?_
        refine J.vret rfl rfl (by first | omega | (exact R.r _ _) | (simp only [jM.len_sI, jM.len_sL, jM.len_sR, jM.len_fI, jM.len_fL, jM.len_fR]; omega) | (simp [jM.len_nw, jM.len_sI, jM.len_sL, jM.len_sR, jM.len_fI, jM.len_fL, jM.len_fR, *]; omega)) (by first | omega | (exact R.r _ _) | (simp only [jM.len_sI, jM.len_sL, jM.len_sR, jM.len_fI, jM.len_fL, jM.len_fR]; omega) | (simp [jM.len_nw, jM.len_sI, jM.len_sL, jM.len_sR, jM.len_fI, jM.len_fL, jM.len_fR, *]; omega)) ?_
        refine ⟨rfl, ?_⟩
        rw [jU_o _ (by decide), q2, fgV_fg, grF, payF, ← e1, if_pos (by omega), if_pos (by omega)]
      · refine J.vret rfl rfl (by first | omega | (exact R.r _ _) | (simp only [jM.len_sI, jM.len_sL, jM.len_sR, jM.len_fI, jM.len_fL, jM.len_fR]; omega) | (simp [jM.len_nw, jM.len_sI, jM.len_sL, jM.len_sR, jM.len_fI, jM.len_fL, jM.len_fR, *]; omega)) (by first | omega | (exact R.r _ _) | (simp only [jM.len_sI, jM.len_sL, jM.len_sR, jM.len_fI, jM.len_fL, jM.len_fR]; omega) | (simp [jM.len_nw, jM.len_sI, jM.len_sL, jM.len_sR, jM.len_fI, jM.len_fL, jM.len_fR, *]; omega)) ?_
        refine ⟨rfl, ?_⟩
        rw [grF, payF, ← e1, if_neg (by omega), if_neg (by omega), e2]
  have key : ∀ (n i : Nat), (i : Int) + n = V 119 c → J γ mX12_findGrade 1 0 0 0 0 (jP β (fgV V (gF V c l i) (pF V c (gF V c l i)))) 12 [(0, .ref (β.2 16)), (1, .int (jI c)), (2, .int (jI l)), (3, .int (jI (i : Int)))] [] (fun r h' => r = none ∧ h' = jP β (fgV V (grF V c l) (payF V c l))) X0 := by
    intro n
    induction n with
    | zero =>
      intro i hi
      have hb := gF_b V c l i
      refine J.iload_n (pc' := 13) rfl rfl rfl ?_
      first | refine J.aload_n (pc' := 14) rfl rfl rfl ?_ | refine J.aload_nN (pc' := 14) rfl rfl rfl ?_
      refine J.mgR (pc' := 17) (t := 119) B rfl fl_X12_43 rfl rfl (by decide) rfl ?_
      refine J.iload_n (pc' := 18) rfl rfl rfl ?_
      refine J.mald (pc' := 19) B rfl rfl rfl (by omega) (by simp only [jLn]; omega) rfl ?_
      rw [show (fgV V (gF V c l i) (pF V c (gF V c l i))) 119 c = V 119 c from rfl]
      refine J.icmp_ge (tgt := 127) (pc' := 22) rfl rfl rfl (by first | omega | (exact R.r _ _) | (simp only [jM.len_sI, jM.len_sL, jM.len_sR, jM.len_fI, jM.len_fL, jM.len_fR]; omega) | (simp [jM.len_nw, jM.len_sI, jM.len_sL, jM.len_sR, jM.len_fI, jM.len_fL, jM.len_fR, *]; omega)) (by first | omega | (exact R.r _ _) | (simp only [jM.len_sI, jM.len_sL, jM.len_sR, jM.len_fI, jM.len_fL, jM.len_fR]; omega) | (simp [jM.len_nw, jM.len_sI, jM.len_sL, jM.len_sR, jM.len_fI, jM.len_fL, jM.len_fR, *]; omega)) (fun c1 => ?_) (fun c1 => ?_)
      · exact fin _ _ (by omega) (by omega) (by rw [show (V 119 c).toNat = i by omega]) rfl _ rfl rfl
      · omega
    | succ n ih =>
      intro i hi
      have hb := gF_b V c l i
      have h9 := ih (i + 1) (by omega)
      rw [gF, show ((i + 1 : Nat) : Int) = (i : Int) + 1 by omega] at h9
      have hst := gF_st V c l i (n + 1)
      rw [show i + (n + 1) = (V 119 c).toNat by omega] at hst
      generalize gF V c l i = g at hb h9 hst ⊢
      refine J.iload_n (pc' := 13) rfl rfl rfl ?_
      first | refine J.aload_n (pc' := 14) rfl rfl rfl ?_ | refine J.aload_nN (pc' := 14) rfl rfl rfl ?_
      refine J.mgR (pc' := 17) (t := 119) B rfl fl_X12_43 rfl rfl (by decide) rfl ?_
      refine J.iload_n (pc' := 18) rfl rfl rfl ?_
      refine J.mald (pc' := 19) B rfl rfl rfl (by omega) (by simp only [jLn]; omega) rfl ?_
      rw [show (fgV V g (pF V c g)) 119 c = V 119 c from rfl]
      refine J.icmp_ge (tgt := 127) (pc' := 22) rfl rfl rfl (by first | omega | (exact R.r _ _) | (simp only [jM.len_sI, jM.len_sL, jM.len_sR, jM.len_fI, jM.len_fL, jM.len_fR]; omega) | (simp [jM.len_nw, jM.len_sI, jM.len_sL, jM.len_sR, jM.len_fI, jM.len_fL, jM.len_fR, *]; omega)) (by first | omega | (exact R.r _ _) | (simp only [jM.len_sI, jM.len_sL, jM.len_sR, jM.len_fI, jM.len_fL, jM.len_fR]; omega) | (simp [jM.len_nw, jM.len_sI, jM.len_sL, jM.len_sR, jM.len_fI, jM.len_fL, jM.len_fR, *]; omega)) (fun c1 => ?_) (fun c1 => ?_)
      · omega
      · first | refine J.aload_n (pc' := 23) rfl rfl rfl ?_ | refine J.aload_nN (pc' := 23) rfl rfl rfl ?_
        refine J.mgI (pc' := 26) (j := 36) B rfl fl_X12_268 rfl rfl rfl ?_
        refine J.iconst (pc' := 27) rfl rfl ?_
        rw [show (fgV V g (pF V c g)) 16 36 = g from rfl]
        refine J.icmp_ne (tgt := 127) (pc' := 30) rfl rfl rfl (by first | omega | (exact R.r _ _) | (simp only [jM.len_sI, jM.len_sL, jM.len_sR, jM.len_fI, jM.len_fL, jM.len_fR]; omega) | (simp [jM.len_nw, jM.len_sI, jM.len_sL, jM.len_sR, jM.len_fI, jM.len_fL, jM.len_fR, *]; omega)) (by first | omega | (exact R.r _ _) | (simp only [jM.len_sI, jM.len_sL, jM.len_sR, jM.len_fI, jM.len_fL, jM.len_fR]; omega) | (simp [jM.len_nw, jM.len_sI, jM.len_sL, jM.len_sR, jM.len_fI, jM.len_fL, jM.len_fR, *]; omega)) (fun c2 => ?_) (fun c2 => ?_)
        · exact fin _ _ (by omega) (by omega) (hst c2).symm rfl _ rfl rfl
        · rw [if_pos (by omega)] at h9
          subst c2
          have r1 := R 122 (13 * c + i) rfl
          have r2 := R 122 (13 * c + i + 1) rfl
          simp [jLo, jHi] at r1 r2
          have RR : isR (fgV V (-1) (pF V c (-1))) := (R.up (fun _ => by decide)).up (fun _ => by show jLo 16 37 ≤ 0 ∧ (0 : Int) ≤ jHi 16 37; decide)
          have inn : ∀ (m k : Nat), V 122 (13 * c + i) + (k : Int) + m = V 122 (13 * c + i + 1) ∨ (m = 0 ∧ k = 0 ∧ V 122 (13 * c + i + 1) ≤ V 122 (13 * c + i)) → J γ mX12_findGrade 1 0 0 0 0 (jP β (fgV V (-1) (pF V c (-1)))) 46 [(0, .ref (β.2 16)), (1, .int (jI c)), (2, .int (jI l)), (3, .int (jI (i : Int))), (4, .int (jI (b2i (allB (fun t => sureB V c t l) (V 122 (13 * c + i)) k)))), (5, .int (jI (V 122 (13 * c + i) + (k : Int))))] [] (fun r h' => r = none ∧ h' = jP β (fgV V (grF V c l) (payF V c l))) X0 := by
            intro m
            induction m with
            | zero =>
              intro k hk
              refine J.iload (pc' := 48) rfl rfl rfl ?_
              first | refine J.aload_n (pc' := 49) rfl rfl rfl ?_ | refine J.aload_nN (pc' := 49) rfl rfl rfl ?_
              refine J.mgR (pc' := 52) (t := 122) B rfl fl_X12_52 rfl rfl (by decide) rfl ?_
              refine J.bipush (pc' := 54) rfl rfl (by decide) ?_
              refine J.iload_n (pc' := 55) rfl rfl rfl ?_
              refine J.imul (pc' := 56) rfl rfl ?_
              refine J.iload_n (pc' := 57) rfl rfl rfl ?_
              refine J.iadd (pc' := 58) rfl rfl ?_
              refine J.iconst (pc' := 59) rfl rfl ?_
              refine J.iadd (pc' := 60) rfl rfl ?_
              refine J.mald (pc' := 61) B rfl rfl rfl (by omega) (by simp only [jLn]; omega) rfl ?_
              rw [show (fgV V (-1) (pF V c (-1))) 122 (13 * c + i + 1) = V 122 (13 * c + i + 1) from rfl]
              refine J.icmp_ge (tgt := 93) (pc' := 64) rfl rfl rfl (by first | omega | (exact R.r _ _) | (simp only [jM.len_sI, jM.len_sL, jM.len_sR, jM.len_fI, jM.len_fL, jM.len_fR]; omega) | (simp [jM.len_nw, jM.len_sI, jM.len_sL, jM.len_sR, jM.len_fI, jM.len_fL, jM.len_fR, *]; omega)) (by first | omega | (exact R.r _ _) | (simp only [jM.len_sI, jM.len_sL, jM.len_sR, jM.len_fI, jM.len_fL, jM.len_fR]; omega) | (simp [jM.len_nw, jM.len_sI, jM.len_sL, jM.len_sR, jM.len_fI, jM.len_fL, jM.len_fR, *]; omega)) (fun c3 => ?_) (fun c3 => ?_)
              · have hg : gradeB V c l i = allB (fun t => sureB V c t l) (V 122 (13 * c + i)) k := by
                  unfold gradeB
                  rw [show (V 122 (13 * c + i + 1) - V 122 (13 * c + i)).toNat = k by omega]
                rw [hg] at h9
                cases ha : allB (fun t => sureB V c t l) (V 122 (13 * c + i)) k with
                | true =>
                  rw [ha, if_pos rfl] at h9
                  simp only [b2i, cond_true]
                  refine J.iload (pc' := 95) rfl rfl rfl ?_
                  refine J.if_ne (tgt := 101) (pc' := 98) rfl rfl rfl (by first | omega | (exact R.r _ _) | (simp only [jM.len_sI, jM.len_sL, jM.len_sR, jM.len_fI, jM.len_fL, jM.len_fR]; omega) | (simp [jM.len_nw, jM.len_sI, jM.len_sL, jM.len_sR, jM.len_fI, jM.len_fL, jM.len_fR, *]; omega)) (fun c4 => ?_) (fun c4 => ?_)
                  · first | refine J.aload_n (pc' := 102) rfl rfl rfl ?_ | refine J.aload_nN (pc' := 102) rfl rfl rfl ?_
                    refine J.iload_n (pc' := 103) rfl rfl rfl ?_
                    refine J.mpI (pc' := 106) (j := 36) B rfl fl_X12_268 rfl rfl rfl rfl ?_
                    first | refine J.aload_n (pc' := 107) rfl rfl rfl ?_ | refine J.aload_nN (pc' := 107) rfl rfl rfl ?_
                    first | refine J.aload_n (pc' := 108) rfl rfl rfl ?_ | refine J.aload_nN (pc' := 108) rfl rfl rfl ?_
                    refine J.mgR (pc' := 111) (t := 121) B rfl fl_X12_49 rfl rfl (by decide) rfl ?_
                    refine J.bipush (pc' := 113) rfl rfl (by decide) ?_
                    refine J.iload_n (pc' := 114) rfl rfl rfl ?_
                    refine J.imul (pc' := 115) rfl rfl ?_
                    refine J.iload_n (pc' := 116) rfl rfl rfl ?_
                    refine J.iadd (pc' := 117) rfl rfl ?_
                    refine J.mald (pc' := 118) B rfl rfl rfl (by omega) (by simp only [jLn]; omega) rfl ?_
                    refine J.mpI (pc' := 121) (j := 37) B rfl fl_X12_271 rfl rfl rfl rfl ?_
                    refine J.iinc (pc' := 124) rfl rfl rfl (by decide) ?_
                    refine J.goto (tgt := 12) rfl rfl ?_
                    rw [jU_o _ (by decide), show (fgV V (-1) (pF V c (-1))) 121 (12 * c + i) = V 121 (12 * c + i) from rfl, fgV_fg]
                    rw [pF, if_neg (by omega)] at h9
                    exact J.locs (fun q hq => by simp only [List.mem_cons, List.not_mem_nil, or_false] at hq; rcases hq with rfl | rfl | rfl | rfl <;> rfl) h9
                  · omega
                | false =>
                  rw [ha, if_neg (by decide)] at h9
                  simp only [b2i, cond_false]
                  refine J.iload (pc' := 95) rfl rfl rfl ?_
                  refine J.if_ne (tgt := 101) (pc' := 98) rfl rfl rfl (by first | omega | (exact R.r _ _) | (simp only [jM.len_sI, jM.len_sL, jM.len_sR, jM.len_fI, jM.len_fL, jM.len_fR]; omega) | (simp [jM.len_nw, jM.len_sI, jM.len_sL, jM.len_sR, jM.len_fI, jM.len_fL, jM.len_fR, *]; omega)) (fun c4 => ?_) (fun c4 => ?_)
                  · omega
                  · refine J.goto (tgt := 121) rfl rfl ?_
                    refine J.iinc (pc' := 124) rfl rfl rfl (by decide) ?_
                    refine J.goto (tgt := 12) rfl rfl ?_
                    exact J.locs (fun q hq => by simp only [List.mem_cons, List.not_mem_nil, or_false] at hq; rcases hq with rfl | rfl | rfl | rfl <;> rfl) h9
              · omega
            | succ m ih2 =>
              intro k hk
              have h8 := ih2 (k + 1) (by omega)
              rw [allB, show ((k + 1 : Nat) : Int) = (k : Int) + 1 by omega, ← Int.add_assoc] at h8
              refine J.iload (pc' := 48) rfl rfl rfl ?_
              first | refine J.aload_n (pc' := 49) rfl rfl rfl ?_ | refine J.aload_nN (pc' := 49) rfl rfl rfl ?_
              refine J.mgR (pc' := 52) (t := 122) B rfl fl_X12_52 rfl rfl (by decide) rfl ?_
              refine J.bipush (pc' := 54) rfl rfl (by decide) ?_
              refine J.iload_n (pc' := 55) rfl rfl rfl ?_
              refine J.imul (pc' := 56) rfl rfl ?_
              refine J.iload_n (pc' := 57) rfl rfl rfl ?_
              refine J.iadd (pc' := 58) rfl rfl ?_
              refine J.iconst (pc' := 59) rfl rfl ?_
              refine J.iadd (pc' := 60) rfl rfl ?_
              refine J.mald (pc' := 61) B rfl rfl rfl (by omega) (by simp only [jLn]; omega) rfl ?_
              rw [show (fgV V (-1) (pF V c (-1))) 122 (13 * c + i + 1) = V 122 (13 * c + i + 1) from rfl]
              refine J.icmp_ge (tgt := 93) (pc' := 64) rfl rfl rfl (by first | omega | (exact R.r _ _) | (simp only [jM.len_sI, jM.len_sL, jM.len_sR, jM.len_fI, jM.len_fL, jM.len_fR]; omega) | (simp [jM.len_nw, jM.len_sI, jM.len_sL, jM.len_sR, jM.len_fI, jM.len_fL, jM.len_fR, *]; omega)) (by first | omega | (exact R.r _ _) | (simp only [jM.len_sI, jM.len_sL, jM.len_sR, jM.len_fI, jM.len_fL, jM.len_fR]; omega) | (simp [jM.len_nw, jM.len_sI, jM.len_sL, jM.len_sR, jM.len_fI, jM.len_fL, jM.len_fR, *]; omega)) (fun c3 => ?_) (fun c3 => ?_)
              · omega
              · cases ha : allB (fun t => sureB V c t l) (V 122 (13 * c + i)) k with
                | true =>
                  rw [ha, Bool.true_and] at h8
                  simp only [b2i, cond_true]
                  refine J.iload (pc' := 66) rfl rfl rfl ?_
                  refine J.if_eq (tgt := 84) (pc' := 69) rfl rfl rfl (by first | omega | (exact R.r _ _) | (simp only [jM.len_sI, jM.len_sL, jM.len_sR, jM.len_fI, jM.len_fL, jM.len_fR]; omega) | (simp [jM.len_nw, jM.len_sI, jM.len_sL, jM.len_sR, jM.len_fI, jM.len_fL, jM.len_fR, *]; omega)) (fun c4 => ?_) (fun c4 => ?_)
                  · omega
                  · first | refine J.aload_n (pc' := 70) rfl rfl rfl ?_ | refine J.aload_nN (pc' := 70) rfl rfl rfl ?_
                    refine J.iload_n (pc' := 71) rfl rfl rfl ?_
                    refine J.iload (pc' := 73) rfl rfl rfl ?_
                    refine J.iload_n (pc' := 74) rfl rfl rfl ?_
                    refine J.callV (pc' := 77) (t := 16) rfl MX12_isSure ml_X12_274 iv_X12_isSure (by decide) ⟨_, rfl, rfl⟩ B.1 (cm_isSure B RR hc (by omega) hl) rfl rfl (Nat.le_of_ble_eq_true rfl) (by first | omega | (exact R.r _ _) | (simp only [jM.len_sI, jM.len_sL, jM.len_sR, jM.len_fI, jM.len_fL, jM.len_fR]; omega) | (simp [jM.len_nw, jM.len_sI, jM.len_sL, jM.len_sR, jM.len_fI, jM.len_fL, jM.len_fR, *]; omega)) (by first | omega | (exact R.r _ _) | (simp only [jM.len_sI, jM.len_sL, jM.len_sR, jM.len_fI, jM.len_fL, jM.len_fR]; omega) | (simp [jM.len_nw, jM.len_sI, jM.len_sL, jM.len_sR, jM.len_fI, jM.len_fL, jM.len_fR, *]; omega)) (by first | omega | (exact R.r _ _) | (simp only [jM.len_sI, jM.len_sL, jM.len_sR, jM.len_fI, jM.len_fL, jM.len_fR]; omega) | (simp [jM.len_nw, jM.len_sI, jM.len_sL, jM.len_sR, jM.len_fI, jM.len_fL, jM.len_fR, *]; omega)) rfl rfl ?_ ?_
                    · exact fun _ _ h => h
                    rintro _ _ ⟨b, hb9, rfl, rfl⟩
                    rcases hb9 with ⟨rfl, hb9⟩ | ⟨rfl, hb9⟩
                    · refine J.if_eq (tgt := 84) (pc' := 80) rfl rfl rfl (by first | omega | (exact R.r _ _) | (simp only [jM.len_sI, jM.len_sL, jM.len_sR, jM.len_fI, jM.len_fL, jM.len_fR]; omega) | (simp [jM.len_nw, jM.len_sI, jM.len_sL, jM.len_sR, jM.len_fI, jM.len_fL, jM.len_fR, *]; omega)) (fun c5 => ?_) (fun c5 => ?_)
                      · omega
                      · refine J.iconst (pc' := 81) rfl rfl ?_
                        refine J.goto (tgt := 85) rfl rfl ?_
                        refine J.istore (pc' := 87) rfl rfl (by decide) ?_
                        refine J.iinc (pc' := 90) rfl rfl rfl (by decide) ?_
                        refine J.goto (tgt := 46) rfl rfl ?_
                        rw [show sureB V c (V 122 (13 * c + i) + (k : Int)) l = true from hb9] at h8
                        exact h8
                    · refine J.if_eq (tgt := 84) (pc' := 80) rfl rfl rfl (by first | omega | (exact R.r _ _) | (simp only [jM.len_sI, jM.len_sL, jM.len_sR, jM.len_fI, jM.len_fL, jM.len_fR]; omega) | (simp [jM.len_nw, jM.len_sI, jM.len_sL, jM.len_sR, jM.len_fI, jM.len_fL, jM.len_fR, *]; omega)) (fun c5 => ?_) (fun c5 => ?_)
                      · refine J.iconst (pc' := 85) rfl rfl ?_
                        refine J.istore (pc' := 87) rfl rfl (by decide) ?_
                        refine J.iinc (pc' := 90) rfl rfl rfl (by decide) ?_
                        refine J.goto (tgt := 46) rfl rfl ?_
                        rw [show sureB V c (V 122 (13 * c + i) + (k : Int)) l = false from hb9] at h8
                        exact h8
                      · omega
                | false =>
                  rw [ha, Bool.false_and] at h8
                  simp only [b2i, cond_false]
                  refine J.iload (pc' := 66) rfl rfl rfl ?_
                  refine J.if_eq (tgt := 84) (pc' := 69) rfl rfl rfl (by first | omega | (exact R.r _ _) | (simp only [jM.len_sI, jM.len_sL, jM.len_sR, jM.len_fI, jM.len_fL, jM.len_fR]; omega) | (simp [jM.len_nw, jM.len_sI, jM.len_sL, jM.len_sR, jM.len_fI, jM.len_fL, jM.len_fR, *]; omega)) (fun c4 => ?_) (fun c4 => ?_)
                  · refine J.iconst (pc' := 85) rfl rfl ?_
                    refine J.istore (pc' := 87) rfl rfl (by decide) ?_
                    refine J.iinc (pc' := 90) rfl rfl rfl (by decide) ?_
                    refine J.goto (tgt := 46) rfl rfl ?_
                    exact h8
                  · omega
          refine J.iconst (pc' := 31) rfl rfl ?_
          refine J.istore (pc' := 33) rfl rfl (by decide) ?_
          first | refine J.aload_n (pc' := 34) rfl rfl rfl ?_ | refine J.aload_nN (pc' := 34) rfl rfl rfl ?_
          refine J.mgR (pc' := 37) (t := 122) B rfl fl_X12_52 rfl rfl (by decide) rfl ?_
          refine J.bipush (pc' := 39) rfl rfl (by decide) ?_
          refine J.iload_n (pc' := 40) rfl rfl rfl ?_
          refine J.imul (pc' := 41) rfl rfl ?_
          refine J.iload_n (pc' := 42) rfl rfl rfl ?_
          refine J.iadd (pc' := 43) rfl rfl ?_
          refine J.mald (pc' := 44) B rfl rfl rfl (by omega) (by simp only [jLn]; omega) rfl ?_
          refine J.istore (pc' := 46) rfl rfl (by decide) ?_
          rw [show (fgV V (-1) (pF V c (-1))) 122 (13 * c + i) = V 122 (13 * c + i) from rfl]
          have h7 := inn (V 122 (13 * c + i + 1) - V 122 (13 * c + i)).toNat 0 (by omega)
          simp only [allB, b2i, cond_true, Int.natCast_zero, Int.add_zero] at h7
          exact h7
  have h6 := key (V 119 c).toNat 0 (by omega)
  exact h6
end M4

