section MT
variable {γ : jG} {h : jM}
theorem cx_atLeast {mt y : Nat} {T n c m lo sH : Int} {ld : Option Nat} {P : Nat → Int} (tm : h.tag mt = 12) (hT : h.I 12 mt 0 = T) (hY : isY h y n ld c P) (hm : 0 ≤ m ∧ m < 5) (hn : 0 < n ∧ n ≤ 1000) (hb : -2000000000 ≤ T * lo - (sH - n * P (2 * m + 1).toNat) ∧ T * lo - (sH - n * P (2 * m + 1).toNat) ≤ 2000000000) : CT γ mX8_atLeast 2 0 0 [.ref mt, .ref y, .int (jI m), .int (jI lo), .int (jI sH)] h (fun r h' => r = some (.int (jI (-(-(T * lo - (sH - n * P (2 * m + 1).toNat)) / n)))) ∧ h' = h) X0 := by
  obtain ⟨y1, y0, y2, y3, y4, s, y5, y6⟩ := hY
  have e1 : sv h s (2 * m + 1).toNat = P (2 * m + 1).toNat := y6.2.2.2 _ (by omega)
  have ts := y6.1.1
  refine CT.of MX8_atLeast (Nat.le_of_ble_eq_true rfl) ?_
  show J γ mX8_atLeast 2 0 0 0 0 h 0 [(0, .ref mt), (1, .ref y), (2, .int (jI m)), (3, .int (jI lo)), (4, .int (jI sH))] [] _ _
  refine J.iload (pc' := 2) rfl rfl rfl ?_
  first | refine J.aload_n (pc' := 3) rfl rfl rfl ?_ | refine J.aload_nN (pc' := 3) rfl rfl rfl ?_
  refine J.getI (pc' := 6) rfl fl_X8_57 rfl (by first | assumption | (simp only [jM.tag_sI, jM.tag_sL, jM.tag_sR, jM.tag_fI, jM.tag_fL, jM.tag_fR]; assumption) | (simp [jM.tag_nw, jM.tag_sI, jM.tag_sL, jM.tag_sR, jM.tag_fI, jM.tag_fL, jM.tag_fR, *]; done)) rfl ?_
  rw [y2]
  first | refine J.aload_n (pc' := 7) rfl rfl rfl ?_ | refine J.aload_nN (pc' := 7) rfl rfl rfl ?_
  first | refine J.getR (pc' := 10) rfl fl_X8_43 rfl (by first | assumption | (simp only [jM.tag_sI, jM.tag_sL, jM.tag_sR, jM.tag_fI, jM.tag_fL, jM.tag_fR]; assumption) | (simp [jM.tag_nw, jM.tag_sI, jM.tag_sL, jM.tag_sR, jM.tag_fI, jM.tag_fL, jM.tag_fR, *]; done)) (by first | assumption | (simp only [jM.R_sI, jM.R_sL, jM.R_fI, jM.R_fL]; assumption) | (simp [jM.R_nw, jM.R_sR, jM.R_fR, jM.R_sI, jM.R_sL, jM.R_fI, jM.R_fL, *]; done)) rfl ?_ | refine J.getRN (pc' := 10) rfl fl_X8_43 rfl (by first | assumption | (simp only [jM.tag_sI, jM.tag_sL, jM.tag_sR, jM.tag_fI, jM.tag_fL, jM.tag_fR]; assumption) | (simp [jM.tag_nw, jM.tag_sI, jM.tag_sL, jM.tag_sR, jM.tag_fI, jM.tag_fL, jM.tag_fR, *]; done)) (by first | assumption | (simp only [jM.R_sI, jM.R_sL, jM.R_fI, jM.R_fL]; assumption) | (simp [jM.R_nw, jM.R_sR, jM.R_fR, jM.R_sI, jM.R_sL, jM.R_fI, jM.R_fL, *]; done)) rfl ?_
  refine J.iload_n (pc' := 11) rfl rfl rfl ?_
  refine J.callV (pc' := 14) (t := 14) rfl MX10_high ml_X8_58 iv_X10_high (by decide) ⟨_, rfl, rfl⟩ (by first | assumption | (simp only [jM.tag_sI, jM.tag_sL, jM.tag_sR, jM.tag_fI, jM.tag_fL, jM.tag_fR]; assumption) | (simp [jM.tag_nw, jM.tag_sI, jM.tag_sL, jM.tag_sR, jM.tag_fI, jM.tag_fL, jM.tag_fR, *]; done)) (cs_high y6.1 hm.1 hm.2) rfl rfl (Nat.le_of_ble_eq_true rfl) (by first | omega | (exact R.r _ _) | (simp only [jM.len_sI, jM.len_sL, jM.len_sR, jM.len_fI, jM.len_fL, jM.len_fR]; omega) | (simp [jM.len_nw, jM.len_sI, jM.len_sL, jM.len_sR, jM.len_fI, jM.len_fL, jM.len_fR, *]; omega)) (by first | omega | (exact R.r _ _) | (simp only [jM.len_sI, jM.len_sL, jM.len_sR, jM.len_fI, jM.len_fL, jM.len_fR]; omega) | (simp [jM.len_nw, jM.len_sI, jM.len_sL, jM.len_sR, jM.len_fI, jM.len_fL, jM.len_fR, *]; omega)) (by first | omega | (exact R.r _ _) | (simp only [jM.len_sI, jM.len_sL, jM.len_sR, jM.len_fI, jM.len_fL, jM.len_fR]; omega) | (simp [jM.len_nw, jM.len_sI, jM.len_sL, jM.len_sR, jM.len_fI, jM.len_fL, jM.len_fR, *]; omega)) rfl rfl ?_ ?_
  · exact fun _ _ h => h
  rintro _ h ⟨rfl, rfl⟩
  rw [e1]
  refine J.imul (pc' := 15) rfl rfl ?_
  refine J.isub (pc' := 16) rfl rfl ?_
  refine J.istore (pc' := 18) rfl rfl (by decide) ?_
  refine J.lc (lv' := [(0, .ref mt), (1, .ref y), (3, .int (jI lo)), (5, .int (jI (sH - n * P (2 * m + 1).toNat)))]) (by repeat' (first | exact trivial | refine ⟨rfl, ?_⟩)) ?_
  first | refine J.aload_n (pc' := 19) rfl rfl rfl ?_ | refine J.aload_nN (pc' := 19) rfl rfl rfl ?_
  refine J.getI (pc' := 22) rfl fl_X8_16 rfl (by first | assumption | (simp only [jM.tag_sI, jM.tag_sL, jM.tag_sR, jM.tag_fI, jM.tag_fL, jM.tag_fR]; assumption) | (simp [jM.tag_nw, jM.tag_sI, jM.tag_sL, jM.tag_sR, jM.tag_fI, jM.tag_fL, jM.tag_fR, *]; done)) rfl ?_
  rw [hT]
  refine J.iload_n (pc' := 23) rfl rfl rfl ?_
  refine J.imul (pc' := 24) rfl rfl ?_
  refine J.iload (pc' := 26) rfl rfl rfl ?_
  refine J.isub (pc' := 27) rfl rfl ?_
  first | refine J.aload_n (pc' := 28) rfl rfl rfl ?_ | refine J.aload_nN (pc' := 28) rfl rfl rfl ?_
  refine J.getI (pc' := 31) rfl fl_X8_57 rfl (by first | assumption | (simp only [jM.tag_sI, jM.tag_sL, jM.tag_sR, jM.tag_fI, jM.tag_fL, jM.tag_fR]; assumption) | (simp [jM.tag_nw, jM.tag_sI, jM.tag_sL, jM.tag_sR, jM.tag_fI, jM.tag_fL, jM.tag_fR, *]; done)) rfl ?_
  rw [y2]
  refine J.callSN (pc' := 34) rfl MX11_roundedUp ml_X8_62 is_X11_roundedUp (cx_up (by constructor <;> omega) (by constructor <;> omega) (by constructor <;> omega) hn.1) rfl rfl (Nat.le_of_ble_eq_true rfl) (by first | omega | (exact R.r _ _) | (simp only [jM.len_sI, jM.len_sL, jM.len_sR, jM.len_fI, jM.len_fL, jM.len_fR]; omega) | (simp [jM.len_nw, jM.len_sI, jM.len_sL, jM.len_sR, jM.len_fI, jM.len_fL, jM.len_fR, *]; omega)) (by first | omega | (exact R.r _ _) | (simp only [jM.len_sI, jM.len_sL, jM.len_sR, jM.len_fI, jM.len_fL, jM.len_fR]; omega) | (simp [jM.len_nw, jM.len_sI, jM.len_sL, jM.len_sR, jM.len_fI, jM.len_fL, jM.len_fR, *]; omega)) (by first | omega | (exact R.r _ _) | (simp only [jM.len_sI, jM.len_sL, jM.len_sR, jM.len_fI, jM.len_fL, jM.len_fR]; omega) | (simp [jM.len_nw, jM.len_sI, jM.len_sL, jM.len_sR, jM.len_fI, jM.len_fL, jM.len_fR, *]; omega)) rfl ?_
  rintro _ h ⟨rfl, rfl⟩
  refine J.iret rfl rfl (by first | omega | (exact R.r _ _) | (simp only [jM.len_sI, jM.len_sL, jM.len_sR, jM.len_fI, jM.len_fL, jM.len_fR]; omega) | (simp [jM.len_nw, jM.len_sI, jM.len_sL, jM.len_sR, jM.len_fI, jM.len_fL, jM.len_fR, *]; omega)) (by first | omega | (exact R.r _ _) | (simp only [jM.len_sI, jM.len_sL, jM.len_sR, jM.len_fI, jM.len_fL, jM.len_fR]; omega) | (simp [jM.len_nw, jM.len_sI, jM.len_sL, jM.len_sR, jM.len_fI, jM.len_fL, jM.len_fR, *]; omega)) ?_
  exact ⟨rfl, rfl⟩
theorem cx_atMost {mt y : Nat} {T n c m hi sL : Int} {ld : Option Nat} {P : Nat → Int} (tm : h.tag mt = 12) (hT : h.I 12 mt 0 = T) (hY : isY h y n ld c P) (hm : 0 ≤ m ∧ m < 5) (hn : 0 < n ∧ n ≤ 1000) (hb : -2000000000 ≤ T * hi - (sL - n * P (2 * m).toNat) ∧ T * hi - (sL - n * P (2 * m).toNat) ≤ 2000000000) : CT γ mX8_atMost 2 0 0 [.ref mt, .ref y, .int (jI m), .int (jI hi), .int (jI sL)] h (fun r h' => r = some (.int (jI ((T * hi - (sL - n * P (2 * m).toNat)) / n))) ∧ h' = h) X0 := by
  obtain ⟨y1, y0, y2, y3, y4, s, y5, y6⟩ := hY
  have e1 : sv h s (2 * m).toNat = P (2 * m).toNat := y6.2.2.2 _ (by omega)
  have ts := y6.1.1
  refine CT.of MX8_atMost (Nat.le_of_ble_eq_true rfl) ?_
  show J γ mX8_atMost 2 0 0 0 0 h 0 [(0, .ref mt), (1, .ref y), (2, .int (jI m)), (3, .int (jI hi)), (4, .int (jI sL))] [] _ _
  refine J.iload (pc' := 2) rfl rfl rfl ?_
  first | refine J.aload_n (pc' := 3) rfl rfl rfl ?_ | refine J.aload_nN (pc' := 3) rfl rfl rfl ?_
  refine J.getI (pc' := 6) rfl fl_X8_57 rfl (by first | assumption | (simp only [jM.tag_sI, jM.tag_sL, jM.tag_sR, jM.tag_fI, jM.tag_fL, jM.tag_fR]; assumption) | (simp [jM.tag_nw, jM.tag_sI, jM.tag_sL, jM.tag_sR, jM.tag_fI, jM.tag_fL, jM.tag_fR, *]; done)) rfl ?_
  rw [y2]
  first | refine J.aload_n (pc' := 7) rfl rfl rfl ?_ | refine J.aload_nN (pc' := 7) rfl rfl rfl ?_
  first | refine J.getR (pc' := 10) rfl fl_X8_43 rfl (by first | assumption | (simp only [jM.tag_sI, jM.tag_sL, jM.tag_sR, jM.tag_fI, jM.tag_fL, jM.tag_fR]; assumption) | (simp [jM.tag_nw, jM.tag_sI, jM.tag_sL, jM.tag_sR, jM.tag_fI, jM.tag_fL, jM.tag_fR, *]; done)) (by first | assumption | (simp only [jM.R_sI, jM.R_sL, jM.R_fI, jM.R_fL]; assumption) | (simp [jM.R_nw, jM.R_sR, jM.R_fR, jM.R_sI, jM.R_sL, jM.R_fI, jM.R_fL, *]; done)) rfl ?_ | refine J.getRN (pc' := 10) rfl fl_X8_43 rfl (by first | assumption | (simp only [jM.tag_sI, jM.tag_sL, jM.tag_sR, jM.tag_fI, jM.tag_fL, jM.tag_fR]; assumption) | (simp [jM.tag_nw, jM.tag_sI, jM.tag_sL, jM.tag_sR, jM.tag_fI, jM.tag_fL, jM.tag_fR, *]; done)) (by first | assumption | (simp only [jM.R_sI, jM.R_sL, jM.R_fI, jM.R_fL]; assumption) | (simp [jM.R_nw, jM.R_sR, jM.R_fR, jM.R_sI, jM.R_sL, jM.R_fI, jM.R_fL, *]; done)) rfl ?_
  refine J.iload_n (pc' := 11) rfl rfl rfl ?_
  refine J.callV (pc' := 14) (t := 14) rfl MX10_low ml_X8_66 iv_X10_low (by decide) ⟨_, rfl, rfl⟩ (by first | assumption | (simp only [jM.tag_sI, jM.tag_sL, jM.tag_sR, jM.tag_fI, jM.tag_fL, jM.tag_fR]; assumption) | (simp [jM.tag_nw, jM.tag_sI, jM.tag_sL, jM.tag_sR, jM.tag_fI, jM.tag_fL, jM.tag_fR, *]; done)) (cs_low y6.1 hm.1 hm.2) rfl rfl (Nat.le_of_ble_eq_true rfl) (by first | omega | (exact R.r _ _) | (simp only [jM.len_sI, jM.len_sL, jM.len_sR, jM.len_fI, jM.len_fL, jM.len_fR]; omega) | (simp [jM.len_nw, jM.len_sI, jM.len_sL, jM.len_sR, jM.len_fI, jM.len_fL, jM.len_fR, *]; omega)) (by first | omega | (exact R.r _ _) | (simp only [jM.len_sI, jM.len_sL, jM.len_sR, jM.len_fI, jM.len_fL, jM.len_fR]; omega) | (simp [jM.len_nw, jM.len_sI, jM.len_sL, jM.len_sR, jM.len_fI, jM.len_fL, jM.len_fR, *]; omega)) (by first | omega | (exact R.r _ _) | (simp only [jM.len_sI, jM.len_sL, jM.len_sR, jM.len_fI, jM.len_fL, jM.len_fR]; omega) | (simp [jM.len_nw, jM.len_sI, jM.len_sL, jM.len_sR, jM.len_fI, jM.len_fL, jM.len_fR, *]; omega)) rfl rfl ?_ ?_
  · exact fun _ _ h => h
  rintro _ h ⟨rfl, rfl⟩
  rw [e1]
  refine J.imul (pc' := 15) rfl rfl ?_
  refine J.isub (pc' := 16) rfl rfl ?_
  refine J.istore (pc' := 18) rfl rfl (by decide) ?_
  refine J.lc (lv' := [(0, .ref mt), (1, .ref y), (3, .int (jI hi)), (5, .int (jI (sL - n * P (2 * m).toNat)))]) (by repeat' (first | exact trivial | refine ⟨rfl, ?_⟩)) ?_
  first | refine J.aload_n (pc' := 19) rfl rfl rfl ?_ | refine J.aload_nN (pc' := 19) rfl rfl rfl ?_
  refine J.getI (pc' := 22) rfl fl_X8_16 rfl (by first | assumption | (simp only [jM.tag_sI, jM.tag_sL, jM.tag_sR, jM.tag_fI, jM.tag_fL, jM.tag_fR]; assumption) | (simp [jM.tag_nw, jM.tag_sI, jM.tag_sL, jM.tag_sR, jM.tag_fI, jM.tag_fL, jM.tag_fR, *]; done)) rfl ?_
  rw [hT]
  refine J.iload_n (pc' := 23) rfl rfl rfl ?_
  refine J.imul (pc' := 24) rfl rfl ?_
  refine J.iload (pc' := 26) rfl rfl rfl ?_
  refine J.isub (pc' := 27) rfl rfl ?_
  first | refine J.aload_n (pc' := 28) rfl rfl rfl ?_ | refine J.aload_nN (pc' := 28) rfl rfl rfl ?_
  refine J.getI (pc' := 31) rfl fl_X8_57 rfl (by first | assumption | (simp only [jM.tag_sI, jM.tag_sL, jM.tag_sR, jM.tag_fI, jM.tag_fL, jM.tag_fR]; assumption) | (simp [jM.tag_nw, jM.tag_sI, jM.tag_sL, jM.tag_sR, jM.tag_fI, jM.tag_fL, jM.tag_fR, *]; done)) rfl ?_
  rw [y2]
  refine J.callSN (pc' := 34) rfl MX11_cut ml_X8_69 is_X11_cut (cx_cut (by constructor <;> omega) (by constructor <;> omega) hn.1) rfl rfl (Nat.le_of_ble_eq_true rfl) (by first | omega | (exact R.r _ _) | (simp only [jM.len_sI, jM.len_sL, jM.len_sR, jM.len_fI, jM.len_fL, jM.len_fR]; omega) | (simp [jM.len_nw, jM.len_sI, jM.len_sL, jM.len_sR, jM.len_fI, jM.len_fL, jM.len_fR, *]; omega)) (by first | omega | (exact R.r _ _) | (simp only [jM.len_sI, jM.len_sL, jM.len_sR, jM.len_fI, jM.len_fL, jM.len_fR]; omega) | (simp [jM.len_nw, jM.len_sI, jM.len_sL, jM.len_sR, jM.len_fI, jM.len_fL, jM.len_fR, *]; omega)) (by first | omega | (exact R.r _ _) | (simp only [jM.len_sI, jM.len_sL, jM.len_sR, jM.len_fI, jM.len_fL, jM.len_fR]; omega) | (simp [jM.len_nw, jM.len_sI, jM.len_sL, jM.len_sR, jM.len_fI, jM.len_fL, jM.len_fR, *]; omega)) rfl ?_
  rintro _ h ⟨rfl, rfl⟩
  refine J.iret rfl rfl (by first | omega | (exact R.r _ _) | (simp only [jM.len_sI, jM.len_sL, jM.len_sR, jM.len_fI, jM.len_fL, jM.len_fR]; omega) | (simp [jM.len_nw, jM.len_sI, jM.len_sL, jM.len_sR, jM.len_fI, jM.len_fL, jM.len_fR, *]; omega)) (by first | omega | (exact R.r _ _) | (simp only [jM.len_sI, jM.len_sL, jM.len_sR, jM.len_fI, jM.len_fL, jM.len_fR]; omega) | (simp [jM.len_nw, jM.len_sI, jM.len_sL, jM.len_sR, jM.len_fI, jM.len_fL, jM.len_fR, *]; omega)) ?_
  exact ⟨rfl, rfl⟩
/-- what must be at least, and may be at most, of portion k -/
def naA (N : Int → Int) (P : Int → Nat → Int) (T m lo : Int) (n : Nat) : Int → Int := fun k => -(-(T * lo - (Sm (fun k => N k * P k (2 * m + 1).toNat) n - N k * P k (2 * m + 1).toNat)) / N k)
def naZ (N : Int → Int) (P : Int → Nat → Int) (T m hi : Int) (n : Nat) : Int → Int := fun k => (T * hi - (Sm (fun k => N k * P k (2 * m).toNat) n - N k * P k (2 * m).toNat)) / N k
def naOk (P : Int → Nat → Int) (A Z : Int → Int) (m : Int) (n : Nat) : Prop := ∀ k : Nat, k < n → max (A k) (P k (2 * m).toNat) ≤ min (Z k) (P k (2 * m + 1).toNat)
variable {a e mt : Nat} {ys : List Nat} {N C : Int → Int} {D : Int → Option Nat} {P : Int → Nat → Int}
theorem cx_narrowsAll {T m lo hi : Int} (tm : h.tag mt = 12) (hT : h.I 12 mt 0 = T) (hr : h.R 12 mt 1 = some a) (hm : 0 ≤ m ∧ m < 5) (hL : isLs γ h a e ys) (hY : lays h ys N D C P) (hPb : ∀ k i : Nat, k < ys.length → i < 10 → r32 (P k i)) (hN : ∀ k : Nat, k < ys.length → 0 < N k ∧ N k ≤ 1000)
    (hb1 : ∀ k : Nat, k < ys.length → -2000000000 ≤ T * lo - (Sm (fun k => N k * P k (2 * m + 1).toNat) ys.length - N k * P k (2 * m + 1).toNat) ∧ T * lo - (Sm (fun k => N k * P k (2 * m + 1).toNat) ys.length - N k * P k (2 * m + 1).toNat) ≤ 2000000000)
    (hb2 : ∀ k : Nat, k < ys.length → -2000000000 ≤ T * hi - (Sm (fun k => N k * P k (2 * m).toNat) ys.length - N k * P k (2 * m).toNat) ∧ T * hi - (Sm (fun k => N k * P k (2 * m).toNat) ys.length - N k * P k (2 * m).toNat) ≤ 2000000000) :
    CT γ mX8_narrowsAll 4 0 0 [.ref mt, .int (jI m), .int (jI lo), .int (jI hi)] h (fun r h' => (¬ naOk P (naA N P T m lo ys.length) (naZ N P T m hi ys.length) m ys.length ∧ r = some (.int (jI 0)) ∧ h' = h) ∨ (naOk P (naA N P T m lo ys.length) (naZ N P T m hi ys.length) m ys.length ∧ r = some (.int (jI 1)) ∧ isLs γ h' a e ys ∧ lays h' ys N D C (fun k => nrP (P k) m (naA N P T m lo ys.length k) (naZ N P T m hi ys.length k)) ∧ Fr h h' (pyW h ys) ∧ h'.tag = h.tag)) X0 := by
  have hlen := hL.1.len
  have ta := hL.1.1
  have rA : ∀ k : Nat, k < ys.length → r32 (naA N P T m lo ys.length k) := fun k hk => by
    have b := hb1 k hk
    have n := hN k hk
    have := ediv_b (a := -(T * lo - (Sm (fun k => N k * P k (2 * m + 1).toNat) ys.length - N k * P k (2 * m + 1).toNat))) (b := N k) (A := 2000000000) (by omega) (by omega) (by omega) (by omega)
    unfold naA
    constructor <;> omega
  have rZ : ∀ k : Nat, k < ys.length → r32 (naZ N P T m hi ys.length k) := fun k hk => by
    have b := hb2 k hk
    have n := hN k hk
    have := ediv_b (a := T * hi - (Sm (fun k => N k * P k (2 * m).toNat) ys.length - N k * P k (2 * m).toNat)) (b := N k) (A := 2000000000) (by omega) (by omega) (by omega) (by omega)
    unfold naZ
    constructor <;> omega
  refine CT.of MX8_narrowsAll (Nat.le_of_ble_eq_true rfl) ?_
  show J γ mX8_narrowsAll 4 0 0 0 0 h 0 [(0, .ref mt), (1, .int (jI m)), (2, .int (jI lo)), (3, .int (jI hi))] [] _ _
  first | refine J.aload_n (pc' := 1) rfl rfl rfl ?_ | refine J.aload_nN (pc' := 1) rfl rfl rfl ?_
  first | refine J.getR (pc' := 4) rfl fl_X8_10 rfl (by first | assumption | (simp only [jM.tag_sI, jM.tag_sL, jM.tag_sR, jM.tag_fI, jM.tag_fL, jM.tag_fR]; assumption) | (simp [jM.tag_nw, jM.tag_sI, jM.tag_sL, jM.tag_sR, jM.tag_fI, jM.tag_fL, jM.tag_fR, *]; done)) (by first | assumption | (simp only [jM.R_sI, jM.R_sL, jM.R_fI, jM.R_fL]; assumption) | (simp [jM.R_nw, jM.R_sR, jM.R_fR, jM.R_sI, jM.R_sL, jM.R_fI, jM.R_fL, *]; done)) rfl ?_ | refine J.getRN (pc' := 4) rfl fl_X8_10 rfl (by first | assumption | (simp only [jM.tag_sI, jM.tag_sL, jM.tag_sR, jM.tag_fI, jM.tag_fL, jM.tag_fR]; assumption) | (simp [jM.tag_nw, jM.tag_sI, jM.tag_sL, jM.tag_sR, jM.tag_fI, jM.tag_fL, jM.tag_fR, *]; done)) (by first | assumption | (simp only [jM.R_sI, jM.R_sL, jM.R_fI, jM.R_fL]; assumption) | (simp [jM.R_nw, jM.R_sR, jM.R_fR, jM.R_sI, jM.R_sL, jM.R_fI, jM.R_fL, *]; done)) rfl ?_
  refine J.iconst (pc' := 5) rfl rfl ?_
  refine J.iload_n (pc' := 6) rfl rfl rfl ?_
  refine J.imul (pc' := 7) rfl rfl ?_
  refine J.callSN (pc' := 10) rfl MX11_sumOf ml_X8_20 is_X11_sumOf (cx_sumOf (pl := 2 * m) hL.1 hY (by omega)) rfl rfl (Nat.le_of_ble_eq_true rfl) (by first | omega | (exact R.r _ _) | (simp only [jM.len_sI, jM.len_sL, jM.len_sR, jM.len_fI, jM.len_fL, jM.len_fR]; omega) | (simp [jM.len_nw, jM.len_sI, jM.len_sL, jM.len_sR, jM.len_fI, jM.len_fL, jM.len_fR, *]; omega)) (by first | omega | (exact R.r _ _) | (simp only [jM.len_sI, jM.len_sL, jM.len_sR, jM.len_fI, jM.len_fL, jM.len_fR]; omega) | (simp [jM.len_nw, jM.len_sI, jM.len_sL, jM.len_sR, jM.len_fI, jM.len_fL, jM.len_fR, *]; omega)) (by first | omega | (exact R.r _ _) | (simp only [jM.len_sI, jM.len_sL, jM.len_sR, jM.len_fI, jM.len_fL, jM.len_fR]; omega) | (simp [jM.len_nw, jM.len_sI, jM.len_sL, jM.len_sR, jM.len_fI, jM.len_fL, jM.len_fR, *]; omega)) rfl ?_
  rintro _ h ⟨rfl, rfl⟩
  refine J.istore (pc' := 12) rfl rfl (by decide) ?_
  first | refine J.aload_n (pc' := 13) rfl rfl rfl ?_ | refine J.aload_nN (pc' := 13) rfl rfl rfl ?_
  first | refine J.getR (pc' := 16) rfl fl_X8_10 rfl (by first | assumption | (simp only [jM.tag_sI, jM.tag_sL, jM.tag_sR, jM.tag_fI, jM.tag_fL, jM.tag_fR]; assumption) | (simp [jM.tag_nw, jM.tag_sI, jM.tag_sL, jM.tag_sR, jM.tag_fI, jM.tag_fL, jM.tag_fR, *]; done)) (by first | assumption | (simp only [jM.R_sI, jM.R_sL, jM.R_fI, jM.R_fL]; assumption) | (simp [jM.R_nw, jM.R_sR, jM.R_fR, jM.R_sI, jM.R_sL, jM.R_fI, jM.R_fL, *]; done)) rfl ?_ | refine J.getRN (pc' := 16) rfl fl_X8_10 rfl (by first | assumption | (simp only [jM.tag_sI, jM.tag_sL, jM.tag_sR, jM.tag_fI, jM.tag_fL, jM.tag_fR]; assumption) | (simp [jM.tag_nw, jM.tag_sI, jM.tag_sL, jM.tag_sR, jM.tag_fI, jM.tag_fL, jM.tag_fR, *]; done)) (by first | assumption | (simp only [jM.R_sI, jM.R_sL, jM.R_fI, jM.R_fL]; assumption) | (simp [jM.R_nw, jM.R_sR, jM.R_fR, jM.R_sI, jM.R_sL, jM.R_fI, jM.R_fL, *]; done)) rfl ?_
  refine J.iconst (pc' := 17) rfl rfl ?_
  refine J.iload_n (pc' := 18) rfl rfl rfl ?_
  refine J.imul (pc' := 19) rfl rfl ?_
  refine J.iconst (pc' := 20) rfl rfl ?_
  refine J.iadd (pc' := 21) rfl rfl ?_
  refine J.callSN (pc' := 24) rfl MX11_sumOf ml_X8_20 is_X11_sumOf (cx_sumOf (pl := 2 * m + 1) hL.1 hY (by omega)) rfl rfl (Nat.le_of_ble_eq_true rfl) (by first | omega | (exact R.r _ _) | (simp only [jM.len_sI, jM.len_sL, jM.len_sR, jM.len_fI, jM.len_fL, jM.len_fR]; omega) | (simp [jM.len_nw, jM.len_sI, jM.len_sL, jM.len_sR, jM.len_fI, jM.len_fL, jM.len_fR, *]; omega)) (by first | omega | (exact R.r _ _) | (simp only [jM.len_sI, jM.len_sL, jM.len_sR, jM.len_fI, jM.len_fL, jM.len_fR]; omega) | (simp [jM.len_nw, jM.len_sI, jM.len_sL, jM.len_sR, jM.len_fI, jM.len_fL, jM.len_fR, *]; omega)) (by first | omega | (exact R.r _ _) | (simp only [jM.len_sI, jM.len_sL, jM.len_sR, jM.len_fI, jM.len_fL, jM.len_fR]; omega) | (simp [jM.len_nw, jM.len_sI, jM.len_sL, jM.len_sR, jM.len_fI, jM.len_fL, jM.len_fR, *]; omega)) rfl ?_
  rintro _ h ⟨rfl, rfl⟩
  refine J.istore (pc' := 26) rfl rfl (by decide) ?_
  refine J.iconst (pc' := 27) rfl rfl ?_
  refine J.istore (pc' := 29) rfl rfl (by decide) ?_
  have eA : ∀ k, naA N P T m lo ys.length k = -(-(T * lo - (Sm (fun k => N k * P k (2 * m + 1).toNat) ys.length - N k * P k (2 * m + 1).toNat)) / N k) := fun _ => rfl
  have eZ : ∀ k, naZ N P T m hi ys.length k = (T * hi - (Sm (fun k => N k * P k (2 * m).toNat) ys.length - N k * P k (2 * m).toNat)) / N k := fun _ => rfl
  generalize naA N P T m lo ys.length = A at rA eA ⊢
  generalize naZ N P T m hi ys.length = Z at rZ eZ ⊢
  generalize Sm (fun k => N k * P k (2 * m).toNat) ys.length = SL at hb2 eZ ⊢
  generalize Sm (fun k => N k * P k (2 * m + 1).toNat) ys.length = SH at hb1 eA ⊢
  -- the second loop
  have key2 : naOk P A Z m ys.length → ∀ (j i : Nat), i + j = ys.length → ∀ k : jM, isLs γ k a e ys → lays k ys N D C (fun x => if x < (i : Int) then nrP (P x) m (A x) (Z x) else P x) → Fr h k (pyW h ys) → k.tag = h.tag → ∀ lv, hasL lv [(0, .ref mt), (1, .int (jI m)), (2, .int (jI lo)), (3, .int (jI hi)), (4, .int (jI SL)), (5, .int (jI SH)), (6, .int (jI (i : Int)))] → J γ mX8_narrowsAll 4 0 0 0 0 k 106 lv [] (fun r h' => (¬ naOk P A Z m ys.length ∧ r = some (.int (jI 0)) ∧ h' = h) ∨ (naOk P A Z m ys.length ∧ r = some (.int (jI 1)) ∧ isLs γ h' a e ys ∧ lays h' ys N D C (fun k => nrP (P k) m (A k) (Z k)) ∧ Fr h h' (pyW h ys) ∧ h'.tag = h.tag)) X0 := by
    intro hok j
    induction j with
    | zero =>
      intro i hi2 k b1 b2 b3 b4 lv hlv
      have ta := b1.1.1
      have tp : k.tag mt = 12 := by rw [b4]; exact tm
      have rp : k.R 12 mt 1 = some a := by rw [b3.R tm (by omega) (fun z => by omega)]; exact hr
      refine J.lc hlv ?_
      refine J.iload (pc' := 108) rfl rfl rfl ?_
      first | refine J.aload_n (pc' := 109) rfl rfl rfl ?_ | refine J.aload_nN (pc' := 109) rfl rfl rfl ?_
      first | refine J.getR (pc' := 112) rfl fl_X8_10 rfl (by first | assumption | (simp only [jM.tag_sI, jM.tag_sL, jM.tag_sR, jM.tag_fI, jM.tag_fL, jM.tag_fR]; assumption) | (simp [jM.tag_nw, jM.tag_sI, jM.tag_sL, jM.tag_sR, jM.tag_fI, jM.tag_fL, jM.tag_fR, *]; done)) (by first | assumption | (simp only [jM.R_sI, jM.R_sL, jM.R_fI, jM.R_fL]; assumption) | (simp [jM.R_nw, jM.R_sR, jM.R_fR, jM.R_sI, jM.R_sL, jM.R_fI, jM.R_fL, *]; done)) rfl ?_ | refine J.getRN (pc' := 112) rfl fl_X8_10 rfl (by first | assumption | (simp only [jM.tag_sI, jM.tag_sL, jM.tag_sR, jM.tag_fI, jM.tag_fL, jM.tag_fR]; assumption) | (simp [jM.tag_nw, jM.tag_sI, jM.tag_sL, jM.tag_sR, jM.tag_fI, jM.tag_fL, jM.tag_fR, *]; done)) (by first | assumption | (simp only [jM.R_sI, jM.R_sL, jM.R_fI, jM.R_fL]; assumption) | (simp [jM.R_nw, jM.R_sR, jM.R_fR, jM.R_sI, jM.R_sL, jM.R_fI, jM.R_fL, *]; done)) rfl ?_
      refine J.callV (pc' := 115) (t := 3) rfl MJx4a65c_size_8abf5 ml_X8_26 iv_Jx4a65c_size_8abf5 (by decide) ⟨_, rfl, rfl⟩ (by first | assumption | (simp only [jM.tag_sI, jM.tag_sL, jM.tag_sR, jM.tag_fI, jM.tag_fL, jM.tag_fR]; assumption) | (simp [jM.tag_nw, jM.tag_sI, jM.tag_sL, jM.tag_sR, jM.tag_fI, jM.tag_fL, jM.tag_fR, *]; done)) b1.1.size rfl rfl (Nat.le_of_ble_eq_true rfl) (by first | omega | (exact R.r _ _) | (simp only [jM.len_sI, jM.len_sL, jM.len_sR, jM.len_fI, jM.len_fL, jM.len_fR]; omega) | (simp [jM.len_nw, jM.len_sI, jM.len_sL, jM.len_sR, jM.len_fI, jM.len_fL, jM.len_fR, *]; omega)) (by first | omega | (exact R.r _ _) | (simp only [jM.len_sI, jM.len_sL, jM.len_sR, jM.len_fI, jM.len_fL, jM.len_fR]; omega) | (simp [jM.len_nw, jM.len_sI, jM.len_sL, jM.len_sR, jM.len_fI, jM.len_fL, jM.len_fR, *]; omega)) (by first | omega | (exact R.r _ _) | (simp only [jM.len_sI, jM.len_sL, jM.len_sR, jM.len_fI, jM.len_fL, jM.len_fR]; omega) | (simp [jM.len_nw, jM.len_sI, jM.len_sL, jM.len_sR, jM.len_fI, jM.len_fL, jM.len_fR, *]; omega)) rfl rfl ?_ ?_
      · exact fun _ _ h => h
      rintro _ k ⟨rfl, rfl⟩
      refine J.icmp_ge (tgt := 175) (pc' := 118) rfl rfl rfl (by first | omega | (exact R.r _ _) | (simp only [jM.len_sI, jM.len_sL, jM.len_sR, jM.len_fI, jM.len_fL, jM.len_fR]; omega) | (simp [jM.len_nw, jM.len_sI, jM.len_sL, jM.len_sR, jM.len_fI, jM.len_fL, jM.len_fR, *]; omega)) (by first | omega | (exact R.r _ _) | (simp only [jM.len_sI, jM.len_sL, jM.len_sR, jM.len_fI, jM.len_fL, jM.len_fR]; omega) | (simp [jM.len_nw, jM.len_sI, jM.len_sL, jM.len_sR, jM.len_fI, jM.len_fL, jM.len_fR, *]; omega)) (fun c1 => ?_) (fun c1 => ?_)
      · refine J.iconst (pc' := 176) rfl rfl ?_
        refine J.zret rfl rfl (by rfl) (by first | omega | (exact R.r _ _) | (simp only [jM.len_sI, jM.len_sL, jM.len_sR, jM.len_fI, jM.len_fL, jM.len_fR]; omega) | (simp [jM.len_nw, jM.len_sI, jM.len_sL, jM.len_sR, jM.len_fI, jM.len_fL, jM.len_fR, *]; omega)) (by first | omega | (exact R.r _ _) | (simp only [jM.len_sI, jM.len_sL, jM.len_sR, jM.len_fI, jM.len_fL, jM.len_fR]; omega) | (simp [jM.len_nw, jM.len_sI, jM.len_sL, jM.len_sR, jM.len_fI, jM.len_fL, jM.len_fR, *]; omega)) ?_
        exact Or.inr ⟨hok, rfl, b1, b2.cg (fun x hx => ⟨rfl, rfl, rfl, by (try dsimp only); rw [if_pos (by omega)]⟩), b3, b4⟩
      · omega
    | succ j ih =>
      intro i hi2 k b1 b2 b3 b4 lv hlv
      have ta := b1.1.1
      have tp : k.tag mt = 12 := by rw [b4]; exact tm
      have rp : k.R 12 mt 1 = some a := by rw [b3.R tm (by omega) (fun z => by omega)]; exact hr
      have iT : k.I 12 mt 0 = T := by rw [b3.I tm (by omega) (fun z => by omega)]; exact hT
      obtain ⟨y, hy⟩ : ∃ y, ys[i]? = some y := ⟨_, List.getElem?_eq_getElem (by omega)⟩
      have hyy := b2 i y hy
      try dsimp only at hyy
      rw [if_neg (by omega)] at hyy
      have hy0 := hyy
      obtain ⟨y1, y0, y2, y3, y4, s, y5, y6⟩ := hyy
      have ts := y6.1.1
      have hNi := hN i (by omega)
      refine J.lc hlv ?_
      refine J.iload (pc' := 108) rfl rfl rfl ?_
      first | refine J.aload_n (pc' := 109) rfl rfl rfl ?_ | refine J.aload_nN (pc' := 109) rfl rfl rfl ?_
      first | refine J.getR (pc' := 112) rfl fl_X8_10 rfl (by first | assumption | (simp only [jM.tag_sI, jM.tag_sL, jM.tag_sR, jM.tag_fI, jM.tag_fL, jM.tag_fR]; assumption) | (simp [jM.tag_nw, jM.tag_sI, jM.tag_sL, jM.tag_sR, jM.tag_fI, jM.tag_fL, jM.tag_fR, *]; done)) (by first | assumption | (simp only [jM.R_sI, jM.R_sL, jM.R_fI, jM.R_fL]; assumption) | (simp [jM.R_nw, jM.R_sR, jM.R_fR, jM.R_sI, jM.R_sL, jM.R_fI, jM.R_fL, *]; done)) rfl ?_ | refine J.getRN (pc' := 112) rfl fl_X8_10 rfl (by first | assumption | (simp only [jM.tag_sI, jM.tag_sL, jM.tag_sR, jM.tag_fI, jM.tag_fL, jM.tag_fR]; assumption) | (simp [jM.tag_nw, jM.tag_sI, jM.tag_sL, jM.tag_sR, jM.tag_fI, jM.tag_fL, jM.tag_fR, *]; done)) (by first | assumption | (simp only [jM.R_sI, jM.R_sL, jM.R_fI, jM.R_fL]; assumption) | (simp [jM.R_nw, jM.R_sR, jM.R_fR, jM.R_sI, jM.R_sL, jM.R_fI, jM.R_fL, *]; done)) rfl ?_
      refine J.callV (pc' := 115) (t := 3) rfl MJx4a65c_size_8abf5 ml_X8_26 iv_Jx4a65c_size_8abf5 (by decide) ⟨_, rfl, rfl⟩ (by first | assumption | (simp only [jM.tag_sI, jM.tag_sL, jM.tag_sR, jM.tag_fI, jM.tag_fL, jM.tag_fR]; assumption) | (simp [jM.tag_nw, jM.tag_sI, jM.tag_sL, jM.tag_sR, jM.tag_fI, jM.tag_fL, jM.tag_fR, *]; done)) b1.1.size rfl rfl (Nat.le_of_ble_eq_true rfl) (by first | omega | (exact R.r _ _) | (simp only [jM.len_sI, jM.len_sL, jM.len_sR, jM.len_fI, jM.len_fL, jM.len_fR]; omega) | (simp [jM.len_nw, jM.len_sI, jM.len_sL, jM.len_sR, jM.len_fI, jM.len_fL, jM.len_fR, *]; omega)) (by first | omega | (exact R.r _ _) | (simp only [jM.len_sI, jM.len_sL, jM.len_sR, jM.len_fI, jM.len_fL, jM.len_fR]; omega) | (simp [jM.len_nw, jM.len_sI, jM.len_sL, jM.len_sR, jM.len_fI, jM.len_fL, jM.len_fR, *]; omega)) (by first | omega | (exact R.r _ _) | (simp only [jM.len_sI, jM.len_sL, jM.len_sR, jM.len_fI, jM.len_fL, jM.len_fR]; omega) | (simp [jM.len_nw, jM.len_sI, jM.len_sL, jM.len_sR, jM.len_fI, jM.len_fL, jM.len_fR, *]; omega)) rfl rfl ?_ ?_
      · exact fun _ _ h => h
      rintro _ k ⟨rfl, rfl⟩
      refine J.icmp_ge (tgt := 175) (pc' := 118) rfl rfl rfl (by first | omega | (exact R.r _ _) | (simp only [jM.len_sI, jM.len_sL, jM.len_sR, jM.len_fI, jM.len_fL, jM.len_fR]; omega) | (simp [jM.len_nw, jM.len_sI, jM.len_sL, jM.len_sR, jM.len_fI, jM.len_fL, jM.len_fR, *]; omega)) (by first | omega | (exact R.r _ _) | (simp only [jM.len_sI, jM.len_sL, jM.len_sR, jM.len_fI, jM.len_fL, jM.len_fR]; omega) | (simp [jM.len_nw, jM.len_sI, jM.len_sL, jM.len_sR, jM.len_fI, jM.len_fL, jM.len_fR, *]; omega)) (fun c1 => ?_) (fun c1 => ?_)
      · omega
      · first | refine J.aload_n (pc' := 119) rfl rfl rfl ?_ | refine J.aload_nN (pc' := 119) rfl rfl rfl ?_
        first | refine J.getR (pc' := 122) rfl fl_X8_10 rfl (by first | assumption | (simp only [jM.tag_sI, jM.tag_sL, jM.tag_sR, jM.tag_fI, jM.tag_fL, jM.tag_fR]; assumption) | (simp [jM.tag_nw, jM.tag_sI, jM.tag_sL, jM.tag_sR, jM.tag_fI, jM.tag_fL, jM.tag_fR, *]; done)) (by first | assumption | (simp only [jM.R_sI, jM.R_sL, jM.R_fI, jM.R_fL]; assumption) | (simp [jM.R_nw, jM.R_sR, jM.R_fR, jM.R_sI, jM.R_sL, jM.R_fI, jM.R_fL, *]; done)) rfl ?_ | refine J.getRN (pc' := 122) rfl fl_X8_10 rfl (by first | assumption | (simp only [jM.tag_sI, jM.tag_sL, jM.tag_sR, jM.tag_fI, jM.tag_fL, jM.tag_fR]; assumption) | (simp [jM.tag_nw, jM.tag_sI, jM.tag_sL, jM.tag_sR, jM.tag_fI, jM.tag_fL, jM.tag_fR, *]; done)) (by first | assumption | (simp only [jM.R_sI, jM.R_sL, jM.R_fI, jM.R_fL]; assumption) | (simp [jM.R_nw, jM.R_sR, jM.R_fR, jM.R_sI, jM.R_sL, jM.R_fI, jM.R_fL, *]; done)) rfl ?_
        refine J.iload (pc' := 124) rfl rfl rfl ?_
        refine J.callV (pc' := 127) (t := 3) rfl MJx4a65c_get_915e3 ml_X8_30 iv_Jx4a65c_get_915e3 (by decide) ⟨_, rfl, rfl⟩ (by first | assumption | (simp only [jM.tag_sI, jM.tag_sL, jM.tag_sR, jM.tag_fI, jM.tag_fL, jM.tag_fR]; assumption) | (simp [jM.tag_nw, jM.tag_sI, jM.tag_sL, jM.tag_sR, jM.tag_fI, jM.tag_fL, jM.tag_fR, *]; done)) (b1.1.get hy) rfl rfl (Nat.le_of_ble_eq_true rfl) (by first | omega | (exact R.r _ _) | (simp only [jM.len_sI, jM.len_sL, jM.len_sR, jM.len_fI, jM.len_fL, jM.len_fR]; omega) | (simp [jM.len_nw, jM.len_sI, jM.len_sL, jM.len_sR, jM.len_fI, jM.len_fL, jM.len_fR, *]; omega)) (by first | omega | (exact R.r _ _) | (simp only [jM.len_sI, jM.len_sL, jM.len_sR, jM.len_fI, jM.len_fL, jM.len_fR]; omega) | (simp [jM.len_nw, jM.len_sI, jM.len_sL, jM.len_sR, jM.len_fI, jM.len_fL, jM.len_fR, *]; omega)) (by first | omega | (exact R.r _ _) | (simp only [jM.len_sI, jM.len_sL, jM.len_sR, jM.len_fI, jM.len_fL, jM.len_fR]; omega) | (simp [jM.len_nw, jM.len_sI, jM.len_sL, jM.len_sR, jM.len_fI, jM.len_fL, jM.len_fR, *]; omega)) rfl rfl ?_ ?_
        · exact fun _ _ h => h
        rintro _ k ⟨rfl, rfl⟩
        refine J.cast (pc' := 130) (t := 10) rfl (⟨by decide, by decide, _, RX6, rfl, List.mem_of_getElem? (i := 1392) (by decide +kernel), Or.inl rfl⟩) (by first | assumption | (simp only [jM.tag_sI, jM.tag_sL, jM.tag_sR, jM.tag_fI, jM.tag_fL, jM.tag_fR]; assumption) | (simp [jM.tag_nw, jM.tag_sI, jM.tag_sL, jM.tag_sR, jM.tag_fI, jM.tag_fL, jM.tag_fR, *]; done)) rfl ?_
        first | refine J.astore (pc' := 132) rfl rfl (by decide) ?_ | refine J.astoreN (pc' := 132) rfl rfl (by decide) ?_
        refine J.lc (lv' := [(0, .ref mt), (1, .int (jI m)), (2, .int (jI lo)), (3, .int (jI hi)), (4, .int (jI SL)), (5, .int (jI SH)), (6, .int (jI (i : Int))), (7, .ref y)]) (by repeat' (first | exact trivial | refine ⟨rfl, ?_⟩)) ?_
        first | refine J.aload_n (pc' := 133) rfl rfl rfl ?_ | refine J.aload_nN (pc' := 133) rfl rfl rfl ?_
        first | refine J.aload (pc' := 135) rfl rfl rfl ?_ | refine J.aloadN (pc' := 135) rfl rfl rfl ?_
        refine J.iload_n (pc' := 136) rfl rfl rfl ?_
        refine J.iload_n (pc' := 137) rfl rfl rfl ?_
        refine J.iload (pc' := 139) rfl rfl rfl ?_
        refine J.callV (pc' := 142) (t := 12) rfl MX8_atLeast ml_X8_36 iv_X8_atLeast (by decide) ⟨_, rfl, rfl⟩ (by first | assumption | (simp only [jM.tag_sI, jM.tag_sL, jM.tag_sR, jM.tag_fI, jM.tag_fL, jM.tag_fR]; assumption) | (simp [jM.tag_nw, jM.tag_sI, jM.tag_sL, jM.tag_sR, jM.tag_fI, jM.tag_fL, jM.tag_fR, *]; done)) (cx_atLeast tp iT hy0 hm hNi (hb1 i (by omega))) rfl rfl (Nat.le_of_ble_eq_true rfl) (by first | omega | (exact R.r _ _) | (simp only [jM.len_sI, jM.len_sL, jM.len_sR, jM.len_fI, jM.len_fL, jM.len_fR]; omega) | (simp [jM.len_nw, jM.len_sI, jM.len_sL, jM.len_sR, jM.len_fI, jM.len_fL, jM.len_fR, *]; omega)) (by first | omega | (exact R.r _ _) | (simp only [jM.len_sI, jM.len_sL, jM.len_sR, jM.len_fI, jM.len_fL, jM.len_fR]; omega) | (simp [jM.len_nw, jM.len_sI, jM.len_sL, jM.len_sR, jM.len_fI, jM.len_fL, jM.len_fR, *]; omega)) (by first | omega | (exact R.r _ _) | (simp only [jM.len_sI, jM.len_sL, jM.len_sR, jM.len_fI, jM.len_fL, jM.len_fR]; omega) | (simp [jM.len_nw, jM.len_sI, jM.len_sL, jM.len_sR, jM.len_fI, jM.len_fL, jM.len_fR, *]; omega)) rfl rfl ?_ ?_
        · exact fun _ _ h => h
        rintro _ k ⟨rfl, rfl⟩
        rw [← eA i]
        refine J.istore (pc' := 144) rfl rfl (by decide) ?_
        refine J.lc (lv' := [(0, .ref mt), (1, .int (jI m)), (2, .int (jI lo)), (3, .int (jI hi)), (4, .int (jI SL)), (5, .int (jI SH)), (6, .int (jI (i : Int))), (7, .ref y), (8, .int (jI (A i)))]) (by repeat' (first | exact trivial | refine ⟨rfl, ?_⟩)) ?_
        first | refine J.aload_n (pc' := 145) rfl rfl rfl ?_ | refine J.aload_nN (pc' := 145) rfl rfl rfl ?_
        first | refine J.aload (pc' := 147) rfl rfl rfl ?_ | refine J.aloadN (pc' := 147) rfl rfl rfl ?_
        refine J.iload_n (pc' := 148) rfl rfl rfl ?_
        refine J.iload_n (pc' := 149) rfl rfl rfl ?_
        refine J.iload (pc' := 151) rfl rfl rfl ?_
        refine J.callV (pc' := 154) (t := 12) rfl MX8_atMost ml_X8_40 iv_X8_atMost (by decide) ⟨_, rfl, rfl⟩ (by first | assumption | (simp only [jM.tag_sI, jM.tag_sL, jM.tag_sR, jM.tag_fI, jM.tag_fL, jM.tag_fR]; assumption) | (simp [jM.tag_nw, jM.tag_sI, jM.tag_sL, jM.tag_sR, jM.tag_fI, jM.tag_fL, jM.tag_fR, *]; done)) (cx_atMost tp iT hy0 hm hNi (hb2 i (by omega))) rfl rfl (Nat.le_of_ble_eq_true rfl) (by first | omega | (exact R.r _ _) | (simp only [jM.len_sI, jM.len_sL, jM.len_sR, jM.len_fI, jM.len_fL, jM.len_fR]; omega) | (simp [jM.len_nw, jM.len_sI, jM.len_sL, jM.len_sR, jM.len_fI, jM.len_fL, jM.len_fR, *]; omega)) (by first | omega | (exact R.r _ _) | (simp only [jM.len_sI, jM.len_sL, jM.len_sR, jM.len_fI, jM.len_fL, jM.len_fR]; omega) | (simp [jM.len_nw, jM.len_sI, jM.len_sL, jM.len_sR, jM.len_fI, jM.len_fL, jM.len_fR, *]; omega)) (by first | omega | (exact R.r _ _) | (simp only [jM.len_sI, jM.len_sL, jM.len_sR, jM.len_fI, jM.len_fL, jM.len_fR]; omega) | (simp [jM.len_nw, jM.len_sI, jM.len_sL, jM.len_sR, jM.len_fI, jM.len_fL, jM.len_fR, *]; omega)) rfl rfl ?_ ?_
        · exact fun _ _ h => h
        rintro _ k ⟨rfl, rfl⟩
        rw [← eZ i]
        refine J.istore (pc' := 156) rfl rfl (by decide) ?_
        refine J.lc (lv' := [(0, .ref mt), (1, .int (jI m)), (2, .int (jI lo)), (3, .int (jI hi)), (4, .int (jI SL)), (5, .int (jI SH)), (6, .int (jI (i : Int))), (7, .ref y), (8, .int (jI (A i))), (9, .int (jI (Z i)))]) (by repeat' (first | exact trivial | refine ⟨rfl, ?_⟩)) ?_
        first | refine J.aload (pc' := 158) rfl rfl rfl ?_ | refine J.aloadN (pc' := 158) rfl rfl rfl ?_
        first | refine J.getR (pc' := 161) rfl fl_X8_43 rfl (by first | assumption | (simp only [jM.tag_sI, jM.tag_sL, jM.tag_sR, jM.tag_fI, jM.tag_fL, jM.tag_fR]; assumption) | (simp [jM.tag_nw, jM.tag_sI, jM.tag_sL, jM.tag_sR, jM.tag_fI, jM.tag_fL, jM.tag_fR, *]; done)) (by first | assumption | (simp only [jM.R_sI, jM.R_sL, jM.R_fI, jM.R_fL]; assumption) | (simp [jM.R_nw, jM.R_sR, jM.R_fR, jM.R_sI, jM.R_sL, jM.R_fI, jM.R_fL, *]; done)) rfl ?_ | refine J.getRN (pc' := 161) rfl fl_X8_43 rfl (by first | assumption | (simp only [jM.tag_sI, jM.tag_sL, jM.tag_sR, jM.tag_fI, jM.tag_fL, jM.tag_fR]; assumption) | (simp [jM.tag_nw, jM.tag_sI, jM.tag_sL, jM.tag_sR, jM.tag_fI, jM.tag_fL, jM.tag_fR, *]; done)) (by first | assumption | (simp only [jM.R_sI, jM.R_sL, jM.R_fI, jM.R_fL]; assumption) | (simp [jM.R_nw, jM.R_sR, jM.R_fR, jM.R_sI, jM.R_sL, jM.R_fI, jM.R_fL, *]; done)) rfl ?_
        refine J.iload_n (pc' := 162) rfl rfl rfl ?_
        refine J.iload (pc' := 164) rfl rfl rfl ?_
        refine J.iload (pc' := 166) rfl rfl rfl ?_
        refine J.callV (pc' := 169) (t := 14) rfl MX10_narrow ml_X8_53 iv_X10_narrow (by decide) ⟨_, rfl, rfl⟩ (by first | assumption | (simp only [jM.tag_sI, jM.tag_sL, jM.tag_sR, jM.tag_fI, jM.tag_fL, jM.tag_fR]; assumption) | (simp [jM.tag_nw, jM.tag_sI, jM.tag_sL, jM.tag_sR, jM.tag_fI, jM.tag_fL, jM.tag_fR, *]; done)) (cs_nr y6 hm.1 hm.2 (rA i (by omega)) (rZ i (by omega)) (fun x hx => hPb i x (by omega) hx)) rfl rfl (Nat.le_of_ble_eq_true rfl) (by first | omega | (exact R.r _ _) | (simp only [jM.len_sI, jM.len_sL, jM.len_sR, jM.len_fI, jM.len_fL, jM.len_fR]; omega) | (simp [jM.len_nw, jM.len_sI, jM.len_sL, jM.len_sR, jM.len_fI, jM.len_fL, jM.len_fR, *]; omega)) (by first | omega | (exact R.r _ _) | (simp only [jM.len_sI, jM.len_sL, jM.len_sR, jM.len_fI, jM.len_fL, jM.len_fR]; omega) | (simp [jM.len_nw, jM.len_sI, jM.len_sL, jM.len_sR, jM.len_fI, jM.len_fL, jM.len_fR, *]; omega)) (by first | omega | (exact R.r _ _) | (simp only [jM.len_sI, jM.len_sL, jM.len_sR, jM.len_fI, jM.len_fL, jM.len_fR]; omega) | (simp [jM.len_nw, jM.len_sI, jM.len_sL, jM.len_sR, jM.len_fI, jM.len_fL, jM.len_fR, *]; omega)) rfl rfl ?_ ?_
        · exact fun _ _ h => h
        rintro _ k2 ⟨rfl, q1, q2⟩
        have hpo : ow k (pa k s) = some y := y6.2.2.1
        have tpa : k.tag (pa k s) = 20 := y6.1.2.2.1
        have F2 := q1.2.2.2.2.2.1
        have t2 := q1.1
        refine J.iinc (pc' := 172) rfl rfl rfl (by decide) ?_
        refine J.goto (tgt := 106) rfl rfl ?_
        refine ih (i + 1) (by omega) k2 (b1.spW q1) (fun x u hu => ?_) (b3.trans F2 (fun z hz q => ?_)) (by rw [t2]; exact b4) _ ⟨rfl, rfl, rfl, rfl, rfl, rfl, rfl, trivial⟩
        · by_cases c3 : x = i
          · subst c3
            rw [hy] at hu
            cases hu
            try dsimp only
            rw [if_pos (by omega)]
            exact hy0.nr y5 q1 q2
          · have hx := (List.getElem?_eq_some_iff.mp hu).1
            have hb := b2 x u hu
            have e2 : (if (x : Int) < ((i + 1 : Nat) : Int) then nrP (P x) m (A x) (Z x) else P x) = (if (x : Int) < (i : Int) then nrP (P x) m (A x) (Z x) else P x) := by
              by_cases c4 : (x : Int) < (i : Int)
              · rw [if_pos c4, if_pos (by omega)]
              · rw [if_neg c4, if_neg (by omega)]
            try dsimp only at hb ⊢
            rw [e2]
            refine hb.keptT F2 (fun z hz hoz q => ?_)
            rw [q, hpo] at hoz
            have e3 := Option.some.inj hoz
            subst e3
            exact c3 ((List.getElem?_inj hx b1.2.1).mp (hu.trans hy.symm))
        · rcases q with q | q
          · exact q
          · rw [q]
            exact ⟨by rw [← b4]; exact tpa, y, List.mem_of_getElem? hy, by rw [← b3.ow (by rw [q] at hz; exact hz)]; exact hpo⟩
  -- the first loop
  have key : ∀ (j i : Nat), i + j = ys.length → (∀ k : Nat, k < i → max (A k) (P k (2 * m).toNat) ≤ min (Z k) (P k (2 * m + 1).toNat)) → ∀ lv, hasL lv [(0, .ref mt), (1, .int (jI m)), (2, .int (jI lo)), (3, .int (jI hi)), (4, .int (jI SL)), (5, .int (jI SH)), (6, .int (jI (i : Int)))] → J γ mX8_narrowsAll 4 0 0 0 0 h 29 lv [] (fun r h' => (¬ naOk P A Z m ys.length ∧ r = some (.int (jI 0)) ∧ h' = h) ∨ (naOk P A Z m ys.length ∧ r = some (.int (jI 1)) ∧ isLs γ h' a e ys ∧ lays h' ys N D C (fun k => nrP (P k) m (A k) (Z k)) ∧ Fr h h' (pyW h ys) ∧ h'.tag = h.tag)) X0 := by
    intro j
    induction j with
    | zero =>
      intro i hi2 hall lv hlv
      refine J.lc hlv ?_
      refine J.iload (pc' := 31) rfl rfl rfl ?_
      first | refine J.aload_n (pc' := 32) rfl rfl rfl ?_ | refine J.aload_nN (pc' := 32) rfl rfl rfl ?_
      first | refine J.getR (pc' := 35) rfl fl_X8_10 rfl (by first | assumption | (simp only [jM.tag_sI, jM.tag_sL, jM.tag_sR, jM.tag_fI, jM.tag_fL, jM.tag_fR]; assumption) | (simp [jM.tag_nw, jM.tag_sI, jM.tag_sL, jM.tag_sR, jM.tag_fI, jM.tag_fL, jM.tag_fR, *]; done)) (by first | assumption | (simp only [jM.R_sI, jM.R_sL, jM.R_fI, jM.R_fL]; assumption) | (simp [jM.R_nw, jM.R_sR, jM.R_fR, jM.R_sI, jM.R_sL, jM.R_fI, jM.R_fL, *]; done)) rfl ?_ | refine J.getRN (pc' := 35) rfl fl_X8_10 rfl (by first | assumption | (simp only [jM.tag_sI, jM.tag_sL, jM.tag_sR, jM.tag_fI, jM.tag_fL, jM.tag_fR]; assumption) | (simp [jM.tag_nw, jM.tag_sI, jM.tag_sL, jM.tag_sR, jM.tag_fI, jM.tag_fL, jM.tag_fR, *]; done)) (by first | assumption | (simp only [jM.R_sI, jM.R_sL, jM.R_fI, jM.R_fL]; assumption) | (simp [jM.R_nw, jM.R_sR, jM.R_fR, jM.R_sI, jM.R_sL, jM.R_fI, jM.R_fL, *]; done)) rfl ?_
      refine J.callV (pc' := 38) (t := 3) rfl MJx4a65c_size_8abf5 ml_X8_26 iv_Jx4a65c_size_8abf5 (by decide) ⟨_, rfl, rfl⟩ (by first | assumption | (simp only [jM.tag_sI, jM.tag_sL, jM.tag_sR, jM.tag_fI, jM.tag_fL, jM.tag_fR]; assumption) | (simp [jM.tag_nw, jM.tag_sI, jM.tag_sL, jM.tag_sR, jM.tag_fI, jM.tag_fL, jM.tag_fR, *]; done)) hL.1.size rfl rfl (Nat.le_of_ble_eq_true rfl) (by first | omega | (exact R.r _ _) | (simp only [jM.len_sI, jM.len_sL, jM.len_sR, jM.len_fI, jM.len_fL, jM.len_fR]; omega) | (simp [jM.len_nw, jM.len_sI, jM.len_sL, jM.len_sR, jM.len_fI, jM.len_fL, jM.len_fR, *]; omega)) (by first | omega | (exact R.r _ _) | (simp only [jM.len_sI, jM.len_sL, jM.len_sR, jM.len_fI, jM.len_fL, jM.len_fR]; omega) | (simp [jM.len_nw, jM.len_sI, jM.len_sL, jM.len_sR, jM.len_fI, jM.len_fL, jM.len_fR, *]; omega)) (by first | omega | (exact R.r _ _) | (simp only [jM.len_sI, jM.len_sL, jM.len_sR, jM.len_fI, jM.len_fL, jM.len_fR]; omega) | (simp [jM.len_nw, jM.len_sI, jM.len_sL, jM.len_sR, jM.len_fI, jM.len_fL, jM.len_fR, *]; omega)) rfl rfl ?_ ?_
      · exact fun _ _ h => h
      rintro _ h ⟨rfl, rfl⟩
      refine J.icmp_ge (tgt := 103) (pc' := 41) rfl rfl rfl (by first | omega | (exact R.r _ _) | (simp only [jM.len_sI, jM.len_sL, jM.len_sR, jM.len_fI, jM.len_fL, jM.len_fR]; omega) | (simp [jM.len_nw, jM.len_sI, jM.len_sL, jM.len_sR, jM.len_fI, jM.len_fL, jM.len_fR, *]; omega)) (by first | omega | (exact R.r _ _) | (simp only [jM.len_sI, jM.len_sL, jM.len_sR, jM.len_fI, jM.len_fL, jM.len_fR]; omega) | (simp [jM.len_nw, jM.len_sI, jM.len_sL, jM.len_sR, jM.len_fI, jM.len_fL, jM.len_fR, *]; omega)) (fun c1 => ?_) (fun c1 => ?_)
      · refine J.iconst (pc' := 104) rfl rfl ?_
        refine J.istore (pc' := 106) rfl rfl (by decide) ?_
        exact key2 (fun k hk => hall k (by omega)) ys.length 0 (by omega) h hL (hY.cg (fun x hx => ⟨rfl, rfl, rfl, by (try dsimp only); rw [if_neg (by omega)]⟩)) Fr.rf rfl _ ⟨rfl, rfl, rfl, rfl, rfl, rfl, rfl, trivial⟩
      · omega
    | succ j ih =>
      intro i hi2 hall lv hlv
      obtain ⟨y, hy⟩ : ∃ y, ys[i]? = some y := ⟨_, List.getElem?_eq_getElem (by omega)⟩
      have hy0 := hY i y hy
      obtain ⟨y1, y0, y2, y3, y4, s, y5, y6⟩ := hY i y hy
      have ts := y6.1.1
      have hNi := hN i (by omega)
      have q1 : sv h s (2 * m).toNat = P i (2 * m).toNat := y6.2.2.2 _ (by omega)
      have q2 : sv h s (2 * m + 1).toNat = P i (2 * m + 1).toNat := y6.2.2.2 _ (by omega)
      refine J.lc hlv ?_
      refine J.iload (pc' := 31) rfl rfl rfl ?_
      first | refine J.aload_n (pc' := 32) rfl rfl rfl ?_ | refine J.aload_nN (pc' := 32) rfl rfl rfl ?_
      first | refine J.getR (pc' := 35) rfl fl_X8_10 rfl (by first | assumption | (simp only [jM.tag_sI, jM.tag_sL, jM.tag_sR, jM.tag_fI, jM.tag_fL, jM.tag_fR]; assumption) | (simp [jM.tag_nw, jM.tag_sI, jM.tag_sL, jM.tag_sR, jM.tag_fI, jM.tag_fL, jM.tag_fR, *]; done)) (by first | assumption | (simp only [jM.R_sI, jM.R_sL, jM.R_fI, jM.R_fL]; assumption) | (simp [jM.R_nw, jM.R_sR, jM.R_fR, jM.R_sI, jM.R_sL, jM.R_fI, jM.R_fL, *]; done)) rfl ?_ | refine J.getRN (pc' := 35) rfl fl_X8_10 rfl (by first | assumption | (simp only [jM.tag_sI, jM.tag_sL, jM.tag_sR, jM.tag_fI, jM.tag_fL, jM.tag_fR]; assumption) | (simp [jM.tag_nw, jM.tag_sI, jM.tag_sL, jM.tag_sR, jM.tag_fI, jM.tag_fL, jM.tag_fR, *]; done)) (by first | assumption | (simp only [jM.R_sI, jM.R_sL, jM.R_fI, jM.R_fL]; assumption) | (simp [jM.R_nw, jM.R_sR, jM.R_fR, jM.R_sI, jM.R_sL, jM.R_fI, jM.R_fL, *]; done)) rfl ?_
      refine J.callV (pc' := 38) (t := 3) rfl MJx4a65c_size_8abf5 ml_X8_26 iv_Jx4a65c_size_8abf5 (by decide) ⟨_, rfl, rfl⟩ (by first | assumption | (simp only [jM.tag_sI, jM.tag_sL, jM.tag_sR, jM.tag_fI, jM.tag_fL, jM.tag_fR]; assumption) | (simp [jM.tag_nw, jM.tag_sI, jM.tag_sL, jM.tag_sR, jM.tag_fI, jM.tag_fL, jM.tag_fR, *]; done)) hL.1.size rfl rfl (Nat.le_of_ble_eq_true rfl) (by first | omega | (exact R.r _ _) | (simp only [jM.len_sI, jM.len_sL, jM.len_sR, jM.len_fI, jM.len_fL, jM.len_fR]; omega) | (simp [jM.len_nw, jM.len_sI, jM.len_sL, jM.len_sR, jM.len_fI, jM.len_fL, jM.len_fR, *]; omega)) (by first | omega | (exact R.r _ _) | (simp only [jM.len_sI, jM.len_sL, jM.len_sR, jM.len_fI, jM.len_fL, jM.len_fR]; omega) | (simp [jM.len_nw, jM.len_sI, jM.len_sL, jM.len_sR, jM.len_fI, jM.len_fL, jM.len_fR, *]; omega)) (by first | omega | (exact R.r _ _) | (simp only [jM.len_sI, jM.len_sL, jM.len_sR, jM.len_fI, jM.len_fL, jM.len_fR]; omega) | (simp [jM.len_nw, jM.len_sI, jM.len_sL, jM.len_sR, jM.len_fI, jM.len_fL, jM.len_fR, *]; omega)) rfl rfl ?_ ?_
      · exact fun _ _ h => h
      rintro _ h ⟨rfl, rfl⟩
      refine J.icmp_ge (tgt := 103) (pc' := 41) rfl rfl rfl (by first | omega | (exact R.r _ _) | (simp only [jM.len_sI, jM.len_sL, jM.len_sR, jM.len_fI, jM.len_fL, jM.len_fR]; omega) | (simp [jM.len_nw, jM.len_sI, jM.len_sL, jM.len_sR, jM.len_fI, jM.len_fL, jM.len_fR, *]; omega)) (by first | omega | (exact R.r _ _) | (simp only [jM.len_sI, jM.len_sL, jM.len_sR, jM.len_fI, jM.len_fL, jM.len_fR]; omega) | (simp [jM.len_nw, jM.len_sI, jM.len_sL, jM.len_sR, jM.len_fI, jM.len_fL, jM.len_fR, *]; omega)) (fun c1 => ?_) (fun c1 => ?_)
      · omega
      · first | refine J.aload_n (pc' := 42) rfl rfl rfl ?_ | refine J.aload_nN (pc' := 42) rfl rfl rfl ?_
        first | refine J.getR (pc' := 45) rfl fl_X8_10 rfl (by first | assumption | (simp only [jM.tag_sI, jM.tag_sL, jM.tag_sR, jM.tag_fI, jM.tag_fL, jM.tag_fR]; assumption) | (simp [jM.tag_nw, jM.tag_sI, jM.tag_sL, jM.tag_sR, jM.tag_fI, jM.tag_fL, jM.tag_fR, *]; done)) (by first | assumption | (simp only [jM.R_sI, jM.R_sL, jM.R_fI, jM.R_fL]; assumption) | (simp [jM.R_nw, jM.R_sR, jM.R_fR, jM.R_sI, jM.R_sL, jM.R_fI, jM.R_fL, *]; done)) rfl ?_ | refine J.getRN (pc' := 45) rfl fl_X8_10 rfl (by first | assumption | (simp only [jM.tag_sI, jM.tag_sL, jM.tag_sR, jM.tag_fI, jM.tag_fL, jM.tag_fR]; assumption) | (simp [jM.tag_nw, jM.tag_sI, jM.tag_sL, jM.tag_sR, jM.tag_fI, jM.tag_fL, jM.tag_fR, *]; done)) (by first | assumption | (simp only [jM.R_sI, jM.R_sL, jM.R_fI, jM.R_fL]; assumption) | (simp [jM.R_nw, jM.R_sR, jM.R_fR, jM.R_sI, jM.R_sL, jM.R_fI, jM.R_fL, *]; done)) rfl ?_
        refine J.iload (pc' := 47) rfl rfl rfl ?_
        refine J.callV (pc' := 50) (t := 3) rfl MJx4a65c_get_915e3 ml_X8_30 iv_Jx4a65c_get_915e3 (by decide) ⟨_, rfl, rfl⟩ (by first | assumption | (simp only [jM.tag_sI, jM.tag_sL, jM.tag_sR, jM.tag_fI, jM.tag_fL, jM.tag_fR]; assumption) | (simp [jM.tag_nw, jM.tag_sI, jM.tag_sL, jM.tag_sR, jM.tag_fI, jM.tag_fL, jM.tag_fR, *]; done)) (hL.1.get hy) rfl rfl (Nat.le_of_ble_eq_true rfl) (by first | omega | (exact R.r _ _) | (simp only [jM.len_sI, jM.len_sL, jM.len_sR, jM.len_fI, jM.len_fL, jM.len_fR]; omega) | (simp [jM.len_nw, jM.len_sI, jM.len_sL, jM.len_sR, jM.len_fI, jM.len_fL, jM.len_fR, *]; omega)) (by first | omega | (exact R.r _ _) | (simp only [jM.len_sI, jM.len_sL, jM.len_sR, jM.len_fI, jM.len_fL, jM.len_fR]; omega) | (simp [jM.len_nw, jM.len_sI, jM.len_sL, jM.len_sR, jM.len_fI, jM.len_fL, jM.len_fR, *]; omega)) (by first | omega | (exact R.r _ _) | (simp only [jM.len_sI, jM.len_sL, jM.len_sR, jM.len_fI, jM.len_fL, jM.len_fR]; omega) | (simp [jM.len_nw, jM.len_sI, jM.len_sL, jM.len_sR, jM.len_fI, jM.len_fL, jM.len_fR, *]; omega)) rfl rfl ?_ ?_
        · exact fun _ _ h => h
        rintro _ h ⟨rfl, rfl⟩
        refine J.cast (pc' := 53) (t := 10) rfl (⟨by decide, by decide, _, RX6, rfl, List.mem_of_getElem? (i := 1392) (by decide +kernel), Or.inl rfl⟩) (by first | assumption | (simp only [jM.tag_sI, jM.tag_sL, jM.tag_sR, jM.tag_fI, jM.tag_fL, jM.tag_fR]; assumption) | (simp [jM.tag_nw, jM.tag_sI, jM.tag_sL, jM.tag_sR, jM.tag_fI, jM.tag_fL, jM.tag_fR, *]; done)) rfl ?_
        first | refine J.astore (pc' := 55) rfl rfl (by decide) ?_ | refine J.astoreN (pc' := 55) rfl rfl (by decide) ?_
        refine J.lc (lv' := [(0, .ref mt), (1, .int (jI m)), (2, .int (jI lo)), (3, .int (jI hi)), (4, .int (jI SL)), (5, .int (jI SH)), (6, .int (jI (i : Int))), (7, .ref y)]) (by repeat' (first | exact trivial | refine ⟨rfl, ?_⟩)) ?_
        first | refine J.aload_n (pc' := 56) rfl rfl rfl ?_ | refine J.aload_nN (pc' := 56) rfl rfl rfl ?_
        first | refine J.aload (pc' := 58) rfl rfl rfl ?_ | refine J.aloadN (pc' := 58) rfl rfl rfl ?_
        refine J.iload_n (pc' := 59) rfl rfl rfl ?_
        refine J.iload_n (pc' := 60) rfl rfl rfl ?_
        refine J.iload (pc' := 62) rfl rfl rfl ?_
        refine J.callV (pc' := 65) (t := 12) rfl MX8_atLeast ml_X8_36 iv_X8_atLeast (by decide) ⟨_, rfl, rfl⟩ (by first | assumption | (simp only [jM.tag_sI, jM.tag_sL, jM.tag_sR, jM.tag_fI, jM.tag_fL, jM.tag_fR]; assumption) | (simp [jM.tag_nw, jM.tag_sI, jM.tag_sL, jM.tag_sR, jM.tag_fI, jM.tag_fL, jM.tag_fR, *]; done)) (cx_atLeast tm hT hy0 hm hNi (hb1 i (by omega))) rfl rfl (Nat.le_of_ble_eq_true rfl) (by first | omega | (exact R.r _ _) | (simp only [jM.len_sI, jM.len_sL, jM.len_sR, jM.len_fI, jM.len_fL, jM.len_fR]; omega) | (simp [jM.len_nw, jM.len_sI, jM.len_sL, jM.len_sR, jM.len_fI, jM.len_fL, jM.len_fR, *]; omega)) (by first | omega | (exact R.r _ _) | (simp only [jM.len_sI, jM.len_sL, jM.len_sR, jM.len_fI, jM.len_fL, jM.len_fR]; omega) | (simp [jM.len_nw, jM.len_sI, jM.len_sL, jM.len_sR, jM.len_fI, jM.len_fL, jM.len_fR, *]; omega)) (by first | omega | (exact R.r _ _) | (simp only [jM.len_sI, jM.len_sL, jM.len_sR, jM.len_fI, jM.len_fL, jM.len_fR]; omega) | (simp [jM.len_nw, jM.len_sI, jM.len_sL, jM.len_sR, jM.len_fI, jM.len_fL, jM.len_fR, *]; omega)) rfl rfl ?_ ?_
        · exact fun _ _ h => h
        rintro _ h ⟨rfl, rfl⟩
        rw [← eA i]
        refine J.istore (pc' := 67) rfl rfl (by decide) ?_
        refine J.lc (lv' := [(0, .ref mt), (1, .int (jI m)), (2, .int (jI lo)), (3, .int (jI hi)), (4, .int (jI SL)), (5, .int (jI SH)), (6, .int (jI (i : Int))), (7, .ref y), (8, .int (jI (A i)))]) (by repeat' (first | exact trivial | refine ⟨rfl, ?_⟩)) ?_
        first | refine J.aload_n (pc' := 68) rfl rfl rfl ?_ | refine J.aload_nN (pc' := 68) rfl rfl rfl ?_
        first | refine J.aload (pc' := 70) rfl rfl rfl ?_ | refine J.aloadN (pc' := 70) rfl rfl rfl ?_
        refine J.iload_n (pc' := 71) rfl rfl rfl ?_
        refine J.iload_n (pc' := 72) rfl rfl rfl ?_
        refine J.iload (pc' := 74) rfl rfl rfl ?_
        refine J.callV (pc' := 77) (t := 12) rfl MX8_atMost ml_X8_40 iv_X8_atMost (by decide) ⟨_, rfl, rfl⟩ (by first | assumption | (simp only [jM.tag_sI, jM.tag_sL, jM.tag_sR, jM.tag_fI, jM.tag_fL, jM.tag_fR]; assumption) | (simp [jM.tag_nw, jM.tag_sI, jM.tag_sL, jM.tag_sR, jM.tag_fI, jM.tag_fL, jM.tag_fR, *]; done)) (cx_atMost tm hT hy0 hm hNi (hb2 i (by omega))) rfl rfl (Nat.le_of_ble_eq_true rfl) (by first | omega | (exact R.r _ _) | (simp only [jM.len_sI, jM.len_sL, jM.len_sR, jM.len_fI, jM.len_fL, jM.len_fR]; omega) | (simp [jM.len_nw, jM.len_sI, jM.len_sL, jM.len_sR, jM.len_fI, jM.len_fL, jM.len_fR, *]; omega)) (by first | omega | (exact R.r _ _) | (simp only [jM.len_sI, jM.len_sL, jM.len_sR, jM.len_fI, jM.len_fL, jM.len_fR]; omega) | (simp [jM.len_nw, jM.len_sI, jM.len_sL, jM.len_sR, jM.len_fI, jM.len_fL, jM.len_fR, *]; omega)) (by first | omega | (exact R.r _ _) | (simp only [jM.len_sI, jM.len_sL, jM.len_sR, jM.len_fI, jM.len_fL, jM.len_fR]; omega) | (simp [jM.len_nw, jM.len_sI, jM.len_sL, jM.len_sR, jM.len_fI, jM.len_fL, jM.len_fR, *]; omega)) rfl rfl ?_ ?_
        · exact fun _ _ h => h
        rintro _ h ⟨rfl, rfl⟩
        rw [← eZ i]
        refine J.istore (pc' := 79) rfl rfl (by decide) ?_
        refine J.lc (lv' := [(0, .ref mt), (1, .int (jI m)), (2, .int (jI lo)), (3, .int (jI hi)), (4, .int (jI SL)), (5, .int (jI SH)), (6, .int (jI (i : Int))), (7, .ref y), (8, .int (jI (A i))), (9, .int (jI (Z i)))]) (by repeat' (first | exact trivial | refine ⟨rfl, ?_⟩)) ?_
        first | refine J.aload (pc' := 81) rfl rfl rfl ?_ | refine J.aloadN (pc' := 81) rfl rfl rfl ?_
        first | refine J.getR (pc' := 84) rfl fl_X8_43 rfl (by first | assumption | (simp only [jM.tag_sI, jM.tag_sL, jM.tag_sR, jM.tag_fI, jM.tag_fL, jM.tag_fR]; assumption) | (simp [jM.tag_nw, jM.tag_sI, jM.tag_sL, jM.tag_sR, jM.tag_fI, jM.tag_fL, jM.tag_fR, *]; done)) (by first | assumption | (simp only [jM.R_sI, jM.R_sL, jM.R_fI, jM.R_fL]; assumption) | (simp [jM.R_nw, jM.R_sR, jM.R_fR, jM.R_sI, jM.R_sL, jM.R_fI, jM.R_fL, *]; done)) rfl ?_ | refine J.getRN (pc' := 84) rfl fl_X8_43 rfl (by first | assumption | (simp only [jM.tag_sI, jM.tag_sL, jM.tag_sR, jM.tag_fI, jM.tag_fL, jM.tag_fR]; assumption) | (simp [jM.tag_nw, jM.tag_sI, jM.tag_sL, jM.tag_sR, jM.tag_fI, jM.tag_fL, jM.tag_fR, *]; done)) (by first | assumption | (simp only [jM.R_sI, jM.R_sL, jM.R_fI, jM.R_fL]; assumption) | (simp [jM.R_nw, jM.R_sR, jM.R_fR, jM.R_sI, jM.R_sL, jM.R_fI, jM.R_fL, *]; done)) rfl ?_
        refine J.iload_n (pc' := 85) rfl rfl rfl ?_
        refine J.iload (pc' := 87) rfl rfl rfl ?_
        refine J.iload (pc' := 89) rfl rfl rfl ?_
        refine J.callV (pc' := 92) (t := 14) rfl MX10_hasCommon ml_X8_47 iv_X10_hasCommon (by decide) ⟨_, rfl, rfl⟩ (by first | assumption | (simp only [jM.tag_sI, jM.tag_sL, jM.tag_sR, jM.tag_fI, jM.tag_fL, jM.tag_fR]; assumption) | (simp [jM.tag_nw, jM.tag_sI, jM.tag_sL, jM.tag_sR, jM.tag_fI, jM.tag_fL, jM.tag_fR, *]; done)) (cs_hasCommon y6.1 hm.1 hm.2 (rA i (by omega)) (rZ i (by omega)) (fun x hx => by rw [y6.2.2.2 x hx]; exact hPb i x (by omega) hx)) rfl rfl (Nat.le_of_ble_eq_true rfl) (by first | omega | (exact R.r _ _) | (simp only [jM.len_sI, jM.len_sL, jM.len_sR, jM.len_fI, jM.len_fL, jM.len_fR]; omega) | (simp [jM.len_nw, jM.len_sI, jM.len_sL, jM.len_sR, jM.len_fI, jM.len_fL, jM.len_fR, *]; omega)) (by first | omega | (exact R.r _ _) | (simp only [jM.len_sI, jM.len_sL, jM.len_sR, jM.len_fI, jM.len_fL, jM.len_fR]; omega) | (simp [jM.len_nw, jM.len_sI, jM.len_sL, jM.len_sR, jM.len_fI, jM.len_fL, jM.len_fR, *]; omega)) (by first | omega | (exact R.r _ _) | (simp only [jM.len_sI, jM.len_sL, jM.len_sR, jM.len_fI, jM.len_fL, jM.len_fR]; omega) | (simp [jM.len_nw, jM.len_sI, jM.len_sL, jM.len_sR, jM.len_fI, jM.len_fL, jM.len_fR, *]; omega)) rfl rfl ?_ ?_
        · exact fun _ _ h => h
        rintro _ h ⟨rfl, rfl⟩
        rw [q1, q2]
        by_cases cc : max (A i) (P i (2 * m).toNat) ≤ min (Z i) (P i (2 * m + 1).toNat)
        · rw [if_pos cc]
          refine J.if_ne (tgt := 97) (pc' := 95) rfl rfl rfl (by first | omega | (exact R.r _ _) | (simp only [jM.len_sI, jM.len_sL, jM.len_sR, jM.len_fI, jM.len_fL, jM.len_fR]; omega) | (simp [jM.len_nw, jM.len_sI, jM.len_sL, jM.len_sR, jM.len_fI, jM.len_fL, jM.len_fR, *]; omega)) (fun c2 => ?_) (fun c2 => ?_)
          · refine J.iinc (pc' := 100) rfl rfl rfl (by decide) ?_
            refine J.goto (tgt := 29) rfl rfl ?_
            refine ih (i + 1) (by omega) (fun k hk => ?_) _ ⟨rfl, rfl, rfl, rfl, rfl, rfl, rfl, trivial⟩
            by_cases z : k = i
            · rw [z]; exact cc
            · exact hall k (by omega)
          · omega
        · rw [if_neg cc]
          refine J.if_ne (tgt := 97) (pc' := 95) rfl rfl rfl (by first | omega | (exact R.r _ _) | (simp only [jM.len_sI, jM.len_sL, jM.len_sR, jM.len_fI, jM.len_fL, jM.len_fR]; omega) | (simp [jM.len_nw, jM.len_sI, jM.len_sL, jM.len_sR, jM.len_fI, jM.len_fL, jM.len_fR, *]; omega)) (fun c2 => ?_) (fun c2 => ?_)
          · omega
          · refine J.iconst (pc' := 96) rfl rfl ?_
            refine J.zret rfl rfl (by rfl) (by first | omega | (exact R.r _ _) | (simp only [jM.len_sI, jM.len_sL, jM.len_sR, jM.len_fI, jM.len_fL, jM.len_fR]; omega) | (simp [jM.len_nw, jM.len_sI, jM.len_sL, jM.len_sR, jM.len_fI, jM.len_fL, jM.len_fR, *]; omega)) (by first | omega | (exact R.r _ _) | (simp only [jM.len_sI, jM.len_sL, jM.len_sR, jM.len_fI, jM.len_fL, jM.len_fR]; omega) | (simp [jM.len_nw, jM.len_sI, jM.len_sL, jM.len_sR, jM.len_fI, jM.len_fL, jM.len_fR, *]; omega)) ?_
            exact Or.inl ⟨fun hok => cc (hok i (by omega)), rfl, rfl⟩
  exact key ys.length 0 (by omega) (fun k hk => by omega) _ ⟨rfl, rfl, rfl, rfl, rfl, rfl, rfl, trivial⟩
end MT

