/-- f 0 + .. + f (n - 1) -/
def Sm (f : Int → Int) : Nat → Int
  | 0 => 0
  | n + 1 => Sm f n + f (n : Int)
theorem Sm_cg {f g : Int → Int} {n : Nat} (h : ∀ i : Nat, i < n → f i = g i) : Sm f n = Sm g n := by
  induction n with
  | zero => rfl
  | succ n ih => rw [Sm, Sm, ih (fun i hi => h i (by omega)), h n (by omega)]
theorem Sm_le {f : Int → Int} {n : Nat} {a b : Int} (h : ∀ i : Nat, i < n → a ≤ f i ∧ f i ≤ b) : a * n ≤ Sm f n ∧ Sm f n ≤ b * n := by
  induction n with
  | zero => simp [Sm]
  | succ n ih =>
    have h1 := ih (fun i hi => h i (by omega))
    have h2 := h n (by omega)
    rw [Sm]
    have e1 : a * ((n + 1 : Nat) : Int) = a * n + a := by rw [Int.natCast_add, Int.mul_add]; simp
    have e2 : b * ((n + 1 : Nat) : Int) = b * n + b := by rw [Int.natCast_add, Int.mul_add]; simp
    omega
/-- USUAL's place -/
def ua (s k m : Int) : Int := 5 * (10 * s + k) + m
def lowOf (V : VV) (s k m : Int) : Int := if V 108 (ua s k m) = 0 then V 104 (5 * k + m) else V 106 (ua s k m)
def highOf (V : VV) (s k m : Int) : Int := if V 108 (ua s k m) = 0 then V 105 (5 * k + m) else V 107 (ua s k m)
/-- the contract in force, of the first n -/
def inF (V : VV) (s d : Int) : Nat → Int
  | 0 => -1
  | n + 1 => if V 117 n = s ∧ V 118 n ≤ d ∧ (inF V s d n = -1 ∨ V 118 (inF V s d n) ≤ V 118 n) then (n : Int) else inF V s d n
theorem inF_b (V : VV) (s d : Int) (n : Nat) : -1 ≤ inF V s d n ∧ inF V s d n < n := by
  induction n with
  | zero => simp [inF]
  | succ n ih =>
    rw [inF]
    split <;> omega
def tonsOf (V : VV) (h : Int) : Int := Sm (fun k => V 139 (41 * h + k)) (V 138 h).toNat
def layAll (V : VV) : Int := Sm (fun h => V 138 h) 6
def sp_seller (V : VV) : RV := if V 16 2 = 8 then (-1, V) else (V 16 2 + 1 - 1, jU V 16 2 (V 16 2 + 1))
def sp_usual (V : VV) (s k m d : Int) : RV := if 0 ≤ s ∧ s < V 16 2 then (if 0 ≤ k ∧ k < V 16 1 then (if (0 ≤ m ∧ m < 5) ∧ (d = 0 ∨ d = 1) then (if d = 0 then lowOf V s k m else highOf V s k m, V) else (0, jU V 16 0 2)) else (0, jU V 16 0 1)) else (0, jU V 16 0 1)
def sp_force (V : VV) (s d : Int) : RV := if 0 ≤ s ∧ s < V 16 2 then (inF V s d (V 16 11).toNat, V) else (0, jU V 16 0 1)
def sp_tons (V : VV) (h : Int) : RV := if 0 ≤ h ∧ h < 6 then (tonsOf V h, V) else (0, jU V 16 0 1)
def sp_layers (V : VV) (h : Int) : RV := if 0 ≤ h ∧ h < 6 then (V 138 h, V) else (0, jU V 16 0 1)
def sp_asked (V : VV) (m l g : Int) : RV := if (0 ≤ m ∧ m < 5) ∧ 0 ≤ l ∧ l ≤ g ∧ g ≤ 10000 then (1, jU (jU V 146 m l) 147 m g) else (0, jU V 16 0 1)
def sp_money (V : VV) (s : Int) : RV := if 0 ≤ s ∧ s < V 16 2 then (V 109 s, V) else (0, jU V 16 0 1)
def sp_day (V : VV) (d : Int) : RV := if 0 ≤ d ∧ d ≤ 1000 ∧ V 16 3 + d ≤ 10000 then (V 16 3 + d, jU V 16 3 (V 16 3 + d)) else (0, jU V 16 0 1)
def sp_portions (V : VV) (i : Int) : RV := if 0 ≤ i ∧ i < V 16 52 then (V 153 i, V) else (0, jU V 16 0 1)
section M2
variable {γ : jG} {β : jB} {V : VV}
theorem cm_seller (B : isB β) (R : isR V) : CT γ mX12_seller 0 0 0 [.ref (β.2 16)] (jP β V) (mQ β (sp_seller (jU V 16 0 0))) X0 := by
  refine CT.of MX12_seller (Nat.le_of_ble_eq_true rfl) ?_
  show J γ mX12_seller 0 0 0 0 0 (jP β V) 0 [(0, .ref (β.2 16))] [] _ _
  first | refine J.aload_n (pc' := 1) rfl rfl rfl ?_ | refine J.aload_nN (pc' := 1) rfl rfl rfl ?_
  refine J.iconst (pc' := 2) rfl rfl ?_
  refine J.mpI (pc' := 5) (j := 0) B rfl fl_X12_1 rfl rfl rfl rfl ?_
  have h0 := jU_same V 16 0 0
  replace R : isR (jU V 16 0 0) := R.up (fun _ => by decide)
  generalize jU V 16 0 0 = V at h0 R ⊢
  have hf := R.f
  first | refine J.aload_n (pc' := 6) rfl rfl rfl ?_ | refine J.aload_nN (pc' := 6) rfl rfl rfl ?_
  refine J.mgI (pc' := 9) (j := 2) B rfl fl_X12_169 rfl rfl rfl ?_
  refine J.bipush (pc' := 11) rfl rfl (by decide) ?_
  refine J.icmp_ne (tgt := 16) (pc' := 14) rfl rfl rfl (by first | omega | (exact R.r _ _) | (simp only [jM.len_sI, jM.len_sL, jM.len_sR, jM.len_fI, jM.len_fL, jM.len_fR]; omega) | (simp [jM.len_nw, jM.len_sI, jM.len_sL, jM.len_sR, jM.len_fI, jM.len_fL, jM.len_fR, *]; omega)) (by first | omega | (exact R.r _ _) | (simp only [jM.len_sI, jM.len_sL, jM.len_sR, jM.len_fI, jM.len_fL, jM.len_fR]; omega) | (simp [jM.len_nw, jM.len_sI, jM.len_sL, jM.len_sR, jM.len_fI, jM.len_fL, jM.len_fR, *]; omega)) (fun c11 => ?_) (fun c11 => ?_)
  · first | refine J.aload_n (pc' := 17) rfl rfl rfl ?_ | refine J.aload_nN (pc' := 17) rfl rfl rfl ?_
    refine J.dup (pc' := 18) rfl rfl rfl ?_
    refine J.mgI (pc' := 21) (j := 2) B rfl fl_X12_169 rfl rfl rfl ?_
    refine J.iconst (pc' := 22) rfl rfl ?_
    refine J.iadd (pc' := 23) rfl rfl ?_
    refine J.mpI (pc' := 26) (j := 2) B rfl fl_X12_169 rfl rfl rfl rfl ?_
    first | refine J.aload_n (pc' := 27) rfl rfl rfl ?_ | refine J.aload_nN (pc' := 27) rfl rfl rfl ?_
    refine J.mgI (pc' := 30) (j := 2) B rfl fl_X12_169 rfl rfl rfl ?_
    rw [jU_same]
    refine J.iconst (pc' := 31) rfl rfl ?_
    refine J.isub (pc' := 32) rfl rfl ?_
    refine J.iret rfl rfl (by first | omega | (exact R.r _ _) | (simp only [jM.len_sI, jM.len_sL, jM.len_sR, jM.len_fI, jM.len_fL, jM.len_fR]; omega) | (simp [jM.len_nw, jM.len_sI, jM.len_sL, jM.len_sR, jM.len_fI, jM.len_fL, jM.len_fR, *]; omega)) (by first | omega | (exact R.r _ _) | (simp only [jM.len_sI, jM.len_sL, jM.len_sR, jM.len_fI, jM.len_fL, jM.len_fR]; omega) | (simp [jM.len_nw, jM.len_sI, jM.len_sL, jM.len_sR, jM.len_fI, jM.len_fL, jM.len_fR, *]; omega)) ?_
    exact mQ.of (by unfold sp_seller; (repeat (first | rw [if_pos (by omega)] | rw [if_neg (by omega)])))
  · refine J.iconst (pc' := 15) rfl rfl ?_
    refine J.iret rfl rfl (by first | omega | (exact R.r _ _) | (simp only [jM.len_sI, jM.len_sL, jM.len_sR, jM.len_fI, jM.len_fL, jM.len_fR]; omega) | (simp [jM.len_nw, jM.len_sI, jM.len_sL, jM.len_sR, jM.len_fI, jM.len_fL, jM.len_fR, *]; omega)) (by first | omega | (exact R.r _ _) | (simp only [jM.len_sI, jM.len_sL, jM.len_sR, jM.len_fI, jM.len_fL, jM.len_fR]; omega) | (simp [jM.len_nw, jM.len_sI, jM.len_sL, jM.len_sR, jM.len_fI, jM.len_fL, jM.len_fR, *]; omega)) ?_
    exact mQ.of (by unfold sp_seller; (repeat (first | rw [if_pos (by omega)] | rw [if_neg (by omega)])))
theorem cm_usualAt {s k m : Int} {h : jM} : CT γ mX12_usualAt 0 0 0 [.int (jI s), .int (jI k), .int (jI m)] h (fun r h' => r = some (.int (jI (ua s k m))) ∧ h' = h) X0 := by
  refine CT.of MX12_usualAt (Nat.le_of_ble_eq_true rfl) ?_
  show J γ mX12_usualAt 0 0 0 0 0 h 0 [(0, .int (jI s)), (1, .int (jI k)), (2, .int (jI m))] [] _ _
  refine J.iconst (pc' := 1) rfl rfl ?_
  refine J.bipush (pc' := 3) rfl rfl (by decide) ?_
  refine J.iload_n (pc' := 4) rfl rfl rfl ?_
  refine J.imul (pc' := 5) rfl rfl ?_
  refine J.iload_n (pc' := 6) rfl rfl rfl ?_
  refine J.iadd (pc' := 7) rfl rfl ?_
  refine J.imul (pc' := 8) rfl rfl ?_
  refine J.iload_n (pc' := 9) rfl rfl rfl ?_
  refine J.iadd (pc' := 10) rfl rfl ?_
  refine J.iret rfl rfl (by first | omega | (exact R.r _ _) | (simp only [jM.len_sI, jM.len_sL, jM.len_sR, jM.len_fI, jM.len_fL, jM.len_fR]; omega) | (simp [jM.len_nw, jM.len_sI, jM.len_sL, jM.len_sR, jM.len_fI, jM.len_fL, jM.len_fR, *]; omega)) (by first | omega | (exact R.r _ _) | (simp only [jM.len_sI, jM.len_sL, jM.len_sR, jM.len_fI, jM.len_fL, jM.len_fR]; omega) | (simp [jM.len_nw, jM.len_sI, jM.len_sL, jM.len_sR, jM.len_fI, jM.len_fL, jM.len_fR, *]; omega)) ?_
  exact ⟨rfl, rfl⟩
theorem cm_lowOf {s k m : Int} (B : isB β) (R : isR V) (hs : 0 ≤ s ∧ s < 8) (hk : 0 ≤ k ∧ k < 10) (hm : 0 ≤ m ∧ m < 5) : CT γ mX12_lowOf 1 0 0 [.ref (β.2 16), .int (jI s), .int (jI k), .int (jI m)] (jP β V) (fun r h' => r = some (.int (jI (lowOf V s k m))) ∧ h' = jP β V) X0 := by
  have hu : 0 ≤ ua s k m ∧ ua s k m < 400 := by unfold ua; omega
  refine CT.of MX12_lowOf (Nat.le_of_ble_eq_true rfl) ?_
  show J γ mX12_lowOf 1 0 0 0 0 (jP β V) 0 [(0, .ref (β.2 16)), (1, .int (jI s)), (2, .int (jI k)), (3, .int (jI m))] [] _ _
  first | refine J.aload_n (pc' := 1) rfl rfl rfl ?_ | refine J.aload_nN (pc' := 1) rfl rfl rfl ?_
  refine J.mgR (pc' := 4) (t := 108) B rfl fl_X12_26 rfl rfl (by decide) rfl ?_
  refine J.iload_n (pc' := 5) rfl rfl rfl ?_
  refine J.iload_n (pc' := 6) rfl rfl rfl ?_
  refine J.iload_n (pc' := 7) rfl rfl rfl ?_
  refine J.callS (pc' := 10) rfl MX12_usualAt ml_X12_172 is_X12_usualAt cm_usualAt rfl rfl (Nat.le_of_ble_eq_true rfl) (by first | omega | (exact R.r _ _) | (simp only [jM.len_sI, jM.len_sL, jM.len_sR, jM.len_fI, jM.len_fL, jM.len_fR]; omega) | (simp [jM.len_nw, jM.len_sI, jM.len_sL, jM.len_sR, jM.len_fI, jM.len_fL, jM.len_fR, *]; omega)) (by first | omega | (exact R.r _ _) | (simp only [jM.len_sI, jM.len_sL, jM.len_sR, jM.len_fI, jM.len_fL, jM.len_fR]; omega) | (simp [jM.len_nw, jM.len_sI, jM.len_sL, jM.len_sR, jM.len_fI, jM.len_fL, jM.len_fR, *]; omega)) (by first | omega | (exact R.r _ _) | (simp only [jM.len_sI, jM.len_sL, jM.len_sR, jM.len_fI, jM.len_fL, jM.len_fR]; omega) | (simp [jM.len_nw, jM.len_sI, jM.len_sL, jM.len_sR, jM.len_fI, jM.len_fL, jM.len_fR, *]; omega)) rfl rfl ?_ ?_
  · exact fun _ _ h => h
  rintro _ _ ⟨rfl, rfl⟩
  refine J.mzald (pc' := 11) B rfl rfl rfl (by omega) (by simp only [jLn]; omega) rfl ?_
  refine J.if_eq (tgt := 28) (pc' := 14) rfl rfl rfl (by first | omega | (exact R.r _ _) | (simp only [jM.len_sI, jM.len_sL, jM.len_sR, jM.len_fI, jM.len_fL, jM.len_fR]; omega) | (simp [jM.len_nw, jM.len_sI, jM.len_sL, jM.len_sR, jM.len_fI, jM.len_fL, jM.len_fR, *]; omega)) (fun c11 => ?_) (fun c11 => ?_)
  · first | refine J.aload_n (pc' := 29) rfl rfl rfl ?_ | refine J.aload_nN (pc' := 29) rfl rfl rfl ?_
    refine J.mgR (pc' := 32) (t := 104) B rfl fl_X12_13 rfl rfl (by decide) rfl ?_
    refine J.iconst (pc' := 33) rfl rfl ?_
    refine J.iload_n (pc' := 34) rfl rfl rfl ?_
    refine J.imul (pc' := 35) rfl rfl ?_
    refine J.iload_n (pc' := 36) rfl rfl rfl ?_
    refine J.iadd (pc' := 37) rfl rfl ?_
    refine J.mald (pc' := 38) B rfl rfl rfl (by omega) (by simp only [jLn]; omega) rfl ?_
    refine J.iret rfl rfl (by first | omega | (exact R.r _ _) | (simp only [jM.len_sI, jM.len_sL, jM.len_sR, jM.len_fI, jM.len_fL, jM.len_fR]; omega) | (simp [jM.len_nw, jM.len_sI, jM.len_sL, jM.len_sR, jM.len_fI, jM.len_fL, jM.len_fR, *]; omega)) (by first | omega | (exact R.r _ _) | (simp only [jM.len_sI, jM.len_sL, jM.len_sR, jM.len_fI, jM.len_fL, jM.len_fR]; omega) | (simp [jM.len_nw, jM.len_sI, jM.len_sL, jM.len_sR, jM.len_fI, jM.len_fL, jM.len_fR, *]; omega)) ?_
    exact ⟨by unfold lowOf; (repeat (first | rw [if_pos (by omega)] | rw [if_neg (by omega)])), rfl⟩
  · first | refine J.aload_n (pc' := 15) rfl rfl rfl ?_ | refine J.aload_nN (pc' := 15) rfl rfl rfl ?_
    refine J.mgR (pc' := 18) (t := 106) B rfl fl_X12_20 rfl rfl (by decide) rfl ?_
    refine J.iload_n (pc' := 19) rfl rfl rfl ?_
    refine J.iload_n (pc' := 20) rfl rfl rfl ?_
    refine J.iload_n (pc' := 21) rfl rfl rfl ?_
    refine J.callS (pc' := 24) rfl MX12_usualAt ml_X12_172 is_X12_usualAt cm_usualAt rfl rfl (Nat.le_of_ble_eq_true rfl) (by first | omega | (exact R.r _ _) | (simp only [jM.len_sI, jM.len_sL, jM.len_sR, jM.len_fI, jM.len_fL, jM.len_fR]; omega) | (simp [jM.len_nw, jM.len_sI, jM.len_sL, jM.len_sR, jM.len_fI, jM.len_fL, jM.len_fR, *]; omega)) (by first | omega | (exact R.r _ _) | (simp only [jM.len_sI, jM.len_sL, jM.len_sR, jM.len_fI, jM.len_fL, jM.len_fR]; omega) | (simp [jM.len_nw, jM.len_sI, jM.len_sL, jM.len_sR, jM.len_fI, jM.len_fL, jM.len_fR, *]; omega)) (by first | omega | (exact R.r _ _) | (simp only [jM.len_sI, jM.len_sL, jM.len_sR, jM.len_fI, jM.len_fL, jM.len_fR]; omega) | (simp [jM.len_nw, jM.len_sI, jM.len_sL, jM.len_sR, jM.len_fI, jM.len_fL, jM.len_fR, *]; omega)) rfl rfl ?_ ?_
    · exact fun _ _ h => h
    rintro _ _ ⟨rfl, rfl⟩
    refine J.mald (pc' := 25) B rfl rfl rfl (by omega) (by simp only [jLn]; omega) rfl ?_
    refine J.goto (tgt := 38) rfl rfl ?_
    refine J.iret rfl rfl (by first | omega | (exact R.r _ _) | (simp only [jM.len_sI, jM.len_sL, jM.len_sR, jM.len_fI, jM.len_fL, jM.len_fR]; omega) | (simp [jM.len_nw, jM.len_sI, jM.len_sL, jM.len_sR, jM.len_fI, jM.len_fL, jM.len_fR, *]; omega)) (by first | omega | (exact R.r _ _) | (simp only [jM.len_sI, jM.len_sL, jM.len_sR, jM.len_fI, jM.len_fL, jM.len_fR]; omega) | (simp [jM.len_nw, jM.len_sI, jM.len_sL, jM.len_sR, jM.len_fI, jM.len_fL, jM.len_fR, *]; omega)) ?_
    exact ⟨by unfold lowOf; (repeat (first | rw [if_pos (by omega)] | rw [if_neg (by omega)])), rfl⟩
theorem cm_highOf {s k m : Int} (B : isB β) (R : isR V) (hs : 0 ≤ s ∧ s < 8) (hk : 0 ≤ k ∧ k < 10) (hm : 0 ≤ m ∧ m < 5) : CT γ mX12_highOf 1 0 0 [.ref (β.2 16), .int (jI s), .int (jI k), .int (jI m)] (jP β V) (fun r h' => r = some (.int (jI (highOf V s k m))) ∧ h' = jP β V) X0 := by
  have hu : 0 ≤ ua s k m ∧ ua s k m < 400 := by unfold ua; omega
  refine CT.of MX12_highOf (Nat.le_of_ble_eq_true rfl) ?_
  show J γ mX12_highOf 1 0 0 0 0 (jP β V) 0 [(0, .ref (β.2 16)), (1, .int (jI s)), (2, .int (jI k)), (3, .int (jI m))] [] _ _
  first | refine J.aload_n (pc' := 1) rfl rfl rfl ?_ | refine J.aload_nN (pc' := 1) rfl rfl rfl ?_
  refine J.mgR (pc' := 4) (t := 108) B rfl fl_X12_26 rfl rfl (by decide) rfl ?_
  refine J.iload_n (pc' := 5) rfl rfl rfl ?_
  refine J.iload_n (pc' := 6) rfl rfl rfl ?_
  refine J.iload_n (pc' := 7) rfl rfl rfl ?_
  refine J.callS (pc' := 10) rfl MX12_usualAt ml_X12_172 is_X12_usualAt cm_usualAt rfl rfl (Nat.le_of_ble_eq_true rfl) (by first | omega | (exact R.r _ _) | (simp only [jM.len_sI, jM.len_sL, jM.len_sR, jM.len_fI, jM.len_fL, jM.len_fR]; omega) | (simp [jM.len_nw, jM.len_sI, jM.len_sL, jM.len_sR, jM.len_fI, jM.len_fL, jM.len_fR, *]; omega)) (by first | omega | (exact R.r _ _) | (simp only [jM.len_sI, jM.len_sL, jM.len_sR, jM.len_fI, jM.len_fL, jM.len_fR]; omega) | (simp [jM.len_nw, jM.len_sI, jM.len_sL, jM.len_sR, jM.len_fI, jM.len_fL, jM.len_fR, *]; omega)) (by first | omega | (exact R.r _ _) | (simp only [jM.len_sI, jM.len_sL, jM.len_sR, jM.len_fI, jM.len_fL, jM.len_fR]; omega) | (simp [jM.len_nw, jM.len_sI, jM.len_sL, jM.len_sR, jM.len_fI, jM.len_fL, jM.len_fR, *]; omega)) rfl rfl ?_ ?_
  · exact fun _ _ h => h
  rintro _ _ ⟨rfl, rfl⟩
  refine J.mzald (pc' := 11) B rfl rfl rfl (by omega) (by simp only [jLn]; omega) rfl ?_
  refine J.if_eq (tgt := 28) (pc' := 14) rfl rfl rfl (by first | omega | (exact R.r _ _) | (simp only [jM.len_sI, jM.len_sL, jM.len_sR, jM.len_fI, jM.len_fL, jM.len_fR]; omega) | (simp [jM.len_nw, jM.len_sI, jM.len_sL, jM.len_sR, jM.len_fI, jM.len_fL, jM.len_fR, *]; omega)) (fun c11 => ?_) (fun c11 => ?_)
  · first | refine J.aload_n (pc' := 29) rfl rfl rfl ?_ | refine J.aload_nN (pc' := 29) rfl rfl rfl ?_
    refine J.mgR (pc' := 32) (t := 105) B rfl fl_X12_17 rfl rfl (by decide) rfl ?_
    refine J.iconst (pc' := 33) rfl rfl ?_
    refine J.iload_n (pc' := 34) rfl rfl rfl ?_
    refine J.imul (pc' := 35) rfl rfl ?_
    refine J.iload_n (pc' := 36) rfl rfl rfl ?_
    refine J.iadd (pc' := 37) rfl rfl ?_
    refine J.mald (pc' := 38) B rfl rfl rfl (by omega) (by simp only [jLn]; omega) rfl ?_
    refine J.iret rfl rfl (by first | omega | (exact R.r _ _) | (simp only [jM.len_sI, jM.len_sL, jM.len_sR, jM.len_fI, jM.len_fL, jM.len_fR]; omega) | (simp [jM.len_nw, jM.len_sI, jM.len_sL, jM.len_sR, jM.len_fI, jM.len_fL, jM.len_fR, *]; omega)) (by first | omega | (exact R.r _ _) | (simp only [jM.len_sI, jM.len_sL, jM.len_sR, jM.len_fI, jM.len_fL, jM.len_fR]; omega) | (simp [jM.len_nw, jM.len_sI, jM.len_sL, jM.len_sR, jM.len_fI, jM.len_fL, jM.len_fR, *]; omega)) ?_
    exact ⟨by unfold highOf; (repeat (first | rw [if_pos (by omega)] | rw [if_neg (by omega)])), rfl⟩
  · first | refine J.aload_n (pc' := 15) rfl rfl rfl ?_ | refine J.aload_nN (pc' := 15) rfl rfl rfl ?_
    refine J.mgR (pc' := 18) (t := 107) B rfl fl_X12_23 rfl rfl (by decide) rfl ?_
    refine J.iload_n (pc' := 19) rfl rfl rfl ?_
    refine J.iload_n (pc' := 20) rfl rfl rfl ?_
    refine J.iload_n (pc' := 21) rfl rfl rfl ?_
    refine J.callS (pc' := 24) rfl MX12_usualAt ml_X12_172 is_X12_usualAt cm_usualAt rfl rfl (Nat.le_of_ble_eq_true rfl) (by first | omega | (exact R.r _ _) | (simp only [jM.len_sI, jM.len_sL, jM.len_sR, jM.len_fI, jM.len_fL, jM.len_fR]; omega) | (simp [jM.len_nw, jM.len_sI, jM.len_sL, jM.len_sR, jM.len_fI, jM.len_fL, jM.len_fR, *]; omega)) (by first | omega | (exact R.r _ _) | (simp only [jM.len_sI, jM.len_sL, jM.len_sR, jM.len_fI, jM.len_fL, jM.len_fR]; omega) | (simp [jM.len_nw, jM.len_sI, jM.len_sL, jM.len_sR, jM.len_fI, jM.len_fL, jM.len_fR, *]; omega)) (by first | omega | (exact R.r _ _) | (simp only [jM.len_sI, jM.len_sL, jM.len_sR, jM.len_fI, jM.len_fL, jM.len_fR]; omega) | (simp [jM.len_nw, jM.len_sI, jM.len_sL, jM.len_sR, jM.len_fI, jM.len_fL, jM.len_fR, *]; omega)) rfl rfl ?_ ?_
    · exact fun _ _ h => h
    rintro _ _ ⟨rfl, rfl⟩
    refine J.mald (pc' := 25) B rfl rfl rfl (by omega) (by simp only [jLn]; omega) rfl ?_
    refine J.goto (tgt := 38) rfl rfl ?_
    refine J.iret rfl rfl (by first | omega | (exact R.r _ _) | (simp only [jM.len_sI, jM.len_sL, jM.len_sR, jM.len_fI, jM.len_fL, jM.len_fR]; omega) | (simp [jM.len_nw, jM.len_sI, jM.len_sL, jM.len_sR, jM.len_fI, jM.len_fL, jM.len_fR, *]; omega)) (by first | omega | (exact R.r _ _) | (simp only [jM.len_sI, jM.len_sL, jM.len_sR, jM.len_fI, jM.len_fL, jM.len_fR]; omega) | (simp [jM.len_nw, jM.len_sI, jM.len_sL, jM.len_sR, jM.len_fI, jM.len_fL, jM.len_fR, *]; omega)) ?_
    exact ⟨by unfold highOf; (repeat (first | rw [if_pos (by omega)] | rw [if_neg (by omega)])), rfl⟩
theorem cm_usual {s k m d : Int} (B : isB β) (R : isR V) (hs : r32 s) (hk : r32 k) (hm : r32 m) (hd : r32 d) : CT γ mX12_usual 2 0 0 [.ref (β.2 16), .int (jI s), .int (jI k), .int (jI m), .int (jI d)] (jP β V) (mQ β (sp_usual (jU V 16 0 0) s k m d)) X0 := by
  refine CT.of MX12_usual (Nat.le_of_ble_eq_true rfl) ?_
  show J γ mX12_usual 2 0 0 0 0 (jP β V) 0 [(0, .ref (β.2 16)), (1, .int (jI s)), (2, .int (jI k)), (3, .int (jI m)), (4, .int (jI d))] [] _ _
  first | refine J.aload_n (pc' := 1) rfl rfl rfl ?_ | refine J.aload_nN (pc' := 1) rfl rfl rfl ?_
  refine J.iconst (pc' := 2) rfl rfl ?_
  refine J.mpI (pc' := 5) (j := 0) B rfl fl_X12_1 rfl rfl rfl rfl ?_
  have h0 := jU_same V 16 0 0
  replace R : isR (jU V 16 0 0) := R.up (fun _ => by decide)
  generalize jU V 16 0 0 = V at h0 R ⊢
  have hf := R.f
  first | refine J.aload_n (pc' := 6) rfl rfl rfl ?_ | refine J.aload_nN (pc' := 6) rfl rfl rfl ?_
  refine J.iload_n (pc' := 7) rfl rfl rfl ?_
  refine J.callV (pc' := 10) (t := 16) rfl MX12_isSeller ml_X12_176 iv_X12_isSeller (by decide) ⟨_, rfl, rfl⟩ B.1 (cm_isSeller B R h0 hs) rfl rfl (Nat.le_of_ble_eq_true rfl) (by first | omega | (exact R.r _ _) | (simp only [jM.len_sI, jM.len_sL, jM.len_sR, jM.len_fI, jM.len_fL, jM.len_fR]; omega) | (simp [jM.len_nw, jM.len_sI, jM.len_sL, jM.len_sR, jM.len_fI, jM.len_fL, jM.len_fR, *]; omega)) (by first | omega | (exact R.r _ _) | (simp only [jM.len_sI, jM.len_sL, jM.len_sR, jM.len_fI, jM.len_fL, jM.len_fR]; omega) | (simp [jM.len_nw, jM.len_sI, jM.len_sL, jM.len_sR, jM.len_fI, jM.len_fL, jM.len_fR, *]; omega)) (by first | omega | (exact R.r _ _) | (simp only [jM.len_sI, jM.len_sL, jM.len_sR, jM.len_fI, jM.len_fL, jM.len_fR]; omega) | (simp [jM.len_nw, jM.len_sI, jM.len_sL, jM.len_sR, jM.len_fI, jM.len_fL, jM.len_fR, *]; omega)) rfl rfl ?_ ?_
  · exact fun _ _ h => h
  rintro _ _ ⟨b, hb, rfl⟩
  rcases hb with ⟨rfl, hb, rfl⟩ | ⟨rfl, hb, rfl⟩
  · first
    | (exfalso; omega)
    | (refine J.if_eq (tgt := 69) (pc' := 13) rfl rfl rfl (by first | omega | (exact R.r _ _) | (simp only [jM.len_sI, jM.len_sL, jM.len_sR, jM.len_fI, jM.len_fL, jM.len_fR]; omega) | (simp [jM.len_nw, jM.len_sI, jM.len_sL, jM.len_sR, jM.len_fI, jM.len_fL, jM.len_fR, *]; omega)) (fun c10 => ?_) (fun c10 => ?_)
       · first
         | (exfalso; omega)
         | (refine J.iconst (pc' := 70) rfl rfl ?_
            refine J.iret rfl rfl (by first | omega | (exact R.r _ _) | (simp only [jM.len_sI, jM.len_sL, jM.len_sR, jM.len_fI, jM.len_fL, jM.len_fR]; omega) | (simp [jM.len_nw, jM.len_sI, jM.len_sL, jM.len_sR, jM.len_fI, jM.len_fL, jM.len_fR, *]; omega)) (by first | omega | (exact R.r _ _) | (simp only [jM.len_sI, jM.len_sL, jM.len_sR, jM.len_fI, jM.len_fL, jM.len_fR]; omega) | (simp [jM.len_nw, jM.len_sI, jM.len_sL, jM.len_sR, jM.len_fI, jM.len_fL, jM.len_fR, *]; omega)) ?_
            exact mQ.of (by unfold sp_usual; (repeat (first | rw [if_pos (by omega)] | rw [if_neg (by omega)]))))
       · first
         | (exfalso; omega)
         | (first | refine J.aload_n (pc' := 14) rfl rfl rfl ?_ | refine J.aload_nN (pc' := 14) rfl rfl rfl ?_
            refine J.iload_n (pc' := 15) rfl rfl rfl ?_
            refine J.if_lt (tgt := 30) (pc' := 18) rfl rfl rfl (by first | omega | (exact R.r _ _) | (simp only [jM.len_sI, jM.len_sL, jM.len_sR, jM.len_fI, jM.len_fL, jM.len_fR]; omega) | (simp [jM.len_nw, jM.len_sI, jM.len_sL, jM.len_sR, jM.len_fI, jM.len_fL, jM.len_fR, *]; omega)) (fun c15 => ?_) (fun c15 => ?_)
            · first
              | (exfalso; omega)
              | (refine J.iconst (pc' := 31) rfl rfl ?_
                 refine J.iconst (pc' := 32) rfl rfl ?_
                 first | refine J.callV (pc' := 35) (t := 16) rfl MX12_may ml_X12_161 iv_X12_may (by decide) ⟨_, rfl, rfl⟩ B.1 (cm_may1 B h0) rfl rfl (Nat.le_of_ble_eq_true rfl) (by first | omega | (exact R.r _ _) | (simp only [jM.len_sI, jM.len_sL, jM.len_sR, jM.len_fI, jM.len_fL, jM.len_fR]; omega) | (simp [jM.len_nw, jM.len_sI, jM.len_sL, jM.len_sR, jM.len_fI, jM.len_fL, jM.len_fR, *]; omega)) (by first | omega | (exact R.r _ _) | (simp only [jM.len_sI, jM.len_sL, jM.len_sR, jM.len_fI, jM.len_fL, jM.len_fR]; omega) | (simp [jM.len_nw, jM.len_sI, jM.len_sL, jM.len_sR, jM.len_fI, jM.len_fL, jM.len_fR, *]; omega)) (by first | omega | (exact R.r _ _) | (simp only [jM.len_sI, jM.len_sL, jM.len_sR, jM.len_fI, jM.len_fL, jM.len_fR]; omega) | (simp [jM.len_nw, jM.len_sI, jM.len_sL, jM.len_sR, jM.len_fI, jM.len_fL, jM.len_fR, *]; omega)) rfl rfl ?_ ?_ | refine J.callV (pc' := 35) (t := 16) rfl MX12_may ml_X12_161 iv_X12_may (by decide) ⟨_, rfl, rfl⟩ B.1 (cm_may0 B h0 (by omega)) rfl rfl (Nat.le_of_ble_eq_true rfl) (by first | omega | (exact R.r _ _) | (simp only [jM.len_sI, jM.len_sL, jM.len_sR, jM.len_fI, jM.len_fL, jM.len_fR]; omega) | (simp [jM.len_nw, jM.len_sI, jM.len_sL, jM.len_sR, jM.len_fI, jM.len_fL, jM.len_fR, *]; omega)) (by first | omega | (exact R.r _ _) | (simp only [jM.len_sI, jM.len_sL, jM.len_sR, jM.len_fI, jM.len_fL, jM.len_fR]; omega) | (simp [jM.len_nw, jM.len_sI, jM.len_sL, jM.len_sR, jM.len_fI, jM.len_fL, jM.len_fR, *]; omega)) (by first | omega | (exact R.r _ _) | (simp only [jM.len_sI, jM.len_sL, jM.len_sR, jM.len_fI, jM.len_fL, jM.len_fR]; omega) | (simp [jM.len_nw, jM.len_sI, jM.len_sL, jM.len_sR, jM.len_fI, jM.len_fL, jM.len_fR, *]; omega)) rfl rfl ?_ ?_
                 · exact fun _ _ h => h
                 rintro _ _ ⟨rfl, rfl⟩
                 refine J.if_eq (tgt := 69) (pc' := 38) rfl rfl rfl (by first | omega | (exact R.r _ _) | (simp only [jM.len_sI, jM.len_sL, jM.len_sR, jM.len_fI, jM.len_fL, jM.len_fR]; omega) | (simp [jM.len_nw, jM.len_sI, jM.len_sL, jM.len_sR, jM.len_fI, jM.len_fL, jM.len_fR, *]; omega)) (fun c35 => ?_) (fun c35 => ?_)
                 · first
                   | (exfalso; omega)
                   | (refine J.iconst (pc' := 70) rfl rfl ?_
                      refine J.iret rfl rfl (by first | omega | (exact R.r _ _) | (simp only [jM.len_sI, jM.len_sL, jM.len_sR, jM.len_fI, jM.len_fL, jM.len_fR]; omega) | (simp [jM.len_nw, jM.len_sI, jM.len_sL, jM.len_sR, jM.len_fI, jM.len_fL, jM.len_fR, *]; omega)) (by first | omega | (exact R.r _ _) | (simp only [jM.len_sI, jM.len_sL, jM.len_sR, jM.len_fI, jM.len_fL, jM.len_fR]; omega) | (simp [jM.len_nw, jM.len_sI, jM.len_sL, jM.len_sR, jM.len_fI, jM.len_fL, jM.len_fR, *]; omega)) ?_
                      exact mQ.of (by unfold sp_usual; (repeat (first | rw [if_pos (by omega)] | rw [if_neg (by omega)]))))
                 · first
                   | (exfalso; omega)
                   | (first | refine J.aload_n (pc' := 39) rfl rfl rfl ?_ | refine J.aload_nN (pc' := 39) rfl rfl rfl ?_
                      refine J.iload_n (pc' := 40) rfl rfl rfl ?_
                      refine J.callS (pc' := 43) rfl MX12_isMetal ml_X12_157 is_X12_isMetal (cm_isMetal hm) rfl rfl (Nat.le_of_ble_eq_true rfl) (by first | omega | (exact R.r _ _) | (simp only [jM.len_sI, jM.len_sL, jM.len_sR, jM.len_fI, jM.len_fL, jM.len_fR]; omega) | (simp [jM.len_nw, jM.len_sI, jM.len_sL, jM.len_sR, jM.len_fI, jM.len_fL, jM.len_fR, *]; omega)) (by first | omega | (exact R.r _ _) | (simp only [jM.len_sI, jM.len_sL, jM.len_sR, jM.len_fI, jM.len_fL, jM.len_fR]; omega) | (simp [jM.len_nw, jM.len_sI, jM.len_sL, jM.len_sR, jM.len_fI, jM.len_fL, jM.len_fR, *]; omega)) (by first | omega | (exact R.r _ _) | (simp only [jM.len_sI, jM.len_sL, jM.len_sR, jM.len_fI, jM.len_fL, jM.len_fR]; omega) | (simp [jM.len_nw, jM.len_sI, jM.len_sL, jM.len_sR, jM.len_fI, jM.len_fL, jM.len_fR, *]; omega)) rfl rfl ?_ ?_
                      · exact fun _ _ h => h
                      rintro _ _ ⟨b, hb1, rfl, rfl⟩
                      refine J.if_eq (tgt := 61) (pc' := 46) rfl rfl rfl (by first | omega | (exact R.r _ _) | (simp only [jM.len_sI, jM.len_sL, jM.len_sR, jM.len_fI, jM.len_fL, jM.len_fR]; omega) | (simp [jM.len_nw, jM.len_sI, jM.len_sL, jM.len_sR, jM.len_fI, jM.len_fL, jM.len_fR, *]; omega)) (fun c43 => ?_) (fun c43 => ?_)
                      · first
                        | (exfalso; omega)
                        | (refine J.iconst (pc' := 62) rfl rfl ?_
                           refine J.iconst (pc' := 63) rfl rfl ?_
                           first | refine J.callV (pc' := 66) (t := 16) rfl MX12_may ml_X12_161 iv_X12_may (by decide) ⟨_, rfl, rfl⟩ B.1 (cm_may1 B h0) rfl rfl (Nat.le_of_ble_eq_true rfl) (by first | omega | (exact R.r _ _) | (simp only [jM.len_sI, jM.len_sL, jM.len_sR, jM.len_fI, jM.len_fL, jM.len_fR]; omega) | (simp [jM.len_nw, jM.len_sI, jM.len_sL, jM.len_sR, jM.len_fI, jM.len_fL, jM.len_fR, *]; omega)) (by first | omega | (exact R.r _ _) | (simp only [jM.len_sI, jM.len_sL, jM.len_sR, jM.len_fI, jM.len_fL, jM.len_fR]; omega) | (simp [jM.len_nw, jM.len_sI, jM.len_sL, jM.len_sR, jM.len_fI, jM.len_fL, jM.len_fR, *]; omega)) (by first | omega | (exact R.r _ _) | (simp only [jM.len_sI, jM.len_sL, jM.len_sR, jM.len_fI, jM.len_fL, jM.len_fR]; omega) | (simp [jM.len_nw, jM.len_sI, jM.len_sL, jM.len_sR, jM.len_fI, jM.len_fL, jM.len_fR, *]; omega)) rfl rfl ?_ ?_ | refine J.callV (pc' := 66) (t := 16) rfl MX12_may ml_X12_161 iv_X12_may (by decide) ⟨_, rfl, rfl⟩ B.1 (cm_may0 B h0 (by omega)) rfl rfl (Nat.le_of_ble_eq_true rfl) (by first | omega | (exact R.r _ _) | (simp only [jM.len_sI, jM.len_sL, jM.len_sR, jM.len_fI, jM.len_fL, jM.len_fR]; omega) | (simp [jM.len_nw, jM.len_sI, jM.len_sL, jM.len_sR, jM.len_fI, jM.len_fL, jM.len_fR, *]; omega)) (by first | omega | (exact R.r _ _) | (simp only [jM.len_sI, jM.len_sL, jM.len_sR, jM.len_fI, jM.len_fL, jM.len_fR]; omega) | (simp [jM.len_nw, jM.len_sI, jM.len_sL, jM.len_sR, jM.len_fI, jM.len_fL, jM.len_fR, *]; omega)) (by first | omega | (exact R.r _ _) | (simp only [jM.len_sI, jM.len_sL, jM.len_sR, jM.len_fI, jM.len_fL, jM.len_fR]; omega) | (simp [jM.len_nw, jM.len_sI, jM.len_sL, jM.len_sR, jM.len_fI, jM.len_fL, jM.len_fR, *]; omega)) rfl rfl ?_ ?_
                           · exact fun _ _ h => h
                           rintro _ _ ⟨rfl, rfl⟩
                           refine J.if_ne (tgt := 71) (pc' := 69) rfl rfl rfl (by first | omega | (exact R.r _ _) | (simp only [jM.len_sI, jM.len_sL, jM.len_sR, jM.len_fI, jM.len_fL, jM.len_fR]; omega) | (simp [jM.len_nw, jM.len_sI, jM.len_sL, jM.len_sR, jM.len_fI, jM.len_fL, jM.len_fR, *]; omega)) (fun c66 => ?_) (fun c66 => ?_)
                           · first
                             | (exfalso; omega)
                             | (refine J.iload (pc' := 73) rfl rfl rfl ?_
                                refine J.if_ne (tgt := 86) (pc' := 76) rfl rfl rfl (by first | omega | (exact R.r _ _) | (simp only [jM.len_sI, jM.len_sL, jM.len_sR, jM.len_fI, jM.len_fL, jM.len_fR]; omega) | (simp [jM.len_nw, jM.len_sI, jM.len_sL, jM.len_sR, jM.len_fI, jM.len_fL, jM.len_fR, *]; omega)) (fun c73 => ?_) (fun c73 => ?_)
                                · first
                                  | (exfalso; omega)
                                  | (first | refine J.aload_n (pc' := 87) rfl rfl rfl ?_ | refine J.aload_nN (pc' := 87) rfl rfl rfl ?_
                                     refine J.iload_n (pc' := 88) rfl rfl rfl ?_
                                     refine J.iload_n (pc' := 89) rfl rfl rfl ?_
                                     refine J.iload_n (pc' := 90) rfl rfl rfl ?_
                                     refine J.callV (pc' := 93) (t := 16) rfl MX12_highOf ml_X12_182 iv_X12_highOf (by decide) ⟨_, rfl, rfl⟩ B.1 (cm_highOf B R (by omega) (by omega) (by omega)) rfl rfl (Nat.le_of_ble_eq_true rfl) (by first | omega | (exact R.r _ _) | (simp only [jM.len_sI, jM.len_sL, jM.len_sR, jM.len_fI, jM.len_fL, jM.len_fR]; omega) | (simp [jM.len_nw, jM.len_sI, jM.len_sL, jM.len_sR, jM.len_fI, jM.len_fL, jM.len_fR, *]; omega)) (by first | omega | (exact R.r _ _) | (simp only [jM.len_sI, jM.len_sL, jM.len_sR, jM.len_fI, jM.len_fL, jM.len_fR]; omega) | (simp [jM.len_nw, jM.len_sI, jM.len_sL, jM.len_sR, jM.len_fI, jM.len_fL, jM.len_fR, *]; omega)) (by first | omega | (exact R.r _ _) | (simp only [jM.len_sI, jM.len_sL, jM.len_sR, jM.len_fI, jM.len_fL, jM.len_fR]; omega) | (simp [jM.len_nw, jM.len_sI, jM.len_sL, jM.len_sR, jM.len_fI, jM.len_fL, jM.len_fR, *]; omega)) rfl rfl ?_ ?_
                                     · exact fun _ _ h => h
                                     rintro _ _ ⟨rfl, rfl⟩
                                     refine J.iret rfl rfl (by first | omega | (exact R.r _ _) | (simp only [jM.len_sI, jM.len_sL, jM.len_sR, jM.len_fI, jM.len_fL, jM.len_fR]; omega) | (simp [jM.len_nw, jM.len_sI, jM.len_sL, jM.len_sR, jM.len_fI, jM.len_fL, jM.len_fR, *]; omega)) (by first | omega | (exact R.r _ _) | (simp only [jM.len_sI, jM.len_sL, jM.len_sR, jM.len_fI, jM.len_fL, jM.len_fR]; omega) | (simp [jM.len_nw, jM.len_sI, jM.len_sL, jM.len_sR, jM.len_fI, jM.len_fL, jM.len_fR, *]; omega)) ?_
                                     exact mQ.of (by unfold sp_usual; (repeat (first | rw [if_pos (by omega)] | rw [if_neg (by omega)]))))
                                · first
                                  | (exfalso; omega)
                                  | (first | refine J.aload_n (pc' := 77) rfl rfl rfl ?_ | refine J.aload_nN (pc' := 77) rfl rfl rfl ?_
                                     refine J.iload_n (pc' := 78) rfl rfl rfl ?_
                                     refine J.iload_n (pc' := 79) rfl rfl rfl ?_
                                     refine J.iload_n (pc' := 80) rfl rfl rfl ?_
                                     refine J.callV (pc' := 83) (t := 16) rfl MX12_lowOf ml_X12_179 iv_X12_lowOf (by decide) ⟨_, rfl, rfl⟩ B.1 (cm_lowOf B R (by omega) (by omega) (by omega)) rfl rfl (Nat.le_of_ble_eq_true rfl) (by first | omega | (exact R.r _ _) | (simp only [jM.len_sI, jM.len_sL, jM.len_sR, jM.len_fI, jM.len_fL, jM.len_fR]; omega) | (simp [jM.len_nw, jM.len_sI, jM.len_sL, jM.len_sR, jM.len_fI, jM.len_fL, jM.len_fR, *]; omega)) (by first | omega | (exact R.r _ _) | (simp only [jM.len_sI, jM.len_sL, jM.len_sR, jM.len_fI, jM.len_fL, jM.len_fR]; omega) | (simp [jM.len_nw, jM.len_sI, jM.len_sL, jM.len_sR, jM.len_fI, jM.len_fL, jM.len_fR, *]; omega)) (by first | omega | (exact R.r _ _) | (simp only [jM.len_sI, jM.len_sL, jM.len_sR, jM.len_fI, jM.len_fL, jM.len_fR]; omega) | (simp [jM.len_nw, jM.len_sI, jM.len_sL, jM.len_sR, jM.len_fI, jM.len_fL, jM.len_fR, *]; omega)) rfl rfl ?_ ?_
                                     · exact fun _ _ h => h
                                     rintro _ _ ⟨rfl, rfl⟩
                                     refine J.goto (tgt := 93) rfl rfl ?_
                                     refine J.iret rfl rfl (by first | omega | (exact R.r _ _) | (simp only [jM.len_sI, jM.len_sL, jM.len_sR, jM.len_fI, jM.len_fL, jM.len_fR]; omega) | (simp [jM.len_nw, jM.len_sI, jM.len_sL, jM.len_sR, jM.len_fI, jM.len_fL, jM.len_fR, *]; omega)) (by first | omega | (exact R.r _ _) | (simp only [jM.len_sI, jM.len_sL, jM.len_sR, jM.len_fI, jM.len_fL, jM.len_fR]; omega) | (simp [jM.len_nw, jM.len_sI, jM.len_sL, jM.len_sR, jM.len_fI, jM.len_fL, jM.len_fR, *]; omega)) ?_
                                     exact mQ.of (by unfold sp_usual; (repeat (first | rw [if_pos (by omega)] | rw [if_neg (by omega)])))))
                           · first
                             | (exfalso; omega)
                             | (refine J.iconst (pc' := 70) rfl rfl ?_
                                refine J.iret rfl rfl (by first | omega | (exact R.r _ _) | (simp only [jM.len_sI, jM.len_sL, jM.len_sR, jM.len_fI, jM.len_fL, jM.len_fR]; omega) | (simp [jM.len_nw, jM.len_sI, jM.len_sL, jM.len_sR, jM.len_fI, jM.len_fL, jM.len_fR, *]; omega)) (by first | omega | (exact R.r _ _) | (simp only [jM.len_sI, jM.len_sL, jM.len_sR, jM.len_fI, jM.len_fL, jM.len_fR]; omega) | (simp [jM.len_nw, jM.len_sI, jM.len_sL, jM.len_sR, jM.len_fI, jM.len_fL, jM.len_fR, *]; omega)) ?_
                                exact mQ.of (by unfold sp_usual; (repeat (first | rw [if_pos (by omega)] | rw [if_neg (by omega)])))))
                      · first
                        | (exfalso; omega)
                        | (refine J.iload (pc' := 48) rfl rfl rfl ?_
                           refine J.if_eq (tgt := 57) (pc' := 51) rfl rfl rfl (by first | omega | (exact R.r _ _) | (simp only [jM.len_sI, jM.len_sL, jM.len_sR, jM.len_fI, jM.len_fL, jM.len_fR]; omega) | (simp [jM.len_nw, jM.len_sI, jM.len_sL, jM.len_sR, jM.len_fI, jM.len_fL, jM.len_fR, *]; omega)) (fun c48 => ?_) (fun c48 => ?_)
                           · first
                             | (exfalso; omega)
                             | (refine J.iconst (pc' := 58) rfl rfl ?_
                                refine J.goto (tgt := 62) rfl rfl ?_
                                refine J.iconst (pc' := 63) rfl rfl ?_
                                first | refine J.callV (pc' := 66) (t := 16) rfl MX12_may ml_X12_161 iv_X12_may (by decide) ⟨_, rfl, rfl⟩ B.1 (cm_may1 B h0) rfl rfl (Nat.le_of_ble_eq_true rfl) (by first | omega | (exact R.r _ _) | (simp only [jM.len_sI, jM.len_sL, jM.len_sR, jM.len_fI, jM.len_fL, jM.len_fR]; omega) | (simp [jM.len_nw, jM.len_sI, jM.len_sL, jM.len_sR, jM.len_fI, jM.len_fL, jM.len_fR, *]; omega)) (by first | omega | (exact R.r _ _) | (simp only [jM.len_sI, jM.len_sL, jM.len_sR, jM.len_fI, jM.len_fL, jM.len_fR]; omega) | (simp [jM.len_nw, jM.len_sI, jM.len_sL, jM.len_sR, jM.len_fI, jM.len_fL, jM.len_fR, *]; omega)) (by first | omega | (exact R.r _ _) | (simp only [jM.len_sI, jM.len_sL, jM.len_sR, jM.len_fI, jM.len_fL, jM.len_fR]; omega) | (simp [jM.len_nw, jM.len_sI, jM.len_sL, jM.len_sR, jM.len_fI, jM.len_fL, jM.len_fR, *]; omega)) rfl rfl ?_ ?_ | refine J.callV (pc' := 66) (t := 16) rfl MX12_may ml_X12_161 iv_X12_may (by decide) ⟨_, rfl, rfl⟩ B.1 (cm_may0 B h0 (by omega)) rfl rfl (Nat.le_of_ble_eq_true rfl) (by first | omega | (exact R.r _ _) | (simp only [jM.len_sI, jM.len_sL, jM.len_sR, jM.len_fI, jM.len_fL, jM.len_fR]; omega) | (simp [jM.len_nw, jM.len_sI, jM.len_sL, jM.len_sR, jM.len_fI, jM.len_fL, jM.len_fR, *]; omega)) (by first | omega | (exact R.r _ _) | (simp only [jM.len_sI, jM.len_sL, jM.len_sR, jM.len_fI, jM.len_fL, jM.len_fR]; omega) | (simp [jM.len_nw, jM.len_sI, jM.len_sL, jM.len_sR, jM.len_fI, jM.len_fL, jM.len_fR, *]; omega)) (by first | omega | (exact R.r _ _) | (simp only [jM.len_sI, jM.len_sL, jM.len_sR, jM.len_fI, jM.len_fL, jM.len_fR]; omega) | (simp [jM.len_nw, jM.len_sI, jM.len_sL, jM.len_sR, jM.len_fI, jM.len_fL, jM.len_fR, *]; omega)) rfl rfl ?_ ?_
                                · exact fun _ _ h => h
                                rintro _ _ ⟨rfl, rfl⟩
                                refine J.if_ne (tgt := 71) (pc' := 69) rfl rfl rfl (by first | omega | (exact R.r _ _) | (simp only [jM.len_sI, jM.len_sL, jM.len_sR, jM.len_fI, jM.len_fL, jM.len_fR]; omega) | (simp [jM.len_nw, jM.len_sI, jM.len_sL, jM.len_sR, jM.len_fI, jM.len_fL, jM.len_fR, *]; omega)) (fun c66 => ?_) (fun c66 => ?_)
                                · first
                                  | (exfalso; omega)
                                  | (refine J.iload (pc' := 73) rfl rfl rfl ?_
                                     refine J.if_ne (tgt := 86) (pc' := 76) rfl rfl rfl (by first | omega | (exact R.r _ _) | (simp only [jM.len_sI, jM.len_sL, jM.len_sR, jM.len_fI, jM.len_fL, jM.len_fR]; omega) | (simp [jM.len_nw, jM.len_sI, jM.len_sL, jM.len_sR, jM.len_fI, jM.len_fL, jM.len_fR, *]; omega)) (fun c73 => ?_) (fun c73 => ?_)
                                     · first
                                       | (exfalso; omega)
                                       | (first | refine J.aload_n (pc' := 87) rfl rfl rfl ?_ | refine J.aload_nN (pc' := 87) rfl rfl rfl ?_
                                          refine J.iload_n (pc' := 88) rfl rfl rfl ?_
                                          refine J.iload_n (pc' := 89) rfl rfl rfl ?_
                                          refine J.iload_n (pc' := 90) rfl rfl rfl ?_
                                          refine J.callV (pc' := 93) (t := 16) rfl MX12_highOf ml_X12_182 iv_X12_highOf (by decide) ⟨_, rfl, rfl⟩ B.1 (cm_highOf B R (by omega) (by omega) (by omega)) rfl rfl (Nat.le_of_ble_eq_true rfl) (by first | omega | (exact R.r _ _) | (simp only [jM.len_sI, jM.len_sL, jM.len_sR, jM.len_fI, jM.len_fL, jM.len_fR]; omega) | (simp [jM.len_nw, jM.len_sI, jM.len_sL, jM.len_sR, jM.len_fI, jM.len_fL, jM.len_fR, *]; omega)) (by first | omega | (exact R.r _ _) | (simp only [jM.len_sI, jM.len_sL, jM.len_sR, jM.len_fI, jM.len_fL, jM.len_fR]; omega) | (simp [jM.len_nw, jM.len_sI, jM.len_sL, jM.len_sR, jM.len_fI, jM.len_fL, jM.len_fR, *]; omega)) (by first | omega | (exact R.r _ _) | (simp only [jM.len_sI, jM.len_sL, jM.len_sR, jM.len_fI, jM.len_fL, jM.len_fR]; omega) | (simp [jM.len_nw, jM.len_sI, jM.len_sL, jM.len_sR, jM.len_fI, jM.len_fL, jM.len_fR, *]; omega)) rfl rfl ?_ ?_
                                          · exact fun _ _ h => h
                                          rintro _ _ ⟨rfl, rfl⟩
                                          refine J.iret rfl rfl (by first | omega | (exact R.r _ _) | (simp only [jM.len_sI, jM.len_sL, jM.len_sR, jM.len_fI, jM.len_fL, jM.len_fR]; omega) | (simp [jM.len_nw, jM.len_sI, jM.len_sL, jM.len_sR, jM.len_fI, jM.len_fL, jM.len_fR, *]; omega)) (by first | omega | (exact R.r _ _) | (simp only [jM.len_sI, jM.len_sL, jM.len_sR, jM.len_fI, jM.len_fL, jM.len_fR]; omega) | (simp [jM.len_nw, jM.len_sI, jM.len_sL, jM.len_sR, jM.len_fI, jM.len_fL, jM.len_fR, *]; omega)) ?_
                                          exact mQ.of (by unfold sp_usual; (repeat (first | rw [if_pos (by omega)] | rw [if_neg (by omega)]))))
                                     · first
                                       | (exfalso; omega)
                                       | (first | refine J.aload_n (pc' := 77) rfl rfl rfl ?_ | refine J.aload_nN (pc' := 77) rfl rfl rfl ?_
                                          refine J.iload_n (pc' := 78) rfl rfl rfl ?_
                                          refine J.iload_n (pc' := 79) rfl rfl rfl ?_
                                          refine J.iload_n (pc' := 80) rfl rfl rfl ?_
                                          refine J.callV (pc' := 83) (t := 16) rfl MX12_lowOf ml_X12_179 iv_X12_lowOf (by decide) ⟨_, rfl, rfl⟩ B.1 (cm_lowOf B R (by omega) (by omega) (by omega)) rfl rfl (Nat.le_of_ble_eq_true rfl) (by first | omega | (exact R.r _ _) | (simp only [jM.len_sI, jM.len_sL, jM.len_sR, jM.len_fI, jM.len_fL, jM.len_fR]; omega) | (simp [jM.len_nw, jM.len_sI, jM.len_sL, jM.len_sR, jM.len_fI, jM.len_fL, jM.len_fR, *]; omega)) (by first | omega | (exact R.r _ _) | (simp only [jM.len_sI, jM.len_sL, jM.len_sR, jM.len_fI, jM.len_fL, jM.len_fR]; omega) | (simp [jM.len_nw, jM.len_sI, jM.len_sL, jM.len_sR, jM.len_fI, jM.len_fL, jM.len_fR, *]; omega)) (by first | omega | (exact R.r _ _) | (simp only [jM.len_sI, jM.len_sL, jM.len_sR, jM.len_fI, jM.len_fL, jM.len_fR]; omega) | (simp [jM.len_nw, jM.len_sI, jM.len_sL, jM.len_sR, jM.len_fI, jM.len_fL, jM.len_fR, *]; omega)) rfl rfl ?_ ?_
                                          · exact fun _ _ h => h
                                          rintro _ _ ⟨rfl, rfl⟩
                                          refine J.goto (tgt := 93) rfl rfl ?_
                                          refine J.iret rfl rfl (by first | omega | (exact R.r _ _) | (simp only [jM.len_sI, jM.len_sL, jM.len_sR, jM.len_fI, jM.len_fL, jM.len_fR]; omega) | (simp [jM.len_nw, jM.len_sI, jM.len_sL, jM.len_sR, jM.len_fI, jM.len_fL, jM.len_fR, *]; omega)) (by first | omega | (exact R.r _ _) | (simp only [jM.len_sI, jM.len_sL, jM.len_sR, jM.len_fI, jM.len_fL, jM.len_fR]; omega) | (simp [jM.len_nw, jM.len_sI, jM.len_sL, jM.len_sR, jM.len_fI, jM.len_fL, jM.len_fR, *]; omega)) ?_
                                          exact mQ.of (by unfold sp_usual; (repeat (first | rw [if_pos (by omega)] | rw [if_neg (by omega)])))))
                                · first
                                  | (exfalso; omega)
                                  | (refine J.iconst (pc' := 70) rfl rfl ?_
                                     refine J.iret rfl rfl (by first | omega | (exact R.r _ _) | (simp only [jM.len_sI, jM.len_sL, jM.len_sR, jM.len_fI, jM.len_fL, jM.len_fR]; omega) | (simp [jM.len_nw, jM.len_sI, jM.len_sL, jM.len_sR, jM.len_fI, jM.len_fL, jM.len_fR, *]; omega)) (by first | omega | (exact R.r _ _) | (simp only [jM.len_sI, jM.len_sL, jM.len_sR, jM.len_fI, jM.len_fL, jM.len_fR]; omega) | (simp [jM.len_nw, jM.len_sI, jM.len_sL, jM.len_sR, jM.len_fI, jM.len_fL, jM.len_fR, *]; omega)) ?_
                                     exact mQ.of (by unfold sp_usual; (repeat (first | rw [if_pos (by omega)] | rw [if_neg (by omega)])))))
                           · first
                             | (exfalso; omega)
                             | (refine J.iload (pc' := 53) rfl rfl rfl ?_
                                refine J.iconst (pc' := 54) rfl rfl ?_
                                refine J.icmp_ne (tgt := 61) (pc' := 57) rfl rfl rfl (by first | omega | (exact R.r _ _) | (simp only [jM.len_sI, jM.len_sL, jM.len_sR, jM.len_fI, jM.len_fL, jM.len_fR]; omega) | (simp [jM.len_nw, jM.len_sI, jM.len_sL, jM.len_sR, jM.len_fI, jM.len_fL, jM.len_fR, *]; omega)) (by first | omega | (exact R.r _ _) | (simp only [jM.len_sI, jM.len_sL, jM.len_sR, jM.len_fI, jM.len_fL, jM.len_fR]; omega) | (simp [jM.len_nw, jM.len_sI, jM.len_sL, jM.len_sR, jM.len_fI, jM.len_fL, jM.len_fR, *]; omega)) (fun c54 => ?_) (fun c54 => ?_)
                                · first
                                  | (exfalso; omega)
                                  | (refine J.iconst (pc' := 62) rfl rfl ?_
                                     refine J.iconst (pc' := 63) rfl rfl ?_
                                     first | refine J.callV (pc' := 66) (t := 16) rfl MX12_may ml_X12_161 iv_X12_may (by decide) ⟨_, rfl, rfl⟩ B.1 (cm_may1 B h0) rfl rfl (Nat.le_of_ble_eq_true rfl) (by first | omega | (exact R.r _ _) | (simp only [jM.len_sI, jM.len_sL, jM.len_sR, jM.len_fI, jM.len_fL, jM.len_fR]; omega) | (simp [jM.len_nw, jM.len_sI, jM.len_sL, jM.len_sR, jM.len_fI, jM.len_fL, jM.len_fR, *]; omega)) (by first | omega | (exact R.r _ _) | (simp only [jM.len_sI, jM.len_sL, jM.len_sR, jM.len_fI, jM.len_fL, jM.len_fR]; omega) | (simp [jM.len_nw, jM.len_sI, jM.len_sL, jM.len_sR, jM.len_fI, jM.len_fL, jM.len_fR, *]; omega)) (by first | omega | (exact R.r _ _) | (simp only [jM.len_sI, jM.len_sL, jM.len_sR, jM.len_fI, jM.len_fL, jM.len_fR]; omega) | (simp [jM.len_nw, jM.len_sI, jM.len_sL, jM.len_sR, jM.len_fI, jM.len_fL, jM.len_fR, *]; omega)) rfl rfl ?_ ?_ | refine J.callV (pc' := 66) (t := 16) rfl MX12_may ml_X12_161 iv_X12_may (by decide) ⟨_, rfl, rfl⟩ B.1 (cm_may0 B h0 (by omega)) rfl rfl (Nat.le_of_ble_eq_true rfl) (by first | omega | (exact R.r _ _) | (simp only [jM.len_sI, jM.len_sL, jM.len_sR, jM.len_fI, jM.len_fL, jM.len_fR]; omega) | (simp [jM.len_nw, jM.len_sI, jM.len_sL, jM.len_sR, jM.len_fI, jM.len_fL, jM.len_fR, *]; omega)) (by first | omega | (exact R.r _ _) | (simp only [jM.len_sI, jM.len_sL, jM.len_sR, jM.len_fI, jM.len_fL, jM.len_fR]; omega) | (simp [jM.len_nw, jM.len_sI, jM.len_sL, jM.len_sR, jM.len_fI, jM.len_fL, jM.len_fR, *]; omega)) (by first | omega | (exact R.r _ _) | (simp only [jM.len_sI, jM.len_sL, jM.len_sR, jM.len_fI, jM.len_fL, jM.len_fR]; omega) | (simp [jM.len_nw, jM.len_sI, jM.len_sL, jM.len_sR, jM.len_fI, jM.len_fL, jM.len_fR, *]; omega)) rfl rfl ?_ ?_
                                     · exact fun _ _ h => h
                                     rintro _ _ ⟨rfl, rfl⟩
                                     refine J.if_ne (tgt := 71) (pc' := 69) rfl rfl rfl (by first | omega | (exact R.r _ _) | (simp only [jM.len_sI, jM.len_sL, jM.len_sR, jM.len_fI, jM.len_fL, jM.len_fR]; omega) | (simp [jM.len_nw, jM.len_sI, jM.len_sL, jM.len_sR, jM.len_fI, jM.len_fL, jM.len_fR, *]; omega)) (fun c66 => ?_) (fun c66 => ?_)
                                     · first
                                       | (exfalso; omega)
                                       | (refine J.iload (pc' := 73) rfl rfl rfl ?_
                                          refine J.if_ne (tgt := 86) (pc' := 76) rfl rfl rfl (by first | omega | (exact R.r _ _) | (simp only [jM.len_sI, jM.len_sL, jM.len_sR, jM.len_fI, jM.len_fL, jM.len_fR]; omega) | (simp [jM.len_nw, jM.len_sI, jM.len_sL, jM.len_sR, jM.len_fI, jM.len_fL, jM.len_fR, *]; omega)) (fun c73 => ?_) (fun c73 => ?_)
                                          · first
                                            | (exfalso; omega)
                                            | (first | refine J.aload_n (pc' := 87) rfl rfl rfl ?_ | refine J.aload_nN (pc' := 87) rfl rfl rfl ?_
                                               refine J.iload_n (pc' := 88) rfl rfl rfl ?_
                                               refine J.iload_n (pc' := 89) rfl rfl rfl ?_
                                               refine J.iload_n (pc' := 90) rfl rfl rfl ?_
                                               refine J.callV (pc' := 93) (t := 16) rfl MX12_highOf ml_X12_182 iv_X12_highOf (by decide) ⟨_, rfl, rfl⟩ B.1 (cm_highOf B R (by omega) (by omega) (by omega)) rfl rfl (Nat.le_of_ble_eq_true rfl) (by first | omega | (exact R.r _ _) | (simp only [jM.len_sI, jM.len_sL, jM.len_sR, jM.len_fI, jM.len_fL, jM.len_fR]; omega) | (simp [jM.len_nw, jM.len_sI, jM.len_sL, jM.len_sR, jM.len_fI, jM.len_fL, jM.len_fR, *]; omega)) (by first | omega | (exact R.r _ _) | (simp only [jM.len_sI, jM.len_sL, jM.len_sR, jM.len_fI, jM.len_fL, jM.len_fR]; omega) | (simp [jM.len_nw, jM.len_sI, jM.len_sL, jM.len_sR, jM.len_fI, jM.len_fL, jM.len_fR, *]; omega)) (by first | omega | (exact R.r _ _) | (simp only [jM.len_sI, jM.len_sL, jM.len_sR, jM.len_fI, jM.len_fL, jM.len_fR]; omega) | (simp [jM.len_nw, jM.len_sI, jM.len_sL, jM.len_sR, jM.len_fI, jM.len_fL, jM.len_fR, *]; omega)) rfl rfl ?_ ?_
                                               · exact fun _ _ h => h
                                               rintro _ _ ⟨rfl, rfl⟩
                                               refine J.iret rfl rfl (by first | omega | (exact R.r _ _) | (simp only [jM.len_sI, jM.len_sL, jM.len_sR, jM.len_fI, jM.len_fL, jM.len_fR]; omega) | (simp [jM.len_nw, jM.len_sI, jM.len_sL, jM.len_sR, jM.len_fI, jM.len_fL, jM.len_fR, *]; omega)) (by first | omega | (exact R.r _ _) | (simp only [jM.len_sI, jM.len_sL, jM.len_sR, jM.len_fI, jM.len_fL, jM.len_fR]; omega) | (simp [jM.len_nw, jM.len_sI, jM.len_sL, jM.len_sR, jM.len_fI, jM.len_fL, jM.len_fR, *]; omega)) ?_
                                               exact mQ.of (by unfold sp_usual; (repeat (first | rw [if_pos (by omega)] | rw [if_neg (by omega)]))))
                                          · first
                                            | (exfalso; omega)
                                            | (first | refine J.aload_n (pc' := 77) rfl rfl rfl ?_ | refine J.aload_nN (pc' := 77) rfl rfl rfl ?_
                                               refine J.iload_n (pc' := 78) rfl rfl rfl ?_
                                               refine J.iload_n (pc' := 79) rfl rfl rfl ?_
                                               refine J.iload_n (pc' := 80) rfl rfl rfl ?_
                                               refine J.callV (pc' := 83) (t := 16) rfl MX12_lowOf ml_X12_179 iv_X12_lowOf (by decide) ⟨_, rfl, rfl⟩ B.1 (cm_lowOf B R (by omega) (by omega) (by omega)) rfl rfl (Nat.le_of_ble_eq_true rfl) (by first | omega | (exact R.r _ _) | (simp only [jM.len_sI, jM.len_sL, jM.len_sR, jM.len_fI, jM.len_fL, jM.len_fR]; omega) | (simp [jM.len_nw, jM.len_sI, jM.len_sL, jM.len_sR, jM.len_fI, jM.len_fL, jM.len_fR, *]; omega)) (by first | omega | (exact R.r _ _) | (simp only [jM.len_sI, jM.len_sL, jM.len_sR, jM.len_fI, jM.len_fL, jM.len_fR]; omega) | (simp [jM.len_nw, jM.len_sI, jM.len_sL, jM.len_sR, jM.len_fI, jM.len_fL, jM.len_fR, *]; omega)) (by first | omega | (exact R.r _ _) | (simp only [jM.len_sI, jM.len_sL, jM.len_sR, jM.len_fI, jM.len_fL, jM.len_fR]; omega) | (simp [jM.len_nw, jM.len_sI, jM.len_sL, jM.len_sR, jM.len_fI, jM.len_fL, jM.len_fR, *]; omega)) rfl rfl ?_ ?_
                                               · exact fun _ _ h => h
                                               rintro _ _ ⟨rfl, rfl⟩
                                               refine J.goto (tgt := 93) rfl rfl ?_
                                               refine J.iret rfl rfl (by first | omega | (exact R.r _ _) | (simp only [jM.len_sI, jM.len_sL, jM.len_sR, jM.len_fI, jM.len_fL, jM.len_fR]; omega) | (simp [jM.len_nw, jM.len_sI, jM.len_sL, jM.len_sR, jM.len_fI, jM.len_fL, jM.len_fR, *]; omega)) (by first | omega | (exact R.r _ _) | (simp only [jM.len_sI, jM.len_sL, jM.len_sR, jM.len_fI, jM.len_fL, jM.len_fR]; omega) | (simp [jM.len_nw, jM.len_sI, jM.len_sL, jM.len_sR, jM.len_fI, jM.len_fL, jM.len_fR, *]; omega)) ?_
                                               exact mQ.of (by unfold sp_usual; (repeat (first | rw [if_pos (by omega)] | rw [if_neg (by omega)])))))
                                     · first
                                       | (exfalso; omega)
                                       | (refine J.iconst (pc' := 70) rfl rfl ?_
                                          refine J.iret rfl rfl (by first | omega | (exact R.r _ _) | (simp only [jM.len_sI, jM.len_sL, jM.len_sR, jM.len_fI, jM.len_fL, jM.len_fR]; omega) | (simp [jM.len_nw, jM.len_sI, jM.len_sL, jM.len_sR, jM.len_fI, jM.len_fL, jM.len_fR, *]; omega)) (by first | omega | (exact R.r _ _) | (simp only [jM.len_sI, jM.len_sL, jM.len_sR, jM.len_fI, jM.len_fL, jM.len_fR]; omega) | (simp [jM.len_nw, jM.len_sI, jM.len_sL, jM.len_sR, jM.len_fI, jM.len_fL, jM.len_fR, *]; omega)) ?_
                                          exact mQ.of (by unfold sp_usual; (repeat (first | rw [if_pos (by omega)] | rw [if_neg (by omega)])))))
                                · first
                                  | (exfalso; omega)
                                  | (refine J.iconst (pc' := 58) rfl rfl ?_
                                     refine J.goto (tgt := 62) rfl rfl ?_
                                     refine J.iconst (pc' := 63) rfl rfl ?_
                                     first | refine J.callV (pc' := 66) (t := 16) rfl MX12_may ml_X12_161 iv_X12_may (by decide) ⟨_, rfl, rfl⟩ B.1 (cm_may1 B h0) rfl rfl (Nat.le_of_ble_eq_true rfl) (by first | omega | (exact R.r _ _) | (simp only [jM.len_sI, jM.len_sL, jM.len_sR, jM.len_fI, jM.len_fL, jM.len_fR]; omega) | (simp [jM.len_nw, jM.len_sI, jM.len_sL, jM.len_sR, jM.len_fI, jM.len_fL, jM.len_fR, *]; omega)) (by first | omega | (exact R.r _ _) | (simp only [jM.len_sI, jM.len_sL, jM.len_sR, jM.len_fI, jM.len_fL, jM.len_fR]; omega) | (simp [jM.len_nw, jM.len_sI, jM.len_sL, jM.len_sR, jM.len_fI, jM.len_fL, jM.len_fR, *]; omega)) (by first | omega | (exact R.r _ _) | (simp only [jM.len_sI, jM.len_sL, jM.len_sR, jM.len_fI, jM.len_fL, jM.len_fR]; omega) | (simp [jM.len_nw, jM.len_sI, jM.len_sL, jM.len_sR, jM.len_fI, jM.len_fL, jM.len_fR, *]; omega)) rfl rfl ?_ ?_ | refine J.callV (pc' := 66) (t := 16) rfl MX12_may ml_X12_161 iv_X12_may (by decide) ⟨_, rfl, rfl⟩ B.1 (cm_may0 B h0 (by omega)) rfl rfl (Nat.le_of_ble_eq_true rfl) (by first | omega | (exact R.r _ _) | (simp only [jM.len_sI, jM.len_sL, jM.len_sR, jM.len_fI, jM.len_fL, jM.len_fR]; omega) | (simp [jM.len_nw, jM.len_sI, jM.len_sL, jM.len_sR, jM.len_fI, jM.len_fL, jM.len_fR, *]; omega)) (by first | omega | (exact R.r _ _) | (simp only [jM.len_sI, jM.len_sL, jM.len_sR, jM.len_fI, jM.len_fL, jM.len_fR]; omega) | (simp [jM.len_nw, jM.len_sI, jM.len_sL, jM.len_sR, jM.len_fI, jM.len_fL, jM.len_fR, *]; omega)) (by first | omega | (exact R.r _ _) | (simp only [jM.len_sI, jM.len_sL, jM.len_sR, jM.len_fI, jM.len_fL, jM.len_fR]; omega) | (simp [jM.len_nw, jM.len_sI, jM.len_sL, jM.len_sR, jM.len_fI, jM.len_fL, jM.len_fR, *]; omega)) rfl rfl ?_ ?_
                                     · exact fun _ _ h => h
                                     rintro _ _ ⟨rfl, rfl⟩
                                     refine J.if_ne (tgt := 71) (pc' := 69) rfl rfl rfl (by first | omega | (exact R.r _ _) | (simp only [jM.len_sI, jM.len_sL, jM.len_sR, jM.len_fI, jM.len_fL, jM.len_fR]; omega) | (simp [jM.len_nw, jM.len_sI, jM.len_sL, jM.len_sR, jM.len_fI, jM.len_fL, jM.len_fR, *]; omega)) (fun c66 => ?_) (fun c66 => ?_)
                                     · first
                                       | (exfalso; omega)
                                       | (refine J.iload (pc' := 73) rfl rfl rfl ?_
                                          refine J.if_ne (tgt := 86) (pc' := 76) rfl rfl rfl (by first | omega | (exact R.r _ _) | (simp only [jM.len_sI, jM.len_sL, jM.len_sR, jM.len_fI, jM.len_fL, jM.len_fR]; omega) | (simp [jM.len_nw, jM.len_sI, jM.len_sL, jM.len_sR, jM.len_fI, jM.len_fL, jM.len_fR, *]; omega)) (fun c73 => ?_) (fun c73 => ?_)
                                          · first
                                            | (exfalso; omega)
                                            | (first | refine J.aload_n (pc' := 87) rfl rfl rfl ?_ | refine J.aload_nN (pc' := 87) rfl rfl rfl ?_
                                               refine J.iload_n (pc' := 88) rfl rfl rfl ?_
                                               refine J.iload_n (pc' := 89) rfl rfl rfl ?_
                                               refine J.iload_n (pc' := 90) rfl rfl rfl ?_
                                               refine J.callV (pc' := 93) (t := 16) rfl MX12_highOf ml_X12_182 iv_X12_highOf (by decide) ⟨_, rfl, rfl⟩ B.1 (cm_highOf B R (by omega) (by omega) (by omega)) rfl rfl (Nat.le_of_ble_eq_true rfl) (by first | omega | (exact R.r _ _) | (simp only [jM.len_sI, jM.len_sL, jM.len_sR, jM.len_fI, jM.len_fL, jM.len_fR]; omega) | (simp [jM.len_nw, jM.len_sI, jM.len_sL, jM.len_sR, jM.len_fI, jM.len_fL, jM.len_fR, *]; omega)) (by first | omega | (exact R.r _ _) | (simp only [jM.len_sI, jM.len_sL, jM.len_sR, jM.len_fI, jM.len_fL, jM.len_fR]; omega) | (simp [jM.len_nw, jM.len_sI, jM.len_sL, jM.len_sR, jM.len_fI, jM.len_fL, jM.len_fR, *]; omega)) (by first | omega | (exact R.r _ _) | (simp only [jM.len_sI, jM.len_sL, jM.len_sR, jM.len_fI, jM.len_fL, jM.len_fR]; omega) | (simp [jM.len_nw, jM.len_sI, jM.len_sL, jM.len_sR, jM.len_fI, jM.len_fL, jM.len_fR, *]; omega)) rfl rfl ?_ ?_
                                               · exact fun _ _ h => h
                                               rintro _ _ ⟨rfl, rfl⟩
                                               refine J.iret rfl rfl (by first | omega | (exact R.r _ _) | (simp only [jM.len_sI, jM.len_sL, jM.len_sR, jM.len_fI, jM.len_fL, jM.len_fR]; omega) | (simp [jM.len_nw, jM.len_sI, jM.len_sL, jM.len_sR, jM.len_fI, jM.len_fL, jM.len_fR, *]; omega)) (by first | omega | (exact R.r _ _) | (simp only [jM.len_sI, jM.len_sL, jM.len_sR, jM.len_fI, jM.len_fL, jM.len_fR]; omega) | (simp [jM.len_nw, jM.len_sI, jM.len_sL, jM.len_sR, jM.len_fI, jM.len_fL, jM.len_fR, *]; omega)) ?_
                                               exact mQ.of (by unfold sp_usual; (repeat (first | rw [if_pos (by omega)] | rw [if_neg (by omega)]))))
                                          · first
                                            | (exfalso; omega)
                                            | (first | refine J.aload_n (pc' := 77) rfl rfl rfl ?_ | refine J.aload_nN (pc' := 77) rfl rfl rfl ?_
                                               refine J.iload_n (pc' := 78) rfl rfl rfl ?_
                                               refine J.iload_n (pc' := 79) rfl rfl rfl ?_
                                               refine J.iload_n (pc' := 80) rfl rfl rfl ?_
                                               refine J.callV (pc' := 83) (t := 16) rfl MX12_lowOf ml_X12_179 iv_X12_lowOf (by decide) ⟨_, rfl, rfl⟩ B.1 (cm_lowOf B R (by omega) (by omega) (by omega)) rfl rfl (Nat.le_of_ble_eq_true rfl) (by first | omega | (exact R.r _ _) | (simp only [jM.len_sI, jM.len_sL, jM.len_sR, jM.len_fI, jM.len_fL, jM.len_fR]; omega) | (simp [jM.len_nw, jM.len_sI, jM.len_sL, jM.len_sR, jM.len_fI, jM.len_fL, jM.len_fR, *]; omega)) (by first | omega | (exact R.r _ _) | (simp only [jM.len_sI, jM.len_sL, jM.len_sR, jM.len_fI, jM.len_fL, jM.len_fR]; omega) | (simp [jM.len_nw, jM.len_sI, jM.len_sL, jM.len_sR, jM.len_fI, jM.len_fL, jM.len_fR, *]; omega)) (by first | omega | (exact R.r _ _) | (simp only [jM.len_sI, jM.len_sL, jM.len_sR, jM.len_fI, jM.len_fL, jM.len_fR]; omega) | (simp [jM.len_nw, jM.len_sI, jM.len_sL, jM.len_sR, jM.len_fI, jM.len_fL, jM.len_fR, *]; omega)) rfl rfl ?_ ?_
                                               · exact fun _ _ h => h
                                               rintro _ _ ⟨rfl, rfl⟩
                                               refine J.goto (tgt := 93) rfl rfl ?_
                                               refine J.iret rfl rfl (by first | omega | (exact R.r _ _) | (simp only [jM.len_sI, jM.len_sL, jM.len_sR, jM.len_fI, jM.len_fL, jM.len_fR]; omega) | (simp [jM.len_nw, jM.len_sI, jM.len_sL, jM.len_sR, jM.len_fI, jM.len_fL, jM.len_fR, *]; omega)) (by first | omega | (exact R.r _ _) | (simp only [jM.len_sI, jM.len_sL, jM.len_sR, jM.len_fI, jM.len_fL, jM.len_fR]; omega) | (simp [jM.len_nw, jM.len_sI, jM.len_sL, jM.len_sR, jM.len_fI, jM.len_fL, jM.len_fR, *]; omega)) ?_
                                               exact mQ.of (by unfold sp_usual; (repeat (first | rw [if_pos (by omega)] | rw [if_neg (by omega)])))))
                                     · first
                                       | (exfalso; omega)
                                       | (refine J.iconst (pc' := 70) rfl rfl ?_
                                          refine J.iret rfl rfl (by first | omega | (exact R.r _ _) | (simp only [jM.len_sI, jM.len_sL, jM.len_sR, jM.len_fI, jM.len_fL, jM.len_fR]; omega) | (simp [jM.len_nw, jM.len_sI, jM.len_sL, jM.len_sR, jM.len_fI, jM.len_fL, jM.len_fR, *]; omega)) (by first | omega | (exact R.r _ _) | (simp only [jM.len_sI, jM.len_sL, jM.len_sR, jM.len_fI, jM.len_fL, jM.len_fR]; omega) | (simp [jM.len_nw, jM.len_sI, jM.len_sL, jM.len_sR, jM.len_fI, jM.len_fL, jM.len_fR, *]; omega)) ?_
                                          exact mQ.of (by unfold sp_usual; (repeat (first | rw [if_pos (by omega)] | rw [if_neg (by omega)])))))))))
            · first
              | (exfalso; omega)
              | (refine J.iload_n (pc' := 19) rfl rfl rfl ?_
                 first | refine J.aload_n (pc' := 20) rfl rfl rfl ?_ | refine J.aload_nN (pc' := 20) rfl rfl rfl ?_
                 refine J.mgI (pc' := 23) (j := 1) B rfl fl_X12_154 rfl rfl rfl ?_
                 refine J.icmp_ge (tgt := 30) (pc' := 26) rfl rfl rfl (by first | omega | (exact R.r _ _) | (simp only [jM.len_sI, jM.len_sL, jM.len_sR, jM.len_fI, jM.len_fL, jM.len_fR]; omega) | (simp [jM.len_nw, jM.len_sI, jM.len_sL, jM.len_sR, jM.len_fI, jM.len_fL, jM.len_fR, *]; omega)) (by first | omega | (exact R.r _ _) | (simp only [jM.len_sI, jM.len_sL, jM.len_sR, jM.len_fI, jM.len_fL, jM.len_fR]; omega) | (simp [jM.len_nw, jM.len_sI, jM.len_sL, jM.len_sR, jM.len_fI, jM.len_fL, jM.len_fR, *]; omega)) (fun c23 => ?_) (fun c23 => ?_)
                 · first
                   | (exfalso; omega)
                   | (refine J.iconst (pc' := 31) rfl rfl ?_
                      refine J.iconst (pc' := 32) rfl rfl ?_
                      first | refine J.callV (pc' := 35) (t := 16) rfl MX12_may ml_X12_161 iv_X12_may (by decide) ⟨_, rfl, rfl⟩ B.1 (cm_may1 B h0) rfl rfl (Nat.le_of_ble_eq_true rfl) (by first | omega | (exact R.r _ _) | (simp only [jM.len_sI, jM.len_sL, jM.len_sR, jM.len_fI, jM.len_fL, jM.len_fR]; omega) | (simp [jM.len_nw, jM.len_sI, jM.len_sL, jM.len_sR, jM.len_fI, jM.len_fL, jM.len_fR, *]; omega)) (by first | omega | (exact R.r _ _) | (simp only [jM.len_sI, jM.len_sL, jM.len_sR, jM.len_fI, jM.len_fL, jM.len_fR]; omega) | (simp [jM.len_nw, jM.len_sI, jM.len_sL, jM.len_sR, jM.len_fI, jM.len_fL, jM.len_fR, *]; omega)) (by first | omega | (exact R.r _ _) | (simp only [jM.len_sI, jM.len_sL, jM.len_sR, jM.len_fI, jM.len_fL, jM.len_fR]; omega) | (simp [jM.len_nw, jM.len_sI, jM.len_sL, jM.len_sR, jM.len_fI, jM.len_fL, jM.len_fR, *]; omega)) rfl rfl ?_ ?_ | refine J.callV (pc' := 35) (t := 16) rfl MX12_may ml_X12_161 iv_X12_may (by decide) ⟨_, rfl, rfl⟩ B.1 (cm_may0 B h0 (by omega)) rfl rfl (Nat.le_of_ble_eq_true rfl) (by first | omega | (exact R.r _ _) | (simp only [jM.len_sI, jM.len_sL, jM.len_sR, jM.len_fI, jM.len_fL, jM.len_fR]; omega) | (simp [jM.len_nw, jM.len_sI, jM.len_sL, jM.len_sR, jM.len_fI, jM.len_fL, jM.len_fR, *]; omega)) (by first | omega | (exact R.r _ _) | (simp only [jM.len_sI, jM.len_sL, jM.len_sR, jM.len_fI, jM.len_fL, jM.len_fR]; omega) | (simp [jM.len_nw, jM.len_sI, jM.len_sL, jM.len_sR, jM.len_fI, jM.len_fL, jM.len_fR, *]; omega)) (by first | omega | (exact R.r _ _) | (simp only [jM.len_sI, jM.len_sL, jM.len_sR, jM.len_fI, jM.len_fL, jM.len_fR]; omega) | (simp [jM.len_nw, jM.len_sI, jM.len_sL, jM.len_sR, jM.len_fI, jM.len_fL, jM.len_fR, *]; omega)) rfl rfl ?_ ?_
                      · exact fun _ _ h => h
                      rintro _ _ ⟨rfl, rfl⟩
                      refine J.if_eq (tgt := 69) (pc' := 38) rfl rfl rfl (by first | omega | (exact R.r _ _) | (simp only [jM.len_sI, jM.len_sL, jM.len_sR, jM.len_fI, jM.len_fL, jM.len_fR]; omega) | (simp [jM.len_nw, jM.len_sI, jM.len_sL, jM.len_sR, jM.len_fI, jM.len_fL, jM.len_fR, *]; omega)) (fun c35 => ?_) (fun c35 => ?_)
                      · first
                        | (exfalso; omega)
                        | (refine J.iconst (pc' := 70) rfl rfl ?_
                           refine J.iret rfl rfl (by first | omega | (exact R.r _ _) | (simp only [jM.len_sI, jM.len_sL, jM.len_sR, jM.len_fI, jM.len_fL, jM.len_fR]; omega) | (simp [jM.len_nw, jM.len_sI, jM.len_sL, jM.len_sR, jM.len_fI, jM.len_fL, jM.len_fR, *]; omega)) (by first | omega | (exact R.r _ _) | (simp only [jM.len_sI, jM.len_sL, jM.len_sR, jM.len_fI, jM.len_fL, jM.len_fR]; omega) | (simp [jM.len_nw, jM.len_sI, jM.len_sL, jM.len_sR, jM.len_fI, jM.len_fL, jM.len_fR, *]; omega)) ?_
                           exact mQ.of (by unfold sp_usual; (repeat (first | rw [if_pos (by omega)] | rw [if_neg (by omega)]))))
                      · first
                        | (exfalso; omega)
                        | (first | refine J.aload_n (pc' := 39) rfl rfl rfl ?_ | refine J.aload_nN (pc' := 39) rfl rfl rfl ?_
                           refine J.iload_n (pc' := 40) rfl rfl rfl ?_
                           refine J.callS (pc' := 43) rfl MX12_isMetal ml_X12_157 is_X12_isMetal (cm_isMetal hm) rfl rfl (Nat.le_of_ble_eq_true rfl) (by first | omega | (exact R.r _ _) | (simp only [jM.len_sI, jM.len_sL, jM.len_sR, jM.len_fI, jM.len_fL, jM.len_fR]; omega) | (simp [jM.len_nw, jM.len_sI, jM.len_sL, jM.len_sR, jM.len_fI, jM.len_fL, jM.len_fR, *]; omega)) (by first | omega | (exact R.r _ _) | (simp only [jM.len_sI, jM.len_sL, jM.len_sR, jM.len_fI, jM.len_fL, jM.len_fR]; omega) | (simp [jM.len_nw, jM.len_sI, jM.len_sL, jM.len_sR, jM.len_fI, jM.len_fL, jM.len_fR, *]; omega)) (by first | omega | (exact R.r _ _) | (simp only [jM.len_sI, jM.len_sL, jM.len_sR, jM.len_fI, jM.len_fL, jM.len_fR]; omega) | (simp [jM.len_nw, jM.len_sI, jM.len_sL, jM.len_sR, jM.len_fI, jM.len_fL, jM.len_fR, *]; omega)) rfl rfl ?_ ?_
                           · exact fun _ _ h => h
                           rintro _ _ ⟨b, hb1, rfl, rfl⟩
                           refine J.if_eq (tgt := 61) (pc' := 46) rfl rfl rfl (by first | omega | (exact R.r _ _) | (simp only [jM.len_sI, jM.len_sL, jM.len_sR, jM.len_fI, jM.len_fL, jM.len_fR]; omega) | (simp [jM.len_nw, jM.len_sI, jM.len_sL, jM.len_sR, jM.len_fI, jM.len_fL, jM.len_fR, *]; omega)) (fun c43 => ?_) (fun c43 => ?_)
                           · first
                             | (exfalso; omega)
                             | (refine J.iconst (pc' := 62) rfl rfl ?_
                                refine J.iconst (pc' := 63) rfl rfl ?_
                                first | refine J.callV (pc' := 66) (t := 16) rfl MX12_may ml_X12_161 iv_X12_may (by decide) ⟨_, rfl, rfl⟩ B.1 (cm_may1 B h0) rfl rfl (Nat.le_of_ble_eq_true rfl) (by first | omega | (exact R.r _ _) | (simp only [jM.len_sI, jM.len_sL, jM.len_sR, jM.len_fI, jM.len_fL, jM.len_fR]; omega) | (simp [jM.len_nw, jM.len_sI, jM.len_sL, jM.len_sR, jM.len_fI, jM.len_fL, jM.len_fR, *]; omega)) (by first | omega | (exact R.r _ _) | (simp only [jM.len_sI, jM.len_sL, jM.len_sR, jM.len_fI, jM.len_fL, jM.len_fR]; omega) | (simp [jM.len_nw, jM.len_sI, jM.len_sL, jM.len_sR, jM.len_fI, jM.len_fL, jM.len_fR, *]; omega)) (by first | omega | (exact R.r _ _) | (simp only [jM.len_sI, jM.len_sL, jM.len_sR, jM.len_fI, jM.len_fL, jM.len_fR]; omega) | (simp [jM.len_nw, jM.len_sI, jM.len_sL, jM.len_sR, jM.len_fI, jM.len_fL, jM.len_fR, *]; omega)) rfl rfl ?_ ?_ | refine J.callV (pc' := 66) (t := 16) rfl MX12_may ml_X12_161 iv_X12_may (by decide) ⟨_, rfl, rfl⟩ B.1 (cm_may0 B h0 (by omega)) rfl rfl (Nat.le_of_ble_eq_true rfl) (by first | omega | (exact R.r _ _) | (simp only [jM.len_sI, jM.len_sL, jM.len_sR, jM.len_fI, jM.len_fL, jM.len_fR]; omega) | (simp [jM.len_nw, jM.len_sI, jM.len_sL, jM.len_sR, jM.len_fI, jM.len_fL, jM.len_fR, *]; omega)) (by first | omega | (exact R.r _ _) | (simp only [jM.len_sI, jM.len_sL, jM.len_sR, jM.len_fI, jM.len_fL, jM.len_fR]; omega) | (simp [jM.len_nw, jM.len_sI, jM.len_sL, jM.len_sR, jM.len_fI, jM.len_fL, jM.len_fR, *]; omega)) (by first | omega | (exact R.r _ _) | (simp only [jM.len_sI, jM.len_sL, jM.len_sR, jM.len_fI, jM.len_fL, jM.len_fR]; omega) | (simp [jM.len_nw, jM.len_sI, jM.len_sL, jM.len_sR, jM.len_fI, jM.len_fL, jM.len_fR, *]; omega)) rfl rfl ?_ ?_
                                · exact fun _ _ h => h
                                rintro _ _ ⟨rfl, rfl⟩
                                refine J.if_ne (tgt := 71) (pc' := 69) rfl rfl rfl (by first | omega | (exact R.r _ _) | (simp only [jM.len_sI, jM.len_sL, jM.len_sR, jM.len_fI, jM.len_fL, jM.len_fR]; omega) | (simp [jM.len_nw, jM.len_sI, jM.len_sL, jM.len_sR, jM.len_fI, jM.len_fL, jM.len_fR, *]; omega)) (fun c66 => ?_) (fun c66 => ?_)
                                · first
                                  | (exfalso; omega)
                                  | (refine J.iload (pc' := 73) rfl rfl rfl ?_
                                     refine J.if_ne (tgt := 86) (pc' := 76) rfl rfl rfl (by first | omega | (exact R.r _ _) | (simp only [jM.len_sI, jM.len_sL, jM.len_sR, jM.len_fI, jM.len_fL, jM.len_fR]; omega) | (simp [jM.len_nw, jM.len_sI, jM.len_sL, jM.len_sR, jM.len_fI, jM.len_fL, jM.len_fR, *]; omega)) (fun c73 => ?_) (fun c73 => ?_)
                                     · first
                                       | (exfalso; omega)
                                       | (first | refine J.aload_n (pc' := 87) rfl rfl rfl ?_ | refine J.aload_nN (pc' := 87) rfl rfl rfl ?_
                                          refine J.iload_n (pc' := 88) rfl rfl rfl ?_
                                          refine J.iload_n (pc' := 89) rfl rfl rfl ?_
                                          refine J.iload_n (pc' := 90) rfl rfl rfl ?_
                                          refine J.callV (pc' := 93) (t := 16) rfl MX12_highOf ml_X12_182 iv_X12_highOf (by decide) ⟨_, rfl, rfl⟩ B.1 (cm_highOf B R (by omega) (by omega) (by omega)) rfl rfl (Nat.le_of_ble_eq_true rfl) (by first | omega | (exact R.r _ _) | (simp only [jM.len_sI, jM.len_sL, jM.len_sR, jM.len_fI, jM.len_fL, jM.len_fR]; omega) | (simp [jM.len_nw, jM.len_sI, jM.len_sL, jM.len_sR, jM.len_fI, jM.len_fL, jM.len_fR, *]; omega)) (by first | omega | (exact R.r _ _) | (simp only [jM.len_sI, jM.len_sL, jM.len_sR, jM.len_fI, jM.len_fL, jM.len_fR]; omega) | (simp [jM.len_nw, jM.len_sI, jM.len_sL, jM.len_sR, jM.len_fI, jM.len_fL, jM.len_fR, *]; omega)) (by first | omega | (exact R.r _ _) | (simp only [jM.len_sI, jM.len_sL, jM.len_sR, jM.len_fI, jM.len_fL, jM.len_fR]; omega) | (simp [jM.len_nw, jM.len_sI, jM.len_sL, jM.len_sR, jM.len_fI, jM.len_fL, jM.len_fR, *]; omega)) rfl rfl ?_ ?_
                                          · exact fun _ _ h => h
                                          rintro _ _ ⟨rfl, rfl⟩
                                          refine J.iret rfl rfl (by first | omega | (exact R.r _ _) | (simp only [jM.len_sI, jM.len_sL, jM.len_sR, jM.len_fI, jM.len_fL, jM.len_fR]; omega) | (simp [jM.len_nw, jM.len_sI, jM.len_sL, jM.len_sR, jM.len_fI, jM.len_fL, jM.len_fR, *]; omega)) (by first | omega | (exact R.r _ _) | (simp only [jM.len_sI, jM.len_sL, jM.len_sR, jM.len_fI, jM.len_fL, jM.len_fR]; omega) | (simp [jM.len_nw, jM.len_sI, jM.len_sL, jM.len_sR, jM.len_fI, jM.len_fL, jM.len_fR, *]; omega)) ?_
                                          exact mQ.of (by unfold sp_usual; (repeat (first | rw [if_pos (by omega)] | rw [if_neg (by omega)]))))
                                     · first
                                       | (exfalso; omega)
                                       | (first | refine J.aload_n (pc' := 77) rfl rfl rfl ?_ | refine J.aload_nN (pc' := 77) rfl rfl rfl ?_
                                          refine J.iload_n (pc' := 78) rfl rfl rfl ?_
                                          refine J.iload_n (pc' := 79) rfl rfl rfl ?_
                                          refine J.iload_n (pc' := 80) rfl rfl rfl ?_
                                          refine J.callV (pc' := 83) (t := 16) rfl MX12_lowOf ml_X12_179 iv_X12_lowOf (by decide) ⟨_, rfl, rfl⟩ B.1 (cm_lowOf B R (by omega) (by omega) (by omega)) rfl rfl (Nat.le_of_ble_eq_true rfl) (by first | omega | (exact R.r _ _) | (simp only [jM.len_sI, jM.len_sL, jM.len_sR, jM.len_fI, jM.len_fL, jM.len_fR]; omega) | (simp [jM.len_nw, jM.len_sI, jM.len_sL, jM.len_sR, jM.len_fI, jM.len_fL, jM.len_fR, *]; omega)) (by first | omega | (exact R.r _ _) | (simp only [jM.len_sI, jM.len_sL, jM.len_sR, jM.len_fI, jM.len_fL, jM.len_fR]; omega) | (simp [jM.len_nw, jM.len_sI, jM.len_sL, jM.len_sR, jM.len_fI, jM.len_fL, jM.len_fR, *]; omega)) (by first | omega | (exact R.r _ _) | (simp only [jM.len_sI, jM.len_sL, jM.len_sR, jM.len_fI, jM.len_fL, jM.len_fR]; omega) | (simp [jM.len_nw, jM.len_sI, jM.len_sL, jM.len_sR, jM.len_fI, jM.len_fL, jM.len_fR, *]; omega)) rfl rfl ?_ ?_
                                          · exact fun _ _ h => h
                                          rintro _ _ ⟨rfl, rfl⟩
                                          refine J.goto (tgt := 93) rfl rfl ?_
                                          refine J.iret rfl rfl (by first | omega | (exact R.r _ _) | (simp only [jM.len_sI, jM.len_sL, jM.len_sR, jM.len_fI, jM.len_fL, jM.len_fR]; omega) | (simp [jM.len_nw, jM.len_sI, jM.len_sL, jM.len_sR, jM.len_fI, jM.len_fL, jM.len_fR, *]; omega)) (by first | omega | (exact R.r _ _) | (simp only [jM.len_sI, jM.len_sL, jM.len_sR, jM.len_fI, jM.len_fL, jM.len_fR]; omega) | (simp [jM.len_nw, jM.len_sI, jM.len_sL, jM.len_sR, jM.len_fI, jM.len_fL, jM.len_fR, *]; omega)) ?_
                                          exact mQ.of (by unfold sp_usual; (repeat (first | rw [if_pos (by omega)] | rw [if_neg (by omega)])))))
                                · first
                                  | (exfalso; omega)
                                  | (refine J.iconst (pc' := 70) rfl rfl ?_
                                     refine J.iret rfl rfl (by first | omega | (exact R.r _ _) | (simp only [jM.len_sI, jM.len_sL, jM.len_sR, jM.len_fI, jM.len_fL, jM.len_fR]; omega) | (simp [jM.len_nw, jM.len_sI, jM.len_sL, jM.len_sR, jM.len_fI, jM.len_fL, jM.len_fR, *]; omega)) (by first | omega | (exact R.r _ _) | (simp only [jM.len_sI, jM.len_sL, jM.len_sR, jM.len_fI, jM.len_fL, jM.len_fR]; omega) | (simp [jM.len_nw, jM.len_sI, jM.len_sL, jM.len_sR, jM.len_fI, jM.len_fL, jM.len_fR, *]; omega)) ?_
                                     exact mQ.of (by unfold sp_usual; (repeat (first | rw [if_pos (by omega)] | rw [if_neg (by omega)])))))
                           · first
                             | (exfalso; omega)
                             | (refine J.iload (pc' := 48) rfl rfl rfl ?_
                                refine J.if_eq (tgt := 57) (pc' := 51) rfl rfl rfl (by first | omega | (exact R.r _ _) | (simp only [jM.len_sI, jM.len_sL, jM.len_sR, jM.len_fI, jM.len_fL, jM.len_fR]; omega) | (simp [jM.len_nw, jM.len_sI, jM.len_sL, jM.len_sR, jM.len_fI, jM.len_fL, jM.len_fR, *]; omega)) (fun c48 => ?_) (fun c48 => ?_)
                                · first
                                  | (exfalso; omega)
                                  | (refine J.iconst (pc' := 58) rfl rfl ?_
                                     refine J.goto (tgt := 62) rfl rfl ?_
                                     refine J.iconst (pc' := 63) rfl rfl ?_
                                     first | refine J.callV (pc' := 66) (t := 16) rfl MX12_may ml_X12_161 iv_X12_may (by decide) ⟨_, rfl, rfl⟩ B.1 (cm_may1 B h0) rfl rfl (Nat.le_of_ble_eq_true rfl) (by first | omega | (exact R.r _ _) | (simp only [jM.len_sI, jM.len_sL, jM.len_sR, jM.len_fI, jM.len_fL, jM.len_fR]; omega) | (simp [jM.len_nw, jM.len_sI, jM.len_sL, jM.len_sR, jM.len_fI, jM.len_fL, jM.len_fR, *]; omega)) (by first | omega | (exact R.r _ _) | (simp only [jM.len_sI, jM.len_sL, jM.len_sR, jM.len_fI, jM.len_fL, jM.len_fR]; omega) | (simp [jM.len_nw, jM.len_sI, jM.len_sL, jM.len_sR, jM.len_fI, jM.len_fL, jM.len_fR, *]; omega)) (by first | omega | (exact R.r _ _) | (simp only [jM.len_sI, jM.len_sL, jM.len_sR, jM.len_fI, jM.len_fL, jM.len_fR]; omega) | (simp [jM.len_nw, jM.len_sI, jM.len_sL, jM.len_sR, jM.len_fI, jM.len_fL, jM.len_fR, *]; omega)) rfl rfl ?_ ?_ | refine J.callV (pc' := 66) (t := 16) rfl MX12_may ml_X12_161 iv_X12_may (by decide) ⟨_, rfl, rfl⟩ B.1 (cm_may0 B h0 (by omega)) rfl rfl (Nat.le_of_ble_eq_true rfl) (by first | omega | (exact R.r _ _) | (simp only [jM.len_sI, jM.len_sL, jM.len_sR, jM.len_fI, jM.len_fL, jM.len_fR]; omega) | (simp [jM.len_nw, jM.len_sI, jM.len_sL, jM.len_sR, jM.len_fI, jM.len_fL, jM.len_fR, *]; omega)) (by first | omega | (exact R.r _ _) | (simp only [jM.len_sI, jM.len_sL, jM.len_sR, jM.len_fI, jM.len_fL, jM.len_fR]; omega) | (simp [jM.len_nw, jM.len_sI, jM.len_sL, jM.len_sR, jM.len_fI, jM.len_fL, jM.len_fR, *]; omega)) (by first | omega | (exact R.r _ _) | (simp only [jM.len_sI, jM.len_sL, jM.len_sR, jM.len_fI, jM.len_fL, jM.len_fR]; omega) | (simp [jM.len_nw, jM.len_sI, jM.len_sL, jM.len_sR, jM.len_fI, jM.len_fL, jM.len_fR, *]; omega)) rfl rfl ?_ ?_
                                     · exact fun _ _ h => h
                                     rintro _ _ ⟨rfl, rfl⟩
                                     refine J.if_ne (tgt := 71) (pc' := 69) rfl rfl rfl (by first | omega | (exact R.r _ _) | (simp only [jM.len_sI, jM.len_sL, jM.len_sR, jM.len_fI, jM.len_fL, jM.len_fR]; omega) | (simp [jM.len_nw, jM.len_sI, jM.len_sL, jM.len_sR, jM.len_fI, jM.len_fL, jM.len_fR, *]; omega)) (fun c66 => ?_) (fun c66 => ?_)
                                     · first
                                       | (exfalso; omega)
                                       | (refine J.iload (pc' := 73) rfl rfl rfl ?_
                                          refine J.if_ne (tgt := 86) (pc' := 76) rfl rfl rfl (by first | omega | (exact R.r _ _) | (simp only [jM.len_sI, jM.len_sL, jM.len_sR, jM.len_fI, jM.len_fL, jM.len_fR]; omega) | (simp [jM.len_nw, jM.len_sI, jM.len_sL, jM.len_sR, jM.len_fI, jM.len_fL, jM.len_fR, *]; omega)) (fun c73 => ?_) (fun c73 => ?_)
                                          · first
                                            | (exfalso; omega)
                                            | (first | refine J.aload_n (pc' := 87) rfl rfl rfl ?_ | refine J.aload_nN (pc' := 87) rfl rfl rfl ?_
                                               refine J.iload_n (pc' := 88) rfl rfl rfl ?_
                                               refine J.iload_n (pc' := 89) rfl rfl rfl ?_
                                               refine J.iload_n (pc' := 90) rfl rfl rfl ?_
                                               refine J.callV (pc' := 93) (t := 16) rfl MX12_highOf ml_X12_182 iv_X12_highOf (by decide) ⟨_, rfl, rfl⟩ B.1 (cm_highOf B R (by omega) (by omega) (by omega)) rfl rfl (Nat.le_of_ble_eq_true rfl) (by first | omega | (exact R.r _ _) | (simp only [jM.len_sI, jM.len_sL, jM.len_sR, jM.len_fI, jM.len_fL, jM.len_fR]; omega) | (simp [jM.len_nw, jM.len_sI, jM.len_sL, jM.len_sR, jM.len_fI, jM.len_fL, jM.len_fR, *]; omega)) (by first | omega | (exact R.r _ _) | (simp only [jM.len_sI, jM.len_sL, jM.len_sR, jM.len_fI, jM.len_fL, jM.len_fR]; omega) | (simp [jM.len_nw, jM.len_sI, jM.len_sL, jM.len_sR, jM.len_fI, jM.len_fL, jM.len_fR, *]; omega)) (by first | omega | (exact R.r _ _) | (simp only [jM.len_sI, jM.len_sL, jM.len_sR, jM.len_fI, jM.len_fL, jM.len_fR]; omega) | (simp [jM.len_nw, jM.len_sI, jM.len_sL, jM.len_sR, jM.len_fI, jM.len_fL, jM.len_fR, *]; omega)) rfl rfl ?_ ?_
                                               · exact fun _ _ h => h
                                               rintro _ _ ⟨rfl, rfl⟩
                                               refine J.iret rfl rfl (by first | omega | (exact R.r _ _) | (simp only [jM.len_sI, jM.len_sL, jM.len_sR, jM.len_fI, jM.len_fL, jM.len_fR]; omega) | (simp [jM.len_nw, jM.len_sI, jM.len_sL, jM.len_sR, jM.len_fI, jM.len_fL, jM.len_fR, *]; omega)) (by first | omega | (exact R.r _ _) | (simp only [jM.len_sI, jM.len_sL, jM.len_sR, jM.len_fI, jM.len_fL, jM.len_fR]; omega) | (simp [jM.len_nw, jM.len_sI, jM.len_sL, jM.len_sR, jM.len_fI, jM.len_fL, jM.len_fR, *]; omega)) ?_
                                               exact mQ.of (by unfold sp_usual; (repeat (first | rw [if_pos (by omega)] | rw [if_neg (by omega)]))))
                                          · first
                                            | (exfalso; omega)
                                            | (first | refine J.aload_n (pc' := 77) rfl rfl rfl ?_ | refine J.aload_nN (pc' := 77) rfl rfl rfl ?_
                                               refine J.iload_n (pc' := 78) rfl rfl rfl ?_
                                               refine J.iload_n (pc' := 79) rfl rfl rfl ?_
                                               refine J.iload_n (pc' := 80) rfl rfl rfl ?_
                                               refine J.callV (pc' := 83) (t := 16) rfl MX12_lowOf ml_X12_179 iv_X12_lowOf (by decide) ⟨_, rfl, rfl⟩ B.1 (cm_lowOf B R (by omega) (by omega) (by omega)) rfl rfl (Nat.le_of_ble_eq_true rfl) (by first | omega | (exact R.r _ _) | (simp only [jM.len_sI, jM.len_sL, jM.len_sR, jM.len_fI, jM.len_fL, jM.len_fR]; omega) | (simp [jM.len_nw, jM.len_sI, jM.len_sL, jM.len_sR, jM.len_fI, jM.len_fL, jM.len_fR, *]; omega)) (by first | omega | (exact R.r _ _) | (simp only [jM.len_sI, jM.len_sL, jM.len_sR, jM.len_fI, jM.len_fL, jM.len_fR]; omega) | (simp [jM.len_nw, jM.len_sI, jM.len_sL, jM.len_sR, jM.len_fI, jM.len_fL, jM.len_fR, *]; omega)) (by first | omega | (exact R.r _ _) | (simp only [jM.len_sI, jM.len_sL, jM.len_sR, jM.len_fI, jM.len_fL, jM.len_fR]; omega) | (simp [jM.len_nw, jM.len_sI, jM.len_sL, jM.len_sR, jM.len_fI, jM.len_fL, jM.len_fR, *]; omega)) rfl rfl ?_ ?_
                                               · exact fun _ _ h => h
                                               rintro _ _ ⟨rfl, rfl⟩
                                               refine J.goto (tgt := 93) rfl rfl ?_
                                               refine J.iret rfl rfl (by first | omega | (exact R.r _ _) | (simp only [jM.len_sI, jM.len_sL, jM.len_sR, jM.len_fI, jM.len_fL, jM.len_fR]; omega) | (simp [jM.len_nw, jM.len_sI, jM.len_sL, jM.len_sR, jM.len_fI, jM.len_fL, jM.len_fR, *]; omega)) (by first | omega | (exact R.r _ _) | (simp only [jM.len_sI, jM.len_sL, jM.len_sR, jM.len_fI, jM.len_fL, jM.len_fR]; omega) | (simp [jM.len_nw, jM.len_sI, jM.len_sL, jM.len_sR, jM.len_fI, jM.len_fL, jM.len_fR, *]; omega)) ?_
                                               exact mQ.of (by unfold sp_usual; (repeat (first | rw [if_pos (by omega)] | rw [if_neg (by omega)])))))
                                     · first
                                       | (exfalso; omega)
                                       | (refine J.iconst (pc' := 70) rfl rfl ?_
                                          refine J.iret rfl rfl (by first | omega | (exact R.r _ _) | (simp only [jM.len_sI, jM.len_sL, jM.len_sR, jM.len_fI, jM.len_fL, jM.len_fR]; omega) | (simp [jM.len_nw, jM.len_sI, jM.len_sL, jM.len_sR, jM.len_fI, jM.len_fL, jM.len_fR, *]; omega)) (by first | omega | (exact R.r _ _) | (simp only [jM.len_sI, jM.len_sL, jM.len_sR, jM.len_fI, jM.len_fL, jM.len_fR]; omega) | (simp [jM.len_nw, jM.len_sI, jM.len_sL, jM.len_sR, jM.len_fI, jM.len_fL, jM.len_fR, *]; omega)) ?_
                                          exact mQ.of (by unfold sp_usual; (repeat (first | rw [if_pos (by omega)] | rw [if_neg (by omega)])))))
                                · first
                                  | (exfalso; omega)
                                  | (refine J.iload (pc' := 53) rfl rfl rfl ?_
                                     refine J.iconst (pc' := 54) rfl rfl ?_
                                     refine J.icmp_ne (tgt := 61) (pc' := 57) rfl rfl rfl (by first | omega | (exact R.r _ _) | (simp only [jM.len_sI, jM.len_sL, jM.len_sR, jM.len_fI, jM.len_fL, jM.len_fR]; omega) | (simp [jM.len_nw, jM.len_sI, jM.len_sL, jM.len_sR, jM.len_fI, jM.len_fL, jM.len_fR, *]; omega)) (by first | omega | (exact R.r _ _) | (simp only [jM.len_sI, jM.len_sL, jM.len_sR, jM.len_fI, jM.len_fL, jM.len_fR]; omega) | (simp [jM.len_nw, jM.len_sI, jM.len_sL, jM.len_sR, jM.len_fI, jM.len_fL, jM.len_fR, *]; omega)) (fun c54 => ?_) (fun c54 => ?_)
                                     · first
                                       | (exfalso; omega)
                                       | (refine J.iconst (pc' := 62) rfl rfl ?_
                                          refine J.iconst (pc' := 63) rfl rfl ?_
                                          first | refine J.callV (pc' := 66) (t := 16) rfl MX12_may ml_X12_161 iv_X12_may (by decide) ⟨_, rfl, rfl⟩ B.1 (cm_may1 B h0) rfl rfl (Nat.le_of_ble_eq_true rfl) (by first | omega | (exact R.r _ _) | (simp only [jM.len_sI, jM.len_sL, jM.len_sR, jM.len_fI, jM.len_fL, jM.len_fR]; omega) | (simp [jM.len_nw, jM.len_sI, jM.len_sL, jM.len_sR, jM.len_fI, jM.len_fL, jM.len_fR, *]; omega)) (by first | omega | (exact R.r _ _) | (simp only [jM.len_sI, jM.len_sL, jM.len_sR, jM.len_fI, jM.len_fL, jM.len_fR]; omega) | (simp [jM.len_nw, jM.len_sI, jM.len_sL, jM.len_sR, jM.len_fI, jM.len_fL, jM.len_fR, *]; omega)) (by first | omega | (exact R.r _ _) | (simp only [jM.len_sI, jM.len_sL, jM.len_sR, jM.len_fI, jM.len_fL, jM.len_fR]; omega) | (simp [jM.len_nw, jM.len_sI, jM.len_sL, jM.len_sR, jM.len_fI, jM.len_fL, jM.len_fR, *]; omega)) rfl rfl ?_ ?_ | refine J.callV (pc' := 66) (t := 16) rfl MX12_may ml_X12_161 iv_X12_may (by decide) ⟨_, rfl, rfl⟩ B.1 (cm_may0 B h0 (by omega)) rfl rfl (Nat.le_of_ble_eq_true rfl) (by first | omega | (exact R.r _ _) | (simp only [jM.len_sI, jM.len_sL, jM.len_sR, jM.len_fI, jM.len_fL, jM.len_fR]; omega) | (simp [jM.len_nw, jM.len_sI, jM.len_sL, jM.len_sR, jM.len_fI, jM.len_fL, jM.len_fR, *]; omega)) (by first | omega | (exact R.r _ _) | (simp only [jM.len_sI, jM.len_sL, jM.len_sR, jM.len_fI, jM.len_fL, jM.len_fR]; omega) | (simp [jM.len_nw, jM.len_sI, jM.len_sL, jM.len_sR, jM.len_fI, jM.len_fL, jM.len_fR, *]; omega)) (by first | omega | (exact R.r _ _) | (simp only [jM.len_sI, jM.len_sL, jM.len_sR, jM.len_fI, jM.len_fL, jM.len_fR]; omega) | (simp [jM.len_nw, jM.len_sI, jM.len_sL, jM.len_sR, jM.len_fI, jM.len_fL, jM.len_fR, *]; omega)) rfl rfl ?_ ?_
                                          · exact fun _ _ h => h
                                          rintro _ _ ⟨rfl, rfl⟩
                                          refine J.if_ne (tgt := 71) (pc' := 69) rfl rfl rfl (by first | omega | (exact R.r _ _) | (simp only [jM.len_sI, jM.len_sL, jM.len_sR, jM.len_fI, jM.len_fL, jM.len_fR]; omega) | (simp [jM.len_nw, jM.len_sI, jM.len_sL, jM.len_sR, jM.len_fI, jM.len_fL, jM.len_fR, *]; omega)) (fun c66 => ?_) (fun c66 => ?_)
                                          · first
                                            | (exfalso; omega)
                                            | (refine J.iload (pc' := 73) rfl rfl rfl ?_
                                               refine J.if_ne (tgt := 86) (pc' := 76) rfl rfl rfl (by first | omega | (exact R.r _ _) | (simp only [jM.len_sI, jM.len_sL, jM.len_sR, jM.len_fI, jM.len_fL, jM.len_fR]; omega) | (simp [jM.len_nw, jM.len_sI, jM.len_sL, jM.len_sR, jM.len_fI, jM.len_fL, jM.len_fR, *]; omega)) (fun c73 => ?_) (fun c73 => ?_)
                                               · first
                                                 | (exfalso; omega)
                                                 | (first | refine J.aload_n (pc' := 87) rfl rfl rfl ?_ | refine J.aload_nN (pc' := 87) rfl rfl rfl ?_
                                                    refine J.iload_n (pc' := 88) rfl rfl rfl ?_
                                                    refine J.iload_n (pc' := 89) rfl rfl rfl ?_
                                                    refine J.iload_n (pc' := 90) rfl rfl rfl ?_
                                                    refine J.callV (pc' := 93) (t := 16) rfl MX12_highOf ml_X12_182 iv_X12_highOf (by decide) ⟨_, rfl, rfl⟩ B.1 (cm_highOf B R (by omega) (by omega) (by omega)) rfl rfl (Nat.le_of_ble_eq_true rfl) (by first | omega | (exact R.r _ _) | (simp only [jM.len_sI, jM.len_sL, jM.len_sR, jM.len_fI, jM.len_fL, jM.len_fR]; omega) | (simp [jM.len_nw, jM.len_sI, jM.len_sL, jM.len_sR, jM.len_fI, jM.len_fL, jM.len_fR, *]; omega)) (by first | omega | (exact R.r _ _) | (simp only [jM.len_sI, jM.len_sL, jM.len_sR, jM.len_fI, jM.len_fL, jM.len_fR]; omega) | (simp [jM.len_nw, jM.len_sI, jM.len_sL, jM.len_sR, jM.len_fI, jM.len_fL, jM.len_fR, *]; omega)) (by first | omega | (exact R.r _ _) | (simp only [jM.len_sI, jM.len_sL, jM.len_sR, jM.len_fI, jM.len_fL, jM.len_fR]; omega) | (simp [jM.len_nw, jM.len_sI, jM.len_sL, jM.len_sR, jM.len_fI, jM.len_fL, jM.len_fR, *]; omega)) rfl rfl ?_ ?_
                                                    · exact fun _ _ h => h
                                                    rintro _ _ ⟨rfl, rfl⟩
                                                    refine J.iret rfl rfl (by first | omega | (exact R.r _ _) | (simp only [jM.len_sI, jM.len_sL, jM.len_sR, jM.len_fI, jM.len_fL, jM.len_fR]; omega) | (simp [jM.len_nw, jM.len_sI, jM.len_sL, jM.len_sR, jM.len_fI, jM.len_fL, jM.len_fR, *]; omega)) (by first | omega | (exact R.r _ _) | (simp only [jM.len_sI, jM.len_sL, jM.len_sR, jM.len_fI, jM.len_fL, jM.len_fR]; omega) | (simp [jM.len_nw, jM.len_sI, jM.len_sL, jM.len_sR, jM.len_fI, jM.len_fL, jM.len_fR, *]; omega)) ?_
                                                    exact mQ.of (by unfold sp_usual; (repeat (first | rw [if_pos (by omega)] | rw [if_neg (by omega)]))))
                                               · first
                                                 | (exfalso; omega)
                                                 | (first | refine J.aload_n (pc' := 77) rfl rfl rfl ?_ | refine J.aload_nN (pc' := 77) rfl rfl rfl ?_
                                                    refine J.iload_n (pc' := 78) rfl rfl rfl ?_
                                                    refine J.iload_n (pc' := 79) rfl rfl rfl ?_
                                                    refine J.iload_n (pc' := 80) rfl rfl rfl ?_
                                                    refine J.callV (pc' := 83) (t := 16) rfl MX12_lowOf ml_X12_179 iv_X12_lowOf (by decide) ⟨_, rfl, rfl⟩ B.1 (cm_lowOf B R (by omega) (by omega) (by omega)) rfl rfl (Nat.le_of_ble_eq_true rfl) (by first | omega | (exact R.r _ _) | (simp only [jM.len_sI, jM.len_sL, jM.len_sR, jM.len_fI, jM.len_fL, jM.len_fR]; omega) | (simp [jM.len_nw, jM.len_sI, jM.len_sL, jM.len_sR, jM.len_fI, jM.len_fL, jM.len_fR, *]; omega)) (by first | omega | (exact R.r _ _) | (simp only [jM.len_sI, jM.len_sL, jM.len_sR, jM.len_fI, jM.len_fL, jM.len_fR]; omega) | (simp [jM.len_nw, jM.len_sI, jM.len_sL, jM.len_sR, jM.len_fI, jM.len_fL, jM.len_fR, *]; omega)) (by first | omega | (exact R.r _ _) | (simp only [jM.len_sI, jM.len_sL, jM.len_sR, jM.len_fI, jM.len_fL, jM.len_fR]; omega) | (simp [jM.len_nw, jM.len_sI, jM.len_sL, jM.len_sR, jM.len_fI, jM.len_fL, jM.len_fR, *]; omega)) rfl rfl ?_ ?_
                                                    · exact fun _ _ h => h
                                                    rintro _ _ ⟨rfl, rfl⟩
                                                    refine J.goto (tgt := 93) rfl rfl ?_
                                                    refine J.iret rfl rfl (by first | omega | (exact R.r _ _) | (simp only [jM.len_sI, jM.len_sL, jM.len_sR, jM.len_fI, jM.len_fL, jM.len_fR]; omega) | (simp [jM.len_nw, jM.len_sI, jM.len_sL, jM.len_sR, jM.len_fI, jM.len_fL, jM.len_fR, *]; omega)) (by first | omega | (exact R.r _ _) | (simp only [jM.len_sI, jM.len_sL, jM.len_sR, jM.len_fI, jM.len_fL, jM.len_fR]; omega) | (simp [jM.len_nw, jM.len_sI, jM.len_sL, jM.len_sR, jM.len_fI, jM.len_fL, jM.len_fR, *]; omega)) ?_
                                                    exact mQ.of (by unfold sp_usual; (repeat (first | rw [if_pos (by omega)] | rw [if_neg (by omega)])))))
                                          · first
                                            | (exfalso; omega)
                                            | (refine J.iconst (pc' := 70) rfl rfl ?_
                                               refine J.iret rfl rfl (by first | omega | (exact R.r _ _) | (simp only [jM.len_sI, jM.len_sL, jM.len_sR, jM.len_fI, jM.len_fL, jM.len_fR]; omega) | (simp [jM.len_nw, jM.len_sI, jM.len_sL, jM.len_sR, jM.len_fI, jM.len_fL, jM.len_fR, *]; omega)) (by first | omega | (exact R.r _ _) | (simp only [jM.len_sI, jM.len_sL, jM.len_sR, jM.len_fI, jM.len_fL, jM.len_fR]; omega) | (simp [jM.len_nw, jM.len_sI, jM.len_sL, jM.len_sR, jM.len_fI, jM.len_fL, jM.len_fR, *]; omega)) ?_
                                               exact mQ.of (by unfold sp_usual; (repeat (first | rw [if_pos (by omega)] | rw [if_neg (by omega)])))))
                                     · first
                                       | (exfalso; omega)
                                       | (refine J.iconst (pc' := 58) rfl rfl ?_
                                          refine J.goto (tgt := 62) rfl rfl ?_
                                          refine J.iconst (pc' := 63) rfl rfl ?_
                                          first | refine J.callV (pc' := 66) (t := 16) rfl MX12_may ml_X12_161 iv_X12_may (by decide) ⟨_, rfl, rfl⟩ B.1 (cm_may1 B h0) rfl rfl (Nat.le_of_ble_eq_true rfl) (by first | omega | (exact R.r _ _) | (simp only [jM.len_sI, jM.len_sL, jM.len_sR, jM.len_fI, jM.len_fL, jM.len_fR]; omega) | (simp [jM.len_nw, jM.len_sI, jM.len_sL, jM.len_sR, jM.len_fI, jM.len_fL, jM.len_fR, *]; omega)) (by first | omega | (exact R.r _ _) | (simp only [jM.len_sI, jM.len_sL, jM.len_sR, jM.len_fI, jM.len_fL, jM.len_fR]; omega) | (simp [jM.len_nw, jM.len_sI, jM.len_sL, jM.len_sR, jM.len_fI, jM.len_fL, jM.len_fR, *]; omega)) (by first | omega | (exact R.r _ _) | (simp only [jM.len_sI, jM.len_sL, jM.len_sR, jM.len_fI, jM.len_fL, jM.len_fR]; omega) | (simp [jM.len_nw, jM.len_sI, jM.len_sL, jM.len_sR, jM.len_fI, jM.len_fL, jM.len_fR, *]; omega)) rfl rfl ?_ ?_ | refine J.callV (pc' := 66) (t := 16) rfl MX12_may ml_X12_161 iv_X12_may (by decide) ⟨_, rfl, rfl⟩ B.1 (cm_may0 B h0 (by omega)) rfl rfl (Nat.le_of_ble_eq_true rfl) (by first | omega | (exact R.r _ _) | (simp only [jM.len_sI, jM.len_sL, jM.len_sR, jM.len_fI, jM.len_fL, jM.len_fR]; omega) | (simp [jM.len_nw, jM.len_sI, jM.len_sL, jM.len_sR, jM.len_fI, jM.len_fL, jM.len_fR, *]; omega)) (by first | omega | (exact R.r _ _) | (simp only [jM.len_sI, jM.len_sL, jM.len_sR, jM.len_fI, jM.len_fL, jM.len_fR]; omega) | (simp [jM.len_nw, jM.len_sI, jM.len_sL, jM.len_sR, jM.len_fI, jM.len_fL, jM.len_fR, *]; omega)) (by first | omega | (exact R.r _ _) | (simp only [jM.len_sI, jM.len_sL, jM.len_sR, jM.len_fI, jM.len_fL, jM.len_fR]; omega) | (simp [jM.len_nw, jM.len_sI, jM.len_sL, jM.len_sR, jM.len_fI, jM.len_fL, jM.len_fR, *]; omega)) rfl rfl ?_ ?_
                                          · exact fun _ _ h => h
                                          rintro _ _ ⟨rfl, rfl⟩
                                          refine J.if_ne (tgt := 71) (pc' := 69) rfl rfl rfl (by first | omega | (exact R.r _ _) | (simp only [jM.len_sI, jM.len_sL, jM.len_sR, jM.len_fI, jM.len_fL, jM.len_fR]; omega) | (simp [jM.len_nw, jM.len_sI, jM.len_sL, jM.len_sR, jM.len_fI, jM.len_fL, jM.len_fR, *]; omega)) (fun c66 => ?_) (fun c66 => ?_)
                                          · first
                                            | (exfalso; omega)
                                            | (refine J.iload (pc' := 73) rfl rfl rfl ?_
                                               refine J.if_ne (tgt := 86) (pc' := 76) rfl rfl rfl (by first | omega | (exact R.r _ _) | (simp only [jM.len_sI, jM.len_sL, jM.len_sR, jM.len_fI, jM.len_fL, jM.len_fR]; omega) | (simp [jM.len_nw, jM.len_sI, jM.len_sL, jM.len_sR, jM.len_fI, jM.len_fL, jM.len_fR, *]; omega)) (fun c73 => ?_) (fun c73 => ?_)
                                               · first
                                                 | (exfalso; omega)
                                                 | (first | refine J.aload_n (pc' := 87) rfl rfl rfl ?_ | refine J.aload_nN (pc' := 87) rfl rfl rfl ?_
                                                    refine J.iload_n (pc' := 88) rfl rfl rfl ?_
                                                    refine J.iload_n (pc' := 89) rfl rfl rfl ?_
                                                    refine J.iload_n (pc' := 90) rfl rfl rfl ?_
                                                    refine J.callV (pc' := 93) (t := 16) rfl MX12_highOf ml_X12_182 iv_X12_highOf (by decide) ⟨_, rfl, rfl⟩ B.1 (cm_highOf B R (by omega) (by omega) (by omega)) rfl rfl (Nat.le_of_ble_eq_true rfl) (by first | omega | (exact R.r _ _) | (simp only [jM.len_sI, jM.len_sL, jM.len_sR, jM.len_fI, jM.len_fL, jM.len_fR]; omega) | (simp [jM.len_nw, jM.len_sI, jM.len_sL, jM.len_sR, jM.len_fI, jM.len_fL, jM.len_fR, *]; omega)) (by first | omega | (exact R.r _ _) | (simp only [jM.len_sI, jM.len_sL, jM.len_sR, jM.len_fI, jM.len_fL, jM.len_fR]; omega) | (simp [jM.len_nw, jM.len_sI, jM.len_sL, jM.len_sR, jM.len_fI, jM.len_fL, jM.len_fR, *]; omega)) (by first | omega | (exact R.r _ _) | (simp only [jM.len_sI, jM.len_sL, jM.len_sR, jM.len_fI, jM.len_fL, jM.len_fR]; omega) | (simp [jM.len_nw, jM.len_sI, jM.len_sL, jM.len_sR, jM.len_fI, jM.len_fL, jM.len_fR, *]; omega)) rfl rfl ?_ ?_
                                                    · exact fun _ _ h => h
                                                    rintro _ _ ⟨rfl, rfl⟩
                                                    refine J.iret rfl rfl (by first | omega | (exact R.r _ _) | (simp only [jM.len_sI, jM.len_sL, jM.len_sR, jM.len_fI, jM.len_fL, jM.len_fR]; omega) | (simp [jM.len_nw, jM.len_sI, jM.len_sL, jM.len_sR, jM.len_fI, jM.len_fL, jM.len_fR, *]; omega)) (by first | omega | (exact R.r _ _) | (simp only [jM.len_sI, jM.len_sL, jM.len_sR, jM.len_fI, jM.len_fL, jM.len_fR]; omega) | (simp [jM.len_nw, jM.len_sI, jM.len_sL, jM.len_sR, jM.len_fI, jM.len_fL, jM.len_fR, *]; omega)) ?_
                                                    exact mQ.of (by unfold sp_usual; (repeat (first | rw [if_pos (by omega)] | rw [if_neg (by omega)]))))
                                               · first
                                                 | (exfalso; omega)
                                                 | (first | refine J.aload_n (pc' := 77) rfl rfl rfl ?_ | refine J.aload_nN (pc' := 77) rfl rfl rfl ?_
                                                    refine J.iload_n (pc' := 78) rfl rfl rfl ?_
                                                    refine J.iload_n (pc' := 79) rfl rfl rfl ?_
                                                    refine J.iload_n (pc' := 80) rfl rfl rfl ?_
                                                    refine J.callV (pc' := 83) (t := 16) rfl MX12_lowOf ml_X12_179 iv_X12_lowOf (by decide) ⟨_, rfl, rfl⟩ B.1 (cm_lowOf B R (by omega) (by omega) (by omega)) rfl rfl (Nat.le_of_ble_eq_true rfl) (by first | omega | (exact R.r _ _) | (simp only [jM.len_sI, jM.len_sL, jM.len_sR, jM.len_fI, jM.len_fL, jM.len_fR]; omega) | (simp [jM.len_nw, jM.len_sI, jM.len_sL, jM.len_sR, jM.len_fI, jM.len_fL, jM.len_fR, *]; omega)) (by first | omega | (exact R.r _ _) | (simp only [jM.len_sI, jM.len_sL, jM.len_sR, jM.len_fI, jM.len_fL, jM.len_fR]; omega) | (simp [jM.len_nw, jM.len_sI, jM.len_sL, jM.len_sR, jM.len_fI, jM.len_fL, jM.len_fR, *]; omega)) (by first | omega | (exact R.r _ _) | (simp only [jM.len_sI, jM.len_sL, jM.len_sR, jM.len_fI, jM.len_fL, jM.len_fR]; omega) | (simp [jM.len_nw, jM.len_sI, jM.len_sL, jM.len_sR, jM.len_fI, jM.len_fL, jM.len_fR, *]; omega)) rfl rfl ?_ ?_
                                                    · exact fun _ _ h => h
                                                    rintro _ _ ⟨rfl, rfl⟩
                                                    refine J.goto (tgt := 93) rfl rfl ?_
                                                    refine J.iret rfl rfl (by first | omega | (exact R.r _ _) | (simp only [jM.len_sI, jM.len_sL, jM.len_sR, jM.len_fI, jM.len_fL, jM.len_fR]; omega) | (simp [jM.len_nw, jM.len_sI, jM.len_sL, jM.len_sR, jM.len_fI, jM.len_fL, jM.len_fR, *]; omega)) (by first | omega | (exact R.r _ _) | (simp only [jM.len_sI, jM.len_sL, jM.len_sR, jM.len_fI, jM.len_fL, jM.len_fR]; omega) | (simp [jM.len_nw, jM.len_sI, jM.len_sL, jM.len_sR, jM.len_fI, jM.len_fL, jM.len_fR, *]; omega)) ?_
                                                    exact mQ.of (by unfold sp_usual; (repeat (first | rw [if_pos (by omega)] | rw [if_neg (by omega)])))))
                                          · first
                                            | (exfalso; omega)
                                            | (refine J.iconst (pc' := 70) rfl rfl ?_
                                               refine J.iret rfl rfl (by first | omega | (exact R.r _ _) | (simp only [jM.len_sI, jM.len_sL, jM.len_sR, jM.len_fI, jM.len_fL, jM.len_fR]; omega) | (simp [jM.len_nw, jM.len_sI, jM.len_sL, jM.len_sR, jM.len_fI, jM.len_fL, jM.len_fR, *]; omega)) (by first | omega | (exact R.r _ _) | (simp only [jM.len_sI, jM.len_sL, jM.len_sR, jM.len_fI, jM.len_fL, jM.len_fR]; omega) | (simp [jM.len_nw, jM.len_sI, jM.len_sL, jM.len_sR, jM.len_fI, jM.len_fL, jM.len_fR, *]; omega)) ?_
                                               exact mQ.of (by unfold sp_usual; (repeat (first | rw [if_pos (by omega)] | rw [if_neg (by omega)])))))))))
                 · first
                   | (exfalso; omega)
                   | (refine J.iconst (pc' := 27) rfl rfl ?_
                      refine J.goto (tgt := 31) rfl rfl ?_
                      refine J.iconst (pc' := 32) rfl rfl ?_
                      first | refine J.callV (pc' := 35) (t := 16) rfl MX12_may ml_X12_161 iv_X12_may (by decide) ⟨_, rfl, rfl⟩ B.1 (cm_may1 B h0) rfl rfl (Nat.le_of_ble_eq_true rfl) (by first | omega | (exact R.r _ _) | (simp only [jM.len_sI, jM.len_sL, jM.len_sR, jM.len_fI, jM.len_fL, jM.len_fR]; omega) | (simp [jM.len_nw, jM.len_sI, jM.len_sL, jM.len_sR, jM.len_fI, jM.len_fL, jM.len_fR, *]; omega)) (by first | omega | (exact R.r _ _) | (simp only [jM.len_sI, jM.len_sL, jM.len_sR, jM.len_fI, jM.len_fL, jM.len_fR]; omega) | (simp [jM.len_nw, jM.len_sI, jM.len_sL, jM.len_sR, jM.len_fI, jM.len_fL, jM.len_fR, *]; omega)) (by first | omega | (exact R.r _ _) | (simp only [jM.len_sI, jM.len_sL, jM.len_sR, jM.len_fI, jM.len_fL, jM.len_fR]; omega) | (simp [jM.len_nw, jM.len_sI, jM.len_sL, jM.len_sR, jM.len_fI, jM.len_fL, jM.len_fR, *]; omega)) rfl rfl ?_ ?_ | refine J.callV (pc' := 35) (t := 16) rfl MX12_may ml_X12_161 iv_X12_may (by decide) ⟨_, rfl, rfl⟩ B.1 (cm_may0 B h0 (by omega)) rfl rfl (Nat.le_of_ble_eq_true rfl) (by first | omega | (exact R.r _ _) | (simp only [jM.len_sI, jM.len_sL, jM.len_sR, jM.len_fI, jM.len_fL, jM.len_fR]; omega) | (simp [jM.len_nw, jM.len_sI, jM.len_sL, jM.len_sR, jM.len_fI, jM.len_fL, jM.len_fR, *]; omega)) (by first | omega | (exact R.r _ _) | (simp only [jM.len_sI, jM.len_sL, jM.len_sR, jM.len_fI, jM.len_fL, jM.len_fR]; omega) | (simp [jM.len_nw, jM.len_sI, jM.len_sL, jM.len_sR, jM.len_fI, jM.len_fL, jM.len_fR, *]; omega)) (by first | omega | (exact R.r _ _) | (simp only [jM.len_sI, jM.len_sL, jM.len_sR, jM.len_fI, jM.len_fL, jM.len_fR]; omega) | (simp [jM.len_nw, jM.len_sI, jM.len_sL, jM.len_sR, jM.len_fI, jM.len_fL, jM.len_fR, *]; omega)) rfl rfl ?_ ?_
                      · exact fun _ _ h => h
                      rintro _ _ ⟨rfl, rfl⟩
                      refine J.if_eq (tgt := 69) (pc' := 38) rfl rfl rfl (by first | omega | (exact R.r _ _) | (simp only [jM.len_sI, jM.len_sL, jM.len_sR, jM.len_fI, jM.len_fL, jM.len_fR]; omega) | (simp [jM.len_nw, jM.len_sI, jM.len_sL, jM.len_sR, jM.len_fI, jM.len_fL, jM.len_fR, *]; omega)) (fun c35 => ?_) (fun c35 => ?_)
                      · first
                        | (exfalso; omega)
                        | (refine J.iconst (pc' := 70) rfl rfl ?_
                           refine J.iret rfl rfl (by first | omega | (exact R.r _ _) | (simp only [jM.len_sI, jM.len_sL, jM.len_sR, jM.len_fI, jM.len_fL, jM.len_fR]; omega) | (simp [jM.len_nw, jM.len_sI, jM.len_sL, jM.len_sR, jM.len_fI, jM.len_fL, jM.len_fR, *]; omega)) (by first | omega | (exact R.r _ _) | (simp only [jM.len_sI, jM.len_sL, jM.len_sR, jM.len_fI, jM.len_fL, jM.len_fR]; omega) | (simp [jM.len_nw, jM.len_sI, jM.len_sL, jM.len_sR, jM.len_fI, jM.len_fL, jM.len_fR, *]; omega)) ?_
                           exact mQ.of (by unfold sp_usual; (repeat (first | rw [if_pos (by omega)] | rw [if_neg (by omega)]))))
                      · first
                        | (exfalso; omega)
                        | (first | refine J.aload_n (pc' := 39) rfl rfl rfl ?_ | refine J.aload_nN (pc' := 39) rfl rfl rfl ?_
                           refine J.iload_n (pc' := 40) rfl rfl rfl ?_
                           refine J.callS (pc' := 43) rfl MX12_isMetal ml_X12_157 is_X12_isMetal (cm_isMetal hm) rfl rfl (Nat.le_of_ble_eq_true rfl) (by first | omega | (exact R.r _ _) | (simp only [jM.len_sI, jM.len_sL, jM.len_sR, jM.len_fI, jM.len_fL, jM.len_fR]; omega) | (simp [jM.len_nw, jM.len_sI, jM.len_sL, jM.len_sR, jM.len_fI, jM.len_fL, jM.len_fR, *]; omega)) (by first | omega | (exact R.r _ _) | (simp only [jM.len_sI, jM.len_sL, jM.len_sR, jM.len_fI, jM.len_fL, jM.len_fR]; omega) | (simp [jM.len_nw, jM.len_sI, jM.len_sL, jM.len_sR, jM.len_fI, jM.len_fL, jM.len_fR, *]; omega)) (by first | omega | (exact R.r _ _) | (simp only [jM.len_sI, jM.len_sL, jM.len_sR, jM.len_fI, jM.len_fL, jM.len_fR]; omega) | (simp [jM.len_nw, jM.len_sI, jM.len_sL, jM.len_sR, jM.len_fI, jM.len_fL, jM.len_fR, *]; omega)) rfl rfl ?_ ?_
                           · exact fun _ _ h => h
                           rintro _ _ ⟨b, hb1, rfl, rfl⟩
                           refine J.if_eq (tgt := 61) (pc' := 46) rfl rfl rfl (by first | omega | (exact R.r _ _) | (simp only [jM.len_sI, jM.len_sL, jM.len_sR, jM.len_fI, jM.len_fL, jM.len_fR]; omega) | (simp [jM.len_nw, jM.len_sI, jM.len_sL, jM.len_sR, jM.len_fI, jM.len_fL, jM.len_fR, *]; omega)) (fun c43 => ?_) (fun c43 => ?_)
                           · first
                             | (exfalso; omega)
                             | (refine J.iconst (pc' := 62) rfl rfl ?_
                                refine J.iconst (pc' := 63) rfl rfl ?_
                                first | refine J.callV (pc' := 66) (t := 16) rfl MX12_may ml_X12_161 iv_X12_may (by decide) ⟨_, rfl, rfl⟩ B.1 (cm_may1 B h0) rfl rfl (Nat.le_of_ble_eq_true rfl) (by first | omega | (exact R.r _ _) | (simp only [jM.len_sI, jM.len_sL, jM.len_sR, jM.len_fI, jM.len_fL, jM.len_fR]; omega) | (simp [jM.len_nw, jM.len_sI, jM.len_sL, jM.len_sR, jM.len_fI, jM.len_fL, jM.len_fR, *]; omega)) (by first | omega | (exact R.r _ _) | (simp only [jM.len_sI, jM.len_sL, jM.len_sR, jM.len_fI, jM.len_fL, jM.len_fR]; omega) | (simp [jM.len_nw, jM.len_sI, jM.len_sL, jM.len_sR, jM.len_fI, jM.len_fL, jM.len_fR, *]; omega)) (by first | omega | (exact R.r _ _) | (simp only [jM.len_sI, jM.len_sL, jM.len_sR, jM.len_fI, jM.len_fL, jM.len_fR]; omega) | (simp [jM.len_nw, jM.len_sI, jM.len_sL, jM.len_sR, jM.len_fI, jM.len_fL, jM.len_fR, *]; omega)) rfl rfl ?_ ?_ | refine J.callV (pc' := 66) (t := 16) rfl MX12_may ml_X12_161 iv_X12_may (by decide) ⟨_, rfl, rfl⟩ B.1 (cm_may0 B h0 (by omega)) rfl rfl (Nat.le_of_ble_eq_true rfl) (by first | omega | (exact R.r _ _) | (simp only [jM.len_sI, jM.len_sL, jM.len_sR, jM.len_fI, jM.len_fL, jM.len_fR]; omega) | (simp [jM.len_nw, jM.len_sI, jM.len_sL, jM.len_sR, jM.len_fI, jM.len_fL, jM.len_fR, *]; omega)) (by first | omega | (exact R.r _ _) | (simp only [jM.len_sI, jM.len_sL, jM.len_sR, jM.len_fI, jM.len_fL, jM.len_fR]; omega) | (simp [jM.len_nw, jM.len_sI, jM.len_sL, jM.len_sR, jM.len_fI, jM.len_fL, jM.len_fR, *]; omega)) (by first | omega | (exact R.r _ _) | (simp only [jM.len_sI, jM.len_sL, jM.len_sR, jM.len_fI, jM.len_fL, jM.len_fR]; omega) | (simp [jM.len_nw, jM.len_sI, jM.len_sL, jM.len_sR, jM.len_fI, jM.len_fL, jM.len_fR, *]; omega)) rfl rfl ?_ ?_
                                · exact fun _ _ h => h
                                rintro _ _ ⟨rfl, rfl⟩
                                refine J.if_ne (tgt := 71) (pc' := 69) rfl rfl rfl (by first | omega | (exact R.r _ _) | (simp only [jM.len_sI, jM.len_sL, jM.len_sR, jM.len_fI, jM.len_fL, jM.len_fR]; omega) | (simp [jM.len_nw, jM.len_sI, jM.len_sL, jM.len_sR, jM.len_fI, jM.len_fL, jM.len_fR, *]; omega)) (fun c66 => ?_) (fun c66 => ?_)
                                · first
                                  | (exfalso; omega)
                                  | (refine J.iload (pc' := 73) rfl rfl rfl ?_
                                     refine J.if_ne (tgt := 86) (pc' := 76) rfl rfl rfl (by first | omega | (exact R.r _ _) | (simp only [jM.len_sI, jM.len_sL, jM.len_sR, jM.len_fI, jM.len_fL, jM.len_fR]; omega) | (simp [jM.len_nw, jM.len_sI, jM.len_sL, jM.len_sR, jM.len_fI, jM.len_fL, jM.len_fR, *]; omega)) (fun c73 => ?_) (fun c73 => ?_)
                                     · first
                                       | (exfalso; omega)
                                       | (first | refine J.aload_n (pc' := 87) rfl rfl rfl ?_ | refine J.aload_nN (pc' := 87) rfl rfl rfl ?_
                                          refine J.iload_n (pc' := 88) rfl rfl rfl ?_
                                          refine J.iload_n (pc' := 89) rfl rfl rfl ?_
                                          refine J.iload_n (pc' := 90) rfl rfl rfl ?_
                                          refine J.callV (pc' := 93) (t := 16) rfl MX12_highOf ml_X12_182 iv_X12_highOf (by decide) ⟨_, rfl, rfl⟩ B.1 (cm_highOf B R (by omega) (by omega) (by omega)) rfl rfl (Nat.le_of_ble_eq_true rfl) (by first | omega | (exact R.r _ _) | (simp only [jM.len_sI, jM.len_sL, jM.len_sR, jM.len_fI, jM.len_fL, jM.len_fR]; omega) | (simp [jM.len_nw, jM.len_sI, jM.len_sL, jM.len_sR, jM.len_fI, jM.len_fL, jM.len_fR, *]; omega)) (by first | omega | (exact R.r _ _) | (simp only [jM.len_sI, jM.len_sL, jM.len_sR, jM.len_fI, jM.len_fL, jM.len_fR]; omega) | (simp [jM.len_nw, jM.len_sI, jM.len_sL, jM.len_sR, jM.len_fI, jM.len_fL, jM.len_fR, *]; omega)) (by first | omega | (exact R.r _ _) | (simp only [jM.len_sI, jM.len_sL, jM.len_sR, jM.len_fI, jM.len_fL, jM.len_fR]; omega) | (simp [jM.len_nw, jM.len_sI, jM.len_sL, jM.len_sR, jM.len_fI, jM.len_fL, jM.len_fR, *]; omega)) rfl rfl ?_ ?_
                                          · exact fun _ _ h => h
                                          rintro _ _ ⟨rfl, rfl⟩
                                          refine J.iret rfl rfl (by first | omega | (exact R.r _ _) | (simp only [jM.len_sI, jM.len_sL, jM.len_sR, jM.len_fI, jM.len_fL, jM.len_fR]; omega) | (simp [jM.len_nw, jM.len_sI, jM.len_sL, jM.len_sR, jM.len_fI, jM.len_fL, jM.len_fR, *]; omega)) (by first | omega | (exact R.r _ _) | (simp only [jM.len_sI, jM.len_sL, jM.len_sR, jM.len_fI, jM.len_fL, jM.len_fR]; omega) | (simp [jM.len_nw, jM.len_sI, jM.len_sL, jM.len_sR, jM.len_fI, jM.len_fL, jM.len_fR, *]; omega)) ?_
                                          exact mQ.of (by unfold sp_usual; (repeat (first | rw [if_pos (by omega)] | rw [if_neg (by omega)]))))
                                     · first
                                       | (exfalso; omega)
                                       | (first | refine J.aload_n (pc' := 77) rfl rfl rfl ?_ | refine J.aload_nN (pc' := 77) rfl rfl rfl ?_
                                          refine J.iload_n (pc' := 78) rfl rfl rfl ?_
                                          refine J.iload_n (pc' := 79) rfl rfl rfl ?_
                                          refine J.iload_n (pc' := 80) rfl rfl rfl ?_
                                          refine J.callV (pc' := 83) (t := 16) rfl MX12_lowOf ml_X12_179 iv_X12_lowOf (by decide) ⟨_, rfl, rfl⟩ B.1 (cm_lowOf B R (by omega) (by omega) (by omega)) rfl rfl (Nat.le_of_ble_eq_true rfl) (by first | omega | (exact R.r _ _) | (simp only [jM.len_sI, jM.len_sL, jM.len_sR, jM.len_fI, jM.len_fL, jM.len_fR]; omega) | (simp [jM.len_nw, jM.len_sI, jM.len_sL, jM.len_sR, jM.len_fI, jM.len_fL, jM.len_fR, *]; omega)) (by first | omega | (exact R.r _ _) | (simp only [jM.len_sI, jM.len_sL, jM.len_sR, jM.len_fI, jM.len_fL, jM.len_fR]; omega) | (simp [jM.len_nw, jM.len_sI, jM.len_sL, jM.len_sR, jM.len_fI, jM.len_fL, jM.len_fR, *]; omega)) (by first | omega | (exact R.r _ _) | (simp only [jM.len_sI, jM.len_sL, jM.len_sR, jM.len_fI, jM.len_fL, jM.len_fR]; omega) | (simp [jM.len_nw, jM.len_sI, jM.len_sL, jM.len_sR, jM.len_fI, jM.len_fL, jM.len_fR, *]; omega)) rfl rfl ?_ ?_
                                          · exact fun _ _ h => h
                                          rintro _ _ ⟨rfl, rfl⟩
                                          refine J.goto (tgt := 93) rfl rfl ?_
                                          refine J.iret rfl rfl (by first | omega | (exact R.r _ _) | (simp only [jM.len_sI, jM.len_sL, jM.len_sR, jM.len_fI, jM.len_fL, jM.len_fR]; omega) | (simp [jM.len_nw, jM.len_sI, jM.len_sL, jM.len_sR, jM.len_fI, jM.len_fL, jM.len_fR, *]; omega)) (by first | omega | (exact R.r _ _) | (simp only [jM.len_sI, jM.len_sL, jM.len_sR, jM.len_fI, jM.len_fL, jM.len_fR]; omega) | (simp [jM.len_nw, jM.len_sI, jM.len_sL, jM.len_sR, jM.len_fI, jM.len_fL, jM.len_fR, *]; omega)) ?_
                                          exact mQ.of (by unfold sp_usual; (repeat (first | rw [if_pos (by omega)] | rw [if_neg (by omega)])))))
                                · first
                                  | (exfalso; omega)
                                  | (refine J.iconst (pc' := 70) rfl rfl ?_
                                     refine J.iret rfl rfl (by first | omega | (exact R.r _ _) | (simp only [jM.len_sI, jM.len_sL, jM.len_sR, jM.len_fI, jM.len_fL, jM.len_fR]; omega) | (simp [jM.len_nw, jM.len_sI, jM.len_sL, jM.len_sR, jM.len_fI, jM.len_fL, jM.len_fR, *]; omega)) (by first | omega | (exact R.r _ _) | (simp only [jM.len_sI, jM.len_sL, jM.len_sR, jM.len_fI, jM.len_fL, jM.len_fR]; omega) | (simp [jM.len_nw, jM.len_sI, jM.len_sL, jM.len_sR, jM.len_fI, jM.len_fL, jM.len_fR, *]; omega)) ?_
                                     exact mQ.of (by unfold sp_usual; (repeat (first | rw [if_pos (by omega)] | rw [if_neg (by omega)])))))
                           · first
                             | (exfalso; omega)
                             | (refine J.iload (pc' := 48) rfl rfl rfl ?_
                                refine J.if_eq (tgt := 57) (pc' := 51) rfl rfl rfl (by first | omega | (exact R.r _ _) | (simp only [jM.len_sI, jM.len_sL, jM.len_sR, jM.len_fI, jM.len_fL, jM.len_fR]; omega) | (simp [jM.len_nw, jM.len_sI, jM.len_sL, jM.len_sR, jM.len_fI, jM.len_fL, jM.len_fR, *]; omega)) (fun c48 => ?_) (fun c48 => ?_)
                                · first
                                  | (exfalso; omega)
                                  | (refine J.iconst (pc' := 58) rfl rfl ?_
                                     refine J.goto (tgt := 62) rfl rfl ?_
                                     refine J.iconst (pc' := 63) rfl rfl ?_
                                     first | refine J.callV (pc' := 66) (t := 16) rfl MX12_may ml_X12_161 iv_X12_may (by decide) ⟨_, rfl, rfl⟩ B.1 (cm_may1 B h0) rfl rfl (Nat.le_of_ble_eq_true rfl) (by first | omega | (exact R.r _ _) | (simp only [jM.len_sI, jM.len_sL, jM.len_sR, jM.len_fI, jM.len_fL, jM.len_fR]; omega) | (simp [jM.len_nw, jM.len_sI, jM.len_sL, jM.len_sR, jM.len_fI, jM.len_fL, jM.len_fR, *]; omega)) (by first | omega | (exact R.r _ _) | (simp only [jM.len_sI, jM.len_sL, jM.len_sR, jM.len_fI, jM.len_fL, jM.len_fR]; omega) | (simp [jM.len_nw, jM.len_sI, jM.len_sL, jM.len_sR, jM.len_fI, jM.len_fL, jM.len_fR, *]; omega)) (by first | omega | (exact R.r _ _) | (simp only [jM.len_sI, jM.len_sL, jM.len_sR, jM.len_fI, jM.len_fL, jM.len_fR]; omega) | (simp [jM.len_nw, jM.len_sI, jM.len_sL, jM.len_sR, jM.len_fI, jM.len_fL, jM.len_fR, *]; omega)) rfl rfl ?_ ?_ | refine J.callV (pc' := 66) (t := 16) rfl MX12_may ml_X12_161 iv_X12_may (by decide) ⟨_, rfl, rfl⟩ B.1 (cm_may0 B h0 (by omega)) rfl rfl (Nat.le_of_ble_eq_true rfl) (by first | omega | (exact R.r _ _) | (simp only [jM.len_sI, jM.len_sL, jM.len_sR, jM.len_fI, jM.len_fL, jM.len_fR]; omega) | (simp [jM.len_nw, jM.len_sI, jM.len_sL, jM.len_sR, jM.len_fI, jM.len_fL, jM.len_fR, *]; omega)) (by first | omega | (exact R.r _ _) | (simp only [jM.len_sI, jM.len_sL, jM.len_sR, jM.len_fI, jM.len_fL, jM.len_fR]; omega) | (simp [jM.len_nw, jM.len_sI, jM.len_sL, jM.len_sR, jM.len_fI, jM.len_fL, jM.len_fR, *]; omega)) (by first | omega | (exact R.r _ _) | (simp only [jM.len_sI, jM.len_sL, jM.len_sR, jM.len_fI, jM.len_fL, jM.len_fR]; omega) | (simp [jM.len_nw, jM.len_sI, jM.len_sL, jM.len_sR, jM.len_fI, jM.len_fL, jM.len_fR, *]; omega)) rfl rfl ?_ ?_
                                     · exact fun _ _ h => h
                                     rintro _ _ ⟨rfl, rfl⟩
                                     refine J.if_ne (tgt := 71) (pc' := 69) rfl rfl rfl (by first | omega | (exact R.r _ _) | (simp only [jM.len_sI, jM.len_sL, jM.len_sR, jM.len_fI, jM.len_fL, jM.len_fR]; omega) | (simp [jM.len_nw, jM.len_sI, jM.len_sL, jM.len_sR, jM.len_fI, jM.len_fL, jM.len_fR, *]; omega)) (fun c66 => ?_) (fun c66 => ?_)
                                     · first
                                       | (exfalso; omega)
                                       | (refine J.iload (pc' := 73) rfl rfl rfl ?_
                                          refine J.if_ne (tgt := 86) (pc' := 76) rfl rfl rfl (by first | omega | (exact R.r _ _) | (simp only [jM.len_sI, jM.len_sL, jM.len_sR, jM.len_fI, jM.len_fL, jM.len_fR]; omega) | (simp [jM.len_nw, jM.len_sI, jM.len_sL, jM.len_sR, jM.len_fI, jM.len_fL, jM.len_fR, *]; omega)) (fun c73 => ?_) (fun c73 => ?_)
                                          · first
                                            | (exfalso; omega)
                                            | (first | refine J.aload_n (pc' := 87) rfl rfl rfl ?_ | refine J.aload_nN (pc' := 87) rfl rfl rfl ?_
                                               refine J.iload_n (pc' := 88) rfl rfl rfl ?_
                                               refine J.iload_n (pc' := 89) rfl rfl rfl ?_
                                               refine J.iload_n (pc' := 90) rfl rfl rfl ?_
                                               refine J.callV (pc' := 93) (t := 16) rfl MX12_highOf ml_X12_182 iv_X12_highOf (by decide) ⟨_, rfl, rfl⟩ B.1 (cm_highOf B R (by omega) (by omega) (by omega)) rfl rfl (Nat.le_of_ble_eq_true rfl) (by first | omega | (exact R.r _ _) | (simp only [jM.len_sI, jM.len_sL, jM.len_sR, jM.len_fI, jM.len_fL, jM.len_fR]; omega) | (simp [jM.len_nw, jM.len_sI, jM.len_sL, jM.len_sR, jM.len_fI, jM.len_fL, jM.len_fR, *]; omega)) (by first | omega | (exact R.r _ _) | (simp only [jM.len_sI, jM.len_sL, jM.len_sR, jM.len_fI, jM.len_fL, jM.len_fR]; omega) | (simp [jM.len_nw, jM.len_sI, jM.len_sL, jM.len_sR, jM.len_fI, jM.len_fL, jM.len_fR, *]; omega)) (by first | omega | (exact R.r _ _) | (simp only [jM.len_sI, jM.len_sL, jM.len_sR, jM.len_fI, jM.len_fL, jM.len_fR]; omega) | (simp [jM.len_nw, jM.len_sI, jM.len_sL, jM.len_sR, jM.len_fI, jM.len_fL, jM.len_fR, *]; omega)) rfl rfl ?_ ?_
                                               · exact fun _ _ h => h
                                               rintro _ _ ⟨rfl, rfl⟩
                                               refine J.iret rfl rfl (by first | omega | (exact R.r _ _) | (simp only [jM.len_sI, jM.len_sL, jM.len_sR, jM.len_fI, jM.len_fL, jM.len_fR]; omega) | (simp [jM.len_nw, jM.len_sI, jM.len_sL, jM.len_sR, jM.len_fI, jM.len_fL, jM.len_fR, *]; omega)) (by first | omega | (exact R.r _ _) | (simp only [jM.len_sI, jM.len_sL, jM.len_sR, jM.len_fI, jM.len_fL, jM.len_fR]; omega) | (simp [jM.len_nw, jM.len_sI, jM.len_sL, jM.len_sR, jM.len_fI, jM.len_fL, jM.len_fR, *]; omega)) ?_
                                               exact mQ.of (by unfold sp_usual; (repeat (first | rw [if_pos (by omega)] | rw [if_neg (by omega)]))))
                                          · first
                                            | (exfalso; omega)
                                            | (first | refine J.aload_n (pc' := 77) rfl rfl rfl ?_ | refine J.aload_nN (pc' := 77) rfl rfl rfl ?_
                                               refine J.iload_n (pc' := 78) rfl rfl rfl ?_
                                               refine J.iload_n (pc' := 79) rfl rfl rfl ?_
                                               refine J.iload_n (pc' := 80) rfl rfl rfl ?_
                                               refine J.callV (pc' := 83) (t := 16) rfl MX12_lowOf ml_X12_179 iv_X12_lowOf (by decide) ⟨_, rfl, rfl⟩ B.1 (cm_lowOf B R (by omega) (by omega) (by omega)) rfl rfl (Nat.le_of_ble_eq_true rfl) (by first | omega | (exact R.r _ _) | (simp only [jM.len_sI, jM.len_sL, jM.len_sR, jM.len_fI, jM.len_fL, jM.len_fR]; omega) | (simp [jM.len_nw, jM.len_sI, jM.len_sL, jM.len_sR, jM.len_fI, jM.len_fL, jM.len_fR, *]; omega)) (by first | omega | (exact R.r _ _) | (simp only [jM.len_sI, jM.len_sL, jM.len_sR, jM.len_fI, jM.len_fL, jM.len_fR]; omega) | (simp [jM.len_nw, jM.len_sI, jM.len_sL, jM.len_sR, jM.len_fI, jM.len_fL, jM.len_fR, *]; omega)) (by first | omega | (exact R.r _ _) | (simp only [jM.len_sI, jM.len_sL, jM.len_sR, jM.len_fI, jM.len_fL, jM.len_fR]; omega) | (simp [jM.len_nw, jM.len_sI, jM.len_sL, jM.len_sR, jM.len_fI, jM.len_fL, jM.len_fR, *]; omega)) rfl rfl ?_ ?_
                                               · exact fun _ _ h => h
                                               rintro _ _ ⟨rfl, rfl⟩
                                               refine J.goto (tgt := 93) rfl rfl ?_
                                               refine J.iret rfl rfl (by first | omega | (exact R.r _ _) | (simp only [jM.len_sI, jM.len_sL, jM.len_sR, jM.len_fI, jM.len_fL, jM.len_fR]; omega) | (simp [jM.len_nw, jM.len_sI, jM.len_sL, jM.len_sR, jM.len_fI, jM.len_fL, jM.len_fR, *]; omega)) (by first | omega | (exact R.r _ _) | (simp only [jM.len_sI, jM.len_sL, jM.len_sR, jM.len_fI, jM.len_fL, jM.len_fR]; omega) | (simp [jM.len_nw, jM.len_sI, jM.len_sL, jM.len_sR, jM.len_fI, jM.len_fL, jM.len_fR, *]; omega)) ?_
                                               exact mQ.of (by unfold sp_usual; (repeat (first | rw [if_pos (by omega)] | rw [if_neg (by omega)])))))
                                     · first
                                       | (exfalso; omega)
                                       | (refine J.iconst (pc' := 70) rfl rfl ?_
                                          refine J.iret rfl rfl (by first | omega | (exact R.r _ _) | (simp only [jM.len_sI, jM.len_sL, jM.len_sR, jM.len_fI, jM.len_fL, jM.len_fR]; omega) | (simp [jM.len_nw, jM.len_sI, jM.len_sL, jM.len_sR, jM.len_fI, jM.len_fL, jM.len_fR, *]; omega)) (by first | omega | (exact R.r _ _) | (simp only [jM.len_sI, jM.len_sL, jM.len_sR, jM.len_fI, jM.len_fL, jM.len_fR]; omega) | (simp [jM.len_nw, jM.len_sI, jM.len_sL, jM.len_sR, jM.len_fI, jM.len_fL, jM.len_fR, *]; omega)) ?_
                                          exact mQ.of (by unfold sp_usual; (repeat (first | rw [if_pos (by omega)] | rw [if_neg (by omega)])))))
                                · first
                                  | (exfalso; omega)
                                  | (refine J.iload (pc' := 53) rfl rfl rfl ?_
                                     refine J.iconst (pc' := 54) rfl rfl ?_
                                     refine J.icmp_ne (tgt := 61) (pc' := 57) rfl rfl rfl (by first | omega | (exact R.r _ _) | (simp only [jM.len_sI, jM.len_sL, jM.len_sR, jM.len_fI, jM.len_fL, jM.len_fR]; omega) | (simp [jM.len_nw, jM.len_sI, jM.len_sL, jM.len_sR, jM.len_fI, jM.len_fL, jM.len_fR, *]; omega)) (by first | omega | (exact R.r _ _) | (simp only [jM.len_sI, jM.len_sL, jM.len_sR, jM.len_fI, jM.len_fL, jM.len_fR]; omega) | (simp [jM.len_nw, jM.len_sI, jM.len_sL, jM.len_sR, jM.len_fI, jM.len_fL, jM.len_fR, *]; omega)) (fun c54 => ?_) (fun c54 => ?_)
                                     · first
                                       | (exfalso; omega)
                                       | (refine J.iconst (pc' := 62) rfl rfl ?_
                                          refine J.iconst (pc' := 63) rfl rfl ?_
                                          first | refine J.callV (pc' := 66) (t := 16) rfl MX12_may ml_X12_161 iv_X12_may (by decide) ⟨_, rfl, rfl⟩ B.1 (cm_may1 B h0) rfl rfl (Nat.le_of_ble_eq_true rfl) (by first | omega | (exact R.r _ _) | (simp only [jM.len_sI, jM.len_sL, jM.len_sR, jM.len_fI, jM.len_fL, jM.len_fR]; omega) | (simp [jM.len_nw, jM.len_sI, jM.len_sL, jM.len_sR, jM.len_fI, jM.len_fL, jM.len_fR, *]; omega)) (by first | omega | (exact R.r _ _) | (simp only [jM.len_sI, jM.len_sL, jM.len_sR, jM.len_fI, jM.len_fL, jM.len_fR]; omega) | (simp [jM.len_nw, jM.len_sI, jM.len_sL, jM.len_sR, jM.len_fI, jM.len_fL, jM.len_fR, *]; omega)) (by first | omega | (exact R.r _ _) | (simp only [jM.len_sI, jM.len_sL, jM.len_sR, jM.len_fI, jM.len_fL, jM.len_fR]; omega) | (simp [jM.len_nw, jM.len_sI, jM.len_sL, jM.len_sR, jM.len_fI, jM.len_fL, jM.len_fR, *]; omega)) rfl rfl ?_ ?_ | refine J.callV (pc' := 66) (t := 16) rfl MX12_may ml_X12_161 iv_X12_may (by decide) ⟨_, rfl, rfl⟩ B.1 (cm_may0 B h0 (by omega)) rfl rfl (Nat.le_of_ble_eq_true rfl) (by first | omega | (exact R.r _ _) | (simp only [jM.len_sI, jM.len_sL, jM.len_sR, jM.len_fI, jM.len_fL, jM.len_fR]; omega) | (simp [jM.len_nw, jM.len_sI, jM.len_sL, jM.len_sR, jM.len_fI, jM.len_fL, jM.len_fR, *]; omega)) (by first | omega | (exact R.r _ _) | (simp only [jM.len_sI, jM.len_sL, jM.len_sR, jM.len_fI, jM.len_fL, jM.len_fR]; omega) | (simp [jM.len_nw, jM.len_sI, jM.len_sL, jM.len_sR, jM.len_fI, jM.len_fL, jM.len_fR, *]; omega)) (by first | omega | (exact R.r _ _) | (simp only [jM.len_sI, jM.len_sL, jM.len_sR, jM.len_fI, jM.len_fL, jM.len_fR]; omega) | (simp [jM.len_nw, jM.len_sI, jM.len_sL, jM.len_sR, jM.len_fI, jM.len_fL, jM.len_fR, *]; omega)) rfl rfl ?_ ?_
                                          · exact fun _ _ h => h
                                          rintro _ _ ⟨rfl, rfl⟩
                                          refine J.if_ne (tgt := 71) (pc' := 69) rfl rfl rfl (by first | omega | (exact R.r _ _) | (simp only [jM.len_sI, jM.len_sL, jM.len_sR, jM.len_fI, jM.len_fL, jM.len_fR]; omega) | (simp [jM.len_nw, jM.len_sI, jM.len_sL, jM.len_sR, jM.len_fI, jM.len_fL, jM.len_fR, *]; omega)) (fun c66 => ?_) (fun c66 => ?_)
                                          · first
                                            | (exfalso; omega)
                                            | (refine J.iload (pc' := 73) rfl rfl rfl ?_
                                               refine J.if_ne (tgt := 86) (pc' := 76) rfl rfl rfl (by first | omega | (exact R.r _ _) | (simp only [jM.len_sI, jM.len_sL, jM.len_sR, jM.len_fI, jM.len_fL, jM.len_fR]; omega) | (simp [jM.len_nw, jM.len_sI, jM.len_sL, jM.len_sR, jM.len_fI, jM.len_fL, jM.len_fR, *]; omega)) (fun c73 => ?_) (fun c73 => ?_)
                                               · first
                                                 | (exfalso; omega)
                                                 | (first | refine J.aload_n (pc' := 87) rfl rfl rfl ?_ | refine J.aload_nN (pc' := 87) rfl rfl rfl ?_
                                                    refine J.iload_n (pc' := 88) rfl rfl rfl ?_
                                                    refine J.iload_n (pc' := 89) rfl rfl rfl ?_
                                                    refine J.iload_n (pc' := 90) rfl rfl rfl ?_
                                                    refine J.callV (pc' := 93) (t := 16) rfl MX12_highOf ml_X12_182 iv_X12_highOf (by decide) ⟨_, rfl, rfl⟩ B.1 (cm_highOf B R (by omega) (by omega) (by omega)) rfl rfl (Nat.le_of_ble_eq_true rfl) (by first | omega | (exact R.r _ _) | (simp only [jM.len_sI, jM.len_sL, jM.len_sR, jM.len_fI, jM.len_fL, jM.len_fR]; omega) | (simp [jM.len_nw, jM.len_sI, jM.len_sL, jM.len_sR, jM.len_fI, jM.len_fL, jM.len_fR, *]; omega)) (by first | omega | (exact R.r _ _) | (simp only [jM.len_sI, jM.len_sL, jM.len_sR, jM.len_fI, jM.len_fL, jM.len_fR]; omega) | (simp [jM.len_nw, jM.len_sI, jM.len_sL, jM.len_sR, jM.len_fI, jM.len_fL, jM.len_fR, *]; omega)) (by first | omega | (exact R.r _ _) | (simp only [jM.len_sI, jM.len_sL, jM.len_sR, jM.len_fI, jM.len_fL, jM.len_fR]; omega) | (simp [jM.len_nw, jM.len_sI, jM.len_sL, jM.len_sR, jM.len_fI, jM.len_fL, jM.len_fR, *]; omega)) rfl rfl ?_ ?_
                                                    · exact fun _ _ h => h
                                                    rintro _ _ ⟨rfl, rfl⟩
                                                    refine J.iret rfl rfl (by first | omega | (exact R.r _ _) | (simp only [jM.len_sI, jM.len_sL, jM.len_sR, jM.len_fI, jM.len_fL, jM.len_fR]; omega) | (simp [jM.len_nw, jM.len_sI, jM.len_sL, jM.len_sR, jM.len_fI, jM.len_fL, jM.len_fR, *]; omega)) (by first | omega | (exact R.r _ _) | (simp only [jM.len_sI, jM.len_sL, jM.len_sR, jM.len_fI, jM.len_fL, jM.len_fR]; omega) | (simp [jM.len_nw, jM.len_sI, jM.len_sL, jM.len_sR, jM.len_fI, jM.len_fL, jM.len_fR, *]; omega)) ?_
                                                    exact mQ.of (by unfold sp_usual; (repeat (first | rw [if_pos (by omega)] | rw [if_neg (by omega)]))))
                                               · first
                                                 | (exfalso; omega)
                                                 | (first | refine J.aload_n (pc' := 77) rfl rfl rfl ?_ | refine J.aload_nN (pc' := 77) rfl rfl rfl ?_
                                                    refine J.iload_n (pc' := 78) rfl rfl rfl ?_
                                                    refine J.iload_n (pc' := 79) rfl rfl rfl ?_
                                                    refine J.iload_n (pc' := 80) rfl rfl rfl ?_
                                                    refine J.callV (pc' := 83) (t := 16) rfl MX12_lowOf ml_X12_179 iv_X12_lowOf (by decide) ⟨_, rfl, rfl⟩ B.1 (cm_lowOf B R (by omega) (by omega) (by omega)) rfl rfl (Nat.le_of_ble_eq_true rfl) (by first | omega | (exact R.r _ _) | (simp only [jM.len_sI, jM.len_sL, jM.len_sR, jM.len_fI, jM.len_fL, jM.len_fR]; omega) | (simp [jM.len_nw, jM.len_sI, jM.len_sL, jM.len_sR, jM.len_fI, jM.len_fL, jM.len_fR, *]; omega)) (by first | omega | (exact R.r _ _) | (simp only [jM.len_sI, jM.len_sL, jM.len_sR, jM.len_fI, jM.len_fL, jM.len_fR]; omega) | (simp [jM.len_nw, jM.len_sI, jM.len_sL, jM.len_sR, jM.len_fI, jM.len_fL, jM.len_fR, *]; omega)) (by first | omega | (exact R.r _ _) | (simp only [jM.len_sI, jM.len_sL, jM.len_sR, jM.len_fI, jM.len_fL, jM.len_fR]; omega) | (simp [jM.len_nw, jM.len_sI, jM.len_sL, jM.len_sR, jM.len_fI, jM.len_fL, jM.len_fR, *]; omega)) rfl rfl ?_ ?_
                                                    · exact fun _ _ h => h
                                                    rintro _ _ ⟨rfl, rfl⟩
                                                    refine J.goto (tgt := 93) rfl rfl ?_
                                                    refine J.iret rfl rfl (by first | omega | (exact R.r _ _) | (simp only [jM.len_sI, jM.len_sL, jM.len_sR, jM.len_fI, jM.len_fL, jM.len_fR]; omega) | (simp [jM.len_nw, jM.len_sI, jM.len_sL, jM.len_sR, jM.len_fI, jM.len_fL, jM.len_fR, *]; omega)) (by first | omega | (exact R.r _ _) | (simp only [jM.len_sI, jM.len_sL, jM.len_sR, jM.len_fI, jM.len_fL, jM.len_fR]; omega) | (simp [jM.len_nw, jM.len_sI, jM.len_sL, jM.len_sR, jM.len_fI, jM.len_fL, jM.len_fR, *]; omega)) ?_
                                                    exact mQ.of (by unfold sp_usual; (repeat (first | rw [if_pos (by omega)] | rw [if_neg (by omega)])))))
                                          · first
                                            | (exfalso; omega)
                                            | (refine J.iconst (pc' := 70) rfl rfl ?_
                                               refine J.iret rfl rfl (by first | omega | (exact R.r _ _) | (simp only [jM.len_sI, jM.len_sL, jM.len_sR, jM.len_fI, jM.len_fL, jM.len_fR]; omega) | (simp [jM.len_nw, jM.len_sI, jM.len_sL, jM.len_sR, jM.len_fI, jM.len_fL, jM.len_fR, *]; omega)) (by first | omega | (exact R.r _ _) | (simp only [jM.len_sI, jM.len_sL, jM.len_sR, jM.len_fI, jM.len_fL, jM.len_fR]; omega) | (simp [jM.len_nw, jM.len_sI, jM.len_sL, jM.len_sR, jM.len_fI, jM.len_fL, jM.len_fR, *]; omega)) ?_
                                               exact mQ.of (by unfold sp_usual; (repeat (first | rw [if_pos (by omega)] | rw [if_neg (by omega)])))))
                                     · first
                                       | (exfalso; omega)
                                       | (refine J.iconst (pc' := 58) rfl rfl ?_
                                          refine J.goto (tgt := 62) rfl rfl ?_
                                          refine J.iconst (pc' := 63) rfl rfl ?_
                                          first | refine J.callV (pc' := 66) (t := 16) rfl MX12_may ml_X12_161 iv_X12_may (by decide) ⟨_, rfl, rfl⟩ B.1 (cm_may1 B h0) rfl rfl (Nat.le_of_ble_eq_true rfl) (by first | omega | (exact R.r _ _) | (simp only [jM.len_sI, jM.len_sL, jM.len_sR, jM.len_fI, jM.len_fL, jM.len_fR]; omega) | (simp [jM.len_nw, jM.len_sI, jM.len_sL, jM.len_sR, jM.len_fI, jM.len_fL, jM.len_fR, *]; omega)) (by first | omega | (exact R.r _ _) | (simp only [jM.len_sI, jM.len_sL, jM.len_sR, jM.len_fI, jM.len_fL, jM.len_fR]; omega) | (simp [jM.len_nw, jM.len_sI, jM.len_sL, jM.len_sR, jM.len_fI, jM.len_fL, jM.len_fR, *]; omega)) (by first | omega | (exact R.r _ _) | (simp only [jM.len_sI, jM.len_sL, jM.len_sR, jM.len_fI, jM.len_fL, jM.len_fR]; omega) | (simp [jM.len_nw, jM.len_sI, jM.len_sL, jM.len_sR, jM.len_fI, jM.len_fL, jM.len_fR, *]; omega)) rfl rfl ?_ ?_ | refine J.callV (pc' := 66) (t := 16) rfl MX12_may ml_X12_161 iv_X12_may (by decide) ⟨_, rfl, rfl⟩ B.1 (cm_may0 B h0 (by omega)) rfl rfl (Nat.le_of_ble_eq_true rfl) (by first | omega | (exact R.r _ _) | (simp only [jM.len_sI, jM.len_sL, jM.len_sR, jM.len_fI, jM.len_fL, jM.len_fR]; omega) | (simp [jM.len_nw, jM.len_sI, jM.len_sL, jM.len_sR, jM.len_fI, jM.len_fL, jM.len_fR, *]; omega)) (by first | omega | (exact R.r _ _) | (simp only [jM.len_sI, jM.len_sL, jM.len_sR, jM.len_fI, jM.len_fL, jM.len_fR]; omega) | (simp [jM.len_nw, jM.len_sI, jM.len_sL, jM.len_sR, jM.len_fI, jM.len_fL, jM.len_fR, *]; omega)) (by first | omega | (exact R.r _ _) | (simp only [jM.len_sI, jM.len_sL, jM.len_sR, jM.len_fI, jM.len_fL, jM.len_fR]; omega) | (simp [jM.len_nw, jM.len_sI, jM.len_sL, jM.len_sR, jM.len_fI, jM.len_fL, jM.len_fR, *]; omega)) rfl rfl ?_ ?_
                                          · exact fun _ _ h => h
                                          rintro _ _ ⟨rfl, rfl⟩
                                          refine J.if_ne (tgt := 71) (pc' := 69) rfl rfl rfl (by first | omega | (exact R.r _ _) | (simp only [jM.len_sI, jM.len_sL, jM.len_sR, jM.len_fI, jM.len_fL, jM.len_fR]; omega) | (simp [jM.len_nw, jM.len_sI, jM.len_sL, jM.len_sR, jM.len_fI, jM.len_fL, jM.len_fR, *]; omega)) (fun c66 => ?_) (fun c66 => ?_)
                                          · first
                                            | (exfalso; omega)
                                            | (refine J.iload (pc' := 73) rfl rfl rfl ?_
                                               refine J.if_ne (tgt := 86) (pc' := 76) rfl rfl rfl (by first | omega | (exact R.r _ _) | (simp only [jM.len_sI, jM.len_sL, jM.len_sR, jM.len_fI, jM.len_fL, jM.len_fR]; omega) | (simp [jM.len_nw, jM.len_sI, jM.len_sL, jM.len_sR, jM.len_fI, jM.len_fL, jM.len_fR, *]; omega)) (fun c73 => ?_) (fun c73 => ?_)
                                               · first
                                                 | (exfalso; omega)
                                                 | (first | refine J.aload_n (pc' := 87) rfl rfl rfl ?_ | refine J.aload_nN (pc' := 87) rfl rfl rfl ?_
                                                    refine J.iload_n (pc' := 88) rfl rfl rfl ?_
                                                    refine J.iload_n (pc' := 89) rfl rfl rfl ?_
                                                    refine J.iload_n (pc' := 90) rfl rfl rfl ?_
                                                    refine J.callV (pc' := 93) (t := 16) rfl MX12_highOf ml_X12_182 iv_X12_highOf (by decide) ⟨_, rfl, rfl⟩ B.1 (cm_highOf B R (by omega) (by omega) (by omega)) rfl rfl (Nat.le_of_ble_eq_true rfl) (by first | omega | (exact R.r _ _) | (simp only [jM.len_sI, jM.len_sL, jM.len_sR, jM.len_fI, jM.len_fL, jM.len_fR]; omega) | (simp [jM.len_nw, jM.len_sI, jM.len_sL, jM.len_sR, jM.len_fI, jM.len_fL, jM.len_fR, *]; omega)) (by first | omega | (exact R.r _ _) | (simp only [jM.len_sI, jM.len_sL, jM.len_sR, jM.len_fI, jM.len_fL, jM.len_fR]; omega) | (simp [jM.len_nw, jM.len_sI, jM.len_sL, jM.len_sR, jM.len_fI, jM.len_fL, jM.len_fR, *]; omega)) (by first | omega | (exact R.r _ _) | (simp only [jM.len_sI, jM.len_sL, jM.len_sR, jM.len_fI, jM.len_fL, jM.len_fR]; omega) | (simp [jM.len_nw, jM.len_sI, jM.len_sL, jM.len_sR, jM.len_fI, jM.len_fL, jM.len_fR, *]; omega)) rfl rfl ?_ ?_
                                                    · exact fun _ _ h => h
                                                    rintro _ _ ⟨rfl, rfl⟩
                                                    refine J.iret rfl rfl (by first | omega | (exact R.r _ _) | (simp only [jM.len_sI, jM.len_sL, jM.len_sR, jM.len_fI, jM.len_fL, jM.len_fR]; omega) | (simp [jM.len_nw, jM.len_sI, jM.len_sL, jM.len_sR, jM.len_fI, jM.len_fL, jM.len_fR, *]; omega)) (by first | omega | (exact R.r _ _) | (simp only [jM.len_sI, jM.len_sL, jM.len_sR, jM.len_fI, jM.len_fL, jM.len_fR]; omega) | (simp [jM.len_nw, jM.len_sI, jM.len_sL, jM.len_sR, jM.len_fI, jM.len_fL, jM.len_fR, *]; omega)) ?_
                                                    exact mQ.of (by unfold sp_usual; (repeat (first | rw [if_pos (by omega)] | rw [if_neg (by omega)]))))
                                               · first
                                                 | (exfalso; omega)
                                                 | (first | refine J.aload_n (pc' := 77) rfl rfl rfl ?_ | refine J.aload_nN (pc' := 77) rfl rfl rfl ?_
                                                    refine J.iload_n (pc' := 78) rfl rfl rfl ?_
                                                    refine J.iload_n (pc' := 79) rfl rfl rfl ?_
                                                    refine J.iload_n (pc' := 80) rfl rfl rfl ?_
                                                    refine J.callV (pc' := 83) (t := 16) rfl MX12_lowOf ml_X12_179 iv_X12_lowOf (by decide) ⟨_, rfl, rfl⟩ B.1 (cm_lowOf B R (by omega) (by omega) (by omega)) rfl rfl (Nat.le_of_ble_eq_true rfl) (by first | omega | (exact R.r _ _) | (simp only [jM.len_sI, jM.len_sL, jM.len_sR, jM.len_fI, jM.len_fL, jM.len_fR]; omega) | (simp [jM.len_nw, jM.len_sI, jM.len_sL, jM.len_sR, jM.len_fI, jM.len_fL, jM.len_fR, *]; omega)) (by first | omega | (exact R.r _ _) | (simp only [jM.len_sI, jM.len_sL, jM.len_sR, jM.len_fI, jM.len_fL, jM.len_fR]; omega) | (simp [jM.len_nw, jM.len_sI, jM.len_sL, jM.len_sR, jM.len_fI, jM.len_fL, jM.len_fR, *]; omega)) (by first | omega | (exact R.r _ _) | (simp only [jM.len_sI, jM.len_sL, jM.len_sR, jM.len_fI, jM.len_fL, jM.len_fR]; omega) | (simp [jM.len_nw, jM.len_sI, jM.len_sL, jM.len_sR, jM.len_fI, jM.len_fL, jM.len_fR, *]; omega)) rfl rfl ?_ ?_
                                                    · exact fun _ _ h => h
                                                    rintro _ _ ⟨rfl, rfl⟩
                                                    refine J.goto (tgt := 93) rfl rfl ?_
                                                    refine J.iret rfl rfl (by first | omega | (exact R.r _ _) | (simp only [jM.len_sI, jM.len_sL, jM.len_sR, jM.len_fI, jM.len_fL, jM.len_fR]; omega) | (simp [jM.len_nw, jM.len_sI, jM.len_sL, jM.len_sR, jM.len_fI, jM.len_fL, jM.len_fR, *]; omega)) (by first | omega | (exact R.r _ _) | (simp only [jM.len_sI, jM.len_sL, jM.len_sR, jM.len_fI, jM.len_fL, jM.len_fR]; omega) | (simp [jM.len_nw, jM.len_sI, jM.len_sL, jM.len_sR, jM.len_fI, jM.len_fL, jM.len_fR, *]; omega)) ?_
                                                    exact mQ.of (by unfold sp_usual; (repeat (first | rw [if_pos (by omega)] | rw [if_neg (by omega)])))))
                                          · first
                                            | (exfalso; omega)
                                            | (refine J.iconst (pc' := 70) rfl rfl ?_
                                               refine J.iret rfl rfl (by first | omega | (exact R.r _ _) | (simp only [jM.len_sI, jM.len_sL, jM.len_sR, jM.len_fI, jM.len_fL, jM.len_fR]; omega) | (simp [jM.len_nw, jM.len_sI, jM.len_sL, jM.len_sR, jM.len_fI, jM.len_fL, jM.len_fR, *]; omega)) (by first | omega | (exact R.r _ _) | (simp only [jM.len_sI, jM.len_sL, jM.len_sR, jM.len_fI, jM.len_fL, jM.len_fR]; omega) | (simp [jM.len_nw, jM.len_sI, jM.len_sL, jM.len_sR, jM.len_fI, jM.len_fL, jM.len_fR, *]; omega)) ?_
                                               exact mQ.of (by unfold sp_usual; (repeat (first | rw [if_pos (by omega)] | rw [if_neg (by omega)]))))))))))))
  · first
    | (exfalso; omega)
    | (refine J.if_eq (tgt := 69) (pc' := 13) rfl rfl rfl (by first | omega | (exact R.r _ _) | (simp only [jM.len_sI, jM.len_sL, jM.len_sR, jM.len_fI, jM.len_fL, jM.len_fR]; omega) | (simp [jM.len_nw, jM.len_sI, jM.len_sL, jM.len_sR, jM.len_fI, jM.len_fL, jM.len_fR, *]; omega)) (fun c10 => ?_) (fun c10 => ?_)
       · first
         | (exfalso; omega)
         | (refine J.iconst (pc' := 70) rfl rfl ?_
            refine J.iret rfl rfl (by first | omega | (exact R.r _ _) | (simp only [jM.len_sI, jM.len_sL, jM.len_sR, jM.len_fI, jM.len_fL, jM.len_fR]; omega) | (simp [jM.len_nw, jM.len_sI, jM.len_sL, jM.len_sR, jM.len_fI, jM.len_fL, jM.len_fR, *]; omega)) (by first | omega | (exact R.r _ _) | (simp only [jM.len_sI, jM.len_sL, jM.len_sR, jM.len_fI, jM.len_fL, jM.len_fR]; omega) | (simp [jM.len_nw, jM.len_sI, jM.len_sL, jM.len_sR, jM.len_fI, jM.len_fL, jM.len_fR, *]; omega)) ?_
            exact mQ.of (by unfold sp_usual; (repeat (first | rw [if_pos (by omega)] | rw [if_neg (by omega)]))))
       · first
         | (exfalso; omega)
         | (first | refine J.aload_n (pc' := 14) rfl rfl rfl ?_ | refine J.aload_nN (pc' := 14) rfl rfl rfl ?_
            refine J.iload_n (pc' := 15) rfl rfl rfl ?_
            refine J.if_lt (tgt := 30) (pc' := 18) rfl rfl rfl (by first | omega | (exact R.r _ _) | (simp only [jM.len_sI, jM.len_sL, jM.len_sR, jM.len_fI, jM.len_fL, jM.len_fR]; omega) | (simp [jM.len_nw, jM.len_sI, jM.len_sL, jM.len_sR, jM.len_fI, jM.len_fL, jM.len_fR, *]; omega)) (fun c15 => ?_) (fun c15 => ?_)
            · first
              | (exfalso; omega)
              | (refine J.iconst (pc' := 31) rfl rfl ?_
                 refine J.iconst (pc' := 32) rfl rfl ?_
                 first | refine J.callV (pc' := 35) (t := 16) rfl MX12_may ml_X12_161 iv_X12_may (by decide) ⟨_, rfl, rfl⟩ B.1 (cm_may1 B h0) rfl rfl (Nat.le_of_ble_eq_true rfl) (by first | omega | (exact R.r _ _) | (simp only [jM.len_sI, jM.len_sL, jM.len_sR, jM.len_fI, jM.len_fL, jM.len_fR]; omega) | (simp [jM.len_nw, jM.len_sI, jM.len_sL, jM.len_sR, jM.len_fI, jM.len_fL, jM.len_fR, *]; omega)) (by first | omega | (exact R.r _ _) | (simp only [jM.len_sI, jM.len_sL, jM.len_sR, jM.len_fI, jM.len_fL, jM.len_fR]; omega) | (simp [jM.len_nw, jM.len_sI, jM.len_sL, jM.len_sR, jM.len_fI, jM.len_fL, jM.len_fR, *]; omega)) (by first | omega | (exact R.r _ _) | (simp only [jM.len_sI, jM.len_sL, jM.len_sR, jM.len_fI, jM.len_fL, jM.len_fR]; omega) | (simp [jM.len_nw, jM.len_sI, jM.len_sL, jM.len_sR, jM.len_fI, jM.len_fL, jM.len_fR, *]; omega)) rfl rfl ?_ ?_ | refine J.callV (pc' := 35) (t := 16) rfl MX12_may ml_X12_161 iv_X12_may (by decide) ⟨_, rfl, rfl⟩ B.1 (cm_may0 B h0 (by omega)) rfl rfl (Nat.le_of_ble_eq_true rfl) (by first | omega | (exact R.r _ _) | (simp only [jM.len_sI, jM.len_sL, jM.len_sR, jM.len_fI, jM.len_fL, jM.len_fR]; omega) | (simp [jM.len_nw, jM.len_sI, jM.len_sL, jM.len_sR, jM.len_fI, jM.len_fL, jM.len_fR, *]; omega)) (by first | omega | (exact R.r _ _) | (simp only [jM.len_sI, jM.len_sL, jM.len_sR, jM.len_fI, jM.len_fL, jM.len_fR]; omega) | (simp [jM.len_nw, jM.len_sI, jM.len_sL, jM.len_sR, jM.len_fI, jM.len_fL, jM.len_fR, *]; omega)) (by first | omega | (exact R.r _ _) | (simp only [jM.len_sI, jM.len_sL, jM.len_sR, jM.len_fI, jM.len_fL, jM.len_fR]; omega) | (simp [jM.len_nw, jM.len_sI, jM.len_sL, jM.len_sR, jM.len_fI, jM.len_fL, jM.len_fR, *]; omega)) rfl rfl ?_ ?_
                 · exact fun _ _ h => h
                 rintro _ _ ⟨rfl, rfl⟩
                 refine J.if_eq (tgt := 69) (pc' := 38) rfl rfl rfl (by first | omega | (exact R.r _ _) | (simp only [jM.len_sI, jM.len_sL, jM.len_sR, jM.len_fI, jM.len_fL, jM.len_fR]; omega) | (simp [jM.len_nw, jM.len_sI, jM.len_sL, jM.len_sR, jM.len_fI, jM.len_fL, jM.len_fR, *]; omega)) (fun c35 => ?_) (fun c35 => ?_)
                 · first
                   | (exfalso; omega)
                   | (refine J.iconst (pc' := 70) rfl rfl ?_
                      refine J.iret rfl rfl (by first | omega | (exact R.r _ _) | (simp only [jM.len_sI, jM.len_sL, jM.len_sR, jM.len_fI, jM.len_fL, jM.len_fR]; omega) | (simp [jM.len_nw, jM.len_sI, jM.len_sL, jM.len_sR, jM.len_fI, jM.len_fL, jM.len_fR, *]; omega)) (by first | omega | (exact R.r _ _) | (simp only [jM.len_sI, jM.len_sL, jM.len_sR, jM.len_fI, jM.len_fL, jM.len_fR]; omega) | (simp [jM.len_nw, jM.len_sI, jM.len_sL, jM.len_sR, jM.len_fI, jM.len_fL, jM.len_fR, *]; omega)) ?_
                      exact mQ.of (by unfold sp_usual; (repeat (first | rw [if_pos (by omega)] | rw [if_neg (by omega)]))))
                 · first
                   | (exfalso; omega)
                   | (first | refine J.aload_n (pc' := 39) rfl rfl rfl ?_ | refine J.aload_nN (pc' := 39) rfl rfl rfl ?_
                      refine J.iload_n (pc' := 40) rfl rfl rfl ?_
                      refine J.callS (pc' := 43) rfl MX12_isMetal ml_X12_157 is_X12_isMetal (cm_isMetal hm) rfl rfl (Nat.le_of_ble_eq_true rfl) (by first | omega | (exact R.r _ _) | (simp only [jM.len_sI, jM.len_sL, jM.len_sR, jM.len_fI, jM.len_fL, jM.len_fR]; omega) | (simp [jM.len_nw, jM.len_sI, jM.len_sL, jM.len_sR, jM.len_fI, jM.len_fL, jM.len_fR, *]; omega)) (by first | omega | (exact R.r _ _) | (simp only [jM.len_sI, jM.len_sL, jM.len_sR, jM.len_fI, jM.len_fL, jM.len_fR]; omega) | (simp [jM.len_nw, jM.len_sI, jM.len_sL, jM.len_sR, jM.len_fI, jM.len_fL, jM.len_fR, *]; omega)) (by first | omega | (exact R.r _ _) | (simp only [jM.len_sI, jM.len_sL, jM.len_sR, jM.len_fI, jM.len_fL, jM.len_fR]; omega) | (simp [jM.len_nw, jM.len_sI, jM.len_sL, jM.len_sR, jM.len_fI, jM.len_fL, jM.len_fR, *]; omega)) rfl rfl ?_ ?_
                      · exact fun _ _ h => h
                      rintro _ _ ⟨b, hb1, rfl, rfl⟩
                      refine J.if_eq (tgt := 61) (pc' := 46) rfl rfl rfl (by first | omega | (exact R.r _ _) | (simp only [jM.len_sI, jM.len_sL, jM.len_sR, jM.len_fI, jM.len_fL, jM.len_fR]; omega) | (simp [jM.len_nw, jM.len_sI, jM.len_sL, jM.len_sR, jM.len_fI, jM.len_fL, jM.len_fR, *]; omega)) (fun c43 => ?_) (fun c43 => ?_)
                      · first
                        | (exfalso; omega)
                        | (refine J.iconst (pc' := 62) rfl rfl ?_
                           refine J.iconst (pc' := 63) rfl rfl ?_
                           first | refine J.callV (pc' := 66) (t := 16) rfl MX12_may ml_X12_161 iv_X12_may (by decide) ⟨_, rfl, rfl⟩ B.1 (cm_may1 B h0) rfl rfl (Nat.le_of_ble_eq_true rfl) (by first | omega | (exact R.r _ _) | (simp only [jM.len_sI, jM.len_sL, jM.len_sR, jM.len_fI, jM.len_fL, jM.len_fR]; omega) | (simp [jM.len_nw, jM.len_sI, jM.len_sL, jM.len_sR, jM.len_fI, jM.len_fL, jM.len_fR, *]; omega)) (by first | omega | (exact R.r _ _) | (simp only [jM.len_sI, jM.len_sL, jM.len_sR, jM.len_fI, jM.len_fL, jM.len_fR]; omega) | (simp [jM.len_nw, jM.len_sI, jM.len_sL, jM.len_sR, jM.len_fI, jM.len_fL, jM.len_fR, *]; omega)) (by first | omega | (exact R.r _ _) | (simp only [jM.len_sI, jM.len_sL, jM.len_sR, jM.len_fI, jM.len_fL, jM.len_fR]; omega) | (simp [jM.len_nw, jM.len_sI, jM.len_sL, jM.len_sR, jM.len_fI, jM.len_fL, jM.len_fR, *]; omega)) rfl rfl ?_ ?_ | refine J.callV (pc' := 66) (t := 16) rfl MX12_may ml_X12_161 iv_X12_may (by decide) ⟨_, rfl, rfl⟩ B.1 (cm_may0 B h0 (by omega)) rfl rfl (Nat.le_of_ble_eq_true rfl) (by first | omega | (exact R.r _ _) | (simp only [jM.len_sI, jM.len_sL, jM.len_sR, jM.len_fI, jM.len_fL, jM.len_fR]; omega) | (simp [jM.len_nw, jM.len_sI, jM.len_sL, jM.len_sR, jM.len_fI, jM.len_fL, jM.len_fR, *]; omega)) (by first | omega | (exact R.r _ _) | (simp only [jM.len_sI, jM.len_sL, jM.len_sR, jM.len_fI, jM.len_fL, jM.len_fR]; omega) | (simp [jM.len_nw, jM.len_sI, jM.len_sL, jM.len_sR, jM.len_fI, jM.len_fL, jM.len_fR, *]; omega)) (by first | omega | (exact R.r _ _) | (simp only [jM.len_sI, jM.len_sL, jM.len_sR, jM.len_fI, jM.len_fL, jM.len_fR]; omega) | (simp [jM.len_nw, jM.len_sI, jM.len_sL, jM.len_sR, jM.len_fI, jM.len_fL, jM.len_fR, *]; omega)) rfl rfl ?_ ?_
                           · exact fun _ _ h => h
                           rintro _ _ ⟨rfl, rfl⟩
                           refine J.if_ne (tgt := 71) (pc' := 69) rfl rfl rfl (by first | omega | (exact R.r _ _) | (simp only [jM.len_sI, jM.len_sL, jM.len_sR, jM.len_fI, jM.len_fL, jM.len_fR]; omega) | (simp [jM.len_nw, jM.len_sI, jM.len_sL, jM.len_sR, jM.len_fI, jM.len_fL, jM.len_fR, *]; omega)) (fun c66 => ?_) (fun c66 => ?_)
                           · first
                             | (exfalso; omega)
                             | (refine J.iload (pc' := 73) rfl rfl rfl ?_
                                refine J.if_ne (tgt := 86) (pc' := 76) rfl rfl rfl (by first | omega | (exact R.r _ _) | (simp only [jM.len_sI, jM.len_sL, jM.len_sR, jM.len_fI, jM.len_fL, jM.len_fR]; omega) | (simp [jM.len_nw, jM.len_sI, jM.len_sL, jM.len_sR, jM.len_fI, jM.len_fL, jM.len_fR, *]; omega)) (fun c73 => ?_) (fun c73 => ?_)
                                · first
                                  | (exfalso; omega)
                                  | (first | refine J.aload_n (pc' := 87) rfl rfl rfl ?_ | refine J.aload_nN (pc' := 87) rfl rfl rfl ?_
                                     refine J.iload_n (pc' := 88) rfl rfl rfl ?_
                                     refine J.iload_n (pc' := 89) rfl rfl rfl ?_
                                     refine J.iload_n (pc' := 90) rfl rfl rfl ?_
                                     refine J.callV (pc' := 93) (t := 16) rfl MX12_highOf ml_X12_182 iv_X12_highOf (by decide) ⟨_, rfl, rfl⟩ B.1 (cm_highOf B R (by omega) (by omega) (by omega)) rfl rfl (Nat.le_of_ble_eq_true rfl) (by first | omega | (exact R.r _ _) | (simp only [jM.len_sI, jM.len_sL, jM.len_sR, jM.len_fI, jM.len_fL, jM.len_fR]; omega) | (simp [jM.len_nw, jM.len_sI, jM.len_sL, jM.len_sR, jM.len_fI, jM.len_fL, jM.len_fR, *]; omega)) (by first | omega | (exact R.r _ _) | (simp only [jM.len_sI, jM.len_sL, jM.len_sR, jM.len_fI, jM.len_fL, jM.len_fR]; omega) | (simp [jM.len_nw, jM.len_sI, jM.len_sL, jM.len_sR, jM.len_fI, jM.len_fL, jM.len_fR, *]; omega)) (by first | omega | (exact R.r _ _) | (simp only [jM.len_sI, jM.len_sL, jM.len_sR, jM.len_fI, jM.len_fL, jM.len_fR]; omega) | (simp [jM.len_nw, jM.len_sI, jM.len_sL, jM.len_sR, jM.len_fI, jM.len_fL, jM.len_fR, *]; omega)) rfl rfl ?_ ?_
                                     · exact fun _ _ h => h
                                     rintro _ _ ⟨rfl, rfl⟩
                                     refine J.iret rfl rfl (by first | omega | (exact R.r _ _) | (simp only [jM.len_sI, jM.len_sL, jM.len_sR, jM.len_fI, jM.len_fL, jM.len_fR]; omega) | (simp [jM.len_nw, jM.len_sI, jM.len_sL, jM.len_sR, jM.len_fI, jM.len_fL, jM.len_fR, *]; omega)) (by first | omega | (exact R.r _ _) | (simp only [jM.len_sI, jM.len_sL, jM.len_sR, jM.len_fI, jM.len_fL, jM.len_fR]; omega) | (simp [jM.len_nw, jM.len_sI, jM.len_sL, jM.len_sR, jM.len_fI, jM.len_fL, jM.len_fR, *]; omega)) ?_
                                     exact mQ.of (by unfold sp_usual; (repeat (first | rw [if_pos (by omega)] | rw [if_neg (by omega)]))))
                                · first
                                  | (exfalso; omega)
                                  | (first | refine J.aload_n (pc' := 77) rfl rfl rfl ?_ | refine J.aload_nN (pc' := 77) rfl rfl rfl ?_
                                     refine J.iload_n (pc' := 78) rfl rfl rfl ?_
                                     refine J.iload_n (pc' := 79) rfl rfl rfl ?_
                                     refine J.iload_n (pc' := 80) rfl rfl rfl ?_
                                     refine J.callV (pc' := 83) (t := 16) rfl MX12_lowOf ml_X12_179 iv_X12_lowOf (by decide) ⟨_, rfl, rfl⟩ B.1 (cm_lowOf B R (by omega) (by omega) (by omega)) rfl rfl (Nat.le_of_ble_eq_true rfl) (by first | omega | (exact R.r _ _) | (simp only [jM.len_sI, jM.len_sL, jM.len_sR, jM.len_fI, jM.len_fL, jM.len_fR]; omega) | (simp [jM.len_nw, jM.len_sI, jM.len_sL, jM.len_sR, jM.len_fI, jM.len_fL, jM.len_fR, *]; omega)) (by first | omega | (exact R.r _ _) | (simp only [jM.len_sI, jM.len_sL, jM.len_sR, jM.len_fI, jM.len_fL, jM.len_fR]; omega) | (simp [jM.len_nw, jM.len_sI, jM.len_sL, jM.len_sR, jM.len_fI, jM.len_fL, jM.len_fR, *]; omega)) (by first | omega | (exact R.r _ _) | (simp only [jM.len_sI, jM.len_sL, jM.len_sR, jM.len_fI, jM.len_fL, jM.len_fR]; omega) | (simp [jM.len_nw, jM.len_sI, jM.len_sL, jM.len_sR, jM.len_fI, jM.len_fL, jM.len_fR, *]; omega)) rfl rfl ?_ ?_
                                     · exact fun _ _ h => h
                                     rintro _ _ ⟨rfl, rfl⟩
                                     refine J.goto (tgt := 93) rfl rfl ?_
                                     refine J.iret rfl rfl (by first | omega | (exact R.r _ _) | (simp only [jM.len_sI, jM.len_sL, jM.len_sR, jM.len_fI, jM.len_fL, jM.len_fR]; omega) | (simp [jM.len_nw, jM.len_sI, jM.len_sL, jM.len_sR, jM.len_fI, jM.len_fL, jM.len_fR, *]; omega)) (by first | omega | (exact R.r _ _) | (simp only [jM.len_sI, jM.len_sL, jM.len_sR, jM.len_fI, jM.len_fL, jM.len_fR]; omega) | (simp [jM.len_nw, jM.len_sI, jM.len_sL, jM.len_sR, jM.len_fI, jM.len_fL, jM.len_fR, *]; omega)) ?_
                                     exact mQ.of (by unfold sp_usual; (repeat (first | rw [if_pos (by omega)] | rw [if_neg (by omega)])))))
                           · first
                             | (exfalso; omega)
                             | (refine J.iconst (pc' := 70) rfl rfl ?_
                                refine J.iret rfl rfl (by first | omega | (exact R.r _ _) | (simp only [jM.len_sI, jM.len_sL, jM.len_sR, jM.len_fI, jM.len_fL, jM.len_fR]; omega) | (simp [jM.len_nw, jM.len_sI, jM.len_sL, jM.len_sR, jM.len_fI, jM.len_fL, jM.len_fR, *]; omega)) (by first | omega | (exact R.r _ _) | (simp only [jM.len_sI, jM.len_sL, jM.len_sR, jM.len_fI, jM.len_fL, jM.len_fR]; omega) | (simp [jM.len_nw, jM.len_sI, jM.len_sL, jM.len_sR, jM.len_fI, jM.len_fL, jM.len_fR, *]; omega)) ?_
                                exact mQ.of (by unfold sp_usual; (repeat (first | rw [if_pos (by omega)] | rw [if_neg (by omega)])))))
                      · first
                        | (exfalso; omega)
                        | (refine J.iload (pc' := 48) rfl rfl rfl ?_
                           refine J.if_eq (tgt := 57) (pc' := 51) rfl rfl rfl (by first | omega | (exact R.r _ _) | (simp only [jM.len_sI, jM.len_sL, jM.len_sR, jM.len_fI, jM.len_fL, jM.len_fR]; omega) | (simp [jM.len_nw, jM.len_sI, jM.len_sL, jM.len_sR, jM.len_fI, jM.len_fL, jM.len_fR, *]; omega)) (fun c48 => ?_) (fun c48 => ?_)
                           · first
                             | (exfalso; omega)
                             | (refine J.iconst (pc' := 58) rfl rfl ?_
                                refine J.goto (tgt := 62) rfl rfl ?_
                                refine J.iconst (pc' := 63) rfl rfl ?_
                                first | refine J.callV (pc' := 66) (t := 16) rfl MX12_may ml_X12_161 iv_X12_may (by decide) ⟨_, rfl, rfl⟩ B.1 (cm_may1 B h0) rfl rfl (Nat.le_of_ble_eq_true rfl) (by first | omega | (exact R.r _ _) | (simp only [jM.len_sI, jM.len_sL, jM.len_sR, jM.len_fI, jM.len_fL, jM.len_fR]; omega) | (simp [jM.len_nw, jM.len_sI, jM.len_sL, jM.len_sR, jM.len_fI, jM.len_fL, jM.len_fR, *]; omega)) (by first | omega | (exact R.r _ _) | (simp only [jM.len_sI, jM.len_sL, jM.len_sR, jM.len_fI, jM.len_fL, jM.len_fR]; omega) | (simp [jM.len_nw, jM.len_sI, jM.len_sL, jM.len_sR, jM.len_fI, jM.len_fL, jM.len_fR, *]; omega)) (by first | omega | (exact R.r _ _) | (simp only [jM.len_sI, jM.len_sL, jM.len_sR, jM.len_fI, jM.len_fL, jM.len_fR]; omega) | (simp [jM.len_nw, jM.len_sI, jM.len_sL, jM.len_sR, jM.len_fI, jM.len_fL, jM.len_fR, *]; omega)) rfl rfl ?_ ?_ | refine J.callV (pc' := 66) (t := 16) rfl MX12_may ml_X12_161 iv_X12_may (by decide) ⟨_, rfl, rfl⟩ B.1 (cm_may0 B h0 (by omega)) rfl rfl (Nat.le_of_ble_eq_true rfl) (by first | omega | (exact R.r _ _) | (simp only [jM.len_sI, jM.len_sL, jM.len_sR, jM.len_fI, jM.len_fL, jM.len_fR]; omega) | (simp [jM.len_nw, jM.len_sI, jM.len_sL, jM.len_sR, jM.len_fI, jM.len_fL, jM.len_fR, *]; omega)) (by first | omega | (exact R.r _ _) | (simp only [jM.len_sI, jM.len_sL, jM.len_sR, jM.len_fI, jM.len_fL, jM.len_fR]; omega) | (simp [jM.len_nw, jM.len_sI, jM.len_sL, jM.len_sR, jM.len_fI, jM.len_fL, jM.len_fR, *]; omega)) (by first | omega | (exact R.r _ _) | (simp only [jM.len_sI, jM.len_sL, jM.len_sR, jM.len_fI, jM.len_fL, jM.len_fR]; omega) | (simp [jM.len_nw, jM.len_sI, jM.len_sL, jM.len_sR, jM.len_fI, jM.len_fL, jM.len_fR, *]; omega)) rfl rfl ?_ ?_
                                · exact fun _ _ h => h
                                rintro _ _ ⟨rfl, rfl⟩
                                refine J.if_ne (tgt := 71) (pc' := 69) rfl rfl rfl (by first | omega | (exact R.r _ _) | (simp only [jM.len_sI, jM.len_sL, jM.len_sR, jM.len_fI, jM.len_fL, jM.len_fR]; omega) | (simp [jM.len_nw, jM.len_sI, jM.len_sL, jM.len_sR, jM.len_fI, jM.len_fL, jM.len_fR, *]; omega)) (fun c66 => ?_) (fun c66 => ?_)
                                · first
                                  | (exfalso; omega)
                                  | (refine J.iload (pc' := 73) rfl rfl rfl ?_
                                     refine J.if_ne (tgt := 86) (pc' := 76) rfl rfl rfl (by first | omega | (exact R.r _ _) | (simp only [jM.len_sI, jM.len_sL, jM.len_sR, jM.len_fI, jM.len_fL, jM.len_fR]; omega) | (simp [jM.len_nw, jM.len_sI, jM.len_sL, jM.len_sR, jM.len_fI, jM.len_fL, jM.len_fR, *]; omega)) (fun c73 => ?_) (fun c73 => ?_)
                                     · first
                                       | (exfalso; omega)
                                       | (first | refine J.aload_n (pc' := 87) rfl rfl rfl ?_ | refine J.aload_nN (pc' := 87) rfl rfl rfl ?_
                                          refine J.iload_n (pc' := 88) rfl rfl rfl ?_
                                          refine J.iload_n (pc' := 89) rfl rfl rfl ?_
                                          refine J.iload_n (pc' := 90) rfl rfl rfl ?_
                                          refine J.callV (pc' := 93) (t := 16) rfl MX12_highOf ml_X12_182 iv_X12_highOf (by decide) ⟨_, rfl, rfl⟩ B.1 (cm_highOf B R (by omega) (by omega) (by omega)) rfl rfl (Nat.le_of_ble_eq_true rfl) (by first | omega | (exact R.r _ _) | (simp only [jM.len_sI, jM.len_sL, jM.len_sR, jM.len_fI, jM.len_fL, jM.len_fR]; omega) | (simp [jM.len_nw, jM.len_sI, jM.len_sL, jM.len_sR, jM.len_fI, jM.len_fL, jM.len_fR, *]; omega)) (by first | omega | (exact R.r _ _) | (simp only [jM.len_sI, jM.len_sL, jM.len_sR, jM.len_fI, jM.len_fL, jM.len_fR]; omega) | (simp [jM.len_nw, jM.len_sI, jM.len_sL, jM.len_sR, jM.len_fI, jM.len_fL, jM.len_fR, *]; omega)) (by first | omega | (exact R.r _ _) | (simp only [jM.len_sI, jM.len_sL, jM.len_sR, jM.len_fI, jM.len_fL, jM.len_fR]; omega) | (simp [jM.len_nw, jM.len_sI, jM.len_sL, jM.len_sR, jM.len_fI, jM.len_fL, jM.len_fR, *]; omega)) rfl rfl ?_ ?_
                                          · exact fun _ _ h => h
                                          rintro _ _ ⟨rfl, rfl⟩
                                          refine J.iret rfl rfl (by first | omega | (exact R.r _ _) | (simp only [jM.len_sI, jM.len_sL, jM.len_sR, jM.len_fI, jM.len_fL, jM.len_fR]; omega) | (simp [jM.len_nw, jM.len_sI, jM.len_sL, jM.len_sR, jM.len_fI, jM.len_fL, jM.len_fR, *]; omega)) (by first | omega | (exact R.r _ _) | (simp only [jM.len_sI, jM.len_sL, jM.len_sR, jM.len_fI, jM.len_fL, jM.len_fR]; omega) | (simp [jM.len_nw, jM.len_sI, jM.len_sL, jM.len_sR, jM.len_fI, jM.len_fL, jM.len_fR, *]; omega)) ?_
                                          exact mQ.of (by unfold sp_usual; (repeat (first | rw [if_pos (by omega)] | rw [if_neg (by omega)]))))
                                     · first
                                       | (exfalso; omega)
                                       | (first | refine J.aload_n (pc' := 77) rfl rfl rfl ?_ | refine J.aload_nN (pc' := 77) rfl rfl rfl ?_
                                          refine J.iload_n (pc' := 78) rfl rfl rfl ?_
                                          refine J.iload_n (pc' := 79) rfl rfl rfl ?_
                                          refine J.iload_n (pc' := 80) rfl rfl rfl ?_
                                          refine J.callV (pc' := 83) (t := 16) rfl MX12_lowOf ml_X12_179 iv_X12_lowOf (by decide) ⟨_, rfl, rfl⟩ B.1 (cm_lowOf B R (by omega) (by omega) (by omega)) rfl rfl (Nat.le_of_ble_eq_true rfl) (by first | omega | (exact R.r _ _) | (simp only [jM.len_sI, jM.len_sL, jM.len_sR, jM.len_fI, jM.len_fL, jM.len_fR]; omega) | (simp [jM.len_nw, jM.len_sI, jM.len_sL, jM.len_sR, jM.len_fI, jM.len_fL, jM.len_fR, *]; omega)) (by first | omega | (exact R.r _ _) | (simp only [jM.len_sI, jM.len_sL, jM.len_sR, jM.len_fI, jM.len_fL, jM.len_fR]; omega) | (simp [jM.len_nw, jM.len_sI, jM.len_sL, jM.len_sR, jM.len_fI, jM.len_fL, jM.len_fR, *]; omega)) (by first | omega | (exact R.r _ _) | (simp only [jM.len_sI, jM.len_sL, jM.len_sR, jM.len_fI, jM.len_fL, jM.len_fR]; omega) | (simp [jM.len_nw, jM.len_sI, jM.len_sL, jM.len_sR, jM.len_fI, jM.len_fL, jM.len_fR, *]; omega)) rfl rfl ?_ ?_
                                          · exact fun _ _ h => h
                                          rintro _ _ ⟨rfl, rfl⟩
                                          refine J.goto (tgt := 93) rfl rfl ?_
                                          refine J.iret rfl rfl (by first | omega | (exact R.r _ _) | (simp only [jM.len_sI, jM.len_sL, jM.len_sR, jM.len_fI, jM.len_fL, jM.len_fR]; omega) | (simp [jM.len_nw, jM.len_sI, jM.len_sL, jM.len_sR, jM.len_fI, jM.len_fL, jM.len_fR, *]; omega)) (by first | omega | (exact R.r _ _) | (simp only [jM.len_sI, jM.len_sL, jM.len_sR, jM.len_fI, jM.len_fL, jM.len_fR]; omega) | (simp [jM.len_nw, jM.len_sI, jM.len_sL, jM.len_sR, jM.len_fI, jM.len_fL, jM.len_fR, *]; omega)) ?_
                                          exact mQ.of (by unfold sp_usual; (repeat (first | rw [if_pos (by omega)] | rw [if_neg (by omega)])))))
                                · first
                                  | (exfalso; omega)
                                  | (refine J.iconst (pc' := 70) rfl rfl ?_
                                     refine J.iret rfl rfl (by first | omega | (exact R.r _ _) | (simp only [jM.len_sI, jM.len_sL, jM.len_sR, jM.len_fI, jM.len_fL, jM.len_fR]; omega) | (simp [jM.len_nw, jM.len_sI, jM.len_sL, jM.len_sR, jM.len_fI, jM.len_fL, jM.len_fR, *]; omega)) (by first | omega | (exact R.r _ _) | (simp only [jM.len_sI, jM.len_sL, jM.len_sR, jM.len_fI, jM.len_fL, jM.len_fR]; omega) | (simp [jM.len_nw, jM.len_sI, jM.len_sL, jM.len_sR, jM.len_fI, jM.len_fL, jM.len_fR, *]; omega)) ?_
                                     exact mQ.of (by unfold sp_usual; (repeat (first | rw [if_pos (by omega)] | rw [if_neg (by omega)])))))
                           · first
                             | (exfalso; omega)
                             | (refine J.iload (pc' := 53) rfl rfl rfl ?_
                                refine J.iconst (pc' := 54) rfl rfl ?_
                                refine J.icmp_ne (tgt := 61) (pc' := 57) rfl rfl rfl (by first | omega | (exact R.r _ _) | (simp only [jM.len_sI, jM.len_sL, jM.len_sR, jM.len_fI, jM.len_fL, jM.len_fR]; omega) | (simp [jM.len_nw, jM.len_sI, jM.len_sL, jM.len_sR, jM.len_fI, jM.len_fL, jM.len_fR, *]; omega)) (by first | omega | (exact R.r _ _) | (simp only [jM.len_sI, jM.len_sL, jM.len_sR, jM.len_fI, jM.len_fL, jM.len_fR]; omega) | (simp [jM.len_nw, jM.len_sI, jM.len_sL, jM.len_sR, jM.len_fI, jM.len_fL, jM.len_fR, *]; omega)) (fun c54 => ?_) (fun c54 => ?_)
                                · first
                                  | (exfalso; omega)
                                  | (refine J.iconst (pc' := 62) rfl rfl ?_
                                     refine J.iconst (pc' := 63) rfl rfl ?_
                                     first | refine J.callV (pc' := 66) (t := 16) rfl MX12_may ml_X12_161 iv_X12_may (by decide) ⟨_, rfl, rfl⟩ B.1 (cm_may1 B h0) rfl rfl (Nat.le_of_ble_eq_true rfl) (by first | omega | (exact R.r _ _) | (simp only [jM.len_sI, jM.len_sL, jM.len_sR, jM.len_fI, jM.len_fL, jM.len_fR]; omega) | (simp [jM.len_nw, jM.len_sI, jM.len_sL, jM.len_sR, jM.len_fI, jM.len_fL, jM.len_fR, *]; omega)) (by first | omega | (exact R.r _ _) | (simp only [jM.len_sI, jM.len_sL, jM.len_sR, jM.len_fI, jM.len_fL, jM.len_fR]; omega) | (simp [jM.len_nw, jM.len_sI, jM.len_sL, jM.len_sR, jM.len_fI, jM.len_fL, jM.len_fR, *]; omega)) (by first | omega | (exact R.r _ _) | (simp only [jM.len_sI, jM.len_sL, jM.len_sR, jM.len_fI, jM.len_fL, jM.len_fR]; omega) | (simp [jM.len_nw, jM.len_sI, jM.len_sL, jM.len_sR, jM.len_fI, jM.len_fL, jM.len_fR, *]; omega)) rfl rfl ?_ ?_ | refine J.callV (pc' := 66) (t := 16) rfl MX12_may ml_X12_161 iv_X12_may (by decide) ⟨_, rfl, rfl⟩ B.1 (cm_may0 B h0 (by omega)) rfl rfl (Nat.le_of_ble_eq_true rfl) (by first | omega | (exact R.r _ _) | (simp only [jM.len_sI, jM.len_sL, jM.len_sR, jM.len_fI, jM.len_fL, jM.len_fR]; omega) | (simp [jM.len_nw, jM.len_sI, jM.len_sL, jM.len_sR, jM.len_fI, jM.len_fL, jM.len_fR, *]; omega)) (by first | omega | (exact R.r _ _) | (simp only [jM.len_sI, jM.len_sL, jM.len_sR, jM.len_fI, jM.len_fL, jM.len_fR]; omega) | (simp [jM.len_nw, jM.len_sI, jM.len_sL, jM.len_sR, jM.len_fI, jM.len_fL, jM.len_fR, *]; omega)) (by first | omega | (exact R.r _ _) | (simp only [jM.len_sI, jM.len_sL, jM.len_sR, jM.len_fI, jM.len_fL, jM.len_fR]; omega) | (simp [jM.len_nw, jM.len_sI, jM.len_sL, jM.len_sR, jM.len_fI, jM.len_fL, jM.len_fR, *]; omega)) rfl rfl ?_ ?_
                                     · exact fun _ _ h => h
                                     rintro _ _ ⟨rfl, rfl⟩
                                     refine J.if_ne (tgt := 71) (pc' := 69) rfl rfl rfl (by first | omega | (exact R.r _ _) | (simp only [jM.len_sI, jM.len_sL, jM.len_sR, jM.len_fI, jM.len_fL, jM.len_fR]; omega) | (simp [jM.len_nw, jM.len_sI, jM.len_sL, jM.len_sR, jM.len_fI, jM.len_fL, jM.len_fR, *]; omega)) (fun c66 => ?_) (fun c66 => ?_)
                                     · first
                                       | (exfalso; omega)
                                       | (refine J.iload (pc' := 73) rfl rfl rfl ?_
                                          refine J.if_ne (tgt := 86) (pc' := 76) rfl rfl rfl (by first | omega | (exact R.r _ _) | (simp only [jM.len_sI, jM.len_sL, jM.len_sR, jM.len_fI, jM.len_fL, jM.len_fR]; omega) | (simp [jM.len_nw, jM.len_sI, jM.len_sL, jM.len_sR, jM.len_fI, jM.len_fL, jM.len_fR, *]; omega)) (fun c73 => ?_) (fun c73 => ?_)
                                          · first
                                            | (exfalso; omega)
                                            | (first | refine J.aload_n (pc' := 87) rfl rfl rfl ?_ | refine J.aload_nN (pc' := 87) rfl rfl rfl ?_
                                               refine J.iload_n (pc' := 88) rfl rfl rfl ?_
                                               refine J.iload_n (pc' := 89) rfl rfl rfl ?_
                                               refine J.iload_n (pc' := 90) rfl rfl rfl ?_
                                               refine J.callV (pc' := 93) (t := 16) rfl MX12_highOf ml_X12_182 iv_X12_highOf (by decide) ⟨_, rfl, rfl⟩ B.1 (cm_highOf B R (by omega) (by omega) (by omega)) rfl rfl (Nat.le_of_ble_eq_true rfl) (by first | omega | (exact R.r _ _) | (simp only [jM.len_sI, jM.len_sL, jM.len_sR, jM.len_fI, jM.len_fL, jM.len_fR]; omega) | (simp [jM.len_nw, jM.len_sI, jM.len_sL, jM.len_sR, jM.len_fI, jM.len_fL, jM.len_fR, *]; omega)) (by first | omega | (exact R.r _ _) | (simp only [jM.len_sI, jM.len_sL, jM.len_sR, jM.len_fI, jM.len_fL, jM.len_fR]; omega) | (simp [jM.len_nw, jM.len_sI, jM.len_sL, jM.len_sR, jM.len_fI, jM.len_fL, jM.len_fR, *]; omega)) (by first | omega | (exact R.r _ _) | (simp only [jM.len_sI, jM.len_sL, jM.len_sR, jM.len_fI, jM.len_fL, jM.len_fR]; omega) | (simp [jM.len_nw, jM.len_sI, jM.len_sL, jM.len_sR, jM.len_fI, jM.len_fL, jM.len_fR, *]; omega)) rfl rfl ?_ ?_
                                               · exact fun _ _ h => h
                                               rintro _ _ ⟨rfl, rfl⟩
                                               refine J.iret rfl rfl (by first | omega | (exact R.r _ _) | (simp only [jM.len_sI, jM.len_sL, jM.len_sR, jM.len_fI, jM.len_fL, jM.len_fR]; omega) | (simp [jM.len_nw, jM.len_sI, jM.len_sL, jM.len_sR, jM.len_fI, jM.len_fL, jM.len_fR, *]; omega)) (by first | omega | (exact R.r _ _) | (simp only [jM.len_sI, jM.len_sL, jM.len_sR, jM.len_fI, jM.len_fL, jM.len_fR]; omega) | (simp [jM.len_nw, jM.len_sI, jM.len_sL, jM.len_sR, jM.len_fI, jM.len_fL, jM.len_fR, *]; omega)) ?_
                                               exact mQ.of (by unfold sp_usual; (repeat (first | rw [if_pos (by omega)] | rw [if_neg (by omega)]))))
                                          · first
                                            | (exfalso; omega)
                                            | (first | refine J.aload_n (pc' := 77) rfl rfl rfl ?_ | refine J.aload_nN (pc' := 77) rfl rfl rfl ?_
                                               refine J.iload_n (pc' := 78) rfl rfl rfl ?_
                                               refine J.iload_n (pc' := 79) rfl rfl rfl ?_
                                               refine J.iload_n (pc' := 80) rfl rfl rfl ?_
                                               refine J.callV (pc' := 83) (t := 16) rfl MX12_lowOf ml_X12_179 iv_X12_lowOf (by decide) ⟨_, rfl, rfl⟩ B.1 (cm_lowOf B R (by omega) (by omega) (by omega)) rfl rfl (Nat.le_of_ble_eq_true rfl) (by first | omega | (exact R.r _ _) | (simp only [jM.len_sI, jM.len_sL, jM.len_sR, jM.len_fI, jM.len_fL, jM.len_fR]; omega) | (simp [jM.len_nw, jM.len_sI, jM.len_sL, jM.len_sR, jM.len_fI, jM.len_fL, jM.len_fR, *]; omega)) (by first | omega | (exact R.r _ _) | (simp only [jM.len_sI, jM.len_sL, jM.len_sR, jM.len_fI, jM.len_fL, jM.len_fR]; omega) | (simp [jM.len_nw, jM.len_sI, jM.len_sL, jM.len_sR, jM.len_fI, jM.len_fL, jM.len_fR, *]; omega)) (by first | omega | (exact R.r _ _) | (simp only [jM.len_sI, jM.len_sL, jM.len_sR, jM.len_fI, jM.len_fL, jM.len_fR]; omega) | (simp [jM.len_nw, jM.len_sI, jM.len_sL, jM.len_sR, jM.len_fI, jM.len_fL, jM.len_fR, *]; omega)) rfl rfl ?_ ?_
                                               · exact fun _ _ h => h
                                               rintro _ _ ⟨rfl, rfl⟩
                                               refine J.goto (tgt := 93) rfl rfl ?_
                                               refine J.iret rfl rfl (by first | omega | (exact R.r _ _) | (simp only [jM.len_sI, jM.len_sL, jM.len_sR, jM.len_fI, jM.len_fL, jM.len_fR]; omega) | (simp [jM.len_nw, jM.len_sI, jM.len_sL, jM.len_sR, jM.len_fI, jM.len_fL, jM.len_fR, *]; omega)) (by first | omega | (exact R.r _ _) | (simp only [jM.len_sI, jM.len_sL, jM.len_sR, jM.len_fI, jM.len_fL, jM.len_fR]; omega) | (simp [jM.len_nw, jM.len_sI, jM.len_sL, jM.len_sR, jM.len_fI, jM.len_fL, jM.len_fR, *]; omega)) ?_
                                               exact mQ.of (by unfold sp_usual; (repeat (first | rw [if_pos (by omega)] | rw [if_neg (by omega)])))))
                                     · first
                                       | (exfalso; omega)
                                       | (refine J.iconst (pc' := 70) rfl rfl ?_
                                          refine J.iret rfl rfl (by first | omega | (exact R.r _ _) | (simp only [jM.len_sI, jM.len_sL, jM.len_sR, jM.len_fI, jM.len_fL, jM.len_fR]; omega) | (simp [jM.len_nw, jM.len_sI, jM.len_sL, jM.len_sR, jM.len_fI, jM.len_fL, jM.len_fR, *]; omega)) (by first | omega | (exact R.r _ _) | (simp only [jM.len_sI, jM.len_sL, jM.len_sR, jM.len_fI, jM.len_fL, jM.len_fR]; omega) | (simp [jM.len_nw, jM.len_sI, jM.len_sL, jM.len_sR, jM.len_fI, jM.len_fL, jM.len_fR, *]; omega)) ?_
                                          exact mQ.of (by unfold sp_usual; (repeat (first | rw [if_pos (by omega)] | rw [if_neg (by omega)])))))
                                · first
                                  | (exfalso; omega)
                                  | (refine J.iconst (pc' := 58) rfl rfl ?_
                                     refine J.goto (tgt := 62) rfl rfl ?_
                                     refine J.iconst (pc' := 63) rfl rfl ?_
                                     first | refine J.callV (pc' := 66) (t := 16) rfl MX12_may ml_X12_161 iv_X12_may (by decide) ⟨_, rfl, rfl⟩ B.1 (cm_may1 B h0) rfl rfl (Nat.le_of_ble_eq_true rfl) (by first | omega | (exact R.r _ _) | (simp only [jM.len_sI, jM.len_sL, jM.len_sR, jM.len_fI, jM.len_fL, jM.len_fR]; omega) | (simp [jM.len_nw, jM.len_sI, jM.len_sL, jM.len_sR, jM.len_fI, jM.len_fL, jM.len_fR, *]; omega)) (by first | omega | (exact R.r _ _) | (simp only [jM.len_sI, jM.len_sL, jM.len_sR, jM.len_fI, jM.len_fL, jM.len_fR]; omega) | (simp [jM.len_nw, jM.len_sI, jM.len_sL, jM.len_sR, jM.len_fI, jM.len_fL, jM.len_fR, *]; omega)) (by first | omega | (exact R.r _ _) | (simp only [jM.len_sI, jM.len_sL, jM.len_sR, jM.len_fI, jM.len_fL, jM.len_fR]; omega) | (simp [jM.len_nw, jM.len_sI, jM.len_sL, jM.len_sR, jM.len_fI, jM.len_fL, jM.len_fR, *]; omega)) rfl rfl ?_ ?_ | refine J.callV (pc' := 66) (t := 16) rfl MX12_may ml_X12_161 iv_X12_may (by decide) ⟨_, rfl, rfl⟩ B.1 (cm_may0 B h0 (by omega)) rfl rfl (Nat.le_of_ble_eq_true rfl) (by first | omega | (exact R.r _ _) | (simp only [jM.len_sI, jM.len_sL, jM.len_sR, jM.len_fI, jM.len_fL, jM.len_fR]; omega) | (simp [jM.len_nw, jM.len_sI, jM.len_sL, jM.len_sR, jM.len_fI, jM.len_fL, jM.len_fR, *]; omega)) (by first | omega | (exact R.r _ _) | (simp only [jM.len_sI, jM.len_sL, jM.len_sR, jM.len_fI, jM.len_fL, jM.len_fR]; omega) | (simp [jM.len_nw, jM.len_sI, jM.len_sL, jM.len_sR, jM.len_fI, jM.len_fL, jM.len_fR, *]; omega)) (by first | omega | (exact R.r _ _) | (simp only [jM.len_sI, jM.len_sL, jM.len_sR, jM.len_fI, jM.len_fL, jM.len_fR]; omega) | (simp [jM.len_nw, jM.len_sI, jM.len_sL, jM.len_sR, jM.len_fI, jM.len_fL, jM.len_fR, *]; omega)) rfl rfl ?_ ?_
                                     · exact fun _ _ h => h
                                     rintro _ _ ⟨rfl, rfl⟩
                                     refine J.if_ne (tgt := 71) (pc' := 69) rfl rfl rfl (by first | omega | (exact R.r _ _) | (simp only [jM.len_sI, jM.len_sL, jM.len_sR, jM.len_fI, jM.len_fL, jM.len_fR]; omega) | (simp [jM.len_nw, jM.len_sI, jM.len_sL, jM.len_sR, jM.len_fI, jM.len_fL, jM.len_fR, *]; omega)) (fun c66 => ?_) (fun c66 => ?_)
                                     · first
                                       | (exfalso; omega)
                                       | (refine J.iload (pc' := 73) rfl rfl rfl ?_
                                          refine J.if_ne (tgt := 86) (pc' := 76) rfl rfl rfl (by first | omega | (exact R.r _ _) | (simp only [jM.len_sI, jM.len_sL, jM.len_sR, jM.len_fI, jM.len_fL, jM.len_fR]; omega) | (simp [jM.len_nw, jM.len_sI, jM.len_sL, jM.len_sR, jM.len_fI, jM.len_fL, jM.len_fR, *]; omega)) (fun c73 => ?_) (fun c73 => ?_)
                                          · first
                                            | (exfalso; omega)
                                            | (first | refine J.aload_n (pc' := 87) rfl rfl rfl ?_ | refine J.aload_nN (pc' := 87) rfl rfl rfl ?_
                                               refine J.iload_n (pc' := 88) rfl rfl rfl ?_
                                               refine J.iload_n (pc' := 89) rfl rfl rfl ?_
                                               refine J.iload_n (pc' := 90) rfl rfl rfl ?_
                                               refine J.callV (pc' := 93) (t := 16) rfl MX12_highOf ml_X12_182 iv_X12_highOf (by decide) ⟨_, rfl, rfl⟩ B.1 (cm_highOf B R (by omega) (by omega) (by omega)) rfl rfl (Nat.le_of_ble_eq_true rfl) (by first | omega | (exact R.r _ _) | (simp only [jM.len_sI, jM.len_sL, jM.len_sR, jM.len_fI, jM.len_fL, jM.len_fR]; omega) | (simp [jM.len_nw, jM.len_sI, jM.len_sL, jM.len_sR, jM.len_fI, jM.len_fL, jM.len_fR, *]; omega)) (by first | omega | (exact R.r _ _) | (simp only [jM.len_sI, jM.len_sL, jM.len_sR, jM.len_fI, jM.len_fL, jM.len_fR]; omega) | (simp [jM.len_nw, jM.len_sI, jM.len_sL, jM.len_sR, jM.len_fI, jM.len_fL, jM.len_fR, *]; omega)) (by first | omega | (exact R.r _ _) | (simp only [jM.len_sI, jM.len_sL, jM.len_sR, jM.len_fI, jM.len_fL, jM.len_fR]; omega) | (simp [jM.len_nw, jM.len_sI, jM.len_sL, jM.len_sR, jM.len_fI, jM.len_fL, jM.len_fR, *]; omega)) rfl rfl ?_ ?_
                                               · exact fun _ _ h => h
                                               rintro _ _ ⟨rfl, rfl⟩
                                               refine J.iret rfl rfl (by first | omega | (exact R.r _ _) | (simp only [jM.len_sI, jM.len_sL, jM.len_sR, jM.len_fI, jM.len_fL, jM.len_fR]; omega) | (simp [jM.len_nw, jM.len_sI, jM.len_sL, jM.len_sR, jM.len_fI, jM.len_fL, jM.len_fR, *]; omega)) (by first | omega | (exact R.r _ _) | (simp only [jM.len_sI, jM.len_sL, jM.len_sR, jM.len_fI, jM.len_fL, jM.len_fR]; omega) | (simp [jM.len_nw, jM.len_sI, jM.len_sL, jM.len_sR, jM.len_fI, jM.len_fL, jM.len_fR, *]; omega)) ?_
                                               exact mQ.of (by unfold sp_usual; (repeat (first | rw [if_pos (by omega)] | rw [if_neg (by omega)]))))
                                          · first
                                            | (exfalso; omega)
                                            | (first | refine J.aload_n (pc' := 77) rfl rfl rfl ?_ | refine J.aload_nN (pc' := 77) rfl rfl rfl ?_
                                               refine J.iload_n (pc' := 78) rfl rfl rfl ?_
                                               refine J.iload_n (pc' := 79) rfl rfl rfl ?_
                                               refine J.iload_n (pc' := 80) rfl rfl rfl ?_
                                               refine J.callV (pc' := 83) (t := 16) rfl MX12_lowOf ml_X12_179 iv_X12_lowOf (by decide) ⟨_, rfl, rfl⟩ B.1 (cm_lowOf B R (by omega) (by omega) (by omega)) rfl rfl (Nat.le_of_ble_eq_true rfl) (by first | omega | (exact R.r _ _) | (simp only [jM.len_sI, jM.len_sL, jM.len_sR, jM.len_fI, jM.len_fL, jM.len_fR]; omega) | (simp [jM.len_nw, jM.len_sI, jM.len_sL, jM.len_sR, jM.len_fI, jM.len_fL, jM.len_fR, *]; omega)) (by first | omega | (exact R.r _ _) | (simp only [jM.len_sI, jM.len_sL, jM.len_sR, jM.len_fI, jM.len_fL, jM.len_fR]; omega) | (simp [jM.len_nw, jM.len_sI, jM.len_sL, jM.len_sR, jM.len_fI, jM.len_fL, jM.len_fR, *]; omega)) (by first | omega | (exact R.r _ _) | (simp only [jM.len_sI, jM.len_sL, jM.len_sR, jM.len_fI, jM.len_fL, jM.len_fR]; omega) | (simp [jM.len_nw, jM.len_sI, jM.len_sL, jM.len_sR, jM.len_fI, jM.len_fL, jM.len_fR, *]; omega)) rfl rfl ?_ ?_
                                               · exact fun _ _ h => h
                                               rintro _ _ ⟨rfl, rfl⟩
                                               refine J.goto (tgt := 93) rfl rfl ?_
                                               refine J.iret rfl rfl (by first | omega | (exact R.r _ _) | (simp only [jM.len_sI, jM.len_sL, jM.len_sR, jM.len_fI, jM.len_fL, jM.len_fR]; omega) | (simp [jM.len_nw, jM.len_sI, jM.len_sL, jM.len_sR, jM.len_fI, jM.len_fL, jM.len_fR, *]; omega)) (by first | omega | (exact R.r _ _) | (simp only [jM.len_sI, jM.len_sL, jM.len_sR, jM.len_fI, jM.len_fL, jM.len_fR]; omega) | (simp [jM.len_nw, jM.len_sI, jM.len_sL, jM.len_sR, jM.len_fI, jM.len_fL, jM.len_fR, *]; omega)) ?_
                                               exact mQ.of (by unfold sp_usual; (repeat (first | rw [if_pos (by omega)] | rw [if_neg (by omega)])))))
                                     · first
                                       | (exfalso; omega)
                                       | (refine J.iconst (pc' := 70) rfl rfl ?_
                                          refine J.iret rfl rfl (by first | omega | (exact R.r _ _) | (simp only [jM.len_sI, jM.len_sL, jM.len_sR, jM.len_fI, jM.len_fL, jM.len_fR]; omega) | (simp [jM.len_nw, jM.len_sI, jM.len_sL, jM.len_sR, jM.len_fI, jM.len_fL, jM.len_fR, *]; omega)) (by first | omega | (exact R.r _ _) | (simp only [jM.len_sI, jM.len_sL, jM.len_sR, jM.len_fI, jM.len_fL, jM.len_fR]; omega) | (simp [jM.len_nw, jM.len_sI, jM.len_sL, jM.len_sR, jM.len_fI, jM.len_fL, jM.len_fR, *]; omega)) ?_
                                          exact mQ.of (by unfold sp_usual; (repeat (first | rw [if_pos (by omega)] | rw [if_neg (by omega)])))))))))
            · first
              | (exfalso; omega)
              | (refine J.iload_n (pc' := 19) rfl rfl rfl ?_
                 first | refine J.aload_n (pc' := 20) rfl rfl rfl ?_ | refine J.aload_nN (pc' := 20) rfl rfl rfl ?_
                 refine J.mgI (pc' := 23) (j := 1) B rfl fl_X12_154 rfl rfl rfl ?_
                 refine J.icmp_ge (tgt := 30) (pc' := 26) rfl rfl rfl (by first | omega | (exact R.r _ _) | (simp only [jM.len_sI, jM.len_sL, jM.len_sR, jM.len_fI, jM.len_fL, jM.len_fR]; omega) | (simp [jM.len_nw, jM.len_sI, jM.len_sL, jM.len_sR, jM.len_fI, jM.len_fL, jM.len_fR, *]; omega)) (by first | omega | (exact R.r _ _) | (simp only [jM.len_sI, jM.len_sL, jM.len_sR, jM.len_fI, jM.len_fL, jM.len_fR]; omega) | (simp [jM.len_nw, jM.len_sI, jM.len_sL, jM.len_sR, jM.len_fI, jM.len_fL, jM.len_fR, *]; omega)) (fun c23 => ?_) (fun c23 => ?_)
                 · first
                   | (exfalso; omega)
                   | (refine J.iconst (pc' := 31) rfl rfl ?_
                      refine J.iconst (pc' := 32) rfl rfl ?_
                      first | refine J.callV (pc' := 35) (t := 16) rfl MX12_may ml_X12_161 iv_X12_may (by decide) ⟨_, rfl, rfl⟩ B.1 (cm_may1 B h0) rfl rfl (Nat.le_of_ble_eq_true rfl) (by first | omega | (exact R.r _ _) | (simp only [jM.len_sI, jM.len_sL, jM.len_sR, jM.len_fI, jM.len_fL, jM.len_fR]; omega) | (simp [jM.len_nw, jM.len_sI, jM.len_sL, jM.len_sR, jM.len_fI, jM.len_fL, jM.len_fR, *]; omega)) (by first | omega | (exact R.r _ _) | (simp only [jM.len_sI, jM.len_sL, jM.len_sR, jM.len_fI, jM.len_fL, jM.len_fR]; omega) | (simp [jM.len_nw, jM.len_sI, jM.len_sL, jM.len_sR, jM.len_fI, jM.len_fL, jM.len_fR, *]; omega)) (by first | omega | (exact R.r _ _) | (simp only [jM.len_sI, jM.len_sL, jM.len_sR, jM.len_fI, jM.len_fL, jM.len_fR]; omega) | (simp [jM.len_nw, jM.len_sI, jM.len_sL, jM.len_sR, jM.len_fI, jM.len_fL, jM.len_fR, *]; omega)) rfl rfl ?_ ?_ | refine J.callV (pc' := 35) (t := 16) rfl MX12_may ml_X12_161 iv_X12_may (by decide) ⟨_, rfl, rfl⟩ B.1 (cm_may0 B h0 (by omega)) rfl rfl (Nat.le_of_ble_eq_true rfl) (by first | omega | (exact R.r _ _) | (simp only [jM.len_sI, jM.len_sL, jM.len_sR, jM.len_fI, jM.len_fL, jM.len_fR]; omega) | (simp [jM.len_nw, jM.len_sI, jM.len_sL, jM.len_sR, jM.len_fI, jM.len_fL, jM.len_fR, *]; omega)) (by first | omega | (exact R.r _ _) | (simp only [jM.len_sI, jM.len_sL, jM.len_sR, jM.len_fI, jM.len_fL, jM.len_fR]; omega) | (simp [jM.len_nw, jM.len_sI, jM.len_sL, jM.len_sR, jM.len_fI, jM.len_fL, jM.len_fR, *]; omega)) (by first | omega | (exact R.r _ _) | (simp only [jM.len_sI, jM.len_sL, jM.len_sR, jM.len_fI, jM.len_fL, jM.len_fR]; omega) | (simp [jM.len_nw, jM.len_sI, jM.len_sL, jM.len_sR, jM.len_fI, jM.len_fL, jM.len_fR, *]; omega)) rfl rfl ?_ ?_
                      · exact fun _ _ h => h
                      rintro _ _ ⟨rfl, rfl⟩
                      refine J.if_eq (tgt := 69) (pc' := 38) rfl rfl rfl (by first | omega | (exact R.r _ _) | (simp only [jM.len_sI, jM.len_sL, jM.len_sR, jM.len_fI, jM.len_fL, jM.len_fR]; omega) | (simp [jM.len_nw, jM.len_sI, jM.len_sL, jM.len_sR, jM.len_fI, jM.len_fL, jM.len_fR, *]; omega)) (fun c35 => ?_) (fun c35 => ?_)
                      · first
                        | (exfalso; omega)
                        | (refine J.iconst (pc' := 70) rfl rfl ?_
                           refine J.iret rfl rfl (by first | omega | (exact R.r _ _) | (simp only [jM.len_sI, jM.len_sL, jM.len_sR, jM.len_fI, jM.len_fL, jM.len_fR]; omega) | (simp [jM.len_nw, jM.len_sI, jM.len_sL, jM.len_sR, jM.len_fI, jM.len_fL, jM.len_fR, *]; omega)) (by first | omega | (exact R.r _ _) | (simp only [jM.len_sI, jM.len_sL, jM.len_sR, jM.len_fI, jM.len_fL, jM.len_fR]; omega) | (simp [jM.len_nw, jM.len_sI, jM.len_sL, jM.len_sR, jM.len_fI, jM.len_fL, jM.len_fR, *]; omega)) ?_
                           exact mQ.of (by unfold sp_usual; (repeat (first | rw [if_pos (by omega)] | rw [if_neg (by omega)]))))
                      · first
                        | (exfalso; omega)
                        | (first | refine J.aload_n (pc' := 39) rfl rfl rfl ?_ | refine J.aload_nN (pc' := 39) rfl rfl rfl ?_
                           refine J.iload_n (pc' := 40) rfl rfl rfl ?_
                           refine J.callS (pc' := 43) rfl MX12_isMetal ml_X12_157 is_X12_isMetal (cm_isMetal hm) rfl rfl (Nat.le_of_ble_eq_true rfl) (by first | omega | (exact R.r _ _) | (simp only [jM.len_sI, jM.len_sL, jM.len_sR, jM.len_fI, jM.len_fL, jM.len_fR]; omega) | (simp [jM.len_nw, jM.len_sI, jM.len_sL, jM.len_sR, jM.len_fI, jM.len_fL, jM.len_fR, *]; omega)) (by first | omega | (exact R.r _ _) | (simp only [jM.len_sI, jM.len_sL, jM.len_sR, jM.len_fI, jM.len_fL, jM.len_fR]; omega) | (simp [jM.len_nw, jM.len_sI, jM.len_sL, jM.len_sR, jM.len_fI, jM.len_fL, jM.len_fR, *]; omega)) (by first | omega | (exact R.r _ _) | (simp only [jM.len_sI, jM.len_sL, jM.len_sR, jM.len_fI, jM.len_fL, jM.len_fR]; omega) | (simp [jM.len_nw, jM.len_sI, jM.len_sL, jM.len_sR, jM.len_fI, jM.len_fL, jM.len_fR, *]; omega)) rfl rfl ?_ ?_
                           · exact fun _ _ h => h
                           rintro _ _ ⟨b, hb1, rfl, rfl⟩
                           refine J.if_eq (tgt := 61) (pc' := 46) rfl rfl rfl (by first | omega | (exact R.r _ _) | (simp only [jM.len_sI, jM.len_sL, jM.len_sR, jM.len_fI, jM.len_fL, jM.len_fR]; omega) | (simp [jM.len_nw, jM.len_sI, jM.len_sL, jM.len_sR, jM.len_fI, jM.len_fL, jM.len_fR, *]; omega)) (fun c43 => ?_) (fun c43 => ?_)
                           · first
                             | (exfalso; omega)
                             | (refine J.iconst (pc' := 62) rfl rfl ?_
                                refine J.iconst (pc' := 63) rfl rfl ?_
                                first | refine J.callV (pc' := 66) (t := 16) rfl MX12_may ml_X12_161 iv_X12_may (by decide) ⟨_, rfl, rfl⟩ B.1 (cm_may1 B h0) rfl rfl (Nat.le_of_ble_eq_true rfl) (by first | omega | (exact R.r _ _) | (simp only [jM.len_sI, jM.len_sL, jM.len_sR, jM.len_fI, jM.len_fL, jM.len_fR]; omega) | (simp [jM.len_nw, jM.len_sI, jM.len_sL, jM.len_sR, jM.len_fI, jM.len_fL, jM.len_fR, *]; omega)) (by first | omega | (exact R.r _ _) | (simp only [jM.len_sI, jM.len_sL, jM.len_sR, jM.len_fI, jM.len_fL, jM.len_fR]; omega) | (simp [jM.len_nw, jM.len_sI, jM.len_sL, jM.len_sR, jM.len_fI, jM.len_fL, jM.len_fR, *]; omega)) (by first | omega | (exact R.r _ _) | (simp only [jM.len_sI, jM.len_sL, jM.len_sR, jM.len_fI, jM.len_fL, jM.len_fR]; omega) | (simp [jM.len_nw, jM.len_sI, jM.len_sL, jM.len_sR, jM.len_fI, jM.len_fL, jM.len_fR, *]; omega)) rfl rfl ?_ ?_ | refine J.callV (pc' := 66) (t := 16) rfl MX12_may ml_X12_161 iv_X12_may (by decide) ⟨_, rfl, rfl⟩ B.1 (cm_may0 B h0 (by omega)) rfl rfl (Nat.le_of_ble_eq_true rfl) (by first | omega | (exact R.r _ _) | (simp only [jM.len_sI, jM.len_sL, jM.len_sR, jM.len_fI, jM.len_fL, jM.len_fR]; omega) | (simp [jM.len_nw, jM.len_sI, jM.len_sL, jM.len_sR, jM.len_fI, jM.len_fL, jM.len_fR, *]; omega)) (by first | omega | (exact R.r _ _) | (simp only [jM.len_sI, jM.len_sL, jM.len_sR, jM.len_fI, jM.len_fL, jM.len_fR]; omega) | (simp [jM.len_nw, jM.len_sI, jM.len_sL, jM.len_sR, jM.len_fI, jM.len_fL, jM.len_fR, *]; omega)) (by first | omega | (exact R.r _ _) | (simp only [jM.len_sI, jM.len_sL, jM.len_sR, jM.len_fI, jM.len_fL, jM.len_fR]; omega) | (simp [jM.len_nw, jM.len_sI, jM.len_sL, jM.len_sR, jM.len_fI, jM.len_fL, jM.len_fR, *]; omega)) rfl rfl ?_ ?_
                                · exact fun _ _ h => h
                                rintro _ _ ⟨rfl, rfl⟩
                                refine J.if_ne (tgt := 71) (pc' := 69) rfl rfl rfl (by first | omega | (exact R.r _ _) | (simp only [jM.len_sI, jM.len_sL, jM.len_sR, jM.len_fI, jM.len_fL, jM.len_fR]; omega) | (simp [jM.len_nw, jM.len_sI, jM.len_sL, jM.len_sR, jM.len_fI, jM.len_fL, jM.len_fR, *]; omega)) (fun c66 => ?_) (fun c66 => ?_)
                                · first
                                  | (exfalso; omega)
                                  | (refine J.iload (pc' := 73) rfl rfl rfl ?_
                                     refine J.if_ne (tgt := 86) (pc' := 76) rfl rfl rfl (by first | omega | (exact R.r _ _) | (simp only [jM.len_sI, jM.len_sL, jM.len_sR, jM.len_fI, jM.len_fL, jM.len_fR]; omega) | (simp [jM.len_nw, jM.len_sI, jM.len_sL, jM.len_sR, jM.len_fI, jM.len_fL, jM.len_fR, *]; omega)) (fun c73 => ?_) (fun c73 => ?_)
                                     · first
                                       | (exfalso; omega)
                                       | (first | refine J.aload_n (pc' := 87) rfl rfl rfl ?_ | refine J.aload_nN (pc' := 87) rfl rfl rfl ?_
                                          refine J.iload_n (pc' := 88) rfl rfl rfl ?_
                                          refine J.iload_n (pc' := 89) rfl rfl rfl ?_
                                          refine J.iload_n (pc' := 90) rfl rfl rfl ?_
                                          refine J.callV (pc' := 93) (t := 16) rfl MX12_highOf ml_X12_182 iv_X12_highOf (by decide) ⟨_, rfl, rfl⟩ B.1 (cm_highOf B R (by omega) (by omega) (by omega)) rfl rfl (Nat.le_of_ble_eq_true rfl) (by first | omega | (exact R.r _ _) | (simp only [jM.len_sI, jM.len_sL, jM.len_sR, jM.len_fI, jM.len_fL, jM.len_fR]; omega) | (simp [jM.len_nw, jM.len_sI, jM.len_sL, jM.len_sR, jM.len_fI, jM.len_fL, jM.len_fR, *]; omega)) (by first | omega | (exact R.r _ _) | (simp only [jM.len_sI, jM.len_sL, jM.len_sR, jM.len_fI, jM.len_fL, jM.len_fR]; omega) | (simp [jM.len_nw, jM.len_sI, jM.len_sL, jM.len_sR, jM.len_fI, jM.len_fL, jM.len_fR, *]; omega)) (by first | omega | (exact R.r _ _) | (simp only [jM.len_sI, jM.len_sL, jM.len_sR, jM.len_fI, jM.len_fL, jM.len_fR]; omega) | (simp [jM.len_nw, jM.len_sI, jM.len_sL, jM.len_sR, jM.len_fI, jM.len_fL, jM.len_fR, *]; omega)) rfl rfl ?_ ?_
                                          · exact fun _ _ h => h
                                          rintro _ _ ⟨rfl, rfl⟩
                                          refine J.iret rfl rfl (by first | omega | (exact R.r _ _) | (simp only [jM.len_sI, jM.len_sL, jM.len_sR, jM.len_fI, jM.len_fL, jM.len_fR]; omega) | (simp [jM.len_nw, jM.len_sI, jM.len_sL, jM.len_sR, jM.len_fI, jM.len_fL, jM.len_fR, *]; omega)) (by first | omega | (exact R.r _ _) | (simp only [jM.len_sI, jM.len_sL, jM.len_sR, jM.len_fI, jM.len_fL, jM.len_fR]; omega) | (simp [jM.len_nw, jM.len_sI, jM.len_sL, jM.len_sR, jM.len_fI, jM.len_fL, jM.len_fR, *]; omega)) ?_
                                          exact mQ.of (by unfold sp_usual; (repeat (first | rw [if_pos (by omega)] | rw [if_neg (by omega)]))))
                                     · first
                                       | (exfalso; omega)
                                       | (first | refine J.aload_n (pc' := 77) rfl rfl rfl ?_ | refine J.aload_nN (pc' := 77) rfl rfl rfl ?_
                                          refine J.iload_n (pc' := 78) rfl rfl rfl ?_
                                          refine J.iload_n (pc' := 79) rfl rfl rfl ?_
                                          refine J.iload_n (pc' := 80) rfl rfl rfl ?_
                                          refine J.callV (pc' := 83) (t := 16) rfl MX12_lowOf ml_X12_179 iv_X12_lowOf (by decide) ⟨_, rfl, rfl⟩ B.1 (cm_lowOf B R (by omega) (by omega) (by omega)) rfl rfl (Nat.le_of_ble_eq_true rfl) (by first | omega | (exact R.r _ _) | (simp only [jM.len_sI, jM.len_sL, jM.len_sR, jM.len_fI, jM.len_fL, jM.len_fR]; omega) | (simp [jM.len_nw, jM.len_sI, jM.len_sL, jM.len_sR, jM.len_fI, jM.len_fL, jM.len_fR, *]; omega)) (by first | omega | (exact R.r _ _) | (simp only [jM.len_sI, jM.len_sL, jM.len_sR, jM.len_fI, jM.len_fL, jM.len_fR]; omega) | (simp [jM.len_nw, jM.len_sI, jM.len_sL, jM.len_sR, jM.len_fI, jM.len_fL, jM.len_fR, *]; omega)) (by first | omega | (exact R.r _ _) | (simp only [jM.len_sI, jM.len_sL, jM.len_sR, jM.len_fI, jM.len_fL, jM.len_fR]; omega) | (simp [jM.len_nw, jM.len_sI, jM.len_sL, jM.len_sR, jM.len_fI, jM.len_fL, jM.len_fR, *]; omega)) rfl rfl ?_ ?_
                                          · exact fun _ _ h => h
                                          rintro _ _ ⟨rfl, rfl⟩
                                          refine J.goto (tgt := 93) rfl rfl ?_
                                          refine J.iret rfl rfl (by first | omega | (exact R.r _ _) | (simp only [jM.len_sI, jM.len_sL, jM.len_sR, jM.len_fI, jM.len_fL, jM.len_fR]; omega) | (simp [jM.len_nw, jM.len_sI, jM.len_sL, jM.len_sR, jM.len_fI, jM.len_fL, jM.len_fR, *]; omega)) (by first | omega | (exact R.r _ _) | (simp only [jM.len_sI, jM.len_sL, jM.len_sR, jM.len_fI, jM.len_fL, jM.len_fR]; omega) | (simp [jM.len_nw, jM.len_sI, jM.len_sL, jM.len_sR, jM.len_fI, jM.len_fL, jM.len_fR, *]; omega)) ?_
                                          exact mQ.of (by unfold sp_usual; (repeat (first | rw [if_pos (by omega)] | rw [if_neg (by omega)])))))
                                · first
                                  | (exfalso; omega)
                                  | (refine J.iconst (pc' := 70) rfl rfl ?_
                                     refine J.iret rfl rfl (by first | omega | (exact R.r _ _) | (simp only [jM.len_sI, jM.len_sL, jM.len_sR, jM.len_fI, jM.len_fL, jM.len_fR]; omega) | (simp [jM.len_nw, jM.len_sI, jM.len_sL, jM.len_sR, jM.len_fI, jM.len_fL, jM.len_fR, *]; omega)) (by first | omega | (exact R.r _ _) | (simp only [jM.len_sI, jM.len_sL, jM.len_sR, jM.len_fI, jM.len_fL, jM.len_fR]; omega) | (simp [jM.len_nw, jM.len_sI, jM.len_sL, jM.len_sR, jM.len_fI, jM.len_fL, jM.len_fR, *]; omega)) ?_
                                     exact mQ.of (by unfold sp_usual; (repeat (first | rw [if_pos (by omega)] | rw [if_neg (by omega)])))))
                           · first
                             | (exfalso; omega)
                             | (refine J.iload (pc' := 48) rfl rfl rfl ?_
                                refine J.if_eq (tgt := 57) (pc' := 51) rfl rfl rfl (by first | omega | (exact R.r _ _) | (simp only [jM.len_sI, jM.len_sL, jM.len_sR, jM.len_fI, jM.len_fL, jM.len_fR]; omega) | (simp [jM.len_nw, jM.len_sI, jM.len_sL, jM.len_sR, jM.len_fI, jM.len_fL, jM.len_fR, *]; omega)) (fun c48 => ?_) (fun c48 => ?_)
                                · first
                                  | (exfalso; omega)
                                  | (refine J.iconst (pc' := 58) rfl rfl ?_
                                     refine J.goto (tgt := 62) rfl rfl ?_
                                     refine J.iconst (pc' := 63) rfl rfl ?_
                                     first | refine J.callV (pc' := 66) (t := 16) rfl MX12_may ml_X12_161 iv_X12_may (by decide) ⟨_, rfl, rfl⟩ B.1 (cm_may1 B h0) rfl rfl (Nat.le_of_ble_eq_true rfl) (by first | omega | (exact R.r _ _) | (simp only [jM.len_sI, jM.len_sL, jM.len_sR, jM.len_fI, jM.len_fL, jM.len_fR]; omega) | (simp [jM.len_nw, jM.len_sI, jM.len_sL, jM.len_sR, jM.len_fI, jM.len_fL, jM.len_fR, *]; omega)) (by first | omega | (exact R.r _ _) | (simp only [jM.len_sI, jM.len_sL, jM.len_sR, jM.len_fI, jM.len_fL, jM.len_fR]; omega) | (simp [jM.len_nw, jM.len_sI, jM.len_sL, jM.len_sR, jM.len_fI, jM.len_fL, jM.len_fR, *]; omega)) (by first | omega | (exact R.r _ _) | (simp only [jM.len_sI, jM.len_sL, jM.len_sR, jM.len_fI, jM.len_fL, jM.len_fR]; omega) | (simp [jM.len_nw, jM.len_sI, jM.len_sL, jM.len_sR, jM.len_fI, jM.len_fL, jM.len_fR, *]; omega)) rfl rfl ?_ ?_ | refine J.callV (pc' := 66) (t := 16) rfl MX12_may ml_X12_161 iv_X12_may (by decide) ⟨_, rfl, rfl⟩ B.1 (cm_may0 B h0 (by omega)) rfl rfl (Nat.le_of_ble_eq_true rfl) (by first | omega | (exact R.r _ _) | (simp only [jM.len_sI, jM.len_sL, jM.len_sR, jM.len_fI, jM.len_fL, jM.len_fR]; omega) | (simp [jM.len_nw, jM.len_sI, jM.len_sL, jM.len_sR, jM.len_fI, jM.len_fL, jM.len_fR, *]; omega)) (by first | omega | (exact R.r _ _) | (simp only [jM.len_sI, jM.len_sL, jM.len_sR, jM.len_fI, jM.len_fL, jM.len_fR]; omega) | (simp [jM.len_nw, jM.len_sI, jM.len_sL, jM.len_sR, jM.len_fI, jM.len_fL, jM.len_fR, *]; omega)) (by first | omega | (exact R.r _ _) | (simp only [jM.len_sI, jM.len_sL, jM.len_sR, jM.len_fI, jM.len_fL, jM.len_fR]; omega) | (simp [jM.len_nw, jM.len_sI, jM.len_sL, jM.len_sR, jM.len_fI, jM.len_fL, jM.len_fR, *]; omega)) rfl rfl ?_ ?_
                                     · exact fun _ _ h => h
                                     rintro _ _ ⟨rfl, rfl⟩
                                     refine J.if_ne (tgt := 71) (pc' := 69) rfl rfl rfl (by first | omega | (exact R.r _ _) | (simp only [jM.len_sI, jM.len_sL, jM.len_sR, jM.len_fI, jM.len_fL, jM.len_fR]; omega) | (simp [jM.len_nw, jM.len_sI, jM.len_sL, jM.len_sR, jM.len_fI, jM.len_fL, jM.len_fR, *]; omega)) (fun c66 => ?_) (fun c66 => ?_)
                                     · first
                                       | (exfalso; omega)
                                       | (refine J.iload (pc' := 73) rfl rfl rfl ?_
                                          refine J.if_ne (tgt := 86) (pc' := 76) rfl rfl rfl (by first | omega | (exact R.r _ _) | (simp only [jM.len_sI, jM.len_sL, jM.len_sR, jM.len_fI, jM.len_fL, jM.len_fR]; omega) | (simp [jM.len_nw, jM.len_sI, jM.len_sL, jM.len_sR, jM.len_fI, jM.len_fL, jM.len_fR, *]; omega)) (fun c73 => ?_) (fun c73 => ?_)
                                          · first
                                            | (exfalso; omega)
                                            | (first | refine J.aload_n (pc' := 87) rfl rfl rfl ?_ | refine J.aload_nN (pc' := 87) rfl rfl rfl ?_
                                               refine J.iload_n (pc' := 88) rfl rfl rfl ?_
                                               refine J.iload_n (pc' := 89) rfl rfl rfl ?_
                                               refine J.iload_n (pc' := 90) rfl rfl rfl ?_
                                               refine J.callV (pc' := 93) (t := 16) rfl MX12_highOf ml_X12_182 iv_X12_highOf (by decide) ⟨_, rfl, rfl⟩ B.1 (cm_highOf B R (by omega) (by omega) (by omega)) rfl rfl (Nat.le_of_ble_eq_true rfl) (by first | omega | (exact R.r _ _) | (simp only [jM.len_sI, jM.len_sL, jM.len_sR, jM.len_fI, jM.len_fL, jM.len_fR]; omega) | (simp [jM.len_nw, jM.len_sI, jM.len_sL, jM.len_sR, jM.len_fI, jM.len_fL, jM.len_fR, *]; omega)) (by first | omega | (exact R.r _ _) | (simp only [jM.len_sI, jM.len_sL, jM.len_sR, jM.len_fI, jM.len_fL, jM.len_fR]; omega) | (simp [jM.len_nw, jM.len_sI, jM.len_sL, jM.len_sR, jM.len_fI, jM.len_fL, jM.len_fR, *]; omega)) (by first | omega | (exact R.r _ _) | (simp only [jM.len_sI, jM.len_sL, jM.len_sR, jM.len_fI, jM.len_fL, jM.len_fR]; omega) | (simp [jM.len_nw, jM.len_sI, jM.len_sL, jM.len_sR, jM.len_fI, jM.len_fL, jM.len_fR, *]; omega)) rfl rfl ?_ ?_
                                               · exact fun _ _ h => h
                                               rintro _ _ ⟨rfl, rfl⟩
                                               refine J.iret rfl rfl (by first | omega | (exact R.r _ _) | (simp only [jM.len_sI, jM.len_sL, jM.len_sR, jM.len_fI, jM.len_fL, jM.len_fR]; omega) | (simp [jM.len_nw, jM.len_sI, jM.len_sL, jM.len_sR, jM.len_fI, jM.len_fL, jM.len_fR, *]; omega)) (by first | omega | (exact R.r _ _) | (simp only [jM.len_sI, jM.len_sL, jM.len_sR, jM.len_fI, jM.len_fL, jM.len_fR]; omega) | (simp [jM.len_nw, jM.len_sI, jM.len_sL, jM.len_sR, jM.len_fI, jM.len_fL, jM.len_fR, *]; omega)) ?_
                                               exact mQ.of (by unfold sp_usual; (repeat (first | rw [if_pos (by omega)] | rw [if_neg (by omega)]))))
                                          · first
                                            | (exfalso; omega)
                                            | (first | refine J.aload_n (pc' := 77) rfl rfl rfl ?_ | refine J.aload_nN (pc' := 77) rfl rfl rfl ?_
                                               refine J.iload_n (pc' := 78) rfl rfl rfl ?_
                                               refine J.iload_n (pc' := 79) rfl rfl rfl ?_
                                               refine J.iload_n (pc' := 80) rfl rfl rfl ?_
                                               refine J.callV (pc' := 83) (t := 16) rfl MX12_lowOf ml_X12_179 iv_X12_lowOf (by decide) ⟨_, rfl, rfl⟩ B.1 (cm_lowOf B R (by omega) (by omega) (by omega)) rfl rfl (Nat.le_of_ble_eq_true rfl) (by first | omega | (exact R.r _ _) | (simp only [jM.len_sI, jM.len_sL, jM.len_sR, jM.len_fI, jM.len_fL, jM.len_fR]; omega) | (simp [jM.len_nw, jM.len_sI, jM.len_sL, jM.len_sR, jM.len_fI, jM.len_fL, jM.len_fR, *]; omega)) (by first | omega | (exact R.r _ _) | (simp only [jM.len_sI, jM.len_sL, jM.len_sR, jM.len_fI, jM.len_fL, jM.len_fR]; omega) | (simp [jM.len_nw, jM.len_sI, jM.len_sL, jM.len_sR, jM.len_fI, jM.len_fL, jM.len_fR, *]; omega)) (by first | omega | (exact R.r _ _) | (simp only [jM.len_sI, jM.len_sL, jM.len_sR, jM.len_fI, jM.len_fL, jM.len_fR]; omega) | (simp [jM.len_nw, jM.len_sI, jM.len_sL, jM.len_sR, jM.len_fI, jM.len_fL, jM.len_fR, *]; omega)) rfl rfl ?_ ?_
                                               · exact fun _ _ h => h
                                               rintro _ _ ⟨rfl, rfl⟩
                                               refine J.goto (tgt := 93) rfl rfl ?_
                                               refine J.iret rfl rfl (by first | omega | (exact R.r _ _) | (simp only [jM.len_sI, jM.len_sL, jM.len_sR, jM.len_fI, jM.len_fL, jM.len_fR]; omega) | (simp [jM.len_nw, jM.len_sI, jM.len_sL, jM.len_sR, jM.len_fI, jM.len_fL, jM.len_fR, *]; omega)) (by first | omega | (exact R.r _ _) | (simp only [jM.len_sI, jM.len_sL, jM.len_sR, jM.len_fI, jM.len_fL, jM.len_fR]; omega) | (simp [jM.len_nw, jM.len_sI, jM.len_sL, jM.len_sR, jM.len_fI, jM.len_fL, jM.len_fR, *]; omega)) ?_
                                               exact mQ.of (by unfold sp_usual; (repeat (first | rw [if_pos (by omega)] | rw [if_neg (by omega)])))))
                                     · first
                                       | (exfalso; omega)
                                       | (refine J.iconst (pc' := 70) rfl rfl ?_
                                          refine J.iret rfl rfl (by first | omega | (exact R.r _ _) | (simp only [jM.len_sI, jM.len_sL, jM.len_sR, jM.len_fI, jM.len_fL, jM.len_fR]; omega) | (simp [jM.len_nw, jM.len_sI, jM.len_sL, jM.len_sR, jM.len_fI, jM.len_fL, jM.len_fR, *]; omega)) (by first | omega | (exact R.r _ _) | (simp only [jM.len_sI, jM.len_sL, jM.len_sR, jM.len_fI, jM.len_fL, jM.len_fR]; omega) | (simp [jM.len_nw, jM.len_sI, jM.len_sL, jM.len_sR, jM.len_fI, jM.len_fL, jM.len_fR, *]; omega)) ?_
                                          exact mQ.of (by unfold sp_usual; (repeat (first | rw [if_pos (by omega)] | rw [if_neg (by omega)])))))
                                · first
                                  | (exfalso; omega)
                                  | (refine J.iload (pc' := 53) rfl rfl rfl ?_
                                     refine J.iconst (pc' := 54) rfl rfl ?_
                                     refine J.icmp_ne (tgt := 61) (pc' := 57) rfl rfl rfl (by first | omega | (exact R.r _ _) | (simp only [jM.len_sI, jM.len_sL, jM.len_sR, jM.len_fI, jM.len_fL, jM.len_fR]; omega) | (simp [jM.len_nw, jM.len_sI, jM.len_sL, jM.len_sR, jM.len_fI, jM.len_fL, jM.len_fR, *]; omega)) (by first | omega | (exact R.r _ _) | (simp only [jM.len_sI, jM.len_sL, jM.len_sR, jM.len_fI, jM.len_fL, jM.len_fR]; omega) | (simp [jM.len_nw, jM.len_sI, jM.len_sL, jM.len_sR, jM.len_fI, jM.len_fL, jM.len_fR, *]; omega)) (fun c54 => ?_) (fun c54 => ?_)
                                     · first
                                       | (exfalso; omega)
                                       | (refine J.iconst (pc' := 62) rfl rfl ?_
                                          refine J.iconst (pc' := 63) rfl rfl ?_
                                          first | refine J.callV (pc' := 66) (t := 16) rfl MX12_may ml_X12_161 iv_X12_may (by decide) ⟨_, rfl, rfl⟩ B.1 (cm_may1 B h0) rfl rfl (Nat.le_of_ble_eq_true rfl) (by first | omega | (exact R.r _ _) | (simp only [jM.len_sI, jM.len_sL, jM.len_sR, jM.len_fI, jM.len_fL, jM.len_fR]; omega) | (simp [jM.len_nw, jM.len_sI, jM.len_sL, jM.len_sR, jM.len_fI, jM.len_fL, jM.len_fR, *]; omega)) (by first | omega | (exact R.r _ _) | (simp only [jM.len_sI, jM.len_sL, jM.len_sR, jM.len_fI, jM.len_fL, jM.len_fR]; omega) | (simp [jM.len_nw, jM.len_sI, jM.len_sL, jM.len_sR, jM.len_fI, jM.len_fL, jM.len_fR, *]; omega)) (by first | omega | (exact R.r _ _) | (simp only [jM.len_sI, jM.len_sL, jM.len_sR, jM.len_fI, jM.len_fL, jM.len_fR]; omega) | (simp [jM.len_nw, jM.len_sI, jM.len_sL, jM.len_sR, jM.len_fI, jM.len_fL, jM.len_fR, *]; omega)) rfl rfl ?_ ?_ | refine J.callV (pc' := 66) (t := 16) rfl MX12_may ml_X12_161 iv_X12_may (by decide) ⟨_, rfl, rfl⟩ B.1 (cm_may0 B h0 (by omega)) rfl rfl (Nat.le_of_ble_eq_true rfl) (by first | omega | (exact R.r _ _) | (simp only [jM.len_sI, jM.len_sL, jM.len_sR, jM.len_fI, jM.len_fL, jM.len_fR]; omega) | (simp [jM.len_nw, jM.len_sI, jM.len_sL, jM.len_sR, jM.len_fI, jM.len_fL, jM.len_fR, *]; omega)) (by first | omega | (exact R.r _ _) | (simp only [jM.len_sI, jM.len_sL, jM.len_sR, jM.len_fI, jM.len_fL, jM.len_fR]; omega) | (simp [jM.len_nw, jM.len_sI, jM.len_sL, jM.len_sR, jM.len_fI, jM.len_fL, jM.len_fR, *]; omega)) (by first | omega | (exact R.r _ _) | (simp only [jM.len_sI, jM.len_sL, jM.len_sR, jM.len_fI, jM.len_fL, jM.len_fR]; omega) | (simp [jM.len_nw, jM.len_sI, jM.len_sL, jM.len_sR, jM.len_fI, jM.len_fL, jM.len_fR, *]; omega)) rfl rfl ?_ ?_
                                          · exact fun _ _ h => h
                                          rintro _ _ ⟨rfl, rfl⟩
                                          refine J.if_ne (tgt := 71) (pc' := 69) rfl rfl rfl (by first | omega | (exact R.r _ _) | (simp only [jM.len_sI, jM.len_sL, jM.len_sR, jM.len_fI, jM.len_fL, jM.len_fR]; omega) | (simp [jM.len_nw, jM.len_sI, jM.len_sL, jM.len_sR, jM.len_fI, jM.len_fL, jM.len_fR, *]; omega)) (fun c66 => ?_) (fun c66 => ?_)
                                          · first
                                            | (exfalso; omega)
                                            | (refine J.iload (pc' := 73) rfl rfl rfl ?_
                                               refine J.if_ne (tgt := 86) (pc' := 76) rfl rfl rfl (by first | omega | (exact R.r _ _) | (simp only [jM.len_sI, jM.len_sL, jM.len_sR, jM.len_fI, jM.len_fL, jM.len_fR]; omega) | (simp [jM.len_nw, jM.len_sI, jM.len_sL, jM.len_sR, jM.len_fI, jM.len_fL, jM.len_fR, *]; omega)) (fun c73 => ?_) (fun c73 => ?_)
                                               · first
                                                 | (exfalso; omega)
                                                 | (first | refine J.aload_n (pc' := 87) rfl rfl rfl ?_ | refine J.aload_nN (pc' := 87) rfl rfl rfl ?_
                                                    refine J.iload_n (pc' := 88) rfl rfl rfl ?_
                                                    refine J.iload_n (pc' := 89) rfl rfl rfl ?_
                                                    refine J.iload_n (pc' := 90) rfl rfl rfl ?_
                                                    refine J.callV (pc' := 93) (t := 16) rfl MX12_highOf ml_X12_182 iv_X12_highOf (by decide) ⟨_, rfl, rfl⟩ B.1 (cm_highOf B R (by omega) (by omega) (by omega)) rfl rfl (Nat.le_of_ble_eq_true rfl) (by first | omega | (exact R.r _ _) | (simp only [jM.len_sI, jM.len_sL, jM.len_sR, jM.len_fI, jM.len_fL, jM.len_fR]; omega) | (simp [jM.len_nw, jM.len_sI, jM.len_sL, jM.len_sR, jM.len_fI, jM.len_fL, jM.len_fR, *]; omega)) (by first | omega | (exact R.r _ _) | (simp only [jM.len_sI, jM.len_sL, jM.len_sR, jM.len_fI, jM.len_fL, jM.len_fR]; omega) | (simp [jM.len_nw, jM.len_sI, jM.len_sL, jM.len_sR, jM.len_fI, jM.len_fL, jM.len_fR, *]; omega)) (by first | omega | (exact R.r _ _) | (simp only [jM.len_sI, jM.len_sL, jM.len_sR, jM.len_fI, jM.len_fL, jM.len_fR]; omega) | (simp [jM.len_nw, jM.len_sI, jM.len_sL, jM.len_sR, jM.len_fI, jM.len_fL, jM.len_fR, *]; omega)) rfl rfl ?_ ?_
                                                    · exact fun _ _ h => h
                                                    rintro _ _ ⟨rfl, rfl⟩
                                                    refine J.iret rfl rfl (by first | omega | (exact R.r _ _) | (simp only [jM.len_sI, jM.len_sL, jM.len_sR, jM.len_fI, jM.len_fL, jM.len_fR]; omega) | (simp [jM.len_nw, jM.len_sI, jM.len_sL, jM.len_sR, jM.len_fI, jM.len_fL, jM.len_fR, *]; omega)) (by first | omega | (exact R.r _ _) | (simp only [jM.len_sI, jM.len_sL, jM.len_sR, jM.len_fI, jM.len_fL, jM.len_fR]; omega) | (simp [jM.len_nw, jM.len_sI, jM.len_sL, jM.len_sR, jM.len_fI, jM.len_fL, jM.len_fR, *]; omega)) ?_
                                                    exact mQ.of (by unfold sp_usual; (repeat (first | rw [if_pos (by omega)] | rw [if_neg (by omega)]))))
                                               · first
                                                 | (exfalso; omega)
                                                 | (first | refine J.aload_n (pc' := 77) rfl rfl rfl ?_ | refine J.aload_nN (pc' := 77) rfl rfl rfl ?_
                                                    refine J.iload_n (pc' := 78) rfl rfl rfl ?_
                                                    refine J.iload_n (pc' := 79) rfl rfl rfl ?_
                                                    refine J.iload_n (pc' := 80) rfl rfl rfl ?_
                                                    refine J.callV (pc' := 83) (t := 16) rfl MX12_lowOf ml_X12_179 iv_X12_lowOf (by decide) ⟨_, rfl, rfl⟩ B.1 (cm_lowOf B R (by omega) (by omega) (by omega)) rfl rfl (Nat.le_of_ble_eq_true rfl) (by first | omega | (exact R.r _ _) | (simp only [jM.len_sI, jM.len_sL, jM.len_sR, jM.len_fI, jM.len_fL, jM.len_fR]; omega) | (simp [jM.len_nw, jM.len_sI, jM.len_sL, jM.len_sR, jM.len_fI, jM.len_fL, jM.len_fR, *]; omega)) (by first | omega | (exact R.r _ _) | (simp only [jM.len_sI, jM.len_sL, jM.len_sR, jM.len_fI, jM.len_fL, jM.len_fR]; omega) | (simp [jM.len_nw, jM.len_sI, jM.len_sL, jM.len_sR, jM.len_fI, jM.len_fL, jM.len_fR, *]; omega)) (by first | omega | (exact R.r _ _) | (simp only [jM.len_sI, jM.len_sL, jM.len_sR, jM.len_fI, jM.len_fL, jM.len_fR]; omega) | (simp [jM.len_nw, jM.len_sI, jM.len_sL, jM.len_sR, jM.len_fI, jM.len_fL, jM.len_fR, *]; omega)) rfl rfl ?_ ?_
                                                    · exact fun _ _ h => h
                                                    rintro _ _ ⟨rfl, rfl⟩
                                                    refine J.goto (tgt := 93) rfl rfl ?_
                                                    refine J.iret rfl rfl (by first | omega | (exact R.r _ _) | (simp only [jM.len_sI, jM.len_sL, jM.len_sR, jM.len_fI, jM.len_fL, jM.len_fR]; omega) | (simp [jM.len_nw, jM.len_sI, jM.len_sL, jM.len_sR, jM.len_fI, jM.len_fL, jM.len_fR, *]; omega)) (by first | omega | (exact R.r _ _) | (simp only [jM.len_sI, jM.len_sL, jM.len_sR, jM.len_fI, jM.len_fL, jM.len_fR]; omega) | (simp [jM.len_nw, jM.len_sI, jM.len_sL, jM.len_sR, jM.len_fI, jM.len_fL, jM.len_fR, *]; omega)) ?_
                                                    exact mQ.of (by unfold sp_usual; (repeat (first | rw [if_pos (by omega)] | rw [if_neg (by omega)])))))
                                          · first
                                            | (exfalso; omega)
                                            | (refine J.iconst (pc' := 70) rfl rfl ?_
                                               refine J.iret rfl rfl (by first | omega | (exact R.r _ _) | (simp only [jM.len_sI, jM.len_sL, jM.len_sR, jM.len_fI, jM.len_fL, jM.len_fR]; omega) | (simp [jM.len_nw, jM.len_sI, jM.len_sL, jM.len_sR, jM.len_fI, jM.len_fL, jM.len_fR, *]; omega)) (by first | omega | (exact R.r _ _) | (simp only [jM.len_sI, jM.len_sL, jM.len_sR, jM.len_fI, jM.len_fL, jM.len_fR]; omega) | (simp [jM.len_nw, jM.len_sI, jM.len_sL, jM.len_sR, jM.len_fI, jM.len_fL, jM.len_fR, *]; omega)) ?_
                                               exact mQ.of (by unfold sp_usual; (repeat (first | rw [if_pos (by omega)] | rw [if_neg (by omega)])))))
                                     · first
                                       | (exfalso; omega)
                                       | (refine J.iconst (pc' := 58) rfl rfl ?_
                                          refine J.goto (tgt := 62) rfl rfl ?_
                                          refine J.iconst (pc' := 63) rfl rfl ?_
                                          first | refine J.callV (pc' := 66) (t := 16) rfl MX12_may ml_X12_161 iv_X12_may (by decide) ⟨_, rfl, rfl⟩ B.1 (cm_may1 B h0) rfl rfl (Nat.le_of_ble_eq_true rfl) (by first | omega | (exact R.r _ _) | (simp only [jM.len_sI, jM.len_sL, jM.len_sR, jM.len_fI, jM.len_fL, jM.len_fR]; omega) | (simp [jM.len_nw, jM.len_sI, jM.len_sL, jM.len_sR, jM.len_fI, jM.len_fL, jM.len_fR, *]; omega)) (by first | omega | (exact R.r _ _) | (simp only [jM.len_sI, jM.len_sL, jM.len_sR, jM.len_fI, jM.len_fL, jM.len_fR]; omega) | (simp [jM.len_nw, jM.len_sI, jM.len_sL, jM.len_sR, jM.len_fI, jM.len_fL, jM.len_fR, *]; omega)) (by first | omega | (exact R.r _ _) | (simp only [jM.len_sI, jM.len_sL, jM.len_sR, jM.len_fI, jM.len_fL, jM.len_fR]; omega) | (simp [jM.len_nw, jM.len_sI, jM.len_sL, jM.len_sR, jM.len_fI, jM.len_fL, jM.len_fR, *]; omega)) rfl rfl ?_ ?_ | refine J.callV (pc' := 66) (t := 16) rfl MX12_may ml_X12_161 iv_X12_may (by decide) ⟨_, rfl, rfl⟩ B.1 (cm_may0 B h0 (by omega)) rfl rfl (Nat.le_of_ble_eq_true rfl) (by first | omega | (exact R.r _ _) | (simp only [jM.len_sI, jM.len_sL, jM.len_sR, jM.len_fI, jM.len_fL, jM.len_fR]; omega) | (simp [jM.len_nw, jM.len_sI, jM.len_sL, jM.len_sR, jM.len_fI, jM.len_fL, jM.len_fR, *]; omega)) (by first | omega | (exact R.r _ _) | (simp only [jM.len_sI, jM.len_sL, jM.len_sR, jM.len_fI, jM.len_fL, jM.len_fR]; omega) | (simp [jM.len_nw, jM.len_sI, jM.len_sL, jM.len_sR, jM.len_fI, jM.len_fL, jM.len_fR, *]; omega)) (by first | omega | (exact R.r _ _) | (simp only [jM.len_sI, jM.len_sL, jM.len_sR, jM.len_fI, jM.len_fL, jM.len_fR]; omega) | (simp [jM.len_nw, jM.len_sI, jM.len_sL, jM.len_sR, jM.len_fI, jM.len_fL, jM.len_fR, *]; omega)) rfl rfl ?_ ?_
                                          · exact fun _ _ h => h
                                          rintro _ _ ⟨rfl, rfl⟩
                                          refine J.if_ne (tgt := 71) (pc' := 69) rfl rfl rfl (by first | omega | (exact R.r _ _) | (simp only [jM.len_sI, jM.len_sL, jM.len_sR, jM.len_fI, jM.len_fL, jM.len_fR]; omega) | (simp [jM.len_nw, jM.len_sI, jM.len_sL, jM.len_sR, jM.len_fI, jM.len_fL, jM.len_fR, *]; omega)) (fun c66 => ?_) (fun c66 => ?_)
                                          · first
                                            | (exfalso; omega)
                                            | (refine J.iload (pc' := 73) rfl rfl rfl ?_
                                               refine J.if_ne (tgt := 86) (pc' := 76) rfl rfl rfl (by first | omega | (exact R.r _ _) | (simp only [jM.len_sI, jM.len_sL, jM.len_sR, jM.len_fI, jM.len_fL, jM.len_fR]; omega) | (simp [jM.len_nw, jM.len_sI, jM.len_sL, jM.len_sR, jM.len_fI, jM.len_fL, jM.len_fR, *]; omega)) (fun c73 => ?_) (fun c73 => ?_)
                                               · first
                                                 | (exfalso; omega)
                                                 | (first | refine J.aload_n (pc' := 87) rfl rfl rfl ?_ | refine J.aload_nN (pc' := 87) rfl rfl rfl ?_
                                                    refine J.iload_n (pc' := 88) rfl rfl rfl ?_
                                                    refine J.iload_n (pc' := 89) rfl rfl rfl ?_
                                                    refine J.iload_n (pc' := 90) rfl rfl rfl ?_
                                                    refine J.callV (pc' := 93) (t := 16) rfl MX12_highOf ml_X12_182 iv_X12_highOf (by decide) ⟨_, rfl, rfl⟩ B.1 (cm_highOf B R (by omega) (by omega) (by omega)) rfl rfl (Nat.le_of_ble_eq_true rfl) (by first | omega | (exact R.r _ _) | (simp only [jM.len_sI, jM.len_sL, jM.len_sR, jM.len_fI, jM.len_fL, jM.len_fR]; omega) | (simp [jM.len_nw, jM.len_sI, jM.len_sL, jM.len_sR, jM.len_fI, jM.len_fL, jM.len_fR, *]; omega)) (by first | omega | (exact R.r _ _) | (simp only [jM.len_sI, jM.len_sL, jM.len_sR, jM.len_fI, jM.len_fL, jM.len_fR]; omega) | (simp [jM.len_nw, jM.len_sI, jM.len_sL, jM.len_sR, jM.len_fI, jM.len_fL, jM.len_fR, *]; omega)) (by first | omega | (exact R.r _ _) | (simp only [jM.len_sI, jM.len_sL, jM.len_sR, jM.len_fI, jM.len_fL, jM.len_fR]; omega) | (simp [jM.len_nw, jM.len_sI, jM.len_sL, jM.len_sR, jM.len_fI, jM.len_fL, jM.len_fR, *]; omega)) rfl rfl ?_ ?_
                                                    · exact fun _ _ h => h
                                                    rintro _ _ ⟨rfl, rfl⟩
                                                    refine J.iret rfl rfl (by first | omega | (exact R.r _ _) | (simp only [jM.len_sI, jM.len_sL, jM.len_sR, jM.len_fI, jM.len_fL, jM.len_fR]; omega) | (simp [jM.len_nw, jM.len_sI, jM.len_sL, jM.len_sR, jM.len_fI, jM.len_fL, jM.len_fR, *]; omega)) (by first | omega | (exact R.r _ _) | (simp only [jM.len_sI, jM.len_sL, jM.len_sR, jM.len_fI, jM.len_fL, jM.len_fR]; omega) | (simp [jM.len_nw, jM.len_sI, jM.len_sL, jM.len_sR, jM.len_fI, jM.len_fL, jM.len_fR, *]; omega)) ?_
                                                    exact mQ.of (by unfold sp_usual; (repeat (first | rw [if_pos (by omega)] | rw [if_neg (by omega)]))))
                                               · first
                                                 | (exfalso; omega)
                                                 | (first | refine J.aload_n (pc' := 77) rfl rfl rfl ?_ | refine J.aload_nN (pc' := 77) rfl rfl rfl ?_
                                                    refine J.iload_n (pc' := 78) rfl rfl rfl ?_
                                                    refine J.iload_n (pc' := 79) rfl rfl rfl ?_
                                                    refine J.iload_n (pc' := 80) rfl rfl rfl ?_
                                                    refine J.callV (pc' := 83) (t := 16) rfl MX12_lowOf ml_X12_179 iv_X12_lowOf (by decide) ⟨_, rfl, rfl⟩ B.1 (cm_lowOf B R (by omega) (by omega) (by omega)) rfl rfl (Nat.le_of_ble_eq_true rfl) (by first | omega | (exact R.r _ _) | (simp only [jM.len_sI, jM.len_sL, jM.len_sR, jM.len_fI, jM.len_fL, jM.len_fR]; omega) | (simp [jM.len_nw, jM.len_sI, jM.len_sL, jM.len_sR, jM.len_fI, jM.len_fL, jM.len_fR, *]; omega)) (by first | omega | (exact R.r _ _) | (simp only [jM.len_sI, jM.len_sL, jM.len_sR, jM.len_fI, jM.len_fL, jM.len_fR]; omega) | (simp [jM.len_nw, jM.len_sI, jM.len_sL, jM.len_sR, jM.len_fI, jM.len_fL, jM.len_fR, *]; omega)) (by first | omega | (exact R.r _ _) | (simp only [jM.len_sI, jM.len_sL, jM.len_sR, jM.len_fI, jM.len_fL, jM.len_fR]; omega) | (simp [jM.len_nw, jM.len_sI, jM.len_sL, jM.len_sR, jM.len_fI, jM.len_fL, jM.len_fR, *]; omega)) rfl rfl ?_ ?_
                                                    · exact fun _ _ h => h
                                                    rintro _ _ ⟨rfl, rfl⟩
                                                    refine J.goto (tgt := 93) rfl rfl ?_
                                                    refine J.iret rfl rfl (by first | omega | (exact R.r _ _) | (simp only [jM.len_sI, jM.len_sL, jM.len_sR, jM.len_fI, jM.len_fL, jM.len_fR]; omega) | (simp [jM.len_nw, jM.len_sI, jM.len_sL, jM.len_sR, jM.len_fI, jM.len_fL, jM.len_fR, *]; omega)) (by first | omega | (exact R.r _ _) | (simp only [jM.len_sI, jM.len_sL, jM.len_sR, jM.len_fI, jM.len_fL, jM.len_fR]; omega) | (simp [jM.len_nw, jM.len_sI, jM.len_sL, jM.len_sR, jM.len_fI, jM.len_fL, jM.len_fR, *]; omega)) ?_
                                                    exact mQ.of (by unfold sp_usual; (repeat (first | rw [if_pos (by omega)] | rw [if_neg (by omega)])))))
                                          · first
                                            | (exfalso; omega)
                                            | (refine J.iconst (pc' := 70) rfl rfl ?_
                                               refine J.iret rfl rfl (by first | omega | (exact R.r _ _) | (simp only [jM.len_sI, jM.len_sL, jM.len_sR, jM.len_fI, jM.len_fL, jM.len_fR]; omega) | (simp [jM.len_nw, jM.len_sI, jM.len_sL, jM.len_sR, jM.len_fI, jM.len_fL, jM.len_fR, *]; omega)) (by first | omega | (exact R.r _ _) | (simp only [jM.len_sI, jM.len_sL, jM.len_sR, jM.len_fI, jM.len_fL, jM.len_fR]; omega) | (simp [jM.len_nw, jM.len_sI, jM.len_sL, jM.len_sR, jM.len_fI, jM.len_fL, jM.len_fR, *]; omega)) ?_
                                               exact mQ.of (by unfold sp_usual; (repeat (first | rw [if_pos (by omega)] | rw [if_neg (by omega)])))))))))
                 · first
                   | (exfalso; omega)
                   | (refine J.iconst (pc' := 27) rfl rfl ?_
                      refine J.goto (tgt := 31) rfl rfl ?_
                      refine J.iconst (pc' := 32) rfl rfl ?_
                      first | refine J.callV (pc' := 35) (t := 16) rfl MX12_may ml_X12_161 iv_X12_may (by decide) ⟨_, rfl, rfl⟩ B.1 (cm_may1 B h0) rfl rfl (Nat.le_of_ble_eq_true rfl) (by first | omega | (exact R.r _ _) | (simp only [jM.len_sI, jM.len_sL, jM.len_sR, jM.len_fI, jM.len_fL, jM.len_fR]; omega) | (simp [jM.len_nw, jM.len_sI, jM.len_sL, jM.len_sR, jM.len_fI, jM.len_fL, jM.len_fR, *]; omega)) (by first | omega | (exact R.r _ _) | (simp only [jM.len_sI, jM.len_sL, jM.len_sR, jM.len_fI, jM.len_fL, jM.len_fR]; omega) | (simp [jM.len_nw, jM.len_sI, jM.len_sL, jM.len_sR, jM.len_fI, jM.len_fL, jM.len_fR, *]; omega)) (by first | omega | (exact R.r _ _) | (simp only [jM.len_sI, jM.len_sL, jM.len_sR, jM.len_fI, jM.len_fL, jM.len_fR]; omega) | (simp [jM.len_nw, jM.len_sI, jM.len_sL, jM.len_sR, jM.len_fI, jM.len_fL, jM.len_fR, *]; omega)) rfl rfl ?_ ?_ | refine J.callV (pc' := 35) (t := 16) rfl MX12_may ml_X12_161 iv_X12_may (by decide) ⟨_, rfl, rfl⟩ B.1 (cm_may0 B h0 (by omega)) rfl rfl (Nat.le_of_ble_eq_true rfl) (by first | omega | (exact R.r _ _) | (simp only [jM.len_sI, jM.len_sL, jM.len_sR, jM.len_fI, jM.len_fL, jM.len_fR]; omega) | (simp [jM.len_nw, jM.len_sI, jM.len_sL, jM.len_sR, jM.len_fI, jM.len_fL, jM.len_fR, *]; omega)) (by first | omega | (exact R.r _ _) | (simp only [jM.len_sI, jM.len_sL, jM.len_sR, jM.len_fI, jM.len_fL, jM.len_fR]; omega) | (simp [jM.len_nw, jM.len_sI, jM.len_sL, jM.len_sR, jM.len_fI, jM.len_fL, jM.len_fR, *]; omega)) (by first | omega | (exact R.r _ _) | (simp only [jM.len_sI, jM.len_sL, jM.len_sR, jM.len_fI, jM.len_fL, jM.len_fR]; omega) | (simp [jM.len_nw, jM.len_sI, jM.len_sL, jM.len_sR, jM.len_fI, jM.len_fL, jM.len_fR, *]; omega)) rfl rfl ?_ ?_
                      · exact fun _ _ h => h
                      rintro _ _ ⟨rfl, rfl⟩
                      refine J.if_eq (tgt := 69) (pc' := 38) rfl rfl rfl (by first | omega | (exact R.r _ _) | (simp only [jM.len_sI, jM.len_sL, jM.len_sR, jM.len_fI, jM.len_fL, jM.len_fR]; omega) | (simp [jM.len_nw, jM.len_sI, jM.len_sL, jM.len_sR, jM.len_fI, jM.len_fL, jM.len_fR, *]; omega)) (fun c35 => ?_) (fun c35 => ?_)
                      · first
                        | (exfalso; omega)
                        | (refine J.iconst (pc' := 70) rfl rfl ?_
                           refine J.iret rfl rfl (by first | omega | (exact R.r _ _) | (simp only [jM.len_sI, jM.len_sL, jM.len_sR, jM.len_fI, jM.len_fL, jM.len_fR]; omega) | (simp [jM.len_nw, jM.len_sI, jM.len_sL, jM.len_sR, jM.len_fI, jM.len_fL, jM.len_fR, *]; omega)) (by first | omega | (exact R.r _ _) | (simp only [jM.len_sI, jM.len_sL, jM.len_sR, jM.len_fI, jM.len_fL, jM.len_fR]; omega) | (simp [jM.len_nw, jM.len_sI, jM.len_sL, jM.len_sR, jM.len_fI, jM.len_fL, jM.len_fR, *]; omega)) ?_
                           exact mQ.of (by unfold sp_usual; (repeat (first | rw [if_pos (by omega)] | rw [if_neg (by omega)]))))
                      · first
                        | (exfalso; omega)
                        | (first | refine J.aload_n (pc' := 39) rfl rfl rfl ?_ | refine J.aload_nN (pc' := 39) rfl rfl rfl ?_
                           refine J.iload_n (pc' := 40) rfl rfl rfl ?_
                           refine J.callS (pc' := 43) rfl MX12_isMetal ml_X12_157 is_X12_isMetal (cm_isMetal hm) rfl rfl (Nat.le_of_ble_eq_true rfl) (by first | omega | (exact R.r _ _) | (simp only [jM.len_sI, jM.len_sL, jM.len_sR, jM.len_fI, jM.len_fL, jM.len_fR]; omega) | (simp [jM.len_nw, jM.len_sI, jM.len_sL, jM.len_sR, jM.len_fI, jM.len_fL, jM.len_fR, *]; omega)) (by first | omega | (exact R.r _ _) | (simp only [jM.len_sI, jM.len_sL, jM.len_sR, jM.len_fI, jM.len_fL, jM.len_fR]; omega) | (simp [jM.len_nw, jM.len_sI, jM.len_sL, jM.len_sR, jM.len_fI, jM.len_fL, jM.len_fR, *]; omega)) (by first | omega | (exact R.r _ _) | (simp only [jM.len_sI, jM.len_sL, jM.len_sR, jM.len_fI, jM.len_fL, jM.len_fR]; omega) | (simp [jM.len_nw, jM.len_sI, jM.len_sL, jM.len_sR, jM.len_fI, jM.len_fL, jM.len_fR, *]; omega)) rfl rfl ?_ ?_
                           · exact fun _ _ h => h
                           rintro _ _ ⟨b, hb1, rfl, rfl⟩
                           refine J.if_eq (tgt := 61) (pc' := 46) rfl rfl rfl (by first | omega | (exact R.r _ _) | (simp only [jM.len_sI, jM.len_sL, jM.len_sR, jM.len_fI, jM.len_fL, jM.len_fR]; omega) | (simp [jM.len_nw, jM.len_sI, jM.len_sL, jM.len_sR, jM.len_fI, jM.len_fL, jM.len_fR, *]; omega)) (fun c43 => ?_) (fun c43 => ?_)
                           · first
                             | (exfalso; omega)
                             | (refine J.iconst (pc' := 62) rfl rfl ?_
                                refine J.iconst (pc' := 63) rfl rfl ?_
                                first | refine J.callV (pc' := 66) (t := 16) rfl MX12_may ml_X12_161 iv_X12_may (by decide) ⟨_, rfl, rfl⟩ B.1 (cm_may1 B h0) rfl rfl (Nat.le_of_ble_eq_true rfl) (by first | omega | (exact R.r _ _) | (simp only [jM.len_sI, jM.len_sL, jM.len_sR, jM.len_fI, jM.len_fL, jM.len_fR]; omega) | (simp [jM.len_nw, jM.len_sI, jM.len_sL, jM.len_sR, jM.len_fI, jM.len_fL, jM.len_fR, *]; omega)) (by first | omega | (exact R.r _ _) | (simp only [jM.len_sI, jM.len_sL, jM.len_sR, jM.len_fI, jM.len_fL, jM.len_fR]; omega) | (simp [jM.len_nw, jM.len_sI, jM.len_sL, jM.len_sR, jM.len_fI, jM.len_fL, jM.len_fR, *]; omega)) (by first | omega | (exact R.r _ _) | (simp only [jM.len_sI, jM.len_sL, jM.len_sR, jM.len_fI, jM.len_fL, jM.len_fR]; omega) | (simp [jM.len_nw, jM.len_sI, jM.len_sL, jM.len_sR, jM.len_fI, jM.len_fL, jM.len_fR, *]; omega)) rfl rfl ?_ ?_ | refine J.callV (pc' := 66) (t := 16) rfl MX12_may ml_X12_161 iv_X12_may (by decide) ⟨_, rfl, rfl⟩ B.1 (cm_may0 B h0 (by omega)) rfl rfl (Nat.le_of_ble_eq_true rfl) (by first | omega | (exact R.r _ _) | (simp only [jM.len_sI, jM.len_sL, jM.len_sR, jM.len_fI, jM.len_fL, jM.len_fR]; omega) | (simp [jM.len_nw, jM.len_sI, jM.len_sL, jM.len_sR, jM.len_fI, jM.len_fL, jM.len_fR, *]; omega)) (by first | omega | (exact R.r _ _) | (simp only [jM.len_sI, jM.len_sL, jM.len_sR, jM.len_fI, jM.len_fL, jM.len_fR]; omega) | (simp [jM.len_nw, jM.len_sI, jM.len_sL, jM.len_sR, jM.len_fI, jM.len_fL, jM.len_fR, *]; omega)) (by first | omega | (exact R.r _ _) | (simp only [jM.len_sI, jM.len_sL, jM.len_sR, jM.len_fI, jM.len_fL, jM.len_fR]; omega) | (simp [jM.len_nw, jM.len_sI, jM.len_sL, jM.len_sR, jM.len_fI, jM.len_fL, jM.len_fR, *]; omega)) rfl rfl ?_ ?_
                                · exact fun _ _ h => h
                                rintro _ _ ⟨rfl, rfl⟩
                                refine J.if_ne (tgt := 71) (pc' := 69) rfl rfl rfl (by first | omega | (exact R.r _ _) | (simp only [jM.len_sI, jM.len_sL, jM.len_sR, jM.len_fI, jM.len_fL, jM.len_fR]; omega) | (simp [jM.len_nw, jM.len_sI, jM.len_sL, jM.len_sR, jM.len_fI, jM.len_fL, jM.len_fR, *]; omega)) (fun c66 => ?_) (fun c66 => ?_)
                                · first
                                  | (exfalso; omega)
                                  | (refine J.iload (pc' := 73) rfl rfl rfl ?_
                                     refine J.if_ne (tgt := 86) (pc' := 76) rfl rfl rfl (by first | omega | (exact R.r _ _) | (simp only [jM.len_sI, jM.len_sL, jM.len_sR, jM.len_fI, jM.len_fL, jM.len_fR]; omega) | (simp [jM.len_nw, jM.len_sI, jM.len_sL, jM.len_sR, jM.len_fI, jM.len_fL, jM.len_fR, *]; omega)) (fun c73 => ?_) (fun c73 => ?_)
                                     · first
                                       | (exfalso; omega)
                                       | (first | refine J.aload_n (pc' := 87) rfl rfl rfl ?_ | refine J.aload_nN (pc' := 87) rfl rfl rfl ?_
                                          refine J.iload_n (pc' := 88) rfl rfl rfl ?_
                                          refine J.iload_n (pc' := 89) rfl rfl rfl ?_
                                          refine J.iload_n (pc' := 90) rfl rfl rfl ?_
                                          refine J.callV (pc' := 93) (t := 16) rfl MX12_highOf ml_X12_182 iv_X12_highOf (by decide) ⟨_, rfl, rfl⟩ B.1 (cm_highOf B R (by omega) (by omega) (by omega)) rfl rfl (Nat.le_of_ble_eq_true rfl) (by first | omega | (exact R.r _ _) | (simp only [jM.len_sI, jM.len_sL, jM.len_sR, jM.len_fI, jM.len_fL, jM.len_fR]; omega) | (simp [jM.len_nw, jM.len_sI, jM.len_sL, jM.len_sR, jM.len_fI, jM.len_fL, jM.len_fR, *]; omega)) (by first | omega | (exact R.r _ _) | (simp only [jM.len_sI, jM.len_sL, jM.len_sR, jM.len_fI, jM.len_fL, jM.len_fR]; omega) | (simp [jM.len_nw, jM.len_sI, jM.len_sL, jM.len_sR, jM.len_fI, jM.len_fL, jM.len_fR, *]; omega)) (by first | omega | (exact R.r _ _) | (simp only [jM.len_sI, jM.len_sL, jM.len_sR, jM.len_fI, jM.len_fL, jM.len_fR]; omega) | (simp [jM.len_nw, jM.len_sI, jM.len_sL, jM.len_sR, jM.len_fI, jM.len_fL, jM.len_fR, *]; omega)) rfl rfl ?_ ?_
                                          · exact fun _ _ h => h
                                          rintro _ _ ⟨rfl, rfl⟩
                                          refine J.iret rfl rfl (by first | omega | (exact R.r _ _) | (simp only [jM.len_sI, jM.len_sL, jM.len_sR, jM.len_fI, jM.len_fL, jM.len_fR]; omega) | (simp [jM.len_nw, jM.len_sI, jM.len_sL, jM.len_sR, jM.len_fI, jM.len_fL, jM.len_fR, *]; omega)) (by first | omega | (exact R.r _ _) | (simp only [jM.len_sI, jM.len_sL, jM.len_sR, jM.len_fI, jM.len_fL, jM.len_fR]; omega) | (simp [jM.len_nw, jM.len_sI, jM.len_sL, jM.len_sR, jM.len_fI, jM.len_fL, jM.len_fR, *]; omega)) ?_
                                          exact mQ.of (by unfold sp_usual; (repeat (first | rw [if_pos (by omega)] | rw [if_neg (by omega)]))))
                                     · first
                                       | (exfalso; omega)
                                       | (first | refine J.aload_n (pc' := 77) rfl rfl rfl ?_ | refine J.aload_nN (pc' := 77) rfl rfl rfl ?_
                                          refine J.iload_n (pc' := 78) rfl rfl rfl ?_
                                          refine J.iload_n (pc' := 79) rfl rfl rfl ?_
                                          refine J.iload_n (pc' := 80) rfl rfl rfl ?_
                                          refine J.callV (pc' := 83) (t := 16) rfl MX12_lowOf ml_X12_179 iv_X12_lowOf (by decide) ⟨_, rfl, rfl⟩ B.1 (cm_lowOf B R (by omega) (by omega) (by omega)) rfl rfl (Nat.le_of_ble_eq_true rfl) (by first | omega | (exact R.r _ _) | (simp only [jM.len_sI, jM.len_sL, jM.len_sR, jM.len_fI, jM.len_fL, jM.len_fR]; omega) | (simp [jM.len_nw, jM.len_sI, jM.len_sL, jM.len_sR, jM.len_fI, jM.len_fL, jM.len_fR, *]; omega)) (by first | omega | (exact R.r _ _) | (simp only [jM.len_sI, jM.len_sL, jM.len_sR, jM.len_fI, jM.len_fL, jM.len_fR]; omega) | (simp [jM.len_nw, jM.len_sI, jM.len_sL, jM.len_sR, jM.len_fI, jM.len_fL, jM.len_fR, *]; omega)) (by first | omega | (exact R.r _ _) | (simp only [jM.len_sI, jM.len_sL, jM.len_sR, jM.len_fI, jM.len_fL, jM.len_fR]; omega) | (simp [jM.len_nw, jM.len_sI, jM.len_sL, jM.len_sR, jM.len_fI, jM.len_fL, jM.len_fR, *]; omega)) rfl rfl ?_ ?_
                                          · exact fun _ _ h => h
                                          rintro _ _ ⟨rfl, rfl⟩
                                          refine J.goto (tgt := 93) rfl rfl ?_
                                          refine J.iret rfl rfl (by first | omega | (exact R.r _ _) | (simp only [jM.len_sI, jM.len_sL, jM.len_sR, jM.len_fI, jM.len_fL, jM.len_fR]; omega) | (simp [jM.len_nw, jM.len_sI, jM.len_sL, jM.len_sR, jM.len_fI, jM.len_fL, jM.len_fR, *]; omega)) (by first | omega | (exact R.r _ _) | (simp only [jM.len_sI, jM.len_sL, jM.len_sR, jM.len_fI, jM.len_fL, jM.len_fR]; omega) | (simp [jM.len_nw, jM.len_sI, jM.len_sL, jM.len_sR, jM.len_fI, jM.len_fL, jM.len_fR, *]; omega)) ?_
                                          exact mQ.of (by unfold sp_usual; (repeat (first | rw [if_pos (by omega)] | rw [if_neg (by omega)])))))
                                · first
                                  | (exfalso; omega)
                                  | (refine J.iconst (pc' := 70) rfl rfl ?_
                                     refine J.iret rfl rfl (by first | omega | (exact R.r _ _) | (simp only [jM.len_sI, jM.len_sL, jM.len_sR, jM.len_fI, jM.len_fL, jM.len_fR]; omega) | (simp [jM.len_nw, jM.len_sI, jM.len_sL, jM.len_sR, jM.len_fI, jM.len_fL, jM.len_fR, *]; omega)) (by first | omega | (exact R.r _ _) | (simp only [jM.len_sI, jM.len_sL, jM.len_sR, jM.len_fI, jM.len_fL, jM.len_fR]; omega) | (simp [jM.len_nw, jM.len_sI, jM.len_sL, jM.len_sR, jM.len_fI, jM.len_fL, jM.len_fR, *]; omega)) ?_
                                     exact mQ.of (by unfold sp_usual; (repeat (first | rw [if_pos (by omega)] | rw [if_neg (by omega)])))))
                           · first
                             | (exfalso; omega)
                             | (refine J.iload (pc' := 48) rfl rfl rfl ?_
                                refine J.if_eq (tgt := 57) (pc' := 51) rfl rfl rfl (by first | omega | (exact R.r _ _) | (simp only [jM.len_sI, jM.len_sL, jM.len_sR, jM.len_fI, jM.len_fL, jM.len_fR]; omega) | (simp [jM.len_nw, jM.len_sI, jM.len_sL, jM.len_sR, jM.len_fI, jM.len_fL, jM.len_fR, *]; omega)) (fun c48 => ?_) (fun c48 => ?_)
                                · first
                                  | (exfalso; omega)
                                  | (refine J.iconst (pc' := 58) rfl rfl ?_
                                     refine J.goto (tgt := 62) rfl rfl ?_
                                     refine J.iconst (pc' := 63) rfl rfl ?_
                                     first | refine J.callV (pc' := 66) (t := 16) rfl MX12_may ml_X12_161 iv_X12_may (by decide) ⟨_, rfl, rfl⟩ B.1 (cm_may1 B h0) rfl rfl (Nat.le_of_ble_eq_true rfl) (by first | omega | (exact R.r _ _) | (simp only [jM.len_sI, jM.len_sL, jM.len_sR, jM.len_fI, jM.len_fL, jM.len_fR]; omega) | (simp [jM.len_nw, jM.len_sI, jM.len_sL, jM.len_sR, jM.len_fI, jM.len_fL, jM.len_fR, *]; omega)) (by first | omega | (exact R.r _ _) | (simp only [jM.len_sI, jM.len_sL, jM.len_sR, jM.len_fI, jM.len_fL, jM.len_fR]; omega) | (simp [jM.len_nw, jM.len_sI, jM.len_sL, jM.len_sR, jM.len_fI, jM.len_fL, jM.len_fR, *]; omega)) (by first | omega | (exact R.r _ _) | (simp only [jM.len_sI, jM.len_sL, jM.len_sR, jM.len_fI, jM.len_fL, jM.len_fR]; omega) | (simp [jM.len_nw, jM.len_sI, jM.len_sL, jM.len_sR, jM.len_fI, jM.len_fL, jM.len_fR, *]; omega)) rfl rfl ?_ ?_ | refine J.callV (pc' := 66) (t := 16) rfl MX12_may ml_X12_161 iv_X12_may (by decide) ⟨_, rfl, rfl⟩ B.1 (cm_may0 B h0 (by omega)) rfl rfl (Nat.le_of_ble_eq_true rfl) (by first | omega | (exact R.r _ _) | (simp only [jM.len_sI, jM.len_sL, jM.len_sR, jM.len_fI, jM.len_fL, jM.len_fR]; omega) | (simp [jM.len_nw, jM.len_sI, jM.len_sL, jM.len_sR, jM.len_fI, jM.len_fL, jM.len_fR, *]; omega)) (by first | omega | (exact R.r _ _) | (simp only [jM.len_sI, jM.len_sL, jM.len_sR, jM.len_fI, jM.len_fL, jM.len_fR]; omega) | (simp [jM.len_nw, jM.len_sI, jM.len_sL, jM.len_sR, jM.len_fI, jM.len_fL, jM.len_fR, *]; omega)) (by first | omega | (exact R.r _ _) | (simp only [jM.len_sI, jM.len_sL, jM.len_sR, jM.len_fI, jM.len_fL, jM.len_fR]; omega) | (simp [jM.len_nw, jM.len_sI, jM.len_sL, jM.len_sR, jM.len_fI, jM.len_fL, jM.len_fR, *]; omega)) rfl rfl ?_ ?_
                                     · exact fun _ _ h => h
                                     rintro _ _ ⟨rfl, rfl⟩
                                     refine J.if_ne (tgt := 71) (pc' := 69) rfl rfl rfl (by first | omega | (exact R.r _ _) | (simp only [jM.len_sI, jM.len_sL, jM.len_sR, jM.len_fI, jM.len_fL, jM.len_fR]; omega) | (simp [jM.len_nw, jM.len_sI, jM.len_sL, jM.len_sR, jM.len_fI, jM.len_fL, jM.len_fR, *]; omega)) (fun c66 => ?_) (fun c66 => ?_)
                                     · first
                                       | (exfalso; omega)
                                       | (refine J.iload (pc' := 73) rfl rfl rfl ?_
                                          refine J.if_ne (tgt := 86) (pc' := 76) rfl rfl rfl (by first | omega | (exact R.r _ _) | (simp only [jM.len_sI, jM.len_sL, jM.len_sR, jM.len_fI, jM.len_fL, jM.len_fR]; omega) | (simp [jM.len_nw, jM.len_sI, jM.len_sL, jM.len_sR, jM.len_fI, jM.len_fL, jM.len_fR, *]; omega)) (fun c73 => ?_) (fun c73 => ?_)
                                          · first
                                            | (exfalso; omega)
                                            | (first | refine J.aload_n (pc' := 87) rfl rfl rfl ?_ | refine J.aload_nN (pc' := 87) rfl rfl rfl ?_
                                               refine J.iload_n (pc' := 88) rfl rfl rfl ?_
                                               refine J.iload_n (pc' := 89) rfl rfl rfl ?_
                                               refine J.iload_n (pc' := 90) rfl rfl rfl ?_
                                               refine J.callV (pc' := 93) (t := 16) rfl MX12_highOf ml_X12_182 iv_X12_highOf (by decide) ⟨_, rfl, rfl⟩ B.1 (cm_highOf B R (by omega) (by omega) (by omega)) rfl rfl (Nat.le_of_ble_eq_true rfl) (by first | omega | (exact R.r _ _) | (simp only [jM.len_sI, jM.len_sL, jM.len_sR, jM.len_fI, jM.len_fL, jM.len_fR]; omega) | (simp [jM.len_nw, jM.len_sI, jM.len_sL, jM.len_sR, jM.len_fI, jM.len_fL, jM.len_fR, *]; omega)) (by first | omega | (exact R.r _ _) | (simp only [jM.len_sI, jM.len_sL, jM.len_sR, jM.len_fI, jM.len_fL, jM.len_fR]; omega) | (simp [jM.len_nw, jM.len_sI, jM.len_sL, jM.len_sR, jM.len_fI, jM.len_fL, jM.len_fR, *]; omega)) (by first | omega | (exact R.r _ _) | (simp only [jM.len_sI, jM.len_sL, jM.len_sR, jM.len_fI, jM.len_fL, jM.len_fR]; omega) | (simp [jM.len_nw, jM.len_sI, jM.len_sL, jM.len_sR, jM.len_fI, jM.len_fL, jM.len_fR, *]; omega)) rfl rfl ?_ ?_
                                               · exact fun _ _ h => h
                                               rintro _ _ ⟨rfl, rfl⟩
                                               refine J.iret rfl rfl (by first | omega | (exact R.r _ _) | (simp only [jM.len_sI, jM.len_sL, jM.len_sR, jM.len_fI, jM.len_fL, jM.len_fR]; omega) | (simp [jM.len_nw, jM.len_sI, jM.len_sL, jM.len_sR, jM.len_fI, jM.len_fL, jM.len_fR, *]; omega)) (by first | omega | (exact R.r _ _) | (simp only [jM.len_sI, jM.len_sL, jM.len_sR, jM.len_fI, jM.len_fL, jM.len_fR]; omega) | (simp [jM.len_nw, jM.len_sI, jM.len_sL, jM.len_sR, jM.len_fI, jM.len_fL, jM.len_fR, *]; omega)) ?_
                                               exact mQ.of (by unfold sp_usual; (repeat (first | rw [if_pos (by omega)] | rw [if_neg (by omega)]))))
                                          · first
                                            | (exfalso; omega)
                                            | (first | refine J.aload_n (pc' := 77) rfl rfl rfl ?_ | refine J.aload_nN (pc' := 77) rfl rfl rfl ?_
                                               refine J.iload_n (pc' := 78) rfl rfl rfl ?_
                                               refine J.iload_n (pc' := 79) rfl rfl rfl ?_
                                               refine J.iload_n (pc' := 80) rfl rfl rfl ?_
                                               refine J.callV (pc' := 83) (t := 16) rfl MX12_lowOf ml_X12_179 iv_X12_lowOf (by decide) ⟨_, rfl, rfl⟩ B.1 (cm_lowOf B R (by omega) (by omega) (by omega)) rfl rfl (Nat.le_of_ble_eq_true rfl) (by first | omega | (exact R.r _ _) | (simp only [jM.len_sI, jM.len_sL, jM.len_sR, jM.len_fI, jM.len_fL, jM.len_fR]; omega) | (simp [jM.len_nw, jM.len_sI, jM.len_sL, jM.len_sR, jM.len_fI, jM.len_fL, jM.len_fR, *]; omega)) (by first | omega | (exact R.r _ _) | (simp only [jM.len_sI, jM.len_sL, jM.len_sR, jM.len_fI, jM.len_fL, jM.len_fR]; omega) | (simp [jM.len_nw, jM.len_sI, jM.len_sL, jM.len_sR, jM.len_fI, jM.len_fL, jM.len_fR, *]; omega)) (by first | omega | (exact R.r _ _) | (simp only [jM.len_sI, jM.len_sL, jM.len_sR, jM.len_fI, jM.len_fL, jM.len_fR]; omega) | (simp [jM.len_nw, jM.len_sI, jM.len_sL, jM.len_sR, jM.len_fI, jM.len_fL, jM.len_fR, *]; omega)) rfl rfl ?_ ?_
                                               · exact fun _ _ h => h
                                               rintro _ _ ⟨rfl, rfl⟩
                                               refine J.goto (tgt := 93) rfl rfl ?_
                                               refine J.iret rfl rfl (by first | omega | (exact R.r _ _) | (simp only [jM.len_sI, jM.len_sL, jM.len_sR, jM.len_fI, jM.len_fL, jM.len_fR]; omega) | (simp [jM.len_nw, jM.len_sI, jM.len_sL, jM.len_sR, jM.len_fI, jM.len_fL, jM.len_fR, *]; omega)) (by first | omega | (exact R.r _ _) | (simp only [jM.len_sI, jM.len_sL, jM.len_sR, jM.len_fI, jM.len_fL, jM.len_fR]; omega) | (simp [jM.len_nw, jM.len_sI, jM.len_sL, jM.len_sR, jM.len_fI, jM.len_fL, jM.len_fR, *]; omega)) ?_
                                               exact mQ.of (by unfold sp_usual; (repeat (first | rw [if_pos (by omega)] | rw [if_neg (by omega)])))))
                                     · first
                                       | (exfalso; omega)
                                       | (refine J.iconst (pc' := 70) rfl rfl ?_
                                          refine J.iret rfl rfl (by first | omega | (exact R.r _ _) | (simp only [jM.len_sI, jM.len_sL, jM.len_sR, jM.len_fI, jM.len_fL, jM.len_fR]; omega) | (simp [jM.len_nw, jM.len_sI, jM.len_sL, jM.len_sR, jM.len_fI, jM.len_fL, jM.len_fR, *]; omega)) (by first | omega | (exact R.r _ _) | (simp only [jM.len_sI, jM.len_sL, jM.len_sR, jM.len_fI, jM.len_fL, jM.len_fR]; omega) | (simp [jM.len_nw, jM.len_sI, jM.len_sL, jM.len_sR, jM.len_fI, jM.len_fL, jM.len_fR, *]; omega)) ?_
                                          exact mQ.of (by unfold sp_usual; (repeat (first | rw [if_pos (by omega)] | rw [if_neg (by omega)])))))
                                · first
                                  | (exfalso; omega)
                                  | (refine J.iload (pc' := 53) rfl rfl rfl ?_
                                     refine J.iconst (pc' := 54) rfl rfl ?_
                                     refine J.icmp_ne (tgt := 61) (pc' := 57) rfl rfl rfl (by first | omega | (exact R.r _ _) | (simp only [jM.len_sI, jM.len_sL, jM.len_sR, jM.len_fI, jM.len_fL, jM.len_fR]; omega) | (simp [jM.len_nw, jM.len_sI, jM.len_sL, jM.len_sR, jM.len_fI, jM.len_fL, jM.len_fR, *]; omega)) (by first | omega | (exact R.r _ _) | (simp only [jM.len_sI, jM.len_sL, jM.len_sR, jM.len_fI, jM.len_fL, jM.len_fR]; omega) | (simp [jM.len_nw, jM.len_sI, jM.len_sL, jM.len_sR, jM.len_fI, jM.len_fL, jM.len_fR, *]; omega)) (fun c54 => ?_) (fun c54 => ?_)
                                     · first
                                       | (exfalso; omega)
                                       | (refine J.iconst (pc' := 62) rfl rfl ?_
                                          refine J.iconst (pc' := 63) rfl rfl ?_
                                          first | refine J.callV (pc' := 66) (t := 16) rfl MX12_may ml_X12_161 iv_X12_may (by decide) ⟨_, rfl, rfl⟩ B.1 (cm_may1 B h0) rfl rfl (Nat.le_of_ble_eq_true rfl) (by first | omega | (exact R.r _ _) | (simp only [jM.len_sI, jM.len_sL, jM.len_sR, jM.len_fI, jM.len_fL, jM.len_fR]; omega) | (simp [jM.len_nw, jM.len_sI, jM.len_sL, jM.len_sR, jM.len_fI, jM.len_fL, jM.len_fR, *]; omega)) (by first | omega | (exact R.r _ _) | (simp only [jM.len_sI, jM.len_sL, jM.len_sR, jM.len_fI, jM.len_fL, jM.len_fR]; omega) | (simp [jM.len_nw, jM.len_sI, jM.len_sL, jM.len_sR, jM.len_fI, jM.len_fL, jM.len_fR, *]; omega)) (by first | omega | (exact R.r _ _) | (simp only [jM.len_sI, jM.len_sL, jM.len_sR, jM.len_fI, jM.len_fL, jM.len_fR]; omega) | (simp [jM.len_nw, jM.len_sI, jM.len_sL, jM.len_sR, jM.len_fI, jM.len_fL, jM.len_fR, *]; omega)) rfl rfl ?_ ?_ | refine J.callV (pc' := 66) (t := 16) rfl MX12_may ml_X12_161 iv_X12_may (by decide) ⟨_, rfl, rfl⟩ B.1 (cm_may0 B h0 (by omega)) rfl rfl (Nat.le_of_ble_eq_true rfl) (by first | omega | (exact R.r _ _) | (simp only [jM.len_sI, jM.len_sL, jM.len_sR, jM.len_fI, jM.len_fL, jM.len_fR]; omega) | (simp [jM.len_nw, jM.len_sI, jM.len_sL, jM.len_sR, jM.len_fI, jM.len_fL, jM.len_fR, *]; omega)) (by first | omega | (exact R.r _ _) | (simp only [jM.len_sI, jM.len_sL, jM.len_sR, jM.len_fI, jM.len_fL, jM.len_fR]; omega) | (simp [jM.len_nw, jM.len_sI, jM.len_sL, jM.len_sR, jM.len_fI, jM.len_fL, jM.len_fR, *]; omega)) (by first | omega | (exact R.r _ _) | (simp only [jM.len_sI, jM.len_sL, jM.len_sR, jM.len_fI, jM.len_fL, jM.len_fR]; omega) | (simp [jM.len_nw, jM.len_sI, jM.len_sL, jM.len_sR, jM.len_fI, jM.len_fL, jM.len_fR, *]; omega)) rfl rfl ?_ ?_
                                          · exact fun _ _ h => h
                                          rintro _ _ ⟨rfl, rfl⟩
                                          refine J.if_ne (tgt := 71) (pc' := 69) rfl rfl rfl (by first | omega | (exact R.r _ _) | (simp only [jM.len_sI, jM.len_sL, jM.len_sR, jM.len_fI, jM.len_fL, jM.len_fR]; omega) | (simp [jM.len_nw, jM.len_sI, jM.len_sL, jM.len_sR, jM.len_fI, jM.len_fL, jM.len_fR, *]; omega)) (fun c66 => ?_) (fun c66 => ?_)
                                          · first
                                            | (exfalso; omega)
                                            | (refine J.iload (pc' := 73) rfl rfl rfl ?_
                                               refine J.if_ne (tgt := 86) (pc' := 76) rfl rfl rfl (by first | omega | (exact R.r _ _) | (simp only [jM.len_sI, jM.len_sL, jM.len_sR, jM.len_fI, jM.len_fL, jM.len_fR]; omega) | (simp [jM.len_nw, jM.len_sI, jM.len_sL, jM.len_sR, jM.len_fI, jM.len_fL, jM.len_fR, *]; omega)) (fun c73 => ?_) (fun c73 => ?_)
                                               · first
                                                 | (exfalso; omega)
                                                 | (first | refine J.aload_n (pc' := 87) rfl rfl rfl ?_ | refine J.aload_nN (pc' := 87) rfl rfl rfl ?_
                                                    refine J.iload_n (pc' := 88) rfl rfl rfl ?_
                                                    refine J.iload_n (pc' := 89) rfl rfl rfl ?_
                                                    refine J.iload_n (pc' := 90) rfl rfl rfl ?_
                                                    refine J.callV (pc' := 93) (t := 16) rfl MX12_highOf ml_X12_182 iv_X12_highOf (by decide) ⟨_, rfl, rfl⟩ B.1 (cm_highOf B R (by omega) (by omega) (by omega)) rfl rfl (Nat.le_of_ble_eq_true rfl) (by first | omega | (exact R.r _ _) | (simp only [jM.len_sI, jM.len_sL, jM.len_sR, jM.len_fI, jM.len_fL, jM.len_fR]; omega) | (simp [jM.len_nw, jM.len_sI, jM.len_sL, jM.len_sR, jM.len_fI, jM.len_fL, jM.len_fR, *]; omega)) (by first | omega | (exact R.r _ _) | (simp only [jM.len_sI, jM.len_sL, jM.len_sR, jM.len_fI, jM.len_fL, jM.len_fR]; omega) | (simp [jM.len_nw, jM.len_sI, jM.len_sL, jM.len_sR, jM.len_fI, jM.len_fL, jM.len_fR, *]; omega)) (by first | omega | (exact R.r _ _) | (simp only [jM.len_sI, jM.len_sL, jM.len_sR, jM.len_fI, jM.len_fL, jM.len_fR]; omega) | (simp [jM.len_nw, jM.len_sI, jM.len_sL, jM.len_sR, jM.len_fI, jM.len_fL, jM.len_fR, *]; omega)) rfl rfl ?_ ?_
                                                    · exact fun _ _ h => h
                                                    rintro _ _ ⟨rfl, rfl⟩
                                                    refine J.iret rfl rfl (by first | omega | (exact R.r _ _) | (simp only [jM.len_sI, jM.len_sL, jM.len_sR, jM.len_fI, jM.len_fL, jM.len_fR]; omega) | (simp [jM.len_nw, jM.len_sI, jM.len_sL, jM.len_sR, jM.len_fI, jM.len_fL, jM.len_fR, *]; omega)) (by first | omega | (exact R.r _ _) | (simp only [jM.len_sI, jM.len_sL, jM.len_sR, jM.len_fI, jM.len_fL, jM.len_fR]; omega) | (simp [jM.len_nw, jM.len_sI, jM.len_sL, jM.len_sR, jM.len_fI, jM.len_fL, jM.len_fR, *]; omega)) ?_
                                                    exact mQ.of (by unfold sp_usual; (repeat (first | rw [if_pos (by omega)] | rw [if_neg (by omega)]))))
                                               · first
                                                 | (exfalso; omega)
                                                 | (first | refine J.aload_n (pc' := 77) rfl rfl rfl ?_ | refine J.aload_nN (pc' := 77) rfl rfl rfl ?_
                                                    refine J.iload_n (pc' := 78) rfl rfl rfl ?_
                                                    refine J.iload_n (pc' := 79) rfl rfl rfl ?_
                                                    refine J.iload_n (pc' := 80) rfl rfl rfl ?_
                                                    refine J.callV (pc' := 83) (t := 16) rfl MX12_lowOf ml_X12_179 iv_X12_lowOf (by decide) ⟨_, rfl, rfl⟩ B.1 (cm_lowOf B R (by omega) (by omega) (by omega)) rfl rfl (Nat.le_of_ble_eq_true rfl) (by first | omega | (exact R.r _ _) | (simp only [jM.len_sI, jM.len_sL, jM.len_sR, jM.len_fI, jM.len_fL, jM.len_fR]; omega) | (simp [jM.len_nw, jM.len_sI, jM.len_sL, jM.len_sR, jM.len_fI, jM.len_fL, jM.len_fR, *]; omega)) (by first | omega | (exact R.r _ _) | (simp only [jM.len_sI, jM.len_sL, jM.len_sR, jM.len_fI, jM.len_fL, jM.len_fR]; omega) | (simp [jM.len_nw, jM.len_sI, jM.len_sL, jM.len_sR, jM.len_fI, jM.len_fL, jM.len_fR, *]; omega)) (by first | omega | (exact R.r _ _) | (simp only [jM.len_sI, jM.len_sL, jM.len_sR, jM.len_fI, jM.len_fL, jM.len_fR]; omega) | (simp [jM.len_nw, jM.len_sI, jM.len_sL, jM.len_sR, jM.len_fI, jM.len_fL, jM.len_fR, *]; omega)) rfl rfl ?_ ?_
                                                    · exact fun _ _ h => h
                                                    rintro _ _ ⟨rfl, rfl⟩
                                                    refine J.goto (tgt := 93) rfl rfl ?_
                                                    refine J.iret rfl rfl (by first | omega | (exact R.r _ _) | (simp only [jM.len_sI, jM.len_sL, jM.len_sR, jM.len_fI, jM.len_fL, jM.len_fR]; omega) | (simp [jM.len_nw, jM.len_sI, jM.len_sL, jM.len_sR, jM.len_fI, jM.len_fL, jM.len_fR, *]; omega)) (by first | omega | (exact R.r _ _) | (simp only [jM.len_sI, jM.len_sL, jM.len_sR, jM.len_fI, jM.len_fL, jM.len_fR]; omega) | (simp [jM.len_nw, jM.len_sI, jM.len_sL, jM.len_sR, jM.len_fI, jM.len_fL, jM.len_fR, *]; omega)) ?_
                                                    exact mQ.of (by unfold sp_usual; (repeat (first | rw [if_pos (by omega)] | rw [if_neg (by omega)])))))
                                          · first
                                            | (exfalso; omega)
                                            | (refine J.iconst (pc' := 70) rfl rfl ?_
                                               refine J.iret rfl rfl (by first | omega | (exact R.r _ _) | (simp only [jM.len_sI, jM.len_sL, jM.len_sR, jM.len_fI, jM.len_fL, jM.len_fR]; omega) | (simp [jM.len_nw, jM.len_sI, jM.len_sL, jM.len_sR, jM.len_fI, jM.len_fL, jM.len_fR, *]; omega)) (by first | omega | (exact R.r _ _) | (simp only [jM.len_sI, jM.len_sL, jM.len_sR, jM.len_fI, jM.len_fL, jM.len_fR]; omega) | (simp [jM.len_nw, jM.len_sI, jM.len_sL, jM.len_sR, jM.len_fI, jM.len_fL, jM.len_fR, *]; omega)) ?_
                                               exact mQ.of (by unfold sp_usual; (repeat (first | rw [if_pos (by omega)] | rw [if_neg (by omega)])))))
                                     · first
                                       | (exfalso; omega)
                                       | (refine J.iconst (pc' := 58) rfl rfl ?_
                                          refine J.goto (tgt := 62) rfl rfl ?_
                                          refine J.iconst (pc' := 63) rfl rfl ?_
                                          first | refine J.callV (pc' := 66) (t := 16) rfl MX12_may ml_X12_161 iv_X12_may (by decide) ⟨_, rfl, rfl⟩ B.1 (cm_may1 B h0) rfl rfl (Nat.le_of_ble_eq_true rfl) (by first | omega | (exact R.r _ _) | (simp only [jM.len_sI, jM.len_sL, jM.len_sR, jM.len_fI, jM.len_fL, jM.len_fR]; omega) | (simp [jM.len_nw, jM.len_sI, jM.len_sL, jM.len_sR, jM.len_fI, jM.len_fL, jM.len_fR, *]; omega)) (by first | omega | (exact R.r _ _) | (simp only [jM.len_sI, jM.len_sL, jM.len_sR, jM.len_fI, jM.len_fL, jM.len_fR]; omega) | (simp [jM.len_nw, jM.len_sI, jM.len_sL, jM.len_sR, jM.len_fI, jM.len_fL, jM.len_fR, *]; omega)) (by first | omega | (exact R.r _ _) | (simp only [jM.len_sI, jM.len_sL, jM.len_sR, jM.len_fI, jM.len_fL, jM.len_fR]; omega) | (simp [jM.len_nw, jM.len_sI, jM.len_sL, jM.len_sR, jM.len_fI, jM.len_fL, jM.len_fR, *]; omega)) rfl rfl ?_ ?_ | refine J.callV (pc' := 66) (t := 16) rfl MX12_may ml_X12_161 iv_X12_may (by decide) ⟨_, rfl, rfl⟩ B.1 (cm_may0 B h0 (by omega)) rfl rfl (Nat.le_of_ble_eq_true rfl) (by first | omega | (exact R.r _ _) | (simp only [jM.len_sI, jM.len_sL, jM.len_sR, jM.len_fI, jM.len_fL, jM.len_fR]; omega) | (simp [jM.len_nw, jM.len_sI, jM.len_sL, jM.len_sR, jM.len_fI, jM.len_fL, jM.len_fR, *]; omega)) (by first | omega | (exact R.r _ _) | (simp only [jM.len_sI, jM.len_sL, jM.len_sR, jM.len_fI, jM.len_fL, jM.len_fR]; omega) | (simp [jM.len_nw, jM.len_sI, jM.len_sL, jM.len_sR, jM.len_fI, jM.len_fL, jM.len_fR, *]; omega)) (by first | omega | (exact R.r _ _) | (simp only [jM.len_sI, jM.len_sL, jM.len_sR, jM.len_fI, jM.len_fL, jM.len_fR]; omega) | (simp [jM.len_nw, jM.len_sI, jM.len_sL, jM.len_sR, jM.len_fI, jM.len_fL, jM.len_fR, *]; omega)) rfl rfl ?_ ?_
                                          · exact fun _ _ h => h
                                          rintro _ _ ⟨rfl, rfl⟩
                                          refine J.if_ne (tgt := 71) (pc' := 69) rfl rfl rfl (by first | omega | (exact R.r _ _) | (simp only [jM.len_sI, jM.len_sL, jM.len_sR, jM.len_fI, jM.len_fL, jM.len_fR]; omega) | (simp [jM.len_nw, jM.len_sI, jM.len_sL, jM.len_sR, jM.len_fI, jM.len_fL, jM.len_fR, *]; omega)) (fun c66 => ?_) (fun c66 => ?_)
                                          · first
                                            | (exfalso; omega)
                                            | (refine J.iload (pc' := 73) rfl rfl rfl ?_
                                               refine J.if_ne (tgt := 86) (pc' := 76) rfl rfl rfl (by first | omega | (exact R.r _ _) | (simp only [jM.len_sI, jM.len_sL, jM.len_sR, jM.len_fI, jM.len_fL, jM.len_fR]; omega) | (simp [jM.len_nw, jM.len_sI, jM.len_sL, jM.len_sR, jM.len_fI, jM.len_fL, jM.len_fR, *]; omega)) (fun c73 => ?_) (fun c73 => ?_)
                                               · first
                                                 | (exfalso; omega)
                                                 | (first | refine J.aload_n (pc' := 87) rfl rfl rfl ?_ | refine J.aload_nN (pc' := 87) rfl rfl rfl ?_
                                                    refine J.iload_n (pc' := 88) rfl rfl rfl ?_
                                                    refine J.iload_n (pc' := 89) rfl rfl rfl ?_
                                                    refine J.iload_n (pc' := 90) rfl rfl rfl ?_
                                                    refine J.callV (pc' := 93) (t := 16) rfl MX12_highOf ml_X12_182 iv_X12_highOf (by decide) ⟨_, rfl, rfl⟩ B.1 (cm_highOf B R (by omega) (by omega) (by omega)) rfl rfl (Nat.le_of_ble_eq_true rfl) (by first | omega | (exact R.r _ _) | (simp only [jM.len_sI, jM.len_sL, jM.len_sR, jM.len_fI, jM.len_fL, jM.len_fR]; omega) | (simp [jM.len_nw, jM.len_sI, jM.len_sL, jM.len_sR, jM.len_fI, jM.len_fL, jM.len_fR, *]; omega)) (by first | omega | (exact R.r _ _) | (simp only [jM.len_sI, jM.len_sL, jM.len_sR, jM.len_fI, jM.len_fL, jM.len_fR]; omega) | (simp [jM.len_nw, jM.len_sI, jM.len_sL, jM.len_sR, jM.len_fI, jM.len_fL, jM.len_fR, *]; omega)) (by first | omega | (exact R.r _ _) | (simp only [jM.len_sI, jM.len_sL, jM.len_sR, jM.len_fI, jM.len_fL, jM.len_fR]; omega) | (simp [jM.len_nw, jM.len_sI, jM.len_sL, jM.len_sR, jM.len_fI, jM.len_fL, jM.len_fR, *]; omega)) rfl rfl ?_ ?_
                                                    · exact fun _ _ h => h
                                                    rintro _ _ ⟨rfl, rfl⟩
                                                    refine J.iret rfl rfl (by first | omega | (exact R.r _ _) | (simp only [jM.len_sI, jM.len_sL, jM.len_sR, jM.len_fI, jM.len_fL, jM.len_fR]; omega) | (simp [jM.len_nw, jM.len_sI, jM.len_sL, jM.len_sR, jM.len_fI, jM.len_fL, jM.len_fR, *]; omega)) (by first | omega | (exact R.r _ _) | (simp only [jM.len_sI, jM.len_sL, jM.len_sR, jM.len_fI, jM.len_fL, jM.len_fR]; omega) | (simp [jM.len_nw, jM.len_sI, jM.len_sL, jM.len_sR, jM.len_fI, jM.len_fL, jM.len_fR, *]; omega)) ?_
                                                    exact mQ.of (by unfold sp_usual; (repeat (first | rw [if_pos (by omega)] | rw [if_neg (by omega)]))))
                                               · first
                                                 | (exfalso; omega)
                                                 | (first | refine J.aload_n (pc' := 77) rfl rfl rfl ?_ | refine J.aload_nN (pc' := 77) rfl rfl rfl ?_
                                                    refine J.iload_n (pc' := 78) rfl rfl rfl ?_
                                                    refine J.iload_n (pc' := 79) rfl rfl rfl ?_
                                                    refine J.iload_n (pc' := 80) rfl rfl rfl ?_
                                                    refine J.callV (pc' := 83) (t := 16) rfl MX12_lowOf ml_X12_179 iv_X12_lowOf (by decide) ⟨_, rfl, rfl⟩ B.1 (cm_lowOf B R (by omega) (by omega) (by omega)) rfl rfl (Nat.le_of_ble_eq_true rfl) (by first | omega | (exact R.r _ _) | (simp only [jM.len_sI, jM.len_sL, jM.len_sR, jM.len_fI, jM.len_fL, jM.len_fR]; omega) | (simp [jM.len_nw, jM.len_sI, jM.len_sL, jM.len_sR, jM.len_fI, jM.len_fL, jM.len_fR, *]; omega)) (by first | omega | (exact R.r _ _) | (simp only [jM.len_sI, jM.len_sL, jM.len_sR, jM.len_fI, jM.len_fL, jM.len_fR]; omega) | (simp [jM.len_nw, jM.len_sI, jM.len_sL, jM.len_sR, jM.len_fI, jM.len_fL, jM.len_fR, *]; omega)) (by first | omega | (exact R.r _ _) | (simp only [jM.len_sI, jM.len_sL, jM.len_sR, jM.len_fI, jM.len_fL, jM.len_fR]; omega) | (simp [jM.len_nw, jM.len_sI, jM.len_sL, jM.len_sR, jM.len_fI, jM.len_fL, jM.len_fR, *]; omega)) rfl rfl ?_ ?_
                                                    · exact fun _ _ h => h
                                                    rintro _ _ ⟨rfl, rfl⟩
                                                    refine J.goto (tgt := 93) rfl rfl ?_
                                                    refine J.iret rfl rfl (by first | omega | (exact R.r _ _) | (simp only [jM.len_sI, jM.len_sL, jM.len_sR, jM.len_fI, jM.len_fL, jM.len_fR]; omega) | (simp [jM.len_nw, jM.len_sI, jM.len_sL, jM.len_sR, jM.len_fI, jM.len_fL, jM.len_fR, *]; omega)) (by first | omega | (exact R.r _ _) | (simp only [jM.len_sI, jM.len_sL, jM.len_sR, jM.len_fI, jM.len_fL, jM.len_fR]; omega) | (simp [jM.len_nw, jM.len_sI, jM.len_sL, jM.len_sR, jM.len_fI, jM.len_fL, jM.len_fR, *]; omega)) ?_
                                                    exact mQ.of (by unfold sp_usual; (repeat (first | rw [if_pos (by omega)] | rw [if_neg (by omega)])))))
                                          · first
                                            | (exfalso; omega)
                                            | (refine J.iconst (pc' := 70) rfl rfl ?_
                                               refine J.iret rfl rfl (by first | omega | (exact R.r _ _) | (simp only [jM.len_sI, jM.len_sL, jM.len_sR, jM.len_fI, jM.len_fL, jM.len_fR]; omega) | (simp [jM.len_nw, jM.len_sI, jM.len_sL, jM.len_sR, jM.len_fI, jM.len_fL, jM.len_fR, *]; omega)) (by first | omega | (exact R.r _ _) | (simp only [jM.len_sI, jM.len_sL, jM.len_sR, jM.len_fI, jM.len_fL, jM.len_fR]; omega) | (simp [jM.len_nw, jM.len_sI, jM.len_sL, jM.len_sR, jM.len_fI, jM.len_fL, jM.len_fR, *]; omega)) ?_
                                               exact mQ.of (by unfold sp_usual; (repeat (first | rw [if_pos (by omega)] | rw [if_neg (by omega)]))))))))))))
theorem cm_inForce {s d : Int} (B : isB β) (R : isR V) (hs : r32 s) (hd : r32 d) : CT γ mX12_inForce 0 0 0 [.ref (β.2 16), .int (jI s), .int (jI d)] (jP β V) (fun r h' => r = some (.int (jI (inF V s d (V 16 11).toNat))) ∧ h' = jP β V) X0 := by
  have hf := R.f
  refine CT.of MX12_inForce (Nat.le_of_ble_eq_true rfl) ?_
  show J γ mX12_inForce 0 0 0 0 0 (jP β V) 0 [(0, .ref (β.2 16)), (1, .int (jI s)), (2, .int (jI d))] [] _ _
  refine J.iconst (pc' := 1) rfl rfl ?_
  refine J.istore_n (pc' := 2) rfl rfl (by decide) ?_
  refine J.iconst (pc' := 3) rfl rfl ?_
  refine J.istore (pc' := 5) rfl rfl (by decide) ?_
  have key : ∀ (n i : Nat), (i : Int) + n = V 16 11 → J γ mX12_inForce 0 0 0 0 0 (jP β V) 5 [(0, .ref (β.2 16)), (1, .int (jI s)), (2, .int (jI d)), (3, .int (jI (inF V s d i))), (4, .int (jI (i : Int)))] [] (fun r h' => r = some (.int (jI (inF V s d (V 16 11).toNat))) ∧ h' = jP β V) X0 := by
    intro n
    induction n with
    | zero =>
      intro i hi
      refine J.iload (pc' := 7) rfl rfl rfl ?_
      first | refine J.aload_n (pc' := 8) rfl rfl rfl ?_ | refine J.aload_nN (pc' := 8) rfl rfl rfl ?_
      refine J.mgI (pc' := 11) (j := 11) B rfl fl_X12_239 rfl rfl rfl ?_
      refine J.icmp_ge (tgt := 66) (pc' := 14) rfl rfl rfl (by first | omega | (exact R.r _ _) | (simp only [jM.len_sI, jM.len_sL, jM.len_sR, jM.len_fI, jM.len_fL, jM.len_fR]; omega) | (simp [jM.len_nw, jM.len_sI, jM.len_sL, jM.len_sR, jM.len_fI, jM.len_fL, jM.len_fR, *]; omega)) (by first | omega | (exact R.r _ _) | (simp only [jM.len_sI, jM.len_sL, jM.len_sR, jM.len_fI, jM.len_fL, jM.len_fR]; omega) | (simp [jM.len_nw, jM.len_sI, jM.len_sL, jM.len_sR, jM.len_fI, jM.len_fL, jM.len_fR, *]; omega)) (fun c11 => ?_) (fun c11 => ?_)
      · first
        | (exfalso; omega)
        | (refine J.iload_n (pc' := 67) rfl rfl rfl ?_
           refine J.iret rfl rfl (by first | omega | (exact R.r _ _) | (simp only [jM.len_sI, jM.len_sL, jM.len_sR, jM.len_fI, jM.len_fL, jM.len_fR]; omega) | (simp [jM.len_nw, jM.len_sI, jM.len_sL, jM.len_sR, jM.len_fI, jM.len_fL, jM.len_fR, *]; omega)) (by first | omega | (exact R.r _ _) | (simp only [jM.len_sI, jM.len_sL, jM.len_sR, jM.len_fI, jM.len_fL, jM.len_fR]; omega) | (simp [jM.len_nw, jM.len_sI, jM.len_sL, jM.len_sR, jM.len_fI, jM.len_fL, jM.len_fR, *]; omega)) ?_
           exact ⟨by rw [show (V 16 11).toNat = i by omega], rfl⟩)
      · first
        | (exfalso; omega)
        | (first | refine J.aload_n (pc' := 15) rfl rfl rfl ?_ | refine J.aload_nN (pc' := 15) rfl rfl rfl ?_
           refine J.mgR (pc' := 18) (t := 117) B rfl fl_X12_37 rfl rfl (by decide) rfl ?_
           refine J.iload (pc' := 20) rfl rfl rfl ?_
           refine J.mald (pc' := 21) B rfl rfl rfl (by omega) (by simp only [jLn]; omega) rfl ?_
           refine J.iload_n (pc' := 22) rfl rfl rfl ?_
           refine J.icmp_ne (tgt := 60) (pc' := 25) rfl rfl rfl (by first | omega | (exact R.r _ _) | (simp only [jM.len_sI, jM.len_sL, jM.len_sR, jM.len_fI, jM.len_fL, jM.len_fR]; omega) | (simp [jM.len_nw, jM.len_sI, jM.len_sL, jM.len_sR, jM.len_fI, jM.len_fL, jM.len_fR, *]; omega)) (by first | omega | (exact R.r _ _) | (simp only [jM.len_sI, jM.len_sL, jM.len_sR, jM.len_fI, jM.len_fL, jM.len_fR]; omega) | (simp [jM.len_nw, jM.len_sI, jM.len_sL, jM.len_sR, jM.len_fI, jM.len_fL, jM.len_fR, *]; omega)) (fun c22 => ?_) (fun c22 => ?_)
           · first
             | (exfalso; omega)
             | (refine J.iinc (pc' := 63) rfl rfl rfl (by decide) ?_
                refine J.goto (tgt := 5) rfl rfl ?_
                exfalso
                omega)
           · first
             | (exfalso; omega)
             | (first | refine J.aload_n (pc' := 26) rfl rfl rfl ?_ | refine J.aload_nN (pc' := 26) rfl rfl rfl ?_
                refine J.mgR (pc' := 29) (t := 118) B rfl fl_X12_40 rfl rfl (by decide) rfl ?_
                refine J.iload (pc' := 31) rfl rfl rfl ?_
                refine J.mald (pc' := 32) B rfl rfl rfl (by omega) (by simp only [jLn]; omega) rfl ?_
                refine J.iload_n (pc' := 33) rfl rfl rfl ?_
                refine J.icmp_gt (tgt := 60) (pc' := 36) rfl rfl rfl (by first | omega | (exact R.r _ _) | (simp only [jM.len_sI, jM.len_sL, jM.len_sR, jM.len_fI, jM.len_fL, jM.len_fR]; omega) | (simp [jM.len_nw, jM.len_sI, jM.len_sL, jM.len_sR, jM.len_fI, jM.len_fL, jM.len_fR, *]; omega)) (by first | omega | (exact R.r _ _) | (simp only [jM.len_sI, jM.len_sL, jM.len_sR, jM.len_fI, jM.len_fL, jM.len_fR]; omega) | (simp [jM.len_nw, jM.len_sI, jM.len_sL, jM.len_sR, jM.len_fI, jM.len_fL, jM.len_fR, *]; omega)) (fun c33 => ?_) (fun c33 => ?_)
                · first
                  | (exfalso; omega)
                  | (refine J.iinc (pc' := 63) rfl rfl rfl (by decide) ?_
                     refine J.goto (tgt := 5) rfl rfl ?_
                     exfalso
                     omega)
                · first
                  | (exfalso; omega)
                  | (refine J.iload_n (pc' := 37) rfl rfl rfl ?_
                     refine J.iconst (pc' := 38) rfl rfl ?_
                     refine J.icmp_eq (tgt := 57) (pc' := 41) rfl rfl rfl (by first | omega | (exact R.r _ _) | (simp only [jM.len_sI, jM.len_sL, jM.len_sR, jM.len_fI, jM.len_fL, jM.len_fR]; omega) | (simp [jM.len_nw, jM.len_sI, jM.len_sL, jM.len_sR, jM.len_fI, jM.len_fL, jM.len_fR, *]; omega)) (by first | omega | (exact R.r _ _) | (simp only [jM.len_sI, jM.len_sL, jM.len_sR, jM.len_fI, jM.len_fL, jM.len_fR]; omega) | (simp [jM.len_nw, jM.len_sI, jM.len_sL, jM.len_sR, jM.len_fI, jM.len_fL, jM.len_fR, *]; omega)) (fun c38 => ?_) (fun c38 => ?_)
                     · first
                       | (exfalso; omega)
                       | (refine J.iload (pc' := 59) rfl rfl rfl ?_
                          refine J.istore_n (pc' := 60) rfl rfl (by decide) ?_
                          refine J.iinc (pc' := 63) rfl rfl rfl (by decide) ?_
                          refine J.goto (tgt := 5) rfl rfl ?_
                          exfalso
                          omega)
                     · first
                       | (exfalso; omega)
                       | (first | refine J.aload_n (pc' := 42) rfl rfl rfl ?_ | refine J.aload_nN (pc' := 42) rfl rfl rfl ?_
                          refine J.mgR (pc' := 45) (t := 118) B rfl fl_X12_40 rfl rfl (by decide) rfl ?_
                          refine J.iload (pc' := 47) rfl rfl rfl ?_
                          refine J.mald (pc' := 48) B rfl rfl rfl (by omega) (by simp only [jLn]; omega) rfl ?_
                          first | refine J.aload_n (pc' := 49) rfl rfl rfl ?_ | refine J.aload_nN (pc' := 49) rfl rfl rfl ?_
                          refine J.mgR (pc' := 52) (t := 118) B rfl fl_X12_40 rfl rfl (by decide) rfl ?_
                          refine J.iload_n (pc' := 53) rfl rfl rfl ?_
                          refine J.mald (pc' := 54) B rfl rfl rfl (by omega) (by simp only [jLn]; omega) rfl ?_
                          refine J.icmp_lt (tgt := 60) (pc' := 57) rfl rfl rfl (by first | omega | (exact R.r _ _) | (simp only [jM.len_sI, jM.len_sL, jM.len_sR, jM.len_fI, jM.len_fL, jM.len_fR]; omega) | (simp [jM.len_nw, jM.len_sI, jM.len_sL, jM.len_sR, jM.len_fI, jM.len_fL, jM.len_fR, *]; omega)) (by first | omega | (exact R.r _ _) | (simp only [jM.len_sI, jM.len_sL, jM.len_sR, jM.len_fI, jM.len_fL, jM.len_fR]; omega) | (simp [jM.len_nw, jM.len_sI, jM.len_sL, jM.len_sR, jM.len_fI, jM.len_fL, jM.len_fR, *]; omega)) (fun c54 => ?_) (fun c54 => ?_)
                          · first
                            | (exfalso; omega)
                            | (refine J.iinc (pc' := 63) rfl rfl rfl (by decide) ?_
                               refine J.goto (tgt := 5) rfl rfl ?_
                               exfalso
                               omega)
                          · first
                            | (exfalso; omega)
                            | (refine J.iload (pc' := 59) rfl rfl rfl ?_
                               refine J.istore_n (pc' := 60) rfl rfl (by decide) ?_
                               refine J.iinc (pc' := 63) rfl rfl rfl (by decide) ?_
                               refine J.goto (tgt := 5) rfl rfl ?_
                               exfalso
                               omega)))))
    | succ n ih =>
      intro i hi
      have hb := inF_b V s d i
      have h9 := ih (i + 1) (by omega)
      rw [inF, show ((i + 1 : Nat) : Int) = (i : Int) + 1 by omega] at h9
      refine J.iload (pc' := 7) rfl rfl rfl ?_
      first | refine J.aload_n (pc' := 8) rfl rfl rfl ?_ | refine J.aload_nN (pc' := 8) rfl rfl rfl ?_
      refine J.mgI (pc' := 11) (j := 11) B rfl fl_X12_239 rfl rfl rfl ?_
      refine J.icmp_ge (tgt := 66) (pc' := 14) rfl rfl rfl (by first | omega | (exact R.r _ _) | (simp only [jM.len_sI, jM.len_sL, jM.len_sR, jM.len_fI, jM.len_fL, jM.len_fR]; omega) | (simp [jM.len_nw, jM.len_sI, jM.len_sL, jM.len_sR, jM.len_fI, jM.len_fL, jM.len_fR, *]; omega)) (by first | omega | (exact R.r _ _) | (simp only [jM.len_sI, jM.len_sL, jM.len_sR, jM.len_fI, jM.len_fL, jM.len_fR]; omega) | (simp [jM.len_nw, jM.len_sI, jM.len_sL, jM.len_sR, jM.len_fI, jM.len_fL, jM.len_fR, *]; omega)) (fun c11 => ?_) (fun c11 => ?_)
      · first
        | (exfalso; omega)
        | (refine J.iload_n (pc' := 67) rfl rfl rfl ?_
           refine J.iret rfl rfl (by first | omega | (exact R.r _ _) | (simp only [jM.len_sI, jM.len_sL, jM.len_sR, jM.len_fI, jM.len_fL, jM.len_fR]; omega) | (simp [jM.len_nw, jM.len_sI, jM.len_sL, jM.len_sR, jM.len_fI, jM.len_fL, jM.len_fR, *]; omega)) (by first | omega | (exact R.r _ _) | (simp only [jM.len_sI, jM.len_sL, jM.len_sR, jM.len_fI, jM.len_fL, jM.len_fR]; omega) | (simp [jM.len_nw, jM.len_sI, jM.len_sL, jM.len_sR, jM.len_fI, jM.len_fL, jM.len_fR, *]; omega)) ?_
           exact ⟨rfl, rfl⟩)
      · first
        | (exfalso; omega)
        | (first | refine J.aload_n (pc' := 15) rfl rfl rfl ?_ | refine J.aload_nN (pc' := 15) rfl rfl rfl ?_
           refine J.mgR (pc' := 18) (t := 117) B rfl fl_X12_37 rfl rfl (by decide) rfl ?_
           refine J.iload (pc' := 20) rfl rfl rfl ?_
           refine J.mald (pc' := 21) B rfl rfl rfl (by omega) (by simp only [jLn]; omega) rfl ?_
           refine J.iload_n (pc' := 22) rfl rfl rfl ?_
           refine J.icmp_ne (tgt := 60) (pc' := 25) rfl rfl rfl (by first | omega | (exact R.r _ _) | (simp only [jM.len_sI, jM.len_sL, jM.len_sR, jM.len_fI, jM.len_fL, jM.len_fR]; omega) | (simp [jM.len_nw, jM.len_sI, jM.len_sL, jM.len_sR, jM.len_fI, jM.len_fL, jM.len_fR, *]; omega)) (by first | omega | (exact R.r _ _) | (simp only [jM.len_sI, jM.len_sL, jM.len_sR, jM.len_fI, jM.len_fL, jM.len_fR]; omega) | (simp [jM.len_nw, jM.len_sI, jM.len_sL, jM.len_sR, jM.len_fI, jM.len_fL, jM.len_fR, *]; omega)) (fun c22 => ?_) (fun c22 => ?_)
           · first
             | (exfalso; omega)
             | (refine J.iinc (pc' := 63) rfl rfl rfl (by decide) ?_
                refine J.goto (tgt := 5) rfl rfl ?_
                first | (rw [if_pos (by omega)] at h9; exact h9) | (rw [if_neg (by omega)] at h9; exact h9))
           · first
             | (exfalso; omega)
             | (first | refine J.aload_n (pc' := 26) rfl rfl rfl ?_ | refine J.aload_nN (pc' := 26) rfl rfl rfl ?_
                refine J.mgR (pc' := 29) (t := 118) B rfl fl_X12_40 rfl rfl (by decide) rfl ?_
                refine J.iload (pc' := 31) rfl rfl rfl ?_
                refine J.mald (pc' := 32) B rfl rfl rfl (by omega) (by simp only [jLn]; omega) rfl ?_
                refine J.iload_n (pc' := 33) rfl rfl rfl ?_
                refine J.icmp_gt (tgt := 60) (pc' := 36) rfl rfl rfl (by first | omega | (exact R.r _ _) | (simp only [jM.len_sI, jM.len_sL, jM.len_sR, jM.len_fI, jM.len_fL, jM.len_fR]; omega) | (simp [jM.len_nw, jM.len_sI, jM.len_sL, jM.len_sR, jM.len_fI, jM.len_fL, jM.len_fR, *]; omega)) (by first | omega | (exact R.r _ _) | (simp only [jM.len_sI, jM.len_sL, jM.len_sR, jM.len_fI, jM.len_fL, jM.len_fR]; omega) | (simp [jM.len_nw, jM.len_sI, jM.len_sL, jM.len_sR, jM.len_fI, jM.len_fL, jM.len_fR, *]; omega)) (fun c33 => ?_) (fun c33 => ?_)
                · first
                  | (exfalso; omega)
                  | (refine J.iinc (pc' := 63) rfl rfl rfl (by decide) ?_
                     refine J.goto (tgt := 5) rfl rfl ?_
                     first | (rw [if_pos (by omega)] at h9; exact h9) | (rw [if_neg (by omega)] at h9; exact h9))
                · first
                  | (exfalso; omega)
                  | (refine J.iload_n (pc' := 37) rfl rfl rfl ?_
                     refine J.iconst (pc' := 38) rfl rfl ?_
                     refine J.icmp_eq (tgt := 57) (pc' := 41) rfl rfl rfl (by first | omega | (exact R.r _ _) | (simp only [jM.len_sI, jM.len_sL, jM.len_sR, jM.len_fI, jM.len_fL, jM.len_fR]; omega) | (simp [jM.len_nw, jM.len_sI, jM.len_sL, jM.len_sR, jM.len_fI, jM.len_fL, jM.len_fR, *]; omega)) (by first | omega | (exact R.r _ _) | (simp only [jM.len_sI, jM.len_sL, jM.len_sR, jM.len_fI, jM.len_fL, jM.len_fR]; omega) | (simp [jM.len_nw, jM.len_sI, jM.len_sL, jM.len_sR, jM.len_fI, jM.len_fL, jM.len_fR, *]; omega)) (fun c38 => ?_) (fun c38 => ?_)
                     · first
                       | (exfalso; omega)
                       | (refine J.iload (pc' := 59) rfl rfl rfl ?_
                          refine J.istore_n (pc' := 60) rfl rfl (by decide) ?_
                          refine J.iinc (pc' := 63) rfl rfl rfl (by decide) ?_
                          refine J.goto (tgt := 5) rfl rfl ?_
                          first | (rw [if_pos (by omega)] at h9; exact h9) | (rw [if_neg (by omega)] at h9; exact h9))
                     · first
                       | (exfalso; omega)
                       | (first | refine J.aload_n (pc' := 42) rfl rfl rfl ?_ | refine J.aload_nN (pc' := 42) rfl rfl rfl ?_
                          refine J.mgR (pc' := 45) (t := 118) B rfl fl_X12_40 rfl rfl (by decide) rfl ?_
                          refine J.iload (pc' := 47) rfl rfl rfl ?_
                          refine J.mald (pc' := 48) B rfl rfl rfl (by omega) (by simp only [jLn]; omega) rfl ?_
                          first | refine J.aload_n (pc' := 49) rfl rfl rfl ?_ | refine J.aload_nN (pc' := 49) rfl rfl rfl ?_
                          refine J.mgR (pc' := 52) (t := 118) B rfl fl_X12_40 rfl rfl (by decide) rfl ?_
                          refine J.iload_n (pc' := 53) rfl rfl rfl ?_
                          refine J.mald (pc' := 54) B rfl rfl rfl (by omega) (by simp only [jLn]; omega) rfl ?_
                          refine J.icmp_lt (tgt := 60) (pc' := 57) rfl rfl rfl (by first | omega | (exact R.r _ _) | (simp only [jM.len_sI, jM.len_sL, jM.len_sR, jM.len_fI, jM.len_fL, jM.len_fR]; omega) | (simp [jM.len_nw, jM.len_sI, jM.len_sL, jM.len_sR, jM.len_fI, jM.len_fL, jM.len_fR, *]; omega)) (by first | omega | (exact R.r _ _) | (simp only [jM.len_sI, jM.len_sL, jM.len_sR, jM.len_fI, jM.len_fL, jM.len_fR]; omega) | (simp [jM.len_nw, jM.len_sI, jM.len_sL, jM.len_sR, jM.len_fI, jM.len_fL, jM.len_fR, *]; omega)) (fun c54 => ?_) (fun c54 => ?_)
                          · first
                            | (exfalso; omega)
                            | (refine J.iinc (pc' := 63) rfl rfl rfl (by decide) ?_
                               refine J.goto (tgt := 5) rfl rfl ?_
                               first | (rw [if_pos (by omega)] at h9; exact h9) | (rw [if_neg (by omega)] at h9; exact h9))
                          · first
                            | (exfalso; omega)
                            | (refine J.iload (pc' := 59) rfl rfl rfl ?_
                               refine J.istore_n (pc' := 60) rfl rfl (by decide) ?_
                               refine J.iinc (pc' := 63) rfl rfl rfl (by decide) ?_
                               refine J.goto (tgt := 5) rfl rfl ?_
                               first | (rw [if_pos (by omega)] at h9; exact h9) | (rw [if_neg (by omega)] at h9; exact h9))))))
  exact key (V 16 11).toNat 0 (by omega)
theorem cm_force {s d : Int} (B : isB β) (R : isR V) (hs : r32 s) (hd : r32 d) : CT γ mX12_force 2 0 0 [.ref (β.2 16), .int (jI s), .int (jI d)] (jP β V) (mQ β (sp_force (jU V 16 0 0) s d)) X0 := by
  refine CT.of MX12_force (Nat.le_of_ble_eq_true rfl) ?_
  show J γ mX12_force 2 0 0 0 0 (jP β V) 0 [(0, .ref (β.2 16)), (1, .int (jI s)), (2, .int (jI d))] [] _ _
  first | refine J.aload_n (pc' := 1) rfl rfl rfl ?_ | refine J.aload_nN (pc' := 1) rfl rfl rfl ?_
  refine J.iconst (pc' := 2) rfl rfl ?_
  refine J.mpI (pc' := 5) (j := 0) B rfl fl_X12_1 rfl rfl rfl rfl ?_
  have h0 := jU_same V 16 0 0
  replace R : isR (jU V 16 0 0) := R.up (fun _ => by decide)
  generalize jU V 16 0 0 = V at h0 R ⊢
  have hf := R.f
  first | refine J.aload_n (pc' := 6) rfl rfl rfl ?_ | refine J.aload_nN (pc' := 6) rfl rfl rfl ?_
  refine J.iload_n (pc' := 7) rfl rfl rfl ?_
  refine J.callV (pc' := 10) (t := 16) rfl MX12_isSeller ml_X12_176 iv_X12_isSeller (by decide) ⟨_, rfl, rfl⟩ B.1 (cm_isSeller B R h0 hs) rfl rfl (Nat.le_of_ble_eq_true rfl) (by first | omega | (exact R.r _ _) | (simp only [jM.len_sI, jM.len_sL, jM.len_sR, jM.len_fI, jM.len_fL, jM.len_fR]; omega) | (simp [jM.len_nw, jM.len_sI, jM.len_sL, jM.len_sR, jM.len_fI, jM.len_fL, jM.len_fR, *]; omega)) (by first | omega | (exact R.r _ _) | (simp only [jM.len_sI, jM.len_sL, jM.len_sR, jM.len_fI, jM.len_fL, jM.len_fR]; omega) | (simp [jM.len_nw, jM.len_sI, jM.len_sL, jM.len_sR, jM.len_fI, jM.len_fL, jM.len_fR, *]; omega)) (by first | omega | (exact R.r _ _) | (simp only [jM.len_sI, jM.len_sL, jM.len_sR, jM.len_fI, jM.len_fL, jM.len_fR]; omega) | (simp [jM.len_nw, jM.len_sI, jM.len_sL, jM.len_sR, jM.len_fI, jM.len_fL, jM.len_fR, *]; omega)) rfl rfl ?_ ?_
  · exact fun _ _ h => h
  rintro _ _ ⟨b, hb, rfl⟩
  rcases hb with ⟨rfl, hb, rfl⟩ | ⟨rfl, hb, rfl⟩
  · first
    | (exfalso; omega)
    | (refine J.if_eq (tgt := 22) (pc' := 13) rfl rfl rfl (by first | omega | (exact R.r _ _) | (simp only [jM.len_sI, jM.len_sL, jM.len_sR, jM.len_fI, jM.len_fL, jM.len_fR]; omega) | (simp [jM.len_nw, jM.len_sI, jM.len_sL, jM.len_sR, jM.len_fI, jM.len_fL, jM.len_fR, *]; omega)) (fun c10 => ?_) (fun c10 => ?_)
       · first
         | (exfalso; omega)
         | (refine J.iconst (pc' := 23) rfl rfl ?_
            refine J.iret rfl rfl (by first | omega | (exact R.r _ _) | (simp only [jM.len_sI, jM.len_sL, jM.len_sR, jM.len_fI, jM.len_fL, jM.len_fR]; omega) | (simp [jM.len_nw, jM.len_sI, jM.len_sL, jM.len_sR, jM.len_fI, jM.len_fL, jM.len_fR, *]; omega)) (by first | omega | (exact R.r _ _) | (simp only [jM.len_sI, jM.len_sL, jM.len_sR, jM.len_fI, jM.len_fL, jM.len_fR]; omega) | (simp [jM.len_nw, jM.len_sI, jM.len_sL, jM.len_sR, jM.len_fI, jM.len_fL, jM.len_fR, *]; omega)) ?_
            exact mQ.of (by unfold sp_force; (repeat (first | rw [if_pos (by omega)] | rw [if_neg (by omega)]))))
       · first
         | (exfalso; omega)
         | (first | refine J.aload_n (pc' := 14) rfl rfl rfl ?_ | refine J.aload_nN (pc' := 14) rfl rfl rfl ?_
            refine J.iload_n (pc' := 15) rfl rfl rfl ?_
            refine J.iload_n (pc' := 16) rfl rfl rfl ?_
            refine J.callV (pc' := 19) (t := 16) rfl MX12_inForce ml_X12_264 iv_X12_inForce (by decide) ⟨_, rfl, rfl⟩ B.1 (cm_inForce B R hs hd) rfl rfl (Nat.le_of_ble_eq_true rfl) (by first | omega | (exact R.r _ _) | (simp only [jM.len_sI, jM.len_sL, jM.len_sR, jM.len_fI, jM.len_fL, jM.len_fR]; omega) | (simp [jM.len_nw, jM.len_sI, jM.len_sL, jM.len_sR, jM.len_fI, jM.len_fL, jM.len_fR, *]; omega)) (by first | omega | (exact R.r _ _) | (simp only [jM.len_sI, jM.len_sL, jM.len_sR, jM.len_fI, jM.len_fL, jM.len_fR]; omega) | (simp [jM.len_nw, jM.len_sI, jM.len_sL, jM.len_sR, jM.len_fI, jM.len_fL, jM.len_fR, *]; omega)) (by first | omega | (exact R.r _ _) | (simp only [jM.len_sI, jM.len_sL, jM.len_sR, jM.len_fI, jM.len_fL, jM.len_fR]; omega) | (simp [jM.len_nw, jM.len_sI, jM.len_sL, jM.len_sR, jM.len_fI, jM.len_fL, jM.len_fR, *]; omega)) rfl rfl ?_ ?_
            · exact fun _ _ h => h
            rintro _ _ ⟨rfl, rfl⟩
            refine J.goto (tgt := 23) rfl rfl ?_
            refine J.iret rfl rfl (by first | omega | (exact R.r _ _) | (simp only [jM.len_sI, jM.len_sL, jM.len_sR, jM.len_fI, jM.len_fL, jM.len_fR]; omega) | (simp [jM.len_nw, jM.len_sI, jM.len_sL, jM.len_sR, jM.len_fI, jM.len_fL, jM.len_fR, *]; omega)) (by first | omega | (exact R.r _ _) | (simp only [jM.len_sI, jM.len_sL, jM.len_sR, jM.len_fI, jM.len_fL, jM.len_fR]; omega) | (simp [jM.len_nw, jM.len_sI, jM.len_sL, jM.len_sR, jM.len_fI, jM.len_fL, jM.len_fR, *]; omega)) ?_
            exact mQ.of (by unfold sp_force; (repeat (first | rw [if_pos (by omega)] | rw [if_neg (by omega)])))))
  · first
    | (exfalso; omega)
    | (refine J.if_eq (tgt := 22) (pc' := 13) rfl rfl rfl (by first | omega | (exact R.r _ _) | (simp only [jM.len_sI, jM.len_sL, jM.len_sR, jM.len_fI, jM.len_fL, jM.len_fR]; omega) | (simp [jM.len_nw, jM.len_sI, jM.len_sL, jM.len_sR, jM.len_fI, jM.len_fL, jM.len_fR, *]; omega)) (fun c10 => ?_) (fun c10 => ?_)
       · first
         | (exfalso; omega)
         | (refine J.iconst (pc' := 23) rfl rfl ?_
            refine J.iret rfl rfl (by first | omega | (exact R.r _ _) | (simp only [jM.len_sI, jM.len_sL, jM.len_sR, jM.len_fI, jM.len_fL, jM.len_fR]; omega) | (simp [jM.len_nw, jM.len_sI, jM.len_sL, jM.len_sR, jM.len_fI, jM.len_fL, jM.len_fR, *]; omega)) (by first | omega | (exact R.r _ _) | (simp only [jM.len_sI, jM.len_sL, jM.len_sR, jM.len_fI, jM.len_fL, jM.len_fR]; omega) | (simp [jM.len_nw, jM.len_sI, jM.len_sL, jM.len_sR, jM.len_fI, jM.len_fL, jM.len_fR, *]; omega)) ?_
            exact mQ.of (by unfold sp_force; (repeat (first | rw [if_pos (by omega)] | rw [if_neg (by omega)]))))
       · first
         | (exfalso; omega)
         | (first | refine J.aload_n (pc' := 14) rfl rfl rfl ?_ | refine J.aload_nN (pc' := 14) rfl rfl rfl ?_
            refine J.iload_n (pc' := 15) rfl rfl rfl ?_
            refine J.iload_n (pc' := 16) rfl rfl rfl ?_
            refine J.callV (pc' := 19) (t := 16) rfl MX12_inForce ml_X12_264 iv_X12_inForce (by decide) ⟨_, rfl, rfl⟩ B.1 (cm_inForce B R hs hd) rfl rfl (Nat.le_of_ble_eq_true rfl) (by first | omega | (exact R.r _ _) | (simp only [jM.len_sI, jM.len_sL, jM.len_sR, jM.len_fI, jM.len_fL, jM.len_fR]; omega) | (simp [jM.len_nw, jM.len_sI, jM.len_sL, jM.len_sR, jM.len_fI, jM.len_fL, jM.len_fR, *]; omega)) (by first | omega | (exact R.r _ _) | (simp only [jM.len_sI, jM.len_sL, jM.len_sR, jM.len_fI, jM.len_fL, jM.len_fR]; omega) | (simp [jM.len_nw, jM.len_sI, jM.len_sL, jM.len_sR, jM.len_fI, jM.len_fL, jM.len_fR, *]; omega)) (by first | omega | (exact R.r _ _) | (simp only [jM.len_sI, jM.len_sL, jM.len_sR, jM.len_fI, jM.len_fL, jM.len_fR]; omega) | (simp [jM.len_nw, jM.len_sI, jM.len_sL, jM.len_sR, jM.len_fI, jM.len_fL, jM.len_fR, *]; omega)) rfl rfl ?_ ?_
            · exact fun _ _ h => h
            rintro _ _ ⟨rfl, rfl⟩
            refine J.goto (tgt := 23) rfl rfl ?_
            refine J.iret rfl rfl (by first | omega | (exact R.r _ _) | (simp only [jM.len_sI, jM.len_sL, jM.len_sR, jM.len_fI, jM.len_fL, jM.len_fR]; omega) | (simp [jM.len_nw, jM.len_sI, jM.len_sL, jM.len_sR, jM.len_fI, jM.len_fL, jM.len_fR, *]; omega)) (by first | omega | (exact R.r _ _) | (simp only [jM.len_sI, jM.len_sL, jM.len_sR, jM.len_fI, jM.len_fL, jM.len_fR]; omega) | (simp [jM.len_nw, jM.len_sI, jM.len_sL, jM.len_sR, jM.len_fI, jM.len_fL, jM.len_fR, *]; omega)) ?_
            exact mQ.of (by unfold sp_force; (repeat (first | rw [if_pos (by omega)] | rw [if_neg (by omega)])))))
theorem cm_tonsOf {g : Int} (B : isB β) (R : isR V) (hg : 0 ≤ g ∧ g < 6) : CT γ mX12_tonsOf 0 0 0 [.ref (β.2 16), .int (jI g)] (jP β V) (fun r h' => r = some (.int (jI (tonsOf V g))) ∧ h' = jP β V) X0 := by
  have hm := R 138 g rfl
  simp only [jLo, jHi] at hm
  refine CT.of MX12_tonsOf (Nat.le_of_ble_eq_true rfl) ?_
  show J γ mX12_tonsOf 0 0 0 0 0 (jP β V) 0 [(0, .ref (β.2 16)), (1, .int (jI g))] [] _ _
  refine J.iconst (pc' := 1) rfl rfl ?_
  refine J.istore_n (pc' := 2) rfl rfl (by decide) ?_
  refine J.iconst (pc' := 3) rfl rfl ?_
  refine J.istore_n (pc' := 4) rfl rfl (by decide) ?_
  have key : ∀ (n i : Nat), (i : Int) + n = V 138 g → J γ mX12_tonsOf 0 0 0 0 0 (jP β V) 4 [(0, .ref (β.2 16)), (1, .int (jI g)), (2, .int (jI (Sm (fun k => V 139 (41 * g + k)) i))), (3, .int (jI (i : Int)))] [] (fun r h' => r = some (.int (jI (tonsOf V g))) ∧ h' = jP β V) X0 := by
    intro n
    induction n with
    | zero =>
      intro i hi
      refine J.iload_n (pc' := 5) rfl rfl rfl ?_
      first | refine J.aload_n (pc' := 6) rfl rfl rfl ?_ | refine J.aload_nN (pc' := 6) rfl rfl rfl ?_
      refine J.mgR (pc' := 9) (t := 138) B rfl fl_X12_91 rfl rfl (by decide) rfl ?_
      refine J.iload_n (pc' := 10) rfl rfl rfl ?_
      refine J.mald (pc' := 11) B rfl rfl rfl (by omega) (by simp only [jLn]; omega) rfl ?_
      refine J.icmp_ge (tgt := 34) (pc' := 14) rfl rfl rfl (by first | omega | (exact R.r _ _) | (simp only [jM.len_sI, jM.len_sL, jM.len_sR, jM.len_fI, jM.len_fL, jM.len_fR]; omega) | (simp [jM.len_nw, jM.len_sI, jM.len_sL, jM.len_sR, jM.len_fI, jM.len_fL, jM.len_fR, *]; omega)) (by first | omega | (exact R.r _ _) | (simp only [jM.len_sI, jM.len_sL, jM.len_sR, jM.len_fI, jM.len_fL, jM.len_fR]; omega) | (simp [jM.len_nw, jM.len_sI, jM.len_sL, jM.len_sR, jM.len_fI, jM.len_fL, jM.len_fR, *]; omega)) (fun c11 => ?_) (fun c11 => ?_)
      · first
        | (exfalso; omega)
        | (refine J.iload_n (pc' := 35) rfl rfl rfl ?_
           refine J.iret rfl rfl (by first | omega | (exact R.r _ _) | (simp only [jM.len_sI, jM.len_sL, jM.len_sR, jM.len_fI, jM.len_fL, jM.len_fR]; omega) | (simp [jM.len_nw, jM.len_sI, jM.len_sL, jM.len_sR, jM.len_fI, jM.len_fL, jM.len_fR, *]; omega)) (by first | omega | (exact R.r _ _) | (simp only [jM.len_sI, jM.len_sL, jM.len_sR, jM.len_fI, jM.len_fL, jM.len_fR]; omega) | (simp [jM.len_nw, jM.len_sI, jM.len_sL, jM.len_sR, jM.len_fI, jM.len_fL, jM.len_fR, *]; omega)) ?_
           exact ⟨by rw [tonsOf, show (V 138 g).toNat = i by omega], rfl⟩)
      · first
        | (exfalso; omega)
        | (refine J.iload_n (pc' := 15) rfl rfl rfl ?_
           first | refine J.aload_n (pc' := 16) rfl rfl rfl ?_ | refine J.aload_nN (pc' := 16) rfl rfl rfl ?_
           refine J.mgR (pc' := 19) (t := 139) B rfl fl_X12_94 rfl rfl (by decide) rfl ?_
           refine J.bipush (pc' := 21) rfl rfl (by decide) ?_
           refine J.iload_n (pc' := 22) rfl rfl rfl ?_
           refine J.imul (pc' := 23) rfl rfl ?_
           refine J.iload_n (pc' := 24) rfl rfl rfl ?_
           refine J.iadd (pc' := 25) rfl rfl ?_
           refine J.mald (pc' := 26) B rfl rfl rfl (by omega) (by simp only [jLn]; omega) rfl ?_
           refine J.iadd (pc' := 27) rfl rfl ?_
           refine J.istore_n (pc' := 28) rfl rfl (by decide) ?_
           refine J.iinc (pc' := 31) rfl rfl rfl (by decide) ?_
           refine J.goto (tgt := 4) rfl rfl ?_
           exfalso
           omega)
    | succ n ih =>
      intro i hi
      have h9 := ih (i + 1) (by omega)
      rw [Sm, show ((i + 1 : Nat) : Int) = (i : Int) + 1 by omega] at h9
      refine J.iload_n (pc' := 5) rfl rfl rfl ?_
      first | refine J.aload_n (pc' := 6) rfl rfl rfl ?_ | refine J.aload_nN (pc' := 6) rfl rfl rfl ?_
      refine J.mgR (pc' := 9) (t := 138) B rfl fl_X12_91 rfl rfl (by decide) rfl ?_
      refine J.iload_n (pc' := 10) rfl rfl rfl ?_
      refine J.mald (pc' := 11) B rfl rfl rfl (by omega) (by simp only [jLn]; omega) rfl ?_
      refine J.icmp_ge (tgt := 34) (pc' := 14) rfl rfl rfl (by first | omega | (exact R.r _ _) | (simp only [jM.len_sI, jM.len_sL, jM.len_sR, jM.len_fI, jM.len_fL, jM.len_fR]; omega) | (simp [jM.len_nw, jM.len_sI, jM.len_sL, jM.len_sR, jM.len_fI, jM.len_fL, jM.len_fR, *]; omega)) (by first | omega | (exact R.r _ _) | (simp only [jM.len_sI, jM.len_sL, jM.len_sR, jM.len_fI, jM.len_fL, jM.len_fR]; omega) | (simp [jM.len_nw, jM.len_sI, jM.len_sL, jM.len_sR, jM.len_fI, jM.len_fL, jM.len_fR, *]; omega)) (fun c11 => ?_) (fun c11 => ?_)
      · first
        | (exfalso; omega)
        | (refine J.iload_n (pc' := 35) rfl rfl rfl ?_
           refine J.iret rfl rfl (by first | omega | (exact R.r _ _) | (simp only [jM.len_sI, jM.len_sL, jM.len_sR, jM.len_fI, jM.len_fL, jM.len_fR]; omega) | (simp [jM.len_nw, jM.len_sI, jM.len_sL, jM.len_sR, jM.len_fI, jM.len_fL, jM.len_fR, *]; omega)) (by first | omega | (exact R.r _ _) | (simp only [jM.len_sI, jM.len_sL, jM.len_sR, jM.len_fI, jM.len_fL, jM.len_fR]; omega) | (simp [jM.len_nw, jM.len_sI, jM.len_sL, jM.len_sR, jM.len_fI, jM.len_fL, jM.len_fR, *]; omega)) ?_
           exact ⟨rfl, rfl⟩)
      · first
        | (exfalso; omega)
        | (refine J.iload_n (pc' := 15) rfl rfl rfl ?_
           first | refine J.aload_n (pc' := 16) rfl rfl rfl ?_ | refine J.aload_nN (pc' := 16) rfl rfl rfl ?_
           refine J.mgR (pc' := 19) (t := 139) B rfl fl_X12_94 rfl rfl (by decide) rfl ?_
           refine J.bipush (pc' := 21) rfl rfl (by decide) ?_
           refine J.iload_n (pc' := 22) rfl rfl rfl ?_
           refine J.imul (pc' := 23) rfl rfl ?_
           refine J.iload_n (pc' := 24) rfl rfl rfl ?_
           refine J.iadd (pc' := 25) rfl rfl ?_
           refine J.mald (pc' := 26) B rfl rfl rfl (by omega) (by simp only [jLn]; omega) rfl ?_
           refine J.iadd (pc' := 27) rfl rfl ?_
           refine J.istore_n (pc' := 28) rfl rfl (by decide) ?_
           refine J.iinc (pc' := 31) rfl rfl rfl (by decide) ?_
           refine J.goto (tgt := 4) rfl rfl ?_
           exact h9)
  exact key (V 138 g).toNat 0 (by simp at hm; omega)
theorem cm_tons {g : Int} (B : isB β) (R : isR V) (hg : r32 g) : CT γ mX12_tons 2 0 0 [.ref (β.2 16), .int (jI g)] (jP β V) (mQ β (sp_tons (jU V 16 0 0) g)) X0 := by
  refine CT.of MX12_tons (Nat.le_of_ble_eq_true rfl) ?_
  show J γ mX12_tons 2 0 0 0 0 (jP β V) 0 [(0, .ref (β.2 16)), (1, .int (jI g))] [] _ _
  first | refine J.aload_n (pc' := 1) rfl rfl rfl ?_ | refine J.aload_nN (pc' := 1) rfl rfl rfl ?_
  refine J.iconst (pc' := 2) rfl rfl ?_
  refine J.mpI (pc' := 5) (j := 0) B rfl fl_X12_1 rfl rfl rfl rfl ?_
  have h0 := jU_same V 16 0 0
  replace R : isR (jU V 16 0 0) := R.up (fun _ => by decide)
  generalize jU V 16 0 0 = V at h0 R ⊢
  have hf := R.f
  first | refine J.aload_n (pc' := 6) rfl rfl rfl ?_ | refine J.aload_nN (pc' := 6) rfl rfl rfl ?_
  refine J.iload_n (pc' := 7) rfl rfl rfl ?_
  refine J.callV (pc' := 10) (t := 16) rfl MX12_isHeap ml_X12_297 iv_X12_isHeap (by decide) ⟨_, rfl, rfl⟩ B.1 (cm_isHeap B h0 hg) rfl rfl (Nat.le_of_ble_eq_true rfl) (by first | omega | (exact R.r _ _) | (simp only [jM.len_sI, jM.len_sL, jM.len_sR, jM.len_fI, jM.len_fL, jM.len_fR]; omega) | (simp [jM.len_nw, jM.len_sI, jM.len_sL, jM.len_sR, jM.len_fI, jM.len_fL, jM.len_fR, *]; omega)) (by first | omega | (exact R.r _ _) | (simp only [jM.len_sI, jM.len_sL, jM.len_sR, jM.len_fI, jM.len_fL, jM.len_fR]; omega) | (simp [jM.len_nw, jM.len_sI, jM.len_sL, jM.len_sR, jM.len_fI, jM.len_fL, jM.len_fR, *]; omega)) (by first | omega | (exact R.r _ _) | (simp only [jM.len_sI, jM.len_sL, jM.len_sR, jM.len_fI, jM.len_fL, jM.len_fR]; omega) | (simp [jM.len_nw, jM.len_sI, jM.len_sL, jM.len_sR, jM.len_fI, jM.len_fL, jM.len_fR, *]; omega)) rfl rfl ?_ ?_
  · exact fun _ _ h => h
  rintro _ _ ⟨b, hb, rfl⟩
  rcases hb with ⟨rfl, hb, rfl⟩ | ⟨rfl, hb, rfl⟩
  · first
    | (exfalso; omega)
    | (refine J.if_eq (tgt := 21) (pc' := 13) rfl rfl rfl (by first | omega | (exact R.r _ _) | (simp only [jM.len_sI, jM.len_sL, jM.len_sR, jM.len_fI, jM.len_fL, jM.len_fR]; omega) | (simp [jM.len_nw, jM.len_sI, jM.len_sL, jM.len_sR, jM.len_fI, jM.len_fL, jM.len_fR, *]; omega)) (fun c10 => ?_) (fun c10 => ?_)
       · first
         | (exfalso; omega)
         | (refine J.iconst (pc' := 22) rfl rfl ?_
            refine J.iret rfl rfl (by first | omega | (exact R.r _ _) | (simp only [jM.len_sI, jM.len_sL, jM.len_sR, jM.len_fI, jM.len_fL, jM.len_fR]; omega) | (simp [jM.len_nw, jM.len_sI, jM.len_sL, jM.len_sR, jM.len_fI, jM.len_fL, jM.len_fR, *]; omega)) (by first | omega | (exact R.r _ _) | (simp only [jM.len_sI, jM.len_sL, jM.len_sR, jM.len_fI, jM.len_fL, jM.len_fR]; omega) | (simp [jM.len_nw, jM.len_sI, jM.len_sL, jM.len_sR, jM.len_fI, jM.len_fL, jM.len_fR, *]; omega)) ?_
            exact mQ.of (by unfold sp_tons; (repeat (first | rw [if_pos (by omega)] | rw [if_neg (by omega)]))))
       · first
         | (exfalso; omega)
         | (first | refine J.aload_n (pc' := 14) rfl rfl rfl ?_ | refine J.aload_nN (pc' := 14) rfl rfl rfl ?_
            refine J.iload_n (pc' := 15) rfl rfl rfl ?_
            refine J.callV (pc' := 18) (t := 16) rfl MX12_tonsOf ml_X12_300 iv_X12_tonsOf (by decide) ⟨_, rfl, rfl⟩ B.1 (cm_tonsOf B R (by omega)) rfl rfl (Nat.le_of_ble_eq_true rfl) (by first | omega | (exact R.r _ _) | (simp only [jM.len_sI, jM.len_sL, jM.len_sR, jM.len_fI, jM.len_fL, jM.len_fR]; omega) | (simp [jM.len_nw, jM.len_sI, jM.len_sL, jM.len_sR, jM.len_fI, jM.len_fL, jM.len_fR, *]; omega)) (by first | omega | (exact R.r _ _) | (simp only [jM.len_sI, jM.len_sL, jM.len_sR, jM.len_fI, jM.len_fL, jM.len_fR]; omega) | (simp [jM.len_nw, jM.len_sI, jM.len_sL, jM.len_sR, jM.len_fI, jM.len_fL, jM.len_fR, *]; omega)) (by first | omega | (exact R.r _ _) | (simp only [jM.len_sI, jM.len_sL, jM.len_sR, jM.len_fI, jM.len_fL, jM.len_fR]; omega) | (simp [jM.len_nw, jM.len_sI, jM.len_sL, jM.len_sR, jM.len_fI, jM.len_fL, jM.len_fR, *]; omega)) rfl rfl ?_ ?_
            · exact fun _ _ h => h
            rintro _ _ ⟨rfl, rfl⟩
            refine J.goto (tgt := 22) rfl rfl ?_
            refine J.iret rfl rfl (by first | omega | (exact R.r _ _) | (simp only [jM.len_sI, jM.len_sL, jM.len_sR, jM.len_fI, jM.len_fL, jM.len_fR]; omega) | (simp [jM.len_nw, jM.len_sI, jM.len_sL, jM.len_sR, jM.len_fI, jM.len_fL, jM.len_fR, *]; omega)) (by first | omega | (exact R.r _ _) | (simp only [jM.len_sI, jM.len_sL, jM.len_sR, jM.len_fI, jM.len_fL, jM.len_fR]; omega) | (simp [jM.len_nw, jM.len_sI, jM.len_sL, jM.len_sR, jM.len_fI, jM.len_fL, jM.len_fR, *]; omega)) ?_
            exact mQ.of (by unfold sp_tons; (repeat (first | rw [if_pos (by omega)] | rw [if_neg (by omega)])))))
  · first
    | (exfalso; omega)
    | (refine J.if_eq (tgt := 21) (pc' := 13) rfl rfl rfl (by first | omega | (exact R.r _ _) | (simp only [jM.len_sI, jM.len_sL, jM.len_sR, jM.len_fI, jM.len_fL, jM.len_fR]; omega) | (simp [jM.len_nw, jM.len_sI, jM.len_sL, jM.len_sR, jM.len_fI, jM.len_fL, jM.len_fR, *]; omega)) (fun c10 => ?_) (fun c10 => ?_)
       · first
         | (exfalso; omega)
         | (refine J.iconst (pc' := 22) rfl rfl ?_
            refine J.iret rfl rfl (by first | omega | (exact R.r _ _) | (simp only [jM.len_sI, jM.len_sL, jM.len_sR, jM.len_fI, jM.len_fL, jM.len_fR]; omega) | (simp [jM.len_nw, jM.len_sI, jM.len_sL, jM.len_sR, jM.len_fI, jM.len_fL, jM.len_fR, *]; omega)) (by first | omega | (exact R.r _ _) | (simp only [jM.len_sI, jM.len_sL, jM.len_sR, jM.len_fI, jM.len_fL, jM.len_fR]; omega) | (simp [jM.len_nw, jM.len_sI, jM.len_sL, jM.len_sR, jM.len_fI, jM.len_fL, jM.len_fR, *]; omega)) ?_
            exact mQ.of (by unfold sp_tons; (repeat (first | rw [if_pos (by omega)] | rw [if_neg (by omega)]))))
       · first
         | (exfalso; omega)
         | (first | refine J.aload_n (pc' := 14) rfl rfl rfl ?_ | refine J.aload_nN (pc' := 14) rfl rfl rfl ?_
            refine J.iload_n (pc' := 15) rfl rfl rfl ?_
            refine J.callV (pc' := 18) (t := 16) rfl MX12_tonsOf ml_X12_300 iv_X12_tonsOf (by decide) ⟨_, rfl, rfl⟩ B.1 (cm_tonsOf B R (by omega)) rfl rfl (Nat.le_of_ble_eq_true rfl) (by first | omega | (exact R.r _ _) | (simp only [jM.len_sI, jM.len_sL, jM.len_sR, jM.len_fI, jM.len_fL, jM.len_fR]; omega) | (simp [jM.len_nw, jM.len_sI, jM.len_sL, jM.len_sR, jM.len_fI, jM.len_fL, jM.len_fR, *]; omega)) (by first | omega | (exact R.r _ _) | (simp only [jM.len_sI, jM.len_sL, jM.len_sR, jM.len_fI, jM.len_fL, jM.len_fR]; omega) | (simp [jM.len_nw, jM.len_sI, jM.len_sL, jM.len_sR, jM.len_fI, jM.len_fL, jM.len_fR, *]; omega)) (by first | omega | (exact R.r _ _) | (simp only [jM.len_sI, jM.len_sL, jM.len_sR, jM.len_fI, jM.len_fL, jM.len_fR]; omega) | (simp [jM.len_nw, jM.len_sI, jM.len_sL, jM.len_sR, jM.len_fI, jM.len_fL, jM.len_fR, *]; omega)) rfl rfl ?_ ?_
            · exact fun _ _ h => h
            rintro _ _ ⟨rfl, rfl⟩
            refine J.goto (tgt := 22) rfl rfl ?_
            refine J.iret rfl rfl (by first | omega | (exact R.r _ _) | (simp only [jM.len_sI, jM.len_sL, jM.len_sR, jM.len_fI, jM.len_fL, jM.len_fR]; omega) | (simp [jM.len_nw, jM.len_sI, jM.len_sL, jM.len_sR, jM.len_fI, jM.len_fL, jM.len_fR, *]; omega)) (by first | omega | (exact R.r _ _) | (simp only [jM.len_sI, jM.len_sL, jM.len_sR, jM.len_fI, jM.len_fL, jM.len_fR]; omega) | (simp [jM.len_nw, jM.len_sI, jM.len_sL, jM.len_sR, jM.len_fI, jM.len_fL, jM.len_fR, *]; omega)) ?_
            exact mQ.of (by unfold sp_tons; (repeat (first | rw [if_pos (by omega)] | rw [if_neg (by omega)])))))
theorem cm_layers {g : Int} (B : isB β) (R : isR V) (hg : r32 g) : CT γ mX12_layers 2 0 0 [.ref (β.2 16), .int (jI g)] (jP β V) (mQ β (sp_layers (jU V 16 0 0) g)) X0 := by
  refine CT.of MX12_layers (Nat.le_of_ble_eq_true rfl) ?_
  show J γ mX12_layers 2 0 0 0 0 (jP β V) 0 [(0, .ref (β.2 16)), (1, .int (jI g))] [] _ _
  first | refine J.aload_n (pc' := 1) rfl rfl rfl ?_ | refine J.aload_nN (pc' := 1) rfl rfl rfl ?_
  refine J.iconst (pc' := 2) rfl rfl ?_
  refine J.mpI (pc' := 5) (j := 0) B rfl fl_X12_1 rfl rfl rfl rfl ?_
  have h0 := jU_same V 16 0 0
  replace R : isR (jU V 16 0 0) := R.up (fun _ => by decide)
  generalize jU V 16 0 0 = V at h0 R ⊢
  have hf := R.f
  first | refine J.aload_n (pc' := 6) rfl rfl rfl ?_ | refine J.aload_nN (pc' := 6) rfl rfl rfl ?_
  refine J.iload_n (pc' := 7) rfl rfl rfl ?_
  refine J.callV (pc' := 10) (t := 16) rfl MX12_isHeap ml_X12_297 iv_X12_isHeap (by decide) ⟨_, rfl, rfl⟩ B.1 (cm_isHeap B h0 hg) rfl rfl (Nat.le_of_ble_eq_true rfl) (by first | omega | (exact R.r _ _) | (simp only [jM.len_sI, jM.len_sL, jM.len_sR, jM.len_fI, jM.len_fL, jM.len_fR]; omega) | (simp [jM.len_nw, jM.len_sI, jM.len_sL, jM.len_sR, jM.len_fI, jM.len_fL, jM.len_fR, *]; omega)) (by first | omega | (exact R.r _ _) | (simp only [jM.len_sI, jM.len_sL, jM.len_sR, jM.len_fI, jM.len_fL, jM.len_fR]; omega) | (simp [jM.len_nw, jM.len_sI, jM.len_sL, jM.len_sR, jM.len_fI, jM.len_fL, jM.len_fR, *]; omega)) (by first | omega | (exact R.r _ _) | (simp only [jM.len_sI, jM.len_sL, jM.len_sR, jM.len_fI, jM.len_fL, jM.len_fR]; omega) | (simp [jM.len_nw, jM.len_sI, jM.len_sL, jM.len_sR, jM.len_fI, jM.len_fL, jM.len_fR, *]; omega)) rfl rfl ?_ ?_
  · exact fun _ _ h => h
  rintro _ _ ⟨b, hb, rfl⟩
  rcases hb with ⟨rfl, hb, rfl⟩ | ⟨rfl, hb, rfl⟩
  · first
    | (exfalso; omega)
    | (refine J.if_eq (tgt := 22) (pc' := 13) rfl rfl rfl (by first | omega | (exact R.r _ _) | (simp only [jM.len_sI, jM.len_sL, jM.len_sR, jM.len_fI, jM.len_fL, jM.len_fR]; omega) | (simp [jM.len_nw, jM.len_sI, jM.len_sL, jM.len_sR, jM.len_fI, jM.len_fL, jM.len_fR, *]; omega)) (fun c10 => ?_) (fun c10 => ?_)
       · first
         | (exfalso; omega)
         | (refine J.iconst (pc' := 23) rfl rfl ?_
            refine J.iret rfl rfl (by first | omega | (exact R.r _ _) | (simp only [jM.len_sI, jM.len_sL, jM.len_sR, jM.len_fI, jM.len_fL, jM.len_fR]; omega) | (simp [jM.len_nw, jM.len_sI, jM.len_sL, jM.len_sR, jM.len_fI, jM.len_fL, jM.len_fR, *]; omega)) (by first | omega | (exact R.r _ _) | (simp only [jM.len_sI, jM.len_sL, jM.len_sR, jM.len_fI, jM.len_fL, jM.len_fR]; omega) | (simp [jM.len_nw, jM.len_sI, jM.len_sL, jM.len_sR, jM.len_fI, jM.len_fL, jM.len_fR, *]; omega)) ?_
            exact mQ.of (by unfold sp_layers; (repeat (first | rw [if_pos (by omega)] | rw [if_neg (by omega)]))))
       · first
         | (exfalso; omega)
         | (first | refine J.aload_n (pc' := 14) rfl rfl rfl ?_ | refine J.aload_nN (pc' := 14) rfl rfl rfl ?_
            refine J.mgR (pc' := 17) (t := 138) B rfl fl_X12_91 rfl rfl (by decide) rfl ?_
            refine J.iload_n (pc' := 18) rfl rfl rfl ?_
            refine J.mald (pc' := 19) B rfl rfl rfl (by omega) (by simp only [jLn]; omega) rfl ?_
            refine J.goto (tgt := 23) rfl rfl ?_
            refine J.iret rfl rfl (by first | omega | (exact R.r _ _) | (simp only [jM.len_sI, jM.len_sL, jM.len_sR, jM.len_fI, jM.len_fL, jM.len_fR]; omega) | (simp [jM.len_nw, jM.len_sI, jM.len_sL, jM.len_sR, jM.len_fI, jM.len_fL, jM.len_fR, *]; omega)) (by first | omega | (exact R.r _ _) | (simp only [jM.len_sI, jM.len_sL, jM.len_sR, jM.len_fI, jM.len_fL, jM.len_fR]; omega) | (simp [jM.len_nw, jM.len_sI, jM.len_sL, jM.len_sR, jM.len_fI, jM.len_fL, jM.len_fR, *]; omega)) ?_
            exact mQ.of (by unfold sp_layers; (repeat (first | rw [if_pos (by omega)] | rw [if_neg (by omega)])))))
  · first
    | (exfalso; omega)
    | (refine J.if_eq (tgt := 22) (pc' := 13) rfl rfl rfl (by first | omega | (exact R.r _ _) | (simp only [jM.len_sI, jM.len_sL, jM.len_sR, jM.len_fI, jM.len_fL, jM.len_fR]; omega) | (simp [jM.len_nw, jM.len_sI, jM.len_sL, jM.len_sR, jM.len_fI, jM.len_fL, jM.len_fR, *]; omega)) (fun c10 => ?_) (fun c10 => ?_)
       · first
         | (exfalso; omega)
         | (refine J.iconst (pc' := 23) rfl rfl ?_
            refine J.iret rfl rfl (by first | omega | (exact R.r _ _) | (simp only [jM.len_sI, jM.len_sL, jM.len_sR, jM.len_fI, jM.len_fL, jM.len_fR]; omega) | (simp [jM.len_nw, jM.len_sI, jM.len_sL, jM.len_sR, jM.len_fI, jM.len_fL, jM.len_fR, *]; omega)) (by first | omega | (exact R.r _ _) | (simp only [jM.len_sI, jM.len_sL, jM.len_sR, jM.len_fI, jM.len_fL, jM.len_fR]; omega) | (simp [jM.len_nw, jM.len_sI, jM.len_sL, jM.len_sR, jM.len_fI, jM.len_fL, jM.len_fR, *]; omega)) ?_
            exact mQ.of (by unfold sp_layers; (repeat (first | rw [if_pos (by omega)] | rw [if_neg (by omega)]))))
       · first
         | (exfalso; omega)
         | (first | refine J.aload_n (pc' := 14) rfl rfl rfl ?_ | refine J.aload_nN (pc' := 14) rfl rfl rfl ?_
            refine J.mgR (pc' := 17) (t := 138) B rfl fl_X12_91 rfl rfl (by decide) rfl ?_
            refine J.iload_n (pc' := 18) rfl rfl rfl ?_
            refine J.mald (pc' := 19) B rfl rfl rfl (by omega) (by simp only [jLn]; omega) rfl ?_
            refine J.goto (tgt := 23) rfl rfl ?_
            refine J.iret rfl rfl (by first | omega | (exact R.r _ _) | (simp only [jM.len_sI, jM.len_sL, jM.len_sR, jM.len_fI, jM.len_fL, jM.len_fR]; omega) | (simp [jM.len_nw, jM.len_sI, jM.len_sL, jM.len_sR, jM.len_fI, jM.len_fL, jM.len_fR, *]; omega)) (by first | omega | (exact R.r _ _) | (simp only [jM.len_sI, jM.len_sL, jM.len_sR, jM.len_fI, jM.len_fL, jM.len_fR]; omega) | (simp [jM.len_nw, jM.len_sI, jM.len_sL, jM.len_sR, jM.len_fI, jM.len_fL, jM.len_fR, *]; omega)) ?_
            exact mQ.of (by unfold sp_layers; (repeat (first | rw [if_pos (by omega)] | rw [if_neg (by omega)])))))
theorem cm_layersInAll (B : isB β) : CT γ mX12_layersInAll 0 0 0 [.ref (β.2 16)] (jP β V) (fun r h' => r = some (.int (jI (layAll V))) ∧ h' = jP β V) X0 := by
  refine CT.of MX12_layersInAll (Nat.le_of_ble_eq_true rfl) ?_
  show J γ mX12_layersInAll 0 0 0 0 0 (jP β V) 0 [(0, .ref (β.2 16))] [] _ _
  refine J.iconst (pc' := 1) rfl rfl ?_
  refine J.istore_n (pc' := 2) rfl rfl (by decide) ?_
  refine J.iconst (pc' := 3) rfl rfl ?_
  refine J.istore_n (pc' := 4) rfl rfl (by decide) ?_
  have key : ∀ (n i : Nat), i + n = 6 → J γ mX12_layersInAll 0 0 0 0 0 (jP β V) 4 [(0, .ref (β.2 16)), (1, .int (jI (Sm (fun h => V 138 h) i))), (2, .int (jI (i : Int)))] [] (fun r h' => r = some (.int (jI (layAll V))) ∧ h' = jP β V) X0 := by
    intro n
    induction n with
    | zero =>
      intro i hi
      refine J.iload_n (pc' := 5) rfl rfl rfl ?_
      refine J.bipush (pc' := 7) rfl rfl (by decide) ?_
      refine J.icmp_ge (tgt := 25) (pc' := 10) rfl rfl rfl (by first | omega | (exact R.r _ _) | (simp only [jM.len_sI, jM.len_sL, jM.len_sR, jM.len_fI, jM.len_fL, jM.len_fR]; omega) | (simp [jM.len_nw, jM.len_sI, jM.len_sL, jM.len_sR, jM.len_fI, jM.len_fL, jM.len_fR, *]; omega)) (by first | omega | (exact R.r _ _) | (simp only [jM.len_sI, jM.len_sL, jM.len_sR, jM.len_fI, jM.len_fL, jM.len_fR]; omega) | (simp [jM.len_nw, jM.len_sI, jM.len_sL, jM.len_sR, jM.len_fI, jM.len_fL, jM.len_fR, *]; omega)) (fun c7 => ?_) (fun c7 => ?_)
      · first
        | (exfalso; omega)
        | (refine J.iload_n (pc' := 26) rfl rfl rfl ?_
           refine J.iret rfl rfl (by first | omega | (exact R.r _ _) | (simp only [jM.len_sI, jM.len_sL, jM.len_sR, jM.len_fI, jM.len_fL, jM.len_fR]; omega) | (simp [jM.len_nw, jM.len_sI, jM.len_sL, jM.len_sR, jM.len_fI, jM.len_fL, jM.len_fR, *]; omega)) (by first | omega | (exact R.r _ _) | (simp only [jM.len_sI, jM.len_sL, jM.len_sR, jM.len_fI, jM.len_fL, jM.len_fR]; omega) | (simp [jM.len_nw, jM.len_sI, jM.len_sL, jM.len_sR, jM.len_fI, jM.len_fL, jM.len_fR, *]; omega)) ?_
           exact ⟨by rw [layAll, show i = 6 by omega], rfl⟩)
      · first
        | (exfalso; omega)
        | (refine J.iload_n (pc' := 11) rfl rfl rfl ?_
           first | refine J.aload_n (pc' := 12) rfl rfl rfl ?_ | refine J.aload_nN (pc' := 12) rfl rfl rfl ?_
           refine J.mgR (pc' := 15) (t := 138) B rfl fl_X12_91 rfl rfl (by decide) rfl ?_
           refine J.iload_n (pc' := 16) rfl rfl rfl ?_
           refine J.mald (pc' := 17) B rfl rfl rfl (by omega) (by simp only [jLn]; omega) rfl ?_
           refine J.iadd (pc' := 18) rfl rfl ?_
           refine J.istore_n (pc' := 19) rfl rfl (by decide) ?_
           refine J.iinc (pc' := 22) rfl rfl rfl (by decide) ?_
           refine J.goto (tgt := 4) rfl rfl ?_
           exfalso
           omega)
    | succ n ih =>
      intro i hi
      have h9 := ih (i + 1) (by omega)
      rw [Sm, show ((i + 1 : Nat) : Int) = (i : Int) + 1 by omega] at h9
      refine J.iload_n (pc' := 5) rfl rfl rfl ?_
      refine J.bipush (pc' := 7) rfl rfl (by decide) ?_
      refine J.icmp_ge (tgt := 25) (pc' := 10) rfl rfl rfl (by first | omega | (exact R.r _ _) | (simp only [jM.len_sI, jM.len_sL, jM.len_sR, jM.len_fI, jM.len_fL, jM.len_fR]; omega) | (simp [jM.len_nw, jM.len_sI, jM.len_sL, jM.len_sR, jM.len_fI, jM.len_fL, jM.len_fR, *]; omega)) (by first | omega | (exact R.r _ _) | (simp only [jM.len_sI, jM.len_sL, jM.len_sR, jM.len_fI, jM.len_fL, jM.len_fR]; omega) | (simp [jM.len_nw, jM.len_sI, jM.len_sL, jM.len_sR, jM.len_fI, jM.len_fL, jM.len_fR, *]; omega)) (fun c7 => ?_) (fun c7 => ?_)
      · first
        | (exfalso; omega)
        | (refine J.iload_n (pc' := 26) rfl rfl rfl ?_
           refine J.iret rfl rfl (by first | omega | (exact R.r _ _) | (simp only [jM.len_sI, jM.len_sL, jM.len_sR, jM.len_fI, jM.len_fL, jM.len_fR]; omega) | (simp [jM.len_nw, jM.len_sI, jM.len_sL, jM.len_sR, jM.len_fI, jM.len_fL, jM.len_fR, *]; omega)) (by first | omega | (exact R.r _ _) | (simp only [jM.len_sI, jM.len_sL, jM.len_sR, jM.len_fI, jM.len_fL, jM.len_fR]; omega) | (simp [jM.len_nw, jM.len_sI, jM.len_sL, jM.len_sR, jM.len_fI, jM.len_fL, jM.len_fR, *]; omega)) ?_
           exact ⟨rfl, rfl⟩)
      · first
        | (exfalso; omega)
        | (refine J.iload_n (pc' := 11) rfl rfl rfl ?_
           first | refine J.aload_n (pc' := 12) rfl rfl rfl ?_ | refine J.aload_nN (pc' := 12) rfl rfl rfl ?_
           refine J.mgR (pc' := 15) (t := 138) B rfl fl_X12_91 rfl rfl (by decide) rfl ?_
           refine J.iload_n (pc' := 16) rfl rfl rfl ?_
           refine J.mald (pc' := 17) B rfl rfl rfl (by omega) (by simp only [jLn]; omega) rfl ?_
           refine J.iadd (pc' := 18) rfl rfl ?_
           refine J.istore_n (pc' := 19) rfl rfl (by decide) ?_
           refine J.iinc (pc' := 22) rfl rfl rfl (by decide) ?_
           refine J.goto (tgt := 4) rfl rfl ?_
           exact h9)
  exact key 6 0 (by omega)
theorem cm_asked {m l g : Int} (B : isB β) (R : isR V) (hm : r32 m) (hl : r32 l) (hg : r32 g) : CT γ mX12_asked 2 0 0 [.ref (β.2 16), .int (jI m), .int (jI l), .int (jI g)] (jP β V) (mQ β (sp_asked (jU V 16 0 0) m l g)) X0 := by
  refine CT.of MX12_asked (Nat.le_of_ble_eq_true rfl) ?_
  show J γ mX12_asked 2 0 0 0 0 (jP β V) 0 [(0, .ref (β.2 16)), (1, .int (jI m)), (2, .int (jI l)), (3, .int (jI g))] [] _ _
  first | refine J.aload_n (pc' := 1) rfl rfl rfl ?_ | refine J.aload_nN (pc' := 1) rfl rfl rfl ?_
  refine J.iconst (pc' := 2) rfl rfl ?_
  refine J.mpI (pc' := 5) (j := 0) B rfl fl_X12_1 rfl rfl rfl rfl ?_
  have h0 := jU_same V 16 0 0
  replace R : isR (jU V 16 0 0) := R.up (fun _ => by decide)
  generalize jU V 16 0 0 = V at h0 R ⊢
  have hf := R.f
  first | refine J.aload_n (pc' := 6) rfl rfl rfl ?_ | refine J.aload_nN (pc' := 6) rfl rfl rfl ?_
  refine J.iload_n (pc' := 7) rfl rfl rfl ?_
  refine J.iload_n (pc' := 8) rfl rfl rfl ?_
  refine J.iload_n (pc' := 9) rfl rfl rfl ?_
  refine J.callS (pc' := 12) rfl MX12_isSpan ml_X12_165 is_X12_isSpan (cm_isSpan hm hl hg) rfl rfl (Nat.le_of_ble_eq_true rfl) (by first | omega | (exact R.r _ _) | (simp only [jM.len_sI, jM.len_sL, jM.len_sR, jM.len_fI, jM.len_fL, jM.len_fR]; omega) | (simp [jM.len_nw, jM.len_sI, jM.len_sL, jM.len_sR, jM.len_fI, jM.len_fL, jM.len_fR, *]; omega)) (by first | omega | (exact R.r _ _) | (simp only [jM.len_sI, jM.len_sL, jM.len_sR, jM.len_fI, jM.len_fL, jM.len_fR]; omega) | (simp [jM.len_nw, jM.len_sI, jM.len_sL, jM.len_sR, jM.len_fI, jM.len_fL, jM.len_fR, *]; omega)) (by first | omega | (exact R.r _ _) | (simp only [jM.len_sI, jM.len_sL, jM.len_sR, jM.len_fI, jM.len_fL, jM.len_fR]; omega) | (simp [jM.len_nw, jM.len_sI, jM.len_sL, jM.len_sR, jM.len_fI, jM.len_fL, jM.len_fR, *]; omega)) rfl rfl ?_ ?_
  · exact fun _ _ h => h
  rintro _ _ ⟨b, hb, rfl, rfl⟩
  rcases hb with ⟨rfl, hb⟩ | ⟨rfl, hb⟩
  · first
    | (exfalso; omega)
    | (refine J.iconst (pc' := 13) rfl rfl ?_
       first | refine J.callV (pc' := 16) (t := 16) rfl MX12_may ml_X12_161 iv_X12_may (by decide) ⟨_, rfl, rfl⟩ B.1 (cm_may1 B h0) rfl rfl (Nat.le_of_ble_eq_true rfl) (by first | omega | (exact R.r _ _) | (simp only [jM.len_sI, jM.len_sL, jM.len_sR, jM.len_fI, jM.len_fL, jM.len_fR]; omega) | (simp [jM.len_nw, jM.len_sI, jM.len_sL, jM.len_sR, jM.len_fI, jM.len_fL, jM.len_fR, *]; omega)) (by first | omega | (exact R.r _ _) | (simp only [jM.len_sI, jM.len_sL, jM.len_sR, jM.len_fI, jM.len_fL, jM.len_fR]; omega) | (simp [jM.len_nw, jM.len_sI, jM.len_sL, jM.len_sR, jM.len_fI, jM.len_fL, jM.len_fR, *]; omega)) (by first | omega | (exact R.r _ _) | (simp only [jM.len_sI, jM.len_sL, jM.len_sR, jM.len_fI, jM.len_fL, jM.len_fR]; omega) | (simp [jM.len_nw, jM.len_sI, jM.len_sL, jM.len_sR, jM.len_fI, jM.len_fL, jM.len_fR, *]; omega)) rfl rfl ?_ ?_ | refine J.callV (pc' := 16) (t := 16) rfl MX12_may ml_X12_161 iv_X12_may (by decide) ⟨_, rfl, rfl⟩ B.1 (cm_may0 B h0 (by omega)) rfl rfl (Nat.le_of_ble_eq_true rfl) (by first | omega | (exact R.r _ _) | (simp only [jM.len_sI, jM.len_sL, jM.len_sR, jM.len_fI, jM.len_fL, jM.len_fR]; omega) | (simp [jM.len_nw, jM.len_sI, jM.len_sL, jM.len_sR, jM.len_fI, jM.len_fL, jM.len_fR, *]; omega)) (by first | omega | (exact R.r _ _) | (simp only [jM.len_sI, jM.len_sL, jM.len_sR, jM.len_fI, jM.len_fL, jM.len_fR]; omega) | (simp [jM.len_nw, jM.len_sI, jM.len_sL, jM.len_sR, jM.len_fI, jM.len_fL, jM.len_fR, *]; omega)) (by first | omega | (exact R.r _ _) | (simp only [jM.len_sI, jM.len_sL, jM.len_sR, jM.len_fI, jM.len_fL, jM.len_fR]; omega) | (simp [jM.len_nw, jM.len_sI, jM.len_sL, jM.len_sR, jM.len_fI, jM.len_fL, jM.len_fR, *]; omega)) rfl rfl ?_ ?_
       · exact fun _ _ h => h
       rintro _ _ ⟨rfl, rfl⟩
       refine J.if_ne (tgt := 21) (pc' := 19) rfl rfl rfl (by first | omega | (exact R.r _ _) | (simp only [jM.len_sI, jM.len_sL, jM.len_sR, jM.len_fI, jM.len_fL, jM.len_fR]; omega) | (simp [jM.len_nw, jM.len_sI, jM.len_sL, jM.len_sR, jM.len_fI, jM.len_fL, jM.len_fR, *]; omega)) (fun c16 => ?_) (fun c16 => ?_)
       · first
         | (exfalso; omega)
         | (first | refine J.aload_n (pc' := 22) rfl rfl rfl ?_ | refine J.aload_nN (pc' := 22) rfl rfl rfl ?_
            refine J.mgR (pc' := 25) (t := 146) B rfl fl_X12_115 rfl rfl (by decide) rfl ?_
            refine J.iload_n (pc' := 26) rfl rfl rfl ?_
            refine J.iload_n (pc' := 27) rfl rfl rfl ?_
            refine J.mast (pc' := 28) B rfl rfl rfl rfl (by omega) (by simp only [jLn]; omega) rfl ?_
            first | refine J.aload_n (pc' := 29) rfl rfl rfl ?_ | refine J.aload_nN (pc' := 29) rfl rfl rfl ?_
            refine J.mgR (pc' := 32) (t := 147) B rfl fl_X12_118 rfl rfl (by decide) rfl ?_
            refine J.iload_n (pc' := 33) rfl rfl rfl ?_
            refine J.iload_n (pc' := 34) rfl rfl rfl ?_
            refine J.mast (pc' := 35) B rfl rfl rfl rfl (by omega) (by simp only [jLn]; omega) rfl ?_
            refine J.iconst (pc' := 36) rfl rfl ?_
            refine J.iret rfl rfl (by first | omega | (exact R.r _ _) | (simp only [jM.len_sI, jM.len_sL, jM.len_sR, jM.len_fI, jM.len_fL, jM.len_fR]; omega) | (simp [jM.len_nw, jM.len_sI, jM.len_sL, jM.len_sR, jM.len_fI, jM.len_fL, jM.len_fR, *]; omega)) (by first | omega | (exact R.r _ _) | (simp only [jM.len_sI, jM.len_sL, jM.len_sR, jM.len_fI, jM.len_fL, jM.len_fR]; omega) | (simp [jM.len_nw, jM.len_sI, jM.len_sL, jM.len_sR, jM.len_fI, jM.len_fL, jM.len_fR, *]; omega)) ?_
            exact mQ.of (by unfold sp_asked; (repeat (first | rw [if_pos (by omega)] | rw [if_neg (by omega)]))))
       · first
         | (exfalso; omega)
         | (refine J.iconst (pc' := 20) rfl rfl ?_
            refine J.iret rfl rfl (by first | omega | (exact R.r _ _) | (simp only [jM.len_sI, jM.len_sL, jM.len_sR, jM.len_fI, jM.len_fL, jM.len_fR]; omega) | (simp [jM.len_nw, jM.len_sI, jM.len_sL, jM.len_sR, jM.len_fI, jM.len_fL, jM.len_fR, *]; omega)) (by first | omega | (exact R.r _ _) | (simp only [jM.len_sI, jM.len_sL, jM.len_sR, jM.len_fI, jM.len_fL, jM.len_fR]; omega) | (simp [jM.len_nw, jM.len_sI, jM.len_sL, jM.len_sR, jM.len_fI, jM.len_fL, jM.len_fR, *]; omega)) ?_
            exact mQ.of (by unfold sp_asked; (repeat (first | rw [if_pos (by omega)] | rw [if_neg (by omega)])))))
  · first
    | (exfalso; omega)
    | (refine J.iconst (pc' := 13) rfl rfl ?_
       first | refine J.callV (pc' := 16) (t := 16) rfl MX12_may ml_X12_161 iv_X12_may (by decide) ⟨_, rfl, rfl⟩ B.1 (cm_may1 B h0) rfl rfl (Nat.le_of_ble_eq_true rfl) (by first | omega | (exact R.r _ _) | (simp only [jM.len_sI, jM.len_sL, jM.len_sR, jM.len_fI, jM.len_fL, jM.len_fR]; omega) | (simp [jM.len_nw, jM.len_sI, jM.len_sL, jM.len_sR, jM.len_fI, jM.len_fL, jM.len_fR, *]; omega)) (by first | omega | (exact R.r _ _) | (simp only [jM.len_sI, jM.len_sL, jM.len_sR, jM.len_fI, jM.len_fL, jM.len_fR]; omega) | (simp [jM.len_nw, jM.len_sI, jM.len_sL, jM.len_sR, jM.len_fI, jM.len_fL, jM.len_fR, *]; omega)) (by first | omega | (exact R.r _ _) | (simp only [jM.len_sI, jM.len_sL, jM.len_sR, jM.len_fI, jM.len_fL, jM.len_fR]; omega) | (simp [jM.len_nw, jM.len_sI, jM.len_sL, jM.len_sR, jM.len_fI, jM.len_fL, jM.len_fR, *]; omega)) rfl rfl ?_ ?_ | refine J.callV (pc' := 16) (t := 16) rfl MX12_may ml_X12_161 iv_X12_may (by decide) ⟨_, rfl, rfl⟩ B.1 (cm_may0 B h0 (by omega)) rfl rfl (Nat.le_of_ble_eq_true rfl) (by first | omega | (exact R.r _ _) | (simp only [jM.len_sI, jM.len_sL, jM.len_sR, jM.len_fI, jM.len_fL, jM.len_fR]; omega) | (simp [jM.len_nw, jM.len_sI, jM.len_sL, jM.len_sR, jM.len_fI, jM.len_fL, jM.len_fR, *]; omega)) (by first | omega | (exact R.r _ _) | (simp only [jM.len_sI, jM.len_sL, jM.len_sR, jM.len_fI, jM.len_fL, jM.len_fR]; omega) | (simp [jM.len_nw, jM.len_sI, jM.len_sL, jM.len_sR, jM.len_fI, jM.len_fL, jM.len_fR, *]; omega)) (by first | omega | (exact R.r _ _) | (simp only [jM.len_sI, jM.len_sL, jM.len_sR, jM.len_fI, jM.len_fL, jM.len_fR]; omega) | (simp [jM.len_nw, jM.len_sI, jM.len_sL, jM.len_sR, jM.len_fI, jM.len_fL, jM.len_fR, *]; omega)) rfl rfl ?_ ?_
       · exact fun _ _ h => h
       rintro _ _ ⟨rfl, rfl⟩
       refine J.if_ne (tgt := 21) (pc' := 19) rfl rfl rfl (by first | omega | (exact R.r _ _) | (simp only [jM.len_sI, jM.len_sL, jM.len_sR, jM.len_fI, jM.len_fL, jM.len_fR]; omega) | (simp [jM.len_nw, jM.len_sI, jM.len_sL, jM.len_sR, jM.len_fI, jM.len_fL, jM.len_fR, *]; omega)) (fun c16 => ?_) (fun c16 => ?_)
       · first
         | (exfalso; omega)
         | (first | refine J.aload_n (pc' := 22) rfl rfl rfl ?_ | refine J.aload_nN (pc' := 22) rfl rfl rfl ?_
            refine J.mgR (pc' := 25) (t := 146) B rfl fl_X12_115 rfl rfl (by decide) rfl ?_
            refine J.iload_n (pc' := 26) rfl rfl rfl ?_
            refine J.iload_n (pc' := 27) rfl rfl rfl ?_
            refine J.mast (pc' := 28) B rfl rfl rfl rfl (by omega) (by simp only [jLn]; omega) rfl ?_
            first | refine J.aload_n (pc' := 29) rfl rfl rfl ?_ | refine J.aload_nN (pc' := 29) rfl rfl rfl ?_
            refine J.mgR (pc' := 32) (t := 147) B rfl fl_X12_118 rfl rfl (by decide) rfl ?_
            refine J.iload_n (pc' := 33) rfl rfl rfl ?_
            refine J.iload_n (pc' := 34) rfl rfl rfl ?_
            refine J.mast (pc' := 35) B rfl rfl rfl rfl (by omega) (by simp only [jLn]; omega) rfl ?_
            refine J.iconst (pc' := 36) rfl rfl ?_
            refine J.iret rfl rfl (by first | omega | (exact R.r _ _) | (simp only [jM.len_sI, jM.len_sL, jM.len_sR, jM.len_fI, jM.len_fL, jM.len_fR]; omega) | (simp [jM.len_nw, jM.len_sI, jM.len_sL, jM.len_sR, jM.len_fI, jM.len_fL, jM.len_fR, *]; omega)) (by first | omega | (exact R.r _ _) | (simp only [jM.len_sI, jM.len_sL, jM.len_sR, jM.len_fI, jM.len_fL, jM.len_fR]; omega) | (simp [jM.len_nw, jM.len_sI, jM.len_sL, jM.len_sR, jM.len_fI, jM.len_fL, jM.len_fR, *]; omega)) ?_
            exact mQ.of (by unfold sp_asked; (repeat (first | rw [if_pos (by omega)] | rw [if_neg (by omega)]))))
       · first
         | (exfalso; omega)
         | (refine J.iconst (pc' := 20) rfl rfl ?_
            refine J.iret rfl rfl (by first | omega | (exact R.r _ _) | (simp only [jM.len_sI, jM.len_sL, jM.len_sR, jM.len_fI, jM.len_fL, jM.len_fR]; omega) | (simp [jM.len_nw, jM.len_sI, jM.len_sL, jM.len_sR, jM.len_fI, jM.len_fL, jM.len_fR, *]; omega)) (by first | omega | (exact R.r _ _) | (simp only [jM.len_sI, jM.len_sL, jM.len_sR, jM.len_fI, jM.len_fL, jM.len_fR]; omega) | (simp [jM.len_nw, jM.len_sI, jM.len_sL, jM.len_sR, jM.len_fI, jM.len_fL, jM.len_fR, *]; omega)) ?_
            exact mQ.of (by unfold sp_asked; (repeat (first | rw [if_pos (by omega)] | rw [if_neg (by omega)])))))
theorem cm_money {s : Int} (B : isB β) (R : isR V) (hs : r32 s) : CT γ mX12_money 2 0 0 [.ref (β.2 16), .int (jI s)] (jP β V) (fun r h' => r = some (.long (jL (sp_money (jU V 16 0 0) s).1)) ∧ h' = jP β (sp_money (jU V 16 0 0) s).2) X0 := by
  refine CT.of MX12_money (Nat.le_of_ble_eq_true rfl) ?_
  show J γ mX12_money 2 0 0 0 0 (jP β V) 0 [(0, .ref (β.2 16)), (1, .int (jI s))] [] _ _
  first | refine J.aload_n (pc' := 1) rfl rfl rfl ?_ | refine J.aload_nN (pc' := 1) rfl rfl rfl ?_
  refine J.iconst (pc' := 2) rfl rfl ?_
  refine J.mpI (pc' := 5) (j := 0) B rfl fl_X12_1 rfl rfl rfl rfl ?_
  have h0 := jU_same V 16 0 0
  replace R : isR (jU V 16 0 0) := R.up (fun _ => by decide)
  generalize jU V 16 0 0 = V at h0 R ⊢
  have hf := R.f
  first | refine J.aload_n (pc' := 6) rfl rfl rfl ?_ | refine J.aload_nN (pc' := 6) rfl rfl rfl ?_
  refine J.iload_n (pc' := 7) rfl rfl rfl ?_
  refine J.callV (pc' := 10) (t := 16) rfl MX12_isSeller ml_X12_176 iv_X12_isSeller (by decide) ⟨_, rfl, rfl⟩ B.1 (cm_isSeller B R h0 hs) rfl rfl (Nat.le_of_ble_eq_true rfl) (by first | omega | (exact R.r _ _) | (simp only [jM.len_sI, jM.len_sL, jM.len_sR, jM.len_fI, jM.len_fL, jM.len_fR]; omega) | (simp [jM.len_nw, jM.len_sI, jM.len_sL, jM.len_sR, jM.len_fI, jM.len_fL, jM.len_fR, *]; omega)) (by first | omega | (exact R.r _ _) | (simp only [jM.len_sI, jM.len_sL, jM.len_sR, jM.len_fI, jM.len_fL, jM.len_fR]; omega) | (simp [jM.len_nw, jM.len_sI, jM.len_sL, jM.len_sR, jM.len_fI, jM.len_fL, jM.len_fR, *]; omega)) (by first | omega | (exact R.r _ _) | (simp only [jM.len_sI, jM.len_sL, jM.len_sR, jM.len_fI, jM.len_fL, jM.len_fR]; omega) | (simp [jM.len_nw, jM.len_sI, jM.len_sL, jM.len_sR, jM.len_fI, jM.len_fL, jM.len_fR, *]; omega)) rfl rfl ?_ ?_
  · exact fun _ _ h => h
  rintro _ _ ⟨b, hb, rfl⟩
  rcases hb with ⟨rfl, hb, rfl⟩ | ⟨rfl, hb, rfl⟩
  · first
    | (exfalso; omega)
    | (refine J.if_eq (tgt := 22) (pc' := 13) rfl rfl rfl (by first | omega | (exact R.r _ _) | (simp only [jM.len_sI, jM.len_sL, jM.len_sR, jM.len_fI, jM.len_fL, jM.len_fR]; omega) | (simp [jM.len_nw, jM.len_sI, jM.len_sL, jM.len_sR, jM.len_fI, jM.len_fL, jM.len_fR, *]; omega)) (fun c10 => ?_) (fun c10 => ?_)
       · first
         | (exfalso; omega)
         | (refine J.lconst (pc' := 23) rfl rfl ?_
            refine J.lret rfl rfl (by first | omega | (exact R.r _ _) | (simp only [jM.len_sI, jM.len_sL, jM.len_sR, jM.len_fI, jM.len_fL, jM.len_fR]; omega) | (simp [jM.len_nw, jM.len_sI, jM.len_sL, jM.len_sR, jM.len_fI, jM.len_fL, jM.len_fR, *]; omega)) (by first | omega | (exact R.r _ _) | (simp only [jM.len_sI, jM.len_sL, jM.len_sR, jM.len_fI, jM.len_fL, jM.len_fR]; omega) | (simp [jM.len_nw, jM.len_sI, jM.len_sL, jM.len_sR, jM.len_fI, jM.len_fL, jM.len_fR, *]; omega)) ?_
            unfold sp_money
            first | (rw [if_pos (by omega)]; exact ⟨rfl, rfl⟩) | (rw [if_neg (by omega)]; exact ⟨rfl, rfl⟩))
       · first
         | (exfalso; omega)
         | (first | refine J.aload_n (pc' := 14) rfl rfl rfl ?_ | refine J.aload_nN (pc' := 14) rfl rfl rfl ?_
            refine J.mgR (pc' := 17) (t := 109) B rfl fl_X12_30 rfl rfl (by decide) rfl ?_
            refine J.iload_n (pc' := 18) rfl rfl rfl ?_
            refine J.mlald (pc' := 19) B rfl rfl rfl (by omega) (by simp only [jLn]; omega) rfl ?_
            refine J.goto (tgt := 23) rfl rfl ?_
            refine J.lret rfl rfl (by first | omega | (exact R.r _ _) | (simp only [jM.len_sI, jM.len_sL, jM.len_sR, jM.len_fI, jM.len_fL, jM.len_fR]; omega) | (simp [jM.len_nw, jM.len_sI, jM.len_sL, jM.len_sR, jM.len_fI, jM.len_fL, jM.len_fR, *]; omega)) (by first | omega | (exact R.r _ _) | (simp only [jM.len_sI, jM.len_sL, jM.len_sR, jM.len_fI, jM.len_fL, jM.len_fR]; omega) | (simp [jM.len_nw, jM.len_sI, jM.len_sL, jM.len_sR, jM.len_fI, jM.len_fL, jM.len_fR, *]; omega)) ?_
            unfold sp_money
            first | (rw [if_pos (by omega)]; exact ⟨rfl, rfl⟩) | (rw [if_neg (by omega)]; exact ⟨rfl, rfl⟩)))
  · first
    | (exfalso; omega)
    | (refine J.if_eq (tgt := 22) (pc' := 13) rfl rfl rfl (by first | omega | (exact R.r _ _) | (simp only [jM.len_sI, jM.len_sL, jM.len_sR, jM.len_fI, jM.len_fL, jM.len_fR]; omega) | (simp [jM.len_nw, jM.len_sI, jM.len_sL, jM.len_sR, jM.len_fI, jM.len_fL, jM.len_fR, *]; omega)) (fun c10 => ?_) (fun c10 => ?_)
       · first
         | (exfalso; omega)
         | (refine J.lconst (pc' := 23) rfl rfl ?_
            refine J.lret rfl rfl (by first | omega | (exact R.r _ _) | (simp only [jM.len_sI, jM.len_sL, jM.len_sR, jM.len_fI, jM.len_fL, jM.len_fR]; omega) | (simp [jM.len_nw, jM.len_sI, jM.len_sL, jM.len_sR, jM.len_fI, jM.len_fL, jM.len_fR, *]; omega)) (by first | omega | (exact R.r _ _) | (simp only [jM.len_sI, jM.len_sL, jM.len_sR, jM.len_fI, jM.len_fL, jM.len_fR]; omega) | (simp [jM.len_nw, jM.len_sI, jM.len_sL, jM.len_sR, jM.len_fI, jM.len_fL, jM.len_fR, *]; omega)) ?_
            unfold sp_money
            first | (rw [if_pos (by omega)]; exact ⟨rfl, rfl⟩) | (rw [if_neg (by omega)]; exact ⟨rfl, rfl⟩))
       · first
         | (exfalso; omega)
         | (first | refine J.aload_n (pc' := 14) rfl rfl rfl ?_ | refine J.aload_nN (pc' := 14) rfl rfl rfl ?_
            refine J.mgR (pc' := 17) (t := 109) B rfl fl_X12_30 rfl rfl (by decide) rfl ?_
            refine J.iload_n (pc' := 18) rfl rfl rfl ?_
            refine J.mlald (pc' := 19) B rfl rfl rfl (by omega) (by simp only [jLn]; omega) rfl ?_
            refine J.goto (tgt := 23) rfl rfl ?_
            refine J.lret rfl rfl (by first | omega | (exact R.r _ _) | (simp only [jM.len_sI, jM.len_sL, jM.len_sR, jM.len_fI, jM.len_fL, jM.len_fR]; omega) | (simp [jM.len_nw, jM.len_sI, jM.len_sL, jM.len_sR, jM.len_fI, jM.len_fL, jM.len_fR, *]; omega)) (by first | omega | (exact R.r _ _) | (simp only [jM.len_sI, jM.len_sL, jM.len_sR, jM.len_fI, jM.len_fL, jM.len_fR]; omega) | (simp [jM.len_nw, jM.len_sI, jM.len_sL, jM.len_sR, jM.len_fI, jM.len_fL, jM.len_fR, *]; omega)) ?_
            unfold sp_money
            first | (rw [if_pos (by omega)]; exact ⟨rfl, rfl⟩) | (rw [if_neg (by omega)]; exact ⟨rfl, rfl⟩)))
theorem cm_day {d : Int} (B : isB β) (R : isR V) (hd : r32 d) : CT γ mX12_day 2 0 0 [.ref (β.2 16), .int (jI d)] (jP β V) (mQ β (sp_day (jU V 16 0 0) d)) X0 := by
  refine CT.of MX12_day (Nat.le_of_ble_eq_true rfl) ?_
  show J γ mX12_day 2 0 0 0 0 (jP β V) 0 [(0, .ref (β.2 16)), (1, .int (jI d))] [] _ _
  first | refine J.aload_n (pc' := 1) rfl rfl rfl ?_ | refine J.aload_nN (pc' := 1) rfl rfl rfl ?_
  refine J.iconst (pc' := 2) rfl rfl ?_
  refine J.mpI (pc' := 5) (j := 0) B rfl fl_X12_1 rfl rfl rfl rfl ?_
  have h0 := jU_same V 16 0 0
  replace R : isR (jU V 16 0 0) := R.up (fun _ => by decide)
  generalize jU V 16 0 0 = V at h0 R ⊢
  have hf := R.f
  first | refine J.aload_n (pc' := 6) rfl rfl rfl ?_ | refine J.aload_nN (pc' := 6) rfl rfl rfl ?_
  refine J.iload_n (pc' := 7) rfl rfl rfl ?_
  refine J.if_lt (tgt := 33) (pc' := 10) rfl rfl rfl (by first | omega | (exact R.r _ _) | (simp only [jM.len_sI, jM.len_sL, jM.len_sR, jM.len_fI, jM.len_fL, jM.len_fR]; omega) | (simp [jM.len_nw, jM.len_sI, jM.len_sL, jM.len_sR, jM.len_fI, jM.len_fL, jM.len_fR, *]; omega)) (fun c7 => ?_) (fun c7 => ?_)
  · first
    | (exfalso; omega)
    | (refine J.iconst (pc' := 34) rfl rfl ?_
       refine J.iconst (pc' := 35) rfl rfl ?_
       first | refine J.callV (pc' := 38) (t := 16) rfl MX12_may ml_X12_161 iv_X12_may (by decide) ⟨_, rfl, rfl⟩ B.1 (cm_may1 B h0) rfl rfl (Nat.le_of_ble_eq_true rfl) (by first | omega | (exact R.r _ _) | (simp only [jM.len_sI, jM.len_sL, jM.len_sR, jM.len_fI, jM.len_fL, jM.len_fR]; omega) | (simp [jM.len_nw, jM.len_sI, jM.len_sL, jM.len_sR, jM.len_fI, jM.len_fL, jM.len_fR, *]; omega)) (by first | omega | (exact R.r _ _) | (simp only [jM.len_sI, jM.len_sL, jM.len_sR, jM.len_fI, jM.len_fL, jM.len_fR]; omega) | (simp [jM.len_nw, jM.len_sI, jM.len_sL, jM.len_sR, jM.len_fI, jM.len_fL, jM.len_fR, *]; omega)) (by first | omega | (exact R.r _ _) | (simp only [jM.len_sI, jM.len_sL, jM.len_sR, jM.len_fI, jM.len_fL, jM.len_fR]; omega) | (simp [jM.len_nw, jM.len_sI, jM.len_sL, jM.len_sR, jM.len_fI, jM.len_fL, jM.len_fR, *]; omega)) rfl rfl ?_ ?_ | refine J.callV (pc' := 38) (t := 16) rfl MX12_may ml_X12_161 iv_X12_may (by decide) ⟨_, rfl, rfl⟩ B.1 (cm_may0 B h0 (by omega)) rfl rfl (Nat.le_of_ble_eq_true rfl) (by first | omega | (exact R.r _ _) | (simp only [jM.len_sI, jM.len_sL, jM.len_sR, jM.len_fI, jM.len_fL, jM.len_fR]; omega) | (simp [jM.len_nw, jM.len_sI, jM.len_sL, jM.len_sR, jM.len_fI, jM.len_fL, jM.len_fR, *]; omega)) (by first | omega | (exact R.r _ _) | (simp only [jM.len_sI, jM.len_sL, jM.len_sR, jM.len_fI, jM.len_fL, jM.len_fR]; omega) | (simp [jM.len_nw, jM.len_sI, jM.len_sL, jM.len_sR, jM.len_fI, jM.len_fL, jM.len_fR, *]; omega)) (by first | omega | (exact R.r _ _) | (simp only [jM.len_sI, jM.len_sL, jM.len_sR, jM.len_fI, jM.len_fL, jM.len_fR]; omega) | (simp [jM.len_nw, jM.len_sI, jM.len_sL, jM.len_sR, jM.len_fI, jM.len_fL, jM.len_fR, *]; omega)) rfl rfl ?_ ?_
       · exact fun _ _ h => h
       rintro _ _ ⟨rfl, rfl⟩
       refine J.if_ne (tgt := 43) (pc' := 41) rfl rfl rfl (by first | omega | (exact R.r _ _) | (simp only [jM.len_sI, jM.len_sL, jM.len_sR, jM.len_fI, jM.len_fL, jM.len_fR]; omega) | (simp [jM.len_nw, jM.len_sI, jM.len_sL, jM.len_sR, jM.len_fI, jM.len_fL, jM.len_fR, *]; omega)) (fun c38 => ?_) (fun c38 => ?_)
       · first
         | (exfalso; omega)
         | (first | refine J.aload_n (pc' := 44) rfl rfl rfl ?_ | refine J.aload_nN (pc' := 44) rfl rfl rfl ?_
            refine J.dup (pc' := 45) rfl rfl rfl ?_
            refine J.mgI (pc' := 48) (j := 3) B rfl fl_X12_283 rfl rfl rfl ?_
            refine J.iload_n (pc' := 49) rfl rfl rfl ?_
            refine J.iadd (pc' := 50) rfl rfl ?_
            refine J.mpI (pc' := 53) (j := 3) B rfl fl_X12_283 rfl rfl rfl rfl ?_
            first | refine J.aload_n (pc' := 54) rfl rfl rfl ?_ | refine J.aload_nN (pc' := 54) rfl rfl rfl ?_
            refine J.mgI (pc' := 57) (j := 3) B rfl fl_X12_283 rfl rfl rfl ?_
            rw [jU_same]
            refine J.iret rfl rfl (by first | omega | (exact R.r _ _) | (simp only [jM.len_sI, jM.len_sL, jM.len_sR, jM.len_fI, jM.len_fL, jM.len_fR]; omega) | (simp [jM.len_nw, jM.len_sI, jM.len_sL, jM.len_sR, jM.len_fI, jM.len_fL, jM.len_fR, *]; omega)) (by first | omega | (exact R.r _ _) | (simp only [jM.len_sI, jM.len_sL, jM.len_sR, jM.len_fI, jM.len_fL, jM.len_fR]; omega) | (simp [jM.len_nw, jM.len_sI, jM.len_sL, jM.len_sR, jM.len_fI, jM.len_fL, jM.len_fR, *]; omega)) ?_
            exact mQ.of (by unfold sp_day; (repeat (first | rw [if_pos (by omega)] | rw [if_neg (by omega)]))))
       · first
         | (exfalso; omega)
         | (refine J.iconst (pc' := 42) rfl rfl ?_
            refine J.iret rfl rfl (by first | omega | (exact R.r _ _) | (simp only [jM.len_sI, jM.len_sL, jM.len_sR, jM.len_fI, jM.len_fL, jM.len_fR]; omega) | (simp [jM.len_nw, jM.len_sI, jM.len_sL, jM.len_sR, jM.len_fI, jM.len_fL, jM.len_fR, *]; omega)) (by first | omega | (exact R.r _ _) | (simp only [jM.len_sI, jM.len_sL, jM.len_sR, jM.len_fI, jM.len_fL, jM.len_fR]; omega) | (simp [jM.len_nw, jM.len_sI, jM.len_sL, jM.len_sR, jM.len_fI, jM.len_fL, jM.len_fR, *]; omega)) ?_
            exact mQ.of (by unfold sp_day; (repeat (first | rw [if_pos (by omega)] | rw [if_neg (by omega)])))))
  · first
    | (exfalso; omega)
    | (refine J.iload_n (pc' := 11) rfl rfl rfl ?_
       refine J.sipush (pc' := 14) rfl rfl (by decide) ?_
       refine J.icmp_gt (tgt := 33) (pc' := 17) rfl rfl rfl (by first | omega | (exact R.r _ _) | (simp only [jM.len_sI, jM.len_sL, jM.len_sR, jM.len_fI, jM.len_fL, jM.len_fR]; omega) | (simp [jM.len_nw, jM.len_sI, jM.len_sL, jM.len_sR, jM.len_fI, jM.len_fL, jM.len_fR, *]; omega)) (by first | omega | (exact R.r _ _) | (simp only [jM.len_sI, jM.len_sL, jM.len_sR, jM.len_fI, jM.len_fL, jM.len_fR]; omega) | (simp [jM.len_nw, jM.len_sI, jM.len_sL, jM.len_sR, jM.len_fI, jM.len_fL, jM.len_fR, *]; omega)) (fun c14 => ?_) (fun c14 => ?_)
       · first
         | (exfalso; omega)
         | (refine J.iconst (pc' := 34) rfl rfl ?_
            refine J.iconst (pc' := 35) rfl rfl ?_
            first | refine J.callV (pc' := 38) (t := 16) rfl MX12_may ml_X12_161 iv_X12_may (by decide) ⟨_, rfl, rfl⟩ B.1 (cm_may1 B h0) rfl rfl (Nat.le_of_ble_eq_true rfl) (by first | omega | (exact R.r _ _) | (simp only [jM.len_sI, jM.len_sL, jM.len_sR, jM.len_fI, jM.len_fL, jM.len_fR]; omega) | (simp [jM.len_nw, jM.len_sI, jM.len_sL, jM.len_sR, jM.len_fI, jM.len_fL, jM.len_fR, *]; omega)) (by first | omega | (exact R.r _ _) | (simp only [jM.len_sI, jM.len_sL, jM.len_sR, jM.len_fI, jM.len_fL, jM.len_fR]; omega) | (simp [jM.len_nw, jM.len_sI, jM.len_sL, jM.len_sR, jM.len_fI, jM.len_fL, jM.len_fR, *]; omega)) (by first | omega | (exact R.r _ _) | (simp only [jM.len_sI, jM.len_sL, jM.len_sR, jM.len_fI, jM.len_fL, jM.len_fR]; omega) | (simp [jM.len_nw, jM.len_sI, jM.len_sL, jM.len_sR, jM.len_fI, jM.len_fL, jM.len_fR, *]; omega)) rfl rfl ?_ ?_ | refine J.callV (pc' := 38) (t := 16) rfl MX12_may ml_X12_161 iv_X12_may (by decide) ⟨_, rfl, rfl⟩ B.1 (cm_may0 B h0 (by omega)) rfl rfl (Nat.le_of_ble_eq_true rfl) (by first | omega | (exact R.r _ _) | (simp only [jM.len_sI, jM.len_sL, jM.len_sR, jM.len_fI, jM.len_fL, jM.len_fR]; omega) | (simp [jM.len_nw, jM.len_sI, jM.len_sL, jM.len_sR, jM.len_fI, jM.len_fL, jM.len_fR, *]; omega)) (by first | omega | (exact R.r _ _) | (simp only [jM.len_sI, jM.len_sL, jM.len_sR, jM.len_fI, jM.len_fL, jM.len_fR]; omega) | (simp [jM.len_nw, jM.len_sI, jM.len_sL, jM.len_sR, jM.len_fI, jM.len_fL, jM.len_fR, *]; omega)) (by first | omega | (exact R.r _ _) | (simp only [jM.len_sI, jM.len_sL, jM.len_sR, jM.len_fI, jM.len_fL, jM.len_fR]; omega) | (simp [jM.len_nw, jM.len_sI, jM.len_sL, jM.len_sR, jM.len_fI, jM.len_fL, jM.len_fR, *]; omega)) rfl rfl ?_ ?_
            · exact fun _ _ h => h
            rintro _ _ ⟨rfl, rfl⟩
            refine J.if_ne (tgt := 43) (pc' := 41) rfl rfl rfl (by first | omega | (exact R.r _ _) | (simp only [jM.len_sI, jM.len_sL, jM.len_sR, jM.len_fI, jM.len_fL, jM.len_fR]; omega) | (simp [jM.len_nw, jM.len_sI, jM.len_sL, jM.len_sR, jM.len_fI, jM.len_fL, jM.len_fR, *]; omega)) (fun c38 => ?_) (fun c38 => ?_)
            · first
              | (exfalso; omega)
              | (first | refine J.aload_n (pc' := 44) rfl rfl rfl ?_ | refine J.aload_nN (pc' := 44) rfl rfl rfl ?_
                 refine J.dup (pc' := 45) rfl rfl rfl ?_
                 refine J.mgI (pc' := 48) (j := 3) B rfl fl_X12_283 rfl rfl rfl ?_
                 refine J.iload_n (pc' := 49) rfl rfl rfl ?_
                 refine J.iadd (pc' := 50) rfl rfl ?_
                 refine J.mpI (pc' := 53) (j := 3) B rfl fl_X12_283 rfl rfl rfl rfl ?_
                 first | refine J.aload_n (pc' := 54) rfl rfl rfl ?_ | refine J.aload_nN (pc' := 54) rfl rfl rfl ?_
                 refine J.mgI (pc' := 57) (j := 3) B rfl fl_X12_283 rfl rfl rfl ?_
                 rw [jU_same]
                 refine J.iret rfl rfl (by first | omega | (exact R.r _ _) | (simp only [jM.len_sI, jM.len_sL, jM.len_sR, jM.len_fI, jM.len_fL, jM.len_fR]; omega) | (simp [jM.len_nw, jM.len_sI, jM.len_sL, jM.len_sR, jM.len_fI, jM.len_fL, jM.len_fR, *]; omega)) (by first | omega | (exact R.r _ _) | (simp only [jM.len_sI, jM.len_sL, jM.len_sR, jM.len_fI, jM.len_fL, jM.len_fR]; omega) | (simp [jM.len_nw, jM.len_sI, jM.len_sL, jM.len_sR, jM.len_fI, jM.len_fL, jM.len_fR, *]; omega)) ?_
                 exact mQ.of (by unfold sp_day; (repeat (first | rw [if_pos (by omega)] | rw [if_neg (by omega)]))))
            · first
              | (exfalso; omega)
              | (refine J.iconst (pc' := 42) rfl rfl ?_
                 refine J.iret rfl rfl (by first | omega | (exact R.r _ _) | (simp only [jM.len_sI, jM.len_sL, jM.len_sR, jM.len_fI, jM.len_fL, jM.len_fR]; omega) | (simp [jM.len_nw, jM.len_sI, jM.len_sL, jM.len_sR, jM.len_fI, jM.len_fL, jM.len_fR, *]; omega)) (by first | omega | (exact R.r _ _) | (simp only [jM.len_sI, jM.len_sL, jM.len_sR, jM.len_fI, jM.len_fL, jM.len_fR]; omega) | (simp [jM.len_nw, jM.len_sI, jM.len_sL, jM.len_sR, jM.len_fI, jM.len_fL, jM.len_fR, *]; omega)) ?_
                 exact mQ.of (by unfold sp_day; (repeat (first | rw [if_pos (by omega)] | rw [if_neg (by omega)])))))
       · first
         | (exfalso; omega)
         | (first | refine J.aload_n (pc' := 18) rfl rfl rfl ?_ | refine J.aload_nN (pc' := 18) rfl rfl rfl ?_
            refine J.mgI (pc' := 21) (j := 3) B rfl fl_X12_283 rfl rfl rfl ?_
            refine J.iload_n (pc' := 22) rfl rfl rfl ?_
            refine J.iadd (pc' := 23) rfl rfl ?_
            refine J.sipush (pc' := 26) rfl rfl (by decide) ?_
            refine J.icmp_gt (tgt := 33) (pc' := 29) rfl rfl rfl (by first | omega | (exact R.r _ _) | (simp only [jM.len_sI, jM.len_sL, jM.len_sR, jM.len_fI, jM.len_fL, jM.len_fR]; omega) | (simp [jM.len_nw, jM.len_sI, jM.len_sL, jM.len_sR, jM.len_fI, jM.len_fL, jM.len_fR, *]; omega)) (by first | omega | (exact R.r _ _) | (simp only [jM.len_sI, jM.len_sL, jM.len_sR, jM.len_fI, jM.len_fL, jM.len_fR]; omega) | (simp [jM.len_nw, jM.len_sI, jM.len_sL, jM.len_sR, jM.len_fI, jM.len_fL, jM.len_fR, *]; omega)) (fun c26 => ?_) (fun c26 => ?_)
            · first
              | (exfalso; omega)
              | (refine J.iconst (pc' := 34) rfl rfl ?_
                 refine J.iconst (pc' := 35) rfl rfl ?_
                 first | refine J.callV (pc' := 38) (t := 16) rfl MX12_may ml_X12_161 iv_X12_may (by decide) ⟨_, rfl, rfl⟩ B.1 (cm_may1 B h0) rfl rfl (Nat.le_of_ble_eq_true rfl) (by first | omega | (exact R.r _ _) | (simp only [jM.len_sI, jM.len_sL, jM.len_sR, jM.len_fI, jM.len_fL, jM.len_fR]; omega) | (simp [jM.len_nw, jM.len_sI, jM.len_sL, jM.len_sR, jM.len_fI, jM.len_fL, jM.len_fR, *]; omega)) (by first | omega | (exact R.r _ _) | (simp only [jM.len_sI, jM.len_sL, jM.len_sR, jM.len_fI, jM.len_fL, jM.len_fR]; omega) | (simp [jM.len_nw, jM.len_sI, jM.len_sL, jM.len_sR, jM.len_fI, jM.len_fL, jM.len_fR, *]; omega)) (by first | omega | (exact R.r _ _) | (simp only [jM.len_sI, jM.len_sL, jM.len_sR, jM.len_fI, jM.len_fL, jM.len_fR]; omega) | (simp [jM.len_nw, jM.len_sI, jM.len_sL, jM.len_sR, jM.len_fI, jM.len_fL, jM.len_fR, *]; omega)) rfl rfl ?_ ?_ | refine J.callV (pc' := 38) (t := 16) rfl MX12_may ml_X12_161 iv_X12_may (by decide) ⟨_, rfl, rfl⟩ B.1 (cm_may0 B h0 (by omega)) rfl rfl (Nat.le_of_ble_eq_true rfl) (by first | omega | (exact R.r _ _) | (simp only [jM.len_sI, jM.len_sL, jM.len_sR, jM.len_fI, jM.len_fL, jM.len_fR]; omega) | (simp [jM.len_nw, jM.len_sI, jM.len_sL, jM.len_sR, jM.len_fI, jM.len_fL, jM.len_fR, *]; omega)) (by first | omega | (exact R.r _ _) | (simp only [jM.len_sI, jM.len_sL, jM.len_sR, jM.len_fI, jM.len_fL, jM.len_fR]; omega) | (simp [jM.len_nw, jM.len_sI, jM.len_sL, jM.len_sR, jM.len_fI, jM.len_fL, jM.len_fR, *]; omega)) (by first | omega | (exact R.r _ _) | (simp only [jM.len_sI, jM.len_sL, jM.len_sR, jM.len_fI, jM.len_fL, jM.len_fR]; omega) | (simp [jM.len_nw, jM.len_sI, jM.len_sL, jM.len_sR, jM.len_fI, jM.len_fL, jM.len_fR, *]; omega)) rfl rfl ?_ ?_
                 · exact fun _ _ h => h
                 rintro _ _ ⟨rfl, rfl⟩
                 refine J.if_ne (tgt := 43) (pc' := 41) rfl rfl rfl (by first | omega | (exact R.r _ _) | (simp only [jM.len_sI, jM.len_sL, jM.len_sR, jM.len_fI, jM.len_fL, jM.len_fR]; omega) | (simp [jM.len_nw, jM.len_sI, jM.len_sL, jM.len_sR, jM.len_fI, jM.len_fL, jM.len_fR, *]; omega)) (fun c38 => ?_) (fun c38 => ?_)
                 · first
                   | (exfalso; omega)
                   | (first | refine J.aload_n (pc' := 44) rfl rfl rfl ?_ | refine J.aload_nN (pc' := 44) rfl rfl rfl ?_
                      refine J.dup (pc' := 45) rfl rfl rfl ?_
                      refine J.mgI (pc' := 48) (j := 3) B rfl fl_X12_283 rfl rfl rfl ?_
                      refine J.iload_n (pc' := 49) rfl rfl rfl ?_
                      refine J.iadd (pc' := 50) rfl rfl ?_
                      refine J.mpI (pc' := 53) (j := 3) B rfl fl_X12_283 rfl rfl rfl rfl ?_
                      first | refine J.aload_n (pc' := 54) rfl rfl rfl ?_ | refine J.aload_nN (pc' := 54) rfl rfl rfl ?_
                      refine J.mgI (pc' := 57) (j := 3) B rfl fl_X12_283 rfl rfl rfl ?_
                      rw [jU_same]
                      refine J.iret rfl rfl (by first | omega | (exact R.r _ _) | (simp only [jM.len_sI, jM.len_sL, jM.len_sR, jM.len_fI, jM.len_fL, jM.len_fR]; omega) | (simp [jM.len_nw, jM.len_sI, jM.len_sL, jM.len_sR, jM.len_fI, jM.len_fL, jM.len_fR, *]; omega)) (by first | omega | (exact R.r _ _) | (simp only [jM.len_sI, jM.len_sL, jM.len_sR, jM.len_fI, jM.len_fL, jM.len_fR]; omega) | (simp [jM.len_nw, jM.len_sI, jM.len_sL, jM.len_sR, jM.len_fI, jM.len_fL, jM.len_fR, *]; omega)) ?_
                      exact mQ.of (by unfold sp_day; (repeat (first | rw [if_pos (by omega)] | rw [if_neg (by omega)]))))
                 · first
                   | (exfalso; omega)
                   | (refine J.iconst (pc' := 42) rfl rfl ?_
                      refine J.iret rfl rfl (by first | omega | (exact R.r _ _) | (simp only [jM.len_sI, jM.len_sL, jM.len_sR, jM.len_fI, jM.len_fL, jM.len_fR]; omega) | (simp [jM.len_nw, jM.len_sI, jM.len_sL, jM.len_sR, jM.len_fI, jM.len_fL, jM.len_fR, *]; omega)) (by first | omega | (exact R.r _ _) | (simp only [jM.len_sI, jM.len_sL, jM.len_sR, jM.len_fI, jM.len_fL, jM.len_fR]; omega) | (simp [jM.len_nw, jM.len_sI, jM.len_sL, jM.len_sR, jM.len_fI, jM.len_fL, jM.len_fR, *]; omega)) ?_
                      exact mQ.of (by unfold sp_day; (repeat (first | rw [if_pos (by omega)] | rw [if_neg (by omega)])))))
            · first
              | (exfalso; omega)
              | (refine J.iconst (pc' := 30) rfl rfl ?_
                 refine J.goto (tgt := 34) rfl rfl ?_
                 refine J.iconst (pc' := 35) rfl rfl ?_
                 first | refine J.callV (pc' := 38) (t := 16) rfl MX12_may ml_X12_161 iv_X12_may (by decide) ⟨_, rfl, rfl⟩ B.1 (cm_may1 B h0) rfl rfl (Nat.le_of_ble_eq_true rfl) (by first | omega | (exact R.r _ _) | (simp only [jM.len_sI, jM.len_sL, jM.len_sR, jM.len_fI, jM.len_fL, jM.len_fR]; omega) | (simp [jM.len_nw, jM.len_sI, jM.len_sL, jM.len_sR, jM.len_fI, jM.len_fL, jM.len_fR, *]; omega)) (by first | omega | (exact R.r _ _) | (simp only [jM.len_sI, jM.len_sL, jM.len_sR, jM.len_fI, jM.len_fL, jM.len_fR]; omega) | (simp [jM.len_nw, jM.len_sI, jM.len_sL, jM.len_sR, jM.len_fI, jM.len_fL, jM.len_fR, *]; omega)) (by first | omega | (exact R.r _ _) | (simp only [jM.len_sI, jM.len_sL, jM.len_sR, jM.len_fI, jM.len_fL, jM.len_fR]; omega) | (simp [jM.len_nw, jM.len_sI, jM.len_sL, jM.len_sR, jM.len_fI, jM.len_fL, jM.len_fR, *]; omega)) rfl rfl ?_ ?_ | refine J.callV (pc' := 38) (t := 16) rfl MX12_may ml_X12_161 iv_X12_may (by decide) ⟨_, rfl, rfl⟩ B.1 (cm_may0 B h0 (by omega)) rfl rfl (Nat.le_of_ble_eq_true rfl) (by first | omega | (exact R.r _ _) | (simp only [jM.len_sI, jM.len_sL, jM.len_sR, jM.len_fI, jM.len_fL, jM.len_fR]; omega) | (simp [jM.len_nw, jM.len_sI, jM.len_sL, jM.len_sR, jM.len_fI, jM.len_fL, jM.len_fR, *]; omega)) (by first | omega | (exact R.r _ _) | (simp only [jM.len_sI, jM.len_sL, jM.len_sR, jM.len_fI, jM.len_fL, jM.len_fR]; omega) | (simp [jM.len_nw, jM.len_sI, jM.len_sL, jM.len_sR, jM.len_fI, jM.len_fL, jM.len_fR, *]; omega)) (by first | omega | (exact R.r _ _) | (simp only [jM.len_sI, jM.len_sL, jM.len_sR, jM.len_fI, jM.len_fL, jM.len_fR]; omega) | (simp [jM.len_nw, jM.len_sI, jM.len_sL, jM.len_sR, jM.len_fI, jM.len_fL, jM.len_fR, *]; omega)) rfl rfl ?_ ?_
                 · exact fun _ _ h => h
                 rintro _ _ ⟨rfl, rfl⟩
                 refine J.if_ne (tgt := 43) (pc' := 41) rfl rfl rfl (by first | omega | (exact R.r _ _) | (simp only [jM.len_sI, jM.len_sL, jM.len_sR, jM.len_fI, jM.len_fL, jM.len_fR]; omega) | (simp [jM.len_nw, jM.len_sI, jM.len_sL, jM.len_sR, jM.len_fI, jM.len_fL, jM.len_fR, *]; omega)) (fun c38 => ?_) (fun c38 => ?_)
                 · first
                   | (exfalso; omega)
                   | (first | refine J.aload_n (pc' := 44) rfl rfl rfl ?_ | refine J.aload_nN (pc' := 44) rfl rfl rfl ?_
                      refine J.dup (pc' := 45) rfl rfl rfl ?_
                      refine J.mgI (pc' := 48) (j := 3) B rfl fl_X12_283 rfl rfl rfl ?_
                      refine J.iload_n (pc' := 49) rfl rfl rfl ?_
                      refine J.iadd (pc' := 50) rfl rfl ?_
                      refine J.mpI (pc' := 53) (j := 3) B rfl fl_X12_283 rfl rfl rfl rfl ?_
                      first | refine J.aload_n (pc' := 54) rfl rfl rfl ?_ | refine J.aload_nN (pc' := 54) rfl rfl rfl ?_
                      refine J.mgI (pc' := 57) (j := 3) B rfl fl_X12_283 rfl rfl rfl ?_
                      rw [jU_same]
                      refine J.iret rfl rfl (by first | omega | (exact R.r _ _) | (simp only [jM.len_sI, jM.len_sL, jM.len_sR, jM.len_fI, jM.len_fL, jM.len_fR]; omega) | (simp [jM.len_nw, jM.len_sI, jM.len_sL, jM.len_sR, jM.len_fI, jM.len_fL, jM.len_fR, *]; omega)) (by first | omega | (exact R.r _ _) | (simp only [jM.len_sI, jM.len_sL, jM.len_sR, jM.len_fI, jM.len_fL, jM.len_fR]; omega) | (simp [jM.len_nw, jM.len_sI, jM.len_sL, jM.len_sR, jM.len_fI, jM.len_fL, jM.len_fR, *]; omega)) ?_
                      exact mQ.of (by unfold sp_day; (repeat (first | rw [if_pos (by omega)] | rw [if_neg (by omega)]))))
                 · first
                   | (exfalso; omega)
                   | (refine J.iconst (pc' := 42) rfl rfl ?_
                      refine J.iret rfl rfl (by first | omega | (exact R.r _ _) | (simp only [jM.len_sI, jM.len_sL, jM.len_sR, jM.len_fI, jM.len_fL, jM.len_fR]; omega) | (simp [jM.len_nw, jM.len_sI, jM.len_sL, jM.len_sR, jM.len_fI, jM.len_fL, jM.len_fR, *]; omega)) (by first | omega | (exact R.r _ _) | (simp only [jM.len_sI, jM.len_sL, jM.len_sR, jM.len_fI, jM.len_fL, jM.len_fR]; omega) | (simp [jM.len_nw, jM.len_sI, jM.len_sL, jM.len_sR, jM.len_fI, jM.len_fL, jM.len_fR, *]; omega)) ?_
                      exact mQ.of (by unfold sp_day; (repeat (first | rw [if_pos (by omega)] | rw [if_neg (by omega)])))))))
theorem cm_portions {i : Int} (B : isB β) (R : isR V) (hi : r32 i) : CT γ mX12_portions 2 0 0 [.ref (β.2 16), .int (jI i)] (jP β V) (mQ β (sp_portions (jU V 16 0 0) i)) X0 := by
  refine CT.of MX12_portions (Nat.le_of_ble_eq_true rfl) ?_
  show J γ mX12_portions 2 0 0 0 0 (jP β V) 0 [(0, .ref (β.2 16)), (1, .int (jI i))] [] _ _
  first | refine J.aload_n (pc' := 1) rfl rfl rfl ?_ | refine J.aload_nN (pc' := 1) rfl rfl rfl ?_
  refine J.iconst (pc' := 2) rfl rfl ?_
  refine J.mpI (pc' := 5) (j := 0) B rfl fl_X12_1 rfl rfl rfl rfl ?_
  have h0 := jU_same V 16 0 0
  replace R : isR (jU V 16 0 0) := R.up (fun _ => by decide)
  generalize jU V 16 0 0 = V at h0 R ⊢
  have hf := R.f
  first | refine J.aload_n (pc' := 6) rfl rfl rfl ?_ | refine J.aload_nN (pc' := 6) rfl rfl rfl ?_
  refine J.iload_n (pc' := 7) rfl rfl rfl ?_
  refine J.callV (pc' := 10) (t := 16) rfl MX12_isMelt ml_X12_331 iv_X12_isMelt (by decide) ⟨_, rfl, rfl⟩ B.1 (cm_isMelt B R h0 hi) rfl rfl (Nat.le_of_ble_eq_true rfl) (by first | omega | (exact R.r _ _) | (simp only [jM.len_sI, jM.len_sL, jM.len_sR, jM.len_fI, jM.len_fL, jM.len_fR]; omega) | (simp [jM.len_nw, jM.len_sI, jM.len_sL, jM.len_sR, jM.len_fI, jM.len_fL, jM.len_fR, *]; omega)) (by first | omega | (exact R.r _ _) | (simp only [jM.len_sI, jM.len_sL, jM.len_sR, jM.len_fI, jM.len_fL, jM.len_fR]; omega) | (simp [jM.len_nw, jM.len_sI, jM.len_sL, jM.len_sR, jM.len_fI, jM.len_fL, jM.len_fR, *]; omega)) (by first | omega | (exact R.r _ _) | (simp only [jM.len_sI, jM.len_sL, jM.len_sR, jM.len_fI, jM.len_fL, jM.len_fR]; omega) | (simp [jM.len_nw, jM.len_sI, jM.len_sL, jM.len_sR, jM.len_fI, jM.len_fL, jM.len_fR, *]; omega)) rfl rfl ?_ ?_
  · exact fun _ _ h => h
  rintro _ _ ⟨b, hb, rfl⟩
  rcases hb with ⟨rfl, hb, rfl⟩ | ⟨rfl, hb, rfl⟩
  · first
    | (exfalso; omega)
    | (refine J.if_eq (tgt := 22) (pc' := 13) rfl rfl rfl (by first | omega | (exact R.r _ _) | (simp only [jM.len_sI, jM.len_sL, jM.len_sR, jM.len_fI, jM.len_fL, jM.len_fR]; omega) | (simp [jM.len_nw, jM.len_sI, jM.len_sL, jM.len_sR, jM.len_fI, jM.len_fL, jM.len_fR, *]; omega)) (fun c10 => ?_) (fun c10 => ?_)
       · first
         | (exfalso; omega)
         | (refine J.iconst (pc' := 23) rfl rfl ?_
            refine J.iret rfl rfl (by first | omega | (exact R.r _ _) | (simp only [jM.len_sI, jM.len_sL, jM.len_sR, jM.len_fI, jM.len_fL, jM.len_fR]; omega) | (simp [jM.len_nw, jM.len_sI, jM.len_sL, jM.len_sR, jM.len_fI, jM.len_fL, jM.len_fR, *]; omega)) (by first | omega | (exact R.r _ _) | (simp only [jM.len_sI, jM.len_sL, jM.len_sR, jM.len_fI, jM.len_fL, jM.len_fR]; omega) | (simp [jM.len_nw, jM.len_sI, jM.len_sL, jM.len_sR, jM.len_fI, jM.len_fL, jM.len_fR, *]; omega)) ?_
            exact mQ.of (by unfold sp_portions; (repeat (first | rw [if_pos (by omega)] | rw [if_neg (by omega)]))))
       · first
         | (exfalso; omega)
         | (first | refine J.aload_n (pc' := 14) rfl rfl rfl ?_ | refine J.aload_nN (pc' := 14) rfl rfl rfl ?_
            refine J.mgR (pc' := 17) (t := 153) B rfl fl_X12_133 rfl rfl (by decide) rfl ?_
            refine J.iload_n (pc' := 18) rfl rfl rfl ?_
            refine J.mald (pc' := 19) B rfl rfl rfl (by omega) (by simp only [jLn]; omega) rfl ?_
            refine J.goto (tgt := 23) rfl rfl ?_
            refine J.iret rfl rfl (by first | omega | (exact R.r _ _) | (simp only [jM.len_sI, jM.len_sL, jM.len_sR, jM.len_fI, jM.len_fL, jM.len_fR]; omega) | (simp [jM.len_nw, jM.len_sI, jM.len_sL, jM.len_sR, jM.len_fI, jM.len_fL, jM.len_fR, *]; omega)) (by first | omega | (exact R.r _ _) | (simp only [jM.len_sI, jM.len_sL, jM.len_sR, jM.len_fI, jM.len_fL, jM.len_fR]; omega) | (simp [jM.len_nw, jM.len_sI, jM.len_sL, jM.len_sR, jM.len_fI, jM.len_fL, jM.len_fR, *]; omega)) ?_
            exact mQ.of (by unfold sp_portions; (repeat (first | rw [if_pos (by omega)] | rw [if_neg (by omega)])))))
  · first
    | (exfalso; omega)
    | (refine J.if_eq (tgt := 22) (pc' := 13) rfl rfl rfl (by first | omega | (exact R.r _ _) | (simp only [jM.len_sI, jM.len_sL, jM.len_sR, jM.len_fI, jM.len_fL, jM.len_fR]; omega) | (simp [jM.len_nw, jM.len_sI, jM.len_sL, jM.len_sR, jM.len_fI, jM.len_fL, jM.len_fR, *]; omega)) (fun c10 => ?_) (fun c10 => ?_)
       · first
         | (exfalso; omega)
         | (refine J.iconst (pc' := 23) rfl rfl ?_
            refine J.iret rfl rfl (by first | omega | (exact R.r _ _) | (simp only [jM.len_sI, jM.len_sL, jM.len_sR, jM.len_fI, jM.len_fL, jM.len_fR]; omega) | (simp [jM.len_nw, jM.len_sI, jM.len_sL, jM.len_sR, jM.len_fI, jM.len_fL, jM.len_fR, *]; omega)) (by first | omega | (exact R.r _ _) | (simp only [jM.len_sI, jM.len_sL, jM.len_sR, jM.len_fI, jM.len_fL, jM.len_fR]; omega) | (simp [jM.len_nw, jM.len_sI, jM.len_sL, jM.len_sR, jM.len_fI, jM.len_fL, jM.len_fR, *]; omega)) ?_
            exact mQ.of (by unfold sp_portions; (repeat (first | rw [if_pos (by omega)] | rw [if_neg (by omega)]))))
       · first
         | (exfalso; omega)
         | (first | refine J.aload_n (pc' := 14) rfl rfl rfl ?_ | refine J.aload_nN (pc' := 14) rfl rfl rfl ?_
            refine J.mgR (pc' := 17) (t := 153) B rfl fl_X12_133 rfl rfl (by decide) rfl ?_
            refine J.iload_n (pc' := 18) rfl rfl rfl ?_
            refine J.mald (pc' := 19) B rfl rfl rfl (by omega) (by simp only [jLn]; omega) rfl ?_
            refine J.goto (tgt := 23) rfl rfl ?_
            refine J.iret rfl rfl (by first | omega | (exact R.r _ _) | (simp only [jM.len_sI, jM.len_sL, jM.len_sR, jM.len_fI, jM.len_fL, jM.len_fR]; omega) | (simp [jM.len_nw, jM.len_sI, jM.len_sL, jM.len_sR, jM.len_fI, jM.len_fL, jM.len_fR, *]; omega)) (by first | omega | (exact R.r _ _) | (simp only [jM.len_sI, jM.len_sL, jM.len_sR, jM.len_fI, jM.len_fL, jM.len_fR]; omega) | (simp [jM.len_nw, jM.len_sI, jM.len_sL, jM.len_sR, jM.len_fI, jM.len_fL, jM.len_fR, *]; omega)) ?_
            exact mQ.of (by unfold sp_portions; (repeat (first | rw [if_pos (by omega)] | rw [if_neg (by omega)])))))
end M2

