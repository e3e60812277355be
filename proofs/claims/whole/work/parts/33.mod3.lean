def kdV (V : VV) (m : Int) : VV := fun t i => if (t = 104 ∨ t = 105) ∧ 5 * V 16 1 ≤ i ∧ i < 5 * V 16 1 + m then (if t = 104 then 0 else 10000) else V t i
def sp_kind (V : VV) : RV := if V 16 1 = 10 then (-1, V) else (V 16 1 + 1 - 1, jU (kdV V 5) 16 1 (V 16 1 + 1))
def toldV (V : VV) (l w : Int) : Int := if w = 0 then V 127 l else if w = 1 then V 128 l else if w = 2 then V 129 l else if w = 3 then V 130 l else if w = 4 then V 132 l else if w = 5 then V 133 l else if w % 2 = 0 then V 134 (5 * l + (w - 6) / 2) else V 135 (5 * l + (w - 6) / 2)
def sp_told (V : VV) (l w : Int) : RV := if 0 ≤ l ∧ l < V 16 26 then (if 0 ≤ w ∧ w < 16 then (toldV V l w, V) else (0, jU V 16 0 2)) else (0, jU V 16 0 1)
def lowL (V : VV) (y m : Int) : Int := if V 140 y = -1 then V 142 (5 * y + m) else V 134 (5 * V 140 y + m)
def highL (V : VV) (y m : Int) : Int := if V 140 y = -1 then V 143 (5 * y + m) else V 135 (5 * V 140 y + m)
def layV (V : VV) (y w : Int) : Int := if w = 0 then V 139 y else if w = 1 then V 140 y else if w = 2 then V 141 y else if w % 2 = 1 then lowL V y ((w - 3) / 2) else highL V y ((w - 3) / 2)
def sp_layer (V : VV) (g k w : Int) : RV := if 0 ≤ g ∧ g < 6 then (if 0 ≤ k ∧ k < V 138 g then (if 0 ≤ w ∧ w < 13 then (layV V (41 * g + V 138 g - 1 - k) w, V) else (0, jU V 16 0 1)) else (0, jU V 16 0 2)) else (0, jU V 16 0 1)
def porV (V : VV) (p w : Int) : Int := if w = 0 then V 154 p else if w = 1 then V 155 p else if w % 2 = 0 then V 156 (5 * p + (w - 2) / 2) else V 157 (5 * p + (w - 2) / 2)
def sp_portion (V : VV) (i k w : Int) : RV := if 0 ≤ i ∧ i < V 16 52 then (if 0 ≤ k ∧ k < V 153 i then (if 0 ≤ w ∧ w < 12 then (porV V (20 * i + k) w, V) else (0, jU V 16 0 2)) else (0, jU V 16 0 1)) else (0, jU V 16 0 1)
def tonsP (V : VV) (i : Int) : Int := Sm (fun p => V 154 (20 * i + p)) (V 153 i).toNat
def cntV (V : VV) (w : Int) : Int := if w = 0 then V 16 1 else if w = 1 then V 16 2 else if w = 2 then V 16 11 else if w = 3 then V 16 26 else if w = 4 then layAll V else if w = 5 then V 16 52 else if w = 6 then Sm (fun h => tonsOf V h) 6 else if w = 7 then Sm (fun k => tonsP V k) (V 16 52).toNat else if w = 8 then V 16 10 else -1
def sp_count (V : VV) (w : Int) : RV := (cntV V w, V)
/-- a layer is put on heap g -/
def putA (V : VV) (g n l c : Int) : VV := jU (jU (jU V 139 (41 * g + V 138 g) n) 140 (41 * g + V 138 g) l) 141 (41 * g + V 138 g) c
def putC (V : VV) (y like m : Int) : VV := fun t i => if (t = 142 ∨ t = 143) ∧ 5 * y ≤ i ∧ i < 5 * y + m then V t (i - 5 * y + 5 * like) else V t i
def putV (V : VV) (g n l c like : Int) : VV := jU (if like = -1 then putA V g n l c else putC (putA V g n l c) (41 * g + V 138 g) like 5) 138 g (V 138 g + 1)
section M3
variable {γ : jG} {β : jB} {V : VV}
theorem cm_kind (B : isB β) (R : isR V) : CT γ mX12_kind 0 0 0 [.ref (β.2 16)] (jP β V) (mQ β (sp_kind (jU V 16 0 0))) X0 := by
  refine CT.of MX12_kind (Nat.le_of_ble_eq_true rfl) ?_
  show J γ mX12_kind 0 0 0 0 0 (jP β V) 0 [(0, .ref (β.2 16))] [] _ _
  first | refine J.aload_n (pc' := 1) rfl rfl rfl ?_ | refine J.aload_nN (pc' := 1) rfl rfl rfl ?_
  refine J.iconst (pc' := 2) rfl rfl ?_
  refine J.mpI (pc' := 5) (j := 0) B rfl fl_X12_1 rfl rfl rfl rfl ?_
  have h0 := jU_same V 16 0 0
  replace R : isR (jU V 16 0 0) := R.up (fun _ => by decide)
  generalize jU V 16 0 0 = V at h0 R ⊢
  have hf := R.f
  have key : ¬ V 16 1 = 10 → ∀ (n i : Nat), i + n = 5 → J γ mX12_kind 0 0 0 0 0 (jP β (kdV V i)) 18 [(0, .ref (β.2 16)), (1, .int (jI (i : Int)))] [] (mQ β (sp_kind V)) X0 := by
    intro hk n
    induction n with
    | zero =>
      intro i hi
      have e : (kdV V i) 16 1 = V 16 1 := if_neg (by omega)
      refine J.iload_n (pc' := 19) rfl rfl rfl ?_
      refine J.iconst (pc' := 20) rfl rfl ?_
      refine J.icmp_ge (tgt := 59) (pc' := 23) rfl rfl rfl (by first | omega | (exact R.r _ _) | (simp only [jM.len_sI, jM.len_sL, jM.len_sR, jM.len_fI, jM.len_fL, jM.len_fR]; omega) | (simp [jM.len_nw, jM.len_sI, jM.len_sL, jM.len_sR, jM.len_fI, jM.len_fL, jM.len_fR, *]; omega)) (by first | omega | (exact R.r _ _) | (simp only [jM.len_sI, jM.len_sL, jM.len_sR, jM.len_fI, jM.len_fL, jM.len_fR]; omega) | (simp [jM.len_nw, jM.len_sI, jM.len_sL, jM.len_sR, jM.len_fI, jM.len_fL, jM.len_fR, *]; omega)) (fun c20 => ?_) (fun c20 => ?_)
      · first
        | (exfalso; omega)
        | (first | refine J.aload_n (pc' := 60) rfl rfl rfl ?_ | refine J.aload_nN (pc' := 60) rfl rfl rfl ?_
           refine J.dup (pc' := 61) rfl rfl rfl ?_
           refine J.mgI (pc' := 64) (j := 1) B rfl fl_X12_154 rfl rfl rfl ?_
           rw [e]
           refine J.iconst (pc' := 65) rfl rfl ?_
           refine J.iadd (pc' := 66) rfl rfl ?_
           refine J.mpI (pc' := 69) (j := 1) B rfl fl_X12_154 rfl rfl rfl rfl ?_
           first | refine J.aload_n (pc' := 70) rfl rfl rfl ?_ | refine J.aload_nN (pc' := 70) rfl rfl rfl ?_
           refine J.mgI (pc' := 73) (j := 1) B rfl fl_X12_154 rfl rfl rfl ?_
           rw [jU_same]
           refine J.iconst (pc' := 74) rfl rfl ?_
           refine J.isub (pc' := 75) rfl rfl ?_
           refine J.iret rfl rfl (by first | omega | (exact R.r _ _) | (simp only [jM.len_sI, jM.len_sL, jM.len_sR, jM.len_fI, jM.len_fL, jM.len_fR]; omega) | (simp [jM.len_nw, jM.len_sI, jM.len_sL, jM.len_sR, jM.len_fI, jM.len_fL, jM.len_fR, *]; omega)) (by first | omega | (exact R.r _ _) | (simp only [jM.len_sI, jM.len_sL, jM.len_sR, jM.len_fI, jM.len_fL, jM.len_fR]; omega) | (simp [jM.len_nw, jM.len_sI, jM.len_sL, jM.len_sR, jM.len_fI, jM.len_fL, jM.len_fR, *]; omega)) ?_
           exact mQ.of (by unfold sp_kind; rw [if_neg hk, show i = 5 by omega]; rfl))
      · first
        | (exfalso; omega)
        | (first | refine J.aload_n (pc' := 24) rfl rfl rfl ?_ | refine J.aload_nN (pc' := 24) rfl rfl rfl ?_
           refine J.mgR (pc' := 27) (t := 104) B rfl fl_X12_13 rfl rfl (by decide) rfl ?_
           refine J.iconst (pc' := 28) rfl rfl ?_
           first | refine J.aload_n (pc' := 29) rfl rfl rfl ?_ | refine J.aload_nN (pc' := 29) rfl rfl rfl ?_
           refine J.mgI (pc' := 32) (j := 1) B rfl fl_X12_154 rfl rfl rfl ?_
           refine J.imul (pc' := 33) rfl rfl ?_
           refine J.iload_n (pc' := 34) rfl rfl rfl ?_
           refine J.iadd (pc' := 35) rfl rfl ?_
           refine J.iconst (pc' := 36) rfl rfl ?_
           refine J.mast (pc' := 37) B rfl rfl rfl rfl (by omega) (by simp only [jLn]; omega) rfl ?_
           first | refine J.aload_n (pc' := 38) rfl rfl rfl ?_ | refine J.aload_nN (pc' := 38) rfl rfl rfl ?_
           refine J.mgR (pc' := 41) (t := 105) B rfl fl_X12_17 rfl rfl (by decide) rfl ?_
           refine J.iconst (pc' := 42) rfl rfl ?_
           first | refine J.aload_n (pc' := 43) rfl rfl rfl ?_ | refine J.aload_nN (pc' := 43) rfl rfl rfl ?_
           refine J.mgI (pc' := 46) (j := 1) B rfl fl_X12_154 rfl rfl rfl ?_
           refine J.imul (pc' := 47) rfl rfl ?_
           refine J.iload_n (pc' := 48) rfl rfl rfl ?_
           refine J.iadd (pc' := 49) rfl rfl ?_
           refine J.sipush (pc' := 52) rfl rfl (by decide) ?_
           refine J.mast (pc' := 53) B rfl rfl rfl rfl (by omega) (by simp only [jLn]; omega) rfl ?_
           refine J.iinc (pc' := 56) rfl rfl rfl (by decide) ?_
           refine J.goto (tgt := 18) rfl rfl ?_
           exfalso
           omega)
    | succ n ih =>
      intro i hi
      have e : (kdV V i) 16 1 = V 16 1 := if_neg (by omega)
      have h9 := ih (i + 1) (by omega)
      rw [show ((i + 1 : Nat) : Int) = (i : Int) + 1 by omega] at h9
      refine J.iload_n (pc' := 19) rfl rfl rfl ?_
      refine J.iconst (pc' := 20) rfl rfl ?_
      refine J.icmp_ge (tgt := 59) (pc' := 23) rfl rfl rfl (by first | omega | (exact R.r _ _) | (simp only [jM.len_sI, jM.len_sL, jM.len_sR, jM.len_fI, jM.len_fL, jM.len_fR]; omega) | (simp [jM.len_nw, jM.len_sI, jM.len_sL, jM.len_sR, jM.len_fI, jM.len_fL, jM.len_fR, *]; omega)) (by first | omega | (exact R.r _ _) | (simp only [jM.len_sI, jM.len_sL, jM.len_sR, jM.len_fI, jM.len_fL, jM.len_fR]; omega) | (simp [jM.len_nw, jM.len_sI, jM.len_sL, jM.len_sR, jM.len_fI, jM.len_fL, jM.len_fR, *]; omega)) (fun c20 => ?_) (fun c20 => ?_)
      · first
        | (exfalso; omega)
        | (first | refine J.aload_n (pc' := 60) rfl rfl rfl ?_ | refine J.aload_nN (pc' := 60) rfl rfl rfl ?_
           refine J.dup (pc' := 61) rfl rfl rfl ?_
           refine J.mgI (pc' := 64) (j := 1) B rfl fl_X12_154 rfl rfl rfl ?_
           refine J.iconst (pc' := 65) rfl rfl ?_
           refine J.iadd (pc' := 66) rfl rfl ?_
           refine J.mpI (pc' := 69) (j := 1) B rfl fl_X12_154 rfl rfl rfl rfl ?_
           first | refine J.aload_n (pc' := 70) rfl rfl rfl ?_ | refine J.aload_nN (pc' := 70) rfl rfl rfl ?_
           refine J.mgI (pc' := 73) (j := 1) B rfl fl_X12_154 rfl rfl rfl ?_
           refine J.iconst (pc' := 74) rfl rfl ?_
           refine J.isub (pc' := 75) rfl rfl ?_
           refine J.iret rfl rfl (by first | omega | (exact R.r _ _) | (simp only [jM.len_sI, jM.len_sL, jM.len_sR, jM.len_fI, jM.len_fL, jM.len_fR]; omega) | (simp [jM.len_nw, jM.len_sI, jM.len_sL, jM.len_sR, jM.len_fI, jM.len_fL, jM.len_fR, *]; omega)) (by first | omega | (exact R.r _ _) | (simp only [jM.len_sI, jM.len_sL, jM.len_sR, jM.len_fI, jM.len_fL, jM.len_fR]; omega) | (simp [jM.len_nw, jM.len_sI, jM.len_sL, jM.len_sR, jM.len_fI, jM.len_fL, jM.len_fR, *]; omega)) ?_
           exact ⟨rfl, rfl⟩)
      · first
        | (exfalso; omega)
        | (first | refine J.aload_n (pc' := 24) rfl rfl rfl ?_ | refine J.aload_nN (pc' := 24) rfl rfl rfl ?_
           refine J.mgR (pc' := 27) (t := 104) B rfl fl_X12_13 rfl rfl (by decide) rfl ?_
           refine J.iconst (pc' := 28) rfl rfl ?_
           first | refine J.aload_n (pc' := 29) rfl rfl rfl ?_ | refine J.aload_nN (pc' := 29) rfl rfl rfl ?_
           refine J.mgI (pc' := 32) (j := 1) B rfl fl_X12_154 rfl rfl rfl ?_
           rw [e]
           refine J.imul (pc' := 33) rfl rfl ?_
           refine J.iload_n (pc' := 34) rfl rfl rfl ?_
           refine J.iadd (pc' := 35) rfl rfl ?_
           refine J.iconst (pc' := 36) rfl rfl ?_
           refine J.mast (pc' := 37) B rfl rfl rfl rfl (by omega) (by simp only [jLn]; omega) rfl ?_
           first | refine J.aload_n (pc' := 38) rfl rfl rfl ?_ | refine J.aload_nN (pc' := 38) rfl rfl rfl ?_
           refine J.mgR (pc' := 41) (t := 105) B rfl fl_X12_17 rfl rfl (by decide) rfl ?_
           refine J.iconst (pc' := 42) rfl rfl ?_
           first | refine J.aload_n (pc' := 43) rfl rfl rfl ?_ | refine J.aload_nN (pc' := 43) rfl rfl rfl ?_
           refine J.mgI (pc' := 46) (j := 1) B rfl fl_X12_154 rfl rfl rfl ?_
           rw [jU_ne _ _ (Or.inl (by decide)), e]
           refine J.imul (pc' := 47) rfl rfl ?_
           refine J.iload_n (pc' := 48) rfl rfl rfl ?_
           refine J.iadd (pc' := 49) rfl rfl ?_
           refine J.sipush (pc' := 52) rfl rfl (by decide) ?_
           refine J.mast (pc' := 53) B rfl rfl rfl rfl (by omega) (by simp only [jLn]; omega) rfl ?_
           refine J.iinc (pc' := 56) rfl rfl rfl (by decide) ?_
           refine J.goto (tgt := 18) rfl rfl ?_
           refine (congrArg (fun W => J γ mX12_kind 0 0 0 0 0 (jP β W) 18 [(0, .ref (β.2 16)), (1, .int (jI ((i : Int) + 1)))] [] (mQ β (sp_kind V)) X0) ?_).mpr h9
           funext t j
           unfold jU kdV
           ((repeat' split) <;> first | rfl | omega | (exfalso; omega)))
  first | refine J.aload_n (pc' := 6) rfl rfl rfl ?_ | refine J.aload_nN (pc' := 6) rfl rfl rfl ?_
  refine J.mgI (pc' := 9) (j := 1) B rfl fl_X12_154 rfl rfl rfl ?_
  refine J.bipush (pc' := 11) rfl rfl (by decide) ?_
  refine J.icmp_ne (tgt := 16) (pc' := 14) rfl rfl rfl (by first | omega | (exact R.r _ _) | (simp only [jM.len_sI, jM.len_sL, jM.len_sR, jM.len_fI, jM.len_fL, jM.len_fR]; omega) | (simp [jM.len_nw, jM.len_sI, jM.len_sL, jM.len_sR, jM.len_fI, jM.len_fL, jM.len_fR, *]; omega)) (by first | omega | (exact R.r _ _) | (simp only [jM.len_sI, jM.len_sL, jM.len_sR, jM.len_fI, jM.len_fL, jM.len_fR]; omega) | (simp [jM.len_nw, jM.len_sI, jM.len_sL, jM.len_sR, jM.len_fI, jM.len_fL, jM.len_fR, *]; omega)) (fun c11 => ?_) (fun c11 => ?_)
  · first
    | (exfalso; omega)
    | (refine J.iconst (pc' := 17) rfl rfl ?_
       refine J.istore_n (pc' := 18) rfl rfl (by decide) ?_
       have h9 := key (by omega) 5 0 (by omega)
       rw [show kdV V ((0 : Nat) : Int) = V by funext t i; unfold kdV; rw [if_neg (by omega)]] at h9
       exact h9)
  · first
    | (exfalso; omega)
    | (refine J.iconst (pc' := 15) rfl rfl ?_
       refine J.iret rfl rfl (by first | omega | (exact R.r _ _) | (simp only [jM.len_sI, jM.len_sL, jM.len_sR, jM.len_fI, jM.len_fL, jM.len_fR]; omega) | (simp [jM.len_nw, jM.len_sI, jM.len_sL, jM.len_sR, jM.len_fI, jM.len_fL, jM.len_fR, *]; omega)) (by first | omega | (exact R.r _ _) | (simp only [jM.len_sI, jM.len_sL, jM.len_sR, jM.len_fI, jM.len_fL, jM.len_fR]; omega) | (simp [jM.len_nw, jM.len_sI, jM.len_sL, jM.len_sR, jM.len_fI, jM.len_fL, jM.len_fR, *]; omega)) ?_
       exact mQ.of (by unfold sp_kind; (repeat (first | rw [if_pos (by omega)] | rw [if_neg (by omega)]))))
theorem cm_told {l w : Int} (B : isB β) (R : isR V) (hl : r32 l) (hw : r32 w) : CT γ mX12_told 2 0 0 [.ref (β.2 16), .int (jI l), .int (jI w)] (jP β V) (mQ β (sp_told (jU V 16 0 0) l w)) X0 := by
  refine CT.of MX12_told (Nat.le_of_ble_eq_true rfl) ?_
  show J γ mX12_told 2 0 0 0 0 (jP β V) 0 [(0, .ref (β.2 16)), (1, .int (jI l)), (2, .int (jI w))] [] _ _
  first | refine J.aload_n (pc' := 1) rfl rfl rfl ?_ | refine J.aload_nN (pc' := 1) rfl rfl rfl ?_
  refine J.iconst (pc' := 2) rfl rfl ?_
  refine J.mpI (pc' := 5) (j := 0) B rfl fl_X12_1 rfl rfl rfl rfl ?_
  have h0 := jU_same V 16 0 0
  replace R : isR (jU V 16 0 0) := R.up (fun _ => by decide)
  generalize jU V 16 0 0 = V at h0 R ⊢
  have hf := R.f
  first | refine J.aload_n (pc' := 6) rfl rfl rfl ?_ | refine J.aload_nN (pc' := 6) rfl rfl rfl ?_
  refine J.iload_n (pc' := 7) rfl rfl rfl ?_
  refine J.callV (pc' := 10) (t := 16) rfl MX12_isLoad ml_X12_294 iv_X12_isLoad (by decide) ⟨_, rfl, rfl⟩ B.1 (cm_isLoad B R h0 hl) rfl rfl (Nat.le_of_ble_eq_true rfl) (by first | omega | (exact R.r _ _) | (simp only [jM.len_sI, jM.len_sL, jM.len_sR, jM.len_fI, jM.len_fL, jM.len_fR]; omega) | (simp [jM.len_nw, jM.len_sI, jM.len_sL, jM.len_sR, jM.len_fI, jM.len_fL, jM.len_fR, *]; omega)) (by first | omega | (exact R.r _ _) | (simp only [jM.len_sI, jM.len_sL, jM.len_sR, jM.len_fI, jM.len_fL, jM.len_fR]; omega) | (simp [jM.len_nw, jM.len_sI, jM.len_sL, jM.len_sR, jM.len_fI, jM.len_fL, jM.len_fR, *]; omega)) (by first | omega | (exact R.r _ _) | (simp only [jM.len_sI, jM.len_sL, jM.len_sR, jM.len_fI, jM.len_fL, jM.len_fR]; omega) | (simp [jM.len_nw, jM.len_sI, jM.len_sL, jM.len_sR, jM.len_fI, jM.len_fL, jM.len_fR, *]; omega)) rfl rfl ?_ ?_
  · exact fun _ _ h => h
  rintro _ _ ⟨b, hb, rfl⟩
  rcases hb with ⟨rfl, hb, rfl⟩ | ⟨rfl, hb, rfl⟩
  · first
    | (exfalso; omega)
    | (refine J.if_eq (tgt := 36) (pc' := 13) rfl rfl rfl (by first | omega | (exact R.r _ _) | (simp only [jM.len_sI, jM.len_sL, jM.len_sR, jM.len_fI, jM.len_fL, jM.len_fR]; omega) | (simp [jM.len_nw, jM.len_sI, jM.len_sL, jM.len_sR, jM.len_fI, jM.len_fL, jM.len_fR, *]; omega)) (fun c10 => ?_) (fun c10 => ?_)
       · first
         | (exfalso; omega)
         | (refine J.iconst (pc' := 37) rfl rfl ?_
            refine J.iret rfl rfl (by first | omega | (exact R.r _ _) | (simp only [jM.len_sI, jM.len_sL, jM.len_sR, jM.len_fI, jM.len_fL, jM.len_fR]; omega) | (simp [jM.len_nw, jM.len_sI, jM.len_sL, jM.len_sR, jM.len_fI, jM.len_fL, jM.len_fR, *]; omega)) (by first | omega | (exact R.r _ _) | (simp only [jM.len_sI, jM.len_sL, jM.len_sR, jM.len_fI, jM.len_fL, jM.len_fR]; omega) | (simp [jM.len_nw, jM.len_sI, jM.len_sL, jM.len_sR, jM.len_fI, jM.len_fL, jM.len_fR, *]; omega)) ?_
            exact mQ.of (by unfold sp_told toldV; (repeat (first | rw [if_pos (by omega)] | rw [if_neg (by omega)]))))
       · first
         | (exfalso; omega)
         | (first | refine J.aload_n (pc' := 14) rfl rfl rfl ?_ | refine J.aload_nN (pc' := 14) rfl rfl rfl ?_
            refine J.iload_n (pc' := 15) rfl rfl rfl ?_
            refine J.if_lt (tgt := 28) (pc' := 18) rfl rfl rfl (by first | omega | (exact R.r _ _) | (simp only [jM.len_sI, jM.len_sL, jM.len_sR, jM.len_fI, jM.len_fL, jM.len_fR]; omega) | (simp [jM.len_nw, jM.len_sI, jM.len_sL, jM.len_sR, jM.len_fI, jM.len_fL, jM.len_fR, *]; omega)) (fun c15 => ?_) (fun c15 => ?_)
            · first
              | (exfalso; omega)
              | (refine J.iconst (pc' := 29) rfl rfl ?_
                 refine J.iconst (pc' := 30) rfl rfl ?_
                 first | refine J.callV (pc' := 33) (t := 16) rfl MX12_may ml_X12_161 iv_X12_may (by decide) ⟨_, rfl, rfl⟩ B.1 (cm_may1 B h0) rfl rfl (Nat.le_of_ble_eq_true rfl) (by first | omega | (exact R.r _ _) | (simp only [jM.len_sI, jM.len_sL, jM.len_sR, jM.len_fI, jM.len_fL, jM.len_fR]; omega) | (simp [jM.len_nw, jM.len_sI, jM.len_sL, jM.len_sR, jM.len_fI, jM.len_fL, jM.len_fR, *]; omega)) (by first | omega | (exact R.r _ _) | (simp only [jM.len_sI, jM.len_sL, jM.len_sR, jM.len_fI, jM.len_fL, jM.len_fR]; omega) | (simp [jM.len_nw, jM.len_sI, jM.len_sL, jM.len_sR, jM.len_fI, jM.len_fL, jM.len_fR, *]; omega)) (by first | omega | (exact R.r _ _) | (simp only [jM.len_sI, jM.len_sL, jM.len_sR, jM.len_fI, jM.len_fL, jM.len_fR]; omega) | (simp [jM.len_nw, jM.len_sI, jM.len_sL, jM.len_sR, jM.len_fI, jM.len_fL, jM.len_fR, *]; omega)) rfl rfl ?_ ?_ | refine J.callV (pc' := 33) (t := 16) rfl MX12_may ml_X12_161 iv_X12_may (by decide) ⟨_, rfl, rfl⟩ B.1 (cm_may0 B h0 (by omega)) rfl rfl (Nat.le_of_ble_eq_true rfl) (by first | omega | (exact R.r _ _) | (simp only [jM.len_sI, jM.len_sL, jM.len_sR, jM.len_fI, jM.len_fL, jM.len_fR]; omega) | (simp [jM.len_nw, jM.len_sI, jM.len_sL, jM.len_sR, jM.len_fI, jM.len_fL, jM.len_fR, *]; omega)) (by first | omega | (exact R.r _ _) | (simp only [jM.len_sI, jM.len_sL, jM.len_sR, jM.len_fI, jM.len_fL, jM.len_fR]; omega) | (simp [jM.len_nw, jM.len_sI, jM.len_sL, jM.len_sR, jM.len_fI, jM.len_fL, jM.len_fR, *]; omega)) (by first | omega | (exact R.r _ _) | (simp only [jM.len_sI, jM.len_sL, jM.len_sR, jM.len_fI, jM.len_fL, jM.len_fR]; omega) | (simp [jM.len_nw, jM.len_sI, jM.len_sL, jM.len_sR, jM.len_fI, jM.len_fL, jM.len_fR, *]; omega)) rfl rfl ?_ ?_
                 · exact fun _ _ h => h
                 rintro _ _ ⟨rfl, rfl⟩
                 refine J.if_ne (tgt := 38) (pc' := 36) rfl rfl rfl (by first | omega | (exact R.r _ _) | (simp only [jM.len_sI, jM.len_sL, jM.len_sR, jM.len_fI, jM.len_fL, jM.len_fR]; omega) | (simp [jM.len_nw, jM.len_sI, jM.len_sL, jM.len_sR, jM.len_fI, jM.len_fL, jM.len_fR, *]; omega)) (fun c33 => ?_) (fun c33 => ?_)
                 · first
                   | (exfalso; omega)
                   | (refine J.iload_n (pc' := 39) rfl rfl rfl ?_
                      refine J.tsw (tgt := 118) (n := 6) (T := jNth [76, 83, 90, 97, 104, 111]) rfl (by first | omega | (exact R.r _ _) | (simp only [jM.len_sI, jM.len_sL, jM.len_sR, jM.len_fI, jM.len_fL, jM.len_fR]; omega) | (simp [jM.len_nw, jM.len_sI, jM.len_sL, jM.len_sR, jM.len_fI, jM.len_fL, jM.len_fR, *]; omega)) rfl rfl (fun k hk => by rcases k with _ | _ | _ | _ | _ | _ | k <;> first | exact ⟨_, rfl, rfl⟩ | omega) (fun c39 => ?_) (fun k39 hk39 c39 => ?_)
                      · first
                        | (exfalso; omega)
                        | (refine J.iload_n (pc' := 119) rfl rfl rfl ?_
                           refine J.iconst (pc' := 120) rfl rfl ?_
                           refine J.irem (pc' := 121) rfl rfl (by first | omega | (exact R.r _ _) | (simp only [jM.len_sI, jM.len_sL, jM.len_sR, jM.len_fI, jM.len_fL, jM.len_fR]; omega) | (simp [jM.len_nw, jM.len_sI, jM.len_sL, jM.len_sR, jM.len_fI, jM.len_fL, jM.len_fR, *]; omega)) (by first | omega | (exact R.r _ _) | (simp only [jM.len_sI, jM.len_sL, jM.len_sR, jM.len_fI, jM.len_fL, jM.len_fR]; omega) | (simp [jM.len_nw, jM.len_sI, jM.len_sL, jM.len_sR, jM.len_fI, jM.len_fL, jM.len_fR, *]; omega)) (by first | omega | (exact R.r _ _) | (simp only [jM.len_sI, jM.len_sL, jM.len_sR, jM.len_fI, jM.len_fL, jM.len_fR]; omega) | (simp [jM.len_nw, jM.len_sI, jM.len_sL, jM.len_sR, jM.len_fI, jM.len_fL, jM.len_fR, *]; omega)) ?_
                           rw [Int.tmod_eq_emod_of_nonneg (by omega)]
                           refine J.if_ne (tgt := 142) (pc' := 124) rfl rfl rfl (by first | omega | (exact R.r _ _) | (simp only [jM.len_sI, jM.len_sL, jM.len_sR, jM.len_fI, jM.len_fL, jM.len_fR]; omega) | (simp [jM.len_nw, jM.len_sI, jM.len_sL, jM.len_sR, jM.len_fI, jM.len_fL, jM.len_fR, *]; omega)) (fun c121 => ?_) (fun c121 => ?_)
                           · first
                             | (exfalso; omega)
                             | (first | refine J.aload_n (pc' := 143) rfl rfl rfl ?_ | refine J.aload_nN (pc' := 143) rfl rfl rfl ?_
                                refine J.mgR (pc' := 146) (t := 135) B rfl fl_X12_88 rfl rfl (by decide) rfl ?_
                                refine J.iconst (pc' := 147) rfl rfl ?_
                                refine J.iload_n (pc' := 148) rfl rfl rfl ?_
                                refine J.imul (pc' := 149) rfl rfl ?_
                                refine J.iload_n (pc' := 150) rfl rfl rfl ?_
                                refine J.bipush (pc' := 152) rfl rfl (by decide) ?_
                                refine J.isub (pc' := 153) rfl rfl ?_
                                refine J.iconst (pc' := 154) rfl rfl ?_
                                refine J.idiv (pc' := 155) rfl rfl (by first | omega | (exact R.r _ _) | (simp only [jM.len_sI, jM.len_sL, jM.len_sR, jM.len_fI, jM.len_fL, jM.len_fR]; omega) | (simp [jM.len_nw, jM.len_sI, jM.len_sL, jM.len_sR, jM.len_fI, jM.len_fL, jM.len_fR, *]; omega)) (by first | omega | (exact R.r _ _) | (simp only [jM.len_sI, jM.len_sL, jM.len_sR, jM.len_fI, jM.len_fL, jM.len_fR]; omega) | (simp [jM.len_nw, jM.len_sI, jM.len_sL, jM.len_sR, jM.len_fI, jM.len_fL, jM.len_fR, *]; omega)) (by first | omega | (exact R.r _ _) | (simp only [jM.len_sI, jM.len_sL, jM.len_sR, jM.len_fI, jM.len_fL, jM.len_fR]; omega) | (simp [jM.len_nw, jM.len_sI, jM.len_sL, jM.len_sR, jM.len_fI, jM.len_fL, jM.len_fR, *]; omega)) ?_
                                rw [Int.tdiv_eq_ediv_of_nonneg (by omega)]
                                refine J.iadd (pc' := 156) rfl rfl ?_
                                refine J.mald (pc' := 157) B rfl rfl rfl (by omega) (by simp only [jLn]; omega) rfl ?_
                                refine J.iret rfl rfl (by first | omega | (exact R.r _ _) | (simp only [jM.len_sI, jM.len_sL, jM.len_sR, jM.len_fI, jM.len_fL, jM.len_fR]; omega) | (simp [jM.len_nw, jM.len_sI, jM.len_sL, jM.len_sR, jM.len_fI, jM.len_fL, jM.len_fR, *]; omega)) (by first | omega | (exact R.r _ _) | (simp only [jM.len_sI, jM.len_sL, jM.len_sR, jM.len_fI, jM.len_fL, jM.len_fR]; omega) | (simp [jM.len_nw, jM.len_sI, jM.len_sL, jM.len_sR, jM.len_fI, jM.len_fL, jM.len_fR, *]; omega)) ?_
                                exact mQ.of (by unfold sp_told toldV; (repeat (first | rw [if_pos (by omega)] | rw [if_neg (by omega)]))))
                           · first
                             | (exfalso; omega)
                             | (first | refine J.aload_n (pc' := 125) rfl rfl rfl ?_ | refine J.aload_nN (pc' := 125) rfl rfl rfl ?_
                                refine J.mgR (pc' := 128) (t := 134) B rfl fl_X12_85 rfl rfl (by decide) rfl ?_
                                refine J.iconst (pc' := 129) rfl rfl ?_
                                refine J.iload_n (pc' := 130) rfl rfl rfl ?_
                                refine J.imul (pc' := 131) rfl rfl ?_
                                refine J.iload_n (pc' := 132) rfl rfl rfl ?_
                                refine J.bipush (pc' := 134) rfl rfl (by decide) ?_
                                refine J.isub (pc' := 135) rfl rfl ?_
                                refine J.iconst (pc' := 136) rfl rfl ?_
                                refine J.idiv (pc' := 137) rfl rfl (by first | omega | (exact R.r _ _) | (simp only [jM.len_sI, jM.len_sL, jM.len_sR, jM.len_fI, jM.len_fL, jM.len_fR]; omega) | (simp [jM.len_nw, jM.len_sI, jM.len_sL, jM.len_sR, jM.len_fI, jM.len_fL, jM.len_fR, *]; omega)) (by first | omega | (exact R.r _ _) | (simp only [jM.len_sI, jM.len_sL, jM.len_sR, jM.len_fI, jM.len_fL, jM.len_fR]; omega) | (simp [jM.len_nw, jM.len_sI, jM.len_sL, jM.len_sR, jM.len_fI, jM.len_fL, jM.len_fR, *]; omega)) (by first | omega | (exact R.r _ _) | (simp only [jM.len_sI, jM.len_sL, jM.len_sR, jM.len_fI, jM.len_fL, jM.len_fR]; omega) | (simp [jM.len_nw, jM.len_sI, jM.len_sL, jM.len_sR, jM.len_fI, jM.len_fL, jM.len_fR, *]; omega)) ?_
                                rw [Int.tdiv_eq_ediv_of_nonneg (by omega)]
                                refine J.iadd (pc' := 138) rfl rfl ?_
                                refine J.mald (pc' := 139) B rfl rfl rfl (by omega) (by simp only [jLn]; omega) rfl ?_
                                refine J.goto (tgt := 157) rfl rfl ?_
                                refine J.iret rfl rfl (by first | omega | (exact R.r _ _) | (simp only [jM.len_sI, jM.len_sL, jM.len_sR, jM.len_fI, jM.len_fL, jM.len_fR]; omega) | (simp [jM.len_nw, jM.len_sI, jM.len_sL, jM.len_sR, jM.len_fI, jM.len_fL, jM.len_fR, *]; omega)) (by first | omega | (exact R.r _ _) | (simp only [jM.len_sI, jM.len_sL, jM.len_sR, jM.len_fI, jM.len_fL, jM.len_fR]; omega) | (simp [jM.len_nw, jM.len_sI, jM.len_sL, jM.len_sR, jM.len_fI, jM.len_fL, jM.len_fR, *]; omega)) ?_
                                exact mQ.of (by unfold sp_told toldV; (repeat (first | rw [if_pos (by omega)] | rw [if_neg (by omega)])))))
                      rcases k39 with _ | _ | _ | _ | _ | _ | k39
                      · first
                        | (exfalso; omega)
                        | (first | refine J.aload_n (pc' := 77) rfl rfl rfl ?_ | refine J.aload_nN (pc' := 77) rfl rfl rfl ?_
                           refine J.mgR (pc' := 80) (t := 127) B rfl fl_X12_64 rfl rfl (by decide) rfl ?_
                           refine J.iload_n (pc' := 81) rfl rfl rfl ?_
                           refine J.mald (pc' := 82) B rfl rfl rfl (by omega) (by simp only [jLn]; omega) rfl ?_
                           refine J.iret rfl rfl (by first | omega | (exact R.r _ _) | (simp only [jM.len_sI, jM.len_sL, jM.len_sR, jM.len_fI, jM.len_fL, jM.len_fR]; omega) | (simp [jM.len_nw, jM.len_sI, jM.len_sL, jM.len_sR, jM.len_fI, jM.len_fL, jM.len_fR, *]; omega)) (by first | omega | (exact R.r _ _) | (simp only [jM.len_sI, jM.len_sL, jM.len_sR, jM.len_fI, jM.len_fL, jM.len_fR]; omega) | (simp [jM.len_nw, jM.len_sI, jM.len_sL, jM.len_sR, jM.len_fI, jM.len_fL, jM.len_fR, *]; omega)) ?_
                           exact mQ.of (by unfold sp_told toldV; (repeat (first | rw [if_pos (by omega)] | rw [if_neg (by omega)]))))
                      · first
                        | (exfalso; omega)
                        | (first | refine J.aload_n (pc' := 84) rfl rfl rfl ?_ | refine J.aload_nN (pc' := 84) rfl rfl rfl ?_
                           refine J.mgR (pc' := 87) (t := 128) B rfl fl_X12_67 rfl rfl (by decide) rfl ?_
                           refine J.iload_n (pc' := 88) rfl rfl rfl ?_
                           refine J.mald (pc' := 89) B rfl rfl rfl (by omega) (by simp only [jLn]; omega) rfl ?_
                           refine J.iret rfl rfl (by first | omega | (exact R.r _ _) | (simp only [jM.len_sI, jM.len_sL, jM.len_sR, jM.len_fI, jM.len_fL, jM.len_fR]; omega) | (simp [jM.len_nw, jM.len_sI, jM.len_sL, jM.len_sR, jM.len_fI, jM.len_fL, jM.len_fR, *]; omega)) (by first | omega | (exact R.r _ _) | (simp only [jM.len_sI, jM.len_sL, jM.len_sR, jM.len_fI, jM.len_fL, jM.len_fR]; omega) | (simp [jM.len_nw, jM.len_sI, jM.len_sL, jM.len_sR, jM.len_fI, jM.len_fL, jM.len_fR, *]; omega)) ?_
                           exact mQ.of (by unfold sp_told toldV; (repeat (first | rw [if_pos (by omega)] | rw [if_neg (by omega)]))))
                      · first
                        | (exfalso; omega)
                        | (first | refine J.aload_n (pc' := 91) rfl rfl rfl ?_ | refine J.aload_nN (pc' := 91) rfl rfl rfl ?_
                           refine J.mgR (pc' := 94) (t := 129) B rfl fl_X12_70 rfl rfl (by decide) rfl ?_
                           refine J.iload_n (pc' := 95) rfl rfl rfl ?_
                           refine J.mald (pc' := 96) B rfl rfl rfl (by omega) (by simp only [jLn]; omega) rfl ?_
                           refine J.iret rfl rfl (by first | omega | (exact R.r _ _) | (simp only [jM.len_sI, jM.len_sL, jM.len_sR, jM.len_fI, jM.len_fL, jM.len_fR]; omega) | (simp [jM.len_nw, jM.len_sI, jM.len_sL, jM.len_sR, jM.len_fI, jM.len_fL, jM.len_fR, *]; omega)) (by first | omega | (exact R.r _ _) | (simp only [jM.len_sI, jM.len_sL, jM.len_sR, jM.len_fI, jM.len_fL, jM.len_fR]; omega) | (simp [jM.len_nw, jM.len_sI, jM.len_sL, jM.len_sR, jM.len_fI, jM.len_fL, jM.len_fR, *]; omega)) ?_
                           exact mQ.of (by unfold sp_told toldV; (repeat (first | rw [if_pos (by omega)] | rw [if_neg (by omega)]))))
                      · first
                        | (exfalso; omega)
                        | (first | refine J.aload_n (pc' := 98) rfl rfl rfl ?_ | refine J.aload_nN (pc' := 98) rfl rfl rfl ?_
                           refine J.mgR (pc' := 101) (t := 130) B rfl fl_X12_73 rfl rfl (by decide) rfl ?_
                           refine J.iload_n (pc' := 102) rfl rfl rfl ?_
                           refine J.mald (pc' := 103) B rfl rfl rfl (by omega) (by simp only [jLn]; omega) rfl ?_
                           refine J.iret rfl rfl (by first | omega | (exact R.r _ _) | (simp only [jM.len_sI, jM.len_sL, jM.len_sR, jM.len_fI, jM.len_fL, jM.len_fR]; omega) | (simp [jM.len_nw, jM.len_sI, jM.len_sL, jM.len_sR, jM.len_fI, jM.len_fL, jM.len_fR, *]; omega)) (by first | omega | (exact R.r _ _) | (simp only [jM.len_sI, jM.len_sL, jM.len_sR, jM.len_fI, jM.len_fL, jM.len_fR]; omega) | (simp [jM.len_nw, jM.len_sI, jM.len_sL, jM.len_sR, jM.len_fI, jM.len_fL, jM.len_fR, *]; omega)) ?_
                           exact mQ.of (by unfold sp_told toldV; (repeat (first | rw [if_pos (by omega)] | rw [if_neg (by omega)]))))
                      · first
                        | (exfalso; omega)
                        | (first | refine J.aload_n (pc' := 105) rfl rfl rfl ?_ | refine J.aload_nN (pc' := 105) rfl rfl rfl ?_
                           refine J.mgR (pc' := 108) (t := 132) B rfl fl_X12_79 rfl rfl (by decide) rfl ?_
                           refine J.iload_n (pc' := 109) rfl rfl rfl ?_
                           refine J.mald (pc' := 110) B rfl rfl rfl (by omega) (by simp only [jLn]; omega) rfl ?_
                           refine J.iret rfl rfl (by first | omega | (exact R.r _ _) | (simp only [jM.len_sI, jM.len_sL, jM.len_sR, jM.len_fI, jM.len_fL, jM.len_fR]; omega) | (simp [jM.len_nw, jM.len_sI, jM.len_sL, jM.len_sR, jM.len_fI, jM.len_fL, jM.len_fR, *]; omega)) (by first | omega | (exact R.r _ _) | (simp only [jM.len_sI, jM.len_sL, jM.len_sR, jM.len_fI, jM.len_fL, jM.len_fR]; omega) | (simp [jM.len_nw, jM.len_sI, jM.len_sL, jM.len_sR, jM.len_fI, jM.len_fL, jM.len_fR, *]; omega)) ?_
                           exact mQ.of (by unfold sp_told toldV; (repeat (first | rw [if_pos (by omega)] | rw [if_neg (by omega)]))))
                      · first
                        | (exfalso; omega)
                        | (first | refine J.aload_n (pc' := 112) rfl rfl rfl ?_ | refine J.aload_nN (pc' := 112) rfl rfl rfl ?_
                           refine J.mgR (pc' := 115) (t := 133) B rfl fl_X12_82 rfl rfl (by decide) rfl ?_
                           refine J.iload_n (pc' := 116) rfl rfl rfl ?_
                           refine J.mald (pc' := 117) B rfl rfl rfl (by omega) (by simp only [jLn]; omega) rfl ?_
                           refine J.iret rfl rfl (by first | omega | (exact R.r _ _) | (simp only [jM.len_sI, jM.len_sL, jM.len_sR, jM.len_fI, jM.len_fL, jM.len_fR]; omega) | (simp [jM.len_nw, jM.len_sI, jM.len_sL, jM.len_sR, jM.len_fI, jM.len_fL, jM.len_fR, *]; omega)) (by first | omega | (exact R.r _ _) | (simp only [jM.len_sI, jM.len_sL, jM.len_sR, jM.len_fI, jM.len_fL, jM.len_fR]; omega) | (simp [jM.len_nw, jM.len_sI, jM.len_sL, jM.len_sR, jM.len_fI, jM.len_fL, jM.len_fR, *]; omega)) ?_
                           exact mQ.of (by unfold sp_told toldV; (repeat (first | rw [if_pos (by omega)] | rw [if_neg (by omega)]))))
                      · omega)
                 · first
                   | (exfalso; omega)
                   | (refine J.iconst (pc' := 37) rfl rfl ?_
                      refine J.iret rfl rfl (by first | omega | (exact R.r _ _) | (simp only [jM.len_sI, jM.len_sL, jM.len_sR, jM.len_fI, jM.len_fL, jM.len_fR]; omega) | (simp [jM.len_nw, jM.len_sI, jM.len_sL, jM.len_sR, jM.len_fI, jM.len_fL, jM.len_fR, *]; omega)) (by first | omega | (exact R.r _ _) | (simp only [jM.len_sI, jM.len_sL, jM.len_sR, jM.len_fI, jM.len_fL, jM.len_fR]; omega) | (simp [jM.len_nw, jM.len_sI, jM.len_sL, jM.len_sR, jM.len_fI, jM.len_fL, jM.len_fR, *]; omega)) ?_
                      exact mQ.of (by unfold sp_told toldV; (repeat (first | rw [if_pos (by omega)] | rw [if_neg (by omega)])))))
            · first
              | (exfalso; omega)
              | (refine J.iload_n (pc' := 19) rfl rfl rfl ?_
                 refine J.bipush (pc' := 21) rfl rfl (by decide) ?_
                 refine J.icmp_ge (tgt := 28) (pc' := 24) rfl rfl rfl (by first | omega | (exact R.r _ _) | (simp only [jM.len_sI, jM.len_sL, jM.len_sR, jM.len_fI, jM.len_fL, jM.len_fR]; omega) | (simp [jM.len_nw, jM.len_sI, jM.len_sL, jM.len_sR, jM.len_fI, jM.len_fL, jM.len_fR, *]; omega)) (by first | omega | (exact R.r _ _) | (simp only [jM.len_sI, jM.len_sL, jM.len_sR, jM.len_fI, jM.len_fL, jM.len_fR]; omega) | (simp [jM.len_nw, jM.len_sI, jM.len_sL, jM.len_sR, jM.len_fI, jM.len_fL, jM.len_fR, *]; omega)) (fun c21 => ?_) (fun c21 => ?_)
                 · first
                   | (exfalso; omega)
                   | (refine J.iconst (pc' := 29) rfl rfl ?_
                      refine J.iconst (pc' := 30) rfl rfl ?_
                      first | refine J.callV (pc' := 33) (t := 16) rfl MX12_may ml_X12_161 iv_X12_may (by decide) ⟨_, rfl, rfl⟩ B.1 (cm_may1 B h0) rfl rfl (Nat.le_of_ble_eq_true rfl) (by first | omega | (exact R.r _ _) | (simp only [jM.len_sI, jM.len_sL, jM.len_sR, jM.len_fI, jM.len_fL, jM.len_fR]; omega) | (simp [jM.len_nw, jM.len_sI, jM.len_sL, jM.len_sR, jM.len_fI, jM.len_fL, jM.len_fR, *]; omega)) (by first | omega | (exact R.r _ _) | (simp only [jM.len_sI, jM.len_sL, jM.len_sR, jM.len_fI, jM.len_fL, jM.len_fR]; omega) | (simp [jM.len_nw, jM.len_sI, jM.len_sL, jM.len_sR, jM.len_fI, jM.len_fL, jM.len_fR, *]; omega)) (by first | omega | (exact R.r _ _) | (simp only [jM.len_sI, jM.len_sL, jM.len_sR, jM.len_fI, jM.len_fL, jM.len_fR]; omega) | (simp [jM.len_nw, jM.len_sI, jM.len_sL, jM.len_sR, jM.len_fI, jM.len_fL, jM.len_fR, *]; omega)) rfl rfl ?_ ?_ | refine J.callV (pc' := 33) (t := 16) rfl MX12_may ml_X12_161 iv_X12_may (by decide) ⟨_, rfl, rfl⟩ B.1 (cm_may0 B h0 (by omega)) rfl rfl (Nat.le_of_ble_eq_true rfl) (by first | omega | (exact R.r _ _) | (simp only [jM.len_sI, jM.len_sL, jM.len_sR, jM.len_fI, jM.len_fL, jM.len_fR]; omega) | (simp [jM.len_nw, jM.len_sI, jM.len_sL, jM.len_sR, jM.len_fI, jM.len_fL, jM.len_fR, *]; omega)) (by first | omega | (exact R.r _ _) | (simp only [jM.len_sI, jM.len_sL, jM.len_sR, jM.len_fI, jM.len_fL, jM.len_fR]; omega) | (simp [jM.len_nw, jM.len_sI, jM.len_sL, jM.len_sR, jM.len_fI, jM.len_fL, jM.len_fR, *]; omega)) (by first | omega | (exact R.r _ _) | (simp only [jM.len_sI, jM.len_sL, jM.len_sR, jM.len_fI, jM.len_fL, jM.len_fR]; omega) | (simp [jM.len_nw, jM.len_sI, jM.len_sL, jM.len_sR, jM.len_fI, jM.len_fL, jM.len_fR, *]; omega)) rfl rfl ?_ ?_
                      · exact fun _ _ h => h
                      rintro _ _ ⟨rfl, rfl⟩
                      refine J.if_ne (tgt := 38) (pc' := 36) rfl rfl rfl (by first | omega | (exact R.r _ _) | (simp only [jM.len_sI, jM.len_sL, jM.len_sR, jM.len_fI, jM.len_fL, jM.len_fR]; omega) | (simp [jM.len_nw, jM.len_sI, jM.len_sL, jM.len_sR, jM.len_fI, jM.len_fL, jM.len_fR, *]; omega)) (fun c33 => ?_) (fun c33 => ?_)
                      · first
                        | (exfalso; omega)
                        | (refine J.iload_n (pc' := 39) rfl rfl rfl ?_
                           refine J.tsw (tgt := 118) (n := 6) (T := jNth [76, 83, 90, 97, 104, 111]) rfl (by first | omega | (exact R.r _ _) | (simp only [jM.len_sI, jM.len_sL, jM.len_sR, jM.len_fI, jM.len_fL, jM.len_fR]; omega) | (simp [jM.len_nw, jM.len_sI, jM.len_sL, jM.len_sR, jM.len_fI, jM.len_fL, jM.len_fR, *]; omega)) rfl rfl (fun k hk => by rcases k with _ | _ | _ | _ | _ | _ | k <;> first | exact ⟨_, rfl, rfl⟩ | omega) (fun c39 => ?_) (fun k39 hk39 c39 => ?_)
                           · first
                             | (exfalso; omega)
                             | (refine J.iload_n (pc' := 119) rfl rfl rfl ?_
                                refine J.iconst (pc' := 120) rfl rfl ?_
                                refine J.irem (pc' := 121) rfl rfl (by first | omega | (exact R.r _ _) | (simp only [jM.len_sI, jM.len_sL, jM.len_sR, jM.len_fI, jM.len_fL, jM.len_fR]; omega) | (simp [jM.len_nw, jM.len_sI, jM.len_sL, jM.len_sR, jM.len_fI, jM.len_fL, jM.len_fR, *]; omega)) (by first | omega | (exact R.r _ _) | (simp only [jM.len_sI, jM.len_sL, jM.len_sR, jM.len_fI, jM.len_fL, jM.len_fR]; omega) | (simp [jM.len_nw, jM.len_sI, jM.len_sL, jM.len_sR, jM.len_fI, jM.len_fL, jM.len_fR, *]; omega)) (by first | omega | (exact R.r _ _) | (simp only [jM.len_sI, jM.len_sL, jM.len_sR, jM.len_fI, jM.len_fL, jM.len_fR]; omega) | (simp [jM.len_nw, jM.len_sI, jM.len_sL, jM.len_sR, jM.len_fI, jM.len_fL, jM.len_fR, *]; omega)) ?_
                                rw [Int.tmod_eq_emod_of_nonneg (by omega)]
                                refine J.if_ne (tgt := 142) (pc' := 124) rfl rfl rfl (by first | omega | (exact R.r _ _) | (simp only [jM.len_sI, jM.len_sL, jM.len_sR, jM.len_fI, jM.len_fL, jM.len_fR]; omega) | (simp [jM.len_nw, jM.len_sI, jM.len_sL, jM.len_sR, jM.len_fI, jM.len_fL, jM.len_fR, *]; omega)) (fun c121 => ?_) (fun c121 => ?_)
                                · first
                                  | (exfalso; omega)
                                  | (first | refine J.aload_n (pc' := 143) rfl rfl rfl ?_ | refine J.aload_nN (pc' := 143) rfl rfl rfl ?_
                                     refine J.mgR (pc' := 146) (t := 135) B rfl fl_X12_88 rfl rfl (by decide) rfl ?_
                                     refine J.iconst (pc' := 147) rfl rfl ?_
                                     refine J.iload_n (pc' := 148) rfl rfl rfl ?_
                                     refine J.imul (pc' := 149) rfl rfl ?_
                                     refine J.iload_n (pc' := 150) rfl rfl rfl ?_
                                     refine J.bipush (pc' := 152) rfl rfl (by decide) ?_
                                     refine J.isub (pc' := 153) rfl rfl ?_
                                     refine J.iconst (pc' := 154) rfl rfl ?_
                                     refine J.idiv (pc' := 155) rfl rfl (by first | omega | (exact R.r _ _) | (simp only [jM.len_sI, jM.len_sL, jM.len_sR, jM.len_fI, jM.len_fL, jM.len_fR]; omega) | (simp [jM.len_nw, jM.len_sI, jM.len_sL, jM.len_sR, jM.len_fI, jM.len_fL, jM.len_fR, *]; omega)) (by first | omega | (exact R.r _ _) | (simp only [jM.len_sI, jM.len_sL, jM.len_sR, jM.len_fI, jM.len_fL, jM.len_fR]; omega) | (simp [jM.len_nw, jM.len_sI, jM.len_sL, jM.len_sR, jM.len_fI, jM.len_fL, jM.len_fR, *]; omega)) (by first | omega | (exact R.r _ _) | (simp only [jM.len_sI, jM.len_sL, jM.len_sR, jM.len_fI, jM.len_fL, jM.len_fR]; omega) | (simp [jM.len_nw, jM.len_sI, jM.len_sL, jM.len_sR, jM.len_fI, jM.len_fL, jM.len_fR, *]; omega)) ?_
                                     rw [Int.tdiv_eq_ediv_of_nonneg (by omega)]
                                     refine J.iadd (pc' := 156) rfl rfl ?_
                                     refine J.mald (pc' := 157) B rfl rfl rfl (by omega) (by simp only [jLn]; omega) rfl ?_
                                     refine J.iret rfl rfl (by first | omega | (exact R.r _ _) | (simp only [jM.len_sI, jM.len_sL, jM.len_sR, jM.len_fI, jM.len_fL, jM.len_fR]; omega) | (simp [jM.len_nw, jM.len_sI, jM.len_sL, jM.len_sR, jM.len_fI, jM.len_fL, jM.len_fR, *]; omega)) (by first | omega | (exact R.r _ _) | (simp only [jM.len_sI, jM.len_sL, jM.len_sR, jM.len_fI, jM.len_fL, jM.len_fR]; omega) | (simp [jM.len_nw, jM.len_sI, jM.len_sL, jM.len_sR, jM.len_fI, jM.len_fL, jM.len_fR, *]; omega)) ?_
                                     exact mQ.of (by unfold sp_told toldV; (repeat (first | rw [if_pos (by omega)] | rw [if_neg (by omega)]))))
                                · first
                                  | (exfalso; omega)
                                  | (first | refine J.aload_n (pc' := 125) rfl rfl rfl ?_ | refine J.aload_nN (pc' := 125) rfl rfl rfl ?_
                                     refine J.mgR (pc' := 128) (t := 134) B rfl fl_X12_85 rfl rfl (by decide) rfl ?_
                                     refine J.iconst (pc' := 129) rfl rfl ?_
                                     refine J.iload_n (pc' := 130) rfl rfl rfl ?_
                                     refine J.imul (pc' := 131) rfl rfl ?_
                                     refine J.iload_n (pc' := 132) rfl rfl rfl ?_
                                     refine J.bipush (pc' := 134) rfl rfl (by decide) ?_
                                     refine J.isub (pc' := 135) rfl rfl ?_
                                     refine J.iconst (pc' := 136) rfl rfl ?_
                                     refine J.idiv (pc' := 137) rfl rfl (by first | omega | (exact R.r _ _) | (simp only [jM.len_sI, jM.len_sL, jM.len_sR, jM.len_fI, jM.len_fL, jM.len_fR]; omega) | (simp [jM.len_nw, jM.len_sI, jM.len_sL, jM.len_sR, jM.len_fI, jM.len_fL, jM.len_fR, *]; omega)) (by first | omega | (exact R.r _ _) | (simp only [jM.len_sI, jM.len_sL, jM.len_sR, jM.len_fI, jM.len_fL, jM.len_fR]; omega) | (simp [jM.len_nw, jM.len_sI, jM.len_sL, jM.len_sR, jM.len_fI, jM.len_fL, jM.len_fR, *]; omega)) (by first | omega | (exact R.r _ _) | (simp only [jM.len_sI, jM.len_sL, jM.len_sR, jM.len_fI, jM.len_fL, jM.len_fR]; omega) | (simp [jM.len_nw, jM.len_sI, jM.len_sL, jM.len_sR, jM.len_fI, jM.len_fL, jM.len_fR, *]; omega)) ?_
                                     rw [Int.tdiv_eq_ediv_of_nonneg (by omega)]
                                     refine J.iadd (pc' := 138) rfl rfl ?_
                                     refine J.mald (pc' := 139) B rfl rfl rfl (by omega) (by simp only [jLn]; omega) rfl ?_
                                     refine J.goto (tgt := 157) rfl rfl ?_
                                     refine J.iret rfl rfl (by first | omega | (exact R.r _ _) | (simp only [jM.len_sI, jM.len_sL, jM.len_sR, jM.len_fI, jM.len_fL, jM.len_fR]; omega) | (simp [jM.len_nw, jM.len_sI, jM.len_sL, jM.len_sR, jM.len_fI, jM.len_fL, jM.len_fR, *]; omega)) (by first | omega | (exact R.r _ _) | (simp only [jM.len_sI, jM.len_sL, jM.len_sR, jM.len_fI, jM.len_fL, jM.len_fR]; omega) | (simp [jM.len_nw, jM.len_sI, jM.len_sL, jM.len_sR, jM.len_fI, jM.len_fL, jM.len_fR, *]; omega)) ?_
                                     exact mQ.of (by unfold sp_told toldV; (repeat (first | rw [if_pos (by omega)] | rw [if_neg (by omega)])))))
                           rcases k39 with _ | _ | _ | _ | _ | _ | k39
                           · first
                             | (exfalso; omega)
                             | (first | refine J.aload_n (pc' := 77) rfl rfl rfl ?_ | refine J.aload_nN (pc' := 77) rfl rfl rfl ?_
                                refine J.mgR (pc' := 80) (t := 127) B rfl fl_X12_64 rfl rfl (by decide) rfl ?_
                                refine J.iload_n (pc' := 81) rfl rfl rfl ?_
                                refine J.mald (pc' := 82) B rfl rfl rfl (by omega) (by simp only [jLn]; omega) rfl ?_
                                refine J.iret rfl rfl (by first | omega | (exact R.r _ _) | (simp only [jM.len_sI, jM.len_sL, jM.len_sR, jM.len_fI, jM.len_fL, jM.len_fR]; omega) | (simp [jM.len_nw, jM.len_sI, jM.len_sL, jM.len_sR, jM.len_fI, jM.len_fL, jM.len_fR, *]; omega)) (by first | omega | (exact R.r _ _) | (simp only [jM.len_sI, jM.len_sL, jM.len_sR, jM.len_fI, jM.len_fL, jM.len_fR]; omega) | (simp [jM.len_nw, jM.len_sI, jM.len_sL, jM.len_sR, jM.len_fI, jM.len_fL, jM.len_fR, *]; omega)) ?_
                                exact mQ.of (by unfold sp_told toldV; (repeat (first | rw [if_pos (by omega)] | rw [if_neg (by omega)]))))
                           · first
                             | (exfalso; omega)
                             | (first | refine J.aload_n (pc' := 84) rfl rfl rfl ?_ | refine J.aload_nN (pc' := 84) rfl rfl rfl ?_
                                refine J.mgR (pc' := 87) (t := 128) B rfl fl_X12_67 rfl rfl (by decide) rfl ?_
                                refine J.iload_n (pc' := 88) rfl rfl rfl ?_
                                refine J.mald (pc' := 89) B rfl rfl rfl (by omega) (by simp only [jLn]; omega) rfl ?_
                                refine J.iret rfl rfl (by first | omega | (exact R.r _ _) | (simp only [jM.len_sI, jM.len_sL, jM.len_sR, jM.len_fI, jM.len_fL, jM.len_fR]; omega) | (simp [jM.len_nw, jM.len_sI, jM.len_sL, jM.len_sR, jM.len_fI, jM.len_fL, jM.len_fR, *]; omega)) (by first | omega | (exact R.r _ _) | (simp only [jM.len_sI, jM.len_sL, jM.len_sR, jM.len_fI, jM.len_fL, jM.len_fR]; omega) | (simp [jM.len_nw, jM.len_sI, jM.len_sL, jM.len_sR, jM.len_fI, jM.len_fL, jM.len_fR, *]; omega)) ?_
                                exact mQ.of (by unfold sp_told toldV; (repeat (first | rw [if_pos (by omega)] | rw [if_neg (by omega)]))))
                           · first
                             | (exfalso; omega)
                             | (first | refine J.aload_n (pc' := 91) rfl rfl rfl ?_ | refine J.aload_nN (pc' := 91) rfl rfl rfl ?_
                                refine J.mgR (pc' := 94) (t := 129) B rfl fl_X12_70 rfl rfl (by decide) rfl ?_
                                refine J.iload_n (pc' := 95) rfl rfl rfl ?_
                                refine J.mald (pc' := 96) B rfl rfl rfl (by omega) (by simp only [jLn]; omega) rfl ?_
                                refine J.iret rfl rfl (by first | omega | (exact R.r _ _) | (simp only [jM.len_sI, jM.len_sL, jM.len_sR, jM.len_fI, jM.len_fL, jM.len_fR]; omega) | (simp [jM.len_nw, jM.len_sI, jM.len_sL, jM.len_sR, jM.len_fI, jM.len_fL, jM.len_fR, *]; omega)) (by first | omega | (exact R.r _ _) | (simp only [jM.len_sI, jM.len_sL, jM.len_sR, jM.len_fI, jM.len_fL, jM.len_fR]; omega) | (simp [jM.len_nw, jM.len_sI, jM.len_sL, jM.len_sR, jM.len_fI, jM.len_fL, jM.len_fR, *]; omega)) ?_
                                exact mQ.of (by unfold sp_told toldV; (repeat (first | rw [if_pos (by omega)] | rw [if_neg (by omega)]))))
                           · first
                             | (exfalso; omega)
                             | (first | refine J.aload_n (pc' := 98) rfl rfl rfl ?_ | refine J.aload_nN (pc' := 98) rfl rfl rfl ?_
                                refine J.mgR (pc' := 101) (t := 130) B rfl fl_X12_73 rfl rfl (by decide) rfl ?_
                                refine J.iload_n (pc' := 102) rfl rfl rfl ?_
                                refine J.mald (pc' := 103) B rfl rfl rfl (by omega) (by simp only [jLn]; omega) rfl ?_
                                refine J.iret rfl rfl (by first | omega | (exact R.r _ _) | (simp only [jM.len_sI, jM.len_sL, jM.len_sR, jM.len_fI, jM.len_fL, jM.len_fR]; omega) | (simp [jM.len_nw, jM.len_sI, jM.len_sL, jM.len_sR, jM.len_fI, jM.len_fL, jM.len_fR, *]; omega)) (by first | omega | (exact R.r _ _) | (simp only [jM.len_sI, jM.len_sL, jM.len_sR, jM.len_fI, jM.len_fL, jM.len_fR]; omega) | (simp [jM.len_nw, jM.len_sI, jM.len_sL, jM.len_sR, jM.len_fI, jM.len_fL, jM.len_fR, *]; omega)) ?_
                                exact mQ.of (by unfold sp_told toldV; (repeat (first | rw [if_pos (by omega)] | rw [if_neg (by omega)]))))
                           · first
                             | (exfalso; omega)
                             | (first | refine J.aload_n (pc' := 105) rfl rfl rfl ?_ | refine J.aload_nN (pc' := 105) rfl rfl rfl ?_
                                refine J.mgR (pc' := 108) (t := 132) B rfl fl_X12_79 rfl rfl (by decide) rfl ?_
                                refine J.iload_n (pc' := 109) rfl rfl rfl ?_
                                refine J.mald (pc' := 110) B rfl rfl rfl (by omega) (by simp only [jLn]; omega) rfl ?_
                                refine J.iret rfl rfl (by first | omega | (exact R.r _ _) | (simp only [jM.len_sI, jM.len_sL, jM.len_sR, jM.len_fI, jM.len_fL, jM.len_fR]; omega) | (simp [jM.len_nw, jM.len_sI, jM.len_sL, jM.len_sR, jM.len_fI, jM.len_fL, jM.len_fR, *]; omega)) (by first | omega | (exact R.r _ _) | (simp only [jM.len_sI, jM.len_sL, jM.len_sR, jM.len_fI, jM.len_fL, jM.len_fR]; omega) | (simp [jM.len_nw, jM.len_sI, jM.len_sL, jM.len_sR, jM.len_fI, jM.len_fL, jM.len_fR, *]; omega)) ?_
                                exact mQ.of (by unfold sp_told toldV; (repeat (first | rw [if_pos (by omega)] | rw [if_neg (by omega)]))))
                           · first
                             | (exfalso; omega)
                             | (first | refine J.aload_n (pc' := 112) rfl rfl rfl ?_ | refine J.aload_nN (pc' := 112) rfl rfl rfl ?_
                                refine J.mgR (pc' := 115) (t := 133) B rfl fl_X12_82 rfl rfl (by decide) rfl ?_
                                refine J.iload_n (pc' := 116) rfl rfl rfl ?_
                                refine J.mald (pc' := 117) B rfl rfl rfl (by omega) (by simp only [jLn]; omega) rfl ?_
                                refine J.iret rfl rfl (by first | omega | (exact R.r _ _) | (simp only [jM.len_sI, jM.len_sL, jM.len_sR, jM.len_fI, jM.len_fL, jM.len_fR]; omega) | (simp [jM.len_nw, jM.len_sI, jM.len_sL, jM.len_sR, jM.len_fI, jM.len_fL, jM.len_fR, *]; omega)) (by first | omega | (exact R.r _ _) | (simp only [jM.len_sI, jM.len_sL, jM.len_sR, jM.len_fI, jM.len_fL, jM.len_fR]; omega) | (simp [jM.len_nw, jM.len_sI, jM.len_sL, jM.len_sR, jM.len_fI, jM.len_fL, jM.len_fR, *]; omega)) ?_
                                exact mQ.of (by unfold sp_told toldV; (repeat (first | rw [if_pos (by omega)] | rw [if_neg (by omega)]))))
                           · omega)
                      · first
                        | (exfalso; omega)
                        | (refine J.iconst (pc' := 37) rfl rfl ?_
                           refine J.iret rfl rfl (by first | omega | (exact R.r _ _) | (simp only [jM.len_sI, jM.len_sL, jM.len_sR, jM.len_fI, jM.len_fL, jM.len_fR]; omega) | (simp [jM.len_nw, jM.len_sI, jM.len_sL, jM.len_sR, jM.len_fI, jM.len_fL, jM.len_fR, *]; omega)) (by first | omega | (exact R.r _ _) | (simp only [jM.len_sI, jM.len_sL, jM.len_sR, jM.len_fI, jM.len_fL, jM.len_fR]; omega) | (simp [jM.len_nw, jM.len_sI, jM.len_sL, jM.len_sR, jM.len_fI, jM.len_fL, jM.len_fR, *]; omega)) ?_
                           exact mQ.of (by unfold sp_told toldV; (repeat (first | rw [if_pos (by omega)] | rw [if_neg (by omega)])))))
                 · first
                   | (exfalso; omega)
                   | (refine J.iconst (pc' := 25) rfl rfl ?_
                      refine J.goto (tgt := 29) rfl rfl ?_
                      refine J.iconst (pc' := 30) rfl rfl ?_
                      first | refine J.callV (pc' := 33) (t := 16) rfl MX12_may ml_X12_161 iv_X12_may (by decide) ⟨_, rfl, rfl⟩ B.1 (cm_may1 B h0) rfl rfl (Nat.le_of_ble_eq_true rfl) (by first | omega | (exact R.r _ _) | (simp only [jM.len_sI, jM.len_sL, jM.len_sR, jM.len_fI, jM.len_fL, jM.len_fR]; omega) | (simp [jM.len_nw, jM.len_sI, jM.len_sL, jM.len_sR, jM.len_fI, jM.len_fL, jM.len_fR, *]; omega)) (by first | omega | (exact R.r _ _) | (simp only [jM.len_sI, jM.len_sL, jM.len_sR, jM.len_fI, jM.len_fL, jM.len_fR]; omega) | (simp [jM.len_nw, jM.len_sI, jM.len_sL, jM.len_sR, jM.len_fI, jM.len_fL, jM.len_fR, *]; omega)) (by first | omega | (exact R.r _ _) | (simp only [jM.len_sI, jM.len_sL, jM.len_sR, jM.len_fI, jM.len_fL, jM.len_fR]; omega) | (simp [jM.len_nw, jM.len_sI, jM.len_sL, jM.len_sR, jM.len_fI, jM.len_fL, jM.len_fR, *]; omega)) rfl rfl ?_ ?_ | refine J.callV (pc' := 33) (t := 16) rfl MX12_may ml_X12_161 iv_X12_may (by decide) ⟨_, rfl, rfl⟩ B.1 (cm_may0 B h0 (by omega)) rfl rfl (Nat.le_of_ble_eq_true rfl) (by first | omega | (exact R.r _ _) | (simp only [jM.len_sI, jM.len_sL, jM.len_sR, jM.len_fI, jM.len_fL, jM.len_fR]; omega) | (simp [jM.len_nw, jM.len_sI, jM.len_sL, jM.len_sR, jM.len_fI, jM.len_fL, jM.len_fR, *]; omega)) (by first | omega | (exact R.r _ _) | (simp only [jM.len_sI, jM.len_sL, jM.len_sR, jM.len_fI, jM.len_fL, jM.len_fR]; omega) | (simp [jM.len_nw, jM.len_sI, jM.len_sL, jM.len_sR, jM.len_fI, jM.len_fL, jM.len_fR, *]; omega)) (by first | omega | (exact R.r _ _) | (simp only [jM.len_sI, jM.len_sL, jM.len_sR, jM.len_fI, jM.len_fL, jM.len_fR]; omega) | (simp [jM.len_nw, jM.len_sI, jM.len_sL, jM.len_sR, jM.len_fI, jM.len_fL, jM.len_fR, *]; omega)) rfl rfl ?_ ?_
                      · exact fun _ _ h => h
                      rintro _ _ ⟨rfl, rfl⟩
                      refine J.if_ne (tgt := 38) (pc' := 36) rfl rfl rfl (by first | omega | (exact R.r _ _) | (simp only [jM.len_sI, jM.len_sL, jM.len_sR, jM.len_fI, jM.len_fL, jM.len_fR]; omega) | (simp [jM.len_nw, jM.len_sI, jM.len_sL, jM.len_sR, jM.len_fI, jM.len_fL, jM.len_fR, *]; omega)) (fun c33 => ?_) (fun c33 => ?_)
                      · first
                        | (exfalso; omega)
                        | (refine J.iload_n (pc' := 39) rfl rfl rfl ?_
                           refine J.tsw (tgt := 118) (n := 6) (T := jNth [76, 83, 90, 97, 104, 111]) rfl (by first | omega | (exact R.r _ _) | (simp only [jM.len_sI, jM.len_sL, jM.len_sR, jM.len_fI, jM.len_fL, jM.len_fR]; omega) | (simp [jM.len_nw, jM.len_sI, jM.len_sL, jM.len_sR, jM.len_fI, jM.len_fL, jM.len_fR, *]; omega)) rfl rfl (fun k hk => by rcases k with _ | _ | _ | _ | _ | _ | k <;> first | exact ⟨_, rfl, rfl⟩ | omega) (fun c39 => ?_) (fun k39 hk39 c39 => ?_)
                           · first
                             | (exfalso; omega)
                             | (refine J.iload_n (pc' := 119) rfl rfl rfl ?_
                                refine J.iconst (pc' := 120) rfl rfl ?_
                                refine J.irem (pc' := 121) rfl rfl (by first | omega | (exact R.r _ _) | (simp only [jM.len_sI, jM.len_sL, jM.len_sR, jM.len_fI, jM.len_fL, jM.len_fR]; omega) | (simp [jM.len_nw, jM.len_sI, jM.len_sL, jM.len_sR, jM.len_fI, jM.len_fL, jM.len_fR, *]; omega)) (by first | omega | (exact R.r _ _) | (simp only [jM.len_sI, jM.len_sL, jM.len_sR, jM.len_fI, jM.len_fL, jM.len_fR]; omega) | (simp [jM.len_nw, jM.len_sI, jM.len_sL, jM.len_sR, jM.len_fI, jM.len_fL, jM.len_fR, *]; omega)) (by first | omega | (exact R.r _ _) | (simp only [jM.len_sI, jM.len_sL, jM.len_sR, jM.len_fI, jM.len_fL, jM.len_fR]; omega) | (simp [jM.len_nw, jM.len_sI, jM.len_sL, jM.len_sR, jM.len_fI, jM.len_fL, jM.len_fR, *]; omega)) ?_
                                rw [Int.tmod_eq_emod_of_nonneg (by omega)]
                                refine J.if_ne (tgt := 142) (pc' := 124) rfl rfl rfl (by first | omega | (exact R.r _ _) | (simp only [jM.len_sI, jM.len_sL, jM.len_sR, jM.len_fI, jM.len_fL, jM.len_fR]; omega) | (simp [jM.len_nw, jM.len_sI, jM.len_sL, jM.len_sR, jM.len_fI, jM.len_fL, jM.len_fR, *]; omega)) (fun c121 => ?_) (fun c121 => ?_)
                                · first
                                  | (exfalso; omega)
                                  | (first | refine J.aload_n (pc' := 143) rfl rfl rfl ?_ | refine J.aload_nN (pc' := 143) rfl rfl rfl ?_
                                     refine J.mgR (pc' := 146) (t := 135) B rfl fl_X12_88 rfl rfl (by decide) rfl ?_
                                     refine J.iconst (pc' := 147) rfl rfl ?_
                                     refine J.iload_n (pc' := 148) rfl rfl rfl ?_
                                     refine J.imul (pc' := 149) rfl rfl ?_
                                     refine J.iload_n (pc' := 150) rfl rfl rfl ?_
                                     refine J.bipush (pc' := 152) rfl rfl (by decide) ?_
                                     refine J.isub (pc' := 153) rfl rfl ?_
                                     refine J.iconst (pc' := 154) rfl rfl ?_
                                     refine J.idiv (pc' := 155) rfl rfl (by first | omega | (exact R.r _ _) | (simp only [jM.len_sI, jM.len_sL, jM.len_sR, jM.len_fI, jM.len_fL, jM.len_fR]; omega) | (simp [jM.len_nw, jM.len_sI, jM.len_sL, jM.len_sR, jM.len_fI, jM.len_fL, jM.len_fR, *]; omega)) (by first | omega | (exact R.r _ _) | (simp only [jM.len_sI, jM.len_sL, jM.len_sR, jM.len_fI, jM.len_fL, jM.len_fR]; omega) | (simp [jM.len_nw, jM.len_sI, jM.len_sL, jM.len_sR, jM.len_fI, jM.len_fL, jM.len_fR, *]; omega)) (by first | omega | (exact R.r _ _) | (simp only [jM.len_sI, jM.len_sL, jM.len_sR, jM.len_fI, jM.len_fL, jM.len_fR]; omega) | (simp [jM.len_nw, jM.len_sI, jM.len_sL, jM.len_sR, jM.len_fI, jM.len_fL, jM.len_fR, *]; omega)) ?_
                                     rw [Int.tdiv_eq_ediv_of_nonneg (by omega)]
                                     refine J.iadd (pc' := 156) rfl rfl ?_
                                     refine J.mald (pc' := 157) B rfl rfl rfl (by omega) (by simp only [jLn]; omega) rfl ?_
                                     refine J.iret rfl rfl (by first | omega | (exact R.r _ _) | (simp only [jM.len_sI, jM.len_sL, jM.len_sR, jM.len_fI, jM.len_fL, jM.len_fR]; omega) | (simp [jM.len_nw, jM.len_sI, jM.len_sL, jM.len_sR, jM.len_fI, jM.len_fL, jM.len_fR, *]; omega)) (by first | omega | (exact R.r _ _) | (simp only [jM.len_sI, jM.len_sL, jM.len_sR, jM.len_fI, jM.len_fL, jM.len_fR]; omega) | (simp [jM.len_nw, jM.len_sI, jM.len_sL, jM.len_sR, jM.len_fI, jM.len_fL, jM.len_fR, *]; omega)) ?_
                                     exact mQ.of (by unfold sp_told toldV; (repeat (first | rw [if_pos (by omega)] | rw [if_neg (by omega)]))))
                                · first
                                  | (exfalso; omega)
                                  | (first | refine J.aload_n (pc' := 125) rfl rfl rfl ?_ | refine J.aload_nN (pc' := 125) rfl rfl rfl ?_
                                     refine J.mgR (pc' := 128) (t := 134) B rfl fl_X12_85 rfl rfl (by decide) rfl ?_
                                     refine J.iconst (pc' := 129) rfl rfl ?_
                                     refine J.iload_n (pc' := 130) rfl rfl rfl ?_
                                     refine J.imul (pc' := 131) rfl rfl ?_
                                     refine J.iload_n (pc' := 132) rfl rfl rfl ?_
                                     refine J.bipush (pc' := 134) rfl rfl (by decide) ?_
                                     refine J.isub (pc' := 135) rfl rfl ?_
                                     refine J.iconst (pc' := 136) rfl rfl ?_
                                     refine J.idiv (pc' := 137) rfl rfl (by first | omega | (exact R.r _ _) | (simp only [jM.len_sI, jM.len_sL, jM.len_sR, jM.len_fI, jM.len_fL, jM.len_fR]; omega) | (simp [jM.len_nw, jM.len_sI, jM.len_sL, jM.len_sR, jM.len_fI, jM.len_fL, jM.len_fR, *]; omega)) (by first | omega | (exact R.r _ _) | (simp only [jM.len_sI, jM.len_sL, jM.len_sR, jM.len_fI, jM.len_fL, jM.len_fR]; omega) | (simp [jM.len_nw, jM.len_sI, jM.len_sL, jM.len_sR, jM.len_fI, jM.len_fL, jM.len_fR, *]; omega)) (by first | omega | (exact R.r _ _) | (simp only [jM.len_sI, jM.len_sL, jM.len_sR, jM.len_fI, jM.len_fL, jM.len_fR]; omega) | (simp [jM.len_nw, jM.len_sI, jM.len_sL, jM.len_sR, jM.len_fI, jM.len_fL, jM.len_fR, *]; omega)) ?_
                                     rw [Int.tdiv_eq_ediv_of_nonneg (by omega)]
                                     refine J.iadd (pc' := 138) rfl rfl ?_
                                     refine J.mald (pc' := 139) B rfl rfl rfl (by omega) (by simp only [jLn]; omega) rfl ?_
                                     refine J.goto (tgt := 157) rfl rfl ?_
                                     refine J.iret rfl rfl (by first | omega | (exact R.r _ _) | (simp only [jM.len_sI, jM.len_sL, jM.len_sR, jM.len_fI, jM.len_fL, jM.len_fR]; omega) | (simp [jM.len_nw, jM.len_sI, jM.len_sL, jM.len_sR, jM.len_fI, jM.len_fL, jM.len_fR, *]; omega)) (by first | omega | (exact R.r _ _) | (simp only [jM.len_sI, jM.len_sL, jM.len_sR, jM.len_fI, jM.len_fL, jM.len_fR]; omega) | (simp [jM.len_nw, jM.len_sI, jM.len_sL, jM.len_sR, jM.len_fI, jM.len_fL, jM.len_fR, *]; omega)) ?_
                                     exact mQ.of (by unfold sp_told toldV; (repeat (first | rw [if_pos (by omega)] | rw [if_neg (by omega)])))))
                           rcases k39 with _ | _ | _ | _ | _ | _ | k39
                           · first
                             | (exfalso; omega)
                             | (first | refine J.aload_n (pc' := 77) rfl rfl rfl ?_ | refine J.aload_nN (pc' := 77) rfl rfl rfl ?_
                                refine J.mgR (pc' := 80) (t := 127) B rfl fl_X12_64 rfl rfl (by decide) rfl ?_
                                refine J.iload_n (pc' := 81) rfl rfl rfl ?_
                                refine J.mald (pc' := 82) B rfl rfl rfl (by omega) (by simp only [jLn]; omega) rfl ?_
                                refine J.iret rfl rfl (by first | omega | (exact R.r _ _) | (simp only [jM.len_sI, jM.len_sL, jM.len_sR, jM.len_fI, jM.len_fL, jM.len_fR]; omega) | (simp [jM.len_nw, jM.len_sI, jM.len_sL, jM.len_sR, jM.len_fI, jM.len_fL, jM.len_fR, *]; omega)) (by first | omega | (exact R.r _ _) | (simp only [jM.len_sI, jM.len_sL, jM.len_sR, jM.len_fI, jM.len_fL, jM.len_fR]; omega) | (simp [jM.len_nw, jM.len_sI, jM.len_sL, jM.len_sR, jM.len_fI, jM.len_fL, jM.len_fR, *]; omega)) ?_
                                exact mQ.of (by unfold sp_told toldV; (repeat (first | rw [if_pos (by omega)] | rw [if_neg (by omega)]))))
                           · first
                             | (exfalso; omega)
                             | (first | refine J.aload_n (pc' := 84) rfl rfl rfl ?_ | refine J.aload_nN (pc' := 84) rfl rfl rfl ?_
                                refine J.mgR (pc' := 87) (t := 128) B rfl fl_X12_67 rfl rfl (by decide) rfl ?_
                                refine J.iload_n (pc' := 88) rfl rfl rfl ?_
                                refine J.mald (pc' := 89) B rfl rfl rfl (by omega) (by simp only [jLn]; omega) rfl ?_
                                refine J.iret rfl rfl (by first | omega | (exact R.r _ _) | (simp only [jM.len_sI, jM.len_sL, jM.len_sR, jM.len_fI, jM.len_fL, jM.len_fR]; omega) | (simp [jM.len_nw, jM.len_sI, jM.len_sL, jM.len_sR, jM.len_fI, jM.len_fL, jM.len_fR, *]; omega)) (by first | omega | (exact R.r _ _) | (simp only [jM.len_sI, jM.len_sL, jM.len_sR, jM.len_fI, jM.len_fL, jM.len_fR]; omega) | (simp [jM.len_nw, jM.len_sI, jM.len_sL, jM.len_sR, jM.len_fI, jM.len_fL, jM.len_fR, *]; omega)) ?_
                                exact mQ.of (by unfold sp_told toldV; (repeat (first | rw [if_pos (by omega)] | rw [if_neg (by omega)]))))
                           · first
                             | (exfalso; omega)
                             | (first | refine J.aload_n (pc' := 91) rfl rfl rfl ?_ | refine J.aload_nN (pc' := 91) rfl rfl rfl ?_
                                refine J.mgR (pc' := 94) (t := 129) B rfl fl_X12_70 rfl rfl (by decide) rfl ?_
                                refine J.iload_n (pc' := 95) rfl rfl rfl ?_
                                refine J.mald (pc' := 96) B rfl rfl rfl (by omega) (by simp only [jLn]; omega) rfl ?_
                                refine J.iret rfl rfl (by first | omega | (exact R.r _ _) | (simp only [jM.len_sI, jM.len_sL, jM.len_sR, jM.len_fI, jM.len_fL, jM.len_fR]; omega) | (simp [jM.len_nw, jM.len_sI, jM.len_sL, jM.len_sR, jM.len_fI, jM.len_fL, jM.len_fR, *]; omega)) (by first | omega | (exact R.r _ _) | (simp only [jM.len_sI, jM.len_sL, jM.len_sR, jM.len_fI, jM.len_fL, jM.len_fR]; omega) | (simp [jM.len_nw, jM.len_sI, jM.len_sL, jM.len_sR, jM.len_fI, jM.len_fL, jM.len_fR, *]; omega)) ?_
                                exact mQ.of (by unfold sp_told toldV; (repeat (first | rw [if_pos (by omega)] | rw [if_neg (by omega)]))))
                           · first
                             | (exfalso; omega)
                             | (first | refine J.aload_n (pc' := 98) rfl rfl rfl ?_ | refine J.aload_nN (pc' := 98) rfl rfl rfl ?_
                                refine J.mgR (pc' := 101) (t := 130) B rfl fl_X12_73 rfl rfl (by decide) rfl ?_
                                refine J.iload_n (pc' := 102) rfl rfl rfl ?_
                                refine J.mald (pc' := 103) B rfl rfl rfl (by omega) (by simp only [jLn]; omega) rfl ?_
                                refine J.iret rfl rfl (by first | omega | (exact R.r _ _) | (simp only [jM.len_sI, jM.len_sL, jM.len_sR, jM.len_fI, jM.len_fL, jM.len_fR]; omega) | (simp [jM.len_nw, jM.len_sI, jM.len_sL, jM.len_sR, jM.len_fI, jM.len_fL, jM.len_fR, *]; omega)) (by first | omega | (exact R.r _ _) | (simp only [jM.len_sI, jM.len_sL, jM.len_sR, jM.len_fI, jM.len_fL, jM.len_fR]; omega) | (simp [jM.len_nw, jM.len_sI, jM.len_sL, jM.len_sR, jM.len_fI, jM.len_fL, jM.len_fR, *]; omega)) ?_
                                exact mQ.of (by unfold sp_told toldV; (repeat (first | rw [if_pos (by omega)] | rw [if_neg (by omega)]))))
                           · first
                             | (exfalso; omega)
                             | (first | refine J.aload_n (pc' := 105) rfl rfl rfl ?_ | refine J.aload_nN (pc' := 105) rfl rfl rfl ?_
                                refine J.mgR (pc' := 108) (t := 132) B rfl fl_X12_79 rfl rfl (by decide) rfl ?_
                                refine J.iload_n (pc' := 109) rfl rfl rfl ?_
                                refine J.mald (pc' := 110) B rfl rfl rfl (by omega) (by simp only [jLn]; omega) rfl ?_
                                refine J.iret rfl rfl (by first | omega | (exact R.r _ _) | (simp only [jM.len_sI, jM.len_sL, jM.len_sR, jM.len_fI, jM.len_fL, jM.len_fR]; omega) | (simp [jM.len_nw, jM.len_sI, jM.len_sL, jM.len_sR, jM.len_fI, jM.len_fL, jM.len_fR, *]; omega)) (by first | omega | (exact R.r _ _) | (simp only [jM.len_sI, jM.len_sL, jM.len_sR, jM.len_fI, jM.len_fL, jM.len_fR]; omega) | (simp [jM.len_nw, jM.len_sI, jM.len_sL, jM.len_sR, jM.len_fI, jM.len_fL, jM.len_fR, *]; omega)) ?_
                                exact mQ.of (by unfold sp_told toldV; (repeat (first | rw [if_pos (by omega)] | rw [if_neg (by omega)]))))
                           · first
                             | (exfalso; omega)
                             | (first | refine J.aload_n (pc' := 112) rfl rfl rfl ?_ | refine J.aload_nN (pc' := 112) rfl rfl rfl ?_
                                refine J.mgR (pc' := 115) (t := 133) B rfl fl_X12_82 rfl rfl (by decide) rfl ?_
                                refine J.iload_n (pc' := 116) rfl rfl rfl ?_
                                refine J.mald (pc' := 117) B rfl rfl rfl (by omega) (by simp only [jLn]; omega) rfl ?_
                                refine J.iret rfl rfl (by first | omega | (exact R.r _ _) | (simp only [jM.len_sI, jM.len_sL, jM.len_sR, jM.len_fI, jM.len_fL, jM.len_fR]; omega) | (simp [jM.len_nw, jM.len_sI, jM.len_sL, jM.len_sR, jM.len_fI, jM.len_fL, jM.len_fR, *]; omega)) (by first | omega | (exact R.r _ _) | (simp only [jM.len_sI, jM.len_sL, jM.len_sR, jM.len_fI, jM.len_fL, jM.len_fR]; omega) | (simp [jM.len_nw, jM.len_sI, jM.len_sL, jM.len_sR, jM.len_fI, jM.len_fL, jM.len_fR, *]; omega)) ?_
                                exact mQ.of (by unfold sp_told toldV; (repeat (first | rw [if_pos (by omega)] | rw [if_neg (by omega)]))))
                           · omega)
                      · first
                        | (exfalso; omega)
                        | (refine J.iconst (pc' := 37) rfl rfl ?_
                           refine J.iret rfl rfl (by first | omega | (exact R.r _ _) | (simp only [jM.len_sI, jM.len_sL, jM.len_sR, jM.len_fI, jM.len_fL, jM.len_fR]; omega) | (simp [jM.len_nw, jM.len_sI, jM.len_sL, jM.len_sR, jM.len_fI, jM.len_fL, jM.len_fR, *]; omega)) (by first | omega | (exact R.r _ _) | (simp only [jM.len_sI, jM.len_sL, jM.len_sR, jM.len_fI, jM.len_fL, jM.len_fR]; omega) | (simp [jM.len_nw, jM.len_sI, jM.len_sL, jM.len_sR, jM.len_fI, jM.len_fL, jM.len_fR, *]; omega)) ?_
                           exact mQ.of (by unfold sp_told toldV; (repeat (first | rw [if_pos (by omega)] | rw [if_neg (by omega)]))))))))
  · first
    | (exfalso; omega)
    | (refine J.if_eq (tgt := 36) (pc' := 13) rfl rfl rfl (by first | omega | (exact R.r _ _) | (simp only [jM.len_sI, jM.len_sL, jM.len_sR, jM.len_fI, jM.len_fL, jM.len_fR]; omega) | (simp [jM.len_nw, jM.len_sI, jM.len_sL, jM.len_sR, jM.len_fI, jM.len_fL, jM.len_fR, *]; omega)) (fun c10 => ?_) (fun c10 => ?_)
       · first
         | (exfalso; omega)
         | (refine J.iconst (pc' := 37) rfl rfl ?_
            refine J.iret rfl rfl (by first | omega | (exact R.r _ _) | (simp only [jM.len_sI, jM.len_sL, jM.len_sR, jM.len_fI, jM.len_fL, jM.len_fR]; omega) | (simp [jM.len_nw, jM.len_sI, jM.len_sL, jM.len_sR, jM.len_fI, jM.len_fL, jM.len_fR, *]; omega)) (by first | omega | (exact R.r _ _) | (simp only [jM.len_sI, jM.len_sL, jM.len_sR, jM.len_fI, jM.len_fL, jM.len_fR]; omega) | (simp [jM.len_nw, jM.len_sI, jM.len_sL, jM.len_sR, jM.len_fI, jM.len_fL, jM.len_fR, *]; omega)) ?_
            exact mQ.of (by unfold sp_told toldV; (repeat (first | rw [if_pos (by omega)] | rw [if_neg (by omega)]))))
       · first
         | (exfalso; omega)
         | (first | refine J.aload_n (pc' := 14) rfl rfl rfl ?_ | refine J.aload_nN (pc' := 14) rfl rfl rfl ?_
            refine J.iload_n (pc' := 15) rfl rfl rfl ?_
            refine J.if_lt (tgt := 28) (pc' := 18) rfl rfl rfl (by first | omega | (exact R.r _ _) | (simp only [jM.len_sI, jM.len_sL, jM.len_sR, jM.len_fI, jM.len_fL, jM.len_fR]; omega) | (simp [jM.len_nw, jM.len_sI, jM.len_sL, jM.len_sR, jM.len_fI, jM.len_fL, jM.len_fR, *]; omega)) (fun c15 => ?_) (fun c15 => ?_)
            · first
              | (exfalso; omega)
              | (refine J.iconst (pc' := 29) rfl rfl ?_
                 refine J.iconst (pc' := 30) rfl rfl ?_
                 first | refine J.callV (pc' := 33) (t := 16) rfl MX12_may ml_X12_161 iv_X12_may (by decide) ⟨_, rfl, rfl⟩ B.1 (cm_may1 B h0) rfl rfl (Nat.le_of_ble_eq_true rfl) (by first | omega | (exact R.r _ _) | (simp only [jM.len_sI, jM.len_sL, jM.len_sR, jM.len_fI, jM.len_fL, jM.len_fR]; omega) | (simp [jM.len_nw, jM.len_sI, jM.len_sL, jM.len_sR, jM.len_fI, jM.len_fL, jM.len_fR, *]; omega)) (by first | omega | (exact R.r _ _) | (simp only [jM.len_sI, jM.len_sL, jM.len_sR, jM.len_fI, jM.len_fL, jM.len_fR]; omega) | (simp [jM.len_nw, jM.len_sI, jM.len_sL, jM.len_sR, jM.len_fI, jM.len_fL, jM.len_fR, *]; omega)) (by first | omega | (exact R.r _ _) | (simp only [jM.len_sI, jM.len_sL, jM.len_sR, jM.len_fI, jM.len_fL, jM.len_fR]; omega) | (simp [jM.len_nw, jM.len_sI, jM.len_sL, jM.len_sR, jM.len_fI, jM.len_fL, jM.len_fR, *]; omega)) rfl rfl ?_ ?_ | refine J.callV (pc' := 33) (t := 16) rfl MX12_may ml_X12_161 iv_X12_may (by decide) ⟨_, rfl, rfl⟩ B.1 (cm_may0 B h0 (by omega)) rfl rfl (Nat.le_of_ble_eq_true rfl) (by first | omega | (exact R.r _ _) | (simp only [jM.len_sI, jM.len_sL, jM.len_sR, jM.len_fI, jM.len_fL, jM.len_fR]; omega) | (simp [jM.len_nw, jM.len_sI, jM.len_sL, jM.len_sR, jM.len_fI, jM.len_fL, jM.len_fR, *]; omega)) (by first | omega | (exact R.r _ _) | (simp only [jM.len_sI, jM.len_sL, jM.len_sR, jM.len_fI, jM.len_fL, jM.len_fR]; omega) | (simp [jM.len_nw, jM.len_sI, jM.len_sL, jM.len_sR, jM.len_fI, jM.len_fL, jM.len_fR, *]; omega)) (by first | omega | (exact R.r _ _) | (simp only [jM.len_sI, jM.len_sL, jM.len_sR, jM.len_fI, jM.len_fL, jM.len_fR]; omega) | (simp [jM.len_nw, jM.len_sI, jM.len_sL, jM.len_sR, jM.len_fI, jM.len_fL, jM.len_fR, *]; omega)) rfl rfl ?_ ?_
                 · exact fun _ _ h => h
                 rintro _ _ ⟨rfl, rfl⟩
                 refine J.if_ne (tgt := 38) (pc' := 36) rfl rfl rfl (by first | omega | (exact R.r _ _) | (simp only [jM.len_sI, jM.len_sL, jM.len_sR, jM.len_fI, jM.len_fL, jM.len_fR]; omega) | (simp [jM.len_nw, jM.len_sI, jM.len_sL, jM.len_sR, jM.len_fI, jM.len_fL, jM.len_fR, *]; omega)) (fun c33 => ?_) (fun c33 => ?_)
                 · first
                   | (exfalso; omega)
                   | (refine J.iload_n (pc' := 39) rfl rfl rfl ?_
                      refine J.tsw (tgt := 118) (n := 6) (T := jNth [76, 83, 90, 97, 104, 111]) rfl (by first | omega | (exact R.r _ _) | (simp only [jM.len_sI, jM.len_sL, jM.len_sR, jM.len_fI, jM.len_fL, jM.len_fR]; omega) | (simp [jM.len_nw, jM.len_sI, jM.len_sL, jM.len_sR, jM.len_fI, jM.len_fL, jM.len_fR, *]; omega)) rfl rfl (fun k hk => by rcases k with _ | _ | _ | _ | _ | _ | k <;> first | exact ⟨_, rfl, rfl⟩ | omega) (fun c39 => ?_) (fun k39 hk39 c39 => ?_)
                      · first
                        | (exfalso; omega)
                        | (refine J.iload_n (pc' := 119) rfl rfl rfl ?_
                           refine J.iconst (pc' := 120) rfl rfl ?_
                           refine J.irem (pc' := 121) rfl rfl (by first | omega | (exact R.r _ _) | (simp only [jM.len_sI, jM.len_sL, jM.len_sR, jM.len_fI, jM.len_fL, jM.len_fR]; omega) | (simp [jM.len_nw, jM.len_sI, jM.len_sL, jM.len_sR, jM.len_fI, jM.len_fL, jM.len_fR, *]; omega)) (by first | omega | (exact R.r _ _) | (simp only [jM.len_sI, jM.len_sL, jM.len_sR, jM.len_fI, jM.len_fL, jM.len_fR]; omega) | (simp [jM.len_nw, jM.len_sI, jM.len_sL, jM.len_sR, jM.len_fI, jM.len_fL, jM.len_fR, *]; omega)) (by first | omega | (exact R.r _ _) | (simp only [jM.len_sI, jM.len_sL, jM.len_sR, jM.len_fI, jM.len_fL, jM.len_fR]; omega) | (simp [jM.len_nw, jM.len_sI, jM.len_sL, jM.len_sR, jM.len_fI, jM.len_fL, jM.len_fR, *]; omega)) ?_
                           rw [Int.tmod_eq_emod_of_nonneg (by omega)]
                           refine J.if_ne (tgt := 142) (pc' := 124) rfl rfl rfl (by first | omega | (exact R.r _ _) | (simp only [jM.len_sI, jM.len_sL, jM.len_sR, jM.len_fI, jM.len_fL, jM.len_fR]; omega) | (simp [jM.len_nw, jM.len_sI, jM.len_sL, jM.len_sR, jM.len_fI, jM.len_fL, jM.len_fR, *]; omega)) (fun c121 => ?_) (fun c121 => ?_)
                           · first
                             | (exfalso; omega)
                             | (first | refine J.aload_n (pc' := 143) rfl rfl rfl ?_ | refine J.aload_nN (pc' := 143) rfl rfl rfl ?_
                                refine J.mgR (pc' := 146) (t := 135) B rfl fl_X12_88 rfl rfl (by decide) rfl ?_
                                refine J.iconst (pc' := 147) rfl rfl ?_
                                refine J.iload_n (pc' := 148) rfl rfl rfl ?_
                                refine J.imul (pc' := 149) rfl rfl ?_
                                refine J.iload_n (pc' := 150) rfl rfl rfl ?_
                                refine J.bipush (pc' := 152) rfl rfl (by decide) ?_
                                refine J.isub (pc' := 153) rfl rfl ?_
                                refine J.iconst (pc' := 154) rfl rfl ?_
                                refine J.idiv (pc' := 155) rfl rfl (by first | omega | (exact R.r _ _) | (simp only [jM.len_sI, jM.len_sL, jM.len_sR, jM.len_fI, jM.len_fL, jM.len_fR]; omega) | (simp [jM.len_nw, jM.len_sI, jM.len_sL, jM.len_sR, jM.len_fI, jM.len_fL, jM.len_fR, *]; omega)) (by first | omega | (exact R.r _ _) | (simp only [jM.len_sI, jM.len_sL, jM.len_sR, jM.len_fI, jM.len_fL, jM.len_fR]; omega) | (simp [jM.len_nw, jM.len_sI, jM.len_sL, jM.len_sR, jM.len_fI, jM.len_fL, jM.len_fR, *]; omega)) (by first | omega | (exact R.r _ _) | (simp only [jM.len_sI, jM.len_sL, jM.len_sR, jM.len_fI, jM.len_fL, jM.len_fR]; omega) | (simp [jM.len_nw, jM.len_sI, jM.len_sL, jM.len_sR, jM.len_fI, jM.len_fL, jM.len_fR, *]; omega)) ?_
                                rw [Int.tdiv_eq_ediv_of_nonneg (by omega)]
                                refine J.iadd (pc' := 156) rfl rfl ?_
                                refine J.mald (pc' := 157) B rfl rfl rfl (by omega) (by simp only [jLn]; omega) rfl ?_
                                refine J.iret rfl rfl (by first | omega | (exact R.r _ _) | (simp only [jM.len_sI, jM.len_sL, jM.len_sR, jM.len_fI, jM.len_fL, jM.len_fR]; omega) | (simp [jM.len_nw, jM.len_sI, jM.len_sL, jM.len_sR, jM.len_fI, jM.len_fL, jM.len_fR, *]; omega)) (by first | omega | (exact R.r _ _) | (simp only [jM.len_sI, jM.len_sL, jM.len_sR, jM.len_fI, jM.len_fL, jM.len_fR]; omega) | (simp [jM.len_nw, jM.len_sI, jM.len_sL, jM.len_sR, jM.len_fI, jM.len_fL, jM.len_fR, *]; omega)) ?_
                                exact mQ.of (by unfold sp_told toldV; (repeat (first | rw [if_pos (by omega)] | rw [if_neg (by omega)]))))
                           · first
                             | (exfalso; omega)
                             | (first | refine J.aload_n (pc' := 125) rfl rfl rfl ?_ | refine J.aload_nN (pc' := 125) rfl rfl rfl ?_
                                refine J.mgR (pc' := 128) (t := 134) B rfl fl_X12_85 rfl rfl (by decide) rfl ?_
                                refine J.iconst (pc' := 129) rfl rfl ?_
                                refine J.iload_n (pc' := 130) rfl rfl rfl ?_
                                refine J.imul (pc' := 131) rfl rfl ?_
                                refine J.iload_n (pc' := 132) rfl rfl rfl ?_
                                refine J.bipush (pc' := 134) rfl rfl (by decide) ?_
                                refine J.isub (pc' := 135) rfl rfl ?_
                                refine J.iconst (pc' := 136) rfl rfl ?_
                                refine J.idiv (pc' := 137) rfl rfl (by first | omega | (exact R.r _ _) | (simp only [jM.len_sI, jM.len_sL, jM.len_sR, jM.len_fI, jM.len_fL, jM.len_fR]; omega) | (simp [jM.len_nw, jM.len_sI, jM.len_sL, jM.len_sR, jM.len_fI, jM.len_fL, jM.len_fR, *]; omega)) (by first | omega | (exact R.r _ _) | (simp only [jM.len_sI, jM.len_sL, jM.len_sR, jM.len_fI, jM.len_fL, jM.len_fR]; omega) | (simp [jM.len_nw, jM.len_sI, jM.len_sL, jM.len_sR, jM.len_fI, jM.len_fL, jM.len_fR, *]; omega)) (by first | omega | (exact R.r _ _) | (simp only [jM.len_sI, jM.len_sL, jM.len_sR, jM.len_fI, jM.len_fL, jM.len_fR]; omega) | (simp [jM.len_nw, jM.len_sI, jM.len_sL, jM.len_sR, jM.len_fI, jM.len_fL, jM.len_fR, *]; omega)) ?_
                                rw [Int.tdiv_eq_ediv_of_nonneg (by omega)]
                                refine J.iadd (pc' := 138) rfl rfl ?_
                                refine J.mald (pc' := 139) B rfl rfl rfl (by omega) (by simp only [jLn]; omega) rfl ?_
                                refine J.goto (tgt := 157) rfl rfl ?_
                                refine J.iret rfl rfl (by first | omega | (exact R.r _ _) | (simp only [jM.len_sI, jM.len_sL, jM.len_sR, jM.len_fI, jM.len_fL, jM.len_fR]; omega) | (simp [jM.len_nw, jM.len_sI, jM.len_sL, jM.len_sR, jM.len_fI, jM.len_fL, jM.len_fR, *]; omega)) (by first | omega | (exact R.r _ _) | (simp only [jM.len_sI, jM.len_sL, jM.len_sR, jM.len_fI, jM.len_fL, jM.len_fR]; omega) | (simp [jM.len_nw, jM.len_sI, jM.len_sL, jM.len_sR, jM.len_fI, jM.len_fL, jM.len_fR, *]; omega)) ?_
                                exact mQ.of (by unfold sp_told toldV; (repeat (first | rw [if_pos (by omega)] | rw [if_neg (by omega)])))))
                      rcases k39 with _ | _ | _ | _ | _ | _ | k39
                      · first
                        | (exfalso; omega)
                        | (first | refine J.aload_n (pc' := 77) rfl rfl rfl ?_ | refine J.aload_nN (pc' := 77) rfl rfl rfl ?_
                           refine J.mgR (pc' := 80) (t := 127) B rfl fl_X12_64 rfl rfl (by decide) rfl ?_
                           refine J.iload_n (pc' := 81) rfl rfl rfl ?_
                           refine J.mald (pc' := 82) B rfl rfl rfl (by omega) (by simp only [jLn]; omega) rfl ?_
                           refine J.iret rfl rfl (by first | omega | (exact R.r _ _) | (simp only [jM.len_sI, jM.len_sL, jM.len_sR, jM.len_fI, jM.len_fL, jM.len_fR]; omega) | (simp [jM.len_nw, jM.len_sI, jM.len_sL, jM.len_sR, jM.len_fI, jM.len_fL, jM.len_fR, *]; omega)) (by first | omega | (exact R.r _ _) | (simp only [jM.len_sI, jM.len_sL, jM.len_sR, jM.len_fI, jM.len_fL, jM.len_fR]; omega) | (simp [jM.len_nw, jM.len_sI, jM.len_sL, jM.len_sR, jM.len_fI, jM.len_fL, jM.len_fR, *]; omega)) ?_
                           exact mQ.of (by unfold sp_told toldV; (repeat (first | rw [if_pos (by omega)] | rw [if_neg (by omega)]))))
                      · first
                        | (exfalso; omega)
                        | (first | refine J.aload_n (pc' := 84) rfl rfl rfl ?_ | refine J.aload_nN (pc' := 84) rfl rfl rfl ?_
                           refine J.mgR (pc' := 87) (t := 128) B rfl fl_X12_67 rfl rfl (by decide) rfl ?_
                           refine J.iload_n (pc' := 88) rfl rfl rfl ?_
                           refine J.mald (pc' := 89) B rfl rfl rfl (by omega) (by simp only [jLn]; omega) rfl ?_
                           refine J.iret rfl rfl (by first | omega | (exact R.r _ _) | (simp only [jM.len_sI, jM.len_sL, jM.len_sR, jM.len_fI, jM.len_fL, jM.len_fR]; omega) | (simp [jM.len_nw, jM.len_sI, jM.len_sL, jM.len_sR, jM.len_fI, jM.len_fL, jM.len_fR, *]; omega)) (by first | omega | (exact R.r _ _) | (simp only [jM.len_sI, jM.len_sL, jM.len_sR, jM.len_fI, jM.len_fL, jM.len_fR]; omega) | (simp [jM.len_nw, jM.len_sI, jM.len_sL, jM.len_sR, jM.len_fI, jM.len_fL, jM.len_fR, *]; omega)) ?_
                           exact mQ.of (by unfold sp_told toldV; (repeat (first | rw [if_pos (by omega)] | rw [if_neg (by omega)]))))
                      · first
                        | (exfalso; omega)
                        | (first | refine J.aload_n (pc' := 91) rfl rfl rfl ?_ | refine J.aload_nN (pc' := 91) rfl rfl rfl ?_
                           refine J.mgR (pc' := 94) (t := 129) B rfl fl_X12_70 rfl rfl (by decide) rfl ?_
                           refine J.iload_n (pc' := 95) rfl rfl rfl ?_
                           refine J.mald (pc' := 96) B rfl rfl rfl (by omega) (by simp only [jLn]; omega) rfl ?_
                           refine J.iret rfl rfl (by first | omega | (exact R.r _ _) | (simp only [jM.len_sI, jM.len_sL, jM.len_sR, jM.len_fI, jM.len_fL, jM.len_fR]; omega) | (simp [jM.len_nw, jM.len_sI, jM.len_sL, jM.len_sR, jM.len_fI, jM.len_fL, jM.len_fR, *]; omega)) (by first | omega | (exact R.r _ _) | (simp only [jM.len_sI, jM.len_sL, jM.len_sR, jM.len_fI, jM.len_fL, jM.len_fR]; omega) | (simp [jM.len_nw, jM.len_sI, jM.len_sL, jM.len_sR, jM.len_fI, jM.len_fL, jM.len_fR, *]; omega)) ?_
                           exact mQ.of (by unfold sp_told toldV; (repeat (first | rw [if_pos (by omega)] | rw [if_neg (by omega)]))))
                      · first
                        | (exfalso; omega)
                        | (first | refine J.aload_n (pc' := 98) rfl rfl rfl ?_ | refine J.aload_nN (pc' := 98) rfl rfl rfl ?_
                           refine J.mgR (pc' := 101) (t := 130) B rfl fl_X12_73 rfl rfl (by decide) rfl ?_
                           refine J.iload_n (pc' := 102) rfl rfl rfl ?_
                           refine J.mald (pc' := 103) B rfl rfl rfl (by omega) (by simp only [jLn]; omega) rfl ?_
                           refine J.iret rfl rfl (by first | omega | (exact R.r _ _) | (simp only [jM.len_sI, jM.len_sL, jM.len_sR, jM.len_fI, jM.len_fL, jM.len_fR]; omega) | (simp [jM.len_nw, jM.len_sI, jM.len_sL, jM.len_sR, jM.len_fI, jM.len_fL, jM.len_fR, *]; omega)) (by first | omega | (exact R.r _ _) | (simp only [jM.len_sI, jM.len_sL, jM.len_sR, jM.len_fI, jM.len_fL, jM.len_fR]; omega) | (simp [jM.len_nw, jM.len_sI, jM.len_sL, jM.len_sR, jM.len_fI, jM.len_fL, jM.len_fR, *]; omega)) ?_
                           exact mQ.of (by unfold sp_told toldV; (repeat (first | rw [if_pos (by omega)] | rw [if_neg (by omega)]))))
                      · first
                        | (exfalso; omega)
                        | (first | refine J.aload_n (pc' := 105) rfl rfl rfl ?_ | refine J.aload_nN (pc' := 105) rfl rfl rfl ?_
                           refine J.mgR (pc' := 108) (t := 132) B rfl fl_X12_79 rfl rfl (by decide) rfl ?_
                           refine J.iload_n (pc' := 109) rfl rfl rfl ?_
                           refine J.mald (pc' := 110) B rfl rfl rfl (by omega) (by simp only [jLn]; omega) rfl ?_
                           refine J.iret rfl rfl (by first | omega | (exact R.r _ _) | (simp only [jM.len_sI, jM.len_sL, jM.len_sR, jM.len_fI, jM.len_fL, jM.len_fR]; omega) | (simp [jM.len_nw, jM.len_sI, jM.len_sL, jM.len_sR, jM.len_fI, jM.len_fL, jM.len_fR, *]; omega)) (by first | omega | (exact R.r _ _) | (simp only [jM.len_sI, jM.len_sL, jM.len_sR, jM.len_fI, jM.len_fL, jM.len_fR]; omega) | (simp [jM.len_nw, jM.len_sI, jM.len_sL, jM.len_sR, jM.len_fI, jM.len_fL, jM.len_fR, *]; omega)) ?_
                           exact mQ.of (by unfold sp_told toldV; (repeat (first | rw [if_pos (by omega)] | rw [if_neg (by omega)]))))
                      · first
                        | (exfalso; omega)
                        | (first | refine J.aload_n (pc' := 112) rfl rfl rfl ?_ | refine J.aload_nN (pc' := 112) rfl rfl rfl ?_
                           refine J.mgR (pc' := 115) (t := 133) B rfl fl_X12_82 rfl rfl (by decide) rfl ?_
                           refine J.iload_n (pc' := 116) rfl rfl rfl ?_
                           refine J.mald (pc' := 117) B rfl rfl rfl (by omega) (by simp only [jLn]; omega) rfl ?_
                           refine J.iret rfl rfl (by first | omega | (exact R.r _ _) | (simp only [jM.len_sI, jM.len_sL, jM.len_sR, jM.len_fI, jM.len_fL, jM.len_fR]; omega) | (simp [jM.len_nw, jM.len_sI, jM.len_sL, jM.len_sR, jM.len_fI, jM.len_fL, jM.len_fR, *]; omega)) (by first | omega | (exact R.r _ _) | (simp only [jM.len_sI, jM.len_sL, jM.len_sR, jM.len_fI, jM.len_fL, jM.len_fR]; omega) | (simp [jM.len_nw, jM.len_sI, jM.len_sL, jM.len_sR, jM.len_fI, jM.len_fL, jM.len_fR, *]; omega)) ?_
                           exact mQ.of (by unfold sp_told toldV; (repeat (first | rw [if_pos (by omega)] | rw [if_neg (by omega)]))))
                      · omega)
                 · first
                   | (exfalso; omega)
                   | (refine J.iconst (pc' := 37) rfl rfl ?_
                      refine J.iret rfl rfl (by first | omega | (exact R.r _ _) | (simp only [jM.len_sI, jM.len_sL, jM.len_sR, jM.len_fI, jM.len_fL, jM.len_fR]; omega) | (simp [jM.len_nw, jM.len_sI, jM.len_sL, jM.len_sR, jM.len_fI, jM.len_fL, jM.len_fR, *]; omega)) (by first | omega | (exact R.r _ _) | (simp only [jM.len_sI, jM.len_sL, jM.len_sR, jM.len_fI, jM.len_fL, jM.len_fR]; omega) | (simp [jM.len_nw, jM.len_sI, jM.len_sL, jM.len_sR, jM.len_fI, jM.len_fL, jM.len_fR, *]; omega)) ?_
                      exact mQ.of (by unfold sp_told toldV; (repeat (first | rw [if_pos (by omega)] | rw [if_neg (by omega)])))))
            · first
              | (exfalso; omega)
              | (refine J.iload_n (pc' := 19) rfl rfl rfl ?_
                 refine J.bipush (pc' := 21) rfl rfl (by decide) ?_
                 refine J.icmp_ge (tgt := 28) (pc' := 24) rfl rfl rfl (by first | omega | (exact R.r _ _) | (simp only [jM.len_sI, jM.len_sL, jM.len_sR, jM.len_fI, jM.len_fL, jM.len_fR]; omega) | (simp [jM.len_nw, jM.len_sI, jM.len_sL, jM.len_sR, jM.len_fI, jM.len_fL, jM.len_fR, *]; omega)) (by first | omega | (exact R.r _ _) | (simp only [jM.len_sI, jM.len_sL, jM.len_sR, jM.len_fI, jM.len_fL, jM.len_fR]; omega) | (simp [jM.len_nw, jM.len_sI, jM.len_sL, jM.len_sR, jM.len_fI, jM.len_fL, jM.len_fR, *]; omega)) (fun c21 => ?_) (fun c21 => ?_)
                 · first
                   | (exfalso; omega)
                   | (refine J.iconst (pc' := 29) rfl rfl ?_
                      refine J.iconst (pc' := 30) rfl rfl ?_
                      first | refine J.callV (pc' := 33) (t := 16) rfl MX12_may ml_X12_161 iv_X12_may (by decide) ⟨_, rfl, rfl⟩ B.1 (cm_may1 B h0) rfl rfl (Nat.le_of_ble_eq_true rfl) (by first | omega | (exact R.r _ _) | (simp only [jM.len_sI, jM.len_sL, jM.len_sR, jM.len_fI, jM.len_fL, jM.len_fR]; omega) | (simp [jM.len_nw, jM.len_sI, jM.len_sL, jM.len_sR, jM.len_fI, jM.len_fL, jM.len_fR, *]; omega)) (by first | omega | (exact R.r _ _) | (simp only [jM.len_sI, jM.len_sL, jM.len_sR, jM.len_fI, jM.len_fL, jM.len_fR]; omega) | (simp [jM.len_nw, jM.len_sI, jM.len_sL, jM.len_sR, jM.len_fI, jM.len_fL, jM.len_fR, *]; omega)) (by first | omega | (exact R.r _ _) | (simp only [jM.len_sI, jM.len_sL, jM.len_sR, jM.len_fI, jM.len_fL, jM.len_fR]; omega) | (simp [jM.len_nw, jM.len_sI, jM.len_sL, jM.len_sR, jM.len_fI, jM.len_fL, jM.len_fR, *]; omega)) rfl rfl ?_ ?_ | refine J.callV (pc' := 33) (t := 16) rfl MX12_may ml_X12_161 iv_X12_may (by decide) ⟨_, rfl, rfl⟩ B.1 (cm_may0 B h0 (by omega)) rfl rfl (Nat.le_of_ble_eq_true rfl) (by first | omega | (exact R.r _ _) | (simp only [jM.len_sI, jM.len_sL, jM.len_sR, jM.len_fI, jM.len_fL, jM.len_fR]; omega) | (simp [jM.len_nw, jM.len_sI, jM.len_sL, jM.len_sR, jM.len_fI, jM.len_fL, jM.len_fR, *]; omega)) (by first | omega | (exact R.r _ _) | (simp only [jM.len_sI, jM.len_sL, jM.len_sR, jM.len_fI, jM.len_fL, jM.len_fR]; omega) | (simp [jM.len_nw, jM.len_sI, jM.len_sL, jM.len_sR, jM.len_fI, jM.len_fL, jM.len_fR, *]; omega)) (by first | omega | (exact R.r _ _) | (simp only [jM.len_sI, jM.len_sL, jM.len_sR, jM.len_fI, jM.len_fL, jM.len_fR]; omega) | (simp [jM.len_nw, jM.len_sI, jM.len_sL, jM.len_sR, jM.len_fI, jM.len_fL, jM.len_fR, *]; omega)) rfl rfl ?_ ?_
                      · exact fun _ _ h => h
                      rintro _ _ ⟨rfl, rfl⟩
                      refine J.if_ne (tgt := 38) (pc' := 36) rfl rfl rfl (by first | omega | (exact R.r _ _) | (simp only [jM.len_sI, jM.len_sL, jM.len_sR, jM.len_fI, jM.len_fL, jM.len_fR]; omega) | (simp [jM.len_nw, jM.len_sI, jM.len_sL, jM.len_sR, jM.len_fI, jM.len_fL, jM.len_fR, *]; omega)) (fun c33 => ?_) (fun c33 => ?_)
                      · first
                        | (exfalso; omega)
                        | (refine J.iload_n (pc' := 39) rfl rfl rfl ?_
                           refine J.tsw (tgt := 118) (n := 6) (T := jNth [76, 83, 90, 97, 104, 111]) rfl (by first | omega | (exact R.r _ _) | (simp only [jM.len_sI, jM.len_sL, jM.len_sR, jM.len_fI, jM.len_fL, jM.len_fR]; omega) | (simp [jM.len_nw, jM.len_sI, jM.len_sL, jM.len_sR, jM.len_fI, jM.len_fL, jM.len_fR, *]; omega)) rfl rfl (fun k hk => by rcases k with _ | _ | _ | _ | _ | _ | k <;> first | exact ⟨_, rfl, rfl⟩ | omega) (fun c39 => ?_) (fun k39 hk39 c39 => ?_)
                           · first
                             | (exfalso; omega)
                             | (refine J.iload_n (pc' := 119) rfl rfl rfl ?_
                                refine J.iconst (pc' := 120) rfl rfl ?_
                                refine J.irem (pc' := 121) rfl rfl (by first | omega | (exact R.r _ _) | (simp only [jM.len_sI, jM.len_sL, jM.len_sR, jM.len_fI, jM.len_fL, jM.len_fR]; omega) | (simp [jM.len_nw, jM.len_sI, jM.len_sL, jM.len_sR, jM.len_fI, jM.len_fL, jM.len_fR, *]; omega)) (by first | omega | (exact R.r _ _) | (simp only [jM.len_sI, jM.len_sL, jM.len_sR, jM.len_fI, jM.len_fL, jM.len_fR]; omega) | (simp [jM.len_nw, jM.len_sI, jM.len_sL, jM.len_sR, jM.len_fI, jM.len_fL, jM.len_fR, *]; omega)) (by first | omega | (exact R.r _ _) | (simp only [jM.len_sI, jM.len_sL, jM.len_sR, jM.len_fI, jM.len_fL, jM.len_fR]; omega) | (simp [jM.len_nw, jM.len_sI, jM.len_sL, jM.len_sR, jM.len_fI, jM.len_fL, jM.len_fR, *]; omega)) ?_
                                rw [Int.tmod_eq_emod_of_nonneg (by omega)]
                                refine J.if_ne (tgt := 142) (pc' := 124) rfl rfl rfl (by first | omega | (exact R.r _ _) | (simp only [jM.len_sI, jM.len_sL, jM.len_sR, jM.len_fI, jM.len_fL, jM.len_fR]; omega) | (simp [jM.len_nw, jM.len_sI, jM.len_sL, jM.len_sR, jM.len_fI, jM.len_fL, jM.len_fR, *]; omega)) (fun c121 => ?_) (fun c121 => ?_)
                                · first
                                  | (exfalso; omega)
                                  | (first | refine J.aload_n (pc' := 143) rfl rfl rfl ?_ | refine J.aload_nN (pc' := 143) rfl rfl rfl ?_
                                     refine J.mgR (pc' := 146) (t := 135) B rfl fl_X12_88 rfl rfl (by decide) rfl ?_
                                     refine J.iconst (pc' := 147) rfl rfl ?_
                                     refine J.iload_n (pc' := 148) rfl rfl rfl ?_
                                     refine J.imul (pc' := 149) rfl rfl ?_
                                     refine J.iload_n (pc' := 150) rfl rfl rfl ?_
                                     refine J.bipush (pc' := 152) rfl rfl (by decide) ?_
                                     refine J.isub (pc' := 153) rfl rfl ?_
                                     refine J.iconst (pc' := 154) rfl rfl ?_
                                     refine J.idiv (pc' := 155) rfl rfl (by first | omega | (exact R.r _ _) | (simp only [jM.len_sI, jM.len_sL, jM.len_sR, jM.len_fI, jM.len_fL, jM.len_fR]; omega) | (simp [jM.len_nw, jM.len_sI, jM.len_sL, jM.len_sR, jM.len_fI, jM.len_fL, jM.len_fR, *]; omega)) (by first | omega | (exact R.r _ _) | (simp only [jM.len_sI, jM.len_sL, jM.len_sR, jM.len_fI, jM.len_fL, jM.len_fR]; omega) | (simp [jM.len_nw, jM.len_sI, jM.len_sL, jM.len_sR, jM.len_fI, jM.len_fL, jM.len_fR, *]; omega)) (by first | omega | (exact R.r _ _) | (simp only [jM.len_sI, jM.len_sL, jM.len_sR, jM.len_fI, jM.len_fL, jM.len_fR]; omega) | (simp [jM.len_nw, jM.len_sI, jM.len_sL, jM.len_sR, jM.len_fI, jM.len_fL, jM.len_fR, *]; omega)) ?_
                                     rw [Int.tdiv_eq_ediv_of_nonneg (by omega)]
                                     refine J.iadd (pc' := 156) rfl rfl ?_
                                     refine J.mald (pc' := 157) B rfl rfl rfl (by omega) (by simp only [jLn]; omega) rfl ?_
                                     refine J.iret rfl rfl (by first | omega | (exact R.r _ _) | (simp only [jM.len_sI, jM.len_sL, jM.len_sR, jM.len_fI, jM.len_fL, jM.len_fR]; omega) | (simp [jM.len_nw, jM.len_sI, jM.len_sL, jM.len_sR, jM.len_fI, jM.len_fL, jM.len_fR, *]; omega)) (by first | omega | (exact R.r _ _) | (simp only [jM.len_sI, jM.len_sL, jM.len_sR, jM.len_fI, jM.len_fL, jM.len_fR]; omega) | (simp [jM.len_nw, jM.len_sI, jM.len_sL, jM.len_sR, jM.len_fI, jM.len_fL, jM.len_fR, *]; omega)) ?_
                                     exact mQ.of (by unfold sp_told toldV; (repeat (first | rw [if_pos (by omega)] | rw [if_neg (by omega)]))))
                                · first
                                  | (exfalso; omega)
                                  | (first | refine J.aload_n (pc' := 125) rfl rfl rfl ?_ | refine J.aload_nN (pc' := 125) rfl rfl rfl ?_
                                     refine J.mgR (pc' := 128) (t := 134) B rfl fl_X12_85 rfl rfl (by decide) rfl ?_
                                     refine J.iconst (pc' := 129) rfl rfl ?_
                                     refine J.iload_n (pc' := 130) rfl rfl rfl ?_
                                     refine J.imul (pc' := 131) rfl rfl ?_
                                     refine J.iload_n (pc' := 132) rfl rfl rfl ?_
                                     refine J.bipush (pc' := 134) rfl rfl (by decide) ?_
                                     refine J.isub (pc' := 135) rfl rfl ?_
                                     refine J.iconst (pc' := 136) rfl rfl ?_
                                     refine J.idiv (pc' := 137) rfl rfl (by first | omega | (exact R.r _ _) | (simp only [jM.len_sI, jM.len_sL, jM.len_sR, jM.len_fI, jM.len_fL, jM.len_fR]; omega) | (simp [jM.len_nw, jM.len_sI, jM.len_sL, jM.len_sR, jM.len_fI, jM.len_fL, jM.len_fR, *]; omega)) (by first | omega | (exact R.r _ _) | (simp only [jM.len_sI, jM.len_sL, jM.len_sR, jM.len_fI, jM.len_fL, jM.len_fR]; omega) | (simp [jM.len_nw, jM.len_sI, jM.len_sL, jM.len_sR, jM.len_fI, jM.len_fL, jM.len_fR, *]; omega)) (by first | omega | (exact R.r _ _) | (simp only [jM.len_sI, jM.len_sL, jM.len_sR, jM.len_fI, jM.len_fL, jM.len_fR]; omega) | (simp [jM.len_nw, jM.len_sI, jM.len_sL, jM.len_sR, jM.len_fI, jM.len_fL, jM.len_fR, *]; omega)) ?_
                                     rw [Int.tdiv_eq_ediv_of_nonneg (by omega)]
                                     refine J.iadd (pc' := 138) rfl rfl ?_
                                     refine J.mald (pc' := 139) B rfl rfl rfl (by omega) (by simp only [jLn]; omega) rfl ?_
                                     refine J.goto (tgt := 157) rfl rfl ?_
                                     refine J.iret rfl rfl (by first | omega | (exact R.r _ _) | (simp only [jM.len_sI, jM.len_sL, jM.len_sR, jM.len_fI, jM.len_fL, jM.len_fR]; omega) | (simp [jM.len_nw, jM.len_sI, jM.len_sL, jM.len_sR, jM.len_fI, jM.len_fL, jM.len_fR, *]; omega)) (by first | omega | (exact R.r _ _) | (simp only [jM.len_sI, jM.len_sL, jM.len_sR, jM.len_fI, jM.len_fL, jM.len_fR]; omega) | (simp [jM.len_nw, jM.len_sI, jM.len_sL, jM.len_sR, jM.len_fI, jM.len_fL, jM.len_fR, *]; omega)) ?_
                                     exact mQ.of (by unfold sp_told toldV; (repeat (first | rw [if_pos (by omega)] | rw [if_neg (by omega)])))))
                           rcases k39 with _ | _ | _ | _ | _ | _ | k39
                           · first
                             | (exfalso; omega)
                             | (first | refine J.aload_n (pc' := 77) rfl rfl rfl ?_ | refine J.aload_nN (pc' := 77) rfl rfl rfl ?_
                                refine J.mgR (pc' := 80) (t := 127) B rfl fl_X12_64 rfl rfl (by decide) rfl ?_
                                refine J.iload_n (pc' := 81) rfl rfl rfl ?_
                                refine J.mald (pc' := 82) B rfl rfl rfl (by omega) (by simp only [jLn]; omega) rfl ?_
                                refine J.iret rfl rfl (by first | omega | (exact R.r _ _) | (simp only [jM.len_sI, jM.len_sL, jM.len_sR, jM.len_fI, jM.len_fL, jM.len_fR]; omega) | (simp [jM.len_nw, jM.len_sI, jM.len_sL, jM.len_sR, jM.len_fI, jM.len_fL, jM.len_fR, *]; omega)) (by first | omega | (exact R.r _ _) | (simp only [jM.len_sI, jM.len_sL, jM.len_sR, jM.len_fI, jM.len_fL, jM.len_fR]; omega) | (simp [jM.len_nw, jM.len_sI, jM.len_sL, jM.len_sR, jM.len_fI, jM.len_fL, jM.len_fR, *]; omega)) ?_
                                exact mQ.of (by unfold sp_told toldV; (repeat (first | rw [if_pos (by omega)] | rw [if_neg (by omega)]))))
                           · first
                             | (exfalso; omega)
                             | (first | refine J.aload_n (pc' := 84) rfl rfl rfl ?_ | refine J.aload_nN (pc' := 84) rfl rfl rfl ?_
                                refine J.mgR (pc' := 87) (t := 128) B rfl fl_X12_67 rfl rfl (by decide) rfl ?_
                                refine J.iload_n (pc' := 88) rfl rfl rfl ?_
                                refine J.mald (pc' := 89) B rfl rfl rfl (by omega) (by simp only [jLn]; omega) rfl ?_
                                refine J.iret rfl rfl (by first | omega | (exact R.r _ _) | (simp only [jM.len_sI, jM.len_sL, jM.len_sR, jM.len_fI, jM.len_fL, jM.len_fR]; omega) | (simp [jM.len_nw, jM.len_sI, jM.len_sL, jM.len_sR, jM.len_fI, jM.len_fL, jM.len_fR, *]; omega)) (by first | omega | (exact R.r _ _) | (simp only [jM.len_sI, jM.len_sL, jM.len_sR, jM.len_fI, jM.len_fL, jM.len_fR]; omega) | (simp [jM.len_nw, jM.len_sI, jM.len_sL, jM.len_sR, jM.len_fI, jM.len_fL, jM.len_fR, *]; omega)) ?_
                                exact mQ.of (by unfold sp_told toldV; (repeat (first | rw [if_pos (by omega)] | rw [if_neg (by omega)]))))
                           · first
                             | (exfalso; omega)
                             | (first | refine J.aload_n (pc' := 91) rfl rfl rfl ?_ | refine J.aload_nN (pc' := 91) rfl rfl rfl ?_
                                refine J.mgR (pc' := 94) (t := 129) B rfl fl_X12_70 rfl rfl (by decide) rfl ?_
                                refine J.iload_n (pc' := 95) rfl rfl rfl ?_
                                refine J.mald (pc' := 96) B rfl rfl rfl (by omega) (by simp only [jLn]; omega) rfl ?_
                                refine J.iret rfl rfl (by first | omega | (exact R.r _ _) | (simp only [jM.len_sI, jM.len_sL, jM.len_sR, jM.len_fI, jM.len_fL, jM.len_fR]; omega) | (simp [jM.len_nw, jM.len_sI, jM.len_sL, jM.len_sR, jM.len_fI, jM.len_fL, jM.len_fR, *]; omega)) (by first | omega | (exact R.r _ _) | (simp only [jM.len_sI, jM.len_sL, jM.len_sR, jM.len_fI, jM.len_fL, jM.len_fR]; omega) | (simp [jM.len_nw, jM.len_sI, jM.len_sL, jM.len_sR, jM.len_fI, jM.len_fL, jM.len_fR, *]; omega)) ?_
                                exact mQ.of (by unfold sp_told toldV; (repeat (first | rw [if_pos (by omega)] | rw [if_neg (by omega)]))))
                           · first
                             | (exfalso; omega)
                             | (first | refine J.aload_n (pc' := 98) rfl rfl rfl ?_ | refine J.aload_nN (pc' := 98) rfl rfl rfl ?_
                                refine J.mgR (pc' := 101) (t := 130) B rfl fl_X12_73 rfl rfl (by decide) rfl ?_
                                refine J.iload_n (pc' := 102) rfl rfl rfl ?_
                                refine J.mald (pc' := 103) B rfl rfl rfl (by omega) (by simp only [jLn]; omega) rfl ?_
                                refine J.iret rfl rfl (by first | omega | (exact R.r _ _) | (simp only [jM.len_sI, jM.len_sL, jM.len_sR, jM.len_fI, jM.len_fL, jM.len_fR]; omega) | (simp [jM.len_nw, jM.len_sI, jM.len_sL, jM.len_sR, jM.len_fI, jM.len_fL, jM.len_fR, *]; omega)) (by first | omega | (exact R.r _ _) | (simp only [jM.len_sI, jM.len_sL, jM.len_sR, jM.len_fI, jM.len_fL, jM.len_fR]; omega) | (simp [jM.len_nw, jM.len_sI, jM.len_sL, jM.len_sR, jM.len_fI, jM.len_fL, jM.len_fR, *]; omega)) ?_
                                exact mQ.of (by unfold sp_told toldV; (repeat (first | rw [if_pos (by omega)] | rw [if_neg (by omega)]))))
                           · first
                             | (exfalso; omega)
                             | (first | refine J.aload_n (pc' := 105) rfl rfl rfl ?_ | refine J.aload_nN (pc' := 105) rfl rfl rfl ?_
                                refine J.mgR (pc' := 108) (t := 132) B rfl fl_X12_79 rfl rfl (by decide) rfl ?_
                                refine J.iload_n (pc' := 109) rfl rfl rfl ?_
                                refine J.mald (pc' := 110) B rfl rfl rfl (by omega) (by simp only [jLn]; omega) rfl ?_
                                refine J.iret rfl rfl (by first | omega | (exact R.r _ _) | (simp only [jM.len_sI, jM.len_sL, jM.len_sR, jM.len_fI, jM.len_fL, jM.len_fR]; omega) | (simp [jM.len_nw, jM.len_sI, jM.len_sL, jM.len_sR, jM.len_fI, jM.len_fL, jM.len_fR, *]; omega)) (by first | omega | (exact R.r _ _) | (simp only [jM.len_sI, jM.len_sL, jM.len_sR, jM.len_fI, jM.len_fL, jM.len_fR]; omega) | (simp [jM.len_nw, jM.len_sI, jM.len_sL, jM.len_sR, jM.len_fI, jM.len_fL, jM.len_fR, *]; omega)) ?_
                                exact mQ.of (by unfold sp_told toldV; (repeat (first | rw [if_pos (by omega)] | rw [if_neg (by omega)]))))
                           · first
                             | (exfalso; omega)
                             | (first | refine J.aload_n (pc' := 112) rfl rfl rfl ?_ | refine J.aload_nN (pc' := 112) rfl rfl rfl ?_
                                refine J.mgR (pc' := 115) (t := 133) B rfl fl_X12_82 rfl rfl (by decide) rfl ?_
                                refine J.iload_n (pc' := 116) rfl rfl rfl ?_
                                refine J.mald (pc' := 117) B rfl rfl rfl (by omega) (by simp only [jLn]; omega) rfl ?_
                                refine J.iret rfl rfl (by first | omega | (exact R.r _ _) | (simp only [jM.len_sI, jM.len_sL, jM.len_sR, jM.len_fI, jM.len_fL, jM.len_fR]; omega) | (simp [jM.len_nw, jM.len_sI, jM.len_sL, jM.len_sR, jM.len_fI, jM.len_fL, jM.len_fR, *]; omega)) (by first | omega | (exact R.r _ _) | (simp only [jM.len_sI, jM.len_sL, jM.len_sR, jM.len_fI, jM.len_fL, jM.len_fR]; omega) | (simp [jM.len_nw, jM.len_sI, jM.len_sL, jM.len_sR, jM.len_fI, jM.len_fL, jM.len_fR, *]; omega)) ?_
                                exact mQ.of (by unfold sp_told toldV; (repeat (first | rw [if_pos (by omega)] | rw [if_neg (by omega)]))))
                           · omega)
                      · first
                        | (exfalso; omega)
                        | (refine J.iconst (pc' := 37) rfl rfl ?_
                           refine J.iret rfl rfl (by first | omega | (exact R.r _ _) | (simp only [jM.len_sI, jM.len_sL, jM.len_sR, jM.len_fI, jM.len_fL, jM.len_fR]; omega) | (simp [jM.len_nw, jM.len_sI, jM.len_sL, jM.len_sR, jM.len_fI, jM.len_fL, jM.len_fR, *]; omega)) (by first | omega | (exact R.r _ _) | (simp only [jM.len_sI, jM.len_sL, jM.len_sR, jM.len_fI, jM.len_fL, jM.len_fR]; omega) | (simp [jM.len_nw, jM.len_sI, jM.len_sL, jM.len_sR, jM.len_fI, jM.len_fL, jM.len_fR, *]; omega)) ?_
                           exact mQ.of (by unfold sp_told toldV; (repeat (first | rw [if_pos (by omega)] | rw [if_neg (by omega)])))))
                 · first
                   | (exfalso; omega)
                   | (refine J.iconst (pc' := 25) rfl rfl ?_
                      refine J.goto (tgt := 29) rfl rfl ?_
                      refine J.iconst (pc' := 30) rfl rfl ?_
                      first | refine J.callV (pc' := 33) (t := 16) rfl MX12_may ml_X12_161 iv_X12_may (by decide) ⟨_, rfl, rfl⟩ B.1 (cm_may1 B h0) rfl rfl (Nat.le_of_ble_eq_true rfl) (by first | omega | (exact R.r _ _) | (simp only [jM.len_sI, jM.len_sL, jM.len_sR, jM.len_fI, jM.len_fL, jM.len_fR]; omega) | (simp [jM.len_nw, jM.len_sI, jM.len_sL, jM.len_sR, jM.len_fI, jM.len_fL, jM.len_fR, *]; omega)) (by first | omega | (exact R.r _ _) | (simp only [jM.len_sI, jM.len_sL, jM.len_sR, jM.len_fI, jM.len_fL, jM.len_fR]; omega) | (simp [jM.len_nw, jM.len_sI, jM.len_sL, jM.len_sR, jM.len_fI, jM.len_fL, jM.len_fR, *]; omega)) (by first | omega | (exact R.r _ _) | (simp only [jM.len_sI, jM.len_sL, jM.len_sR, jM.len_fI, jM.len_fL, jM.len_fR]; omega) | (simp [jM.len_nw, jM.len_sI, jM.len_sL, jM.len_sR, jM.len_fI, jM.len_fL, jM.len_fR, *]; omega)) rfl rfl ?_ ?_ | refine J.callV (pc' := 33) (t := 16) rfl MX12_may ml_X12_161 iv_X12_may (by decide) ⟨_, rfl, rfl⟩ B.1 (cm_may0 B h0 (by omega)) rfl rfl (Nat.le_of_ble_eq_true rfl) (by first | omega | (exact R.r _ _) | (simp only [jM.len_sI, jM.len_sL, jM.len_sR, jM.len_fI, jM.len_fL, jM.len_fR]; omega) | (simp [jM.len_nw, jM.len_sI, jM.len_sL, jM.len_sR, jM.len_fI, jM.len_fL, jM.len_fR, *]; omega)) (by first | omega | (exact R.r _ _) | (simp only [jM.len_sI, jM.len_sL, jM.len_sR, jM.len_fI, jM.len_fL, jM.len_fR]; omega) | (simp [jM.len_nw, jM.len_sI, jM.len_sL, jM.len_sR, jM.len_fI, jM.len_fL, jM.len_fR, *]; omega)) (by first | omega | (exact R.r _ _) | (simp only [jM.len_sI, jM.len_sL, jM.len_sR, jM.len_fI, jM.len_fL, jM.len_fR]; omega) | (simp [jM.len_nw, jM.len_sI, jM.len_sL, jM.len_sR, jM.len_fI, jM.len_fL, jM.len_fR, *]; omega)) rfl rfl ?_ ?_
                      · exact fun _ _ h => h
                      rintro _ _ ⟨rfl, rfl⟩
                      refine J.if_ne (tgt := 38) (pc' := 36) rfl rfl rfl (by first | omega | (exact R.r _ _) | (simp only [jM.len_sI, jM.len_sL, jM.len_sR, jM.len_fI, jM.len_fL, jM.len_fR]; omega) | (simp [jM.len_nw, jM.len_sI, jM.len_sL, jM.len_sR, jM.len_fI, jM.len_fL, jM.len_fR, *]; omega)) (fun c33 => ?_) (fun c33 => ?_)
                      · first
                        | (exfalso; omega)
                        | (refine J.iload_n (pc' := 39) rfl rfl rfl ?_
                           refine J.tsw (tgt := 118) (n := 6) (T := jNth [76, 83, 90, 97, 104, 111]) rfl (by first | omega | (exact R.r _ _) | (simp only [jM.len_sI, jM.len_sL, jM.len_sR, jM.len_fI, jM.len_fL, jM.len_fR]; omega) | (simp [jM.len_nw, jM.len_sI, jM.len_sL, jM.len_sR, jM.len_fI, jM.len_fL, jM.len_fR, *]; omega)) rfl rfl (fun k hk => by rcases k with _ | _ | _ | _ | _ | _ | k <;> first | exact ⟨_, rfl, rfl⟩ | omega) (fun c39 => ?_) (fun k39 hk39 c39 => ?_)
                           · first
                             | (exfalso; omega)
                             | (refine J.iload_n (pc' := 119) rfl rfl rfl ?_
                                refine J.iconst (pc' := 120) rfl rfl ?_
                                refine J.irem (pc' := 121) rfl rfl (by first | omega | (exact R.r _ _) | (simp only [jM.len_sI, jM.len_sL, jM.len_sR, jM.len_fI, jM.len_fL, jM.len_fR]; omega) | (simp [jM.len_nw, jM.len_sI, jM.len_sL, jM.len_sR, jM.len_fI, jM.len_fL, jM.len_fR, *]; omega)) (by first | omega | (exact R.r _ _) | (simp only [jM.len_sI, jM.len_sL, jM.len_sR, jM.len_fI, jM.len_fL, jM.len_fR]; omega) | (simp [jM.len_nw, jM.len_sI, jM.len_sL, jM.len_sR, jM.len_fI, jM.len_fL, jM.len_fR, *]; omega)) (by first | omega | (exact R.r _ _) | (simp only [jM.len_sI, jM.len_sL, jM.len_sR, jM.len_fI, jM.len_fL, jM.len_fR]; omega) | (simp [jM.len_nw, jM.len_sI, jM.len_sL, jM.len_sR, jM.len_fI, jM.len_fL, jM.len_fR, *]; omega)) ?_
                                rw [Int.tmod_eq_emod_of_nonneg (by omega)]
                                refine J.if_ne (tgt := 142) (pc' := 124) rfl rfl rfl (by first | omega | (exact R.r _ _) | (simp only [jM.len_sI, jM.len_sL, jM.len_sR, jM.len_fI, jM.len_fL, jM.len_fR]; omega) | (simp [jM.len_nw, jM.len_sI, jM.len_sL, jM.len_sR, jM.len_fI, jM.len_fL, jM.len_fR, *]; omega)) (fun c121 => ?_) (fun c121 => ?_)
                                · first
                                  | (exfalso; omega)
                                  | (first | refine J.aload_n (pc' := 143) rfl rfl rfl ?_ | refine J.aload_nN (pc' := 143) rfl rfl rfl ?_
                                     refine J.mgR (pc' := 146) (t := 135) B rfl fl_X12_88 rfl rfl (by decide) rfl ?_
                                     refine J.iconst (pc' := 147) rfl rfl ?_
                                     refine J.iload_n (pc' := 148) rfl rfl rfl ?_
                                     refine J.imul (pc' := 149) rfl rfl ?_
                                     refine J.iload_n (pc' := 150) rfl rfl rfl ?_
                                     refine J.bipush (pc' := 152) rfl rfl (by decide) ?_
                                     refine J.isub (pc' := 153) rfl rfl ?_
                                     refine J.iconst (pc' := 154) rfl rfl ?_
                                     refine J.idiv (pc' := 155) rfl rfl (by first | omega | (exact R.r _ _) | (simp only [jM.len_sI, jM.len_sL, jM.len_sR, jM.len_fI, jM.len_fL, jM.len_fR]; omega) | (simp [jM.len_nw, jM.len_sI, jM.len_sL, jM.len_sR, jM.len_fI, jM.len_fL, jM.len_fR, *]; omega)) (by first | omega | (exact R.r _ _) | (simp only [jM.len_sI, jM.len_sL, jM.len_sR, jM.len_fI, jM.len_fL, jM.len_fR]; omega) | (simp [jM.len_nw, jM.len_sI, jM.len_sL, jM.len_sR, jM.len_fI, jM.len_fL, jM.len_fR, *]; omega)) (by first | omega | (exact R.r _ _) | (simp only [jM.len_sI, jM.len_sL, jM.len_sR, jM.len_fI, jM.len_fL, jM.len_fR]; omega) | (simp [jM.len_nw, jM.len_sI, jM.len_sL, jM.len_sR, jM.len_fI, jM.len_fL, jM.len_fR, *]; omega)) ?_
                                     rw [Int.tdiv_eq_ediv_of_nonneg (by omega)]
                                     refine J.iadd (pc' := 156) rfl rfl ?_
                                     refine J.mald (pc' := 157) B rfl rfl rfl (by omega) (by simp only [jLn]; omega) rfl ?_
                                     refine J.iret rfl rfl (by first | omega | (exact R.r _ _) | (simp only [jM.len_sI, jM.len_sL, jM.len_sR, jM.len_fI, jM.len_fL, jM.len_fR]; omega) | (simp [jM.len_nw, jM.len_sI, jM.len_sL, jM.len_sR, jM.len_fI, jM.len_fL, jM.len_fR, *]; omega)) (by first | omega | (exact R.r _ _) | (simp only [jM.len_sI, jM.len_sL, jM.len_sR, jM.len_fI, jM.len_fL, jM.len_fR]; omega) | (simp [jM.len_nw, jM.len_sI, jM.len_sL, jM.len_sR, jM.len_fI, jM.len_fL, jM.len_fR, *]; omega)) ?_
                                     exact mQ.of (by unfold sp_told toldV; (repeat (first | rw [if_pos (by omega)] | rw [if_neg (by omega)]))))
                                · first
                                  | (exfalso; omega)
                                  | (first | refine J.aload_n (pc' := 125) rfl rfl rfl ?_ | refine J.aload_nN (pc' := 125) rfl rfl rfl ?_
                                     refine J.mgR (pc' := 128) (t := 134) B rfl fl_X12_85 rfl rfl (by decide) rfl ?_
                                     refine J.iconst (pc' := 129) rfl rfl ?_
                                     refine J.iload_n (pc' := 130) rfl rfl rfl ?_
                                     refine J.imul (pc' := 131) rfl rfl ?_
                                     refine J.iload_n (pc' := 132) rfl rfl rfl ?_
                                     refine J.bipush (pc' := 134) rfl rfl (by decide) ?_
                                     refine J.isub (pc' := 135) rfl rfl ?_
                                     refine J.iconst (pc' := 136) rfl rfl ?_
                                     refine J.idiv (pc' := 137) rfl rfl (by first | omega | (exact R.r _ _) | (simp only [jM.len_sI, jM.len_sL, jM.len_sR, jM.len_fI, jM.len_fL, jM.len_fR]; omega) | (simp [jM.len_nw, jM.len_sI, jM.len_sL, jM.len_sR, jM.len_fI, jM.len_fL, jM.len_fR, *]; omega)) (by first | omega | (exact R.r _ _) | (simp only [jM.len_sI, jM.len_sL, jM.len_sR, jM.len_fI, jM.len_fL, jM.len_fR]; omega) | (simp [jM.len_nw, jM.len_sI, jM.len_sL, jM.len_sR, jM.len_fI, jM.len_fL, jM.len_fR, *]; omega)) (by first | omega | (exact R.r _ _) | (simp only [jM.len_sI, jM.len_sL, jM.len_sR, jM.len_fI, jM.len_fL, jM.len_fR]; omega) | (simp [jM.len_nw, jM.len_sI, jM.len_sL, jM.len_sR, jM.len_fI, jM.len_fL, jM.len_fR, *]; omega)) ?_
                                     rw [Int.tdiv_eq_ediv_of_nonneg (by omega)]
                                     refine J.iadd (pc' := 138) rfl rfl ?_
                                     refine J.mald (pc' := 139) B rfl rfl rfl (by omega) (by simp only [jLn]; omega) rfl ?_
                                     refine J.goto (tgt := 157) rfl rfl ?_
                                     refine J.iret rfl rfl (by first | omega | (exact R.r _ _) | (simp only [jM.len_sI, jM.len_sL, jM.len_sR, jM.len_fI, jM.len_fL, jM.len_fR]; omega) | (simp [jM.len_nw, jM.len_sI, jM.len_sL, jM.len_sR, jM.len_fI, jM.len_fL, jM.len_fR, *]; omega)) (by first | omega | (exact R.r _ _) | (simp only [jM.len_sI, jM.len_sL, jM.len_sR, jM.len_fI, jM.len_fL, jM.len_fR]; omega) | (simp [jM.len_nw, jM.len_sI, jM.len_sL, jM.len_sR, jM.len_fI, jM.len_fL, jM.len_fR, *]; omega)) ?_
                                     exact mQ.of (by unfold sp_told toldV; (repeat (first | rw [if_pos (by omega)] | rw [if_neg (by omega)])))))
                           rcases k39 with _ | _ | _ | _ | _ | _ | k39
                           · first
                             | (exfalso; omega)
                             | (first | refine J.aload_n (pc' := 77) rfl rfl rfl ?_ | refine J.aload_nN (pc' := 77) rfl rfl rfl ?_
                                refine J.mgR (pc' := 80) (t := 127) B rfl fl_X12_64 rfl rfl (by decide) rfl ?_
                                refine J.iload_n (pc' := 81) rfl rfl rfl ?_
                                refine J.mald (pc' := 82) B rfl rfl rfl (by omega) (by simp only [jLn]; omega) rfl ?_
                                refine J.iret rfl rfl (by first | omega | (exact R.r _ _) | (simp only [jM.len_sI, jM.len_sL, jM.len_sR, jM.len_fI, jM.len_fL, jM.len_fR]; omega) | (simp [jM.len_nw, jM.len_sI, jM.len_sL, jM.len_sR, jM.len_fI, jM.len_fL, jM.len_fR, *]; omega)) (by first | omega | (exact R.r _ _) | (simp only [jM.len_sI, jM.len_sL, jM.len_sR, jM.len_fI, jM.len_fL, jM.len_fR]; omega) | (simp [jM.len_nw, jM.len_sI, jM.len_sL, jM.len_sR, jM.len_fI, jM.len_fL, jM.len_fR, *]; omega)) ?_
                                exact mQ.of (by unfold sp_told toldV; (repeat (first | rw [if_pos (by omega)] | rw [if_neg (by omega)]))))
                           · first
                             | (exfalso; omega)
                             | (first | refine J.aload_n (pc' := 84) rfl rfl rfl ?_ | refine J.aload_nN (pc' := 84) rfl rfl rfl ?_
                                refine J.mgR (pc' := 87) (t := 128) B rfl fl_X12_67 rfl rfl (by decide) rfl ?_
                                refine J.iload_n (pc' := 88) rfl rfl rfl ?_
                                refine J.mald (pc' := 89) B rfl rfl rfl (by omega) (by simp only [jLn]; omega) rfl ?_
                                refine J.iret rfl rfl (by first | omega | (exact R.r _ _) | (simp only [jM.len_sI, jM.len_sL, jM.len_sR, jM.len_fI, jM.len_fL, jM.len_fR]; omega) | (simp [jM.len_nw, jM.len_sI, jM.len_sL, jM.len_sR, jM.len_fI, jM.len_fL, jM.len_fR, *]; omega)) (by first | omega | (exact R.r _ _) | (simp only [jM.len_sI, jM.len_sL, jM.len_sR, jM.len_fI, jM.len_fL, jM.len_fR]; omega) | (simp [jM.len_nw, jM.len_sI, jM.len_sL, jM.len_sR, jM.len_fI, jM.len_fL, jM.len_fR, *]; omega)) ?_
                                exact mQ.of (by unfold sp_told toldV; (repeat (first | rw [if_pos (by omega)] | rw [if_neg (by omega)]))))
                           · first
                             | (exfalso; omega)
                             | (first | refine J.aload_n (pc' := 91) rfl rfl rfl ?_ | refine J.aload_nN (pc' := 91) rfl rfl rfl ?_
                                refine J.mgR (pc' := 94) (t := 129) B rfl fl_X12_70 rfl rfl (by decide) rfl ?_
                                refine J.iload_n (pc' := 95) rfl rfl rfl ?_
                                refine J.mald (pc' := 96) B rfl rfl rfl (by omega) (by simp only [jLn]; omega) rfl ?_
                                refine J.iret rfl rfl (by first | omega | (exact R.r _ _) | (simp only [jM.len_sI, jM.len_sL, jM.len_sR, jM.len_fI, jM.len_fL, jM.len_fR]; omega) | (simp [jM.len_nw, jM.len_sI, jM.len_sL, jM.len_sR, jM.len_fI, jM.len_fL, jM.len_fR, *]; omega)) (by first | omega | (exact R.r _ _) | (simp only [jM.len_sI, jM.len_sL, jM.len_sR, jM.len_fI, jM.len_fL, jM.len_fR]; omega) | (simp [jM.len_nw, jM.len_sI, jM.len_sL, jM.len_sR, jM.len_fI, jM.len_fL, jM.len_fR, *]; omega)) ?_
                                exact mQ.of (by unfold sp_told toldV; (repeat (first | rw [if_pos (by omega)] | rw [if_neg (by omega)]))))
                           · first
                             | (exfalso; omega)
                             | (first | refine J.aload_n (pc' := 98) rfl rfl rfl ?_ | refine J.aload_nN (pc' := 98) rfl rfl rfl ?_
                                refine J.mgR (pc' := 101) (t := 130) B rfl fl_X12_73 rfl rfl (by decide) rfl ?_
                                refine J.iload_n (pc' := 102) rfl rfl rfl ?_
                                refine J.mald (pc' := 103) B rfl rfl rfl (by omega) (by simp only [jLn]; omega) rfl ?_
                                refine J.iret rfl rfl (by first | omega | (exact R.r _ _) | (simp only [jM.len_sI, jM.len_sL, jM.len_sR, jM.len_fI, jM.len_fL, jM.len_fR]; omega) | (simp [jM.len_nw, jM.len_sI, jM.len_sL, jM.len_sR, jM.len_fI, jM.len_fL, jM.len_fR, *]; omega)) (by first | omega | (exact R.r _ _) | (simp only [jM.len_sI, jM.len_sL, jM.len_sR, jM.len_fI, jM.len_fL, jM.len_fR]; omega) | (simp [jM.len_nw, jM.len_sI, jM.len_sL, jM.len_sR, jM.len_fI, jM.len_fL, jM.len_fR, *]; omega)) ?_
                                exact mQ.of (by unfold sp_told toldV; (repeat (first | rw [if_pos (by omega)] | rw [if_neg (by omega)]))))
                           · first
                             | (exfalso; omega)
                             | (first | refine J.aload_n (pc' := 105) rfl rfl rfl ?_ | refine J.aload_nN (pc' := 105) rfl rfl rfl ?_
                                refine J.mgR (pc' := 108) (t := 132) B rfl fl_X12_79 rfl rfl (by decide) rfl ?_
                                refine J.iload_n (pc' := 109) rfl rfl rfl ?_
                                refine J.mald (pc' := 110) B rfl rfl rfl (by omega) (by simp only [jLn]; omega) rfl ?_
                                refine J.iret rfl rfl (by first | omega | (exact R.r _ _) | (simp only [jM.len_sI, jM.len_sL, jM.len_sR, jM.len_fI, jM.len_fL, jM.len_fR]; omega) | (simp [jM.len_nw, jM.len_sI, jM.len_sL, jM.len_sR, jM.len_fI, jM.len_fL, jM.len_fR, *]; omega)) (by first | omega | (exact R.r _ _) | (simp only [jM.len_sI, jM.len_sL, jM.len_sR, jM.len_fI, jM.len_fL, jM.len_fR]; omega) | (simp [jM.len_nw, jM.len_sI, jM.len_sL, jM.len_sR, jM.len_fI, jM.len_fL, jM.len_fR, *]; omega)) ?_
                                exact mQ.of (by unfold sp_told toldV; (repeat (first | rw [if_pos (by omega)] | rw [if_neg (by omega)]))))
                           · first
                             | (exfalso; omega)
                             | (first | refine J.aload_n (pc' := 112) rfl rfl rfl ?_ | refine J.aload_nN (pc' := 112) rfl rfl rfl ?_
                                refine J.mgR (pc' := 115) (t := 133) B rfl fl_X12_82 rfl rfl (by decide) rfl ?_
                                refine J.iload_n (pc' := 116) rfl rfl rfl ?_
                                refine J.mald (pc' := 117) B rfl rfl rfl (by omega) (by simp only [jLn]; omega) rfl ?_
                                refine J.iret rfl rfl (by first | omega | (exact R.r _ _) | (simp only [jM.len_sI, jM.len_sL, jM.len_sR, jM.len_fI, jM.len_fL, jM.len_fR]; omega) | (simp [jM.len_nw, jM.len_sI, jM.len_sL, jM.len_sR, jM.len_fI, jM.len_fL, jM.len_fR, *]; omega)) (by first | omega | (exact R.r _ _) | (simp only [jM.len_sI, jM.len_sL, jM.len_sR, jM.len_fI, jM.len_fL, jM.len_fR]; omega) | (simp [jM.len_nw, jM.len_sI, jM.len_sL, jM.len_sR, jM.len_fI, jM.len_fL, jM.len_fR, *]; omega)) ?_
                                exact mQ.of (by unfold sp_told toldV; (repeat (first | rw [if_pos (by omega)] | rw [if_neg (by omega)]))))
                           · omega)
                      · first
                        | (exfalso; omega)
                        | (refine J.iconst (pc' := 37) rfl rfl ?_
                           refine J.iret rfl rfl (by first | omega | (exact R.r _ _) | (simp only [jM.len_sI, jM.len_sL, jM.len_sR, jM.len_fI, jM.len_fL, jM.len_fR]; omega) | (simp [jM.len_nw, jM.len_sI, jM.len_sL, jM.len_sR, jM.len_fI, jM.len_fL, jM.len_fR, *]; omega)) (by first | omega | (exact R.r _ _) | (simp only [jM.len_sI, jM.len_sL, jM.len_sR, jM.len_fI, jM.len_fL, jM.len_fR]; omega) | (simp [jM.len_nw, jM.len_sI, jM.len_sL, jM.len_sR, jM.len_fI, jM.len_fL, jM.len_fR, *]; omega)) ?_
                           exact mQ.of (by unfold sp_told toldV; (repeat (first | rw [if_pos (by omega)] | rw [if_neg (by omega)]))))))))
theorem cm_lowL {y m : Int} (B : isB β) (R : isR V) (hy : 0 ≤ y ∧ y < 246) (hm : 0 ≤ m ∧ m < 5) : CT γ mX12_lowOfLayer 0 0 0 [.ref (β.2 16), .int (jI y), .int (jI m)] (jP β V) (fun r h' => r = some (.int (jI (lowL V y m))) ∧ h' = jP β V) X0 := by
  have h1 := R 140 y rfl
  simp [jLo, jHi] at h1
  refine CT.of MX12_lowOfLayer (Nat.le_of_ble_eq_true rfl) ?_
  show J γ mX12_lowOfLayer 0 0 0 0 0 (jP β V) 0 [(0, .ref (β.2 16)), (1, .int (jI y)), (2, .int (jI m))] [] _ _
  first | refine J.aload_n (pc' := 1) rfl rfl rfl ?_ | refine J.aload_nN (pc' := 1) rfl rfl rfl ?_
  refine J.mgR (pc' := 4) (t := 140) B rfl fl_X12_97 rfl rfl (by decide) rfl ?_
  refine J.iload_n (pc' := 5) rfl rfl rfl ?_
  refine J.mald (pc' := 6) B rfl rfl rfl (by omega) (by simp only [jLn]; omega) rfl ?_
  refine J.iconst (pc' := 7) rfl rfl ?_
  refine J.icmp_ne (tgt := 23) (pc' := 10) rfl rfl rfl (by first | omega | (exact R.r _ _) | (simp only [jM.len_sI, jM.len_sL, jM.len_sR, jM.len_fI, jM.len_fL, jM.len_fR]; omega) | (simp [jM.len_nw, jM.len_sI, jM.len_sL, jM.len_sR, jM.len_fI, jM.len_fL, jM.len_fR, *]; omega)) (by first | omega | (exact R.r _ _) | (simp only [jM.len_sI, jM.len_sL, jM.len_sR, jM.len_fI, jM.len_fL, jM.len_fR]; omega) | (simp [jM.len_nw, jM.len_sI, jM.len_sL, jM.len_sR, jM.len_fI, jM.len_fL, jM.len_fR, *]; omega)) (fun c7 => ?_) (fun c7 => ?_)
  · first | refine J.aload_n (pc' := 24) rfl rfl rfl ?_ | refine J.aload_nN (pc' := 24) rfl rfl rfl ?_
    refine J.mgR (pc' := 27) (t := 134) B rfl fl_X12_85 rfl rfl (by decide) rfl ?_
    refine J.iconst (pc' := 28) rfl rfl ?_
    first | refine J.aload_n (pc' := 29) rfl rfl rfl ?_ | refine J.aload_nN (pc' := 29) rfl rfl rfl ?_
    refine J.mgR (pc' := 32) (t := 140) B rfl fl_X12_97 rfl rfl (by decide) rfl ?_
    refine J.iload_n (pc' := 33) rfl rfl rfl ?_
    refine J.mald (pc' := 34) B rfl rfl rfl (by omega) (by simp only [jLn]; omega) rfl ?_
    refine J.imul (pc' := 35) rfl rfl ?_
    refine J.iload_n (pc' := 36) rfl rfl rfl ?_
    refine J.iadd (pc' := 37) rfl rfl ?_
    refine J.mald (pc' := 38) B rfl rfl rfl (by omega) (by simp only [jLn]; omega) rfl ?_
    refine J.iret rfl rfl (by first | omega | (exact R.r _ _) | (simp only [jM.len_sI, jM.len_sL, jM.len_sR, jM.len_fI, jM.len_fL, jM.len_fR]; omega) | (simp [jM.len_nw, jM.len_sI, jM.len_sL, jM.len_sR, jM.len_fI, jM.len_fL, jM.len_fR, *]; omega)) (by first | omega | (exact R.r _ _) | (simp only [jM.len_sI, jM.len_sL, jM.len_sR, jM.len_fI, jM.len_fL, jM.len_fR]; omega) | (simp [jM.len_nw, jM.len_sI, jM.len_sL, jM.len_sR, jM.len_fI, jM.len_fL, jM.len_fR, *]; omega)) ?_
    exact ⟨by unfold lowL; (repeat (first | rw [if_pos (by omega)] | rw [if_neg (by omega)])), rfl⟩
  · first | refine J.aload_n (pc' := 11) rfl rfl rfl ?_ | refine J.aload_nN (pc' := 11) rfl rfl rfl ?_
    refine J.mgR (pc' := 14) (t := 142) B rfl fl_X12_103 rfl rfl (by decide) rfl ?_
    refine J.iconst (pc' := 15) rfl rfl ?_
    refine J.iload_n (pc' := 16) rfl rfl rfl ?_
    refine J.imul (pc' := 17) rfl rfl ?_
    refine J.iload_n (pc' := 18) rfl rfl rfl ?_
    refine J.iadd (pc' := 19) rfl rfl ?_
    refine J.mald (pc' := 20) B rfl rfl rfl (by omega) (by simp only [jLn]; omega) rfl ?_
    refine J.goto (tgt := 38) rfl rfl ?_
    refine J.iret rfl rfl (by first | omega | (exact R.r _ _) | (simp only [jM.len_sI, jM.len_sL, jM.len_sR, jM.len_fI, jM.len_fL, jM.len_fR]; omega) | (simp [jM.len_nw, jM.len_sI, jM.len_sL, jM.len_sR, jM.len_fI, jM.len_fL, jM.len_fR, *]; omega)) (by first | omega | (exact R.r _ _) | (simp only [jM.len_sI, jM.len_sL, jM.len_sR, jM.len_fI, jM.len_fL, jM.len_fR]; omega) | (simp [jM.len_nw, jM.len_sI, jM.len_sL, jM.len_sR, jM.len_fI, jM.len_fL, jM.len_fR, *]; omega)) ?_
    exact ⟨by unfold lowL; (repeat (first | rw [if_pos (by omega)] | rw [if_neg (by omega)])), rfl⟩
theorem cm_highL {y m : Int} (B : isB β) (R : isR V) (hy : 0 ≤ y ∧ y < 246) (hm : 0 ≤ m ∧ m < 5) : CT γ mX12_highOfLayer 0 0 0 [.ref (β.2 16), .int (jI y), .int (jI m)] (jP β V) (fun r h' => r = some (.int (jI (highL V y m))) ∧ h' = jP β V) X0 := by
  have h1 := R 140 y rfl
  simp [jLo, jHi] at h1
  refine CT.of MX12_highOfLayer (Nat.le_of_ble_eq_true rfl) ?_
  show J γ mX12_highOfLayer 0 0 0 0 0 (jP β V) 0 [(0, .ref (β.2 16)), (1, .int (jI y)), (2, .int (jI m))] [] _ _
  first | refine J.aload_n (pc' := 1) rfl rfl rfl ?_ | refine J.aload_nN (pc' := 1) rfl rfl rfl ?_
  refine J.mgR (pc' := 4) (t := 140) B rfl fl_X12_97 rfl rfl (by decide) rfl ?_
  refine J.iload_n (pc' := 5) rfl rfl rfl ?_
  refine J.mald (pc' := 6) B rfl rfl rfl (by omega) (by simp only [jLn]; omega) rfl ?_
  refine J.iconst (pc' := 7) rfl rfl ?_
  refine J.icmp_ne (tgt := 23) (pc' := 10) rfl rfl rfl (by first | omega | (exact R.r _ _) | (simp only [jM.len_sI, jM.len_sL, jM.len_sR, jM.len_fI, jM.len_fL, jM.len_fR]; omega) | (simp [jM.len_nw, jM.len_sI, jM.len_sL, jM.len_sR, jM.len_fI, jM.len_fL, jM.len_fR, *]; omega)) (by first | omega | (exact R.r _ _) | (simp only [jM.len_sI, jM.len_sL, jM.len_sR, jM.len_fI, jM.len_fL, jM.len_fR]; omega) | (simp [jM.len_nw, jM.len_sI, jM.len_sL, jM.len_sR, jM.len_fI, jM.len_fL, jM.len_fR, *]; omega)) (fun c7 => ?_) (fun c7 => ?_)
  · first | refine J.aload_n (pc' := 24) rfl rfl rfl ?_ | refine J.aload_nN (pc' := 24) rfl rfl rfl ?_
    refine J.mgR (pc' := 27) (t := 135) B rfl fl_X12_88 rfl rfl (by decide) rfl ?_
    refine J.iconst (pc' := 28) rfl rfl ?_
    first | refine J.aload_n (pc' := 29) rfl rfl rfl ?_ | refine J.aload_nN (pc' := 29) rfl rfl rfl ?_
    refine J.mgR (pc' := 32) (t := 140) B rfl fl_X12_97 rfl rfl (by decide) rfl ?_
    refine J.iload_n (pc' := 33) rfl rfl rfl ?_
    refine J.mald (pc' := 34) B rfl rfl rfl (by omega) (by simp only [jLn]; omega) rfl ?_
    refine J.imul (pc' := 35) rfl rfl ?_
    refine J.iload_n (pc' := 36) rfl rfl rfl ?_
    refine J.iadd (pc' := 37) rfl rfl ?_
    refine J.mald (pc' := 38) B rfl rfl rfl (by omega) (by simp only [jLn]; omega) rfl ?_
    refine J.iret rfl rfl (by first | omega | (exact R.r _ _) | (simp only [jM.len_sI, jM.len_sL, jM.len_sR, jM.len_fI, jM.len_fL, jM.len_fR]; omega) | (simp [jM.len_nw, jM.len_sI, jM.len_sL, jM.len_sR, jM.len_fI, jM.len_fL, jM.len_fR, *]; omega)) (by first | omega | (exact R.r _ _) | (simp only [jM.len_sI, jM.len_sL, jM.len_sR, jM.len_fI, jM.len_fL, jM.len_fR]; omega) | (simp [jM.len_nw, jM.len_sI, jM.len_sL, jM.len_sR, jM.len_fI, jM.len_fL, jM.len_fR, *]; omega)) ?_
    exact ⟨by unfold highL; (repeat (first | rw [if_pos (by omega)] | rw [if_neg (by omega)])), rfl⟩
  · first | refine J.aload_n (pc' := 11) rfl rfl rfl ?_ | refine J.aload_nN (pc' := 11) rfl rfl rfl ?_
    refine J.mgR (pc' := 14) (t := 143) B rfl fl_X12_106 rfl rfl (by decide) rfl ?_
    refine J.iconst (pc' := 15) rfl rfl ?_
    refine J.iload_n (pc' := 16) rfl rfl rfl ?_
    refine J.imul (pc' := 17) rfl rfl ?_
    refine J.iload_n (pc' := 18) rfl rfl rfl ?_
    refine J.iadd (pc' := 19) rfl rfl ?_
    refine J.mald (pc' := 20) B rfl rfl rfl (by omega) (by simp only [jLn]; omega) rfl ?_
    refine J.goto (tgt := 38) rfl rfl ?_
    refine J.iret rfl rfl (by first | omega | (exact R.r _ _) | (simp only [jM.len_sI, jM.len_sL, jM.len_sR, jM.len_fI, jM.len_fL, jM.len_fR]; omega) | (simp [jM.len_nw, jM.len_sI, jM.len_sL, jM.len_sR, jM.len_fI, jM.len_fL, jM.len_fR, *]; omega)) (by first | omega | (exact R.r _ _) | (simp only [jM.len_sI, jM.len_sL, jM.len_sR, jM.len_fI, jM.len_fL, jM.len_fR]; omega) | (simp [jM.len_nw, jM.len_sI, jM.len_sL, jM.len_sR, jM.len_fI, jM.len_fL, jM.len_fR, *]; omega)) ?_
    exact ⟨by unfold highL; (repeat (first | rw [if_pos (by omega)] | rw [if_neg (by omega)])), rfl⟩
theorem cm_layer {g k w : Int} (B : isB β) (R : isR V) (hg : r32 g) (hk : r32 k) (hw : r32 w) : CT γ mX12_layer 2 0 0 [.ref (β.2 16), .int (jI g), .int (jI k), .int (jI w)] (jP β V) (mQ β (sp_layer (jU V 16 0 0) g k w)) X0 := by
  refine CT.of MX12_layer (Nat.le_of_ble_eq_true rfl) ?_
  show J γ mX12_layer 2 0 0 0 0 (jP β V) 0 [(0, .ref (β.2 16)), (1, .int (jI g)), (2, .int (jI k)), (3, .int (jI w))] [] _ _
  first | refine J.aload_n (pc' := 1) rfl rfl rfl ?_ | refine J.aload_nN (pc' := 1) rfl rfl rfl ?_
  refine J.iconst (pc' := 2) rfl rfl ?_
  refine J.mpI (pc' := 5) (j := 0) B rfl fl_X12_1 rfl rfl rfl rfl ?_
  have h0 := jU_same V 16 0 0
  replace R : isR (jU V 16 0 0) := R.up (fun _ => by decide)
  generalize jU V 16 0 0 = V at h0 R ⊢
  have hf := R.f
  have h1 := R 138 g rfl
  simp [jLo, jHi] at h1
  first | refine J.aload_n (pc' := 6) rfl rfl rfl ?_ | refine J.aload_nN (pc' := 6) rfl rfl rfl ?_
  refine J.iload_n (pc' := 7) rfl rfl rfl ?_
  refine J.callV (pc' := 10) (t := 16) rfl MX12_isHeap ml_X12_297 iv_X12_isHeap (by decide) ⟨_, rfl, rfl⟩ B.1 (cm_isHeap B h0 hg) rfl rfl (Nat.le_of_ble_eq_true rfl) (by first | omega | (exact R.r _ _) | (simp only [jM.len_sI, jM.len_sL, jM.len_sR, jM.len_fI, jM.len_fL, jM.len_fR]; omega) | (simp [jM.len_nw, jM.len_sI, jM.len_sL, jM.len_sR, jM.len_fI, jM.len_fL, jM.len_fR, *]; omega)) (by first | omega | (exact R.r _ _) | (simp only [jM.len_sI, jM.len_sL, jM.len_sR, jM.len_fI, jM.len_fL, jM.len_fR]; omega) | (simp [jM.len_nw, jM.len_sI, jM.len_sL, jM.len_sR, jM.len_fI, jM.len_fL, jM.len_fR, *]; omega)) (by first | omega | (exact R.r _ _) | (simp only [jM.len_sI, jM.len_sL, jM.len_sR, jM.len_fI, jM.len_fL, jM.len_fR]; omega) | (simp [jM.len_nw, jM.len_sI, jM.len_sL, jM.len_sR, jM.len_fI, jM.len_fL, jM.len_fR, *]; omega)) rfl rfl ?_ ?_
  · exact fun _ _ h => h
  rintro _ _ ⟨b, hb, rfl⟩
  rcases hb with ⟨rfl, hb, rfl⟩ | ⟨rfl, hb, rfl⟩
  · first
    | (exfalso; omega)
    | (refine J.if_ne (tgt := 15) (pc' := 13) rfl rfl rfl (by first | omega | (exact R.r _ _) | (simp only [jM.len_sI, jM.len_sL, jM.len_sR, jM.len_fI, jM.len_fL, jM.len_fR]; omega) | (simp [jM.len_nw, jM.len_sI, jM.len_sL, jM.len_sR, jM.len_fI, jM.len_fL, jM.len_fR, *]; omega)) (fun c10 => ?_) (fun c10 => ?_)
       · first
         | (exfalso; omega)
         | (first | refine J.aload_n (pc' := 16) rfl rfl rfl ?_ | refine J.aload_nN (pc' := 16) rfl rfl rfl ?_
            refine J.iload_n (pc' := 17) rfl rfl rfl ?_
            refine J.if_lt (tgt := 34) (pc' := 20) rfl rfl rfl (by first | omega | (exact R.r _ _) | (simp only [jM.len_sI, jM.len_sL, jM.len_sR, jM.len_fI, jM.len_fL, jM.len_fR]; omega) | (simp [jM.len_nw, jM.len_sI, jM.len_sL, jM.len_sR, jM.len_fI, jM.len_fL, jM.len_fR, *]; omega)) (fun c17 => ?_) (fun c17 => ?_)
            · first
              | (exfalso; omega)
              | (refine J.iconst (pc' := 35) rfl rfl ?_
                 refine J.iconst (pc' := 36) rfl rfl ?_
                 first | refine J.callV (pc' := 39) (t := 16) rfl MX12_may ml_X12_161 iv_X12_may (by decide) ⟨_, rfl, rfl⟩ B.1 (cm_may1 B h0) rfl rfl (Nat.le_of_ble_eq_true rfl) (by first | omega | (exact R.r _ _) | (simp only [jM.len_sI, jM.len_sL, jM.len_sR, jM.len_fI, jM.len_fL, jM.len_fR]; omega) | (simp [jM.len_nw, jM.len_sI, jM.len_sL, jM.len_sR, jM.len_fI, jM.len_fL, jM.len_fR, *]; omega)) (by first | omega | (exact R.r _ _) | (simp only [jM.len_sI, jM.len_sL, jM.len_sR, jM.len_fI, jM.len_fL, jM.len_fR]; omega) | (simp [jM.len_nw, jM.len_sI, jM.len_sL, jM.len_sR, jM.len_fI, jM.len_fL, jM.len_fR, *]; omega)) (by first | omega | (exact R.r _ _) | (simp only [jM.len_sI, jM.len_sL, jM.len_sR, jM.len_fI, jM.len_fL, jM.len_fR]; omega) | (simp [jM.len_nw, jM.len_sI, jM.len_sL, jM.len_sR, jM.len_fI, jM.len_fL, jM.len_fR, *]; omega)) rfl rfl ?_ ?_ | refine J.callV (pc' := 39) (t := 16) rfl MX12_may ml_X12_161 iv_X12_may (by decide) ⟨_, rfl, rfl⟩ B.1 (cm_may0 B h0 (by omega)) rfl rfl (Nat.le_of_ble_eq_true rfl) (by first | omega | (exact R.r _ _) | (simp only [jM.len_sI, jM.len_sL, jM.len_sR, jM.len_fI, jM.len_fL, jM.len_fR]; omega) | (simp [jM.len_nw, jM.len_sI, jM.len_sL, jM.len_sR, jM.len_fI, jM.len_fL, jM.len_fR, *]; omega)) (by first | omega | (exact R.r _ _) | (simp only [jM.len_sI, jM.len_sL, jM.len_sR, jM.len_fI, jM.len_fL, jM.len_fR]; omega) | (simp [jM.len_nw, jM.len_sI, jM.len_sL, jM.len_sR, jM.len_fI, jM.len_fL, jM.len_fR, *]; omega)) (by first | omega | (exact R.r _ _) | (simp only [jM.len_sI, jM.len_sL, jM.len_sR, jM.len_fI, jM.len_fL, jM.len_fR]; omega) | (simp [jM.len_nw, jM.len_sI, jM.len_sL, jM.len_sR, jM.len_fI, jM.len_fL, jM.len_fR, *]; omega)) rfl rfl ?_ ?_
                 · exact fun _ _ h => h
                 rintro _ _ ⟨rfl, rfl⟩
                 refine J.if_eq (tgt := 65) (pc' := 42) rfl rfl rfl (by first | omega | (exact R.r _ _) | (simp only [jM.len_sI, jM.len_sL, jM.len_sR, jM.len_fI, jM.len_fL, jM.len_fR]; omega) | (simp [jM.len_nw, jM.len_sI, jM.len_sL, jM.len_sR, jM.len_fI, jM.len_fL, jM.len_fR, *]; omega)) (fun c39 => ?_) (fun c39 => ?_)
                 · first
                   | (exfalso; omega)
                   | (refine J.iconst (pc' := 66) rfl rfl ?_
                      refine J.iret rfl rfl (by first | omega | (exact R.r _ _) | (simp only [jM.len_sI, jM.len_sL, jM.len_sR, jM.len_fI, jM.len_fL, jM.len_fR]; omega) | (simp [jM.len_nw, jM.len_sI, jM.len_sL, jM.len_sR, jM.len_fI, jM.len_fL, jM.len_fR, *]; omega)) (by first | omega | (exact R.r _ _) | (simp only [jM.len_sI, jM.len_sL, jM.len_sR, jM.len_fI, jM.len_fL, jM.len_fR]; omega) | (simp [jM.len_nw, jM.len_sI, jM.len_sL, jM.len_sR, jM.len_fI, jM.len_fL, jM.len_fR, *]; omega)) ?_
                      exact mQ.of (by unfold sp_layer layV; (repeat (first | rw [if_pos (by omega)] | rw [if_neg (by omega)]))))
                 · first
                   | (exfalso; omega)
                   | (first | refine J.aload_n (pc' := 43) rfl rfl rfl ?_ | refine J.aload_nN (pc' := 43) rfl rfl rfl ?_
                      refine J.iload_n (pc' := 44) rfl rfl rfl ?_
                      refine J.if_lt (tgt := 57) (pc' := 47) rfl rfl rfl (by first | omega | (exact R.r _ _) | (simp only [jM.len_sI, jM.len_sL, jM.len_sR, jM.len_fI, jM.len_fL, jM.len_fR]; omega) | (simp [jM.len_nw, jM.len_sI, jM.len_sL, jM.len_sR, jM.len_fI, jM.len_fL, jM.len_fR, *]; omega)) (fun c44 => ?_) (fun c44 => ?_)
                      · first
                        | (exfalso; omega)
                        | (refine J.iconst (pc' := 58) rfl rfl ?_
                           refine J.iconst (pc' := 59) rfl rfl ?_
                           first | refine J.callV (pc' := 62) (t := 16) rfl MX12_may ml_X12_161 iv_X12_may (by decide) ⟨_, rfl, rfl⟩ B.1 (cm_may1 B h0) rfl rfl (Nat.le_of_ble_eq_true rfl) (by first | omega | (exact R.r _ _) | (simp only [jM.len_sI, jM.len_sL, jM.len_sR, jM.len_fI, jM.len_fL, jM.len_fR]; omega) | (simp [jM.len_nw, jM.len_sI, jM.len_sL, jM.len_sR, jM.len_fI, jM.len_fL, jM.len_fR, *]; omega)) (by first | omega | (exact R.r _ _) | (simp only [jM.len_sI, jM.len_sL, jM.len_sR, jM.len_fI, jM.len_fL, jM.len_fR]; omega) | (simp [jM.len_nw, jM.len_sI, jM.len_sL, jM.len_sR, jM.len_fI, jM.len_fL, jM.len_fR, *]; omega)) (by first | omega | (exact R.r _ _) | (simp only [jM.len_sI, jM.len_sL, jM.len_sR, jM.len_fI, jM.len_fL, jM.len_fR]; omega) | (simp [jM.len_nw, jM.len_sI, jM.len_sL, jM.len_sR, jM.len_fI, jM.len_fL, jM.len_fR, *]; omega)) rfl rfl ?_ ?_ | refine J.callV (pc' := 62) (t := 16) rfl MX12_may ml_X12_161 iv_X12_may (by decide) ⟨_, rfl, rfl⟩ B.1 (cm_may0 B h0 (by omega)) rfl rfl (Nat.le_of_ble_eq_true rfl) (by first | omega | (exact R.r _ _) | (simp only [jM.len_sI, jM.len_sL, jM.len_sR, jM.len_fI, jM.len_fL, jM.len_fR]; omega) | (simp [jM.len_nw, jM.len_sI, jM.len_sL, jM.len_sR, jM.len_fI, jM.len_fL, jM.len_fR, *]; omega)) (by first | omega | (exact R.r _ _) | (simp only [jM.len_sI, jM.len_sL, jM.len_sR, jM.len_fI, jM.len_fL, jM.len_fR]; omega) | (simp [jM.len_nw, jM.len_sI, jM.len_sL, jM.len_sR, jM.len_fI, jM.len_fL, jM.len_fR, *]; omega)) (by first | omega | (exact R.r _ _) | (simp only [jM.len_sI, jM.len_sL, jM.len_sR, jM.len_fI, jM.len_fL, jM.len_fR]; omega) | (simp [jM.len_nw, jM.len_sI, jM.len_sL, jM.len_sR, jM.len_fI, jM.len_fL, jM.len_fR, *]; omega)) rfl rfl ?_ ?_
                           · exact fun _ _ h => h
                           rintro _ _ ⟨rfl, rfl⟩
                           refine J.if_ne (tgt := 67) (pc' := 65) rfl rfl rfl (by first | omega | (exact R.r _ _) | (simp only [jM.len_sI, jM.len_sL, jM.len_sR, jM.len_fI, jM.len_fL, jM.len_fR]; omega) | (simp [jM.len_nw, jM.len_sI, jM.len_sL, jM.len_sR, jM.len_fI, jM.len_fL, jM.len_fR, *]; omega)) (fun c62 => ?_) (fun c62 => ?_)
                           · first
                             | (exfalso; omega)
                             | (refine J.bipush (pc' := 69) rfl rfl (by decide) ?_
                                refine J.iload_n (pc' := 70) rfl rfl rfl ?_
                                refine J.imul (pc' := 71) rfl rfl ?_
                                first | refine J.aload_n (pc' := 72) rfl rfl rfl ?_ | refine J.aload_nN (pc' := 72) rfl rfl rfl ?_
                                refine J.mgR (pc' := 75) (t := 138) B rfl fl_X12_91 rfl rfl (by decide) rfl ?_
                                refine J.iload_n (pc' := 76) rfl rfl rfl ?_
                                refine J.mald (pc' := 77) B rfl rfl rfl (by omega) (by simp only [jLn]; omega) rfl ?_
                                refine J.iadd (pc' := 78) rfl rfl ?_
                                refine J.iconst (pc' := 79) rfl rfl ?_
                                refine J.isub (pc' := 80) rfl rfl ?_
                                refine J.iload_n (pc' := 81) rfl rfl rfl ?_
                                refine J.isub (pc' := 82) rfl rfl ?_
                                refine J.istore (pc' := 84) rfl rfl (by decide) ?_
                                refine J.iload_n (pc' := 85) rfl rfl rfl ?_
                                refine J.tsw (tgt := 136) (n := 3) (T := jNth [112, 120, 128]) rfl (by first | omega | (exact R.r _ _) | (simp only [jM.len_sI, jM.len_sL, jM.len_sR, jM.len_fI, jM.len_fL, jM.len_fR]; omega) | (simp [jM.len_nw, jM.len_sI, jM.len_sL, jM.len_sR, jM.len_fI, jM.len_fL, jM.len_fR, *]; omega)) rfl rfl (fun k hk => by rcases k with _ | _ | _ | k <;> first | exact ⟨_, rfl, rfl⟩ | omega) (fun c85 => ?_) (fun k85 hk85 c85 => ?_)
                                · first
                                  | (exfalso; omega)
                                  | (refine J.iload_n (pc' := 137) rfl rfl rfl ?_
                                     refine J.iconst (pc' := 138) rfl rfl ?_
                                     refine J.irem (pc' := 139) rfl rfl (by first | omega | (exact R.r _ _) | (simp only [jM.len_sI, jM.len_sL, jM.len_sR, jM.len_fI, jM.len_fL, jM.len_fR]; omega) | (simp [jM.len_nw, jM.len_sI, jM.len_sL, jM.len_sR, jM.len_fI, jM.len_fL, jM.len_fR, *]; omega)) (by first | omega | (exact R.r _ _) | (simp only [jM.len_sI, jM.len_sL, jM.len_sR, jM.len_fI, jM.len_fL, jM.len_fR]; omega) | (simp [jM.len_nw, jM.len_sI, jM.len_sL, jM.len_sR, jM.len_fI, jM.len_fL, jM.len_fR, *]; omega)) (by first | omega | (exact R.r _ _) | (simp only [jM.len_sI, jM.len_sL, jM.len_sR, jM.len_fI, jM.len_fL, jM.len_fR]; omega) | (simp [jM.len_nw, jM.len_sI, jM.len_sL, jM.len_sR, jM.len_fI, jM.len_fL, jM.len_fR, *]; omega)) ?_
                                     rw [Int.tmod_eq_emod_of_nonneg (by omega)]
                                     refine J.iconst (pc' := 140) rfl rfl ?_
                                     refine J.icmp_ne (tgt := 157) (pc' := 143) rfl rfl rfl (by first | omega | (exact R.r _ _) | (simp only [jM.len_sI, jM.len_sL, jM.len_sR, jM.len_fI, jM.len_fL, jM.len_fR]; omega) | (simp [jM.len_nw, jM.len_sI, jM.len_sL, jM.len_sR, jM.len_fI, jM.len_fL, jM.len_fR, *]; omega)) (by first | omega | (exact R.r _ _) | (simp only [jM.len_sI, jM.len_sL, jM.len_sR, jM.len_fI, jM.len_fL, jM.len_fR]; omega) | (simp [jM.len_nw, jM.len_sI, jM.len_sL, jM.len_sR, jM.len_fI, jM.len_fL, jM.len_fR, *]; omega)) (fun c140 => ?_) (fun c140 => ?_)
                                     · first
                                       | (exfalso; omega)
                                       | (first | refine J.aload_n (pc' := 158) rfl rfl rfl ?_ | refine J.aload_nN (pc' := 158) rfl rfl rfl ?_
                                          refine J.iload (pc' := 160) rfl rfl rfl ?_
                                          refine J.iload_n (pc' := 161) rfl rfl rfl ?_
                                          refine J.iconst (pc' := 162) rfl rfl ?_
                                          refine J.isub (pc' := 163) rfl rfl ?_
                                          refine J.iconst (pc' := 164) rfl rfl ?_
                                          refine J.idiv (pc' := 165) rfl rfl (by first | omega | (exact R.r _ _) | (simp only [jM.len_sI, jM.len_sL, jM.len_sR, jM.len_fI, jM.len_fL, jM.len_fR]; omega) | (simp [jM.len_nw, jM.len_sI, jM.len_sL, jM.len_sR, jM.len_fI, jM.len_fL, jM.len_fR, *]; omega)) (by first | omega | (exact R.r _ _) | (simp only [jM.len_sI, jM.len_sL, jM.len_sR, jM.len_fI, jM.len_fL, jM.len_fR]; omega) | (simp [jM.len_nw, jM.len_sI, jM.len_sL, jM.len_sR, jM.len_fI, jM.len_fL, jM.len_fR, *]; omega)) (by first | omega | (exact R.r _ _) | (simp only [jM.len_sI, jM.len_sL, jM.len_sR, jM.len_fI, jM.len_fL, jM.len_fR]; omega) | (simp [jM.len_nw, jM.len_sI, jM.len_sL, jM.len_sR, jM.len_fI, jM.len_fL, jM.len_fR, *]; omega)) ?_
                                          rw [Int.tdiv_eq_ediv_of_nonneg (by omega)]
                                          refine J.callV (pc' := 168) (t := 16) rfl MX12_highOfLayer ml_X12_307 iv_X12_highOfLayer (by decide) ⟨_, rfl, rfl⟩ B.1 (cm_highL B R (by omega) (by omega)) rfl rfl (Nat.le_of_ble_eq_true rfl) (by first | omega | (exact R.r _ _) | (simp only [jM.len_sI, jM.len_sL, jM.len_sR, jM.len_fI, jM.len_fL, jM.len_fR]; omega) | (simp [jM.len_nw, jM.len_sI, jM.len_sL, jM.len_sR, jM.len_fI, jM.len_fL, jM.len_fR, *]; omega)) (by first | omega | (exact R.r _ _) | (simp only [jM.len_sI, jM.len_sL, jM.len_sR, jM.len_fI, jM.len_fL, jM.len_fR]; omega) | (simp [jM.len_nw, jM.len_sI, jM.len_sL, jM.len_sR, jM.len_fI, jM.len_fL, jM.len_fR, *]; omega)) (by first | omega | (exact R.r _ _) | (simp only [jM.len_sI, jM.len_sL, jM.len_sR, jM.len_fI, jM.len_fL, jM.len_fR]; omega) | (simp [jM.len_nw, jM.len_sI, jM.len_sL, jM.len_sR, jM.len_fI, jM.len_fL, jM.len_fR, *]; omega)) rfl rfl ?_ ?_
                                          · exact fun _ _ h => h
                                          rintro _ _ ⟨rfl, rfl⟩
                                          refine J.iret rfl rfl (by first | omega | (exact R.r _ _) | (simp only [jM.len_sI, jM.len_sL, jM.len_sR, jM.len_fI, jM.len_fL, jM.len_fR]; omega) | (simp [jM.len_nw, jM.len_sI, jM.len_sL, jM.len_sR, jM.len_fI, jM.len_fL, jM.len_fR, *]; omega)) (by first | omega | (exact R.r _ _) | (simp only [jM.len_sI, jM.len_sL, jM.len_sR, jM.len_fI, jM.len_fL, jM.len_fR]; omega) | (simp [jM.len_nw, jM.len_sI, jM.len_sL, jM.len_sR, jM.len_fI, jM.len_fL, jM.len_fR, *]; omega)) ?_
                                          exact mQ.of (by unfold sp_layer layV; (repeat (first | rw [if_pos (by omega)] | rw [if_neg (by omega)]))))
                                     · first
                                       | (exfalso; omega)
                                       | (first | refine J.aload_n (pc' := 144) rfl rfl rfl ?_ | refine J.aload_nN (pc' := 144) rfl rfl rfl ?_
                                          refine J.iload (pc' := 146) rfl rfl rfl ?_
                                          refine J.iload_n (pc' := 147) rfl rfl rfl ?_
                                          refine J.iconst (pc' := 148) rfl rfl ?_
                                          refine J.isub (pc' := 149) rfl rfl ?_
                                          refine J.iconst (pc' := 150) rfl rfl ?_
                                          refine J.idiv (pc' := 151) rfl rfl (by first | omega | (exact R.r _ _) | (simp only [jM.len_sI, jM.len_sL, jM.len_sR, jM.len_fI, jM.len_fL, jM.len_fR]; omega) | (simp [jM.len_nw, jM.len_sI, jM.len_sL, jM.len_sR, jM.len_fI, jM.len_fL, jM.len_fR, *]; omega)) (by first | omega | (exact R.r _ _) | (simp only [jM.len_sI, jM.len_sL, jM.len_sR, jM.len_fI, jM.len_fL, jM.len_fR]; omega) | (simp [jM.len_nw, jM.len_sI, jM.len_sL, jM.len_sR, jM.len_fI, jM.len_fL, jM.len_fR, *]; omega)) (by first | omega | (exact R.r _ _) | (simp only [jM.len_sI, jM.len_sL, jM.len_sR, jM.len_fI, jM.len_fL, jM.len_fR]; omega) | (simp [jM.len_nw, jM.len_sI, jM.len_sL, jM.len_sR, jM.len_fI, jM.len_fL, jM.len_fR, *]; omega)) ?_
                                          rw [Int.tdiv_eq_ediv_of_nonneg (by omega)]
                                          refine J.callV (pc' := 154) (t := 16) rfl MX12_lowOfLayer ml_X12_304 iv_X12_lowOfLayer (by decide) ⟨_, rfl, rfl⟩ B.1 (cm_lowL B R (by omega) (by omega)) rfl rfl (Nat.le_of_ble_eq_true rfl) (by first | omega | (exact R.r _ _) | (simp only [jM.len_sI, jM.len_sL, jM.len_sR, jM.len_fI, jM.len_fL, jM.len_fR]; omega) | (simp [jM.len_nw, jM.len_sI, jM.len_sL, jM.len_sR, jM.len_fI, jM.len_fL, jM.len_fR, *]; omega)) (by first | omega | (exact R.r _ _) | (simp only [jM.len_sI, jM.len_sL, jM.len_sR, jM.len_fI, jM.len_fL, jM.len_fR]; omega) | (simp [jM.len_nw, jM.len_sI, jM.len_sL, jM.len_sR, jM.len_fI, jM.len_fL, jM.len_fR, *]; omega)) (by first | omega | (exact R.r _ _) | (simp only [jM.len_sI, jM.len_sL, jM.len_sR, jM.len_fI, jM.len_fL, jM.len_fR]; omega) | (simp [jM.len_nw, jM.len_sI, jM.len_sL, jM.len_sR, jM.len_fI, jM.len_fL, jM.len_fR, *]; omega)) rfl rfl ?_ ?_
                                          · exact fun _ _ h => h
                                          rintro _ _ ⟨rfl, rfl⟩
                                          refine J.goto (tgt := 168) rfl rfl ?_
                                          refine J.iret rfl rfl (by first | omega | (exact R.r _ _) | (simp only [jM.len_sI, jM.len_sL, jM.len_sR, jM.len_fI, jM.len_fL, jM.len_fR]; omega) | (simp [jM.len_nw, jM.len_sI, jM.len_sL, jM.len_sR, jM.len_fI, jM.len_fL, jM.len_fR, *]; omega)) (by first | omega | (exact R.r _ _) | (simp only [jM.len_sI, jM.len_sL, jM.len_sR, jM.len_fI, jM.len_fL, jM.len_fR]; omega) | (simp [jM.len_nw, jM.len_sI, jM.len_sL, jM.len_sR, jM.len_fI, jM.len_fL, jM.len_fR, *]; omega)) ?_
                                          exact mQ.of (by unfold sp_layer layV; (repeat (first | rw [if_pos (by omega)] | rw [if_neg (by omega)])))))
                                rcases k85 with _ | _ | _ | k85
                                · first
                                  | (exfalso; omega)
                                  | (first | refine J.aload_n (pc' := 113) rfl rfl rfl ?_ | refine J.aload_nN (pc' := 113) rfl rfl rfl ?_
                                     refine J.mgR (pc' := 116) (t := 139) B rfl fl_X12_94 rfl rfl (by decide) rfl ?_
                                     refine J.iload (pc' := 118) rfl rfl rfl ?_
                                     refine J.mald (pc' := 119) B rfl rfl rfl (by omega) (by simp only [jLn]; omega) rfl ?_
                                     refine J.iret rfl rfl (by first | omega | (exact R.r _ _) | (simp only [jM.len_sI, jM.len_sL, jM.len_sR, jM.len_fI, jM.len_fL, jM.len_fR]; omega) | (simp [jM.len_nw, jM.len_sI, jM.len_sL, jM.len_sR, jM.len_fI, jM.len_fL, jM.len_fR, *]; omega)) (by first | omega | (exact R.r _ _) | (simp only [jM.len_sI, jM.len_sL, jM.len_sR, jM.len_fI, jM.len_fL, jM.len_fR]; omega) | (simp [jM.len_nw, jM.len_sI, jM.len_sL, jM.len_sR, jM.len_fI, jM.len_fL, jM.len_fR, *]; omega)) ?_
                                     exact mQ.of (by unfold sp_layer layV; (repeat (first | rw [if_pos (by omega)] | rw [if_neg (by omega)]))))
                                · first
                                  | (exfalso; omega)
                                  | (first | refine J.aload_n (pc' := 121) rfl rfl rfl ?_ | refine J.aload_nN (pc' := 121) rfl rfl rfl ?_
                                     refine J.mgR (pc' := 124) (t := 140) B rfl fl_X12_97 rfl rfl (by decide) rfl ?_
                                     refine J.iload (pc' := 126) rfl rfl rfl ?_
                                     refine J.mald (pc' := 127) B rfl rfl rfl (by omega) (by simp only [jLn]; omega) rfl ?_
                                     refine J.iret rfl rfl (by first | omega | (exact R.r _ _) | (simp only [jM.len_sI, jM.len_sL, jM.len_sR, jM.len_fI, jM.len_fL, jM.len_fR]; omega) | (simp [jM.len_nw, jM.len_sI, jM.len_sL, jM.len_sR, jM.len_fI, jM.len_fL, jM.len_fR, *]; omega)) (by first | omega | (exact R.r _ _) | (simp only [jM.len_sI, jM.len_sL, jM.len_sR, jM.len_fI, jM.len_fL, jM.len_fR]; omega) | (simp [jM.len_nw, jM.len_sI, jM.len_sL, jM.len_sR, jM.len_fI, jM.len_fL, jM.len_fR, *]; omega)) ?_
                                     exact mQ.of (by unfold sp_layer layV; (repeat (first | rw [if_pos (by omega)] | rw [if_neg (by omega)]))))
                                · first
                                  | (exfalso; omega)
                                  | (first | refine J.aload_n (pc' := 129) rfl rfl rfl ?_ | refine J.aload_nN (pc' := 129) rfl rfl rfl ?_
                                     refine J.mgR (pc' := 132) (t := 141) B rfl fl_X12_100 rfl rfl (by decide) rfl ?_
                                     refine J.iload (pc' := 134) rfl rfl rfl ?_
                                     refine J.mald (pc' := 135) B rfl rfl rfl (by omega) (by simp only [jLn]; omega) rfl ?_
                                     refine J.iret rfl rfl (by first | omega | (exact R.r _ _) | (simp only [jM.len_sI, jM.len_sL, jM.len_sR, jM.len_fI, jM.len_fL, jM.len_fR]; omega) | (simp [jM.len_nw, jM.len_sI, jM.len_sL, jM.len_sR, jM.len_fI, jM.len_fL, jM.len_fR, *]; omega)) (by first | omega | (exact R.r _ _) | (simp only [jM.len_sI, jM.len_sL, jM.len_sR, jM.len_fI, jM.len_fL, jM.len_fR]; omega) | (simp [jM.len_nw, jM.len_sI, jM.len_sL, jM.len_sR, jM.len_fI, jM.len_fL, jM.len_fR, *]; omega)) ?_
                                     exact mQ.of (by unfold sp_layer layV; (repeat (first | rw [if_pos (by omega)] | rw [if_neg (by omega)]))))
                                · omega)
                           · first
                             | (exfalso; omega)
                             | (refine J.iconst (pc' := 66) rfl rfl ?_
                                refine J.iret rfl rfl (by first | omega | (exact R.r _ _) | (simp only [jM.len_sI, jM.len_sL, jM.len_sR, jM.len_fI, jM.len_fL, jM.len_fR]; omega) | (simp [jM.len_nw, jM.len_sI, jM.len_sL, jM.len_sR, jM.len_fI, jM.len_fL, jM.len_fR, *]; omega)) (by first | omega | (exact R.r _ _) | (simp only [jM.len_sI, jM.len_sL, jM.len_sR, jM.len_fI, jM.len_fL, jM.len_fR]; omega) | (simp [jM.len_nw, jM.len_sI, jM.len_sL, jM.len_sR, jM.len_fI, jM.len_fL, jM.len_fR, *]; omega)) ?_
                                exact mQ.of (by unfold sp_layer layV; (repeat (first | rw [if_pos (by omega)] | rw [if_neg (by omega)])))))
                      · first
                        | (exfalso; omega)
                        | (refine J.iload_n (pc' := 48) rfl rfl rfl ?_
                           refine J.bipush (pc' := 50) rfl rfl (by decide) ?_
                           refine J.icmp_ge (tgt := 57) (pc' := 53) rfl rfl rfl (by first | omega | (exact R.r _ _) | (simp only [jM.len_sI, jM.len_sL, jM.len_sR, jM.len_fI, jM.len_fL, jM.len_fR]; omega) | (simp [jM.len_nw, jM.len_sI, jM.len_sL, jM.len_sR, jM.len_fI, jM.len_fL, jM.len_fR, *]; omega)) (by first | omega | (exact R.r _ _) | (simp only [jM.len_sI, jM.len_sL, jM.len_sR, jM.len_fI, jM.len_fL, jM.len_fR]; omega) | (simp [jM.len_nw, jM.len_sI, jM.len_sL, jM.len_sR, jM.len_fI, jM.len_fL, jM.len_fR, *]; omega)) (fun c50 => ?_) (fun c50 => ?_)
                           · first
                             | (exfalso; omega)
                             | (refine J.iconst (pc' := 58) rfl rfl ?_
                                refine J.iconst (pc' := 59) rfl rfl ?_
                                first | refine J.callV (pc' := 62) (t := 16) rfl MX12_may ml_X12_161 iv_X12_may (by decide) ⟨_, rfl, rfl⟩ B.1 (cm_may1 B h0) rfl rfl (Nat.le_of_ble_eq_true rfl) (by first | omega | (exact R.r _ _) | (simp only [jM.len_sI, jM.len_sL, jM.len_sR, jM.len_fI, jM.len_fL, jM.len_fR]; omega) | (simp [jM.len_nw, jM.len_sI, jM.len_sL, jM.len_sR, jM.len_fI, jM.len_fL, jM.len_fR, *]; omega)) (by first | omega | (exact R.r _ _) | (simp only [jM.len_sI, jM.len_sL, jM.len_sR, jM.len_fI, jM.len_fL, jM.len_fR]; omega) | (simp [jM.len_nw, jM.len_sI, jM.len_sL, jM.len_sR, jM.len_fI, jM.len_fL, jM.len_fR, *]; omega)) (by first | omega | (exact R.r _ _) | (simp only [jM.len_sI, jM.len_sL, jM.len_sR, jM.len_fI, jM.len_fL, jM.len_fR]; omega) | (simp [jM.len_nw, jM.len_sI, jM.len_sL, jM.len_sR, jM.len_fI, jM.len_fL, jM.len_fR, *]; omega)) rfl rfl ?_ ?_ | refine J.callV (pc' := 62) (t := 16) rfl MX12_may ml_X12_161 iv_X12_may (by decide) ⟨_, rfl, rfl⟩ B.1 (cm_may0 B h0 (by omega)) rfl rfl (Nat.le_of_ble_eq_true rfl) (by first | omega | (exact R.r _ _) | (simp only [jM.len_sI, jM.len_sL, jM.len_sR, jM.len_fI, jM.len_fL, jM.len_fR]; omega) | (simp [jM.len_nw, jM.len_sI, jM.len_sL, jM.len_sR, jM.len_fI, jM.len_fL, jM.len_fR, *]; omega)) (by first | omega | (exact R.r _ _) | (simp only [jM.len_sI, jM.len_sL, jM.len_sR, jM.len_fI, jM.len_fL, jM.len_fR]; omega) | (simp [jM.len_nw, jM.len_sI, jM.len_sL, jM.len_sR, jM.len_fI, jM.len_fL, jM.len_fR, *]; omega)) (by first | omega | (exact R.r _ _) | (simp only [jM.len_sI, jM.len_sL, jM.len_sR, jM.len_fI, jM.len_fL, jM.len_fR]; omega) | (simp [jM.len_nw, jM.len_sI, jM.len_sL, jM.len_sR, jM.len_fI, jM.len_fL, jM.len_fR, *]; omega)) rfl rfl ?_ ?_
                                · exact fun _ _ h => h
                                rintro _ _ ⟨rfl, rfl⟩
                                refine J.if_ne (tgt := 67) (pc' := 65) rfl rfl rfl (by first | omega | (exact R.r _ _) | (simp only [jM.len_sI, jM.len_sL, jM.len_sR, jM.len_fI, jM.len_fL, jM.len_fR]; omega) | (simp [jM.len_nw, jM.len_sI, jM.len_sL, jM.len_sR, jM.len_fI, jM.len_fL, jM.len_fR, *]; omega)) (fun c62 => ?_) (fun c62 => ?_)
                                · first
                                  | (exfalso; omega)
                                  | (refine J.bipush (pc' := 69) rfl rfl (by decide) ?_
                                     refine J.iload_n (pc' := 70) rfl rfl rfl ?_
                                     refine J.imul (pc' := 71) rfl rfl ?_
                                     first | refine J.aload_n (pc' := 72) rfl rfl rfl ?_ | refine J.aload_nN (pc' := 72) rfl rfl rfl ?_
                                     refine J.mgR (pc' := 75) (t := 138) B rfl fl_X12_91 rfl rfl (by decide) rfl ?_
                                     refine J.iload_n (pc' := 76) rfl rfl rfl ?_
                                     refine J.mald (pc' := 77) B rfl rfl rfl (by omega) (by simp only [jLn]; omega) rfl ?_
                                     refine J.iadd (pc' := 78) rfl rfl ?_
                                     refine J.iconst (pc' := 79) rfl rfl ?_
                                     refine J.isub (pc' := 80) rfl rfl ?_
                                     refine J.iload_n (pc' := 81) rfl rfl rfl ?_
                                     refine J.isub (pc' := 82) rfl rfl ?_
                                     refine J.istore (pc' := 84) rfl rfl (by decide) ?_
                                     refine J.iload_n (pc' := 85) rfl rfl rfl ?_
                                     refine J.tsw (tgt := 136) (n := 3) (T := jNth [112, 120, 128]) rfl (by first | omega | (exact R.r _ _) | (simp only [jM.len_sI, jM.len_sL, jM.len_sR, jM.len_fI, jM.len_fL, jM.len_fR]; omega) | (simp [jM.len_nw, jM.len_sI, jM.len_sL, jM.len_sR, jM.len_fI, jM.len_fL, jM.len_fR, *]; omega)) rfl rfl (fun k hk => by rcases k with _ | _ | _ | k <;> first | exact ⟨_, rfl, rfl⟩ | omega) (fun c85 => ?_) (fun k85 hk85 c85 => ?_)
                                     · first
                                       | (exfalso; omega)
                                       | (refine J.iload_n (pc' := 137) rfl rfl rfl ?_
                                          refine J.iconst (pc' := 138) rfl rfl ?_
                                          refine J.irem (pc' := 139) rfl rfl (by first | omega | (exact R.r _ _) | (simp only [jM.len_sI, jM.len_sL, jM.len_sR, jM.len_fI, jM.len_fL, jM.len_fR]; omega) | (simp [jM.len_nw, jM.len_sI, jM.len_sL, jM.len_sR, jM.len_fI, jM.len_fL, jM.len_fR, *]; omega)) (by first | omega | (exact R.r _ _) | (simp only [jM.len_sI, jM.len_sL, jM.len_sR, jM.len_fI, jM.len_fL, jM.len_fR]; omega) | (simp [jM.len_nw, jM.len_sI, jM.len_sL, jM.len_sR, jM.len_fI, jM.len_fL, jM.len_fR, *]; omega)) (by first | omega | (exact R.r _ _) | (simp only [jM.len_sI, jM.len_sL, jM.len_sR, jM.len_fI, jM.len_fL, jM.len_fR]; omega) | (simp [jM.len_nw, jM.len_sI, jM.len_sL, jM.len_sR, jM.len_fI, jM.len_fL, jM.len_fR, *]; omega)) ?_
                                          rw [Int.tmod_eq_emod_of_nonneg (by omega)]
                                          refine J.iconst (pc' := 140) rfl rfl ?_
                                          refine J.icmp_ne (tgt := 157) (pc' := 143) rfl rfl rfl (by first | omega | (exact R.r _ _) | (simp only [jM.len_sI, jM.len_sL, jM.len_sR, jM.len_fI, jM.len_fL, jM.len_fR]; omega) | (simp [jM.len_nw, jM.len_sI, jM.len_sL, jM.len_sR, jM.len_fI, jM.len_fL, jM.len_fR, *]; omega)) (by first | omega | (exact R.r _ _) | (simp only [jM.len_sI, jM.len_sL, jM.len_sR, jM.len_fI, jM.len_fL, jM.len_fR]; omega) | (simp [jM.len_nw, jM.len_sI, jM.len_sL, jM.len_sR, jM.len_fI, jM.len_fL, jM.len_fR, *]; omega)) (fun c140 => ?_) (fun c140 => ?_)
                                          · first
                                            | (exfalso; omega)
                                            | (first | refine J.aload_n (pc' := 158) rfl rfl rfl ?_ | refine J.aload_nN (pc' := 158) rfl rfl rfl ?_
                                               refine J.iload (pc' := 160) rfl rfl rfl ?_
                                               refine J.iload_n (pc' := 161) rfl rfl rfl ?_
                                               refine J.iconst (pc' := 162) rfl rfl ?_
                                               refine J.isub (pc' := 163) rfl rfl ?_
                                               refine J.iconst (pc' := 164) rfl rfl ?_
                                               refine J.idiv (pc' := 165) rfl rfl (by first | omega | (exact R.r _ _) | (simp only [jM.len_sI, jM.len_sL, jM.len_sR, jM.len_fI, jM.len_fL, jM.len_fR]; omega) | (simp [jM.len_nw, jM.len_sI, jM.len_sL, jM.len_sR, jM.len_fI, jM.len_fL, jM.len_fR, *]; omega)) (by first | omega | (exact R.r _ _) | (simp only [jM.len_sI, jM.len_sL, jM.len_sR, jM.len_fI, jM.len_fL, jM.len_fR]; omega) | (simp [jM.len_nw, jM.len_sI, jM.len_sL, jM.len_sR, jM.len_fI, jM.len_fL, jM.len_fR, *]; omega)) (by first | omega | (exact R.r _ _) | (simp only [jM.len_sI, jM.len_sL, jM.len_sR, jM.len_fI, jM.len_fL, jM.len_fR]; omega) | (simp [jM.len_nw, jM.len_sI, jM.len_sL, jM.len_sR, jM.len_fI, jM.len_fL, jM.len_fR, *]; omega)) ?_
                                               rw [Int.tdiv_eq_ediv_of_nonneg (by omega)]
                                               refine J.callV (pc' := 168) (t := 16) rfl MX12_highOfLayer ml_X12_307 iv_X12_highOfLayer (by decide) ⟨_, rfl, rfl⟩ B.1 (cm_highL B R (by omega) (by omega)) rfl rfl (Nat.le_of_ble_eq_true rfl) (by first | omega | (exact R.r _ _) | (simp only [jM.len_sI, jM.len_sL, jM.len_sR, jM.len_fI, jM.len_fL, jM.len_fR]; omega) | (simp [jM.len_nw, jM.len_sI, jM.len_sL, jM.len_sR, jM.len_fI, jM.len_fL, jM.len_fR, *]; omega)) (by first | omega | (exact R.r _ _) | (simp only [jM.len_sI, jM.len_sL, jM.len_sR, jM.len_fI, jM.len_fL, jM.len_fR]; omega) | (simp [jM.len_nw, jM.len_sI, jM.len_sL, jM.len_sR, jM.len_fI, jM.len_fL, jM.len_fR, *]; omega)) (by first | omega | (exact R.r _ _) | (simp only [jM.len_sI, jM.len_sL, jM.len_sR, jM.len_fI, jM.len_fL, jM.len_fR]; omega) | (simp [jM.len_nw, jM.len_sI, jM.len_sL, jM.len_sR, jM.len_fI, jM.len_fL, jM.len_fR, *]; omega)) rfl rfl ?_ ?_
                                               · exact fun _ _ h => h
                                               rintro _ _ ⟨rfl, rfl⟩
                                               refine J.iret rfl rfl (by first | omega | (exact R.r _ _) | (simp only [jM.len_sI, jM.len_sL, jM.len_sR, jM.len_fI, jM.len_fL, jM.len_fR]; omega) | (simp [jM.len_nw, jM.len_sI, jM.len_sL, jM.len_sR, jM.len_fI, jM.len_fL, jM.len_fR, *]; omega)) (by first | omega | (exact R.r _ _) | (simp only [jM.len_sI, jM.len_sL, jM.len_sR, jM.len_fI, jM.len_fL, jM.len_fR]; omega) | (simp [jM.len_nw, jM.len_sI, jM.len_sL, jM.len_sR, jM.len_fI, jM.len_fL, jM.len_fR, *]; omega)) ?_
                                               exact mQ.of (by unfold sp_layer layV; (repeat (first | rw [if_pos (by omega)] | rw [if_neg (by omega)]))))
                                          · first
                                            | (exfalso; omega)
                                            | (first | refine J.aload_n (pc' := 144) rfl rfl rfl ?_ | refine J.aload_nN (pc' := 144) rfl rfl rfl ?_
                                               refine J.iload (pc' := 146) rfl rfl rfl ?_
                                               refine J.iload_n (pc' := 147) rfl rfl rfl ?_
                                               refine J.iconst (pc' := 148) rfl rfl ?_
                                               refine J.isub (pc' := 149) rfl rfl ?_
                                               refine J.iconst (pc' := 150) rfl rfl ?_
                                               refine J.idiv (pc' := 151) rfl rfl (by first | omega | (exact R.r _ _) | (simp only [jM.len_sI, jM.len_sL, jM.len_sR, jM.len_fI, jM.len_fL, jM.len_fR]; omega) | (simp [jM.len_nw, jM.len_sI, jM.len_sL, jM.len_sR, jM.len_fI, jM.len_fL, jM.len_fR, *]; omega)) (by first | omega | (exact R.r _ _) | (simp only [jM.len_sI, jM.len_sL, jM.len_sR, jM.len_fI, jM.len_fL, jM.len_fR]; omega) | (simp [jM.len_nw, jM.len_sI, jM.len_sL, jM.len_sR, jM.len_fI, jM.len_fL, jM.len_fR, *]; omega)) (by first | omega | (exact R.r _ _) | (simp only [jM.len_sI, jM.len_sL, jM.len_sR, jM.len_fI, jM.len_fL, jM.len_fR]; omega) | (simp [jM.len_nw, jM.len_sI, jM.len_sL, jM.len_sR, jM.len_fI, jM.len_fL, jM.len_fR, *]; omega)) ?_
                                               rw [Int.tdiv_eq_ediv_of_nonneg (by omega)]
                                               refine J.callV (pc' := 154) (t := 16) rfl MX12_lowOfLayer ml_X12_304 iv_X12_lowOfLayer (by decide) ⟨_, rfl, rfl⟩ B.1 (cm_lowL B R (by omega) (by omega)) rfl rfl (Nat.le_of_ble_eq_true rfl) (by first | omega | (exact R.r _ _) | (simp only [jM.len_sI, jM.len_sL, jM.len_sR, jM.len_fI, jM.len_fL, jM.len_fR]; omega) | (simp [jM.len_nw, jM.len_sI, jM.len_sL, jM.len_sR, jM.len_fI, jM.len_fL, jM.len_fR, *]; omega)) (by first | omega | (exact R.r _ _) | (simp only [jM.len_sI, jM.len_sL, jM.len_sR, jM.len_fI, jM.len_fL, jM.len_fR]; omega) | (simp [jM.len_nw, jM.len_sI, jM.len_sL, jM.len_sR, jM.len_fI, jM.len_fL, jM.len_fR, *]; omega)) (by first | omega | (exact R.r _ _) | (simp only [jM.len_sI, jM.len_sL, jM.len_sR, jM.len_fI, jM.len_fL, jM.len_fR]; omega) | (simp [jM.len_nw, jM.len_sI, jM.len_sL, jM.len_sR, jM.len_fI, jM.len_fL, jM.len_fR, *]; omega)) rfl rfl ?_ ?_
                                               · exact fun _ _ h => h
                                               rintro _ _ ⟨rfl, rfl⟩
                                               refine J.goto (tgt := 168) rfl rfl ?_
                                               refine J.iret rfl rfl (by first | omega | (exact R.r _ _) | (simp only [jM.len_sI, jM.len_sL, jM.len_sR, jM.len_fI, jM.len_fL, jM.len_fR]; omega) | (simp [jM.len_nw, jM.len_sI, jM.len_sL, jM.len_sR, jM.len_fI, jM.len_fL, jM.len_fR, *]; omega)) (by first | omega | (exact R.r _ _) | (simp only [jM.len_sI, jM.len_sL, jM.len_sR, jM.len_fI, jM.len_fL, jM.len_fR]; omega) | (simp [jM.len_nw, jM.len_sI, jM.len_sL, jM.len_sR, jM.len_fI, jM.len_fL, jM.len_fR, *]; omega)) ?_
                                               exact mQ.of (by unfold sp_layer layV; (repeat (first | rw [if_pos (by omega)] | rw [if_neg (by omega)])))))
                                     rcases k85 with _ | _ | _ | k85
                                     · first
                                       | (exfalso; omega)
                                       | (first | refine J.aload_n (pc' := 113) rfl rfl rfl ?_ | refine J.aload_nN (pc' := 113) rfl rfl rfl ?_
                                          refine J.mgR (pc' := 116) (t := 139) B rfl fl_X12_94 rfl rfl (by decide) rfl ?_
                                          refine J.iload (pc' := 118) rfl rfl rfl ?_
                                          refine J.mald (pc' := 119) B rfl rfl rfl (by omega) (by simp only [jLn]; omega) rfl ?_
                                          refine J.iret rfl rfl (by first | omega | (exact R.r _ _) | (simp only [jM.len_sI, jM.len_sL, jM.len_sR, jM.len_fI, jM.len_fL, jM.len_fR]; omega) | (simp [jM.len_nw, jM.len_sI, jM.len_sL, jM.len_sR, jM.len_fI, jM.len_fL, jM.len_fR, *]; omega)) (by first | omega | (exact R.r _ _) | (simp only [jM.len_sI, jM.len_sL, jM.len_sR, jM.len_fI, jM.len_fL, jM.len_fR]; omega) | (simp [jM.len_nw, jM.len_sI, jM.len_sL, jM.len_sR, jM.len_fI, jM.len_fL, jM.len_fR, *]; omega)) ?_
                                          exact mQ.of (by unfold sp_layer layV; (repeat (first | rw [if_pos (by omega)] | rw [if_neg (by omega)]))))
                                     · first
                                       | (exfalso; omega)
                                       | (first | refine J.aload_n (pc' := 121) rfl rfl rfl ?_ | refine J.aload_nN (pc' := 121) rfl rfl rfl ?_
                                          refine J.mgR (pc' := 124) (t := 140) B rfl fl_X12_97 rfl rfl (by decide) rfl ?_
                                          refine J.iload (pc' := 126) rfl rfl rfl ?_
                                          refine J.mald (pc' := 127) B rfl rfl rfl (by omega) (by simp only [jLn]; omega) rfl ?_
                                          refine J.iret rfl rfl (by first | omega | (exact R.r _ _) | (simp only [jM.len_sI, jM.len_sL, jM.len_sR, jM.len_fI, jM.len_fL, jM.len_fR]; omega) | (simp [jM.len_nw, jM.len_sI, jM.len_sL, jM.len_sR, jM.len_fI, jM.len_fL, jM.len_fR, *]; omega)) (by first | omega | (exact R.r _ _) | (simp only [jM.len_sI, jM.len_sL, jM.len_sR, jM.len_fI, jM.len_fL, jM.len_fR]; omega) | (simp [jM.len_nw, jM.len_sI, jM.len_sL, jM.len_sR, jM.len_fI, jM.len_fL, jM.len_fR, *]; omega)) ?_
                                          exact mQ.of (by unfold sp_layer layV; (repeat (first | rw [if_pos (by omega)] | rw [if_neg (by omega)]))))
                                     · first
                                       | (exfalso; omega)
                                       | (first | refine J.aload_n (pc' := 129) rfl rfl rfl ?_ | refine J.aload_nN (pc' := 129) rfl rfl rfl ?_
                                          refine J.mgR (pc' := 132) (t := 141) B rfl fl_X12_100 rfl rfl (by decide) rfl ?_
                                          refine J.iload (pc' := 134) rfl rfl rfl ?_
                                          refine J.mald (pc' := 135) B rfl rfl rfl (by omega) (by simp only [jLn]; omega) rfl ?_
                                          refine J.iret rfl rfl (by first | omega | (exact R.r _ _) | (simp only [jM.len_sI, jM.len_sL, jM.len_sR, jM.len_fI, jM.len_fL, jM.len_fR]; omega) | (simp [jM.len_nw, jM.len_sI, jM.len_sL, jM.len_sR, jM.len_fI, jM.len_fL, jM.len_fR, *]; omega)) (by first | omega | (exact R.r _ _) | (simp only [jM.len_sI, jM.len_sL, jM.len_sR, jM.len_fI, jM.len_fL, jM.len_fR]; omega) | (simp [jM.len_nw, jM.len_sI, jM.len_sL, jM.len_sR, jM.len_fI, jM.len_fL, jM.len_fR, *]; omega)) ?_
                                          exact mQ.of (by unfold sp_layer layV; (repeat (first | rw [if_pos (by omega)] | rw [if_neg (by omega)]))))
                                     · omega)
                                · first
                                  | (exfalso; omega)
                                  | (refine J.iconst (pc' := 66) rfl rfl ?_
                                     refine J.iret rfl rfl (by first | omega | (exact R.r _ _) | (simp only [jM.len_sI, jM.len_sL, jM.len_sR, jM.len_fI, jM.len_fL, jM.len_fR]; omega) | (simp [jM.len_nw, jM.len_sI, jM.len_sL, jM.len_sR, jM.len_fI, jM.len_fL, jM.len_fR, *]; omega)) (by first | omega | (exact R.r _ _) | (simp only [jM.len_sI, jM.len_sL, jM.len_sR, jM.len_fI, jM.len_fL, jM.len_fR]; omega) | (simp [jM.len_nw, jM.len_sI, jM.len_sL, jM.len_sR, jM.len_fI, jM.len_fL, jM.len_fR, *]; omega)) ?_
                                     exact mQ.of (by unfold sp_layer layV; (repeat (first | rw [if_pos (by omega)] | rw [if_neg (by omega)])))))
                           · first
                             | (exfalso; omega)
                             | (refine J.iconst (pc' := 54) rfl rfl ?_
                                refine J.goto (tgt := 58) rfl rfl ?_
                                refine J.iconst (pc' := 59) rfl rfl ?_
                                first | refine J.callV (pc' := 62) (t := 16) rfl MX12_may ml_X12_161 iv_X12_may (by decide) ⟨_, rfl, rfl⟩ B.1 (cm_may1 B h0) rfl rfl (Nat.le_of_ble_eq_true rfl) (by first | omega | (exact R.r _ _) | (simp only [jM.len_sI, jM.len_sL, jM.len_sR, jM.len_fI, jM.len_fL, jM.len_fR]; omega) | (simp [jM.len_nw, jM.len_sI, jM.len_sL, jM.len_sR, jM.len_fI, jM.len_fL, jM.len_fR, *]; omega)) (by first | omega | (exact R.r _ _) | (simp only [jM.len_sI, jM.len_sL, jM.len_sR, jM.len_fI, jM.len_fL, jM.len_fR]; omega) | (simp [jM.len_nw, jM.len_sI, jM.len_sL, jM.len_sR, jM.len_fI, jM.len_fL, jM.len_fR, *]; omega)) (by first | omega | (exact R.r _ _) | (simp only [jM.len_sI, jM.len_sL, jM.len_sR, jM.len_fI, jM.len_fL, jM.len_fR]; omega) | (simp [jM.len_nw, jM.len_sI, jM.len_sL, jM.len_sR, jM.len_fI, jM.len_fL, jM.len_fR, *]; omega)) rfl rfl ?_ ?_ | refine J.callV (pc' := 62) (t := 16) rfl MX12_may ml_X12_161 iv_X12_may (by decide) ⟨_, rfl, rfl⟩ B.1 (cm_may0 B h0 (by omega)) rfl rfl (Nat.le_of_ble_eq_true rfl) (by first | omega | (exact R.r _ _) | (simp only [jM.len_sI, jM.len_sL, jM.len_sR, jM.len_fI, jM.len_fL, jM.len_fR]; omega) | (simp [jM.len_nw, jM.len_sI, jM.len_sL, jM.len_sR, jM.len_fI, jM.len_fL, jM.len_fR, *]; omega)) (by first | omega | (exact R.r _ _) | (simp only [jM.len_sI, jM.len_sL, jM.len_sR, jM.len_fI, jM.len_fL, jM.len_fR]; omega) | (simp [jM.len_nw, jM.len_sI, jM.len_sL, jM.len_sR, jM.len_fI, jM.len_fL, jM.len_fR, *]; omega)) (by first | omega | (exact R.r _ _) | (simp only [jM.len_sI, jM.len_sL, jM.len_sR, jM.len_fI, jM.len_fL, jM.len_fR]; omega) | (simp [jM.len_nw, jM.len_sI, jM.len_sL, jM.len_sR, jM.len_fI, jM.len_fL, jM.len_fR, *]; omega)) rfl rfl ?_ ?_
                                · exact fun _ _ h => h
                                rintro _ _ ⟨rfl, rfl⟩
                                refine J.if_ne (tgt := 67) (pc' := 65) rfl rfl rfl (by first | omega | (exact R.r _ _) | (simp only [jM.len_sI, jM.len_sL, jM.len_sR, jM.len_fI, jM.len_fL, jM.len_fR]; omega) | (simp [jM.len_nw, jM.len_sI, jM.len_sL, jM.len_sR, jM.len_fI, jM.len_fL, jM.len_fR, *]; omega)) (fun c62 => ?_) (fun c62 => ?_)
                                · first
                                  | (exfalso; omega)
                                  | (refine J.bipush (pc' := 69) rfl rfl (by decide) ?_
                                     refine J.iload_n (pc' := 70) rfl rfl rfl ?_
                                     refine J.imul (pc' := 71) rfl rfl ?_
                                     first | refine J.aload_n (pc' := 72) rfl rfl rfl ?_ | refine J.aload_nN (pc' := 72) rfl rfl rfl ?_
                                     refine J.mgR (pc' := 75) (t := 138) B rfl fl_X12_91 rfl rfl (by decide) rfl ?_
                                     refine J.iload_n (pc' := 76) rfl rfl rfl ?_
                                     refine J.mald (pc' := 77) B rfl rfl rfl (by omega) (by simp only [jLn]; omega) rfl ?_
                                     refine J.iadd (pc' := 78) rfl rfl ?_
                                     refine J.iconst (pc' := 79) rfl rfl ?_
                                     refine J.isub (pc' := 80) rfl rfl ?_
                                     refine J.iload_n (pc' := 81) rfl rfl rfl ?_
                                     refine J.isub (pc' := 82) rfl rfl ?_
                                     refine J.istore (pc' := 84) rfl rfl (by decide) ?_
                                     refine J.iload_n (pc' := 85) rfl rfl rfl ?_
                                     refine J.tsw (tgt := 136) (n := 3) (T := jNth [112, 120, 128]) rfl (by first | omega | (exact R.r _ _) | (simp only [jM.len_sI, jM.len_sL, jM.len_sR, jM.len_fI, jM.len_fL, jM.len_fR]; omega) | (simp [jM.len_nw, jM.len_sI, jM.len_sL, jM.len_sR, jM.len_fI, jM.len_fL, jM.len_fR, *]; omega)) rfl rfl (fun k hk => by rcases k with _ | _ | _ | k <;> first | exact ⟨_, rfl, rfl⟩ | omega) (fun c85 => ?_) (fun k85 hk85 c85 => ?_)
                                     · first
                                       | (exfalso; omega)
                                       | (refine J.iload_n (pc' := 137) rfl rfl rfl ?_
                                          refine J.iconst (pc' := 138) rfl rfl ?_
                                          refine J.irem (pc' := 139) rfl rfl (by first | omega | (exact R.r _ _) | (simp only [jM.len_sI, jM.len_sL, jM.len_sR, jM.len_fI, jM.len_fL, jM.len_fR]; omega) | (simp [jM.len_nw, jM.len_sI, jM.len_sL, jM.len_sR, jM.len_fI, jM.len_fL, jM.len_fR, *]; omega)) (by first | omega | (exact R.r _ _) | (simp only [jM.len_sI, jM.len_sL, jM.len_sR, jM.len_fI, jM.len_fL, jM.len_fR]; omega) | (simp [jM.len_nw, jM.len_sI, jM.len_sL, jM.len_sR, jM.len_fI, jM.len_fL, jM.len_fR, *]; omega)) (by first | omega | (exact R.r _ _) | (simp only [jM.len_sI, jM.len_sL, jM.len_sR, jM.len_fI, jM.len_fL, jM.len_fR]; omega) | (simp [jM.len_nw, jM.len_sI, jM.len_sL, jM.len_sR, jM.len_fI, jM.len_fL, jM.len_fR, *]; omega)) ?_
                                          rw [Int.tmod_eq_emod_of_nonneg (by omega)]
                                          refine J.iconst (pc' := 140) rfl rfl ?_
                                          refine J.icmp_ne (tgt := 157) (pc' := 143) rfl rfl rfl (by first | omega | (exact R.r _ _) | (simp only [jM.len_sI, jM.len_sL, jM.len_sR, jM.len_fI, jM.len_fL, jM.len_fR]; omega) | (simp [jM.len_nw, jM.len_sI, jM.len_sL, jM.len_sR, jM.len_fI, jM.len_fL, jM.len_fR, *]; omega)) (by first | omega | (exact R.r _ _) | (simp only [jM.len_sI, jM.len_sL, jM.len_sR, jM.len_fI, jM.len_fL, jM.len_fR]; omega) | (simp [jM.len_nw, jM.len_sI, jM.len_sL, jM.len_sR, jM.len_fI, jM.len_fL, jM.len_fR, *]; omega)) (fun c140 => ?_) (fun c140 => ?_)
                                          · first
                                            | (exfalso; omega)
                                            | (first | refine J.aload_n (pc' := 158) rfl rfl rfl ?_ | refine J.aload_nN (pc' := 158) rfl rfl rfl ?_
                                               refine J.iload (pc' := 160) rfl rfl rfl ?_
                                               refine J.iload_n (pc' := 161) rfl rfl rfl ?_
                                               refine J.iconst (pc' := 162) rfl rfl ?_
                                               refine J.isub (pc' := 163) rfl rfl ?_
                                               refine J.iconst (pc' := 164) rfl rfl ?_
                                               refine J.idiv (pc' := 165) rfl rfl (by first | omega | (exact R.r _ _) | (simp only [jM.len_sI, jM.len_sL, jM.len_sR, jM.len_fI, jM.len_fL, jM.len_fR]; omega) | (simp [jM.len_nw, jM.len_sI, jM.len_sL, jM.len_sR, jM.len_fI, jM.len_fL, jM.len_fR, *]; omega)) (by first | omega | (exact R.r _ _) | (simp only [jM.len_sI, jM.len_sL, jM.len_sR, jM.len_fI, jM.len_fL, jM.len_fR]; omega) | (simp [jM.len_nw, jM.len_sI, jM.len_sL, jM.len_sR, jM.len_fI, jM.len_fL, jM.len_fR, *]; omega)) (by first | omega | (exact R.r _ _) | (simp only [jM.len_sI, jM.len_sL, jM.len_sR, jM.len_fI, jM.len_fL, jM.len_fR]; omega) | (simp [jM.len_nw, jM.len_sI, jM.len_sL, jM.len_sR, jM.len_fI, jM.len_fL, jM.len_fR, *]; omega)) ?_
                                               rw [Int.tdiv_eq_ediv_of_nonneg (by omega)]
                                               refine J.callV (pc' := 168) (t := 16) rfl MX12_highOfLayer ml_X12_307 iv_X12_highOfLayer (by decide) ⟨_, rfl, rfl⟩ B.1 (cm_highL B R (by omega) (by omega)) rfl rfl (Nat.le_of_ble_eq_true rfl) (by first | omega | (exact R.r _ _) | (simp only [jM.len_sI, jM.len_sL, jM.len_sR, jM.len_fI, jM.len_fL, jM.len_fR]; omega) | (simp [jM.len_nw, jM.len_sI, jM.len_sL, jM.len_sR, jM.len_fI, jM.len_fL, jM.len_fR, *]; omega)) (by first | omega | (exact R.r _ _) | (simp only [jM.len_sI, jM.len_sL, jM.len_sR, jM.len_fI, jM.len_fL, jM.len_fR]; omega) | (simp [jM.len_nw, jM.len_sI, jM.len_sL, jM.len_sR, jM.len_fI, jM.len_fL, jM.len_fR, *]; omega)) (by first | omega | (exact R.r _ _) | (simp only [jM.len_sI, jM.len_sL, jM.len_sR, jM.len_fI, jM.len_fL, jM.len_fR]; omega) | (simp [jM.len_nw, jM.len_sI, jM.len_sL, jM.len_sR, jM.len_fI, jM.len_fL, jM.len_fR, *]; omega)) rfl rfl ?_ ?_
                                               · exact fun _ _ h => h
                                               rintro _ _ ⟨rfl, rfl⟩
                                               refine J.iret rfl rfl (by first | omega | (exact R.r _ _) | (simp only [jM.len_sI, jM.len_sL, jM.len_sR, jM.len_fI, jM.len_fL, jM.len_fR]; omega) | (simp [jM.len_nw, jM.len_sI, jM.len_sL, jM.len_sR, jM.len_fI, jM.len_fL, jM.len_fR, *]; omega)) (by first | omega | (exact R.r _ _) | (simp only [jM.len_sI, jM.len_sL, jM.len_sR, jM.len_fI, jM.len_fL, jM.len_fR]; omega) | (simp [jM.len_nw, jM.len_sI, jM.len_sL, jM.len_sR, jM.len_fI, jM.len_fL, jM.len_fR, *]; omega)) ?_
                                               exact mQ.of (by unfold sp_layer layV; (repeat (first | rw [if_pos (by omega)] | rw [if_neg (by omega)]))))
                                          · first
                                            | (exfalso; omega)
                                            | (first | refine J.aload_n (pc' := 144) rfl rfl rfl ?_ | refine J.aload_nN (pc' := 144) rfl rfl rfl ?_
                                               refine J.iload (pc' := 146) rfl rfl rfl ?_
                                               refine J.iload_n (pc' := 147) rfl rfl rfl ?_
                                               refine J.iconst (pc' := 148) rfl rfl ?_
                                               refine J.isub (pc' := 149) rfl rfl ?_
                                               refine J.iconst (pc' := 150) rfl rfl ?_
                                               refine J.idiv (pc' := 151) rfl rfl (by first | omega | (exact R.r _ _) | (simp only [jM.len_sI, jM.len_sL, jM.len_sR, jM.len_fI, jM.len_fL, jM.len_fR]; omega) | (simp [jM.len_nw, jM.len_sI, jM.len_sL, jM.len_sR, jM.len_fI, jM.len_fL, jM.len_fR, *]; omega)) (by first | omega | (exact R.r _ _) | (simp only [jM.len_sI, jM.len_sL, jM.len_sR, jM.len_fI, jM.len_fL, jM.len_fR]; omega) | (simp [jM.len_nw, jM.len_sI, jM.len_sL, jM.len_sR, jM.len_fI, jM.len_fL, jM.len_fR, *]; omega)) (by first | omega | (exact R.r _ _) | (simp only [jM.len_sI, jM.len_sL, jM.len_sR, jM.len_fI, jM.len_fL, jM.len_fR]; omega) | (simp [jM.len_nw, jM.len_sI, jM.len_sL, jM.len_sR, jM.len_fI, jM.len_fL, jM.len_fR, *]; omega)) ?_
                                               rw [Int.tdiv_eq_ediv_of_nonneg (by omega)]
                                               refine J.callV (pc' := 154) (t := 16) rfl MX12_lowOfLayer ml_X12_304 iv_X12_lowOfLayer (by decide) ⟨_, rfl, rfl⟩ B.1 (cm_lowL B R (by omega) (by omega)) rfl rfl (Nat.le_of_ble_eq_true rfl) (by first | omega | (exact R.r _ _) | (simp only [jM.len_sI, jM.len_sL, jM.len_sR, jM.len_fI, jM.len_fL, jM.len_fR]; omega) | (simp [jM.len_nw, jM.len_sI, jM.len_sL, jM.len_sR, jM.len_fI, jM.len_fL, jM.len_fR, *]; omega)) (by first | omega | (exact R.r _ _) | (simp only [jM.len_sI, jM.len_sL, jM.len_sR, jM.len_fI, jM.len_fL, jM.len_fR]; omega) | (simp [jM.len_nw, jM.len_sI, jM.len_sL, jM.len_sR, jM.len_fI, jM.len_fL, jM.len_fR, *]; omega)) (by first | omega | (exact R.r _ _) | (simp only [jM.len_sI, jM.len_sL, jM.len_sR, jM.len_fI, jM.len_fL, jM.len_fR]; omega) | (simp [jM.len_nw, jM.len_sI, jM.len_sL, jM.len_sR, jM.len_fI, jM.len_fL, jM.len_fR, *]; omega)) rfl rfl ?_ ?_
                                               · exact fun _ _ h => h
                                               rintro _ _ ⟨rfl, rfl⟩
                                               refine J.goto (tgt := 168) rfl rfl ?_
                                               refine J.iret rfl rfl (by first | omega | (exact R.r _ _) | (simp only [jM.len_sI, jM.len_sL, jM.len_sR, jM.len_fI, jM.len_fL, jM.len_fR]; omega) | (simp [jM.len_nw, jM.len_sI, jM.len_sL, jM.len_sR, jM.len_fI, jM.len_fL, jM.len_fR, *]; omega)) (by first | omega | (exact R.r _ _) | (simp only [jM.len_sI, jM.len_sL, jM.len_sR, jM.len_fI, jM.len_fL, jM.len_fR]; omega) | (simp [jM.len_nw, jM.len_sI, jM.len_sL, jM.len_sR, jM.len_fI, jM.len_fL, jM.len_fR, *]; omega)) ?_
                                               exact mQ.of (by unfold sp_layer layV; (repeat (first | rw [if_pos (by omega)] | rw [if_neg (by omega)])))))
                                     rcases k85 with _ | _ | _ | k85
                                     · first
                                       | (exfalso; omega)
                                       | (first | refine J.aload_n (pc' := 113) rfl rfl rfl ?_ | refine J.aload_nN (pc' := 113) rfl rfl rfl ?_
                                          refine J.mgR (pc' := 116) (t := 139) B rfl fl_X12_94 rfl rfl (by decide) rfl ?_
                                          refine J.iload (pc' := 118) rfl rfl rfl ?_
                                          refine J.mald (pc' := 119) B rfl rfl rfl (by omega) (by simp only [jLn]; omega) rfl ?_
                                          refine J.iret rfl rfl (by first | omega | (exact R.r _ _) | (simp only [jM.len_sI, jM.len_sL, jM.len_sR, jM.len_fI, jM.len_fL, jM.len_fR]; omega) | (simp [jM.len_nw, jM.len_sI, jM.len_sL, jM.len_sR, jM.len_fI, jM.len_fL, jM.len_fR, *]; omega)) (by first | omega | (exact R.r _ _) | (simp only [jM.len_sI, jM.len_sL, jM.len_sR, jM.len_fI, jM.len_fL, jM.len_fR]; omega) | (simp [jM.len_nw, jM.len_sI, jM.len_sL, jM.len_sR, jM.len_fI, jM.len_fL, jM.len_fR, *]; omega)) ?_
                                          exact mQ.of (by unfold sp_layer layV; (repeat (first | rw [if_pos (by omega)] | rw [if_neg (by omega)]))))
                                     · first
                                       | (exfalso; omega)
                                       | (first | refine J.aload_n (pc' := 121) rfl rfl rfl ?_ | refine J.aload_nN (pc' := 121) rfl rfl rfl ?_
                                          refine J.mgR (pc' := 124) (t := 140) B rfl fl_X12_97 rfl rfl (by decide) rfl ?_
                                          refine J.iload (pc' := 126) rfl rfl rfl ?_
                                          refine J.mald (pc' := 127) B rfl rfl rfl (by omega) (by simp only [jLn]; omega) rfl ?_
                                          refine J.iret rfl rfl (by first | omega | (exact R.r _ _) | (simp only [jM.len_sI, jM.len_sL, jM.len_sR, jM.len_fI, jM.len_fL, jM.len_fR]; omega) | (simp [jM.len_nw, jM.len_sI, jM.len_sL, jM.len_sR, jM.len_fI, jM.len_fL, jM.len_fR, *]; omega)) (by first | omega | (exact R.r _ _) | (simp only [jM.len_sI, jM.len_sL, jM.len_sR, jM.len_fI, jM.len_fL, jM.len_fR]; omega) | (simp [jM.len_nw, jM.len_sI, jM.len_sL, jM.len_sR, jM.len_fI, jM.len_fL, jM.len_fR, *]; omega)) ?_
                                          exact mQ.of (by unfold sp_layer layV; (repeat (first | rw [if_pos (by omega)] | rw [if_neg (by omega)]))))
                                     · first
                                       | (exfalso; omega)
                                       | (first | refine J.aload_n (pc' := 129) rfl rfl rfl ?_ | refine J.aload_nN (pc' := 129) rfl rfl rfl ?_
                                          refine J.mgR (pc' := 132) (t := 141) B rfl fl_X12_100 rfl rfl (by decide) rfl ?_
                                          refine J.iload (pc' := 134) rfl rfl rfl ?_
                                          refine J.mald (pc' := 135) B rfl rfl rfl (by omega) (by simp only [jLn]; omega) rfl ?_
                                          refine J.iret rfl rfl (by first | omega | (exact R.r _ _) | (simp only [jM.len_sI, jM.len_sL, jM.len_sR, jM.len_fI, jM.len_fL, jM.len_fR]; omega) | (simp [jM.len_nw, jM.len_sI, jM.len_sL, jM.len_sR, jM.len_fI, jM.len_fL, jM.len_fR, *]; omega)) (by first | omega | (exact R.r _ _) | (simp only [jM.len_sI, jM.len_sL, jM.len_sR, jM.len_fI, jM.len_fL, jM.len_fR]; omega) | (simp [jM.len_nw, jM.len_sI, jM.len_sL, jM.len_sR, jM.len_fI, jM.len_fL, jM.len_fR, *]; omega)) ?_
                                          exact mQ.of (by unfold sp_layer layV; (repeat (first | rw [if_pos (by omega)] | rw [if_neg (by omega)]))))
                                     · omega)
                                · first
                                  | (exfalso; omega)
                                  | (refine J.iconst (pc' := 66) rfl rfl ?_
                                     refine J.iret rfl rfl (by first | omega | (exact R.r _ _) | (simp only [jM.len_sI, jM.len_sL, jM.len_sR, jM.len_fI, jM.len_fL, jM.len_fR]; omega) | (simp [jM.len_nw, jM.len_sI, jM.len_sL, jM.len_sR, jM.len_fI, jM.len_fL, jM.len_fR, *]; omega)) (by first | omega | (exact R.r _ _) | (simp only [jM.len_sI, jM.len_sL, jM.len_sR, jM.len_fI, jM.len_fL, jM.len_fR]; omega) | (simp [jM.len_nw, jM.len_sI, jM.len_sL, jM.len_sR, jM.len_fI, jM.len_fL, jM.len_fR, *]; omega)) ?_
                                     exact mQ.of (by unfold sp_layer layV; (repeat (first | rw [if_pos (by omega)] | rw [if_neg (by omega)]))))))))
            · first
              | (exfalso; omega)
              | (refine J.iload_n (pc' := 21) rfl rfl rfl ?_
                 first | refine J.aload_n (pc' := 22) rfl rfl rfl ?_ | refine J.aload_nN (pc' := 22) rfl rfl rfl ?_
                 refine J.mgR (pc' := 25) (t := 138) B rfl fl_X12_91 rfl rfl (by decide) rfl ?_
                 refine J.iload_n (pc' := 26) rfl rfl rfl ?_
                 refine J.mald (pc' := 27) B rfl rfl rfl (by omega) (by simp only [jLn]; omega) rfl ?_
                 refine J.icmp_ge (tgt := 34) (pc' := 30) rfl rfl rfl (by first | omega | (exact R.r _ _) | (simp only [jM.len_sI, jM.len_sL, jM.len_sR, jM.len_fI, jM.len_fL, jM.len_fR]; omega) | (simp [jM.len_nw, jM.len_sI, jM.len_sL, jM.len_sR, jM.len_fI, jM.len_fL, jM.len_fR, *]; omega)) (by first | omega | (exact R.r _ _) | (simp only [jM.len_sI, jM.len_sL, jM.len_sR, jM.len_fI, jM.len_fL, jM.len_fR]; omega) | (simp [jM.len_nw, jM.len_sI, jM.len_sL, jM.len_sR, jM.len_fI, jM.len_fL, jM.len_fR, *]; omega)) (fun c27 => ?_) (fun c27 => ?_)
                 · first
                   | (exfalso; omega)
                   | (refine J.iconst (pc' := 35) rfl rfl ?_
                      refine J.iconst (pc' := 36) rfl rfl ?_
                      first | refine J.callV (pc' := 39) (t := 16) rfl MX12_may ml_X12_161 iv_X12_may (by decide) ⟨_, rfl, rfl⟩ B.1 (cm_may1 B h0) rfl rfl (Nat.le_of_ble_eq_true rfl) (by first | omega | (exact R.r _ _) | (simp only [jM.len_sI, jM.len_sL, jM.len_sR, jM.len_fI, jM.len_fL, jM.len_fR]; omega) | (simp [jM.len_nw, jM.len_sI, jM.len_sL, jM.len_sR, jM.len_fI, jM.len_fL, jM.len_fR, *]; omega)) (by first | omega | (exact R.r _ _) | (simp only [jM.len_sI, jM.len_sL, jM.len_sR, jM.len_fI, jM.len_fL, jM.len_fR]; omega) | (simp [jM.len_nw, jM.len_sI, jM.len_sL, jM.len_sR, jM.len_fI, jM.len_fL, jM.len_fR, *]; omega)) (by first | omega | (exact R.r _ _) | (simp only [jM.len_sI, jM.len_sL, jM.len_sR, jM.len_fI, jM.len_fL, jM.len_fR]; omega) | (simp [jM.len_nw, jM.len_sI, jM.len_sL, jM.len_sR, jM.len_fI, jM.len_fL, jM.len_fR, *]; omega)) rfl rfl ?_ ?_ | refine J.callV (pc' := 39) (t := 16) rfl MX12_may ml_X12_161 iv_X12_may (by decide) ⟨_, rfl, rfl⟩ B.1 (cm_may0 B h0 (by omega)) rfl rfl (Nat.le_of_ble_eq_true rfl) (by first | omega | (exact R.r _ _) | (simp only [jM.len_sI, jM.len_sL, jM.len_sR, jM.len_fI, jM.len_fL, jM.len_fR]; omega) | (simp [jM.len_nw, jM.len_sI, jM.len_sL, jM.len_sR, jM.len_fI, jM.len_fL, jM.len_fR, *]; omega)) (by first | omega | (exact R.r _ _) | (simp only [jM.len_sI, jM.len_sL, jM.len_sR, jM.len_fI, jM.len_fL, jM.len_fR]; omega) | (simp [jM.len_nw, jM.len_sI, jM.len_sL, jM.len_sR, jM.len_fI, jM.len_fL, jM.len_fR, *]; omega)) (by first | omega | (exact R.r _ _) | (simp only [jM.len_sI, jM.len_sL, jM.len_sR, jM.len_fI, jM.len_fL, jM.len_fR]; omega) | (simp [jM.len_nw, jM.len_sI, jM.len_sL, jM.len_sR, jM.len_fI, jM.len_fL, jM.len_fR, *]; omega)) rfl rfl ?_ ?_
                      · exact fun _ _ h => h
                      rintro _ _ ⟨rfl, rfl⟩
                      refine J.if_eq (tgt := 65) (pc' := 42) rfl rfl rfl (by first | omega | (exact R.r _ _) | (simp only [jM.len_sI, jM.len_sL, jM.len_sR, jM.len_fI, jM.len_fL, jM.len_fR]; omega) | (simp [jM.len_nw, jM.len_sI, jM.len_sL, jM.len_sR, jM.len_fI, jM.len_fL, jM.len_fR, *]; omega)) (fun c39 => ?_) (fun c39 => ?_)
                      · first
                        | (exfalso; omega)
                        | (refine J.iconst (pc' := 66) rfl rfl ?_
                           refine J.iret rfl rfl (by first | omega | (exact R.r _ _) | (simp only [jM.len_sI, jM.len_sL, jM.len_sR, jM.len_fI, jM.len_fL, jM.len_fR]; omega) | (simp [jM.len_nw, jM.len_sI, jM.len_sL, jM.len_sR, jM.len_fI, jM.len_fL, jM.len_fR, *]; omega)) (by first | omega | (exact R.r _ _) | (simp only [jM.len_sI, jM.len_sL, jM.len_sR, jM.len_fI, jM.len_fL, jM.len_fR]; omega) | (simp [jM.len_nw, jM.len_sI, jM.len_sL, jM.len_sR, jM.len_fI, jM.len_fL, jM.len_fR, *]; omega)) ?_
                           exact mQ.of (by unfold sp_layer layV; (repeat (first | rw [if_pos (by omega)] | rw [if_neg (by omega)]))))
                      · first
                        | (exfalso; omega)
                        | (first | refine J.aload_n (pc' := 43) rfl rfl rfl ?_ | refine J.aload_nN (pc' := 43) rfl rfl rfl ?_
                           refine J.iload_n (pc' := 44) rfl rfl rfl ?_
                           refine J.if_lt (tgt := 57) (pc' := 47) rfl rfl rfl (by first | omega | (exact R.r _ _) | (simp only [jM.len_sI, jM.len_sL, jM.len_sR, jM.len_fI, jM.len_fL, jM.len_fR]; omega) | (simp [jM.len_nw, jM.len_sI, jM.len_sL, jM.len_sR, jM.len_fI, jM.len_fL, jM.len_fR, *]; omega)) (fun c44 => ?_) (fun c44 => ?_)
                           · first
                             | (exfalso; omega)
                             | (refine J.iconst (pc' := 58) rfl rfl ?_
                                refine J.iconst (pc' := 59) rfl rfl ?_
                                first | refine J.callV (pc' := 62) (t := 16) rfl MX12_may ml_X12_161 iv_X12_may (by decide) ⟨_, rfl, rfl⟩ B.1 (cm_may1 B h0) rfl rfl (Nat.le_of_ble_eq_true rfl) (by first | omega | (exact R.r _ _) | (simp only [jM.len_sI, jM.len_sL, jM.len_sR, jM.len_fI, jM.len_fL, jM.len_fR]; omega) | (simp [jM.len_nw, jM.len_sI, jM.len_sL, jM.len_sR, jM.len_fI, jM.len_fL, jM.len_fR, *]; omega)) (by first | omega | (exact R.r _ _) | (simp only [jM.len_sI, jM.len_sL, jM.len_sR, jM.len_fI, jM.len_fL, jM.len_fR]; omega) | (simp [jM.len_nw, jM.len_sI, jM.len_sL, jM.len_sR, jM.len_fI, jM.len_fL, jM.len_fR, *]; omega)) (by first | omega | (exact R.r _ _) | (simp only [jM.len_sI, jM.len_sL, jM.len_sR, jM.len_fI, jM.len_fL, jM.len_fR]; omega) | (simp [jM.len_nw, jM.len_sI, jM.len_sL, jM.len_sR, jM.len_fI, jM.len_fL, jM.len_fR, *]; omega)) rfl rfl ?_ ?_ | refine J.callV (pc' := 62) (t := 16) rfl MX12_may ml_X12_161 iv_X12_may (by decide) ⟨_, rfl, rfl⟩ B.1 (cm_may0 B h0 (by omega)) rfl rfl (Nat.le_of_ble_eq_true rfl) (by first | omega | (exact R.r _ _) | (simp only [jM.len_sI, jM.len_sL, jM.len_sR, jM.len_fI, jM.len_fL, jM.len_fR]; omega) | (simp [jM.len_nw, jM.len_sI, jM.len_sL, jM.len_sR, jM.len_fI, jM.len_fL, jM.len_fR, *]; omega)) (by first | omega | (exact R.r _ _) | (simp only [jM.len_sI, jM.len_sL, jM.len_sR, jM.len_fI, jM.len_fL, jM.len_fR]; omega) | (simp [jM.len_nw, jM.len_sI, jM.len_sL, jM.len_sR, jM.len_fI, jM.len_fL, jM.len_fR, *]; omega)) (by first | omega | (exact R.r _ _) | (simp only [jM.len_sI, jM.len_sL, jM.len_sR, jM.len_fI, jM.len_fL, jM.len_fR]; omega) | (simp [jM.len_nw, jM.len_sI, jM.len_sL, jM.len_sR, jM.len_fI, jM.len_fL, jM.len_fR, *]; omega)) rfl rfl ?_ ?_
                                · exact fun _ _ h => h
                                rintro _ _ ⟨rfl, rfl⟩
                                refine J.if_ne (tgt := 67) (pc' := 65) rfl rfl rfl (by first | omega | (exact R.r _ _) | (simp only [jM.len_sI, jM.len_sL, jM.len_sR, jM.len_fI, jM.len_fL, jM.len_fR]; omega) | (simp [jM.len_nw, jM.len_sI, jM.len_sL, jM.len_sR, jM.len_fI, jM.len_fL, jM.len_fR, *]; omega)) (fun c62 => ?_) (fun c62 => ?_)
                                · first
                                  | (exfalso; omega)
                                  | (refine J.bipush (pc' := 69) rfl rfl (by decide) ?_
                                     refine J.iload_n (pc' := 70) rfl rfl rfl ?_
                                     refine J.imul (pc' := 71) rfl rfl ?_
                                     first | refine J.aload_n (pc' := 72) rfl rfl rfl ?_ | refine J.aload_nN (pc' := 72) rfl rfl rfl ?_
                                     refine J.mgR (pc' := 75) (t := 138) B rfl fl_X12_91 rfl rfl (by decide) rfl ?_
                                     refine J.iload_n (pc' := 76) rfl rfl rfl ?_
                                     refine J.mald (pc' := 77) B rfl rfl rfl (by omega) (by simp only [jLn]; omega) rfl ?_
                                     refine J.iadd (pc' := 78) rfl rfl ?_
                                     refine J.iconst (pc' := 79) rfl rfl ?_
                                     refine J.isub (pc' := 80) rfl rfl ?_
                                     refine J.iload_n (pc' := 81) rfl rfl rfl ?_
                                     refine J.isub (pc' := 82) rfl rfl ?_
                                     refine J.istore (pc' := 84) rfl rfl (by decide) ?_
                                     refine J.iload_n (pc' := 85) rfl rfl rfl ?_
                                     refine J.tsw (tgt := 136) (n := 3) (T := jNth [112, 120, 128]) rfl (by first | omega | (exact R.r _ _) | (simp only [jM.len_sI, jM.len_sL, jM.len_sR, jM.len_fI, jM.len_fL, jM.len_fR]; omega) | (simp [jM.len_nw, jM.len_sI, jM.len_sL, jM.len_sR, jM.len_fI, jM.len_fL, jM.len_fR, *]; omega)) rfl rfl (fun k hk => by rcases k with _ | _ | _ | k <;> first | exact ⟨_, rfl, rfl⟩ | omega) (fun c85 => ?_) (fun k85 hk85 c85 => ?_)
                                     · first
                                       | (exfalso; omega)
                                       | (refine J.iload_n (pc' := 137) rfl rfl rfl ?_
                                          refine J.iconst (pc' := 138) rfl rfl ?_
                                          refine J.irem (pc' := 139) rfl rfl (by first | omega | (exact R.r _ _) | (simp only [jM.len_sI, jM.len_sL, jM.len_sR, jM.len_fI, jM.len_fL, jM.len_fR]; omega) | (simp [jM.len_nw, jM.len_sI, jM.len_sL, jM.len_sR, jM.len_fI, jM.len_fL, jM.len_fR, *]; omega)) (by first | omega | (exact R.r _ _) | (simp only [jM.len_sI, jM.len_sL, jM.len_sR, jM.len_fI, jM.len_fL, jM.len_fR]; omega) | (simp [jM.len_nw, jM.len_sI, jM.len_sL, jM.len_sR, jM.len_fI, jM.len_fL, jM.len_fR, *]; omega)) (by first | omega | (exact R.r _ _) | (simp only [jM.len_sI, jM.len_sL, jM.len_sR, jM.len_fI, jM.len_fL, jM.len_fR]; omega) | (simp [jM.len_nw, jM.len_sI, jM.len_sL, jM.len_sR, jM.len_fI, jM.len_fL, jM.len_fR, *]; omega)) ?_
                                          rw [Int.tmod_eq_emod_of_nonneg (by omega)]
                                          refine J.iconst (pc' := 140) rfl rfl ?_
                                          refine J.icmp_ne (tgt := 157) (pc' := 143) rfl rfl rfl (by first | omega | (exact R.r _ _) | (simp only [jM.len_sI, jM.len_sL, jM.len_sR, jM.len_fI, jM.len_fL, jM.len_fR]; omega) | (simp [jM.len_nw, jM.len_sI, jM.len_sL, jM.len_sR, jM.len_fI, jM.len_fL, jM.len_fR, *]; omega)) (by first | omega | (exact R.r _ _) | (simp only [jM.len_sI, jM.len_sL, jM.len_sR, jM.len_fI, jM.len_fL, jM.len_fR]; omega) | (simp [jM.len_nw, jM.len_sI, jM.len_sL, jM.len_sR, jM.len_fI, jM.len_fL, jM.len_fR, *]; omega)) (fun c140 => ?_) (fun c140 => ?_)
                                          · first
                                            | (exfalso; omega)
                                            | (first | refine J.aload_n (pc' := 158) rfl rfl rfl ?_ | refine J.aload_nN (pc' := 158) rfl rfl rfl ?_
                                               refine J.iload (pc' := 160) rfl rfl rfl ?_
                                               refine J.iload_n (pc' := 161) rfl rfl rfl ?_
                                               refine J.iconst (pc' := 162) rfl rfl ?_
                                               refine J.isub (pc' := 163) rfl rfl ?_
                                               refine J.iconst (pc' := 164) rfl rfl ?_
                                               refine J.idiv (pc' := 165) rfl rfl (by first | omega | (exact R.r _ _) | (simp only [jM.len_sI, jM.len_sL, jM.len_sR, jM.len_fI, jM.len_fL, jM.len_fR]; omega) | (simp [jM.len_nw, jM.len_sI, jM.len_sL, jM.len_sR, jM.len_fI, jM.len_fL, jM.len_fR, *]; omega)) (by first | omega | (exact R.r _ _) | (simp only [jM.len_sI, jM.len_sL, jM.len_sR, jM.len_fI, jM.len_fL, jM.len_fR]; omega) | (simp [jM.len_nw, jM.len_sI, jM.len_sL, jM.len_sR, jM.len_fI, jM.len_fL, jM.len_fR, *]; omega)) (by first | omega | (exact R.r _ _) | (simp only [jM.len_sI, jM.len_sL, jM.len_sR, jM.len_fI, jM.len_fL, jM.len_fR]; omega) | (simp [jM.len_nw, jM.len_sI, jM.len_sL, jM.len_sR, jM.len_fI, jM.len_fL, jM.len_fR, *]; omega)) ?_
                                               rw [Int.tdiv_eq_ediv_of_nonneg (by omega)]
                                               refine J.callV (pc' := 168) (t := 16) rfl MX12_highOfLayer ml_X12_307 iv_X12_highOfLayer (by decide) ⟨_, rfl, rfl⟩ B.1 (cm_highL B R (by omega) (by omega)) rfl rfl (Nat.le_of_ble_eq_true rfl) (by first | omega | (exact R.r _ _) | (simp only [jM.len_sI, jM.len_sL, jM.len_sR, jM.len_fI, jM.len_fL, jM.len_fR]; omega) | (simp [jM.len_nw, jM.len_sI, jM.len_sL, jM.len_sR, jM.len_fI, jM.len_fL, jM.len_fR, *]; omega)) (by first | omega | (exact R.r _ _) | (simp only [jM.len_sI, jM.len_sL, jM.len_sR, jM.len_fI, jM.len_fL, jM.len_fR]; omega) | (simp [jM.len_nw, jM.len_sI, jM.len_sL, jM.len_sR, jM.len_fI, jM.len_fL, jM.len_fR, *]; omega)) (by first | omega | (exact R.r _ _) | (simp only [jM.len_sI, jM.len_sL, jM.len_sR, jM.len_fI, jM.len_fL, jM.len_fR]; omega) | (simp [jM.len_nw, jM.len_sI, jM.len_sL, jM.len_sR, jM.len_fI, jM.len_fL, jM.len_fR, *]; omega)) rfl rfl ?_ ?_
                                               · exact fun _ _ h => h
                                               rintro _ _ ⟨rfl, rfl⟩
                                               refine J.iret rfl rfl (by first | omega | (exact R.r _ _) | (simp only [jM.len_sI, jM.len_sL, jM.len_sR, jM.len_fI, jM.len_fL, jM.len_fR]; omega) | (simp [jM.len_nw, jM.len_sI, jM.len_sL, jM.len_sR, jM.len_fI, jM.len_fL, jM.len_fR, *]; omega)) (by first | omega | (exact R.r _ _) | (simp only [jM.len_sI, jM.len_sL, jM.len_sR, jM.len_fI, jM.len_fL, jM.len_fR]; omega) | (simp [jM.len_nw, jM.len_sI, jM.len_sL, jM.len_sR, jM.len_fI, jM.len_fL, jM.len_fR, *]; omega)) ?_
                                               exact mQ.of (by unfold sp_layer layV; (repeat (first | rw [if_pos (by omega)] | rw [if_neg (by omega)]))))
                                          · first
                                            | (exfalso; omega)
                                            | (first | refine J.aload_n (pc' := 144) rfl rfl rfl ?_ | refine J.aload_nN (pc' := 144) rfl rfl rfl ?_
                                               refine J.iload (pc' := 146) rfl rfl rfl ?_
                                               refine J.iload_n (pc' := 147) rfl rfl rfl ?_
                                               refine J.iconst (pc' := 148) rfl rfl ?_
                                               refine J.isub (pc' := 149) rfl rfl ?_
                                               refine J.iconst (pc' := 150) rfl rfl ?_
                                               refine J.idiv (pc' := 151) rfl rfl (by first | omega | (exact R.r _ _) | (simp only [jM.len_sI, jM.len_sL, jM.len_sR, jM.len_fI, jM.len_fL, jM.len_fR]; omega) | (simp [jM.len_nw, jM.len_sI, jM.len_sL, jM.len_sR, jM.len_fI, jM.len_fL, jM.len_fR, *]; omega)) (by first | omega | (exact R.r _ _) | (simp only [jM.len_sI, jM.len_sL, jM.len_sR, jM.len_fI, jM.len_fL, jM.len_fR]; omega) | (simp [jM.len_nw, jM.len_sI, jM.len_sL, jM.len_sR, jM.len_fI, jM.len_fL, jM.len_fR, *]; omega)) (by first | omega | (exact R.r _ _) | (simp only [jM.len_sI, jM.len_sL, jM.len_sR, jM.len_fI, jM.len_fL, jM.len_fR]; omega) | (simp [jM.len_nw, jM.len_sI, jM.len_sL, jM.len_sR, jM.len_fI, jM.len_fL, jM.len_fR, *]; omega)) ?_
                                               rw [Int.tdiv_eq_ediv_of_nonneg (by omega)]
                                               refine J.callV (pc' := 154) (t := 16) rfl MX12_lowOfLayer ml_X12_304 iv_X12_lowOfLayer (by decide) ⟨_, rfl, rfl⟩ B.1 (cm_lowL B R (by omega) (by omega)) rfl rfl (Nat.le_of_ble_eq_true rfl) (by first | omega | (exact R.r _ _) | (simp only [jM.len_sI, jM.len_sL, jM.len_sR, jM.len_fI, jM.len_fL, jM.len_fR]; omega) | (simp [jM.len_nw, jM.len_sI, jM.len_sL, jM.len_sR, jM.len_fI, jM.len_fL, jM.len_fR, *]; omega)) (by first | omega | (exact R.r _ _) | (simp only [jM.len_sI, jM.len_sL, jM.len_sR, jM.len_fI, jM.len_fL, jM.len_fR]; omega) | (simp [jM.len_nw, jM.len_sI, jM.len_sL, jM.len_sR, jM.len_fI, jM.len_fL, jM.len_fR, *]; omega)) (by first | omega | (exact R.r _ _) | (simp only [jM.len_sI, jM.len_sL, jM.len_sR, jM.len_fI, jM.len_fL, jM.len_fR]; omega) | (simp [jM.len_nw, jM.len_sI, jM.len_sL, jM.len_sR, jM.len_fI, jM.len_fL, jM.len_fR, *]; omega)) rfl rfl ?_ ?_
                                               · exact fun _ _ h => h
                                               rintro _ _ ⟨rfl, rfl⟩
                                               refine J.goto (tgt := 168) rfl rfl ?_
                                               refine J.iret rfl rfl (by first | omega | (exact R.r _ _) | (simp only [jM.len_sI, jM.len_sL, jM.len_sR, jM.len_fI, jM.len_fL, jM.len_fR]; omega) | (simp [jM.len_nw, jM.len_sI, jM.len_sL, jM.len_sR, jM.len_fI, jM.len_fL, jM.len_fR, *]; omega)) (by first | omega | (exact R.r _ _) | (simp only [jM.len_sI, jM.len_sL, jM.len_sR, jM.len_fI, jM.len_fL, jM.len_fR]; omega) | (simp [jM.len_nw, jM.len_sI, jM.len_sL, jM.len_sR, jM.len_fI, jM.len_fL, jM.len_fR, *]; omega)) ?_
                                               exact mQ.of (by unfold sp_layer layV; (repeat (first | rw [if_pos (by omega)] | rw [if_neg (by omega)])))))
                                     rcases k85 with _ | _ | _ | k85
                                     · first
                                       | (exfalso; omega)
                                       | (first | refine J.aload_n (pc' := 113) rfl rfl rfl ?_ | refine J.aload_nN (pc' := 113) rfl rfl rfl ?_
                                          refine J.mgR (pc' := 116) (t := 139) B rfl fl_X12_94 rfl rfl (by decide) rfl ?_
                                          refine J.iload (pc' := 118) rfl rfl rfl ?_
                                          refine J.mald (pc' := 119) B rfl rfl rfl (by omega) (by simp only [jLn]; omega) rfl ?_
                                          refine J.iret rfl rfl (by first | omega | (exact R.r _ _) | (simp only [jM.len_sI, jM.len_sL, jM.len_sR, jM.len_fI, jM.len_fL, jM.len_fR]; omega) | (simp [jM.len_nw, jM.len_sI, jM.len_sL, jM.len_sR, jM.len_fI, jM.len_fL, jM.len_fR, *]; omega)) (by first | omega | (exact R.r _ _) | (simp only [jM.len_sI, jM.len_sL, jM.len_sR, jM.len_fI, jM.len_fL, jM.len_fR]; omega) | (simp [jM.len_nw, jM.len_sI, jM.len_sL, jM.len_sR, jM.len_fI, jM.len_fL, jM.len_fR, *]; omega)) ?_
                                          exact mQ.of (by unfold sp_layer layV; (repeat (first | rw [if_pos (by omega)] | rw [if_neg (by omega)]))))
                                     · first
                                       | (exfalso; omega)
                                       | (first | refine J.aload_n (pc' := 121) rfl rfl rfl ?_ | refine J.aload_nN (pc' := 121) rfl rfl rfl ?_
                                          refine J.mgR (pc' := 124) (t := 140) B rfl fl_X12_97 rfl rfl (by decide) rfl ?_
                                          refine J.iload (pc' := 126) rfl rfl rfl ?_
                                          refine J.mald (pc' := 127) B rfl rfl rfl (by omega) (by simp only [jLn]; omega) rfl ?_
                                          refine J.iret rfl rfl (by first | omega | (exact R.r _ _) | (simp only [jM.len_sI, jM.len_sL, jM.len_sR, jM.len_fI, jM.len_fL, jM.len_fR]; omega) | (simp [jM.len_nw, jM.len_sI, jM.len_sL, jM.len_sR, jM.len_fI, jM.len_fL, jM.len_fR, *]; omega)) (by first | omega | (exact R.r _ _) | (simp only [jM.len_sI, jM.len_sL, jM.len_sR, jM.len_fI, jM.len_fL, jM.len_fR]; omega) | (simp [jM.len_nw, jM.len_sI, jM.len_sL, jM.len_sR, jM.len_fI, jM.len_fL, jM.len_fR, *]; omega)) ?_
                                          exact mQ.of (by unfold sp_layer layV; (repeat (first | rw [if_pos (by omega)] | rw [if_neg (by omega)]))))
                                     · first
                                       | (exfalso; omega)
                                       | (first | refine J.aload_n (pc' := 129) rfl rfl rfl ?_ | refine J.aload_nN (pc' := 129) rfl rfl rfl ?_
                                          refine J.mgR (pc' := 132) (t := 141) B rfl fl_X12_100 rfl rfl (by decide) rfl ?_
                                          refine J.iload (pc' := 134) rfl rfl rfl ?_
                                          refine J.mald (pc' := 135) B rfl rfl rfl (by omega) (by simp only [jLn]; omega) rfl ?_
                                          refine J.iret rfl rfl (by first | omega | (exact R.r _ _) | (simp only [jM.len_sI, jM.len_sL, jM.len_sR, jM.len_fI, jM.len_fL, jM.len_fR]; omega) | (simp [jM.len_nw, jM.len_sI, jM.len_sL, jM.len_sR, jM.len_fI, jM.len_fL, jM.len_fR, *]; omega)) (by first | omega | (exact R.r _ _) | (simp only [jM.len_sI, jM.len_sL, jM.len_sR, jM.len_fI, jM.len_fL, jM.len_fR]; omega) | (simp [jM.len_nw, jM.len_sI, jM.len_sL, jM.len_sR, jM.len_fI, jM.len_fL, jM.len_fR, *]; omega)) ?_
                                          exact mQ.of (by unfold sp_layer layV; (repeat (first | rw [if_pos (by omega)] | rw [if_neg (by omega)]))))
                                     · omega)
                                · first
                                  | (exfalso; omega)
                                  | (refine J.iconst (pc' := 66) rfl rfl ?_
                                     refine J.iret rfl rfl (by first | omega | (exact R.r _ _) | (simp only [jM.len_sI, jM.len_sL, jM.len_sR, jM.len_fI, jM.len_fL, jM.len_fR]; omega) | (simp [jM.len_nw, jM.len_sI, jM.len_sL, jM.len_sR, jM.len_fI, jM.len_fL, jM.len_fR, *]; omega)) (by first | omega | (exact R.r _ _) | (simp only [jM.len_sI, jM.len_sL, jM.len_sR, jM.len_fI, jM.len_fL, jM.len_fR]; omega) | (simp [jM.len_nw, jM.len_sI, jM.len_sL, jM.len_sR, jM.len_fI, jM.len_fL, jM.len_fR, *]; omega)) ?_
                                     exact mQ.of (by unfold sp_layer layV; (repeat (first | rw [if_pos (by omega)] | rw [if_neg (by omega)])))))
                           · first
                             | (exfalso; omega)
                             | (refine J.iload_n (pc' := 48) rfl rfl rfl ?_
                                refine J.bipush (pc' := 50) rfl rfl (by decide) ?_
                                refine J.icmp_ge (tgt := 57) (pc' := 53) rfl rfl rfl (by first | omega | (exact R.r _ _) | (simp only [jM.len_sI, jM.len_sL, jM.len_sR, jM.len_fI, jM.len_fL, jM.len_fR]; omega) | (simp [jM.len_nw, jM.len_sI, jM.len_sL, jM.len_sR, jM.len_fI, jM.len_fL, jM.len_fR, *]; omega)) (by first | omega | (exact R.r _ _) | (simp only [jM.len_sI, jM.len_sL, jM.len_sR, jM.len_fI, jM.len_fL, jM.len_fR]; omega) | (simp [jM.len_nw, jM.len_sI, jM.len_sL, jM.len_sR, jM.len_fI, jM.len_fL, jM.len_fR, *]; omega)) (fun c50 => ?_) (fun c50 => ?_)
                                · first
                                  | (exfalso; omega)
                                  | (refine J.iconst (pc' := 58) rfl rfl ?_
                                     refine J.iconst (pc' := 59) rfl rfl ?_
                                     first | refine J.callV (pc' := 62) (t := 16) rfl MX12_may ml_X12_161 iv_X12_may (by decide) ⟨_, rfl, rfl⟩ B.1 (cm_may1 B h0) rfl rfl (Nat.le_of_ble_eq_true rfl) (by first | omega | (exact R.r _ _) | (simp only [jM.len_sI, jM.len_sL, jM.len_sR, jM.len_fI, jM.len_fL, jM.len_fR]; omega) | (simp [jM.len_nw, jM.len_sI, jM.len_sL, jM.len_sR, jM.len_fI, jM.len_fL, jM.len_fR, *]; omega)) (by first | omega | (exact R.r _ _) | (simp only [jM.len_sI, jM.len_sL, jM.len_sR, jM.len_fI, jM.len_fL, jM.len_fR]; omega) | (simp [jM.len_nw, jM.len_sI, jM.len_sL, jM.len_sR, jM.len_fI, jM.len_fL, jM.len_fR, *]; omega)) (by first | omega | (exact R.r _ _) | (simp only [jM.len_sI, jM.len_sL, jM.len_sR, jM.len_fI, jM.len_fL, jM.len_fR]; omega) | (simp [jM.len_nw, jM.len_sI, jM.len_sL, jM.len_sR, jM.len_fI, jM.len_fL, jM.len_fR, *]; omega)) rfl rfl ?_ ?_ | refine J.callV (pc' := 62) (t := 16) rfl MX12_may ml_X12_161 iv_X12_may (by decide) ⟨_, rfl, rfl⟩ B.1 (cm_may0 B h0 (by omega)) rfl rfl (Nat.le_of_ble_eq_true rfl) (by first | omega | (exact R.r _ _) | (simp only [jM.len_sI, jM.len_sL, jM.len_sR, jM.len_fI, jM.len_fL, jM.len_fR]; omega) | (simp [jM.len_nw, jM.len_sI, jM.len_sL, jM.len_sR, jM.len_fI, jM.len_fL, jM.len_fR, *]; omega)) (by first | omega | (exact R.r _ _) | (simp only [jM.len_sI, jM.len_sL, jM.len_sR, jM.len_fI, jM.len_fL, jM.len_fR]; omega) | (simp [jM.len_nw, jM.len_sI, jM.len_sL, jM.len_sR, jM.len_fI, jM.len_fL, jM.len_fR, *]; omega)) (by first | omega | (exact R.r _ _) | (simp only [jM.len_sI, jM.len_sL, jM.len_sR, jM.len_fI, jM.len_fL, jM.len_fR]; omega) | (simp [jM.len_nw, jM.len_sI, jM.len_sL, jM.len_sR, jM.len_fI, jM.len_fL, jM.len_fR, *]; omega)) rfl rfl ?_ ?_
                                     · exact fun _ _ h => h
                                     rintro _ _ ⟨rfl, rfl⟩
                                     refine J.if_ne (tgt := 67) (pc' := 65) rfl rfl rfl (by first | omega | (exact R.r _ _) | (simp only [jM.len_sI, jM.len_sL, jM.len_sR, jM.len_fI, jM.len_fL, jM.len_fR]; omega) | (simp [jM.len_nw, jM.len_sI, jM.len_sL, jM.len_sR, jM.len_fI, jM.len_fL, jM.len_fR, *]; omega)) (fun c62 => ?_) (fun c62 => ?_)
                                     · first
                                       | (exfalso; omega)
                                       | (refine J.bipush (pc' := 69) rfl rfl (by decide) ?_
                                          refine J.iload_n (pc' := 70) rfl rfl rfl ?_
                                          refine J.imul (pc' := 71) rfl rfl ?_
                                          first | refine J.aload_n (pc' := 72) rfl rfl rfl ?_ | refine J.aload_nN (pc' := 72) rfl rfl rfl ?_
                                          refine J.mgR (pc' := 75) (t := 138) B rfl fl_X12_91 rfl rfl (by decide) rfl ?_
                                          refine J.iload_n (pc' := 76) rfl rfl rfl ?_
                                          refine J.mald (pc' := 77) B rfl rfl rfl (by omega) (by simp only [jLn]; omega) rfl ?_
                                          refine J.iadd (pc' := 78) rfl rfl ?_
                                          refine J.iconst (pc' := 79) rfl rfl ?_
                                          refine J.isub (pc' := 80) rfl rfl ?_
                                          refine J.iload_n (pc' := 81) rfl rfl rfl ?_
                                          refine J.isub (pc' := 82) rfl rfl ?_
                                          refine J.istore (pc' := 84) rfl rfl (by decide) ?_
                                          refine J.iload_n (pc' := 85) rfl rfl rfl ?_
                                          refine J.tsw (tgt := 136) (n := 3) (T := jNth [112, 120, 128]) rfl (by first | omega | (exact R.r _ _) | (simp only [jM.len_sI, jM.len_sL, jM.len_sR, jM.len_fI, jM.len_fL, jM.len_fR]; omega) | (simp [jM.len_nw, jM.len_sI, jM.len_sL, jM.len_sR, jM.len_fI, jM.len_fL, jM.len_fR, *]; omega)) rfl rfl (fun k hk => by rcases k with _ | _ | _ | k <;> first | exact ⟨_, rfl, rfl⟩ | omega) (fun c85 => ?_) (fun k85 hk85 c85 => ?_)
                                          · first
                                            | (exfalso; omega)
                                            | (refine J.iload_n (pc' := 137) rfl rfl rfl ?_
                                               refine J.iconst (pc' := 138) rfl rfl ?_
                                               refine J.irem (pc' := 139) rfl rfl (by first | omega | (exact R.r _ _) | (simp only [jM.len_sI, jM.len_sL, jM.len_sR, jM.len_fI, jM.len_fL, jM.len_fR]; omega) | (simp [jM.len_nw, jM.len_sI, jM.len_sL, jM.len_sR, jM.len_fI, jM.len_fL, jM.len_fR, *]; omega)) (by first | omega | (exact R.r _ _) | (simp only [jM.len_sI, jM.len_sL, jM.len_sR, jM.len_fI, jM.len_fL, jM.len_fR]; omega) | (simp [jM.len_nw, jM.len_sI, jM.len_sL, jM.len_sR, jM.len_fI, jM.len_fL, jM.len_fR, *]; omega)) (by first | omega | (exact R.r _ _) | (simp only [jM.len_sI, jM.len_sL, jM.len_sR, jM.len_fI, jM.len_fL, jM.len_fR]; omega) | (simp [jM.len_nw, jM.len_sI, jM.len_sL, jM.len_sR, jM.len_fI, jM.len_fL, jM.len_fR, *]; omega)) ?_
                                               rw [Int.tmod_eq_emod_of_nonneg (by omega)]
                                               refine J.iconst (pc' := 140) rfl rfl ?_
                                               refine J.icmp_ne (tgt := 157) (pc' := 143) rfl rfl rfl (by first | omega | (exact R.r _ _) | (simp only [jM.len_sI, jM.len_sL, jM.len_sR, jM.len_fI, jM.len_fL, jM.len_fR]; omega) | (simp [jM.len_nw, jM.len_sI, jM.len_sL, jM.len_sR, jM.len_fI, jM.len_fL, jM.len_fR, *]; omega)) (by first | omega | (exact R.r _ _) | (simp only [jM.len_sI, jM.len_sL, jM.len_sR, jM.len_fI, jM.len_fL, jM.len_fR]; omega) | (simp [jM.len_nw, jM.len_sI, jM.len_sL, jM.len_sR, jM.len_fI, jM.len_fL, jM.len_fR, *]; omega)) (fun c140 => ?_) (fun c140 => ?_)
                                               · first
                                                 | (exfalso; omega)
                                                 | (first | refine J.aload_n (pc' := 158) rfl rfl rfl ?_ | refine J.aload_nN (pc' := 158) rfl rfl rfl ?_
                                                    refine J.iload (pc' := 160) rfl rfl rfl ?_
                                                    refine J.iload_n (pc' := 161) rfl rfl rfl ?_
                                                    refine J.iconst (pc' := 162) rfl rfl ?_
                                                    refine J.isub (pc' := 163) rfl rfl ?_
                                                    refine J.iconst (pc' := 164) rfl rfl ?_
                                                    refine J.idiv (pc' := 165) rfl rfl (by first | omega | (exact R.r _ _) | (simp only [jM.len_sI, jM.len_sL, jM.len_sR, jM.len_fI, jM.len_fL, jM.len_fR]; omega) | (simp [jM.len_nw, jM.len_sI, jM.len_sL, jM.len_sR, jM.len_fI, jM.len_fL, jM.len_fR, *]; omega)) (by first | omega | (exact R.r _ _) | (simp only [jM.len_sI, jM.len_sL, jM.len_sR, jM.len_fI, jM.len_fL, jM.len_fR]; omega) | (simp [jM.len_nw, jM.len_sI, jM.len_sL, jM.len_sR, jM.len_fI, jM.len_fL, jM.len_fR, *]; omega)) (by first | omega | (exact R.r _ _) | (simp only [jM.len_sI, jM.len_sL, jM.len_sR, jM.len_fI, jM.len_fL, jM.len_fR]; omega) | (simp [jM.len_nw, jM.len_sI, jM.len_sL, jM.len_sR, jM.len_fI, jM.len_fL, jM.len_fR, *]; omega)) ?_
                                                    rw [Int.tdiv_eq_ediv_of_nonneg (by omega)]
                                                    refine J.callV (pc' := 168) (t := 16) rfl MX12_highOfLayer ml_X12_307 iv_X12_highOfLayer (by decide) ⟨_, rfl, rfl⟩ B.1 (cm_highL B R (by omega) (by omega)) rfl rfl (Nat.le_of_ble_eq_true rfl) (by first | omega | (exact R.r _ _) | (simp only [jM.len_sI, jM.len_sL, jM.len_sR, jM.len_fI, jM.len_fL, jM.len_fR]; omega) | (simp [jM.len_nw, jM.len_sI, jM.len_sL, jM.len_sR, jM.len_fI, jM.len_fL, jM.len_fR, *]; omega)) (by first | omega | (exact R.r _ _) | (simp only [jM.len_sI, jM.len_sL, jM.len_sR, jM.len_fI, jM.len_fL, jM.len_fR]; omega) | (simp [jM.len_nw, jM.len_sI, jM.len_sL, jM.len_sR, jM.len_fI, jM.len_fL, jM.len_fR, *]; omega)) (by first | omega | (exact R.r _ _) | (simp only [jM.len_sI, jM.len_sL, jM.len_sR, jM.len_fI, jM.len_fL, jM.len_fR]; omega) | (simp [jM.len_nw, jM.len_sI, jM.len_sL, jM.len_sR, jM.len_fI, jM.len_fL, jM.len_fR, *]; omega)) rfl rfl ?_ ?_
                                                    · exact fun _ _ h => h
                                                    rintro _ _ ⟨rfl, rfl⟩
                                                    refine J.iret rfl rfl (by first | omega | (exact R.r _ _) | (simp only [jM.len_sI, jM.len_sL, jM.len_sR, jM.len_fI, jM.len_fL, jM.len_fR]; omega) | (simp [jM.len_nw, jM.len_sI, jM.len_sL, jM.len_sR, jM.len_fI, jM.len_fL, jM.len_fR, *]; omega)) (by first | omega | (exact R.r _ _) | (simp only [jM.len_sI, jM.len_sL, jM.len_sR, jM.len_fI, jM.len_fL, jM.len_fR]; omega) | (simp [jM.len_nw, jM.len_sI, jM.len_sL, jM.len_sR, jM.len_fI, jM.len_fL, jM.len_fR, *]; omega)) ?_
                                                    exact mQ.of (by unfold sp_layer layV; (repeat (first | rw [if_pos (by omega)] | rw [if_neg (by omega)]))))
                                               · first
                                                 | (exfalso; omega)
                                                 | (first | refine J.aload_n (pc' := 144) rfl rfl rfl ?_ | refine J.aload_nN (pc' := 144) rfl rfl rfl ?_
                                                    refine J.iload (pc' := 146) rfl rfl rfl ?_
                                                    refine J.iload_n (pc' := 147) rfl rfl rfl ?_
                                                    refine J.iconst (pc' := 148) rfl rfl ?_
                                                    refine J.isub (pc' := 149) rfl rfl ?_
                                                    refine J.iconst (pc' := 150) rfl rfl ?_
                                                    refine J.idiv (pc' := 151) rfl rfl (by first | omega | (exact R.r _ _) | (simp only [jM.len_sI, jM.len_sL, jM.len_sR, jM.len_fI, jM.len_fL, jM.len_fR]; omega) | (simp [jM.len_nw, jM.len_sI, jM.len_sL, jM.len_sR, jM.len_fI, jM.len_fL, jM.len_fR, *]; omega)) (by first | omega | (exact R.r _ _) | (simp only [jM.len_sI, jM.len_sL, jM.len_sR, jM.len_fI, jM.len_fL, jM.len_fR]; omega) | (simp [jM.len_nw, jM.len_sI, jM.len_sL, jM.len_sR, jM.len_fI, jM.len_fL, jM.len_fR, *]; omega)) (by first | omega | (exact R.r _ _) | (simp only [jM.len_sI, jM.len_sL, jM.len_sR, jM.len_fI, jM.len_fL, jM.len_fR]; omega) | (simp [jM.len_nw, jM.len_sI, jM.len_sL, jM.len_sR, jM.len_fI, jM.len_fL, jM.len_fR, *]; omega)) ?_
                                                    rw [Int.tdiv_eq_ediv_of_nonneg (by omega)]
                                                    refine J.callV (pc' := 154) (t := 16) rfl MX12_lowOfLayer ml_X12_304 iv_X12_lowOfLayer (by decide) ⟨_, rfl, rfl⟩ B.1 (cm_lowL B R (by omega) (by omega)) rfl rfl (Nat.le_of_ble_eq_true rfl) (by first | omega | (exact R.r _ _) | (simp only [jM.len_sI, jM.len_sL, jM.len_sR, jM.len_fI, jM.len_fL, jM.len_fR]; omega) | (simp [jM.len_nw, jM.len_sI, jM.len_sL, jM.len_sR, jM.len_fI, jM.len_fL, jM.len_fR, *]; omega)) (by first | omega | (exact R.r _ _) | (simp only [jM.len_sI, jM.len_sL, jM.len_sR, jM.len_fI, jM.len_fL, jM.len_fR]; omega) | (simp [jM.len_nw, jM.len_sI, jM.len_sL, jM.len_sR, jM.len_fI, jM.len_fL, jM.len_fR, *]; omega)) (by first | omega | (exact R.r _ _) | (simp only [jM.len_sI, jM.len_sL, jM.len_sR, jM.len_fI, jM.len_fL, jM.len_fR]; omega) | (simp [jM.len_nw, jM.len_sI, jM.len_sL, jM.len_sR, jM.len_fI, jM.len_fL, jM.len_fR, *]; omega)) rfl rfl ?_ ?_
                                                    · exact fun _ _ h => h
                                                    rintro _ _ ⟨rfl, rfl⟩
                                                    refine J.goto (tgt := 168) rfl rfl ?_
                                                    refine J.iret rfl rfl (by first | omega | (exact R.r _ _) | (simp only [jM.len_sI, jM.len_sL, jM.len_sR, jM.len_fI, jM.len_fL, jM.len_fR]; omega) | (simp [jM.len_nw, jM.len_sI, jM.len_sL, jM.len_sR, jM.len_fI, jM.len_fL, jM.len_fR, *]; omega)) (by first | omega | (exact R.r _ _) | (simp only [jM.len_sI, jM.len_sL, jM.len_sR, jM.len_fI, jM.len_fL, jM.len_fR]; omega) | (simp [jM.len_nw, jM.len_sI, jM.len_sL, jM.len_sR, jM.len_fI, jM.len_fL, jM.len_fR, *]; omega)) ?_
                                                    exact mQ.of (by unfold sp_layer layV; (repeat (first | rw [if_pos (by omega)] | rw [if_neg (by omega)])))))
                                          rcases k85 with _ | _ | _ | k85
                                          · first
                                            | (exfalso; omega)
                                            | (first | refine J.aload_n (pc' := 113) rfl rfl rfl ?_ | refine J.aload_nN (pc' := 113) rfl rfl rfl ?_
                                               refine J.mgR (pc' := 116) (t := 139) B rfl fl_X12_94 rfl rfl (by decide) rfl ?_
                                               refine J.iload (pc' := 118) rfl rfl rfl ?_
                                               refine J.mald (pc' := 119) B rfl rfl rfl (by omega) (by simp only [jLn]; omega) rfl ?_
                                               refine J.iret rfl rfl (by first | omega | (exact R.r _ _) | (simp only [jM.len_sI, jM.len_sL, jM.len_sR, jM.len_fI, jM.len_fL, jM.len_fR]; omega) | (simp [jM.len_nw, jM.len_sI, jM.len_sL, jM.len_sR, jM.len_fI, jM.len_fL, jM.len_fR, *]; omega)) (by first | omega | (exact R.r _ _) | (simp only [jM.len_sI, jM.len_sL, jM.len_sR, jM.len_fI, jM.len_fL, jM.len_fR]; omega) | (simp [jM.len_nw, jM.len_sI, jM.len_sL, jM.len_sR, jM.len_fI, jM.len_fL, jM.len_fR, *]; omega)) ?_
                                               exact mQ.of (by unfold sp_layer layV; (repeat (first | rw [if_pos (by omega)] | rw [if_neg (by omega)]))))
                                          · first
                                            | (exfalso; omega)
                                            | (first | refine J.aload_n (pc' := 121) rfl rfl rfl ?_ | refine J.aload_nN (pc' := 121) rfl rfl rfl ?_
                                               refine J.mgR (pc' := 124) (t := 140) B rfl fl_X12_97 rfl rfl (by decide) rfl ?_
                                               refine J.iload (pc' := 126) rfl rfl rfl ?_
                                               refine J.mald (pc' := 127) B rfl rfl rfl (by omega) (by simp only [jLn]; omega) rfl ?_
                                               refine J.iret rfl rfl (by first | omega | (exact R.r _ _) | (simp only [jM.len_sI, jM.len_sL, jM.len_sR, jM.len_fI, jM.len_fL, jM.len_fR]; omega) | (simp [jM.len_nw, jM.len_sI, jM.len_sL, jM.len_sR, jM.len_fI, jM.len_fL, jM.len_fR, *]; omega)) (by first | omega | (exact R.r _ _) | (simp only [jM.len_sI, jM.len_sL, jM.len_sR, jM.len_fI, jM.len_fL, jM.len_fR]; omega) | (simp [jM.len_nw, jM.len_sI, jM.len_sL, jM.len_sR, jM.len_fI, jM.len_fL, jM.len_fR, *]; omega)) ?_
                                               exact mQ.of (by unfold sp_layer layV; (repeat (first | rw [if_pos (by omega)] | rw [if_neg (by omega)]))))
                                          · first
                                            | (exfalso; omega)
                                            | (first | refine J.aload_n (pc' := 129) rfl rfl rfl ?_ | refine J.aload_nN (pc' := 129) rfl rfl rfl ?_
                                               refine J.mgR (pc' := 132) (t := 141) B rfl fl_X12_100 rfl rfl (by decide) rfl ?_
                                               refine J.iload (pc' := 134) rfl rfl rfl ?_
                                               refine J.mald (pc' := 135) B rfl rfl rfl (by omega) (by simp only [jLn]; omega) rfl ?_
                                               refine J.iret rfl rfl (by first | omega | (exact R.r _ _) | (simp only [jM.len_sI, jM.len_sL, jM.len_sR, jM.len_fI, jM.len_fL, jM.len_fR]; omega) | (simp [jM.len_nw, jM.len_sI, jM.len_sL, jM.len_sR, jM.len_fI, jM.len_fL, jM.len_fR, *]; omega)) (by first | omega | (exact R.r _ _) | (simp only [jM.len_sI, jM.len_sL, jM.len_sR, jM.len_fI, jM.len_fL, jM.len_fR]; omega) | (simp [jM.len_nw, jM.len_sI, jM.len_sL, jM.len_sR, jM.len_fI, jM.len_fL, jM.len_fR, *]; omega)) ?_
                                               exact mQ.of (by unfold sp_layer layV; (repeat (first | rw [if_pos (by omega)] | rw [if_neg (by omega)]))))
                                          · omega)
                                     · first
                                       | (exfalso; omega)
                                       | (refine J.iconst (pc' := 66) rfl rfl ?_
                                          refine J.iret rfl rfl (by first | omega | (exact R.r _ _) | (simp only [jM.len_sI, jM.len_sL, jM.len_sR, jM.len_fI, jM.len_fL, jM.len_fR]; omega) | (simp [jM.len_nw, jM.len_sI, jM.len_sL, jM.len_sR, jM.len_fI, jM.len_fL, jM.len_fR, *]; omega)) (by first | omega | (exact R.r _ _) | (simp only [jM.len_sI, jM.len_sL, jM.len_sR, jM.len_fI, jM.len_fL, jM.len_fR]; omega) | (simp [jM.len_nw, jM.len_sI, jM.len_sL, jM.len_sR, jM.len_fI, jM.len_fL, jM.len_fR, *]; omega)) ?_
                                          exact mQ.of (by unfold sp_layer layV; (repeat (first | rw [if_pos (by omega)] | rw [if_neg (by omega)])))))
                                · first
                                  | (exfalso; omega)
                                  | (refine J.iconst (pc' := 54) rfl rfl ?_
                                     refine J.goto (tgt := 58) rfl rfl ?_
                                     refine J.iconst (pc' := 59) rfl rfl ?_
                                     first | refine J.callV (pc' := 62) (t := 16) rfl MX12_may ml_X12_161 iv_X12_may (by decide) ⟨_, rfl, rfl⟩ B.1 (cm_may1 B h0) rfl rfl (Nat.le_of_ble_eq_true rfl) (by first | omega | (exact R.r _ _) | (simp only [jM.len_sI, jM.len_sL, jM.len_sR, jM.len_fI, jM.len_fL, jM.len_fR]; omega) | (simp [jM.len_nw, jM.len_sI, jM.len_sL, jM.len_sR, jM.len_fI, jM.len_fL, jM.len_fR, *]; omega)) (by first | omega | (exact R.r _ _) | (simp only [jM.len_sI, jM.len_sL, jM.len_sR, jM.len_fI, jM.len_fL, jM.len_fR]; omega) | (simp [jM.len_nw, jM.len_sI, jM.len_sL, jM.len_sR, jM.len_fI, jM.len_fL, jM.len_fR, *]; omega)) (by first | omega | (exact R.r _ _) | (simp only [jM.len_sI, jM.len_sL, jM.len_sR, jM.len_fI, jM.len_fL, jM.len_fR]; omega) | (simp [jM.len_nw, jM.len_sI, jM.len_sL, jM.len_sR, jM.len_fI, jM.len_fL, jM.len_fR, *]; omega)) rfl rfl ?_ ?_ | refine J.callV (pc' := 62) (t := 16) rfl MX12_may ml_X12_161 iv_X12_may (by decide) ⟨_, rfl, rfl⟩ B.1 (cm_may0 B h0 (by omega)) rfl rfl (Nat.le_of_ble_eq_true rfl) (by first | omega | (exact R.r _ _) | (simp only [jM.len_sI, jM.len_sL, jM.len_sR, jM.len_fI, jM.len_fL, jM.len_fR]; omega) | (simp [jM.len_nw, jM.len_sI, jM.len_sL, jM.len_sR, jM.len_fI, jM.len_fL, jM.len_fR, *]; omega)) (by first | omega | (exact R.r _ _) | (simp only [jM.len_sI, jM.len_sL, jM.len_sR, jM.len_fI, jM.len_fL, jM.len_fR]; omega) | (simp [jM.len_nw, jM.len_sI, jM.len_sL, jM.len_sR, jM.len_fI, jM.len_fL, jM.len_fR, *]; omega)) (by first | omega | (exact R.r _ _) | (simp only [jM.len_sI, jM.len_sL, jM.len_sR, jM.len_fI, jM.len_fL, jM.len_fR]; omega) | (simp [jM.len_nw, jM.len_sI, jM.len_sL, jM.len_sR, jM.len_fI, jM.len_fL, jM.len_fR, *]; omega)) rfl rfl ?_ ?_
                                     · exact fun _ _ h => h
                                     rintro _ _ ⟨rfl, rfl⟩
                                     refine J.if_ne (tgt := 67) (pc' := 65) rfl rfl rfl (by first | omega | (exact R.r _ _) | (simp only [jM.len_sI, jM.len_sL, jM.len_sR, jM.len_fI, jM.len_fL, jM.len_fR]; omega) | (simp [jM.len_nw, jM.len_sI, jM.len_sL, jM.len_sR, jM.len_fI, jM.len_fL, jM.len_fR, *]; omega)) (fun c62 => ?_) (fun c62 => ?_)
                                     · first
                                       | (exfalso; omega)
                                       | (refine J.bipush (pc' := 69) rfl rfl (by decide) ?_
                                          refine J.iload_n (pc' := 70) rfl rfl rfl ?_
                                          refine J.imul (pc' := 71) rfl rfl ?_
                                          first | refine J.aload_n (pc' := 72) rfl rfl rfl ?_ | refine J.aload_nN (pc' := 72) rfl rfl rfl ?_
                                          refine J.mgR (pc' := 75) (t := 138) B rfl fl_X12_91 rfl rfl (by decide) rfl ?_
                                          refine J.iload_n (pc' := 76) rfl rfl rfl ?_
                                          refine J.mald (pc' := 77) B rfl rfl rfl (by omega) (by simp only [jLn]; omega) rfl ?_
                                          refine J.iadd (pc' := 78) rfl rfl ?_
                                          refine J.iconst (pc' := 79) rfl rfl ?_
                                          refine J.isub (pc' := 80) rfl rfl ?_
                                          refine J.iload_n (pc' := 81) rfl rfl rfl ?_
                                          refine J.isub (pc' := 82) rfl rfl ?_
                                          refine J.istore (pc' := 84) rfl rfl (by decide) ?_
                                          refine J.iload_n (pc' := 85) rfl rfl rfl ?_
                                          refine J.tsw (tgt := 136) (n := 3) (T := jNth [112, 120, 128]) rfl (by first | omega | (exact R.r _ _) | (simp only [jM.len_sI, jM.len_sL, jM.len_sR, jM.len_fI, jM.len_fL, jM.len_fR]; omega) | (simp [jM.len_nw, jM.len_sI, jM.len_sL, jM.len_sR, jM.len_fI, jM.len_fL, jM.len_fR, *]; omega)) rfl rfl (fun k hk => by rcases k with _ | _ | _ | k <;> first | exact ⟨_, rfl, rfl⟩ | omega) (fun c85 => ?_) (fun k85 hk85 c85 => ?_)
                                          · first
                                            | (exfalso; omega)
                                            | (refine J.iload_n (pc' := 137) rfl rfl rfl ?_
                                               refine J.iconst (pc' := 138) rfl rfl ?_
                                               refine J.irem (pc' := 139) rfl rfl (by first | omega | (exact R.r _ _) | (simp only [jM.len_sI, jM.len_sL, jM.len_sR, jM.len_fI, jM.len_fL, jM.len_fR]; omega) | (simp [jM.len_nw, jM.len_sI, jM.len_sL, jM.len_sR, jM.len_fI, jM.len_fL, jM.len_fR, *]; omega)) (by first | omega | (exact R.r _ _) | (simp only [jM.len_sI, jM.len_sL, jM.len_sR, jM.len_fI, jM.len_fL, jM.len_fR]; omega) | (simp [jM.len_nw, jM.len_sI, jM.len_sL, jM.len_sR, jM.len_fI, jM.len_fL, jM.len_fR, *]; omega)) (by first | omega | (exact R.r _ _) | (simp only [jM.len_sI, jM.len_sL, jM.len_sR, jM.len_fI, jM.len_fL, jM.len_fR]; omega) | (simp [jM.len_nw, jM.len_sI, jM.len_sL, jM.len_sR, jM.len_fI, jM.len_fL, jM.len_fR, *]; omega)) ?_
                                               rw [Int.tmod_eq_emod_of_nonneg (by omega)]
                                               refine J.iconst (pc' := 140) rfl rfl ?_
                                               refine J.icmp_ne (tgt := 157) (pc' := 143) rfl rfl rfl (by first | omega | (exact R.r _ _) | (simp only [jM.len_sI, jM.len_sL, jM.len_sR, jM.len_fI, jM.len_fL, jM.len_fR]; omega) | (simp [jM.len_nw, jM.len_sI, jM.len_sL, jM.len_sR, jM.len_fI, jM.len_fL, jM.len_fR, *]; omega)) (by first | omega | (exact R.r _ _) | (simp only [jM.len_sI, jM.len_sL, jM.len_sR, jM.len_fI, jM.len_fL, jM.len_fR]; omega) | (simp [jM.len_nw, jM.len_sI, jM.len_sL, jM.len_sR, jM.len_fI, jM.len_fL, jM.len_fR, *]; omega)) (fun c140 => ?_) (fun c140 => ?_)
                                               · first
                                                 | (exfalso; omega)
                                                 | (first | refine J.aload_n (pc' := 158) rfl rfl rfl ?_ | refine J.aload_nN (pc' := 158) rfl rfl rfl ?_
                                                    refine J.iload (pc' := 160) rfl rfl rfl ?_
                                                    refine J.iload_n (pc' := 161) rfl rfl rfl ?_
                                                    refine J.iconst (pc' := 162) rfl rfl ?_
                                                    refine J.isub (pc' := 163) rfl rfl ?_
                                                    refine J.iconst (pc' := 164) rfl rfl ?_
                                                    refine J.idiv (pc' := 165) rfl rfl (by first | omega | (exact R.r _ _) | (simp only [jM.len_sI, jM.len_sL, jM.len_sR, jM.len_fI, jM.len_fL, jM.len_fR]; omega) | (simp [jM.len_nw, jM.len_sI, jM.len_sL, jM.len_sR, jM.len_fI, jM.len_fL, jM.len_fR, *]; omega)) (by first | omega | (exact R.r _ _) | (simp only [jM.len_sI, jM.len_sL, jM.len_sR, jM.len_fI, jM.len_fL, jM.len_fR]; omega) | (simp [jM.len_nw, jM.len_sI, jM.len_sL, jM.len_sR, jM.len_fI, jM.len_fL, jM.len_fR, *]; omega)) (by first | omega | (exact R.r _ _) | (simp only [jM.len_sI, jM.len_sL, jM.len_sR, jM.len_fI, jM.len_fL, jM.len_fR]; omega) | (simp [jM.len_nw, jM.len_sI, jM.len_sL, jM.len_sR, jM.len_fI, jM.len_fL, jM.len_fR, *]; omega)) ?_
                                                    rw [Int.tdiv_eq_ediv_of_nonneg (by omega)]
                                                    refine J.callV (pc' := 168) (t := 16) rfl MX12_highOfLayer ml_X12_307 iv_X12_highOfLayer (by decide) ⟨_, rfl, rfl⟩ B.1 (cm_highL B R (by omega) (by omega)) rfl rfl (Nat.le_of_ble_eq_true rfl) (by first | omega | (exact R.r _ _) | (simp only [jM.len_sI, jM.len_sL, jM.len_sR, jM.len_fI, jM.len_fL, jM.len_fR]; omega) | (simp [jM.len_nw, jM.len_sI, jM.len_sL, jM.len_sR, jM.len_fI, jM.len_fL, jM.len_fR, *]; omega)) (by first | omega | (exact R.r _ _) | (simp only [jM.len_sI, jM.len_sL, jM.len_sR, jM.len_fI, jM.len_fL, jM.len_fR]; omega) | (simp [jM.len_nw, jM.len_sI, jM.len_sL, jM.len_sR, jM.len_fI, jM.len_fL, jM.len_fR, *]; omega)) (by first | omega | (exact R.r _ _) | (simp only [jM.len_sI, jM.len_sL, jM.len_sR, jM.len_fI, jM.len_fL, jM.len_fR]; omega) | (simp [jM.len_nw, jM.len_sI, jM.len_sL, jM.len_sR, jM.len_fI, jM.len_fL, jM.len_fR, *]; omega)) rfl rfl ?_ ?_
                                                    · exact fun _ _ h => h
                                                    rintro _ _ ⟨rfl, rfl⟩
                                                    refine J.iret rfl rfl (by first | omega | (exact R.r _ _) | (simp only [jM.len_sI, jM.len_sL, jM.len_sR, jM.len_fI, jM.len_fL, jM.len_fR]; omega) | (simp [jM.len_nw, jM.len_sI, jM.len_sL, jM.len_sR, jM.len_fI, jM.len_fL, jM.len_fR, *]; omega)) (by first | omega | (exact R.r _ _) | (simp only [jM.len_sI, jM.len_sL, jM.len_sR, jM.len_fI, jM.len_fL, jM.len_fR]; omega) | (simp [jM.len_nw, jM.len_sI, jM.len_sL, jM.len_sR, jM.len_fI, jM.len_fL, jM.len_fR, *]; omega)) ?_
                                                    exact mQ.of (by unfold sp_layer layV; (repeat (first | rw [if_pos (by omega)] | rw [if_neg (by omega)]))))
                                               · first
                                                 | (exfalso; omega)
                                                 | (first | refine J.aload_n (pc' := 144) rfl rfl rfl ?_ | refine J.aload_nN (pc' := 144) rfl rfl rfl ?_
                                                    refine J.iload (pc' := 146) rfl rfl rfl ?_
                                                    refine J.iload_n (pc' := 147) rfl rfl rfl ?_
                                                    refine J.iconst (pc' := 148) rfl rfl ?_
                                                    refine J.isub (pc' := 149) rfl rfl ?_
                                                    refine J.iconst (pc' := 150) rfl rfl ?_
                                                    refine J.idiv (pc' := 151) rfl rfl (by first | omega | (exact R.r _ _) | (simp only [jM.len_sI, jM.len_sL, jM.len_sR, jM.len_fI, jM.len_fL, jM.len_fR]; omega) | (simp [jM.len_nw, jM.len_sI, jM.len_sL, jM.len_sR, jM.len_fI, jM.len_fL, jM.len_fR, *]; omega)) (by first | omega | (exact R.r _ _) | (simp only [jM.len_sI, jM.len_sL, jM.len_sR, jM.len_fI, jM.len_fL, jM.len_fR]; omega) | (simp [jM.len_nw, jM.len_sI, jM.len_sL, jM.len_sR, jM.len_fI, jM.len_fL, jM.len_fR, *]; omega)) (by first | omega | (exact R.r _ _) | (simp only [jM.len_sI, jM.len_sL, jM.len_sR, jM.len_fI, jM.len_fL, jM.len_fR]; omega) | (simp [jM.len_nw, jM.len_sI, jM.len_sL, jM.len_sR, jM.len_fI, jM.len_fL, jM.len_fR, *]; omega)) ?_
                                                    rw [Int.tdiv_eq_ediv_of_nonneg (by omega)]
                                                    refine J.callV (pc' := 154) (t := 16) rfl MX12_lowOfLayer ml_X12_304 iv_X12_lowOfLayer (by decide) ⟨_, rfl, rfl⟩ B.1 (cm_lowL B R (by omega) (by omega)) rfl rfl (Nat.le_of_ble_eq_true rfl) (by first | omega | (exact R.r _ _) | (simp only [jM.len_sI, jM.len_sL, jM.len_sR, jM.len_fI, jM.len_fL, jM.len_fR]; omega) | (simp [jM.len_nw, jM.len_sI, jM.len_sL, jM.len_sR, jM.len_fI, jM.len_fL, jM.len_fR, *]; omega)) (by first | omega | (exact R.r _ _) | (simp only [jM.len_sI, jM.len_sL, jM.len_sR, jM.len_fI, jM.len_fL, jM.len_fR]; omega) | (simp [jM.len_nw, jM.len_sI, jM.len_sL, jM.len_sR, jM.len_fI, jM.len_fL, jM.len_fR, *]; omega)) (by first | omega | (exact R.r _ _) | (simp only [jM.len_sI, jM.len_sL, jM.len_sR, jM.len_fI, jM.len_fL, jM.len_fR]; omega) | (simp [jM.len_nw, jM.len_sI, jM.len_sL, jM.len_sR, jM.len_fI, jM.len_fL, jM.len_fR, *]; omega)) rfl rfl ?_ ?_
                                                    · exact fun _ _ h => h
                                                    rintro _ _ ⟨rfl, rfl⟩
                                                    refine J.goto (tgt := 168) rfl rfl ?_
                                                    refine J.iret rfl rfl (by first | omega | (exact R.r _ _) | (simp only [jM.len_sI, jM.len_sL, jM.len_sR, jM.len_fI, jM.len_fL, jM.len_fR]; omega) | (simp [jM.len_nw, jM.len_sI, jM.len_sL, jM.len_sR, jM.len_fI, jM.len_fL, jM.len_fR, *]; omega)) (by first | omega | (exact R.r _ _) | (simp only [jM.len_sI, jM.len_sL, jM.len_sR, jM.len_fI, jM.len_fL, jM.len_fR]; omega) | (simp [jM.len_nw, jM.len_sI, jM.len_sL, jM.len_sR, jM.len_fI, jM.len_fL, jM.len_fR, *]; omega)) ?_
                                                    exact mQ.of (by unfold sp_layer layV; (repeat (first | rw [if_pos (by omega)] | rw [if_neg (by omega)])))))
                                          rcases k85 with _ | _ | _ | k85
                                          · first
                                            | (exfalso; omega)
                                            | (first | refine J.aload_n (pc' := 113) rfl rfl rfl ?_ | refine J.aload_nN (pc' := 113) rfl rfl rfl ?_
                                               refine J.mgR (pc' := 116) (t := 139) B rfl fl_X12_94 rfl rfl (by decide) rfl ?_
                                               refine J.iload (pc' := 118) rfl rfl rfl ?_
                                               refine J.mald (pc' := 119) B rfl rfl rfl (by omega) (by simp only [jLn]; omega) rfl ?_
                                               refine J.iret rfl rfl (by first | omega | (exact R.r _ _) | (simp only [jM.len_sI, jM.len_sL, jM.len_sR, jM.len_fI, jM.len_fL, jM.len_fR]; omega) | (simp [jM.len_nw, jM.len_sI, jM.len_sL, jM.len_sR, jM.len_fI, jM.len_fL, jM.len_fR, *]; omega)) (by first | omega | (exact R.r _ _) | (simp only [jM.len_sI, jM.len_sL, jM.len_sR, jM.len_fI, jM.len_fL, jM.len_fR]; omega) | (simp [jM.len_nw, jM.len_sI, jM.len_sL, jM.len_sR, jM.len_fI, jM.len_fL, jM.len_fR, *]; omega)) ?_
                                               exact mQ.of (by unfold sp_layer layV; (repeat (first | rw [if_pos (by omega)] | rw [if_neg (by omega)]))))
                                          · first
                                            | (exfalso; omega)
                                            | (first | refine J.aload_n (pc' := 121) rfl rfl rfl ?_ | refine J.aload_nN (pc' := 121) rfl rfl rfl ?_
                                               refine J.mgR (pc' := 124) (t := 140) B rfl fl_X12_97 rfl rfl (by decide) rfl ?_
                                               refine J.iload (pc' := 126) rfl rfl rfl ?_
                                               refine J.mald (pc' := 127) B rfl rfl rfl (by omega) (by simp only [jLn]; omega) rfl ?_
                                               refine J.iret rfl rfl (by first | omega | (exact R.r _ _) | (simp only [jM.len_sI, jM.len_sL, jM.len_sR, jM.len_fI, jM.len_fL, jM.len_fR]; omega) | (simp [jM.len_nw, jM.len_sI, jM.len_sL, jM.len_sR, jM.len_fI, jM.len_fL, jM.len_fR, *]; omega)) (by first | omega | (exact R.r _ _) | (simp only [jM.len_sI, jM.len_sL, jM.len_sR, jM.len_fI, jM.len_fL, jM.len_fR]; omega) | (simp [jM.len_nw, jM.len_sI, jM.len_sL, jM.len_sR, jM.len_fI, jM.len_fL, jM.len_fR, *]; omega)) ?_
                                               exact mQ.of (by unfold sp_layer layV; (repeat (first | rw [if_pos (by omega)] | rw [if_neg (by omega)]))))
                                          · first
                                            | (exfalso; omega)
                                            | (first | refine J.aload_n (pc' := 129) rfl rfl rfl ?_ | refine J.aload_nN (pc' := 129) rfl rfl rfl ?_
                                               refine J.mgR (pc' := 132) (t := 141) B rfl fl_X12_100 rfl rfl (by decide) rfl ?_
                                               refine J.iload (pc' := 134) rfl rfl rfl ?_
                                               refine J.mald (pc' := 135) B rfl rfl rfl (by omega) (by simp only [jLn]; omega) rfl ?_
                                               refine J.iret rfl rfl (by first | omega | (exact R.r _ _) | (simp only [jM.len_sI, jM.len_sL, jM.len_sR, jM.len_fI, jM.len_fL, jM.len_fR]; omega) | (simp [jM.len_nw, jM.len_sI, jM.len_sL, jM.len_sR, jM.len_fI, jM.len_fL, jM.len_fR, *]; omega)) (by first | omega | (exact R.r _ _) | (simp only [jM.len_sI, jM.len_sL, jM.len_sR, jM.len_fI, jM.len_fL, jM.len_fR]; omega) | (simp [jM.len_nw, jM.len_sI, jM.len_sL, jM.len_sR, jM.len_fI, jM.len_fL, jM.len_fR, *]; omega)) ?_
                                               exact mQ.of (by unfold sp_layer layV; (repeat (first | rw [if_pos (by omega)] | rw [if_neg (by omega)]))))
                                          · omega)
                                     · first
                                       | (exfalso; omega)
                                       | (refine J.iconst (pc' := 66) rfl rfl ?_
                                          refine J.iret rfl rfl (by first | omega | (exact R.r _ _) | (simp only [jM.len_sI, jM.len_sL, jM.len_sR, jM.len_fI, jM.len_fL, jM.len_fR]; omega) | (simp [jM.len_nw, jM.len_sI, jM.len_sL, jM.len_sR, jM.len_fI, jM.len_fL, jM.len_fR, *]; omega)) (by first | omega | (exact R.r _ _) | (simp only [jM.len_sI, jM.len_sL, jM.len_sR, jM.len_fI, jM.len_fL, jM.len_fR]; omega) | (simp [jM.len_nw, jM.len_sI, jM.len_sL, jM.len_sR, jM.len_fI, jM.len_fL, jM.len_fR, *]; omega)) ?_
                                          exact mQ.of (by unfold sp_layer layV; (repeat (first | rw [if_pos (by omega)] | rw [if_neg (by omega)]))))))))
                 · first
                   | (exfalso; omega)
                   | (refine J.iconst (pc' := 31) rfl rfl ?_
                      refine J.goto (tgt := 35) rfl rfl ?_
                      refine J.iconst (pc' := 36) rfl rfl ?_
                      first | refine J.callV (pc' := 39) (t := 16) rfl MX12_may ml_X12_161 iv_X12_may (by decide) ⟨_, rfl, rfl⟩ B.1 (cm_may1 B h0) rfl rfl (Nat.le_of_ble_eq_true rfl) (by first | omega | (exact R.r _ _) | (simp only [jM.len_sI, jM.len_sL, jM.len_sR, jM.len_fI, jM.len_fL, jM.len_fR]; omega) | (simp [jM.len_nw, jM.len_sI, jM.len_sL, jM.len_sR, jM.len_fI, jM.len_fL, jM.len_fR, *]; omega)) (by first | omega | (exact R.r _ _) | (simp only [jM.len_sI, jM.len_sL, jM.len_sR, jM.len_fI, jM.len_fL, jM.len_fR]; omega) | (simp [jM.len_nw, jM.len_sI, jM.len_sL, jM.len_sR, jM.len_fI, jM.len_fL, jM.len_fR, *]; omega)) (by first | omega | (exact R.r _ _) | (simp only [jM.len_sI, jM.len_sL, jM.len_sR, jM.len_fI, jM.len_fL, jM.len_fR]; omega) | (simp [jM.len_nw, jM.len_sI, jM.len_sL, jM.len_sR, jM.len_fI, jM.len_fL, jM.len_fR, *]; omega)) rfl rfl ?_ ?_ | refine J.callV (pc' := 39) (t := 16) rfl MX12_may ml_X12_161 iv_X12_may (by decide) ⟨_, rfl, rfl⟩ B.1 (cm_may0 B h0 (by omega)) rfl rfl (Nat.le_of_ble_eq_true rfl) (by first | omega | (exact R.r _ _) | (simp only [jM.len_sI, jM.len_sL, jM.len_sR, jM.len_fI, jM.len_fL, jM.len_fR]; omega) | (simp [jM.len_nw, jM.len_sI, jM.len_sL, jM.len_sR, jM.len_fI, jM.len_fL, jM.len_fR, *]; omega)) (by first | omega | (exact R.r _ _) | (simp only [jM.len_sI, jM.len_sL, jM.len_sR, jM.len_fI, jM.len_fL, jM.len_fR]; omega) | (simp [jM.len_nw, jM.len_sI, jM.len_sL, jM.len_sR, jM.len_fI, jM.len_fL, jM.len_fR, *]; omega)) (by first | omega | (exact R.r _ _) | (simp only [jM.len_sI, jM.len_sL, jM.len_sR, jM.len_fI, jM.len_fL, jM.len_fR]; omega) | (simp [jM.len_nw, jM.len_sI, jM.len_sL, jM.len_sR, jM.len_fI, jM.len_fL, jM.len_fR, *]; omega)) rfl rfl ?_ ?_
                      · exact fun _ _ h => h
                      rintro _ _ ⟨rfl, rfl⟩
                      refine J.if_eq (tgt := 65) (pc' := 42) rfl rfl rfl (by first | omega | (exact R.r _ _) | (simp only [jM.len_sI, jM.len_sL, jM.len_sR, jM.len_fI, jM.len_fL, jM.len_fR]; omega) | (simp [jM.len_nw, jM.len_sI, jM.len_sL, jM.len_sR, jM.len_fI, jM.len_fL, jM.len_fR, *]; omega)) (fun c39 => ?_) (fun c39 => ?_)
                      · first
                        | (exfalso; omega)
                        | (refine J.iconst (pc' := 66) rfl rfl ?_
                           refine J.iret rfl rfl (by first | omega | (exact R.r _ _) | (simp only [jM.len_sI, jM.len_sL, jM.len_sR, jM.len_fI, jM.len_fL, jM.len_fR]; omega) | (simp [jM.len_nw, jM.len_sI, jM.len_sL, jM.len_sR, jM.len_fI, jM.len_fL, jM.len_fR, *]; omega)) (by first | omega | (exact R.r _ _) | (simp only [jM.len_sI, jM.len_sL, jM.len_sR, jM.len_fI, jM.len_fL, jM.len_fR]; omega) | (simp [jM.len_nw, jM.len_sI, jM.len_sL, jM.len_sR, jM.len_fI, jM.len_fL, jM.len_fR, *]; omega)) ?_
                           exact mQ.of (by unfold sp_layer layV; (repeat (first | rw [if_pos (by omega)] | rw [if_neg (by omega)]))))
                      · first
                        | (exfalso; omega)
                        | (first | refine J.aload_n (pc' := 43) rfl rfl rfl ?_ | refine J.aload_nN (pc' := 43) rfl rfl rfl ?_
                           refine J.iload_n (pc' := 44) rfl rfl rfl ?_
                           refine J.if_lt (tgt := 57) (pc' := 47) rfl rfl rfl (by first | omega | (exact R.r _ _) | (simp only [jM.len_sI, jM.len_sL, jM.len_sR, jM.len_fI, jM.len_fL, jM.len_fR]; omega) | (simp [jM.len_nw, jM.len_sI, jM.len_sL, jM.len_sR, jM.len_fI, jM.len_fL, jM.len_fR, *]; omega)) (fun c44 => ?_) (fun c44 => ?_)
                           · first
                             | (exfalso; omega)
                             | (refine J.iconst (pc' := 58) rfl rfl ?_
                                refine J.iconst (pc' := 59) rfl rfl ?_
                                first | refine J.callV (pc' := 62) (t := 16) rfl MX12_may ml_X12_161 iv_X12_may (by decide) ⟨_, rfl, rfl⟩ B.1 (cm_may1 B h0) rfl rfl (Nat.le_of_ble_eq_true rfl) (by first | omega | (exact R.r _ _) | (simp only [jM.len_sI, jM.len_sL, jM.len_sR, jM.len_fI, jM.len_fL, jM.len_fR]; omega) | (simp [jM.len_nw, jM.len_sI, jM.len_sL, jM.len_sR, jM.len_fI, jM.len_fL, jM.len_fR, *]; omega)) (by first | omega | (exact R.r _ _) | (simp only [jM.len_sI, jM.len_sL, jM.len_sR, jM.len_fI, jM.len_fL, jM.len_fR]; omega) | (simp [jM.len_nw, jM.len_sI, jM.len_sL, jM.len_sR, jM.len_fI, jM.len_fL, jM.len_fR, *]; omega)) (by first | omega | (exact R.r _ _) | (simp only [jM.len_sI, jM.len_sL, jM.len_sR, jM.len_fI, jM.len_fL, jM.len_fR]; omega) | (simp [jM.len_nw, jM.len_sI, jM.len_sL, jM.len_sR, jM.len_fI, jM.len_fL, jM.len_fR, *]; omega)) rfl rfl ?_ ?_ | refine J.callV (pc' := 62) (t := 16) rfl MX12_may ml_X12_161 iv_X12_may (by decide) ⟨_, rfl, rfl⟩ B.1 (cm_may0 B h0 (by omega)) rfl rfl (Nat.le_of_ble_eq_true rfl) (by first | omega | (exact R.r _ _) | (simp only [jM.len_sI, jM.len_sL, jM.len_sR, jM.len_fI, jM.len_fL, jM.len_fR]; omega) | (simp [jM.len_nw, jM.len_sI, jM.len_sL, jM.len_sR, jM.len_fI, jM.len_fL, jM.len_fR, *]; omega)) (by first | omega | (exact R.r _ _) | (simp only [jM.len_sI, jM.len_sL, jM.len_sR, jM.len_fI, jM.len_fL, jM.len_fR]; omega) | (simp [jM.len_nw, jM.len_sI, jM.len_sL, jM.len_sR, jM.len_fI, jM.len_fL, jM.len_fR, *]; omega)) (by first | omega | (exact R.r _ _) | (simp only [jM.len_sI, jM.len_sL, jM.len_sR, jM.len_fI, jM.len_fL, jM.len_fR]; omega) | (simp [jM.len_nw, jM.len_sI, jM.len_sL, jM.len_sR, jM.len_fI, jM.len_fL, jM.len_fR, *]; omega)) rfl rfl ?_ ?_
                                · exact fun _ _ h => h
                                rintro _ _ ⟨rfl, rfl⟩
                                refine J.if_ne (tgt := 67) (pc' := 65) rfl rfl rfl (by first | omega | (exact R.r _ _) | (simp only [jM.len_sI, jM.len_sL, jM.len_sR, jM.len_fI, jM.len_fL, jM.len_fR]; omega) | (simp [jM.len_nw, jM.len_sI, jM.len_sL, jM.len_sR, jM.len_fI, jM.len_fL, jM.len_fR, *]; omega)) (fun c62 => ?_) (fun c62 => ?_)
                                · first
                                  | (exfalso; omega)
                                  | (refine J.bipush (pc' := 69) rfl rfl (by decide) ?_
                                     refine J.iload_n (pc' := 70) rfl rfl rfl ?_
                                     refine J.imul (pc' := 71) rfl rfl ?_
                                     first | refine J.aload_n (pc' := 72) rfl rfl rfl ?_ | refine J.aload_nN (pc' := 72) rfl rfl rfl ?_
                                     refine J.mgR (pc' := 75) (t := 138) B rfl fl_X12_91 rfl rfl (by decide) rfl ?_
                                     refine J.iload_n (pc' := 76) rfl rfl rfl ?_
                                     refine J.mald (pc' := 77) B rfl rfl rfl (by omega) (by simp only [jLn]; omega) rfl ?_
                                     refine J.iadd (pc' := 78) rfl rfl ?_
                                     refine J.iconst (pc' := 79) rfl rfl ?_
                                     refine J.isub (pc' := 80) rfl rfl ?_
                                     refine J.iload_n (pc' := 81) rfl rfl rfl ?_
                                     refine J.isub (pc' := 82) rfl rfl ?_
                                     refine J.istore (pc' := 84) rfl rfl (by decide) ?_
                                     refine J.iload_n (pc' := 85) rfl rfl rfl ?_
                                     refine J.tsw (tgt := 136) (n := 3) (T := jNth [112, 120, 128]) rfl (by first | omega | (exact R.r _ _) | (simp only [jM.len_sI, jM.len_sL, jM.len_sR, jM.len_fI, jM.len_fL, jM.len_fR]; omega) | (simp [jM.len_nw, jM.len_sI, jM.len_sL, jM.len_sR, jM.len_fI, jM.len_fL, jM.len_fR, *]; omega)) rfl rfl (fun k hk => by rcases k with _ | _ | _ | k <;> first | exact ⟨_, rfl, rfl⟩ | omega) (fun c85 => ?_) (fun k85 hk85 c85 => ?_)
                                     · first
                                       | (exfalso; omega)
                                       | (refine J.iload_n (pc' := 137) rfl rfl rfl ?_
                                          refine J.iconst (pc' := 138) rfl rfl ?_
                                          refine J.irem (pc' := 139) rfl rfl (by first | omega | (exact R.r _ _) | (simp only [jM.len_sI, jM.len_sL, jM.len_sR, jM.len_fI, jM.len_fL, jM.len_fR]; omega) | (simp [jM.len_nw, jM.len_sI, jM.len_sL, jM.len_sR, jM.len_fI, jM.len_fL, jM.len_fR, *]; omega)) (by first | omega | (exact R.r _ _) | (simp only [jM.len_sI, jM.len_sL, jM.len_sR, jM.len_fI, jM.len_fL, jM.len_fR]; omega) | (simp [jM.len_nw, jM.len_sI, jM.len_sL, jM.len_sR, jM.len_fI, jM.len_fL, jM.len_fR, *]; omega)) (by first | omega | (exact R.r _ _) | (simp only [jM.len_sI, jM.len_sL, jM.len_sR, jM.len_fI, jM.len_fL, jM.len_fR]; omega) | (simp [jM.len_nw, jM.len_sI, jM.len_sL, jM.len_sR, jM.len_fI, jM.len_fL, jM.len_fR, *]; omega)) ?_
                                          rw [Int.tmod_eq_emod_of_nonneg (by omega)]
                                          refine J.iconst (pc' := 140) rfl rfl ?_
                                          refine J.icmp_ne (tgt := 157) (pc' := 143) rfl rfl rfl (by first | omega | (exact R.r _ _) | (simp only [jM.len_sI, jM.len_sL, jM.len_sR, jM.len_fI, jM.len_fL, jM.len_fR]; omega) | (simp [jM.len_nw, jM.len_sI, jM.len_sL, jM.len_sR, jM.len_fI, jM.len_fL, jM.len_fR, *]; omega)) (by first | omega | (exact R.r _ _) | (simp only [jM.len_sI, jM.len_sL, jM.len_sR, jM.len_fI, jM.len_fL, jM.len_fR]; omega) | (simp [jM.len_nw, jM.len_sI, jM.len_sL, jM.len_sR, jM.len_fI, jM.len_fL, jM.len_fR, *]; omega)) (fun c140 => ?_) (fun c140 => ?_)
                                          · first
                                            | (exfalso; omega)
                                            | (first | refine J.aload_n (pc' := 158) rfl rfl rfl ?_ | refine J.aload_nN (pc' := 158) rfl rfl rfl ?_
                                               refine J.iload (pc' := 160) rfl rfl rfl ?_
                                               refine J.iload_n (pc' := 161) rfl rfl rfl ?_
                                               refine J.iconst (pc' := 162) rfl rfl ?_
                                               refine J.isub (pc' := 163) rfl rfl ?_
                                               refine J.iconst (pc' := 164) rfl rfl ?_
                                               refine J.idiv (pc' := 165) rfl rfl (by first | omega | (exact R.r _ _) | (simp only [jM.len_sI, jM.len_sL, jM.len_sR, jM.len_fI, jM.len_fL, jM.len_fR]; omega) | (simp [jM.len_nw, jM.len_sI, jM.len_sL, jM.len_sR, jM.len_fI, jM.len_fL, jM.len_fR, *]; omega)) (by first | omega | (exact R.r _ _) | (simp only [jM.len_sI, jM.len_sL, jM.len_sR, jM.len_fI, jM.len_fL, jM.len_fR]; omega) | (simp [jM.len_nw, jM.len_sI, jM.len_sL, jM.len_sR, jM.len_fI, jM.len_fL, jM.len_fR, *]; omega)) (by first | omega | (exact R.r _ _) | (simp only [jM.len_sI, jM.len_sL, jM.len_sR, jM.len_fI, jM.len_fL, jM.len_fR]; omega) | (simp [jM.len_nw, jM.len_sI, jM.len_sL, jM.len_sR, jM.len_fI, jM.len_fL, jM.len_fR, *]; omega)) ?_
                                               rw [Int.tdiv_eq_ediv_of_nonneg (by omega)]
                                               refine J.callV (pc' := 168) (t := 16) rfl MX12_highOfLayer ml_X12_307 iv_X12_highOfLayer (by decide) ⟨_, rfl, rfl⟩ B.1 (cm_highL B R (by omega) (by omega)) rfl rfl (Nat.le_of_ble_eq_true rfl) (by first | omega | (exact R.r _ _) | (simp only [jM.len_sI, jM.len_sL, jM.len_sR, jM.len_fI, jM.len_fL, jM.len_fR]; omega) | (simp [jM.len_nw, jM.len_sI, jM.len_sL, jM.len_sR, jM.len_fI, jM.len_fL, jM.len_fR, *]; omega)) (by first | omega | (exact R.r _ _) | (simp only [jM.len_sI, jM.len_sL, jM.len_sR, jM.len_fI, jM.len_fL, jM.len_fR]; omega) | (simp [jM.len_nw, jM.len_sI, jM.len_sL, jM.len_sR, jM.len_fI, jM.len_fL, jM.len_fR, *]; omega)) (by first | omega | (exact R.r _ _) | (simp only [jM.len_sI, jM.len_sL, jM.len_sR, jM.len_fI, jM.len_fL, jM.len_fR]; omega) | (simp [jM.len_nw, jM.len_sI, jM.len_sL, jM.len_sR, jM.len_fI, jM.len_fL, jM.len_fR, *]; omega)) rfl rfl ?_ ?_
                                               · exact fun _ _ h => h
                                               rintro _ _ ⟨rfl, rfl⟩
                                               refine J.iret rfl rfl (by first | omega | (exact R.r _ _) | (simp only [jM.len_sI, jM.len_sL, jM.len_sR, jM.len_fI, jM.len_fL, jM.len_fR]; omega) | (simp [jM.len_nw, jM.len_sI, jM.len_sL, jM.len_sR, jM.len_fI, jM.len_fL, jM.len_fR, *]; omega)) (by first | omega | (exact R.r _ _) | (simp only [jM.len_sI, jM.len_sL, jM.len_sR, jM.len_fI, jM.len_fL, jM.len_fR]; omega) | (simp [jM.len_nw, jM.len_sI, jM.len_sL, jM.len_sR, jM.len_fI, jM.len_fL, jM.len_fR, *]; omega)) ?_
                                               exact mQ.of (by unfold sp_layer layV; (repeat (first | rw [if_pos (by omega)] | rw [if_neg (by omega)]))))
                                          · first
                                            | (exfalso; omega)
                                            | (first | refine J.aload_n (pc' := 144) rfl rfl rfl ?_ | refine J.aload_nN (pc' := 144) rfl rfl rfl ?_
                                               refine J.iload (pc' := 146) rfl rfl rfl ?_
                                               refine J.iload_n (pc' := 147) rfl rfl rfl ?_
                                               refine J.iconst (pc' := 148) rfl rfl ?_
                                               refine J.isub (pc' := 149) rfl rfl ?_
                                               refine J.iconst (pc' := 150) rfl rfl ?_
                                               refine J.idiv (pc' := 151) rfl rfl (by first | omega | (exact R.r _ _) | (simp only [jM.len_sI, jM.len_sL, jM.len_sR, jM.len_fI, jM.len_fL, jM.len_fR]; omega) | (simp [jM.len_nw, jM.len_sI, jM.len_sL, jM.len_sR, jM.len_fI, jM.len_fL, jM.len_fR, *]; omega)) (by first | omega | (exact R.r _ _) | (simp only [jM.len_sI, jM.len_sL, jM.len_sR, jM.len_fI, jM.len_fL, jM.len_fR]; omega) | (simp [jM.len_nw, jM.len_sI, jM.len_sL, jM.len_sR, jM.len_fI, jM.len_fL, jM.len_fR, *]; omega)) (by first | omega | (exact R.r _ _) | (simp only [jM.len_sI, jM.len_sL, jM.len_sR, jM.len_fI, jM.len_fL, jM.len_fR]; omega) | (simp [jM.len_nw, jM.len_sI, jM.len_sL, jM.len_sR, jM.len_fI, jM.len_fL, jM.len_fR, *]; omega)) ?_
                                               rw [Int.tdiv_eq_ediv_of_nonneg (by omega)]
                                               refine J.callV (pc' := 154) (t := 16) rfl MX12_lowOfLayer ml_X12_304 iv_X12_lowOfLayer (by decide) ⟨_, rfl, rfl⟩ B.1 (cm_lowL B R (by omega) (by omega)) rfl rfl (Nat.le_of_ble_eq_true rfl) (by first | omega | (exact R.r _ _) | (simp only [jM.len_sI, jM.len_sL, jM.len_sR, jM.len_fI, jM.len_fL, jM.len_fR]; omega) | (simp [jM.len_nw, jM.len_sI, jM.len_sL, jM.len_sR, jM.len_fI, jM.len_fL, jM.len_fR, *]; omega)) (by first | omega | (exact R.r _ _) | (simp only [jM.len_sI, jM.len_sL, jM.len_sR, jM.len_fI, jM.len_fL, jM.len_fR]; omega) | (simp [jM.len_nw, jM.len_sI, jM.len_sL, jM.len_sR, jM.len_fI, jM.len_fL, jM.len_fR, *]; omega)) (by first | omega | (exact R.r _ _) | (simp only [jM.len_sI, jM.len_sL, jM.len_sR, jM.len_fI, jM.len_fL, jM.len_fR]; omega) | (simp [jM.len_nw, jM.len_sI, jM.len_sL, jM.len_sR, jM.len_fI, jM.len_fL, jM.len_fR, *]; omega)) rfl rfl ?_ ?_
                                               · exact fun _ _ h => h
                                               rintro _ _ ⟨rfl, rfl⟩
                                               refine J.goto (tgt := 168) rfl rfl ?_
                                               refine J.iret rfl rfl (by first | omega | (exact R.r _ _) | (simp only [jM.len_sI, jM.len_sL, jM.len_sR, jM.len_fI, jM.len_fL, jM.len_fR]; omega) | (simp [jM.len_nw, jM.len_sI, jM.len_sL, jM.len_sR, jM.len_fI, jM.len_fL, jM.len_fR, *]; omega)) (by first | omega | (exact R.r _ _) | (simp only [jM.len_sI, jM.len_sL, jM.len_sR, jM.len_fI, jM.len_fL, jM.len_fR]; omega) | (simp [jM.len_nw, jM.len_sI, jM.len_sL, jM.len_sR, jM.len_fI, jM.len_fL, jM.len_fR, *]; omega)) ?_
                                               exact mQ.of (by unfold sp_layer layV; (repeat (first | rw [if_pos (by omega)] | rw [if_neg (by omega)])))))
                                     rcases k85 with _ | _ | _ | k85
                                     · first
                                       | (exfalso; omega)
                                       | (first | refine J.aload_n (pc' := 113) rfl rfl rfl ?_ | refine J.aload_nN (pc' := 113) rfl rfl rfl ?_
                                          refine J.mgR (pc' := 116) (t := 139) B rfl fl_X12_94 rfl rfl (by decide) rfl ?_
                                          refine J.iload (pc' := 118) rfl rfl rfl ?_
                                          refine J.mald (pc' := 119) B rfl rfl rfl (by omega) (by simp only [jLn]; omega) rfl ?_
                                          refine J.iret rfl rfl (by first | omega | (exact R.r _ _) | (simp only [jM.len_sI, jM.len_sL, jM.len_sR, jM.len_fI, jM.len_fL, jM.len_fR]; omega) | (simp [jM.len_nw, jM.len_sI, jM.len_sL, jM.len_sR, jM.len_fI, jM.len_fL, jM.len_fR, *]; omega)) (by first | omega | (exact R.r _ _) | (simp only [jM.len_sI, jM.len_sL, jM.len_sR, jM.len_fI, jM.len_fL, jM.len_fR]; omega) | (simp [jM.len_nw, jM.len_sI, jM.len_sL, jM.len_sR, jM.len_fI, jM.len_fL, jM.len_fR, *]; omega)) ?_
                                          exact mQ.of (by unfold sp_layer layV; (repeat (first | rw [if_pos (by omega)] | rw [if_neg (by omega)]))))
                                     · first
                                       | (exfalso; omega)
                                       | (first | refine J.aload_n (pc' := 121) rfl rfl rfl ?_ | refine J.aload_nN (pc' := 121) rfl rfl rfl ?_
                                          refine J.mgR (pc' := 124) (t := 140) B rfl fl_X12_97 rfl rfl (by decide) rfl ?_
                                          refine J.iload (pc' := 126) rfl rfl rfl ?_
                                          refine J.mald (pc' := 127) B rfl rfl rfl (by omega) (by simp only [jLn]; omega) rfl ?_
                                          refine J.iret rfl rfl (by first | omega | (exact R.r _ _) | (simp only [jM.len_sI, jM.len_sL, jM.len_sR, jM.len_fI, jM.len_fL, jM.len_fR]; omega) | (simp [jM.len_nw, jM.len_sI, jM.len_sL, jM.len_sR, jM.len_fI, jM.len_fL, jM.len_fR, *]; omega)) (by first | omega | (exact R.r _ _) | (simp only [jM.len_sI, jM.len_sL, jM.len_sR, jM.len_fI, jM.len_fL, jM.len_fR]; omega) | (simp [jM.len_nw, jM.len_sI, jM.len_sL, jM.len_sR, jM.len_fI, jM.len_fL, jM.len_fR, *]; omega)) ?_
                                          exact mQ.of (by unfold sp_layer layV; (repeat (first | rw [if_pos (by omega)] | rw [if_neg (by omega)]))))
                                     · first
                                       | (exfalso; omega)
                                       | (first | refine J.aload_n (pc' := 129) rfl rfl rfl ?_ | refine J.aload_nN (pc' := 129) rfl rfl rfl ?_
                                          refine J.mgR (pc' := 132) (t := 141) B rfl fl_X12_100 rfl rfl (by decide) rfl ?_
                                          refine J.iload (pc' := 134) rfl rfl rfl ?_
                                          refine J.mald (pc' := 135) B rfl rfl rfl (by omega) (by simp only [jLn]; omega) rfl ?_
                                          refine J.iret rfl rfl (by first | omega | (exact R.r _ _) | (simp only [jM.len_sI, jM.len_sL, jM.len_sR, jM.len_fI, jM.len_fL, jM.len_fR]; omega) | (simp [jM.len_nw, jM.len_sI, jM.len_sL, jM.len_sR, jM.len_fI, jM.len_fL, jM.len_fR, *]; omega)) (by first | omega | (exact R.r _ _) | (simp only [jM.len_sI, jM.len_sL, jM.len_sR, jM.len_fI, jM.len_fL, jM.len_fR]; omega) | (simp [jM.len_nw, jM.len_sI, jM.len_sL, jM.len_sR, jM.len_fI, jM.len_fL, jM.len_fR, *]; omega)) ?_
                                          exact mQ.of (by unfold sp_layer layV; (repeat (first | rw [if_pos (by omega)] | rw [if_neg (by omega)]))))
                                     · omega)
                                · first
                                  | (exfalso; omega)
                                  | (refine J.iconst (pc' := 66) rfl rfl ?_
                                     refine J.iret rfl rfl (by first | omega | (exact R.r _ _) | (simp only [jM.len_sI, jM.len_sL, jM.len_sR, jM.len_fI, jM.len_fL, jM.len_fR]; omega) | (simp [jM.len_nw, jM.len_sI, jM.len_sL, jM.len_sR, jM.len_fI, jM.len_fL, jM.len_fR, *]; omega)) (by first | omega | (exact R.r _ _) | (simp only [jM.len_sI, jM.len_sL, jM.len_sR, jM.len_fI, jM.len_fL, jM.len_fR]; omega) | (simp [jM.len_nw, jM.len_sI, jM.len_sL, jM.len_sR, jM.len_fI, jM.len_fL, jM.len_fR, *]; omega)) ?_
                                     exact mQ.of (by unfold sp_layer layV; (repeat (first | rw [if_pos (by omega)] | rw [if_neg (by omega)])))))
                           · first
                             | (exfalso; omega)
                             | (refine J.iload_n (pc' := 48) rfl rfl rfl ?_
                                refine J.bipush (pc' := 50) rfl rfl (by decide) ?_
                                refine J.icmp_ge (tgt := 57) (pc' := 53) rfl rfl rfl (by first | omega | (exact R.r _ _) | (simp only [jM.len_sI, jM.len_sL, jM.len_sR, jM.len_fI, jM.len_fL, jM.len_fR]; omega) | (simp [jM.len_nw, jM.len_sI, jM.len_sL, jM.len_sR, jM.len_fI, jM.len_fL, jM.len_fR, *]; omega)) (by first | omega | (exact R.r _ _) | (simp only [jM.len_sI, jM.len_sL, jM.len_sR, jM.len_fI, jM.len_fL, jM.len_fR]; omega) | (simp [jM.len_nw, jM.len_sI, jM.len_sL, jM.len_sR, jM.len_fI, jM.len_fL, jM.len_fR, *]; omega)) (fun c50 => ?_) (fun c50 => ?_)
                                · first
                                  | (exfalso; omega)
                                  | (refine J.iconst (pc' := 58) rfl rfl ?_
                                     refine J.iconst (pc' := 59) rfl rfl ?_
                                     first | refine J.callV (pc' := 62) (t := 16) rfl MX12_may ml_X12_161 iv_X12_may (by decide) ⟨_, rfl, rfl⟩ B.1 (cm_may1 B h0) rfl rfl (Nat.le_of_ble_eq_true rfl) (by first | omega | (exact R.r _ _) | (simp only [jM.len_sI, jM.len_sL, jM.len_sR, jM.len_fI, jM.len_fL, jM.len_fR]; omega) | (simp [jM.len_nw, jM.len_sI, jM.len_sL, jM.len_sR, jM.len_fI, jM.len_fL, jM.len_fR, *]; omega)) (by first | omega | (exact R.r _ _) | (simp only [jM.len_sI, jM.len_sL, jM.len_sR, jM.len_fI, jM.len_fL, jM.len_fR]; omega) | (simp [jM.len_nw, jM.len_sI, jM.len_sL, jM.len_sR, jM.len_fI, jM.len_fL, jM.len_fR, *]; omega)) (by first | omega | (exact R.r _ _) | (simp only [jM.len_sI, jM.len_sL, jM.len_sR, jM.len_fI, jM.len_fL, jM.len_fR]; omega) | (simp [jM.len_nw, jM.len_sI, jM.len_sL, jM.len_sR, jM.len_fI, jM.len_fL, jM.len_fR, *]; omega)) rfl rfl ?_ ?_ | refine J.callV (pc' := 62) (t := 16) rfl MX12_may ml_X12_161 iv_X12_may (by decide) ⟨_, rfl, rfl⟩ B.1 (cm_may0 B h0 (by omega)) rfl rfl (Nat.le_of_ble_eq_true rfl) (by first | omega | (exact R.r _ _) | (simp only [jM.len_sI, jM.len_sL, jM.len_sR, jM.len_fI, jM.len_fL, jM.len_fR]; omega) | (simp [jM.len_nw, jM.len_sI, jM.len_sL, jM.len_sR, jM.len_fI, jM.len_fL, jM.len_fR, *]; omega)) (by first | omega | (exact R.r _ _) | (simp only [jM.len_sI, jM.len_sL, jM.len_sR, jM.len_fI, jM.len_fL, jM.len_fR]; omega) | (simp [jM.len_nw, jM.len_sI, jM.len_sL, jM.len_sR, jM.len_fI, jM.len_fL, jM.len_fR, *]; omega)) (by first | omega | (exact R.r _ _) | (simp only [jM.len_sI, jM.len_sL, jM.len_sR, jM.len_fI, jM.len_fL, jM.len_fR]; omega) | (simp [jM.len_nw, jM.len_sI, jM.len_sL, jM.len_sR, jM.len_fI, jM.len_fL, jM.len_fR, *]; omega)) rfl rfl ?_ ?_
                                     · exact fun _ _ h => h
                                     rintro _ _ ⟨rfl, rfl⟩
                                     refine J.if_ne (tgt := 67) (pc' := 65) rfl rfl rfl (by first | omega | (exact R.r _ _) | (simp only [jM.len_sI, jM.len_sL, jM.len_sR, jM.len_fI, jM.len_fL, jM.len_fR]; omega) | (simp [jM.len_nw, jM.len_sI, jM.len_sL, jM.len_sR, jM.len_fI, jM.len_fL, jM.len_fR, *]; omega)) (fun c62 => ?_) (fun c62 => ?_)
                                     · first
                                       | (exfalso; omega)
                                       | (refine J.bipush (pc' := 69) rfl rfl (by decide) ?_
                                          refine J.iload_n (pc' := 70) rfl rfl rfl ?_
                                          refine J.imul (pc' := 71) rfl rfl ?_
                                          first | refine J.aload_n (pc' := 72) rfl rfl rfl ?_ | refine J.aload_nN (pc' := 72) rfl rfl rfl ?_
                                          refine J.mgR (pc' := 75) (t := 138) B rfl fl_X12_91 rfl rfl (by decide) rfl ?_
                                          refine J.iload_n (pc' := 76) rfl rfl rfl ?_
                                          refine J.mald (pc' := 77) B rfl rfl rfl (by omega) (by simp only [jLn]; omega) rfl ?_
                                          refine J.iadd (pc' := 78) rfl rfl ?_
                                          refine J.iconst (pc' := 79) rfl rfl ?_
                                          refine J.isub (pc' := 80) rfl rfl ?_
                                          refine J.iload_n (pc' := 81) rfl rfl rfl ?_
                                          refine J.isub (pc' := 82) rfl rfl ?_
                                          refine J.istore (pc' := 84) rfl rfl (by decide) ?_
                                          refine J.iload_n (pc' := 85) rfl rfl rfl ?_
                                          refine J.tsw (tgt := 136) (n := 3) (T := jNth [112, 120, 128]) rfl (by first | omega | (exact R.r _ _) | (simp only [jM.len_sI, jM.len_sL, jM.len_sR, jM.len_fI, jM.len_fL, jM.len_fR]; omega) | (simp [jM.len_nw, jM.len_sI, jM.len_sL, jM.len_sR, jM.len_fI, jM.len_fL, jM.len_fR, *]; omega)) rfl rfl (fun k hk => by rcases k with _ | _ | _ | k <;> first | exact ⟨_, rfl, rfl⟩ | omega) (fun c85 => ?_) (fun k85 hk85 c85 => ?_)
                                          · first
                                            | (exfalso; omega)
                                            | (refine J.iload_n (pc' := 137) rfl rfl rfl ?_
                                               refine J.iconst (pc' := 138) rfl rfl ?_
                                               refine J.irem (pc' := 139) rfl rfl (by first | omega | (exact R.r _ _) | (simp only [jM.len_sI, jM.len_sL, jM.len_sR, jM.len_fI, jM.len_fL, jM.len_fR]; omega) | (simp [jM.len_nw, jM.len_sI, jM.len_sL, jM.len_sR, jM.len_fI, jM.len_fL, jM.len_fR, *]; omega)) (by first | omega | (exact R.r _ _) | (simp only [jM.len_sI, jM.len_sL, jM.len_sR, jM.len_fI, jM.len_fL, jM.len_fR]; omega) | (simp [jM.len_nw, jM.len_sI, jM.len_sL, jM.len_sR, jM.len_fI, jM.len_fL, jM.len_fR, *]; omega)) (by first | omega | (exact R.r _ _) | (simp only [jM.len_sI, jM.len_sL, jM.len_sR, jM.len_fI, jM.len_fL, jM.len_fR]; omega) | (simp [jM.len_nw, jM.len_sI, jM.len_sL, jM.len_sR, jM.len_fI, jM.len_fL, jM.len_fR, *]; omega)) ?_
                                               rw [Int.tmod_eq_emod_of_nonneg (by omega)]
                                               refine J.iconst (pc' := 140) rfl rfl ?_
                                               refine J.icmp_ne (tgt := 157) (pc' := 143) rfl rfl rfl (by first | omega | (exact R.r _ _) | (simp only [jM.len_sI, jM.len_sL, jM.len_sR, jM.len_fI, jM.len_fL, jM.len_fR]; omega) | (simp [jM.len_nw, jM.len_sI, jM.len_sL, jM.len_sR, jM.len_fI, jM.len_fL, jM.len_fR, *]; omega)) (by first | omega | (exact R.r _ _) | (simp only [jM.len_sI, jM.len_sL, jM.len_sR, jM.len_fI, jM.len_fL, jM.len_fR]; omega) | (simp [jM.len_nw, jM.len_sI, jM.len_sL, jM.len_sR, jM.len_fI, jM.len_fL, jM.len_fR, *]; omega)) (fun c140 => ?_) (fun c140 => ?_)
                                               · first
                                                 | (exfalso; omega)
                                                 | (first | refine J.aload_n (pc' := 158) rfl rfl rfl ?_ | refine J.aload_nN (pc' := 158) rfl rfl rfl ?_
                                                    refine J.iload (pc' := 160) rfl rfl rfl ?_
                                                    refine J.iload_n (pc' := 161) rfl rfl rfl ?_
                                                    refine J.iconst (pc' := 162) rfl rfl ?_
                                                    refine J.isub (pc' := 163) rfl rfl ?_
                                                    refine J.iconst (pc' := 164) rfl rfl ?_
                                                    refine J.idiv (pc' := 165) rfl rfl (by first | omega | (exact R.r _ _) | (simp only [jM.len_sI, jM.len_sL, jM.len_sR, jM.len_fI, jM.len_fL, jM.len_fR]; omega) | (simp [jM.len_nw, jM.len_sI, jM.len_sL, jM.len_sR, jM.len_fI, jM.len_fL, jM.len_fR, *]; omega)) (by first | omega | (exact R.r _ _) | (simp only [jM.len_sI, jM.len_sL, jM.len_sR, jM.len_fI, jM.len_fL, jM.len_fR]; omega) | (simp [jM.len_nw, jM.len_sI, jM.len_sL, jM.len_sR, jM.len_fI, jM.len_fL, jM.len_fR, *]; omega)) (by first | omega | (exact R.r _ _) | (simp only [jM.len_sI, jM.len_sL, jM.len_sR, jM.len_fI, jM.len_fL, jM.len_fR]; omega) | (simp [jM.len_nw, jM.len_sI, jM.len_sL, jM.len_sR, jM.len_fI, jM.len_fL, jM.len_fR, *]; omega)) ?_
                                                    rw [Int.tdiv_eq_ediv_of_nonneg (by omega)]
                                                    refine J.callV (pc' := 168) (t := 16) rfl MX12_highOfLayer ml_X12_307 iv_X12_highOfLayer (by decide) ⟨_, rfl, rfl⟩ B.1 (cm_highL B R (by omega) (by omega)) rfl rfl (Nat.le_of_ble_eq_true rfl) (by first | omega | (exact R.r _ _) | (simp only [jM.len_sI, jM.len_sL, jM.len_sR, jM.len_fI, jM.len_fL, jM.len_fR]; omega) | (simp [jM.len_nw, jM.len_sI, jM.len_sL, jM.len_sR, jM.len_fI, jM.len_fL, jM.len_fR, *]; omega)) (by first | omega | (exact R.r _ _) | (simp only [jM.len_sI, jM.len_sL, jM.len_sR, jM.len_fI, jM.len_fL, jM.len_fR]; omega) | (simp [jM.len_nw, jM.len_sI, jM.len_sL, jM.len_sR, jM.len_fI, jM.len_fL, jM.len_fR, *]; omega)) (by first | omega | (exact R.r _ _) | (simp only [jM.len_sI, jM.len_sL, jM.len_sR, jM.len_fI, jM.len_fL, jM.len_fR]; omega) | (simp [jM.len_nw, jM.len_sI, jM.len_sL, jM.len_sR, jM.len_fI, jM.len_fL, jM.len_fR, *]; omega)) rfl rfl ?_ ?_
                                                    · exact fun _ _ h => h
                                                    rintro _ _ ⟨rfl, rfl⟩
                                                    refine J.iret rfl rfl (by first | omega | (exact R.r _ _) | (simp only [jM.len_sI, jM.len_sL, jM.len_sR, jM.len_fI, jM.len_fL, jM.len_fR]; omega) | (simp [jM.len_nw, jM.len_sI, jM.len_sL, jM.len_sR, jM.len_fI, jM.len_fL, jM.len_fR, *]; omega)) (by first | omega | (exact R.r _ _) | (simp only [jM.len_sI, jM.len_sL, jM.len_sR, jM.len_fI, jM.len_fL, jM.len_fR]; omega) | (simp [jM.len_nw, jM.len_sI, jM.len_sL, jM.len_sR, jM.len_fI, jM.len_fL, jM.len_fR, *]; omega)) ?_
                                                    exact mQ.of (by unfold sp_layer layV; (repeat (first | rw [if_pos (by omega)] | rw [if_neg (by omega)]))))
                                               · first
                                                 | (exfalso; omega)
                                                 | (first | refine J.aload_n (pc' := 144) rfl rfl rfl ?_ | refine J.aload_nN (pc' := 144) rfl rfl rfl ?_
                                                    refine J.iload (pc' := 146) rfl rfl rfl ?_
                                                    refine J.iload_n (pc' := 147) rfl rfl rfl ?_
                                                    refine J.iconst (pc' := 148) rfl rfl ?_
                                                    refine J.isub (pc' := 149) rfl rfl ?_
                                                    refine J.iconst (pc' := 150) rfl rfl ?_
                                                    refine J.idiv (pc' := 151) rfl rfl (by first | omega | (exact R.r _ _) | (simp only [jM.len_sI, jM.len_sL, jM.len_sR, jM.len_fI, jM.len_fL, jM.len_fR]; omega) | (simp [jM.len_nw, jM.len_sI, jM.len_sL, jM.len_sR, jM.len_fI, jM.len_fL, jM.len_fR, *]; omega)) (by first | omega | (exact R.r _ _) | (simp only [jM.len_sI, jM.len_sL, jM.len_sR, jM.len_fI, jM.len_fL, jM.len_fR]; omega) | (simp [jM.len_nw, jM.len_sI, jM.len_sL, jM.len_sR, jM.len_fI, jM.len_fL, jM.len_fR, *]; omega)) (by first | omega | (exact R.r _ _) | (simp only [jM.len_sI, jM.len_sL, jM.len_sR, jM.len_fI, jM.len_fL, jM.len_fR]; omega) | (simp [jM.len_nw, jM.len_sI, jM.len_sL, jM.len_sR, jM.len_fI, jM.len_fL, jM.len_fR, *]; omega)) ?_
                                                    rw [Int.tdiv_eq_ediv_of_nonneg (by omega)]
                                                    refine J.callV (pc' := 154) (t := 16) rfl MX12_lowOfLayer ml_X12_304 iv_X12_lowOfLayer (by decide) ⟨_, rfl, rfl⟩ B.1 (cm_lowL B R (by omega) (by omega)) rfl rfl (Nat.le_of_ble_eq_true rfl) (by first | omega | (exact R.r _ _) | (simp only [jM.len_sI, jM.len_sL, jM.len_sR, jM.len_fI, jM.len_fL, jM.len_fR]; omega) | (simp [jM.len_nw, jM.len_sI, jM.len_sL, jM.len_sR, jM.len_fI, jM.len_fL, jM.len_fR, *]; omega)) (by first | omega | (exact R.r _ _) | (simp only [jM.len_sI, jM.len_sL, jM.len_sR, jM.len_fI, jM.len_fL, jM.len_fR]; omega) | (simp [jM.len_nw, jM.len_sI, jM.len_sL, jM.len_sR, jM.len_fI, jM.len_fL, jM.len_fR, *]; omega)) (by first | omega | (exact R.r _ _) | (simp only [jM.len_sI, jM.len_sL, jM.len_sR, jM.len_fI, jM.len_fL, jM.len_fR]; omega) | (simp [jM.len_nw, jM.len_sI, jM.len_sL, jM.len_sR, jM.len_fI, jM.len_fL, jM.len_fR, *]; omega)) rfl rfl ?_ ?_
                                                    · exact fun _ _ h => h
                                                    rintro _ _ ⟨rfl, rfl⟩
                                                    refine J.goto (tgt := 168) rfl rfl ?_
                                                    refine J.iret rfl rfl (by first | omega | (exact R.r _ _) | (simp only [jM.len_sI, jM.len_sL, jM.len_sR, jM.len_fI, jM.len_fL, jM.len_fR]; omega) | (simp [jM.len_nw, jM.len_sI, jM.len_sL, jM.len_sR, jM.len_fI, jM.len_fL, jM.len_fR, *]; omega)) (by first | omega | (exact R.r _ _) | (simp only [jM.len_sI, jM.len_sL, jM.len_sR, jM.len_fI, jM.len_fL, jM.len_fR]; omega) | (simp [jM.len_nw, jM.len_sI, jM.len_sL, jM.len_sR, jM.len_fI, jM.len_fL, jM.len_fR, *]; omega)) ?_
                                                    exact mQ.of (by unfold sp_layer layV; (repeat (first | rw [if_pos (by omega)] | rw [if_neg (by omega)])))))
                                          rcases k85 with _ | _ | _ | k85
                                          · first
                                            | (exfalso; omega)
                                            | (first | refine J.aload_n (pc' := 113) rfl rfl rfl ?_ | refine J.aload_nN (pc' := 113) rfl rfl rfl ?_
                                               refine J.mgR (pc' := 116) (t := 139) B rfl fl_X12_94 rfl rfl (by decide) rfl ?_
                                               refine J.iload (pc' := 118) rfl rfl rfl ?_
                                               refine J.mald (pc' := 119) B rfl rfl rfl (by omega) (by simp only [jLn]; omega) rfl ?_
                                               refine J.iret rfl rfl (by first | omega | (exact R.r _ _) | (simp only [jM.len_sI, jM.len_sL, jM.len_sR, jM.len_fI, jM.len_fL, jM.len_fR]; omega) | (simp [jM.len_nw, jM.len_sI, jM.len_sL, jM.len_sR, jM.len_fI, jM.len_fL, jM.len_fR, *]; omega)) (by first | omega | (exact R.r _ _) | (simp only [jM.len_sI, jM.len_sL, jM.len_sR, jM.len_fI, jM.len_fL, jM.len_fR]; omega) | (simp [jM.len_nw, jM.len_sI, jM.len_sL, jM.len_sR, jM.len_fI, jM.len_fL, jM.len_fR, *]; omega)) ?_
                                               exact mQ.of (by unfold sp_layer layV; (repeat (first | rw [if_pos (by omega)] | rw [if_neg (by omega)]))))
                                          · first
                                            | (exfalso; omega)
                                            | (first | refine J.aload_n (pc' := 121) rfl rfl rfl ?_ | refine J.aload_nN (pc' := 121) rfl rfl rfl ?_
                                               refine J.mgR (pc' := 124) (t := 140) B rfl fl_X12_97 rfl rfl (by decide) rfl ?_
                                               refine J.iload (pc' := 126) rfl rfl rfl ?_
                                               refine J.mald (pc' := 127) B rfl rfl rfl (by omega) (by simp only [jLn]; omega) rfl ?_
                                               refine J.iret rfl rfl (by first | omega | (exact R.r _ _) | (simp only [jM.len_sI, jM.len_sL, jM.len_sR, jM.len_fI, jM.len_fL, jM.len_fR]; omega) | (simp [jM.len_nw, jM.len_sI, jM.len_sL, jM.len_sR, jM.len_fI, jM.len_fL, jM.len_fR, *]; omega)) (by first | omega | (exact R.r _ _) | (simp only [jM.len_sI, jM.len_sL, jM.len_sR, jM.len_fI, jM.len_fL, jM.len_fR]; omega) | (simp [jM.len_nw, jM.len_sI, jM.len_sL, jM.len_sR, jM.len_fI, jM.len_fL, jM.len_fR, *]; omega)) ?_
                                               exact mQ.of (by unfold sp_layer layV; (repeat (first | rw [if_pos (by omega)] | rw [if_neg (by omega)]))))
                                          · first
                                            | (exfalso; omega)
                                            | (first | refine J.aload_n (pc' := 129) rfl rfl rfl ?_ | refine J.aload_nN (pc' := 129) rfl rfl rfl ?_
                                               refine J.mgR (pc' := 132) (t := 141) B rfl fl_X12_100 rfl rfl (by decide) rfl ?_
                                               refine J.iload (pc' := 134) rfl rfl rfl ?_
                                               refine J.mald (pc' := 135) B rfl rfl rfl (by omega) (by simp only [jLn]; omega) rfl ?_
                                               refine J.iret rfl rfl (by first | omega | (exact R.r _ _) | (simp only [jM.len_sI, jM.len_sL, jM.len_sR, jM.len_fI, jM.len_fL, jM.len_fR]; omega) | (simp [jM.len_nw, jM.len_sI, jM.len_sL, jM.len_sR, jM.len_fI, jM.len_fL, jM.len_fR, *]; omega)) (by first | omega | (exact R.r _ _) | (simp only [jM.len_sI, jM.len_sL, jM.len_sR, jM.len_fI, jM.len_fL, jM.len_fR]; omega) | (simp [jM.len_nw, jM.len_sI, jM.len_sL, jM.len_sR, jM.len_fI, jM.len_fL, jM.len_fR, *]; omega)) ?_
                                               exact mQ.of (by unfold sp_layer layV; (repeat (first | rw [if_pos (by omega)] | rw [if_neg (by omega)]))))
                                          · omega)
                                     · first
                                       | (exfalso; omega)
                                       | (refine J.iconst (pc' := 66) rfl rfl ?_
                                          refine J.iret rfl rfl (by first | omega | (exact R.r _ _) | (simp only [jM.len_sI, jM.len_sL, jM.len_sR, jM.len_fI, jM.len_fL, jM.len_fR]; omega) | (simp [jM.len_nw, jM.len_sI, jM.len_sL, jM.len_sR, jM.len_fI, jM.len_fL, jM.len_fR, *]; omega)) (by first | omega | (exact R.r _ _) | (simp only [jM.len_sI, jM.len_sL, jM.len_sR, jM.len_fI, jM.len_fL, jM.len_fR]; omega) | (simp [jM.len_nw, jM.len_sI, jM.len_sL, jM.len_sR, jM.len_fI, jM.len_fL, jM.len_fR, *]; omega)) ?_
                                          exact mQ.of (by unfold sp_layer layV; (repeat (first | rw [if_pos (by omega)] | rw [if_neg (by omega)])))))
                                · first
                                  | (exfalso; omega)
                                  | (refine J.iconst (pc' := 54) rfl rfl ?_
                                     refine J.goto (tgt := 58) rfl rfl ?_
                                     refine J.iconst (pc' := 59) rfl rfl ?_
                                     first | refine J.callV (pc' := 62) (t := 16) rfl MX12_may ml_X12_161 iv_X12_may (by decide) ⟨_, rfl, rfl⟩ B.1 (cm_may1 B h0) rfl rfl (Nat.le_of_ble_eq_true rfl) (by first | omega | (exact R.r _ _) | (simp only [jM.len_sI, jM.len_sL, jM.len_sR, jM.len_fI, jM.len_fL, jM.len_fR]; omega) | (simp [jM.len_nw, jM.len_sI, jM.len_sL, jM.len_sR, jM.len_fI, jM.len_fL, jM.len_fR, *]; omega)) (by first | omega | (exact R.r _ _) | (simp only [jM.len_sI, jM.len_sL, jM.len_sR, jM.len_fI, jM.len_fL, jM.len_fR]; omega) | (simp [jM.len_nw, jM.len_sI, jM.len_sL, jM.len_sR, jM.len_fI, jM.len_fL, jM.len_fR, *]; omega)) (by first | omega | (exact R.r _ _) | (simp only [jM.len_sI, jM.len_sL, jM.len_sR, jM.len_fI, jM.len_fL, jM.len_fR]; omega) | (simp [jM.len_nw, jM.len_sI, jM.len_sL, jM.len_sR, jM.len_fI, jM.len_fL, jM.len_fR, *]; omega)) rfl rfl ?_ ?_ | refine J.callV (pc' := 62) (t := 16) rfl MX12_may ml_X12_161 iv_X12_may (by decide) ⟨_, rfl, rfl⟩ B.1 (cm_may0 B h0 (by omega)) rfl rfl (Nat.le_of_ble_eq_true rfl) (by first | omega | (exact R.r _ _) | (simp only [jM.len_sI, jM.len_sL, jM.len_sR, jM.len_fI, jM.len_fL, jM.len_fR]; omega) | (simp [jM.len_nw, jM.len_sI, jM.len_sL, jM.len_sR, jM.len_fI, jM.len_fL, jM.len_fR, *]; omega)) (by first | omega | (exact R.r _ _) | (simp only [jM.len_sI, jM.len_sL, jM.len_sR, jM.len_fI, jM.len_fL, jM.len_fR]; omega) | (simp [jM.len_nw, jM.len_sI, jM.len_sL, jM.len_sR, jM.len_fI, jM.len_fL, jM.len_fR, *]; omega)) (by first | omega | (exact R.r _ _) | (simp only [jM.len_sI, jM.len_sL, jM.len_sR, jM.len_fI, jM.len_fL, jM.len_fR]; omega) | (simp [jM.len_nw, jM.len_sI, jM.len_sL, jM.len_sR, jM.len_fI, jM.len_fL, jM.len_fR, *]; omega)) rfl rfl ?_ ?_
                                     · exact fun _ _ h => h
                                     rintro _ _ ⟨rfl, rfl⟩
                                     refine J.if_ne (tgt := 67) (pc' := 65) rfl rfl rfl (by first | omega | (exact R.r _ _) | (simp only [jM.len_sI, jM.len_sL, jM.len_sR, jM.len_fI, jM.len_fL, jM.len_fR]; omega) | (simp [jM.len_nw, jM.len_sI, jM.len_sL, jM.len_sR, jM.len_fI, jM.len_fL, jM.len_fR, *]; omega)) (fun c62 => ?_) (fun c62 => ?_)
                                     · first
                                       | (exfalso; omega)
                                       | (refine J.bipush (pc' := 69) rfl rfl (by decide) ?_
                                          refine J.iload_n (pc' := 70) rfl rfl rfl ?_
                                          refine J.imul (pc' := 71) rfl rfl ?_
                                          first | refine J.aload_n (pc' := 72) rfl rfl rfl ?_ | refine J.aload_nN (pc' := 72) rfl rfl rfl ?_
                                          refine J.mgR (pc' := 75) (t := 138) B rfl fl_X12_91 rfl rfl (by decide) rfl ?_
                                          refine J.iload_n (pc' := 76) rfl rfl rfl ?_
                                          refine J.mald (pc' := 77) B rfl rfl rfl (by omega) (by simp only [jLn]; omega) rfl ?_
                                          refine J.iadd (pc' := 78) rfl rfl ?_
                                          refine J.iconst (pc' := 79) rfl rfl ?_
                                          refine J.isub (pc' := 80) rfl rfl ?_
                                          refine J.iload_n (pc' := 81) rfl rfl rfl ?_
                                          refine J.isub (pc' := 82) rfl rfl ?_
                                          refine J.istore (pc' := 84) rfl rfl (by decide) ?_
                                          refine J.iload_n (pc' := 85) rfl rfl rfl ?_
                                          refine J.tsw (tgt := 136) (n := 3) (T := jNth [112, 120, 128]) rfl (by first | omega | (exact R.r _ _) | (simp only [jM.len_sI, jM.len_sL, jM.len_sR, jM.len_fI, jM.len_fL, jM.len_fR]; omega) | (simp [jM.len_nw, jM.len_sI, jM.len_sL, jM.len_sR, jM.len_fI, jM.len_fL, jM.len_fR, *]; omega)) rfl rfl (fun k hk => by rcases k with _ | _ | _ | k <;> first | exact ⟨_, rfl, rfl⟩ | omega) (fun c85 => ?_) (fun k85 hk85 c85 => ?_)
                                          · first
                                            | (exfalso; omega)
                                            | (refine J.iload_n (pc' := 137) rfl rfl rfl ?_
                                               refine J.iconst (pc' := 138) rfl rfl ?_
                                               refine J.irem (pc' := 139) rfl rfl (by first | omega | (exact R.r _ _) | (simp only [jM.len_sI, jM.len_sL, jM.len_sR, jM.len_fI, jM.len_fL, jM.len_fR]; omega) | (simp [jM.len_nw, jM.len_sI, jM.len_sL, jM.len_sR, jM.len_fI, jM.len_fL, jM.len_fR, *]; omega)) (by first | omega | (exact R.r _ _) | (simp only [jM.len_sI, jM.len_sL, jM.len_sR, jM.len_fI, jM.len_fL, jM.len_fR]; omega) | (simp [jM.len_nw, jM.len_sI, jM.len_sL, jM.len_sR, jM.len_fI, jM.len_fL, jM.len_fR, *]; omega)) (by first | omega | (exact R.r _ _) | (simp only [jM.len_sI, jM.len_sL, jM.len_sR, jM.len_fI, jM.len_fL, jM.len_fR]; omega) | (simp [jM.len_nw, jM.len_sI, jM.len_sL, jM.len_sR, jM.len_fI, jM.len_fL, jM.len_fR, *]; omega)) ?_
                                               rw [Int.tmod_eq_emod_of_nonneg (by omega)]
                                               refine J.iconst (pc' := 140) rfl rfl ?_
                                               refine J.icmp_ne (tgt := 157) (pc' := 143) rfl rfl rfl (by first | omega | (exact R.r _ _) | (simp only [jM.len_sI, jM.len_sL, jM.len_sR, jM.len_fI, jM.len_fL, jM.len_fR]; omega) | (simp [jM.len_nw, jM.len_sI, jM.len_sL, jM.len_sR, jM.len_fI, jM.len_fL, jM.len_fR, *]; omega)) (by first | omega | (exact R.r _ _) | (simp only [jM.len_sI, jM.len_sL, jM.len_sR, jM.len_fI, jM.len_fL, jM.len_fR]; omega) | (simp [jM.len_nw, jM.len_sI, jM.len_sL, jM.len_sR, jM.len_fI, jM.len_fL, jM.len_fR, *]; omega)) (fun c140 => ?_) (fun c140 => ?_)
                                               · first
                                                 | (exfalso; omega)
                                                 | (first | refine J.aload_n (pc' := 158) rfl rfl rfl ?_ | refine J.aload_nN (pc' := 158) rfl rfl rfl ?_
                                                    refine J.iload (pc' := 160) rfl rfl rfl ?_
                                                    refine J.iload_n (pc' := 161) rfl rfl rfl ?_
                                                    refine J.iconst (pc' := 162) rfl rfl ?_
                                                    refine J.isub (pc' := 163) rfl rfl ?_
                                                    refine J.iconst (pc' := 164) rfl rfl ?_
                                                    refine J.idiv (pc' := 165) rfl rfl (by first | omega | (exact R.r _ _) | (simp only [jM.len_sI, jM.len_sL, jM.len_sR, jM.len_fI, jM.len_fL, jM.len_fR]; omega) | (simp [jM.len_nw, jM.len_sI, jM.len_sL, jM.len_sR, jM.len_fI, jM.len_fL, jM.len_fR, *]; omega)) (by first | omega | (exact R.r _ _) | (simp only [jM.len_sI, jM.len_sL, jM.len_sR, jM.len_fI, jM.len_fL, jM.len_fR]; omega) | (simp [jM.len_nw, jM.len_sI, jM.len_sL, jM.len_sR, jM.len_fI, jM.len_fL, jM.len_fR, *]; omega)) (by first | omega | (exact R.r _ _) | (simp only [jM.len_sI, jM.len_sL, jM.len_sR, jM.len_fI, jM.len_fL, jM.len_fR]; omega) | (simp [jM.len_nw, jM.len_sI, jM.len_sL, jM.len_sR, jM.len_fI, jM.len_fL, jM.len_fR, *]; omega)) ?_
                                                    rw [Int.tdiv_eq_ediv_of_nonneg (by omega)]
                                                    refine J.callV (pc' := 168) (t := 16) rfl MX12_highOfLayer ml_X12_307 iv_X12_highOfLayer (by decide) ⟨_, rfl, rfl⟩ B.1 (cm_highL B R (by omega) (by omega)) rfl rfl (Nat.le_of_ble_eq_true rfl) (by first | omega | (exact R.r _ _) | (simp only [jM.len_sI, jM.len_sL, jM.len_sR, jM.len_fI, jM.len_fL, jM.len_fR]; omega) | (simp [jM.len_nw, jM.len_sI, jM.len_sL, jM.len_sR, jM.len_fI, jM.len_fL, jM.len_fR, *]; omega)) (by first | omega | (exact R.r _ _) | (simp only [jM.len_sI, jM.len_sL, jM.len_sR, jM.len_fI, jM.len_fL, jM.len_fR]; omega) | (simp [jM.len_nw, jM.len_sI, jM.len_sL, jM.len_sR, jM.len_fI, jM.len_fL, jM.len_fR, *]; omega)) (by first | omega | (exact R.r _ _) | (simp only [jM.len_sI, jM.len_sL, jM.len_sR, jM.len_fI, jM.len_fL, jM.len_fR]; omega) | (simp [jM.len_nw, jM.len_sI, jM.len_sL, jM.len_sR, jM.len_fI, jM.len_fL, jM.len_fR, *]; omega)) rfl rfl ?_ ?_
                                                    · exact fun _ _ h => h
                                                    rintro _ _ ⟨rfl, rfl⟩
                                                    refine J.iret rfl rfl (by first | omega | (exact R.r _ _) | (simp only [jM.len_sI, jM.len_sL, jM.len_sR, jM.len_fI, jM.len_fL, jM.len_fR]; omega) | (simp [jM.len_nw, jM.len_sI, jM.len_sL, jM.len_sR, jM.len_fI, jM.len_fL, jM.len_fR, *]; omega)) (by first | omega | (exact R.r _ _) | (simp only [jM.len_sI, jM.len_sL, jM.len_sR, jM.len_fI, jM.len_fL, jM.len_fR]; omega) | (simp [jM.len_nw, jM.len_sI, jM.len_sL, jM.len_sR, jM.len_fI, jM.len_fL, jM.len_fR, *]; omega)) ?_
                                                    exact mQ.of (by unfold sp_layer layV; (repeat (first | rw [if_pos (by omega)] | rw [if_neg (by omega)]))))
                                               · first
                                                 | (exfalso; omega)
                                                 | (first | refine J.aload_n (pc' := 144) rfl rfl rfl ?_ | refine J.aload_nN (pc' := 144) rfl rfl rfl ?_
                                                    refine J.iload (pc' := 146) rfl rfl rfl ?_
                                                    refine J.iload_n (pc' := 147) rfl rfl rfl ?_
                                                    refine J.iconst (pc' := 148) rfl rfl ?_
                                                    refine J.isub (pc' := 149) rfl rfl ?_
                                                    refine J.iconst (pc' := 150) rfl rfl ?_
                                                    refine J.idiv (pc' := 151) rfl rfl (by first | omega | (exact R.r _ _) | (simp only [jM.len_sI, jM.len_sL, jM.len_sR, jM.len_fI, jM.len_fL, jM.len_fR]; omega) | (simp [jM.len_nw, jM.len_sI, jM.len_sL, jM.len_sR, jM.len_fI, jM.len_fL, jM.len_fR, *]; omega)) (by first | omega | (exact R.r _ _) | (simp only [jM.len_sI, jM.len_sL, jM.len_sR, jM.len_fI, jM.len_fL, jM.len_fR]; omega) | (simp [jM.len_nw, jM.len_sI, jM.len_sL, jM.len_sR, jM.len_fI, jM.len_fL, jM.len_fR, *]; omega)) (by first | omega | (exact R.r _ _) | (simp only [jM.len_sI, jM.len_sL, jM.len_sR, jM.len_fI, jM.len_fL, jM.len_fR]; omega) | (simp [jM.len_nw, jM.len_sI, jM.len_sL, jM.len_sR, jM.len_fI, jM.len_fL, jM.len_fR, *]; omega)) ?_
                                                    rw [Int.tdiv_eq_ediv_of_nonneg (by omega)]
                                                    refine J.callV (pc' := 154) (t := 16) rfl MX12_lowOfLayer ml_X12_304 iv_X12_lowOfLayer (by decide) ⟨_, rfl, rfl⟩ B.1 (cm_lowL B R (by omega) (by omega)) rfl rfl (Nat.le_of_ble_eq_true rfl) (by first | omega | (exact R.r _ _) | (simp only [jM.len_sI, jM.len_sL, jM.len_sR, jM.len_fI, jM.len_fL, jM.len_fR]; omega) | (simp [jM.len_nw, jM.len_sI, jM.len_sL, jM.len_sR, jM.len_fI, jM.len_fL, jM.len_fR, *]; omega)) (by first | omega | (exact R.r _ _) | (simp only [jM.len_sI, jM.len_sL, jM.len_sR, jM.len_fI, jM.len_fL, jM.len_fR]; omega) | (simp [jM.len_nw, jM.len_sI, jM.len_sL, jM.len_sR, jM.len_fI, jM.len_fL, jM.len_fR, *]; omega)) (by first | omega | (exact R.r _ _) | (simp only [jM.len_sI, jM.len_sL, jM.len_sR, jM.len_fI, jM.len_fL, jM.len_fR]; omega) | (simp [jM.len_nw, jM.len_sI, jM.len_sL, jM.len_sR, jM.len_fI, jM.len_fL, jM.len_fR, *]; omega)) rfl rfl ?_ ?_
                                                    · exact fun _ _ h => h
                                                    rintro _ _ ⟨rfl, rfl⟩
                                                    refine J.goto (tgt := 168) rfl rfl ?_
                                                    refine J.iret rfl rfl (by first | omega | (exact R.r _ _) | (simp only [jM.len_sI, jM.len_sL, jM.len_sR, jM.len_fI, jM.len_fL, jM.len_fR]; omega) | (simp [jM.len_nw, jM.len_sI, jM.len_sL, jM.len_sR, jM.len_fI, jM.len_fL, jM.len_fR, *]; omega)) (by first | omega | (exact R.r _ _) | (simp only [jM.len_sI, jM.len_sL, jM.len_sR, jM.len_fI, jM.len_fL, jM.len_fR]; omega) | (simp [jM.len_nw, jM.len_sI, jM.len_sL, jM.len_sR, jM.len_fI, jM.len_fL, jM.len_fR, *]; omega)) ?_
                                                    exact mQ.of (by unfold sp_layer layV; (repeat (first | rw [if_pos (by omega)] | rw [if_neg (by omega)])))))
                                          rcases k85 with _ | _ | _ | k85
                                          · first
                                            | (exfalso; omega)
                                            | (first | refine J.aload_n (pc' := 113) rfl rfl rfl ?_ | refine J.aload_nN (pc' := 113) rfl rfl rfl ?_
                                               refine J.mgR (pc' := 116) (t := 139) B rfl fl_X12_94 rfl rfl (by decide) rfl ?_
                                               refine J.iload (pc' := 118) rfl rfl rfl ?_
                                               refine J.mald (pc' := 119) B rfl rfl rfl (by omega) (by simp only [jLn]; omega) rfl ?_
                                               refine J.iret rfl rfl (by first | omega | (exact R.r _ _) | (simp only [jM.len_sI, jM.len_sL, jM.len_sR, jM.len_fI, jM.len_fL, jM.len_fR]; omega) | (simp [jM.len_nw, jM.len_sI, jM.len_sL, jM.len_sR, jM.len_fI, jM.len_fL, jM.len_fR, *]; omega)) (by first | omega | (exact R.r _ _) | (simp only [jM.len_sI, jM.len_sL, jM.len_sR, jM.len_fI, jM.len_fL, jM.len_fR]; omega) | (simp [jM.len_nw, jM.len_sI, jM.len_sL, jM.len_sR, jM.len_fI, jM.len_fL, jM.len_fR, *]; omega)) ?_
                                               exact mQ.of (by unfold sp_layer layV; (repeat (first | rw [if_pos (by omega)] | rw [if_neg (by omega)]))))
                                          · first
                                            | (exfalso; omega)
                                            | (first | refine J.aload_n (pc' := 121) rfl rfl rfl ?_ | refine J.aload_nN (pc' := 121) rfl rfl rfl ?_
                                               refine J.mgR (pc' := 124) (t := 140) B rfl fl_X12_97 rfl rfl (by decide) rfl ?_
                                               refine J.iload (pc' := 126) rfl rfl rfl ?_
                                               refine J.mald (pc' := 127) B rfl rfl rfl (by omega) (by simp only [jLn]; omega) rfl ?_
                                               refine J.iret rfl rfl (by first | omega | (exact R.r _ _) | (simp only [jM.len_sI, jM.len_sL, jM.len_sR, jM.len_fI, jM.len_fL, jM.len_fR]; omega) | (simp [jM.len_nw, jM.len_sI, jM.len_sL, jM.len_sR, jM.len_fI, jM.len_fL, jM.len_fR, *]; omega)) (by first | omega | (exact R.r _ _) | (simp only [jM.len_sI, jM.len_sL, jM.len_sR, jM.len_fI, jM.len_fL, jM.len_fR]; omega) | (simp [jM.len_nw, jM.len_sI, jM.len_sL, jM.len_sR, jM.len_fI, jM.len_fL, jM.len_fR, *]; omega)) ?_
                                               exact mQ.of (by unfold sp_layer layV; (repeat (first | rw [if_pos (by omega)] | rw [if_neg (by omega)]))))
                                          · first
                                            | (exfalso; omega)
                                            | (first | refine J.aload_n (pc' := 129) rfl rfl rfl ?_ | refine J.aload_nN (pc' := 129) rfl rfl rfl ?_
                                               refine J.mgR (pc' := 132) (t := 141) B rfl fl_X12_100 rfl rfl (by decide) rfl ?_
                                               refine J.iload (pc' := 134) rfl rfl rfl ?_
                                               refine J.mald (pc' := 135) B rfl rfl rfl (by omega) (by simp only [jLn]; omega) rfl ?_
                                               refine J.iret rfl rfl (by first | omega | (exact R.r _ _) | (simp only [jM.len_sI, jM.len_sL, jM.len_sR, jM.len_fI, jM.len_fL, jM.len_fR]; omega) | (simp [jM.len_nw, jM.len_sI, jM.len_sL, jM.len_sR, jM.len_fI, jM.len_fL, jM.len_fR, *]; omega)) (by first | omega | (exact R.r _ _) | (simp only [jM.len_sI, jM.len_sL, jM.len_sR, jM.len_fI, jM.len_fL, jM.len_fR]; omega) | (simp [jM.len_nw, jM.len_sI, jM.len_sL, jM.len_sR, jM.len_fI, jM.len_fL, jM.len_fR, *]; omega)) ?_
                                               exact mQ.of (by unfold sp_layer layV; (repeat (first | rw [if_pos (by omega)] | rw [if_neg (by omega)]))))
                                          · omega)
                                     · first
                                       | (exfalso; omega)
                                       | (refine J.iconst (pc' := 66) rfl rfl ?_
                                          refine J.iret rfl rfl (by first | omega | (exact R.r _ _) | (simp only [jM.len_sI, jM.len_sL, jM.len_sR, jM.len_fI, jM.len_fL, jM.len_fR]; omega) | (simp [jM.len_nw, jM.len_sI, jM.len_sL, jM.len_sR, jM.len_fI, jM.len_fL, jM.len_fR, *]; omega)) (by first | omega | (exact R.r _ _) | (simp only [jM.len_sI, jM.len_sL, jM.len_sR, jM.len_fI, jM.len_fL, jM.len_fR]; omega) | (simp [jM.len_nw, jM.len_sI, jM.len_sL, jM.len_sR, jM.len_fI, jM.len_fL, jM.len_fR, *]; omega)) ?_
                                          exact mQ.of (by unfold sp_layer layV; (repeat (first | rw [if_pos (by omega)] | rw [if_neg (by omega)]))))))))))
       · first
         | (exfalso; omega)
         | (refine J.iconst (pc' := 14) rfl rfl ?_
            refine J.iret rfl rfl (by first | omega | (exact R.r _ _) | (simp only [jM.len_sI, jM.len_sL, jM.len_sR, jM.len_fI, jM.len_fL, jM.len_fR]; omega) | (simp [jM.len_nw, jM.len_sI, jM.len_sL, jM.len_sR, jM.len_fI, jM.len_fL, jM.len_fR, *]; omega)) (by first | omega | (exact R.r _ _) | (simp only [jM.len_sI, jM.len_sL, jM.len_sR, jM.len_fI, jM.len_fL, jM.len_fR]; omega) | (simp [jM.len_nw, jM.len_sI, jM.len_sL, jM.len_sR, jM.len_fI, jM.len_fL, jM.len_fR, *]; omega)) ?_
            exact mQ.of (by unfold sp_layer layV; (repeat (first | rw [if_pos (by omega)] | rw [if_neg (by omega)])))))
  · first
    | (exfalso; omega)
    | (refine J.if_ne (tgt := 15) (pc' := 13) rfl rfl rfl (by first | omega | (exact R.r _ _) | (simp only [jM.len_sI, jM.len_sL, jM.len_sR, jM.len_fI, jM.len_fL, jM.len_fR]; omega) | (simp [jM.len_nw, jM.len_sI, jM.len_sL, jM.len_sR, jM.len_fI, jM.len_fL, jM.len_fR, *]; omega)) (fun c10 => ?_) (fun c10 => ?_)
       · first
         | (exfalso; omega)
         | (first | refine J.aload_n (pc' := 16) rfl rfl rfl ?_ | refine J.aload_nN (pc' := 16) rfl rfl rfl ?_
            refine J.iload_n (pc' := 17) rfl rfl rfl ?_
            refine J.if_lt (tgt := 34) (pc' := 20) rfl rfl rfl (by first | omega | (exact R.r _ _) | (simp only [jM.len_sI, jM.len_sL, jM.len_sR, jM.len_fI, jM.len_fL, jM.len_fR]; omega) | (simp [jM.len_nw, jM.len_sI, jM.len_sL, jM.len_sR, jM.len_fI, jM.len_fL, jM.len_fR, *]; omega)) (fun c17 => ?_) (fun c17 => ?_)
            · first
              | (exfalso; omega)
              | (refine J.iconst (pc' := 35) rfl rfl ?_
                 refine J.iconst (pc' := 36) rfl rfl ?_
                 first | refine J.callV (pc' := 39) (t := 16) rfl MX12_may ml_X12_161 iv_X12_may (by decide) ⟨_, rfl, rfl⟩ B.1 (cm_may1 B h0) rfl rfl (Nat.le_of_ble_eq_true rfl) (by first | omega | (exact R.r _ _) | (simp only [jM.len_sI, jM.len_sL, jM.len_sR, jM.len_fI, jM.len_fL, jM.len_fR]; omega) | (simp [jM.len_nw, jM.len_sI, jM.len_sL, jM.len_sR, jM.len_fI, jM.len_fL, jM.len_fR, *]; omega)) (by first | omega | (exact R.r _ _) | (simp only [jM.len_sI, jM.len_sL, jM.len_sR, jM.len_fI, jM.len_fL, jM.len_fR]; omega) | (simp [jM.len_nw, jM.len_sI, jM.len_sL, jM.len_sR, jM.len_fI, jM.len_fL, jM.len_fR, *]; omega)) (by first | omega | (exact R.r _ _) | (simp only [jM.len_sI, jM.len_sL, jM.len_sR, jM.len_fI, jM.len_fL, jM.len_fR]; omega) | (simp [jM.len_nw, jM.len_sI, jM.len_sL, jM.len_sR, jM.len_fI, jM.len_fL, jM.len_fR, *]; omega)) rfl rfl ?_ ?_ | refine J.callV (pc' := 39) (t := 16) rfl MX12_may ml_X12_161 iv_X12_may (by decide) ⟨_, rfl, rfl⟩ B.1 (cm_may0 B h0 (by omega)) rfl rfl (Nat.le_of_ble_eq_true rfl) (by first | omega | (exact R.r _ _) | (simp only [jM.len_sI, jM.len_sL, jM.len_sR, jM.len_fI, jM.len_fL, jM.len_fR]; omega) | (simp [jM.len_nw, jM.len_sI, jM.len_sL, jM.len_sR, jM.len_fI, jM.len_fL, jM.len_fR, *]; omega)) (by first | omega | (exact R.r _ _) | (simp only [jM.len_sI, jM.len_sL, jM.len_sR, jM.len_fI, jM.len_fL, jM.len_fR]; omega) | (simp [jM.len_nw, jM.len_sI, jM.len_sL, jM.len_sR, jM.len_fI, jM.len_fL, jM.len_fR, *]; omega)) (by first | omega | (exact R.r _ _) | (simp only [jM.len_sI, jM.len_sL, jM.len_sR, jM.len_fI, jM.len_fL, jM.len_fR]; omega) | (simp [jM.len_nw, jM.len_sI, jM.len_sL, jM.len_sR, jM.len_fI, jM.len_fL, jM.len_fR, *]; omega)) rfl rfl ?_ ?_
                 · exact fun _ _ h => h
                 rintro _ _ ⟨rfl, rfl⟩
                 refine J.if_eq (tgt := 65) (pc' := 42) rfl rfl rfl (by first | omega | (exact R.r _ _) | (simp only [jM.len_sI, jM.len_sL, jM.len_sR, jM.len_fI, jM.len_fL, jM.len_fR]; omega) | (simp [jM.len_nw, jM.len_sI, jM.len_sL, jM.len_sR, jM.len_fI, jM.len_fL, jM.len_fR, *]; omega)) (fun c39 => ?_) (fun c39 => ?_)
                 · first
                   | (exfalso; omega)
                   | (refine J.iconst (pc' := 66) rfl rfl ?_
                      refine J.iret rfl rfl (by first | omega | (exact R.r _ _) | (simp only [jM.len_sI, jM.len_sL, jM.len_sR, jM.len_fI, jM.len_fL, jM.len_fR]; omega) | (simp [jM.len_nw, jM.len_sI, jM.len_sL, jM.len_sR, jM.len_fI, jM.len_fL, jM.len_fR, *]; omega)) (by first | omega | (exact R.r _ _) | (simp only [jM.len_sI, jM.len_sL, jM.len_sR, jM.len_fI, jM.len_fL, jM.len_fR]; omega) | (simp [jM.len_nw, jM.len_sI, jM.len_sL, jM.len_sR, jM.len_fI, jM.len_fL, jM.len_fR, *]; omega)) ?_
                      exact mQ.of (by unfold sp_layer layV; (repeat (first | rw [if_pos (by omega)] | rw [if_neg (by omega)]))))
                 · first
                   | (exfalso; omega)
                   | (first | refine J.aload_n (pc' := 43) rfl rfl rfl ?_ | refine J.aload_nN (pc' := 43) rfl rfl rfl ?_
                      refine J.iload_n (pc' := 44) rfl rfl rfl ?_
                      refine J.if_lt (tgt := 57) (pc' := 47) rfl rfl rfl (by first | omega | (exact R.r _ _) | (simp only [jM.len_sI, jM.len_sL, jM.len_sR, jM.len_fI, jM.len_fL, jM.len_fR]; omega) | (simp [jM.len_nw, jM.len_sI, jM.len_sL, jM.len_sR, jM.len_fI, jM.len_fL, jM.len_fR, *]; omega)) (fun c44 => ?_) (fun c44 => ?_)
                      · first
                        | (exfalso; omega)
                        | (refine J.iconst (pc' := 58) rfl rfl ?_
                           refine J.iconst (pc' := 59) rfl rfl ?_
                           first | refine J.callV (pc' := 62) (t := 16) rfl MX12_may ml_X12_161 iv_X12_may (by decide) ⟨_, rfl, rfl⟩ B.1 (cm_may1 B h0) rfl rfl (Nat.le_of_ble_eq_true rfl) (by first | omega | (exact R.r _ _) | (simp only [jM.len_sI, jM.len_sL, jM.len_sR, jM.len_fI, jM.len_fL, jM.len_fR]; omega) | (simp [jM.len_nw, jM.len_sI, jM.len_sL, jM.len_sR, jM.len_fI, jM.len_fL, jM.len_fR, *]; omega)) (by first | omega | (exact R.r _ _) | (simp only [jM.len_sI, jM.len_sL, jM.len_sR, jM.len_fI, jM.len_fL, jM.len_fR]; omega) | (simp [jM.len_nw, jM.len_sI, jM.len_sL, jM.len_sR, jM.len_fI, jM.len_fL, jM.len_fR, *]; omega)) (by first | omega | (exact R.r _ _) | (simp only [jM.len_sI, jM.len_sL, jM.len_sR, jM.len_fI, jM.len_fL, jM.len_fR]; omega) | (simp [jM.len_nw, jM.len_sI, jM.len_sL, jM.len_sR, jM.len_fI, jM.len_fL, jM.len_fR, *]; omega)) rfl rfl ?_ ?_ | refine J.callV (pc' := 62) (t := 16) rfl MX12_may ml_X12_161 iv_X12_may (by decide) ⟨_, rfl, rfl⟩ B.1 (cm_may0 B h0 (by omega)) rfl rfl (Nat.le_of_ble_eq_true rfl) (by first | omega | (exact R.r _ _) | (simp only [jM.len_sI, jM.len_sL, jM.len_sR, jM.len_fI, jM.len_fL, jM.len_fR]; omega) | (simp [jM.len_nw, jM.len_sI, jM.len_sL, jM.len_sR, jM.len_fI, jM.len_fL, jM.len_fR, *]; omega)) (by first | omega | (exact R.r _ _) | (simp only [jM.len_sI, jM.len_sL, jM.len_sR, jM.len_fI, jM.len_fL, jM.len_fR]; omega) | (simp [jM.len_nw, jM.len_sI, jM.len_sL, jM.len_sR, jM.len_fI, jM.len_fL, jM.len_fR, *]; omega)) (by first | omega | (exact R.r _ _) | (simp only [jM.len_sI, jM.len_sL, jM.len_sR, jM.len_fI, jM.len_fL, jM.len_fR]; omega) | (simp [jM.len_nw, jM.len_sI, jM.len_sL, jM.len_sR, jM.len_fI, jM.len_fL, jM.len_fR, *]; omega)) rfl rfl ?_ ?_
                           · exact fun _ _ h => h
                           rintro _ _ ⟨rfl, rfl⟩
                           refine J.if_ne (tgt := 67) (pc' := 65) rfl rfl rfl (by first | omega | (exact R.r _ _) | (simp only [jM.len_sI, jM.len_sL, jM.len_sR, jM.len_fI, jM.len_fL, jM.len_fR]; omega) | (simp [jM.len_nw, jM.len_sI, jM.len_sL, jM.len_sR, jM.len_fI, jM.len_fL, jM.len_fR, *]; omega)) (fun c62 => ?_) (fun c62 => ?_)
                           · first
                             | (exfalso; omega)
                             | (refine J.bipush (pc' := 69) rfl rfl (by decide) ?_
                                refine J.iload_n (pc' := 70) rfl rfl rfl ?_
                                refine J.imul (pc' := 71) rfl rfl ?_
                                first | refine J.aload_n (pc' := 72) rfl rfl rfl ?_ | refine J.aload_nN (pc' := 72) rfl rfl rfl ?_
                                refine J.mgR (pc' := 75) (t := 138) B rfl fl_X12_91 rfl rfl (by decide) rfl ?_
                                refine J.iload_n (pc' := 76) rfl rfl rfl ?_
                                refine J.mald (pc' := 77) B rfl rfl rfl (by omega) (by simp only [jLn]; omega) rfl ?_
                                refine J.iadd (pc' := 78) rfl rfl ?_
                                refine J.iconst (pc' := 79) rfl rfl ?_
                                refine J.isub (pc' := 80) rfl rfl ?_
                                refine J.iload_n (pc' := 81) rfl rfl rfl ?_
                                refine J.isub (pc' := 82) rfl rfl ?_
                                refine J.istore (pc' := 84) rfl rfl (by decide) ?_
                                refine J.iload_n (pc' := 85) rfl rfl rfl ?_
                                refine J.tsw (tgt := 136) (n := 3) (T := jNth [112, 120, 128]) rfl (by first | omega | (exact R.r _ _) | (simp only [jM.len_sI, jM.len_sL, jM.len_sR, jM.len_fI, jM.len_fL, jM.len_fR]; omega) | (simp [jM.len_nw, jM.len_sI, jM.len_sL, jM.len_sR, jM.len_fI, jM.len_fL, jM.len_fR, *]; omega)) rfl rfl (fun k hk => by rcases k with _ | _ | _ | k <;> first | exact ⟨_, rfl, rfl⟩ | omega) (fun c85 => ?_) (fun k85 hk85 c85 => ?_)
                                · first
                                  | (exfalso; omega)
                                  | (refine J.iload_n (pc' := 137) rfl rfl rfl ?_
                                     refine J.iconst (pc' := 138) rfl rfl ?_
                                     refine J.irem (pc' := 139) rfl rfl (by first | omega | (exact R.r _ _) | (simp only [jM.len_sI, jM.len_sL, jM.len_sR, jM.len_fI, jM.len_fL, jM.len_fR]; omega) | (simp [jM.len_nw, jM.len_sI, jM.len_sL, jM.len_sR, jM.len_fI, jM.len_fL, jM.len_fR, *]; omega)) (by first | omega | (exact R.r _ _) | (simp only [jM.len_sI, jM.len_sL, jM.len_sR, jM.len_fI, jM.len_fL, jM.len_fR]; omega) | (simp [jM.len_nw, jM.len_sI, jM.len_sL, jM.len_sR, jM.len_fI, jM.len_fL, jM.len_fR, *]; omega)) (by first | omega | (exact R.r _ _) | (simp only [jM.len_sI, jM.len_sL, jM.len_sR, jM.len_fI, jM.len_fL, jM.len_fR]; omega) | (simp [jM.len_nw, jM.len_sI, jM.len_sL, jM.len_sR, jM.len_fI, jM.len_fL, jM.len_fR, *]; omega)) ?_
                                     rw [Int.tmod_eq_emod_of_nonneg (by omega)]
                                     refine J.iconst (pc' := 140) rfl rfl ?_
                                     refine J.icmp_ne (tgt := 157) (pc' := 143) rfl rfl rfl (by first | omega | (exact R.r _ _) | (simp only [jM.len_sI, jM.len_sL, jM.len_sR, jM.len_fI, jM.len_fL, jM.len_fR]; omega) | (simp [jM.len_nw, jM.len_sI, jM.len_sL, jM.len_sR, jM.len_fI, jM.len_fL, jM.len_fR, *]; omega)) (by first | omega | (exact R.r _ _) | (simp only [jM.len_sI, jM.len_sL, jM.len_sR, jM.len_fI, jM.len_fL, jM.len_fR]; omega) | (simp [jM.len_nw, jM.len_sI, jM.len_sL, jM.len_sR, jM.len_fI, jM.len_fL, jM.len_fR, *]; omega)) (fun c140 => ?_) (fun c140 => ?_)
                                     · first
                                       | (exfalso; omega)
                                       | (first | refine J.aload_n (pc' := 158) rfl rfl rfl ?_ | refine J.aload_nN (pc' := 158) rfl rfl rfl ?_
                                          refine J.iload (pc' := 160) rfl rfl rfl ?_
                                          refine J.iload_n (pc' := 161) rfl rfl rfl ?_
                                          refine J.iconst (pc' := 162) rfl rfl ?_
                                          refine J.isub (pc' := 163) rfl rfl ?_
                                          refine J.iconst (pc' := 164) rfl rfl ?_
                                          refine J.idiv (pc' := 165) rfl rfl (by first | omega | (exact R.r _ _) | (simp only [jM.len_sI, jM.len_sL, jM.len_sR, jM.len_fI, jM.len_fL, jM.len_fR]; omega) | (simp [jM.len_nw, jM.len_sI, jM.len_sL, jM.len_sR, jM.len_fI, jM.len_fL, jM.len_fR, *]; omega)) (by first | omega | (exact R.r _ _) | (simp only [jM.len_sI, jM.len_sL, jM.len_sR, jM.len_fI, jM.len_fL, jM.len_fR]; omega) | (simp [jM.len_nw, jM.len_sI, jM.len_sL, jM.len_sR, jM.len_fI, jM.len_fL, jM.len_fR, *]; omega)) (by first | omega | (exact R.r _ _) | (simp only [jM.len_sI, jM.len_sL, jM.len_sR, jM.len_fI, jM.len_fL, jM.len_fR]; omega) | (simp [jM.len_nw, jM.len_sI, jM.len_sL, jM.len_sR, jM.len_fI, jM.len_fL, jM.len_fR, *]; omega)) ?_
                                          rw [Int.tdiv_eq_ediv_of_nonneg (by omega)]
                                          refine J.callV (pc' := 168) (t := 16) rfl MX12_highOfLayer ml_X12_307 iv_X12_highOfLayer (by decide) ⟨_, rfl, rfl⟩ B.1 (cm_highL B R (by omega) (by omega)) rfl rfl (Nat.le_of_ble_eq_true rfl) (by first | omega | (exact R.r _ _) | (simp only [jM.len_sI, jM.len_sL, jM.len_sR, jM.len_fI, jM.len_fL, jM.len_fR]; omega) | (simp [jM.len_nw, jM.len_sI, jM.len_sL, jM.len_sR, jM.len_fI, jM.len_fL, jM.len_fR, *]; omega)) (by first | omega | (exact R.r _ _) | (simp only [jM.len_sI, jM.len_sL, jM.len_sR, jM.len_fI, jM.len_fL, jM.len_fR]; omega) | (simp [jM.len_nw, jM.len_sI, jM.len_sL, jM.len_sR, jM.len_fI, jM.len_fL, jM.len_fR, *]; omega)) (by first | omega | (exact R.r _ _) | (simp only [jM.len_sI, jM.len_sL, jM.len_sR, jM.len_fI, jM.len_fL, jM.len_fR]; omega) | (simp [jM.len_nw, jM.len_sI, jM.len_sL, jM.len_sR, jM.len_fI, jM.len_fL, jM.len_fR, *]; omega)) rfl rfl ?_ ?_
                                          · exact fun _ _ h => h
                                          rintro _ _ ⟨rfl, rfl⟩
                                          refine J.iret rfl rfl (by first | omega | (exact R.r _ _) | (simp only [jM.len_sI, jM.len_sL, jM.len_sR, jM.len_fI, jM.len_fL, jM.len_fR]; omega) | (simp [jM.len_nw, jM.len_sI, jM.len_sL, jM.len_sR, jM.len_fI, jM.len_fL, jM.len_fR, *]; omega)) (by first | omega | (exact R.r _ _) | (simp only [jM.len_sI, jM.len_sL, jM.len_sR, jM.len_fI, jM.len_fL, jM.len_fR]; omega) | (simp [jM.len_nw, jM.len_sI, jM.len_sL, jM.len_sR, jM.len_fI, jM.len_fL, jM.len_fR, *]; omega)) ?_
                                          exact mQ.of (by unfold sp_layer layV; (repeat (first | rw [if_pos (by omega)] | rw [if_neg (by omega)]))))
                                     · first
                                       | (exfalso; omega)
                                       | (first | refine J.aload_n (pc' := 144) rfl rfl rfl ?_ | refine J.aload_nN (pc' := 144) rfl rfl rfl ?_
                                          refine J.iload (pc' := 146) rfl rfl rfl ?_
                                          refine J.iload_n (pc' := 147) rfl rfl rfl ?_
                                          refine J.iconst (pc' := 148) rfl rfl ?_
                                          refine J.isub (pc' := 149) rfl rfl ?_
                                          refine J.iconst (pc' := 150) rfl rfl ?_
                                          refine J.idiv (pc' := 151) rfl rfl (by first | omega | (exact R.r _ _) | (simp only [jM.len_sI, jM.len_sL, jM.len_sR, jM.len_fI, jM.len_fL, jM.len_fR]; omega) | (simp [jM.len_nw, jM.len_sI, jM.len_sL, jM.len_sR, jM.len_fI, jM.len_fL, jM.len_fR, *]; omega)) (by first | omega | (exact R.r _ _) | (simp only [jM.len_sI, jM.len_sL, jM.len_sR, jM.len_fI, jM.len_fL, jM.len_fR]; omega) | (simp [jM.len_nw, jM.len_sI, jM.len_sL, jM.len_sR, jM.len_fI, jM.len_fL, jM.len_fR, *]; omega)) (by first | omega | (exact R.r _ _) | (simp only [jM.len_sI, jM.len_sL, jM.len_sR, jM.len_fI, jM.len_fL, jM.len_fR]; omega) | (simp [jM.len_nw, jM.len_sI, jM.len_sL, jM.len_sR, jM.len_fI, jM.len_fL, jM.len_fR, *]; omega)) ?_
                                          rw [Int.tdiv_eq_ediv_of_nonneg (by omega)]
                                          refine J.callV (pc' := 154) (t := 16) rfl MX12_lowOfLayer ml_X12_304 iv_X12_lowOfLayer (by decide) ⟨_, rfl, rfl⟩ B.1 (cm_lowL B R (by omega) (by omega)) rfl rfl (Nat.le_of_ble_eq_true rfl) (by first | omega | (exact R.r _ _) | (simp only [jM.len_sI, jM.len_sL, jM.len_sR, jM.len_fI, jM.len_fL, jM.len_fR]; omega) | (simp [jM.len_nw, jM.len_sI, jM.len_sL, jM.len_sR, jM.len_fI, jM.len_fL, jM.len_fR, *]; omega)) (by first | omega | (exact R.r _ _) | (simp only [jM.len_sI, jM.len_sL, jM.len_sR, jM.len_fI, jM.len_fL, jM.len_fR]; omega) | (simp [jM.len_nw, jM.len_sI, jM.len_sL, jM.len_sR, jM.len_fI, jM.len_fL, jM.len_fR, *]; omega)) (by first | omega | (exact R.r _ _) | (simp only [jM.len_sI, jM.len_sL, jM.len_sR, jM.len_fI, jM.len_fL, jM.len_fR]; omega) | (simp [jM.len_nw, jM.len_sI, jM.len_sL, jM.len_sR, jM.len_fI, jM.len_fL, jM.len_fR, *]; omega)) rfl rfl ?_ ?_
                                          · exact fun _ _ h => h
                                          rintro _ _ ⟨rfl, rfl⟩
                                          refine J.goto (tgt := 168) rfl rfl ?_
                                          refine J.iret rfl rfl (by first | omega | (exact R.r _ _) | (simp only [jM.len_sI, jM.len_sL, jM.len_sR, jM.len_fI, jM.len_fL, jM.len_fR]; omega) | (simp [jM.len_nw, jM.len_sI, jM.len_sL, jM.len_sR, jM.len_fI, jM.len_fL, jM.len_fR, *]; omega)) (by first | omega | (exact R.r _ _) | (simp only [jM.len_sI, jM.len_sL, jM.len_sR, jM.len_fI, jM.len_fL, jM.len_fR]; omega) | (simp [jM.len_nw, jM.len_sI, jM.len_sL, jM.len_sR, jM.len_fI, jM.len_fL, jM.len_fR, *]; omega)) ?_
                                          exact mQ.of (by unfold sp_layer layV; (repeat (first | rw [if_pos (by omega)] | rw [if_neg (by omega)])))))
                                rcases k85 with _ | _ | _ | k85
                                · first
                                  | (exfalso; omega)
                                  | (first | refine J.aload_n (pc' := 113) rfl rfl rfl ?_ | refine J.aload_nN (pc' := 113) rfl rfl rfl ?_
                                     refine J.mgR (pc' := 116) (t := 139) B rfl fl_X12_94 rfl rfl (by decide) rfl ?_
                                     refine J.iload (pc' := 118) rfl rfl rfl ?_
                                     refine J.mald (pc' := 119) B rfl rfl rfl (by omega) (by simp only [jLn]; omega) rfl ?_
                                     refine J.iret rfl rfl (by first | omega | (exact R.r _ _) | (simp only [jM.len_sI, jM.len_sL, jM.len_sR, jM.len_fI, jM.len_fL, jM.len_fR]; omega) | (simp [jM.len_nw, jM.len_sI, jM.len_sL, jM.len_sR, jM.len_fI, jM.len_fL, jM.len_fR, *]; omega)) (by first | omega | (exact R.r _ _) | (simp only [jM.len_sI, jM.len_sL, jM.len_sR, jM.len_fI, jM.len_fL, jM.len_fR]; omega) | (simp [jM.len_nw, jM.len_sI, jM.len_sL, jM.len_sR, jM.len_fI, jM.len_fL, jM.len_fR, *]; omega)) ?_
                                     exact mQ.of (by unfold sp_layer layV; (repeat (first | rw [if_pos (by omega)] | rw [if_neg (by omega)]))))
                                · first
                                  | (exfalso; omega)
                                  | (first | refine J.aload_n (pc' := 121) rfl rfl rfl ?_ | refine J.aload_nN (pc' := 121) rfl rfl rfl ?_
                                     refine J.mgR (pc' := 124) (t := 140) B rfl fl_X12_97 rfl rfl (by decide) rfl ?_
                                     refine J.iload (pc' := 126) rfl rfl rfl ?_
                                     refine J.mald (pc' := 127) B rfl rfl rfl (by omega) (by simp only [jLn]; omega) rfl ?_
                                     refine J.iret rfl rfl (by first | omega | (exact R.r _ _) | (simp only [jM.len_sI, jM.len_sL, jM.len_sR, jM.len_fI, jM.len_fL, jM.len_fR]; omega) | (simp [jM.len_nw, jM.len_sI, jM.len_sL, jM.len_sR, jM.len_fI, jM.len_fL, jM.len_fR, *]; omega)) (by first | omega | (exact R.r _ _) | (simp only [jM.len_sI, jM.len_sL, jM.len_sR, jM.len_fI, jM.len_fL, jM.len_fR]; omega) | (simp [jM.len_nw, jM.len_sI, jM.len_sL, jM.len_sR, jM.len_fI, jM.len_fL, jM.len_fR, *]; omega)) ?_
                                     exact mQ.of (by unfold sp_layer layV; (repeat (first | rw [if_pos (by omega)] | rw [if_neg (by omega)]))))
                                · first
                                  | (exfalso; omega)
                                  | (first | refine J.aload_n (pc' := 129) rfl rfl rfl ?_ | refine J.aload_nN (pc' := 129) rfl rfl rfl ?_
                                     refine J.mgR (pc' := 132) (t := 141) B rfl fl_X12_100 rfl rfl (by decide) rfl ?_
                                     refine J.iload (pc' := 134) rfl rfl rfl ?_
                                     refine J.mald (pc' := 135) B rfl rfl rfl (by omega) (by simp only [jLn]; omega) rfl ?_
                                     refine J.iret rfl rfl (by first | omega | (exact R.r _ _) | (simp only [jM.len_sI, jM.len_sL, jM.len_sR, jM.len_fI, jM.len_fL, jM.len_fR]; omega) | (simp [jM.len_nw, jM.len_sI, jM.len_sL, jM.len_sR, jM.len_fI, jM.len_fL, jM.len_fR, *]; omega)) (by first | omega | (exact R.r _ _) | (simp only [jM.len_sI, jM.len_sL, jM.len_sR, jM.len_fI, jM.len_fL, jM.len_fR]; omega) | (simp [jM.len_nw, jM.len_sI, jM.len_sL, jM.len_sR, jM.len_fI, jM.len_fL, jM.len_fR, *]; omega)) ?_
                                     exact mQ.of (by unfold sp_layer layV; (repeat (first | rw [if_pos (by omega)] | rw [if_neg (by omega)]))))
                                · omega)
                           · first
                             | (exfalso; omega)
                             | (refine J.iconst (pc' := 66) rfl rfl ?_
                                refine J.iret rfl rfl (by first | omega | (exact R.r _ _) | (simp only [jM.len_sI, jM.len_sL, jM.len_sR, jM.len_fI, jM.len_fL, jM.len_fR]; omega) | (simp [jM.len_nw, jM.len_sI, jM.len_sL, jM.len_sR, jM.len_fI, jM.len_fL, jM.len_fR, *]; omega)) (by first | omega | (exact R.r _ _) | (simp only [jM.len_sI, jM.len_sL, jM.len_sR, jM.len_fI, jM.len_fL, jM.len_fR]; omega) | (simp [jM.len_nw, jM.len_sI, jM.len_sL, jM.len_sR, jM.len_fI, jM.len_fL, jM.len_fR, *]; omega)) ?_
                                exact mQ.of (by unfold sp_layer layV; (repeat (first | rw [if_pos (by omega)] | rw [if_neg (by omega)])))))
                      · first
                        | (exfalso; omega)
                        | (refine J.iload_n (pc' := 48) rfl rfl rfl ?_
                           refine J.bipush (pc' := 50) rfl rfl (by decide) ?_
                           refine J.icmp_ge (tgt := 57) (pc' := 53) rfl rfl rfl (by first | omega | (exact R.r _ _) | (simp only [jM.len_sI, jM.len_sL, jM.len_sR, jM.len_fI, jM.len_fL, jM.len_fR]; omega) | (simp [jM.len_nw, jM.len_sI, jM.len_sL, jM.len_sR, jM.len_fI, jM.len_fL, jM.len_fR, *]; omega)) (by first | omega | (exact R.r _ _) | (simp only [jM.len_sI, jM.len_sL, jM.len_sR, jM.len_fI, jM.len_fL, jM.len_fR]; omega) | (simp [jM.len_nw, jM.len_sI, jM.len_sL, jM.len_sR, jM.len_fI, jM.len_fL, jM.len_fR, *]; omega)) (fun c50 => ?_) (fun c50 => ?_)
                           · first
                             | (exfalso; omega)
                             | (refine J.iconst (pc' := 58) rfl rfl ?_
                                refine J.iconst (pc' := 59) rfl rfl ?_
                                first | refine J.callV (pc' := 62) (t := 16) rfl MX12_may ml_X12_161 iv_X12_may (by decide) ⟨_, rfl, rfl⟩ B.1 (cm_may1 B h0) rfl rfl (Nat.le_of_ble_eq_true rfl) (by first | omega | (exact R.r _ _) | (simp only [jM.len_sI, jM.len_sL, jM.len_sR, jM.len_fI, jM.len_fL, jM.len_fR]; omega) | (simp [jM.len_nw, jM.len_sI, jM.len_sL, jM.len_sR, jM.len_fI, jM.len_fL, jM.len_fR, *]; omega)) (by first | omega | (exact R.r _ _) | (simp only [jM.len_sI, jM.len_sL, jM.len_sR, jM.len_fI, jM.len_fL, jM.len_fR]; omega) | (simp [jM.len_nw, jM.len_sI, jM.len_sL, jM.len_sR, jM.len_fI, jM.len_fL, jM.len_fR, *]; omega)) (by first | omega | (exact R.r _ _) | (simp only [jM.len_sI, jM.len_sL, jM.len_sR, jM.len_fI, jM.len_fL, jM.len_fR]; omega) | (simp [jM.len_nw, jM.len_sI, jM.len_sL, jM.len_sR, jM.len_fI, jM.len_fL, jM.len_fR, *]; omega)) rfl rfl ?_ ?_ | refine J.callV (pc' := 62) (t := 16) rfl MX12_may ml_X12_161 iv_X12_may (by decide) ⟨_, rfl, rfl⟩ B.1 (cm_may0 B h0 (by omega)) rfl rfl (Nat.le_of_ble_eq_true rfl) (by first | omega | (exact R.r _ _) | (simp only [jM.len_sI, jM.len_sL, jM.len_sR, jM.len_fI, jM.len_fL, jM.len_fR]; omega) | (simp [jM.len_nw, jM.len_sI, jM.len_sL, jM.len_sR, jM.len_fI, jM.len_fL, jM.len_fR, *]; omega)) (by first | omega | (exact R.r _ _) | (simp only [jM.len_sI, jM.len_sL, jM.len_sR, jM.len_fI, jM.len_fL, jM.len_fR]; omega) | (simp [jM.len_nw, jM.len_sI, jM.len_sL, jM.len_sR, jM.len_fI, jM.len_fL, jM.len_fR, *]; omega)) (by first | omega | (exact R.r _ _) | (simp only [jM.len_sI, jM.len_sL, jM.len_sR, jM.len_fI, jM.len_fL, jM.len_fR]; omega) | (simp [jM.len_nw, jM.len_sI, jM.len_sL, jM.len_sR, jM.len_fI, jM.len_fL, jM.len_fR, *]; omega)) rfl rfl ?_ ?_
                                · exact fun _ _ h => h
                                rintro _ _ ⟨rfl, rfl⟩
                                refine J.if_ne (tgt := 67) (pc' := 65) rfl rfl rfl (by first | omega | (exact R.r _ _) | (simp only [jM.len_sI, jM.len_sL, jM.len_sR, jM.len_fI, jM.len_fL, jM.len_fR]; omega) | (simp [jM.len_nw, jM.len_sI, jM.len_sL, jM.len_sR, jM.len_fI, jM.len_fL, jM.len_fR, *]; omega)) (fun c62 => ?_) (fun c62 => ?_)
                                · first
                                  | (exfalso; omega)
                                  | (refine J.bipush (pc' := 69) rfl rfl (by decide) ?_
                                     refine J.iload_n (pc' := 70) rfl rfl rfl ?_
                                     refine J.imul (pc' := 71) rfl rfl ?_
                                     first | refine J.aload_n (pc' := 72) rfl rfl rfl ?_ | refine J.aload_nN (pc' := 72) rfl rfl rfl ?_
                                     refine J.mgR (pc' := 75) (t := 138) B rfl fl_X12_91 rfl rfl (by decide) rfl ?_
                                     refine J.iload_n (pc' := 76) rfl rfl rfl ?_
                                     refine J.mald (pc' := 77) B rfl rfl rfl (by omega) (by simp only [jLn]; omega) rfl ?_
                                     refine J.iadd (pc' := 78) rfl rfl ?_
                                     refine J.iconst (pc' := 79) rfl rfl ?_
                                     refine J.isub (pc' := 80) rfl rfl ?_
                                     refine J.iload_n (pc' := 81) rfl rfl rfl ?_
                                     refine J.isub (pc' := 82) rfl rfl ?_
                                     refine J.istore (pc' := 84) rfl rfl (by decide) ?_
                                     refine J.iload_n (pc' := 85) rfl rfl rfl ?_
                                     refine J.tsw (tgt := 136) (n := 3) (T := jNth [112, 120, 128]) rfl (by first | omega | (exact R.r _ _) | (simp only [jM.len_sI, jM.len_sL, jM.len_sR, jM.len_fI, jM.len_fL, jM.len_fR]; omega) | (simp [jM.len_nw, jM.len_sI, jM.len_sL, jM.len_sR, jM.len_fI, jM.len_fL, jM.len_fR, *]; omega)) rfl rfl (fun k hk => by rcases k with _ | _ | _ | k <;> first | exact ⟨_, rfl, rfl⟩ | omega) (fun c85 => ?_) (fun k85 hk85 c85 => ?_)
                                     · first
                                       | (exfalso; omega)
                                       | (refine J.iload_n (pc' := 137) rfl rfl rfl ?_
                                          refine J.iconst (pc' := 138) rfl rfl ?_
                                          refine J.irem (pc' := 139) rfl rfl (by first | omega | (exact R.r _ _) | (simp only [jM.len_sI, jM.len_sL, jM.len_sR, jM.len_fI, jM.len_fL, jM.len_fR]; omega) | (simp [jM.len_nw, jM.len_sI, jM.len_sL, jM.len_sR, jM.len_fI, jM.len_fL, jM.len_fR, *]; omega)) (by first | omega | (exact R.r _ _) | (simp only [jM.len_sI, jM.len_sL, jM.len_sR, jM.len_fI, jM.len_fL, jM.len_fR]; omega) | (simp [jM.len_nw, jM.len_sI, jM.len_sL, jM.len_sR, jM.len_fI, jM.len_fL, jM.len_fR, *]; omega)) (by first | omega | (exact R.r _ _) | (simp only [jM.len_sI, jM.len_sL, jM.len_sR, jM.len_fI, jM.len_fL, jM.len_fR]; omega) | (simp [jM.len_nw, jM.len_sI, jM.len_sL, jM.len_sR, jM.len_fI, jM.len_fL, jM.len_fR, *]; omega)) ?_
                                          rw [Int.tmod_eq_emod_of_nonneg (by omega)]
                                          refine J.iconst (pc' := 140) rfl rfl ?_
                                          refine J.icmp_ne (tgt := 157) (pc' := 143) rfl rfl rfl (by first | omega | (exact R.r _ _) | (simp only [jM.len_sI, jM.len_sL, jM.len_sR, jM.len_fI, jM.len_fL, jM.len_fR]; omega) | (simp [jM.len_nw, jM.len_sI, jM.len_sL, jM.len_sR, jM.len_fI, jM.len_fL, jM.len_fR, *]; omega)) (by first | omega | (exact R.r _ _) | (simp only [jM.len_sI, jM.len_sL, jM.len_sR, jM.len_fI, jM.len_fL, jM.len_fR]; omega) | (simp [jM.len_nw, jM.len_sI, jM.len_sL, jM.len_sR, jM.len_fI, jM.len_fL, jM.len_fR, *]; omega)) (fun c140 => ?_) (fun c140 => ?_)
                                          · first
                                            | (exfalso; omega)
                                            | (first | refine J.aload_n (pc' := 158) rfl rfl rfl ?_ | refine J.aload_nN (pc' := 158) rfl rfl rfl ?_
                                               refine J.iload (pc' := 160) rfl rfl rfl ?_
                                               refine J.iload_n (pc' := 161) rfl rfl rfl ?_
                                               refine J.iconst (pc' := 162) rfl rfl ?_
                                               refine J.isub (pc' := 163) rfl rfl ?_
                                               refine J.iconst (pc' := 164) rfl rfl ?_
                                               refine J.idiv (pc' := 165) rfl rfl (by first | omega | (exact R.r _ _) | (simp only [jM.len_sI, jM.len_sL, jM.len_sR, jM.len_fI, jM.len_fL, jM.len_fR]; omega) | (simp [jM.len_nw, jM.len_sI, jM.len_sL, jM.len_sR, jM.len_fI, jM.len_fL, jM.len_fR, *]; omega)) (by first | omega | (exact R.r _ _) | (simp only [jM.len_sI, jM.len_sL, jM.len_sR, jM.len_fI, jM.len_fL, jM.len_fR]; omega) | (simp [jM.len_nw, jM.len_sI, jM.len_sL, jM.len_sR, jM.len_fI, jM.len_fL, jM.len_fR, *]; omega)) (by first | omega | (exact R.r _ _) | (simp only [jM.len_sI, jM.len_sL, jM.len_sR, jM.len_fI, jM.len_fL, jM.len_fR]; omega) | (simp [jM.len_nw, jM.len_sI, jM.len_sL, jM.len_sR, jM.len_fI, jM.len_fL, jM.len_fR, *]; omega)) ?_
                                               rw [Int.tdiv_eq_ediv_of_nonneg (by omega)]
                                               refine J.callV (pc' := 168) (t := 16) rfl MX12_highOfLayer ml_X12_307 iv_X12_highOfLayer (by decide) ⟨_, rfl, rfl⟩ B.1 (cm_highL B R (by omega) (by omega)) rfl rfl (Nat.le_of_ble_eq_true rfl) (by first | omega | (exact R.r _ _) | (simp only [jM.len_sI, jM.len_sL, jM.len_sR, jM.len_fI, jM.len_fL, jM.len_fR]; omega) | (simp [jM.len_nw, jM.len_sI, jM.len_sL, jM.len_sR, jM.len_fI, jM.len_fL, jM.len_fR, *]; omega)) (by first | omega | (exact R.r _ _) | (simp only [jM.len_sI, jM.len_sL, jM.len_sR, jM.len_fI, jM.len_fL, jM.len_fR]; omega) | (simp [jM.len_nw, jM.len_sI, jM.len_sL, jM.len_sR, jM.len_fI, jM.len_fL, jM.len_fR, *]; omega)) (by first | omega | (exact R.r _ _) | (simp only [jM.len_sI, jM.len_sL, jM.len_sR, jM.len_fI, jM.len_fL, jM.len_fR]; omega) | (simp [jM.len_nw, jM.len_sI, jM.len_sL, jM.len_sR, jM.len_fI, jM.len_fL, jM.len_fR, *]; omega)) rfl rfl ?_ ?_
                                               · exact fun _ _ h => h
                                               rintro _ _ ⟨rfl, rfl⟩
                                               refine J.iret rfl rfl (by first | omega | (exact R.r _ _) | (simp only [jM.len_sI, jM.len_sL, jM.len_sR, jM.len_fI, jM.len_fL, jM.len_fR]; omega) | (simp [jM.len_nw, jM.len_sI, jM.len_sL, jM.len_sR, jM.len_fI, jM.len_fL, jM.len_fR, *]; omega)) (by first | omega | (exact R.r _ _) | (simp only [jM.len_sI, jM.len_sL, jM.len_sR, jM.len_fI, jM.len_fL, jM.len_fR]; omega) | (simp [jM.len_nw, jM.len_sI, jM.len_sL, jM.len_sR, jM.len_fI, jM.len_fL, jM.len_fR, *]; omega)) ?_
                                               exact mQ.of (by unfold sp_layer layV; (repeat (first | rw [if_pos (by omega)] | rw [if_neg (by omega)]))))
                                          · first
                                            | (exfalso; omega)
                                            | (first | refine J.aload_n (pc' := 144) rfl rfl rfl ?_ | refine J.aload_nN (pc' := 144) rfl rfl rfl ?_
                                               refine J.iload (pc' := 146) rfl rfl rfl ?_
                                               refine J.iload_n (pc' := 147) rfl rfl rfl ?_
                                               refine J.iconst (pc' := 148) rfl rfl ?_
                                               refine J.isub (pc' := 149) rfl rfl ?_
                                               refine J.iconst (pc' := 150) rfl rfl ?_
                                               refine J.idiv (pc' := 151) rfl rfl (by first | omega | (exact R.r _ _) | (simp only [jM.len_sI, jM.len_sL, jM.len_sR, jM.len_fI, jM.len_fL, jM.len_fR]; omega) | (simp [jM.len_nw, jM.len_sI, jM.len_sL, jM.len_sR, jM.len_fI, jM.len_fL, jM.len_fR, *]; omega)) (by first | omega | (exact R.r _ _) | (simp only [jM.len_sI, jM.len_sL, jM.len_sR, jM.len_fI, jM.len_fL, jM.len_fR]; omega) | (simp [jM.len_nw, jM.len_sI, jM.len_sL, jM.len_sR, jM.len_fI, jM.len_fL, jM.len_fR, *]; omega)) (by first | omega | (exact R.r _ _) | (simp only [jM.len_sI, jM.len_sL, jM.len_sR, jM.len_fI, jM.len_fL, jM.len_fR]; omega) | (simp [jM.len_nw, jM.len_sI, jM.len_sL, jM.len_sR, jM.len_fI, jM.len_fL, jM.len_fR, *]; omega)) ?_
                                               rw [Int.tdiv_eq_ediv_of_nonneg (by omega)]
                                               refine J.callV (pc' := 154) (t := 16) rfl MX12_lowOfLayer ml_X12_304 iv_X12_lowOfLayer (by decide) ⟨_, rfl, rfl⟩ B.1 (cm_lowL B R (by omega) (by omega)) rfl rfl (Nat.le_of_ble_eq_true rfl) (by first | omega | (exact R.r _ _) | (simp only [jM.len_sI, jM.len_sL, jM.len_sR, jM.len_fI, jM.len_fL, jM.len_fR]; omega) | (simp [jM.len_nw, jM.len_sI, jM.len_sL, jM.len_sR, jM.len_fI, jM.len_fL, jM.len_fR, *]; omega)) (by first | omega | (exact R.r _ _) | (simp only [jM.len_sI, jM.len_sL, jM.len_sR, jM.len_fI, jM.len_fL, jM.len_fR]; omega) | (simp [jM.len_nw, jM.len_sI, jM.len_sL, jM.len_sR, jM.len_fI, jM.len_fL, jM.len_fR, *]; omega)) (by first | omega | (exact R.r _ _) | (simp only [jM.len_sI, jM.len_sL, jM.len_sR, jM.len_fI, jM.len_fL, jM.len_fR]; omega) | (simp [jM.len_nw, jM.len_sI, jM.len_sL, jM.len_sR, jM.len_fI, jM.len_fL, jM.len_fR, *]; omega)) rfl rfl ?_ ?_
                                               · exact fun _ _ h => h
                                               rintro _ _ ⟨rfl, rfl⟩
                                               refine J.goto (tgt := 168) rfl rfl ?_
                                               refine J.iret rfl rfl (by first | omega | (exact R.r _ _) | (simp only [jM.len_sI, jM.len_sL, jM.len_sR, jM.len_fI, jM.len_fL, jM.len_fR]; omega) | (simp [jM.len_nw, jM.len_sI, jM.len_sL, jM.len_sR, jM.len_fI, jM.len_fL, jM.len_fR, *]; omega)) (by first | omega | (exact R.r _ _) | (simp only [jM.len_sI, jM.len_sL, jM.len_sR, jM.len_fI, jM.len_fL, jM.len_fR]; omega) | (simp [jM.len_nw, jM.len_sI, jM.len_sL, jM.len_sR, jM.len_fI, jM.len_fL, jM.len_fR, *]; omega)) ?_
                                               exact mQ.of (by unfold sp_layer layV; (repeat (first | rw [if_pos (by omega)] | rw [if_neg (by omega)])))))
                                     rcases k85 with _ | _ | _ | k85
                                     · first
                                       | (exfalso; omega)
                                       | (first | refine J.aload_n (pc' := 113) rfl rfl rfl ?_ | refine J.aload_nN (pc' := 113) rfl rfl rfl ?_
                                          refine J.mgR (pc' := 116) (t := 139) B rfl fl_X12_94 rfl rfl (by decide) rfl ?_
                                          refine J.iload (pc' := 118) rfl rfl rfl ?_
                                          refine J.mald (pc' := 119) B rfl rfl rfl (by omega) (by simp only [jLn]; omega) rfl ?_
                                          refine J.iret rfl rfl (by first | omega | (exact R.r _ _) | (simp only [jM.len_sI, jM.len_sL, jM.len_sR, jM.len_fI, jM.len_fL, jM.len_fR]; omega) | (simp [jM.len_nw, jM.len_sI, jM.len_sL, jM.len_sR, jM.len_fI, jM.len_fL, jM.len_fR, *]; omega)) (by first | omega | (exact R.r _ _) | (simp only [jM.len_sI, jM.len_sL, jM.len_sR, jM.len_fI, jM.len_fL, jM.len_fR]; omega) | (simp [jM.len_nw, jM.len_sI, jM.len_sL, jM.len_sR, jM.len_fI, jM.len_fL, jM.len_fR, *]; omega)) ?_
                                          exact mQ.of (by unfold sp_layer layV; (repeat (first | rw [if_pos (by omega)] | rw [if_neg (by omega)]))))
                                     · first
                                       | (exfalso; omega)
                                       | (first | refine J.aload_n (pc' := 121) rfl rfl rfl ?_ | refine J.aload_nN (pc' := 121) rfl rfl rfl ?_
                                          refine J.mgR (pc' := 124) (t := 140) B rfl fl_X12_97 rfl rfl (by decide) rfl ?_
                                          refine J.iload (pc' := 126) rfl rfl rfl ?_
                                          refine J.mald (pc' := 127) B rfl rfl rfl (by omega) (by simp only [jLn]; omega) rfl ?_
                                          refine J.iret rfl rfl (by first | omega | (exact R.r _ _) | (simp only [jM.len_sI, jM.len_sL, jM.len_sR, jM.len_fI, jM.len_fL, jM.len_fR]; omega) | (simp [jM.len_nw, jM.len_sI, jM.len_sL, jM.len_sR, jM.len_fI, jM.len_fL, jM.len_fR, *]; omega)) (by first | omega | (exact R.r _ _) | (simp only [jM.len_sI, jM.len_sL, jM.len_sR, jM.len_fI, jM.len_fL, jM.len_fR]; omega) | (simp [jM.len_nw, jM.len_sI, jM.len_sL, jM.len_sR, jM.len_fI, jM.len_fL, jM.len_fR, *]; omega)) ?_
                                          exact mQ.of (by unfold sp_layer layV; (repeat (first | rw [if_pos (by omega)] | rw [if_neg (by omega)]))))
                                     · first
                                       | (exfalso; omega)
                                       | (first | refine J.aload_n (pc' := 129) rfl rfl rfl ?_ | refine J.aload_nN (pc' := 129) rfl rfl rfl ?_
                                          refine J.mgR (pc' := 132) (t := 141) B rfl fl_X12_100 rfl rfl (by decide) rfl ?_
                                          refine J.iload (pc' := 134) rfl rfl rfl ?_
                                          refine J.mald (pc' := 135) B rfl rfl rfl (by omega) (by simp only [jLn]; omega) rfl ?_
                                          refine J.iret rfl rfl (by first | omega | (exact R.r _ _) | (simp only [jM.len_sI, jM.len_sL, jM.len_sR, jM.len_fI, jM.len_fL, jM.len_fR]; omega) | (simp [jM.len_nw, jM.len_sI, jM.len_sL, jM.len_sR, jM.len_fI, jM.len_fL, jM.len_fR, *]; omega)) (by first | omega | (exact R.r _ _) | (simp only [jM.len_sI, jM.len_sL, jM.len_sR, jM.len_fI, jM.len_fL, jM.len_fR]; omega) | (simp [jM.len_nw, jM.len_sI, jM.len_sL, jM.len_sR, jM.len_fI, jM.len_fL, jM.len_fR, *]; omega)) ?_
                                          exact mQ.of (by unfold sp_layer layV; (repeat (first | rw [if_pos (by omega)] | rw [if_neg (by omega)]))))
                                     · omega)
                                · first
                                  | (exfalso; omega)
                                  | (refine J.iconst (pc' := 66) rfl rfl ?_
                                     refine J.iret rfl rfl (by first | omega | (exact R.r _ _) | (simp only [jM.len_sI, jM.len_sL, jM.len_sR, jM.len_fI, jM.len_fL, jM.len_fR]; omega) | (simp [jM.len_nw, jM.len_sI, jM.len_sL, jM.len_sR, jM.len_fI, jM.len_fL, jM.len_fR, *]; omega)) (by first | omega | (exact R.r _ _) | (simp only [jM.len_sI, jM.len_sL, jM.len_sR, jM.len_fI, jM.len_fL, jM.len_fR]; omega) | (simp [jM.len_nw, jM.len_sI, jM.len_sL, jM.len_sR, jM.len_fI, jM.len_fL, jM.len_fR, *]; omega)) ?_
                                     exact mQ.of (by unfold sp_layer layV; (repeat (first | rw [if_pos (by omega)] | rw [if_neg (by omega)])))))
                           · first
                             | (exfalso; omega)
                             | (refine J.iconst (pc' := 54) rfl rfl ?_
                                refine J.goto (tgt := 58) rfl rfl ?_
                                refine J.iconst (pc' := 59) rfl rfl ?_
                                first | refine J.callV (pc' := 62) (t := 16) rfl MX12_may ml_X12_161 iv_X12_may (by decide) ⟨_, rfl, rfl⟩ B.1 (cm_may1 B h0) rfl rfl (Nat.le_of_ble_eq_true rfl) (by first | omega | (exact R.r _ _) | (simp only [jM.len_sI, jM.len_sL, jM.len_sR, jM.len_fI, jM.len_fL, jM.len_fR]; omega) | (simp [jM.len_nw, jM.len_sI, jM.len_sL, jM.len_sR, jM.len_fI, jM.len_fL, jM.len_fR, *]; omega)) (by first | omega | (exact R.r _ _) | (simp only [jM.len_sI, jM.len_sL, jM.len_sR, jM.len_fI, jM.len_fL, jM.len_fR]; omega) | (simp [jM.len_nw, jM.len_sI, jM.len_sL, jM.len_sR, jM.len_fI, jM.len_fL, jM.len_fR, *]; omega)) (by first | omega | (exact R.r _ _) | (simp only [jM.len_sI, jM.len_sL, jM.len_sR, jM.len_fI, jM.len_fL, jM.len_fR]; omega) | (simp [jM.len_nw, jM.len_sI, jM.len_sL, jM.len_sR, jM.len_fI, jM.len_fL, jM.len_fR, *]; omega)) rfl rfl ?_ ?_ | refine J.callV (pc' := 62) (t := 16) rfl MX12_may ml_X12_161 iv_X12_may (by decide) ⟨_, rfl, rfl⟩ B.1 (cm_may0 B h0 (by omega)) rfl rfl (Nat.le_of_ble_eq_true rfl) (by first | omega | (exact R.r _ _) | (simp only [jM.len_sI, jM.len_sL, jM.len_sR, jM.len_fI, jM.len_fL, jM.len_fR]; omega) | (simp [jM.len_nw, jM.len_sI, jM.len_sL, jM.len_sR, jM.len_fI, jM.len_fL, jM.len_fR, *]; omega)) (by first | omega | (exact R.r _ _) | (simp only [jM.len_sI, jM.len_sL, jM.len_sR, jM.len_fI, jM.len_fL, jM.len_fR]; omega) | (simp [jM.len_nw, jM.len_sI, jM.len_sL, jM.len_sR, jM.len_fI, jM.len_fL, jM.len_fR, *]; omega)) (by first | omega | (exact R.r _ _) | (simp only [jM.len_sI, jM.len_sL, jM.len_sR, jM.len_fI, jM.len_fL, jM.len_fR]; omega) | (simp [jM.len_nw, jM.len_sI, jM.len_sL, jM.len_sR, jM.len_fI, jM.len_fL, jM.len_fR, *]; omega)) rfl rfl ?_ ?_
                                · exact fun _ _ h => h
                                rintro _ _ ⟨rfl, rfl⟩
                                refine J.if_ne (tgt := 67) (pc' := 65) rfl rfl rfl (by first | omega | (exact R.r _ _) | (simp only [jM.len_sI, jM.len_sL, jM.len_sR, jM.len_fI, jM.len_fL, jM.len_fR]; omega) | (simp [jM.len_nw, jM.len_sI, jM.len_sL, jM.len_sR, jM.len_fI, jM.len_fL, jM.len_fR, *]; omega)) (fun c62 => ?_) (fun c62 => ?_)
                                · first
                                  | (exfalso; omega)
                                  | (refine J.bipush (pc' := 69) rfl rfl (by decide) ?_
                                     refine J.iload_n (pc' := 70) rfl rfl rfl ?_
                                     refine J.imul (pc' := 71) rfl rfl ?_
                                     first | refine J.aload_n (pc' := 72) rfl rfl rfl ?_ | refine J.aload_nN (pc' := 72) rfl rfl rfl ?_
                                     refine J.mgR (pc' := 75) (t := 138) B rfl fl_X12_91 rfl rfl (by decide) rfl ?_
                                     refine J.iload_n (pc' := 76) rfl rfl rfl ?_
                                     refine J.mald (pc' := 77) B rfl rfl rfl (by omega) (by simp only [jLn]; omega) rfl ?_
                                     refine J.iadd (pc' := 78) rfl rfl ?_
                                     refine J.iconst (pc' := 79) rfl rfl ?_
                                     refine J.isub (pc' := 80) rfl rfl ?_
                                     refine J.iload_n (pc' := 81) rfl rfl rfl ?_
                                     refine J.isub (pc' := 82) rfl rfl ?_
                                     refine J.istore (pc' := 84) rfl rfl (by decide) ?_
                                     refine J.iload_n (pc' := 85) rfl rfl rfl ?_
                                     refine J.tsw (tgt := 136) (n := 3) (T := jNth [112, 120, 128]) rfl (by first | omega | (exact R.r _ _) | (simp only [jM.len_sI, jM.len_sL, jM.len_sR, jM.len_fI, jM.len_fL, jM.len_fR]; omega) | (simp [jM.len_nw, jM.len_sI, jM.len_sL, jM.len_sR, jM.len_fI, jM.len_fL, jM.len_fR, *]; omega)) rfl rfl (fun k hk => by rcases k with _ | _ | _ | k <;> first | exact ⟨_, rfl, rfl⟩ | omega) (fun c85 => ?_) (fun k85 hk85 c85 => ?_)
                                     · first
                                       | (exfalso; omega)
                                       | (refine J.iload_n (pc' := 137) rfl rfl rfl ?_
                                          refine J.iconst (pc' := 138) rfl rfl ?_
                                          refine J.irem (pc' := 139) rfl rfl (by first | omega | (exact R.r _ _) | (simp only [jM.len_sI, jM.len_sL, jM.len_sR, jM.len_fI, jM.len_fL, jM.len_fR]; omega) | (simp [jM.len_nw, jM.len_sI, jM.len_sL, jM.len_sR, jM.len_fI, jM.len_fL, jM.len_fR, *]; omega)) (by first | omega | (exact R.r _ _) | (simp only [jM.len_sI, jM.len_sL, jM.len_sR, jM.len_fI, jM.len_fL, jM.len_fR]; omega) | (simp [jM.len_nw, jM.len_sI, jM.len_sL, jM.len_sR, jM.len_fI, jM.len_fL, jM.len_fR, *]; omega)) (by first | omega | (exact R.r _ _) | (simp only [jM.len_sI, jM.len_sL, jM.len_sR, jM.len_fI, jM.len_fL, jM.len_fR]; omega) | (simp [jM.len_nw, jM.len_sI, jM.len_sL, jM.len_sR, jM.len_fI, jM.len_fL, jM.len_fR, *]; omega)) ?_
                                          rw [Int.tmod_eq_emod_of_nonneg (by omega)]
                                          refine J.iconst (pc' := 140) rfl rfl ?_
                                          refine J.icmp_ne (tgt := 157) (pc' := 143) rfl rfl rfl (by first | omega | (exact R.r _ _) | (simp only [jM.len_sI, jM.len_sL, jM.len_sR, jM.len_fI, jM.len_fL, jM.len_fR]; omega) | (simp [jM.len_nw, jM.len_sI, jM.len_sL, jM.len_sR, jM.len_fI, jM.len_fL, jM.len_fR, *]; omega)) (by first | omega | (exact R.r _ _) | (simp only [jM.len_sI, jM.len_sL, jM.len_sR, jM.len_fI, jM.len_fL, jM.len_fR]; omega) | (simp [jM.len_nw, jM.len_sI, jM.len_sL, jM.len_sR, jM.len_fI, jM.len_fL, jM.len_fR, *]; omega)) (fun c140 => ?_) (fun c140 => ?_)
                                          · first
                                            | (exfalso; omega)
                                            | (first | refine J.aload_n (pc' := 158) rfl rfl rfl ?_ | refine J.aload_nN (pc' := 158) rfl rfl rfl ?_
                                               refine J.iload (pc' := 160) rfl rfl rfl ?_
                                               refine J.iload_n (pc' := 161) rfl rfl rfl ?_
                                               refine J.iconst (pc' := 162) rfl rfl ?_
                                               refine J.isub (pc' := 163) rfl rfl ?_
                                               refine J.iconst (pc' := 164) rfl rfl ?_
                                               refine J.idiv (pc' := 165) rfl rfl (by first | omega | (exact R.r _ _) | (simp only [jM.len_sI, jM.len_sL, jM.len_sR, jM.len_fI, jM.len_fL, jM.len_fR]; omega) | (simp [jM.len_nw, jM.len_sI, jM.len_sL, jM.len_sR, jM.len_fI, jM.len_fL, jM.len_fR, *]; omega)) (by first | omega | (exact R.r _ _) | (simp only [jM.len_sI, jM.len_sL, jM.len_sR, jM.len_fI, jM.len_fL, jM.len_fR]; omega) | (simp [jM.len_nw, jM.len_sI, jM.len_sL, jM.len_sR, jM.len_fI, jM.len_fL, jM.len_fR, *]; omega)) (by first | omega | (exact R.r _ _) | (simp only [jM.len_sI, jM.len_sL, jM.len_sR, jM.len_fI, jM.len_fL, jM.len_fR]; omega) | (simp [jM.len_nw, jM.len_sI, jM.len_sL, jM.len_sR, jM.len_fI, jM.len_fL, jM.len_fR, *]; omega)) ?_
                                               rw [Int.tdiv_eq_ediv_of_nonneg (by omega)]
                                               refine J.callV (pc' := 168) (t := 16) rfl MX12_highOfLayer ml_X12_307 iv_X12_highOfLayer (by decide) ⟨_, rfl, rfl⟩ B.1 (cm_highL B R (by omega) (by omega)) rfl rfl (Nat.le_of_ble_eq_true rfl) (by first | omega | (exact R.r _ _) | (simp only [jM.len_sI, jM.len_sL, jM.len_sR, jM.len_fI, jM.len_fL, jM.len_fR]; omega) | (simp [jM.len_nw, jM.len_sI, jM.len_sL, jM.len_sR, jM.len_fI, jM.len_fL, jM.len_fR, *]; omega)) (by first | omega | (exact R.r _ _) | (simp only [jM.len_sI, jM.len_sL, jM.len_sR, jM.len_fI, jM.len_fL, jM.len_fR]; omega) | (simp [jM.len_nw, jM.len_sI, jM.len_sL, jM.len_sR, jM.len_fI, jM.len_fL, jM.len_fR, *]; omega)) (by first | omega | (exact R.r _ _) | (simp only [jM.len_sI, jM.len_sL, jM.len_sR, jM.len_fI, jM.len_fL, jM.len_fR]; omega) | (simp [jM.len_nw, jM.len_sI, jM.len_sL, jM.len_sR, jM.len_fI, jM.len_fL, jM.len_fR, *]; omega)) rfl rfl ?_ ?_
                                               · exact fun _ _ h => h
                                               rintro _ _ ⟨rfl, rfl⟩
                                               refine J.iret rfl rfl (by first | omega | (exact R.r _ _) | (simp only [jM.len_sI, jM.len_sL, jM.len_sR, jM.len_fI, jM.len_fL, jM.len_fR]; omega) | (simp [jM.len_nw, jM.len_sI, jM.len_sL, jM.len_sR, jM.len_fI, jM.len_fL, jM.len_fR, *]; omega)) (by first | omega | (exact R.r _ _) | (simp only [jM.len_sI, jM.len_sL, jM.len_sR, jM.len_fI, jM.len_fL, jM.len_fR]; omega) | (simp [jM.len_nw, jM.len_sI, jM.len_sL, jM.len_sR, jM.len_fI, jM.len_fL, jM.len_fR, *]; omega)) ?_
                                               exact mQ.of (by unfold sp_layer layV; (repeat (first | rw [if_pos (by omega)] | rw [if_neg (by omega)]))))
                                          · first
                                            | (exfalso; omega)
                                            | (first | refine J.aload_n (pc' := 144) rfl rfl rfl ?_ | refine J.aload_nN (pc' := 144) rfl rfl rfl ?_
                                               refine J.iload (pc' := 146) rfl rfl rfl ?_
                                               refine J.iload_n (pc' := 147) rfl rfl rfl ?_
                                               refine J.iconst (pc' := 148) rfl rfl ?_
                                               refine J.isub (pc' := 149) rfl rfl ?_
                                               refine J.iconst (pc' := 150) rfl rfl ?_
                                               refine J.idiv (pc' := 151) rfl rfl (by first | omega | (exact R.r _ _) | (simp only [jM.len_sI, jM.len_sL, jM.len_sR, jM.len_fI, jM.len_fL, jM.len_fR]; omega) | (simp [jM.len_nw, jM.len_sI, jM.len_sL, jM.len_sR, jM.len_fI, jM.len_fL, jM.len_fR, *]; omega)) (by first | omega | (exact R.r _ _) | (simp only [jM.len_sI, jM.len_sL, jM.len_sR, jM.len_fI, jM.len_fL, jM.len_fR]; omega) | (simp [jM.len_nw, jM.len_sI, jM.len_sL, jM.len_sR, jM.len_fI, jM.len_fL, jM.len_fR, *]; omega)) (by first | omega | (exact R.r _ _) | (simp only [jM.len_sI, jM.len_sL, jM.len_sR, jM.len_fI, jM.len_fL, jM.len_fR]; omega) | (simp [jM.len_nw, jM.len_sI, jM.len_sL, jM.len_sR, jM.len_fI, jM.len_fL, jM.len_fR, *]; omega)) ?_
                                               rw [Int.tdiv_eq_ediv_of_nonneg (by omega)]
                                               refine J.callV (pc' := 154) (t := 16) rfl MX12_lowOfLayer ml_X12_304 iv_X12_lowOfLayer (by decide) ⟨_, rfl, rfl⟩ B.1 (cm_lowL B R (by omega) (by omega)) rfl rfl (Nat.le_of_ble_eq_true rfl) (by first | omega | (exact R.r _ _) | (simp only [jM.len_sI, jM.len_sL, jM.len_sR, jM.len_fI, jM.len_fL, jM.len_fR]; omega) | (simp [jM.len_nw, jM.len_sI, jM.len_sL, jM.len_sR, jM.len_fI, jM.len_fL, jM.len_fR, *]; omega)) (by first | omega | (exact R.r _ _) | (simp only [jM.len_sI, jM.len_sL, jM.len_sR, jM.len_fI, jM.len_fL, jM.len_fR]; omega) | (simp [jM.len_nw, jM.len_sI, jM.len_sL, jM.len_sR, jM.len_fI, jM.len_fL, jM.len_fR, *]; omega)) (by first | omega | (exact R.r _ _) | (simp only [jM.len_sI, jM.len_sL, jM.len_sR, jM.len_fI, jM.len_fL, jM.len_fR]; omega) | (simp [jM.len_nw, jM.len_sI, jM.len_sL, jM.len_sR, jM.len_fI, jM.len_fL, jM.len_fR, *]; omega)) rfl rfl ?_ ?_
                                               · exact fun _ _ h => h
                                               rintro _ _ ⟨rfl, rfl⟩
                                               refine J.goto (tgt := 168) rfl rfl ?_
                                               refine J.iret rfl rfl (by first | omega | (exact R.r _ _) | (simp only [jM.len_sI, jM.len_sL, jM.len_sR, jM.len_fI, jM.len_fL, jM.len_fR]; omega) | (simp [jM.len_nw, jM.len_sI, jM.len_sL, jM.len_sR, jM.len_fI, jM.len_fL, jM.len_fR, *]; omega)) (by first | omega | (exact R.r _ _) | (simp only [jM.len_sI, jM.len_sL, jM.len_sR, jM.len_fI, jM.len_fL, jM.len_fR]; omega) | (simp [jM.len_nw, jM.len_sI, jM.len_sL, jM.len_sR, jM.len_fI, jM.len_fL, jM.len_fR, *]; omega)) ?_
                                               exact mQ.of (by unfold sp_layer layV; (repeat (first | rw [if_pos (by omega)] | rw [if_neg (by omega)])))))
                                     rcases k85 with _ | _ | _ | k85
                                     · first
                                       | (exfalso; omega)
                                       | (first | refine J.aload_n (pc' := 113) rfl rfl rfl ?_ | refine J.aload_nN (pc' := 113) rfl rfl rfl ?_
                                          refine J.mgR (pc' := 116) (t := 139) B rfl fl_X12_94 rfl rfl (by decide) rfl ?_
                                          refine J.iload (pc' := 118) rfl rfl rfl ?_
                                          refine J.mald (pc' := 119) B rfl rfl rfl (by omega) (by simp only [jLn]; omega) rfl ?_
                                          refine J.iret rfl rfl (by first | omega | (exact R.r _ _) | (simp only [jM.len_sI, jM.len_sL, jM.len_sR, jM.len_fI, jM.len_fL, jM.len_fR]; omega) | (simp [jM.len_nw, jM.len_sI, jM.len_sL, jM.len_sR, jM.len_fI, jM.len_fL, jM.len_fR, *]; omega)) (by first | omega | (exact R.r _ _) | (simp only [jM.len_sI, jM.len_sL, jM.len_sR, jM.len_fI, jM.len_fL, jM.len_fR]; omega) | (simp [jM.len_nw, jM.len_sI, jM.len_sL, jM.len_sR, jM.len_fI, jM.len_fL, jM.len_fR, *]; omega)) ?_
                                          exact mQ.of (by unfold sp_layer layV; (repeat (first | rw [if_pos (by omega)] | rw [if_neg (by omega)]))))
                                     · first
                                       | (exfalso; omega)
                                       | (first | refine J.aload_n (pc' := 121) rfl rfl rfl ?_ | refine J.aload_nN (pc' := 121) rfl rfl rfl ?_
                                          refine J.mgR (pc' := 124) (t := 140) B rfl fl_X12_97 rfl rfl (by decide) rfl ?_
                                          refine J.iload (pc' := 126) rfl rfl rfl ?_
                                          refine J.mald (pc' := 127) B rfl rfl rfl (by omega) (by simp only [jLn]; omega) rfl ?_
                                          refine J.iret rfl rfl (by first | omega | (exact R.r _ _) | (simp only [jM.len_sI, jM.len_sL, jM.len_sR, jM.len_fI, jM.len_fL, jM.len_fR]; omega) | (simp [jM.len_nw, jM.len_sI, jM.len_sL, jM.len_sR, jM.len_fI, jM.len_fL, jM.len_fR, *]; omega)) (by first | omega | (exact R.r _ _) | (simp only [jM.len_sI, jM.len_sL, jM.len_sR, jM.len_fI, jM.len_fL, jM.len_fR]; omega) | (simp [jM.len_nw, jM.len_sI, jM.len_sL, jM.len_sR, jM.len_fI, jM.len_fL, jM.len_fR, *]; omega)) ?_
                                          exact mQ.of (by unfold sp_layer layV; (repeat (first | rw [if_pos (by omega)] | rw [if_neg (by omega)]))))
                                     · first
                                       | (exfalso; omega)
                                       | (first | refine J.aload_n (pc' := 129) rfl rfl rfl ?_ | refine J.aload_nN (pc' := 129) rfl rfl rfl ?_
                                          refine J.mgR (pc' := 132) (t := 141) B rfl fl_X12_100 rfl rfl (by decide) rfl ?_
                                          refine J.iload (pc' := 134) rfl rfl rfl ?_
                                          refine J.mald (pc' := 135) B rfl rfl rfl (by omega) (by simp only [jLn]; omega) rfl ?_
                                          refine J.iret rfl rfl (by first | omega | (exact R.r _ _) | (simp only [jM.len_sI, jM.len_sL, jM.len_sR, jM.len_fI, jM.len_fL, jM.len_fR]; omega) | (simp [jM.len_nw, jM.len_sI, jM.len_sL, jM.len_sR, jM.len_fI, jM.len_fL, jM.len_fR, *]; omega)) (by first | omega | (exact R.r _ _) | (simp only [jM.len_sI, jM.len_sL, jM.len_sR, jM.len_fI, jM.len_fL, jM.len_fR]; omega) | (simp [jM.len_nw, jM.len_sI, jM.len_sL, jM.len_sR, jM.len_fI, jM.len_fL, jM.len_fR, *]; omega)) ?_
                                          exact mQ.of (by unfold sp_layer layV; (repeat (first | rw [if_pos (by omega)] | rw [if_neg (by omega)]))))
                                     · omega)
                                · first
                                  | (exfalso; omega)
                                  | (refine J.iconst (pc' := 66) rfl rfl ?_
                                     refine J.iret rfl rfl (by first | omega | (exact R.r _ _) | (simp only [jM.len_sI, jM.len_sL, jM.len_sR, jM.len_fI, jM.len_fL, jM.len_fR]; omega) | (simp [jM.len_nw, jM.len_sI, jM.len_sL, jM.len_sR, jM.len_fI, jM.len_fL, jM.len_fR, *]; omega)) (by first | omega | (exact R.r _ _) | (simp only [jM.len_sI, jM.len_sL, jM.len_sR, jM.len_fI, jM.len_fL, jM.len_fR]; omega) | (simp [jM.len_nw, jM.len_sI, jM.len_sL, jM.len_sR, jM.len_fI, jM.len_fL, jM.len_fR, *]; omega)) ?_
                                     exact mQ.of (by unfold sp_layer layV; (repeat (first | rw [if_pos (by omega)] | rw [if_neg (by omega)]))))))))
            · first
              | (exfalso; omega)
              | (refine J.iload_n (pc' := 21) rfl rfl rfl ?_
                 first | refine J.aload_n (pc' := 22) rfl rfl rfl ?_ | refine J.aload_nN (pc' := 22) rfl rfl rfl ?_
                 refine J.mgR (pc' := 25) (t := 138) B rfl fl_X12_91 rfl rfl (by decide) rfl ?_
                 refine J.iload_n (pc' := 26) rfl rfl rfl ?_
                 refine J.mald (pc' := 27) B rfl rfl rfl (by omega) (by simp only [jLn]; omega) rfl ?_
                 refine J.icmp_ge (tgt := 34) (pc' := 30) rfl rfl rfl (by first | omega | (exact R.r _ _) | (simp only [jM.len_sI, jM.len_sL, jM.len_sR, jM.len_fI, jM.len_fL, jM.len_fR]; omega) | (simp [jM.len_nw, jM.len_sI, jM.len_sL, jM.len_sR, jM.len_fI, jM.len_fL, jM.len_fR, *]; omega)) (by first | omega | (exact R.r _ _) | (simp only [jM.len_sI, jM.len_sL, jM.len_sR, jM.len_fI, jM.len_fL, jM.len_fR]; omega) | (simp [jM.len_nw, jM.len_sI, jM.len_sL, jM.len_sR, jM.len_fI, jM.len_fL, jM.len_fR, *]; omega)) (fun c27 => ?_) (fun c27 => ?_)
                 · first
                   | (exfalso; omega)
                   | (refine J.iconst (pc' := 35) rfl rfl ?_
                      refine J.iconst (pc' := 36) rfl rfl ?_
                      first | refine J.callV (pc' := 39) (t := 16) rfl MX12_may ml_X12_161 iv_X12_may (by decide) ⟨_, rfl, rfl⟩ B.1 (cm_may1 B h0) rfl rfl (Nat.le_of_ble_eq_true rfl) (by first | omega | (exact R.r _ _) | (simp only [jM.len_sI, jM.len_sL, jM.len_sR, jM.len_fI, jM.len_fL, jM.len_fR]; omega) | (simp [jM.len_nw, jM.len_sI, jM.len_sL, jM.len_sR, jM.len_fI, jM.len_fL, jM.len_fR, *]; omega)) (by first | omega | (exact R.r _ _) | (simp only [jM.len_sI, jM.len_sL, jM.len_sR, jM.len_fI, jM.len_fL, jM.len_fR]; omega) | (simp [jM.len_nw, jM.len_sI, jM.len_sL, jM.len_sR, jM.len_fI, jM.len_fL, jM.len_fR, *]; omega)) (by first | omega | (exact R.r _ _) | (simp only [jM.len_sI, jM.len_sL, jM.len_sR, jM.len_fI, jM.len_fL, jM.len_fR]; omega) | (simp [jM.len_nw, jM.len_sI, jM.len_sL, jM.len_sR, jM.len_fI, jM.len_fL, jM.len_fR, *]; omega)) rfl rfl ?_ ?_ | refine J.callV (pc' := 39) (t := 16) rfl MX12_may ml_X12_161 iv_X12_may (by decide) ⟨_, rfl, rfl⟩ B.1 (cm_may0 B h0 (by omega)) rfl rfl (Nat.le_of_ble_eq_true rfl) (by first | omega | (exact R.r _ _) | (simp only [jM.len_sI, jM.len_sL, jM.len_sR, jM.len_fI, jM.len_fL, jM.len_fR]; omega) | (simp [jM.len_nw, jM.len_sI, jM.len_sL, jM.len_sR, jM.len_fI, jM.len_fL, jM.len_fR, *]; omega)) (by first | omega | (exact R.r _ _) | (simp only [jM.len_sI, jM.len_sL, jM.len_sR, jM.len_fI, jM.len_fL, jM.len_fR]; omega) | (simp [jM.len_nw, jM.len_sI, jM.len_sL, jM.len_sR, jM.len_fI, jM.len_fL, jM.len_fR, *]; omega)) (by first | omega | (exact R.r _ _) | (simp only [jM.len_sI, jM.len_sL, jM.len_sR, jM.len_fI, jM.len_fL, jM.len_fR]; omega) | (simp [jM.len_nw, jM.len_sI, jM.len_sL, jM.len_sR, jM.len_fI, jM.len_fL, jM.len_fR, *]; omega)) rfl rfl ?_ ?_
                      · exact fun _ _ h => h
                      rintro _ _ ⟨rfl, rfl⟩
                      refine J.if_eq (tgt := 65) (pc' := 42) rfl rfl rfl (by first | omega | (exact R.r _ _) | (simp only [jM.len_sI, jM.len_sL, jM.len_sR, jM.len_fI, jM.len_fL, jM.len_fR]; omega) | (simp [jM.len_nw, jM.len_sI, jM.len_sL, jM.len_sR, jM.len_fI, jM.len_fL, jM.len_fR, *]; omega)) (fun c39 => ?_) (fun c39 => ?_)
                      · first
                        | (exfalso; omega)
                        | (refine J.iconst (pc' := 66) rfl rfl ?_
                           refine J.iret rfl rfl (by first | omega | (exact R.r _ _) | (simp only [jM.len_sI, jM.len_sL, jM.len_sR, jM.len_fI, jM.len_fL, jM.len_fR]; omega) | (simp [jM.len_nw, jM.len_sI, jM.len_sL, jM.len_sR, jM.len_fI, jM.len_fL, jM.len_fR, *]; omega)) (by first | omega | (exact R.r _ _) | (simp only [jM.len_sI, jM.len_sL, jM.len_sR, jM.len_fI, jM.len_fL, jM.len_fR]; omega) | (simp [jM.len_nw, jM.len_sI, jM.len_sL, jM.len_sR, jM.len_fI, jM.len_fL, jM.len_fR, *]; omega)) ?_
                           exact mQ.of (by unfold sp_layer layV; (repeat (first | rw [if_pos (by omega)] | rw [if_neg (by omega)]))))
                      · first
                        | (exfalso; omega)
                        | (first | refine J.aload_n (pc' := 43) rfl rfl rfl ?_ | refine J.aload_nN (pc' := 43) rfl rfl rfl ?_
                           refine J.iload_n (pc' := 44) rfl rfl rfl ?_
                           refine J.if_lt (tgt := 57) (pc' := 47) rfl rfl rfl (by first | omega | (exact R.r _ _) | (simp only [jM.len_sI, jM.len_sL, jM.len_sR, jM.len_fI, jM.len_fL, jM.len_fR]; omega) | (simp [jM.len_nw, jM.len_sI, jM.len_sL, jM.len_sR, jM.len_fI, jM.len_fL, jM.len_fR, *]; omega)) (fun c44 => ?_) (fun c44 => ?_)
                           · first
                             | (exfalso; omega)
                             | (refine J.iconst (pc' := 58) rfl rfl ?_
                                refine J.iconst (pc' := 59) rfl rfl ?_
                                first | refine J.callV (pc' := 62) (t := 16) rfl MX12_may ml_X12_161 iv_X12_may (by decide) ⟨_, rfl, rfl⟩ B.1 (cm_may1 B h0) rfl rfl (Nat.le_of_ble_eq_true rfl) (by first | omega | (exact R.r _ _) | (simp only [jM.len_sI, jM.len_sL, jM.len_sR, jM.len_fI, jM.len_fL, jM.len_fR]; omega) | (simp [jM.len_nw, jM.len_sI, jM.len_sL, jM.len_sR, jM.len_fI, jM.len_fL, jM.len_fR, *]; omega)) (by first | omega | (exact R.r _ _) | (simp only [jM.len_sI, jM.len_sL, jM.len_sR, jM.len_fI, jM.len_fL, jM.len_fR]; omega) | (simp [jM.len_nw, jM.len_sI, jM.len_sL, jM.len_sR, jM.len_fI, jM.len_fL, jM.len_fR, *]; omega)) (by first | omega | (exact R.r _ _) | (simp only [jM.len_sI, jM.len_sL, jM.len_sR, jM.len_fI, jM.len_fL, jM.len_fR]; omega) | (simp [jM.len_nw, jM.len_sI, jM.len_sL, jM.len_sR, jM.len_fI, jM.len_fL, jM.len_fR, *]; omega)) rfl rfl ?_ ?_ | refine J.callV (pc' := 62) (t := 16) rfl MX12_may ml_X12_161 iv_X12_may (by decide) ⟨_, rfl, rfl⟩ B.1 (cm_may0 B h0 (by omega)) rfl rfl (Nat.le_of_ble_eq_true rfl) (by first | omega | (exact R.r _ _) | (simp only [jM.len_sI, jM.len_sL, jM.len_sR, jM.len_fI, jM.len_fL, jM.len_fR]; omega) | (simp [jM.len_nw, jM.len_sI, jM.len_sL, jM.len_sR, jM.len_fI, jM.len_fL, jM.len_fR, *]; omega)) (by first | omega | (exact R.r _ _) | (simp only [jM.len_sI, jM.len_sL, jM.len_sR, jM.len_fI, jM.len_fL, jM.len_fR]; omega) | (simp [jM.len_nw, jM.len_sI, jM.len_sL, jM.len_sR, jM.len_fI, jM.len_fL, jM.len_fR, *]; omega)) (by first | omega | (exact R.r _ _) | (simp only [jM.len_sI, jM.len_sL, jM.len_sR, jM.len_fI, jM.len_fL, jM.len_fR]; omega) | (simp [jM.len_nw, jM.len_sI, jM.len_sL, jM.len_sR, jM.len_fI, jM.len_fL, jM.len_fR, *]; omega)) rfl rfl ?_ ?_
                                · exact fun _ _ h => h
                                rintro _ _ ⟨rfl, rfl⟩
                                refine J.if_ne (tgt := 67) (pc' := 65) rfl rfl rfl (by first | omega | (exact R.r _ _) | (simp only [jM.len_sI, jM.len_sL, jM.len_sR, jM.len_fI, jM.len_fL, jM.len_fR]; omega) | (simp [jM.len_nw, jM.len_sI, jM.len_sL, jM.len_sR, jM.len_fI, jM.len_fL, jM.len_fR, *]; omega)) (fun c62 => ?_) (fun c62 => ?_)
                                · first
                                  | (exfalso; omega)
                                  | (refine J.bipush (pc' := 69) rfl rfl (by decide) ?_
                                     refine J.iload_n (pc' := 70) rfl rfl rfl ?_
                                     refine J.imul (pc' := 71) rfl rfl ?_
                                     first | refine J.aload_n (pc' := 72) rfl rfl rfl ?_ | refine J.aload_nN (pc' := 72) rfl rfl rfl ?_
                                     refine J.mgR (pc' := 75) (t := 138) B rfl fl_X12_91 rfl rfl (by decide) rfl ?_
                                     refine J.iload_n (pc' := 76) rfl rfl rfl ?_
                                     refine J.mald (pc' := 77) B rfl rfl rfl (by omega) (by simp only [jLn]; omega) rfl ?_
                                     refine J.iadd (pc' := 78) rfl rfl ?_
                                     refine J.iconst (pc' := 79) rfl rfl ?_
                                     refine J.isub (pc' := 80) rfl rfl ?_
                                     refine J.iload_n (pc' := 81) rfl rfl rfl ?_
                                     refine J.isub (pc' := 82) rfl rfl ?_
                                     refine J.istore (pc' := 84) rfl rfl (by decide) ?_
                                     refine J.iload_n (pc' := 85) rfl rfl rfl ?_
                                     refine J.tsw (tgt := 136) (n := 3) (T := jNth [112, 120, 128]) rfl (by first | omega | (exact R.r _ _) | (simp only [jM.len_sI, jM.len_sL, jM.len_sR, jM.len_fI, jM.len_fL, jM.len_fR]; omega) | (simp [jM.len_nw, jM.len_sI, jM.len_sL, jM.len_sR, jM.len_fI, jM.len_fL, jM.len_fR, *]; omega)) rfl rfl (fun k hk => by rcases k with _ | _ | _ | k <;> first | exact ⟨_, rfl, rfl⟩ | omega) (fun c85 => ?_) (fun k85 hk85 c85 => ?_)
                                     · first
                                       | (exfalso; omega)
                                       | (refine J.iload_n (pc' := 137) rfl rfl rfl ?_
                                          refine J.iconst (pc' := 138) rfl rfl ?_
                                          refine J.irem (pc' := 139) rfl rfl (by first | omega | (exact R.r _ _) | (simp only [jM.len_sI, jM.len_sL, jM.len_sR, jM.len_fI, jM.len_fL, jM.len_fR]; omega) | (simp [jM.len_nw, jM.len_sI, jM.len_sL, jM.len_sR, jM.len_fI, jM.len_fL, jM.len_fR, *]; omega)) (by first | omega | (exact R.r _ _) | (simp only [jM.len_sI, jM.len_sL, jM.len_sR, jM.len_fI, jM.len_fL, jM.len_fR]; omega) | (simp [jM.len_nw, jM.len_sI, jM.len_sL, jM.len_sR, jM.len_fI, jM.len_fL, jM.len_fR, *]; omega)) (by first | omega | (exact R.r _ _) | (simp only [jM.len_sI, jM.len_sL, jM.len_sR, jM.len_fI, jM.len_fL, jM.len_fR]; omega) | (simp [jM.len_nw, jM.len_sI, jM.len_sL, jM.len_sR, jM.len_fI, jM.len_fL, jM.len_fR, *]; omega)) ?_
                                          rw [Int.tmod_eq_emod_of_nonneg (by omega)]
                                          refine J.iconst (pc' := 140) rfl rfl ?_
                                          refine J.icmp_ne (tgt := 157) (pc' := 143) rfl rfl rfl (by first | omega | (exact R.r _ _) | (simp only [jM.len_sI, jM.len_sL, jM.len_sR, jM.len_fI, jM.len_fL, jM.len_fR]; omega) | (simp [jM.len_nw, jM.len_sI, jM.len_sL, jM.len_sR, jM.len_fI, jM.len_fL, jM.len_fR, *]; omega)) (by first | omega | (exact R.r _ _) | (simp only [jM.len_sI, jM.len_sL, jM.len_sR, jM.len_fI, jM.len_fL, jM.len_fR]; omega) | (simp [jM.len_nw, jM.len_sI, jM.len_sL, jM.len_sR, jM.len_fI, jM.len_fL, jM.len_fR, *]; omega)) (fun c140 => ?_) (fun c140 => ?_)
                                          · first
                                            | (exfalso; omega)
                                            | (first | refine J.aload_n (pc' := 158) rfl rfl rfl ?_ | refine J.aload_nN (pc' := 158) rfl rfl rfl ?_
                                               refine J.iload (pc' := 160) rfl rfl rfl ?_
                                               refine J.iload_n (pc' := 161) rfl rfl rfl ?_
                                               refine J.iconst (pc' := 162) rfl rfl ?_
                                               refine J.isub (pc' := 163) rfl rfl ?_
                                               refine J.iconst (pc' := 164) rfl rfl ?_
                                               refine J.idiv (pc' := 165) rfl rfl (by first | omega | (exact R.r _ _) | (simp only [jM.len_sI, jM.len_sL, jM.len_sR, jM.len_fI, jM.len_fL, jM.len_fR]; omega) | (simp [jM.len_nw, jM.len_sI, jM.len_sL, jM.len_sR, jM.len_fI, jM.len_fL, jM.len_fR, *]; omega)) (by first | omega | (exact R.r _ _) | (simp only [jM.len_sI, jM.len_sL, jM.len_sR, jM.len_fI, jM.len_fL, jM.len_fR]; omega) | (simp [jM.len_nw, jM.len_sI, jM.len_sL, jM.len_sR, jM.len_fI, jM.len_fL, jM.len_fR, *]; omega)) (by first | omega | (exact R.r _ _) | (simp only [jM.len_sI, jM.len_sL, jM.len_sR, jM.len_fI, jM.len_fL, jM.len_fR]; omega) | (simp [jM.len_nw, jM.len_sI, jM.len_sL, jM.len_sR, jM.len_fI, jM.len_fL, jM.len_fR, *]; omega)) ?_
                                               rw [Int.tdiv_eq_ediv_of_nonneg (by omega)]
                                               refine J.callV (pc' := 168) (t := 16) rfl MX12_highOfLayer ml_X12_307 iv_X12_highOfLayer (by decide) ⟨_, rfl, rfl⟩ B.1 (cm_highL B R (by omega) (by omega)) rfl rfl (Nat.le_of_ble_eq_true rfl) (by first | omega | (exact R.r _ _) | (simp only [jM.len_sI, jM.len_sL, jM.len_sR, jM.len_fI, jM.len_fL, jM.len_fR]; omega) | (simp [jM.len_nw, jM.len_sI, jM.len_sL, jM.len_sR, jM.len_fI, jM.len_fL, jM.len_fR, *]; omega)) (by first | omega | (exact R.r _ _) | (simp only [jM.len_sI, jM.len_sL, jM.len_sR, jM.len_fI, jM.len_fL, jM.len_fR]; omega) | (simp [jM.len_nw, jM.len_sI, jM.len_sL, jM.len_sR, jM.len_fI, jM.len_fL, jM.len_fR, *]; omega)) (by first | omega | (exact R.r _ _) | (simp only [jM.len_sI, jM.len_sL, jM.len_sR, jM.len_fI, jM.len_fL, jM.len_fR]; omega) | (simp [jM.len_nw, jM.len_sI, jM.len_sL, jM.len_sR, jM.len_fI, jM.len_fL, jM.len_fR, *]; omega)) rfl rfl ?_ ?_
                                               · exact fun _ _ h => h
                                               rintro _ _ ⟨rfl, rfl⟩
                                               refine J.iret rfl rfl (by first | omega | (exact R.r _ _) | (simp only [jM.len_sI, jM.len_sL, jM.len_sR, jM.len_fI, jM.len_fL, jM.len_fR]; omega) | (simp [jM.len_nw, jM.len_sI, jM.len_sL, jM.len_sR, jM.len_fI, jM.len_fL, jM.len_fR, *]; omega)) (by first | omega | (exact R.r _ _) | (simp only [jM.len_sI, jM.len_sL, jM.len_sR, jM.len_fI, jM.len_fL, jM.len_fR]; omega) | (simp [jM.len_nw, jM.len_sI, jM.len_sL, jM.len_sR, jM.len_fI, jM.len_fL, jM.len_fR, *]; omega)) ?_
                                               exact mQ.of (by unfold sp_layer layV; (repeat (first | rw [if_pos (by omega)] | rw [if_neg (by omega)]))))
                                          · first
                                            | (exfalso; omega)
                                            | (first | refine J.aload_n (pc' := 144) rfl rfl rfl ?_ | refine J.aload_nN (pc' := 144) rfl rfl rfl ?_
                                               refine J.iload (pc' := 146) rfl rfl rfl ?_
                                               refine J.iload_n (pc' := 147) rfl rfl rfl ?_
                                               refine J.iconst (pc' := 148) rfl rfl ?_
                                               refine J.isub (pc' := 149) rfl rfl ?_
                                               refine J.iconst (pc' := 150) rfl rfl ?_
                                               refine J.idiv (pc' := 151) rfl rfl (by first | omega | (exact R.r _ _) | (simp only [jM.len_sI, jM.len_sL, jM.len_sR, jM.len_fI, jM.len_fL, jM.len_fR]; omega) | (simp [jM.len_nw, jM.len_sI, jM.len_sL, jM.len_sR, jM.len_fI, jM.len_fL, jM.len_fR, *]; omega)) (by first | omega | (exact R.r _ _) | (simp only [jM.len_sI, jM.len_sL, jM.len_sR, jM.len_fI, jM.len_fL, jM.len_fR]; omega) | (simp [jM.len_nw, jM.len_sI, jM.len_sL, jM.len_sR, jM.len_fI, jM.len_fL, jM.len_fR, *]; omega)) (by first | omega | (exact R.r _ _) | (simp only [jM.len_sI, jM.len_sL, jM.len_sR, jM.len_fI, jM.len_fL, jM.len_fR]; omega) | (simp [jM.len_nw, jM.len_sI, jM.len_sL, jM.len_sR, jM.len_fI, jM.len_fL, jM.len_fR, *]; omega)) ?_
                                               rw [Int.tdiv_eq_ediv_of_nonneg (by omega)]
                                               refine J.callV (pc' := 154) (t := 16) rfl MX12_lowOfLayer ml_X12_304 iv_X12_lowOfLayer (by decide) ⟨_, rfl, rfl⟩ B.1 (cm_lowL B R (by omega) (by omega)) rfl rfl (Nat.le_of_ble_eq_true rfl) (by first | omega | (exact R.r _ _) | (simp only [jM.len_sI, jM.len_sL, jM.len_sR, jM.len_fI, jM.len_fL, jM.len_fR]; omega) | (simp [jM.len_nw, jM.len_sI, jM.len_sL, jM.len_sR, jM.len_fI, jM.len_fL, jM.len_fR, *]; omega)) (by first | omega | (exact R.r _ _) | (simp only [jM.len_sI, jM.len_sL, jM.len_sR, jM.len_fI, jM.len_fL, jM.len_fR]; omega) | (simp [jM.len_nw, jM.len_sI, jM.len_sL, jM.len_sR, jM.len_fI, jM.len_fL, jM.len_fR, *]; omega)) (by first | omega | (exact R.r _ _) | (simp only [jM.len_sI, jM.len_sL, jM.len_sR, jM.len_fI, jM.len_fL, jM.len_fR]; omega) | (simp [jM.len_nw, jM.len_sI, jM.len_sL, jM.len_sR, jM.len_fI, jM.len_fL, jM.len_fR, *]; omega)) rfl rfl ?_ ?_
                                               · exact fun _ _ h => h
                                               rintro _ _ ⟨rfl, rfl⟩
                                               refine J.goto (tgt := 168) rfl rfl ?_
                                               refine J.iret rfl rfl (by first | omega | (exact R.r _ _) | (simp only [jM.len_sI, jM.len_sL, jM.len_sR, jM.len_fI, jM.len_fL, jM.len_fR]; omega) | (simp [jM.len_nw, jM.len_sI, jM.len_sL, jM.len_sR, jM.len_fI, jM.len_fL, jM.len_fR, *]; omega)) (by first | omega | (exact R.r _ _) | (simp only [jM.len_sI, jM.len_sL, jM.len_sR, jM.len_fI, jM.len_fL, jM.len_fR]; omega) | (simp [jM.len_nw, jM.len_sI, jM.len_sL, jM.len_sR, jM.len_fI, jM.len_fL, jM.len_fR, *]; omega)) ?_
                                               exact mQ.of (by unfold sp_layer layV; (repeat (first | rw [if_pos (by omega)] | rw [if_neg (by omega)])))))
                                     rcases k85 with _ | _ | _ | k85
                                     · first
                                       | (exfalso; omega)
                                       | (first | refine J.aload_n (pc' := 113) rfl rfl rfl ?_ | refine J.aload_nN (pc' := 113) rfl rfl rfl ?_
                                          refine J.mgR (pc' := 116) (t := 139) B rfl fl_X12_94 rfl rfl (by decide) rfl ?_
                                          refine J.iload (pc' := 118) rfl rfl rfl ?_
                                          refine J.mald (pc' := 119) B rfl rfl rfl (by omega) (by simp only [jLn]; omega) rfl ?_
                                          refine J.iret rfl rfl (by first | omega | (exact R.r _ _) | (simp only [jM.len_sI, jM.len_sL, jM.len_sR, jM.len_fI, jM.len_fL, jM.len_fR]; omega) | (simp [jM.len_nw, jM.len_sI, jM.len_sL, jM.len_sR, jM.len_fI, jM.len_fL, jM.len_fR, *]; omega)) (by first | omega | (exact R.r _ _) | (simp only [jM.len_sI, jM.len_sL, jM.len_sR, jM.len_fI, jM.len_fL, jM.len_fR]; omega) | (simp [jM.len_nw, jM.len_sI, jM.len_sL, jM.len_sR, jM.len_fI, jM.len_fL, jM.len_fR, *]; omega)) ?_
                                          exact mQ.of (by unfold sp_layer layV; (repeat (first | rw [if_pos (by omega)] | rw [if_neg (by omega)]))))
                                     · first
                                       | (exfalso; omega)
                                       | (first | refine J.aload_n (pc' := 121) rfl rfl rfl ?_ | refine J.aload_nN (pc' := 121) rfl rfl rfl ?_
                                          refine J.mgR (pc' := 124) (t := 140) B rfl fl_X12_97 rfl rfl (by decide) rfl ?_
                                          refine J.iload (pc' := 126) rfl rfl rfl ?_
                                          refine J.mald (pc' := 127) B rfl rfl rfl (by omega) (by simp only [jLn]; omega) rfl ?_
                                          refine J.iret rfl rfl (by first | omega | (exact R.r _ _) | (simp only [jM.len_sI, jM.len_sL, jM.len_sR, jM.len_fI, jM.len_fL, jM.len_fR]; omega) | (simp [jM.len_nw, jM.len_sI, jM.len_sL, jM.len_sR, jM.len_fI, jM.len_fL, jM.len_fR, *]; omega)) (by first | omega | (exact R.r _ _) | (simp only [jM.len_sI, jM.len_sL, jM.len_sR, jM.len_fI, jM.len_fL, jM.len_fR]; omega) | (simp [jM.len_nw, jM.len_sI, jM.len_sL, jM.len_sR, jM.len_fI, jM.len_fL, jM.len_fR, *]; omega)) ?_
                                          exact mQ.of (by unfold sp_layer layV; (repeat (first | rw [if_pos (by omega)] | rw [if_neg (by omega)]))))
                                     · first
                                       | (exfalso; omega)
                                       | (first | refine J.aload_n (pc' := 129) rfl rfl rfl ?_ | refine J.aload_nN (pc' := 129) rfl rfl rfl ?_
                                          refine J.mgR (pc' := 132) (t := 141) B rfl fl_X12_100 rfl rfl (by decide) rfl ?_
                                          refine J.iload (pc' := 134) rfl rfl rfl ?_
                                          refine J.mald (pc' := 135) B rfl rfl rfl (by omega) (by simp only [jLn]; omega) rfl ?_
                                          refine J.iret rfl rfl (by first | omega | (exact R.r _ _) | (simp only [jM.len_sI, jM.len_sL, jM.len_sR, jM.len_fI, jM.len_fL, jM.len_fR]; omega) | (simp [jM.len_nw, jM.len_sI, jM.len_sL, jM.len_sR, jM.len_fI, jM.len_fL, jM.len_fR, *]; omega)) (by first | omega | (exact R.r _ _) | (simp only [jM.len_sI, jM.len_sL, jM.len_sR, jM.len_fI, jM.len_fL, jM.len_fR]; omega) | (simp [jM.len_nw, jM.len_sI, jM.len_sL, jM.len_sR, jM.len_fI, jM.len_fL, jM.len_fR, *]; omega)) ?_
                                          exact mQ.of (by unfold sp_layer layV; (repeat (first | rw [if_pos (by omega)] | rw [if_neg (by omega)]))))
                                     · omega)
                                · first
                                  | (exfalso; omega)
                                  | (refine J.iconst (pc' := 66) rfl rfl ?_
                                     refine J.iret rfl rfl (by first | omega | (exact R.r _ _) | (simp only [jM.len_sI, jM.len_sL, jM.len_sR, jM.len_fI, jM.len_fL, jM.len_fR]; omega) | (simp [jM.len_nw, jM.len_sI, jM.len_sL, jM.len_sR, jM.len_fI, jM.len_fL, jM.len_fR, *]; omega)) (by first | omega | (exact R.r _ _) | (simp only [jM.len_sI, jM.len_sL, jM.len_sR, jM.len_fI, jM.len_fL, jM.len_fR]; omega) | (simp [jM.len_nw, jM.len_sI, jM.len_sL, jM.len_sR, jM.len_fI, jM.len_fL, jM.len_fR, *]; omega)) ?_
                                     exact mQ.of (by unfold sp_layer layV; (repeat (first | rw [if_pos (by omega)] | rw [if_neg (by omega)])))))
                           · first
                             | (exfalso; omega)
                             | (refine J.iload_n (pc' := 48) rfl rfl rfl ?_
                                refine J.bipush (pc' := 50) rfl rfl (by decide) ?_
                                refine J.icmp_ge (tgt := 57) (pc' := 53) rfl rfl rfl (by first | omega | (exact R.r _ _) | (simp only [jM.len_sI, jM.len_sL, jM.len_sR, jM.len_fI, jM.len_fL, jM.len_fR]; omega) | (simp [jM.len_nw, jM.len_sI, jM.len_sL, jM.len_sR, jM.len_fI, jM.len_fL, jM.len_fR, *]; omega)) (by first | omega | (exact R.r _ _) | (simp only [jM.len_sI, jM.len_sL, jM.len_sR, jM.len_fI, jM.len_fL, jM.len_fR]; omega) | (simp [jM.len_nw, jM.len_sI, jM.len_sL, jM.len_sR, jM.len_fI, jM.len_fL, jM.len_fR, *]; omega)) (fun c50 => ?_) (fun c50 => ?_)
                                · first
                                  | (exfalso; omega)
                                  | (refine J.iconst (pc' := 58) rfl rfl ?_
                                     refine J.iconst (pc' := 59) rfl rfl ?_
                                     first | refine J.callV (pc' := 62) (t := 16) rfl MX12_may ml_X12_161 iv_X12_may (by decide) ⟨_, rfl, rfl⟩ B.1 (cm_may1 B h0) rfl rfl (Nat.le_of_ble_eq_true rfl) (by first | omega | (exact R.r _ _) | (simp only [jM.len_sI, jM.len_sL, jM.len_sR, jM.len_fI, jM.len_fL, jM.len_fR]; omega) | (simp [jM.len_nw, jM.len_sI, jM.len_sL, jM.len_sR, jM.len_fI, jM.len_fL, jM.len_fR, *]; omega)) (by first | omega | (exact R.r _ _) | (simp only [jM.len_sI, jM.len_sL, jM.len_sR, jM.len_fI, jM.len_fL, jM.len_fR]; omega) | (simp [jM.len_nw, jM.len_sI, jM.len_sL, jM.len_sR, jM.len_fI, jM.len_fL, jM.len_fR, *]; omega)) (by first | omega | (exact R.r _ _) | (simp only [jM.len_sI, jM.len_sL, jM.len_sR, jM.len_fI, jM.len_fL, jM.len_fR]; omega) | (simp [jM.len_nw, jM.len_sI, jM.len_sL, jM.len_sR, jM.len_fI, jM.len_fL, jM.len_fR, *]; omega)) rfl rfl ?_ ?_ | refine J.callV (pc' := 62) (t := 16) rfl MX12_may ml_X12_161 iv_X12_may (by decide) ⟨_, rfl, rfl⟩ B.1 (cm_may0 B h0 (by omega)) rfl rfl (Nat.le_of_ble_eq_true rfl) (by first | omega | (exact R.r _ _) | (simp only [jM.len_sI, jM.len_sL, jM.len_sR, jM.len_fI, jM.len_fL, jM.len_fR]; omega) | (simp [jM.len_nw, jM.len_sI, jM.len_sL, jM.len_sR, jM.len_fI, jM.len_fL, jM.len_fR, *]; omega)) (by first | omega | (exact R.r _ _) | (simp only [jM.len_sI, jM.len_sL, jM.len_sR, jM.len_fI, jM.len_fL, jM.len_fR]; omega) | (simp [jM.len_nw, jM.len_sI, jM.len_sL, jM.len_sR, jM.len_fI, jM.len_fL, jM.len_fR, *]; omega)) (by first | omega | (exact R.r _ _) | (simp only [jM.len_sI, jM.len_sL, jM.len_sR, jM.len_fI, jM.len_fL, jM.len_fR]; omega) | (simp [jM.len_nw, jM.len_sI, jM.len_sL, jM.len_sR, jM.len_fI, jM.len_fL, jM.len_fR, *]; omega)) rfl rfl ?_ ?_
                                     · exact fun _ _ h => h
                                     rintro _ _ ⟨rfl, rfl⟩
                                     refine J.if_ne (tgt := 67) (pc' := 65) rfl rfl rfl (by first | omega | (exact R.r _ _) | (simp only [jM.len_sI, jM.len_sL, jM.len_sR, jM.len_fI, jM.len_fL, jM.len_fR]; omega) | (simp [jM.len_nw, jM.len_sI, jM.len_sL, jM.len_sR, jM.len_fI, jM.len_fL, jM.len_fR, *]; omega)) (fun c62 => ?_) (fun c62 => ?_)
                                     · first
                                       | (exfalso; omega)
                                       | (refine J.bipush (pc' := 69) rfl rfl (by decide) ?_
                                          refine J.iload_n (pc' := 70) rfl rfl rfl ?_
                                          refine J.imul (pc' := 71) rfl rfl ?_
                                          first | refine J.aload_n (pc' := 72) rfl rfl rfl ?_ | refine J.aload_nN (pc' := 72) rfl rfl rfl ?_
                                          refine J.mgR (pc' := 75) (t := 138) B rfl fl_X12_91 rfl rfl (by decide) rfl ?_
                                          refine J.iload_n (pc' := 76) rfl rfl rfl ?_
                                          refine J.mald (pc' := 77) B rfl rfl rfl (by omega) (by simp only [jLn]; omega) rfl ?_
                                          refine J.iadd (pc' := 78) rfl rfl ?_
                                          refine J.iconst (pc' := 79) rfl rfl ?_
                                          refine J.isub (pc' := 80) rfl rfl ?_
                                          refine J.iload_n (pc' := 81) rfl rfl rfl ?_
                                          refine J.isub (pc' := 82) rfl rfl ?_
                                          refine J.istore (pc' := 84) rfl rfl (by decide) ?_
                                          refine J.iload_n (pc' := 85) rfl rfl rfl ?_
                                          refine J.tsw (tgt := 136) (n := 3) (T := jNth [112, 120, 128]) rfl (by first | omega | (exact R.r _ _) | (simp only [jM.len_sI, jM.len_sL, jM.len_sR, jM.len_fI, jM.len_fL, jM.len_fR]; omega) | (simp [jM.len_nw, jM.len_sI, jM.len_sL, jM.len_sR, jM.len_fI, jM.len_fL, jM.len_fR, *]; omega)) rfl rfl (fun k hk => by rcases k with _ | _ | _ | k <;> first | exact ⟨_, rfl, rfl⟩ | omega) (fun c85 => ?_) (fun k85 hk85 c85 => ?_)
                                          · first
                                            | (exfalso; omega)
                                            | (refine J.iload_n (pc' := 137) rfl rfl rfl ?_
                                               refine J.iconst (pc' := 138) rfl rfl ?_
                                               refine J.irem (pc' := 139) rfl rfl (by first | omega | (exact R.r _ _) | (simp only [jM.len_sI, jM.len_sL, jM.len_sR, jM.len_fI, jM.len_fL, jM.len_fR]; omega) | (simp [jM.len_nw, jM.len_sI, jM.len_sL, jM.len_sR, jM.len_fI, jM.len_fL, jM.len_fR, *]; omega)) (by first | omega | (exact R.r _ _) | (simp only [jM.len_sI, jM.len_sL, jM.len_sR, jM.len_fI, jM.len_fL, jM.len_fR]; omega) | (simp [jM.len_nw, jM.len_sI, jM.len_sL, jM.len_sR, jM.len_fI, jM.len_fL, jM.len_fR, *]; omega)) (by first | omega | (exact R.r _ _) | (simp only [jM.len_sI, jM.len_sL, jM.len_sR, jM.len_fI, jM.len_fL, jM.len_fR]; omega) | (simp [jM.len_nw, jM.len_sI, jM.len_sL, jM.len_sR, jM.len_fI, jM.len_fL, jM.len_fR, *]; omega)) ?_
                                               rw [Int.tmod_eq_emod_of_nonneg (by omega)]
                                               refine J.iconst (pc' := 140) rfl rfl ?_
                                               refine J.icmp_ne (tgt := 157) (pc' := 143) rfl rfl rfl (by first | omega | (exact R.r _ _) | (simp only [jM.len_sI, jM.len_sL, jM.len_sR, jM.len_fI, jM.len_fL, jM.len_fR]; omega) | (simp [jM.len_nw, jM.len_sI, jM.len_sL, jM.len_sR, jM.len_fI, jM.len_fL, jM.len_fR, *]; omega)) (by first | omega | (exact R.r _ _) | (simp only [jM.len_sI, jM.len_sL, jM.len_sR, jM.len_fI, jM.len_fL, jM.len_fR]; omega) | (simp [jM.len_nw, jM.len_sI, jM.len_sL, jM.len_sR, jM.len_fI, jM.len_fL, jM.len_fR, *]; omega)) (fun c140 => ?_) (fun c140 => ?_)
                                               · first
                                                 | (exfalso; omega)
                                                 | (first | refine J.aload_n (pc' := 158) rfl rfl rfl ?_ | refine J.aload_nN (pc' := 158) rfl rfl rfl ?_
                                                    refine J.iload (pc' := 160) rfl rfl rfl ?_
                                                    refine J.iload_n (pc' := 161) rfl rfl rfl ?_
                                                    refine J.iconst (pc' := 162) rfl rfl ?_
                                                    refine J.isub (pc' := 163) rfl rfl ?_
                                                    refine J.iconst (pc' := 164) rfl rfl ?_
                                                    refine J.idiv (pc' := 165) rfl rfl (by first | omega | (exact R.r _ _) | (simp only [jM.len_sI, jM.len_sL, jM.len_sR, jM.len_fI, jM.len_fL, jM.len_fR]; omega) | (simp [jM.len_nw, jM.len_sI, jM.len_sL, jM.len_sR, jM.len_fI, jM.len_fL, jM.len_fR, *]; omega)) (by first | omega | (exact R.r _ _) | (simp only [jM.len_sI, jM.len_sL, jM.len_sR, jM.len_fI, jM.len_fL, jM.len_fR]; omega) | (simp [jM.len_nw, jM.len_sI, jM.len_sL, jM.len_sR, jM.len_fI, jM.len_fL, jM.len_fR, *]; omega)) (by first | omega | (exact R.r _ _) | (simp only [jM.len_sI, jM.len_sL, jM.len_sR, jM.len_fI, jM.len_fL, jM.len_fR]; omega) | (simp [jM.len_nw, jM.len_sI, jM.len_sL, jM.len_sR, jM.len_fI, jM.len_fL, jM.len_fR, *]; omega)) ?_
                                                    rw [Int.tdiv_eq_ediv_of_nonneg (by omega)]
                                                    refine J.callV (pc' := 168) (t := 16) rfl MX12_highOfLayer ml_X12_307 iv_X12_highOfLayer (by decide) ⟨_, rfl, rfl⟩ B.1 (cm_highL B R (by omega) (by omega)) rfl rfl (Nat.le_of_ble_eq_true rfl) (by first | omega | (exact R.r _ _) | (simp only [jM.len_sI, jM.len_sL, jM.len_sR, jM.len_fI, jM.len_fL, jM.len_fR]; omega) | (simp [jM.len_nw, jM.len_sI, jM.len_sL, jM.len_sR, jM.len_fI, jM.len_fL, jM.len_fR, *]; omega)) (by first | omega | (exact R.r _ _) | (simp only [jM.len_sI, jM.len_sL, jM.len_sR, jM.len_fI, jM.len_fL, jM.len_fR]; omega) | (simp [jM.len_nw, jM.len_sI, jM.len_sL, jM.len_sR, jM.len_fI, jM.len_fL, jM.len_fR, *]; omega)) (by first | omega | (exact R.r _ _) | (simp only [jM.len_sI, jM.len_sL, jM.len_sR, jM.len_fI, jM.len_fL, jM.len_fR]; omega) | (simp [jM.len_nw, jM.len_sI, jM.len_sL, jM.len_sR, jM.len_fI, jM.len_fL, jM.len_fR, *]; omega)) rfl rfl ?_ ?_
                                                    · exact fun _ _ h => h
                                                    rintro _ _ ⟨rfl, rfl⟩
                                                    refine J.iret rfl rfl (by first | omega | (exact R.r _ _) | (simp only [jM.len_sI, jM.len_sL, jM.len_sR, jM.len_fI, jM.len_fL, jM.len_fR]; omega) | (simp [jM.len_nw, jM.len_sI, jM.len_sL, jM.len_sR, jM.len_fI, jM.len_fL, jM.len_fR, *]; omega)) (by first | omega | (exact R.r _ _) | (simp only [jM.len_sI, jM.len_sL, jM.len_sR, jM.len_fI, jM.len_fL, jM.len_fR]; omega) | (simp [jM.len_nw, jM.len_sI, jM.len_sL, jM.len_sR, jM.len_fI, jM.len_fL, jM.len_fR, *]; omega)) ?_
                                                    exact mQ.of (by unfold sp_layer layV; (repeat (first | rw [if_pos (by omega)] | rw [if_neg (by omega)]))))
                                               · first
                                                 | (exfalso; omega)
                                                 | (first | refine J.aload_n (pc' := 144) rfl rfl rfl ?_ | refine J.aload_nN (pc' := 144) rfl rfl rfl ?_
                                                    refine J.iload (pc' := 146) rfl rfl rfl ?_
                                                    refine J.iload_n (pc' := 147) rfl rfl rfl ?_
                                                    refine J.iconst (pc' := 148) rfl rfl ?_
                                                    refine J.isub (pc' := 149) rfl rfl ?_
                                                    refine J.iconst (pc' := 150) rfl rfl ?_
                                                    refine J.idiv (pc' := 151) rfl rfl (by first | omega | (exact R.r _ _) | (simp only [jM.len_sI, jM.len_sL, jM.len_sR, jM.len_fI, jM.len_fL, jM.len_fR]; omega) | (simp [jM.len_nw, jM.len_sI, jM.len_sL, jM.len_sR, jM.len_fI, jM.len_fL, jM.len_fR, *]; omega)) (by first | omega | (exact R.r _ _) | (simp only [jM.len_sI, jM.len_sL, jM.len_sR, jM.len_fI, jM.len_fL, jM.len_fR]; omega) | (simp [jM.len_nw, jM.len_sI, jM.len_sL, jM.len_sR, jM.len_fI, jM.len_fL, jM.len_fR, *]; omega)) (by first | omega | (exact R.r _ _) | (simp only [jM.len_sI, jM.len_sL, jM.len_sR, jM.len_fI, jM.len_fL, jM.len_fR]; omega) | (simp [jM.len_nw, jM.len_sI, jM.len_sL, jM.len_sR, jM.len_fI, jM.len_fL, jM.len_fR, *]; omega)) ?_
                                                    rw [Int.tdiv_eq_ediv_of_nonneg (by omega)]
                                                    refine J.callV (pc' := 154) (t := 16) rfl MX12_lowOfLayer ml_X12_304 iv_X12_lowOfLayer (by decide) ⟨_, rfl, rfl⟩ B.1 (cm_lowL B R (by omega) (by omega)) rfl rfl (Nat.le_of_ble_eq_true rfl) (by first | omega | (exact R.r _ _) | (simp only [jM.len_sI, jM.len_sL, jM.len_sR, jM.len_fI, jM.len_fL, jM.len_fR]; omega) | (simp [jM.len_nw, jM.len_sI, jM.len_sL, jM.len_sR, jM.len_fI, jM.len_fL, jM.len_fR, *]; omega)) (by first | omega | (exact R.r _ _) | (simp only [jM.len_sI, jM.len_sL, jM.len_sR, jM.len_fI, jM.len_fL, jM.len_fR]; omega) | (simp [jM.len_nw, jM.len_sI, jM.len_sL, jM.len_sR, jM.len_fI, jM.len_fL, jM.len_fR, *]; omega)) (by first | omega | (exact R.r _ _) | (simp only [jM.len_sI, jM.len_sL, jM.len_sR, jM.len_fI, jM.len_fL, jM.len_fR]; omega) | (simp [jM.len_nw, jM.len_sI, jM.len_sL, jM.len_sR, jM.len_fI, jM.len_fL, jM.len_fR, *]; omega)) rfl rfl ?_ ?_
                                                    · exact fun _ _ h => h
                                                    rintro _ _ ⟨rfl, rfl⟩
                                                    refine J.goto (tgt := 168) rfl rfl ?_
                                                    refine J.iret rfl rfl (by first | omega | (exact R.r _ _) | (simp only [jM.len_sI, jM.len_sL, jM.len_sR, jM.len_fI, jM.len_fL, jM.len_fR]; omega) | (simp [jM.len_nw, jM.len_sI, jM.len_sL, jM.len_sR, jM.len_fI, jM.len_fL, jM.len_fR, *]; omega)) (by first | omega | (exact R.r _ _) | (simp only [jM.len_sI, jM.len_sL, jM.len_sR, jM.len_fI, jM.len_fL, jM.len_fR]; omega) | (simp [jM.len_nw, jM.len_sI, jM.len_sL, jM.len_sR, jM.len_fI, jM.len_fL, jM.len_fR, *]; omega)) ?_
                                                    exact mQ.of (by unfold sp_layer layV; (repeat (first | rw [if_pos (by omega)] | rw [if_neg (by omega)])))))
                                          rcases k85 with _ | _ | _ | k85
                                          · first
                                            | (exfalso; omega)
                                            | (first | refine J.aload_n (pc' := 113) rfl rfl rfl ?_ | refine J.aload_nN (pc' := 113) rfl rfl rfl ?_
                                               refine J.mgR (pc' := 116) (t := 139) B rfl fl_X12_94 rfl rfl (by decide) rfl ?_
                                               refine J.iload (pc' := 118) rfl rfl rfl ?_
                                               refine J.mald (pc' := 119) B rfl rfl rfl (by omega) (by simp only [jLn]; omega) rfl ?_
                                               refine J.iret rfl rfl (by first | omega | (exact R.r _ _) | (simp only [jM.len_sI, jM.len_sL, jM.len_sR, jM.len_fI, jM.len_fL, jM.len_fR]; omega) | (simp [jM.len_nw, jM.len_sI, jM.len_sL, jM.len_sR, jM.len_fI, jM.len_fL, jM.len_fR, *]; omega)) (by first | omega | (exact R.r _ _) | (simp only [jM.len_sI, jM.len_sL, jM.len_sR, jM.len_fI, jM.len_fL, jM.len_fR]; omega) | (simp [jM.len_nw, jM.len_sI, jM.len_sL, jM.len_sR, jM.len_fI, jM.len_fL, jM.len_fR, *]; omega)) ?_
                                               exact mQ.of (by unfold sp_layer layV; (repeat (first | rw [if_pos (by omega)] | rw [if_neg (by omega)]))))
                                          · first
                                            | (exfalso; omega)
                                            | (first | refine J.aload_n (pc' := 121) rfl rfl rfl ?_ | refine J.aload_nN (pc' := 121) rfl rfl rfl ?_
                                               refine J.mgR (pc' := 124) (t := 140) B rfl fl_X12_97 rfl rfl (by decide) rfl ?_
                                               refine J.iload (pc' := 126) rfl rfl rfl ?_
                                               refine J.mald (pc' := 127) B rfl rfl rfl (by omega) (by simp only [jLn]; omega) rfl ?_
                                               refine J.iret rfl rfl (by first | omega | (exact R.r _ _) | (simp only [jM.len_sI, jM.len_sL, jM.len_sR, jM.len_fI, jM.len_fL, jM.len_fR]; omega) | (simp [jM.len_nw, jM.len_sI, jM.len_sL, jM.len_sR, jM.len_fI, jM.len_fL, jM.len_fR, *]; omega)) (by first | omega | (exact R.r _ _) | (simp only [jM.len_sI, jM.len_sL, jM.len_sR, jM.len_fI, jM.len_fL, jM.len_fR]; omega) | (simp [jM.len_nw, jM.len_sI, jM.len_sL, jM.len_sR, jM.len_fI, jM.len_fL, jM.len_fR, *]; omega)) ?_
                                               exact mQ.of (by unfold sp_layer layV; (repeat (first | rw [if_pos (by omega)] | rw [if_neg (by omega)]))))
                                          · first
                                            | (exfalso; omega)
                                            | (first | refine J.aload_n (pc' := 129) rfl rfl rfl ?_ | refine J.aload_nN (pc' := 129) rfl rfl rfl ?_
                                               refine J.mgR (pc' := 132) (t := 141) B rfl fl_X12_100 rfl rfl (by decide) rfl ?_
                                               refine J.iload (pc' := 134) rfl rfl rfl ?_
                                               refine J.mald (pc' := 135) B rfl rfl rfl (by omega) (by simp only [jLn]; omega) rfl ?_
                                               refine J.iret rfl rfl (by first | omega | (exact R.r _ _) | (simp only [jM.len_sI, jM.len_sL, jM.len_sR, jM.len_fI, jM.len_fL, jM.len_fR]; omega) | (simp [jM.len_nw, jM.len_sI, jM.len_sL, jM.len_sR, jM.len_fI, jM.len_fL, jM.len_fR, *]; omega)) (by first | omega | (exact R.r _ _) | (simp only [jM.len_sI, jM.len_sL, jM.len_sR, jM.len_fI, jM.len_fL, jM.len_fR]; omega) | (simp [jM.len_nw, jM.len_sI, jM.len_sL, jM.len_sR, jM.len_fI, jM.len_fL, jM.len_fR, *]; omega)) ?_
                                               exact mQ.of (by unfold sp_layer layV; (repeat (first | rw [if_pos (by omega)] | rw [if_neg (by omega)]))))
                                          · omega)
                                     · first
                                       | (exfalso; omega)
                                       | (refine J.iconst (pc' := 66) rfl rfl ?_
                                          refine J.iret rfl rfl (by first | omega | (exact R.r _ _) | (simp only [jM.len_sI, jM.len_sL, jM.len_sR, jM.len_fI, jM.len_fL, jM.len_fR]; omega) | (simp [jM.len_nw, jM.len_sI, jM.len_sL, jM.len_sR, jM.len_fI, jM.len_fL, jM.len_fR, *]; omega)) (by first | omega | (exact R.r _ _) | (simp only [jM.len_sI, jM.len_sL, jM.len_sR, jM.len_fI, jM.len_fL, jM.len_fR]; omega) | (simp [jM.len_nw, jM.len_sI, jM.len_sL, jM.len_sR, jM.len_fI, jM.len_fL, jM.len_fR, *]; omega)) ?_
                                          exact mQ.of (by unfold sp_layer layV; (repeat (first | rw [if_pos (by omega)] | rw [if_neg (by omega)])))))
                                · first
                                  | (exfalso; omega)
                                  | (refine J.iconst (pc' := 54) rfl rfl ?_
                                     refine J.goto (tgt := 58) rfl rfl ?_
                                     refine J.iconst (pc' := 59) rfl rfl ?_
                                     first | refine J.callV (pc' := 62) (t := 16) rfl MX12_may ml_X12_161 iv_X12_may (by decide) ⟨_, rfl, rfl⟩ B.1 (cm_may1 B h0) rfl rfl (Nat.le_of_ble_eq_true rfl) (by first | omega | (exact R.r _ _) | (simp only [jM.len_sI, jM.len_sL, jM.len_sR, jM.len_fI, jM.len_fL, jM.len_fR]; omega) | (simp [jM.len_nw, jM.len_sI, jM.len_sL, jM.len_sR, jM.len_fI, jM.len_fL, jM.len_fR, *]; omega)) (by first | omega | (exact R.r _ _) | (simp only [jM.len_sI, jM.len_sL, jM.len_sR, jM.len_fI, jM.len_fL, jM.len_fR]; omega) | (simp [jM.len_nw, jM.len_sI, jM.len_sL, jM.len_sR, jM.len_fI, jM.len_fL, jM.len_fR, *]; omega)) (by first | omega | (exact R.r _ _) | (simp only [jM.len_sI, jM.len_sL, jM.len_sR, jM.len_fI, jM.len_fL, jM.len_fR]; omega) | (simp [jM.len_nw, jM.len_sI, jM.len_sL, jM.len_sR, jM.len_fI, jM.len_fL, jM.len_fR, *]; omega)) rfl rfl ?_ ?_ | refine J.callV (pc' := 62) (t := 16) rfl MX12_may ml_X12_161 iv_X12_may (by decide) ⟨_, rfl, rfl⟩ B.1 (cm_may0 B h0 (by omega)) rfl rfl (Nat.le_of_ble_eq_true rfl) (by first | omega | (exact R.r _ _) | (simp only [jM.len_sI, jM.len_sL, jM.len_sR, jM.len_fI, jM.len_fL, jM.len_fR]; omega) | (simp [jM.len_nw, jM.len_sI, jM.len_sL, jM.len_sR, jM.len_fI, jM.len_fL, jM.len_fR, *]; omega)) (by first | omega | (exact R.r _ _) | (simp only [jM.len_sI, jM.len_sL, jM.len_sR, jM.len_fI, jM.len_fL, jM.len_fR]; omega) | (simp [jM.len_nw, jM.len_sI, jM.len_sL, jM.len_sR, jM.len_fI, jM.len_fL, jM.len_fR, *]; omega)) (by first | omega | (exact R.r _ _) | (simp only [jM.len_sI, jM.len_sL, jM.len_sR, jM.len_fI, jM.len_fL, jM.len_fR]; omega) | (simp [jM.len_nw, jM.len_sI, jM.len_sL, jM.len_sR, jM.len_fI, jM.len_fL, jM.len_fR, *]; omega)) rfl rfl ?_ ?_
                                     · exact fun _ _ h => h
                                     rintro _ _ ⟨rfl, rfl⟩
                                     refine J.if_ne (tgt := 67) (pc' := 65) rfl rfl rfl (by first | omega | (exact R.r _ _) | (simp only [jM.len_sI, jM.len_sL, jM.len_sR, jM.len_fI, jM.len_fL, jM.len_fR]; omega) | (simp [jM.len_nw, jM.len_sI, jM.len_sL, jM.len_sR, jM.len_fI, jM.len_fL, jM.len_fR, *]; omega)) (fun c62 => ?_) (fun c62 => ?_)
                                     · first
                                       | (exfalso; omega)
                                       | (refine J.bipush (pc' := 69) rfl rfl (by decide) ?_
                                          refine J.iload_n (pc' := 70) rfl rfl rfl ?_
                                          refine J.imul (pc' := 71) rfl rfl ?_
                                          first | refine J.aload_n (pc' := 72) rfl rfl rfl ?_ | refine J.aload_nN (pc' := 72) rfl rfl rfl ?_
                                          refine J.mgR (pc' := 75) (t := 138) B rfl fl_X12_91 rfl rfl (by decide) rfl ?_
                                          refine J.iload_n (pc' := 76) rfl rfl rfl ?_
                                          refine J.mald (pc' := 77) B rfl rfl rfl (by omega) (by simp only [jLn]; omega) rfl ?_
                                          refine J.iadd (pc' := 78) rfl rfl ?_
                                          refine J.iconst (pc' := 79) rfl rfl ?_
                                          refine J.isub (pc' := 80) rfl rfl ?_
                                          refine J.iload_n (pc' := 81) rfl rfl rfl ?_
                                          refine J.isub (pc' := 82) rfl rfl ?_
                                          refine J.istore (pc' := 84) rfl rfl (by decide) ?_
                                          refine J.iload_n (pc' := 85) rfl rfl rfl ?_
                                          refine J.tsw (tgt := 136) (n := 3) (T := jNth [112, 120, 128]) rfl (by first | omega | (exact R.r _ _) | (simp only [jM.len_sI, jM.len_sL, jM.len_sR, jM.len_fI, jM.len_fL, jM.len_fR]; omega) | (simp [jM.len_nw, jM.len_sI, jM.len_sL, jM.len_sR, jM.len_fI, jM.len_fL, jM.len_fR, *]; omega)) rfl rfl (fun k hk => by rcases k with _ | _ | _ | k <;> first | exact ⟨_, rfl, rfl⟩ | omega) (fun c85 => ?_) (fun k85 hk85 c85 => ?_)
                                          · first
                                            | (exfalso; omega)
                                            | (refine J.iload_n (pc' := 137) rfl rfl rfl ?_
                                               refine J.iconst (pc' := 138) rfl rfl ?_
                                               refine J.irem (pc' := 139) rfl rfl (by first | omega | (exact R.r _ _) | (simp only [jM.len_sI, jM.len_sL, jM.len_sR, jM.len_fI, jM.len_fL, jM.len_fR]; omega) | (simp [jM.len_nw, jM.len_sI, jM.len_sL, jM.len_sR, jM.len_fI, jM.len_fL, jM.len_fR, *]; omega)) (by first | omega | (exact R.r _ _) | (simp only [jM.len_sI, jM.len_sL, jM.len_sR, jM.len_fI, jM.len_fL, jM.len_fR]; omega) | (simp [jM.len_nw, jM.len_sI, jM.len_sL, jM.len_sR, jM.len_fI, jM.len_fL, jM.len_fR, *]; omega)) (by first | omega | (exact R.r _ _) | (simp only [jM.len_sI, jM.len_sL, jM.len_sR, jM.len_fI, jM.len_fL, jM.len_fR]; omega) | (simp [jM.len_nw, jM.len_sI, jM.len_sL, jM.len_sR, jM.len_fI, jM.len_fL, jM.len_fR, *]; omega)) ?_
                                               rw [Int.tmod_eq_emod_of_nonneg (by omega)]
                                               refine J.iconst (pc' := 140) rfl rfl ?_
                                               refine J.icmp_ne (tgt := 157) (pc' := 143) rfl rfl rfl (by first | omega | (exact R.r _ _) | (simp only [jM.len_sI, jM.len_sL, jM.len_sR, jM.len_fI, jM.len_fL, jM.len_fR]; omega) | (simp [jM.len_nw, jM.len_sI, jM.len_sL, jM.len_sR, jM.len_fI, jM.len_fL, jM.len_fR, *]; omega)) (by first | omega | (exact R.r _ _) | (simp only [jM.len_sI, jM.len_sL, jM.len_sR, jM.len_fI, jM.len_fL, jM.len_fR]; omega) | (simp [jM.len_nw, jM.len_sI, jM.len_sL, jM.len_sR, jM.len_fI, jM.len_fL, jM.len_fR, *]; omega)) (fun c140 => ?_) (fun c140 => ?_)
                                               · first
                                                 | (exfalso; omega)
                                                 | (first | refine J.aload_n (pc' := 158) rfl rfl rfl ?_ | refine J.aload_nN (pc' := 158) rfl rfl rfl ?_
                                                    refine J.iload (pc' := 160) rfl rfl rfl ?_
                                                    refine J.iload_n (pc' := 161) rfl rfl rfl ?_
                                                    refine J.iconst (pc' := 162) rfl rfl ?_
                                                    refine J.isub (pc' := 163) rfl rfl ?_
                                                    refine J.iconst (pc' := 164) rfl rfl ?_
                                                    refine J.idiv (pc' := 165) rfl rfl (by first | omega | (exact R.r _ _) | (simp only [jM.len_sI, jM.len_sL, jM.len_sR, jM.len_fI, jM.len_fL, jM.len_fR]; omega) | (simp [jM.len_nw, jM.len_sI, jM.len_sL, jM.len_sR, jM.len_fI, jM.len_fL, jM.len_fR, *]; omega)) (by first | omega | (exact R.r _ _) | (simp only [jM.len_sI, jM.len_sL, jM.len_sR, jM.len_fI, jM.len_fL, jM.len_fR]; omega) | (simp [jM.len_nw, jM.len_sI, jM.len_sL, jM.len_sR, jM.len_fI, jM.len_fL, jM.len_fR, *]; omega)) (by first | omega | (exact R.r _ _) | (simp only [jM.len_sI, jM.len_sL, jM.len_sR, jM.len_fI, jM.len_fL, jM.len_fR]; omega) | (simp [jM.len_nw, jM.len_sI, jM.len_sL, jM.len_sR, jM.len_fI, jM.len_fL, jM.len_fR, *]; omega)) ?_
                                                    rw [Int.tdiv_eq_ediv_of_nonneg (by omega)]
                                                    refine J.callV (pc' := 168) (t := 16) rfl MX12_highOfLayer ml_X12_307 iv_X12_highOfLayer (by decide) ⟨_, rfl, rfl⟩ B.1 (cm_highL B R (by omega) (by omega)) rfl rfl (Nat.le_of_ble_eq_true rfl) (by first | omega | (exact R.r _ _) | (simp only [jM.len_sI, jM.len_sL, jM.len_sR, jM.len_fI, jM.len_fL, jM.len_fR]; omega) | (simp [jM.len_nw, jM.len_sI, jM.len_sL, jM.len_sR, jM.len_fI, jM.len_fL, jM.len_fR, *]; omega)) (by first | omega | (exact R.r _ _) | (simp only [jM.len_sI, jM.len_sL, jM.len_sR, jM.len_fI, jM.len_fL, jM.len_fR]; omega) | (simp [jM.len_nw, jM.len_sI, jM.len_sL, jM.len_sR, jM.len_fI, jM.len_fL, jM.len_fR, *]; omega)) (by first | omega | (exact R.r _ _) | (simp only [jM.len_sI, jM.len_sL, jM.len_sR, jM.len_fI, jM.len_fL, jM.len_fR]; omega) | (simp [jM.len_nw, jM.len_sI, jM.len_sL, jM.len_sR, jM.len_fI, jM.len_fL, jM.len_fR, *]; omega)) rfl rfl ?_ ?_
                                                    · exact fun _ _ h => h
                                                    rintro _ _ ⟨rfl, rfl⟩
                                                    refine J.iret rfl rfl (by first | omega | (exact R.r _ _) | (simp only [jM.len_sI, jM.len_sL, jM.len_sR, jM.len_fI, jM.len_fL, jM.len_fR]; omega) | (simp [jM.len_nw, jM.len_sI, jM.len_sL, jM.len_sR, jM.len_fI, jM.len_fL, jM.len_fR, *]; omega)) (by first | omega | (exact R.r _ _) | (simp only [jM.len_sI, jM.len_sL, jM.len_sR, jM.len_fI, jM.len_fL, jM.len_fR]; omega) | (simp [jM.len_nw, jM.len_sI, jM.len_sL, jM.len_sR, jM.len_fI, jM.len_fL, jM.len_fR, *]; omega)) ?_
                                                    exact mQ.of (by unfold sp_layer layV; (repeat (first | rw [if_pos (by omega)] | rw [if_neg (by omega)]))))
                                               · first
                                                 | (exfalso; omega)
                                                 | (first | refine J.aload_n (pc' := 144) rfl rfl rfl ?_ | refine J.aload_nN (pc' := 144) rfl rfl rfl ?_
                                                    refine J.iload (pc' := 146) rfl rfl rfl ?_
                                                    refine J.iload_n (pc' := 147) rfl rfl rfl ?_
                                                    refine J.iconst (pc' := 148) rfl rfl ?_
                                                    refine J.isub (pc' := 149) rfl rfl ?_
                                                    refine J.iconst (pc' := 150) rfl rfl ?_
                                                    refine J.idiv (pc' := 151) rfl rfl (by first | omega | (exact R.r _ _) | (simp only [jM.len_sI, jM.len_sL, jM.len_sR, jM.len_fI, jM.len_fL, jM.len_fR]; omega) | (simp [jM.len_nw, jM.len_sI, jM.len_sL, jM.len_sR, jM.len_fI, jM.len_fL, jM.len_fR, *]; omega)) (by first | omega | (exact R.r _ _) | (simp only [jM.len_sI, jM.len_sL, jM.len_sR, jM.len_fI, jM.len_fL, jM.len_fR]; omega) | (simp [jM.len_nw, jM.len_sI, jM.len_sL, jM.len_sR, jM.len_fI, jM.len_fL, jM.len_fR, *]; omega)) (by first | omega | (exact R.r _ _) | (simp only [jM.len_sI, jM.len_sL, jM.len_sR, jM.len_fI, jM.len_fL, jM.len_fR]; omega) | (simp [jM.len_nw, jM.len_sI, jM.len_sL, jM.len_sR, jM.len_fI, jM.len_fL, jM.len_fR, *]; omega)) ?_
                                                    rw [Int.tdiv_eq_ediv_of_nonneg (by omega)]
                                                    refine J.callV (pc' := 154) (t := 16) rfl MX12_lowOfLayer ml_X12_304 iv_X12_lowOfLayer (by decide) ⟨_, rfl, rfl⟩ B.1 (cm_lowL B R (by omega) (by omega)) rfl rfl (Nat.le_of_ble_eq_true rfl) (by first | omega | (exact R.r _ _) | (simp only [jM.len_sI, jM.len_sL, jM.len_sR, jM.len_fI, jM.len_fL, jM.len_fR]; omega) | (simp [jM.len_nw, jM.len_sI, jM.len_sL, jM.len_sR, jM.len_fI, jM.len_fL, jM.len_fR, *]; omega)) (by first | omega | (exact R.r _ _) | (simp only [jM.len_sI, jM.len_sL, jM.len_sR, jM.len_fI, jM.len_fL, jM.len_fR]; omega) | (simp [jM.len_nw, jM.len_sI, jM.len_sL, jM.len_sR, jM.len_fI, jM.len_fL, jM.len_fR, *]; omega)) (by first | omega | (exact R.r _ _) | (simp only [jM.len_sI, jM.len_sL, jM.len_sR, jM.len_fI, jM.len_fL, jM.len_fR]; omega) | (simp [jM.len_nw, jM.len_sI, jM.len_sL, jM.len_sR, jM.len_fI, jM.len_fL, jM.len_fR, *]; omega)) rfl rfl ?_ ?_
                                                    · exact fun _ _ h => h
                                                    rintro _ _ ⟨rfl, rfl⟩
                                                    refine J.goto (tgt := 168) rfl rfl ?_
                                                    refine J.iret rfl rfl (by first | omega | (exact R.r _ _) | (simp only [jM.len_sI, jM.len_sL, jM.len_sR, jM.len_fI, jM.len_fL, jM.len_fR]; omega) | (simp [jM.len_nw, jM.len_sI, jM.len_sL, jM.len_sR, jM.len_fI, jM.len_fL, jM.len_fR, *]; omega)) (by first | omega | (exact R.r _ _) | (simp only [jM.len_sI, jM.len_sL, jM.len_sR, jM.len_fI, jM.len_fL, jM.len_fR]; omega) | (simp [jM.len_nw, jM.len_sI, jM.len_sL, jM.len_sR, jM.len_fI, jM.len_fL, jM.len_fR, *]; omega)) ?_
                                                    exact mQ.of (by unfold sp_layer layV; (repeat (first | rw [if_pos (by omega)] | rw [if_neg (by omega)])))))
                                          rcases k85 with _ | _ | _ | k85
                                          · first
                                            | (exfalso; omega)
                                            | (first | refine J.aload_n (pc' := 113) rfl rfl rfl ?_ | refine J.aload_nN (pc' := 113) rfl rfl rfl ?_
                                               refine J.mgR (pc' := 116) (t := 139) B rfl fl_X12_94 rfl rfl (by decide) rfl ?_
                                               refine J.iload (pc' := 118) rfl rfl rfl ?_
                                               refine J.mald (pc' := 119) B rfl rfl rfl (by omega) (by simp only [jLn]; omega) rfl ?_
                                               refine J.iret rfl rfl (by first | omega | (exact R.r _ _) | (simp only [jM.len_sI, jM.len_sL, jM.len_sR, jM.len_fI, jM.len_fL, jM.len_fR]; omega) | (simp [jM.len_nw, jM.len_sI, jM.len_sL, jM.len_sR, jM.len_fI, jM.len_fL, jM.len_fR, *]; omega)) (by first | omega | (exact R.r _ _) | (simp only [jM.len_sI, jM.len_sL, jM.len_sR, jM.len_fI, jM.len_fL, jM.len_fR]; omega) | (simp [jM.len_nw, jM.len_sI, jM.len_sL, jM.len_sR, jM.len_fI, jM.len_fL, jM.len_fR, *]; omega)) ?_
                                               exact mQ.of (by unfold sp_layer layV; (repeat (first | rw [if_pos (by omega)] | rw [if_neg (by omega)]))))
                                          · first
                                            | (exfalso; omega)
                                            | (first | refine J.aload_n (pc' := 121) rfl rfl rfl ?_ | refine J.aload_nN (pc' := 121) rfl rfl rfl ?_
                                               refine J.mgR (pc' := 124) (t := 140) B rfl fl_X12_97 rfl rfl (by decide) rfl ?_
                                               refine J.iload (pc' := 126) rfl rfl rfl ?_
                                               refine J.mald (pc' := 127) B rfl rfl rfl (by omega) (by simp only [jLn]; omega) rfl ?_
                                               refine J.iret rfl rfl (by first | omega | (exact R.r _ _) | (simp only [jM.len_sI, jM.len_sL, jM.len_sR, jM.len_fI, jM.len_fL, jM.len_fR]; omega) | (simp [jM.len_nw, jM.len_sI, jM.len_sL, jM.len_sR, jM.len_fI, jM.len_fL, jM.len_fR, *]; omega)) (by first | omega | (exact R.r _ _) | (simp only [jM.len_sI, jM.len_sL, jM.len_sR, jM.len_fI, jM.len_fL, jM.len_fR]; omega) | (simp [jM.len_nw, jM.len_sI, jM.len_sL, jM.len_sR, jM.len_fI, jM.len_fL, jM.len_fR, *]; omega)) ?_
                                               exact mQ.of (by unfold sp_layer layV; (repeat (first | rw [if_pos (by omega)] | rw [if_neg (by omega)]))))
                                          · first
                                            | (exfalso; omega)
                                            | (first | refine J.aload_n (pc' := 129) rfl rfl rfl ?_ | refine J.aload_nN (pc' := 129) rfl rfl rfl ?_
                                               refine J.mgR (pc' := 132) (t := 141) B rfl fl_X12_100 rfl rfl (by decide) rfl ?_
                                               refine J.iload (pc' := 134) rfl rfl rfl ?_
                                               refine J.mald (pc' := 135) B rfl rfl rfl (by omega) (by simp only [jLn]; omega) rfl ?_
                                               refine J.iret rfl rfl (by first | omega | (exact R.r _ _) | (simp only [jM.len_sI, jM.len_sL, jM.len_sR, jM.len_fI, jM.len_fL, jM.len_fR]; omega) | (simp [jM.len_nw, jM.len_sI, jM.len_sL, jM.len_sR, jM.len_fI, jM.len_fL, jM.len_fR, *]; omega)) (by first | omega | (exact R.r _ _) | (simp only [jM.len_sI, jM.len_sL, jM.len_sR, jM.len_fI, jM.len_fL, jM.len_fR]; omega) | (simp [jM.len_nw, jM.len_sI, jM.len_sL, jM.len_sR, jM.len_fI, jM.len_fL, jM.len_fR, *]; omega)) ?_
                                               exact mQ.of (by unfold sp_layer layV; (repeat (first | rw [if_pos (by omega)] | rw [if_neg (by omega)]))))
                                          · omega)
                                     · first
                                       | (exfalso; omega)
                                       | (refine J.iconst (pc' := 66) rfl rfl ?_
                                          refine J.iret rfl rfl (by first | omega | (exact R.r _ _) | (simp only [jM.len_sI, jM.len_sL, jM.len_sR, jM.len_fI, jM.len_fL, jM.len_fR]; omega) | (simp [jM.len_nw, jM.len_sI, jM.len_sL, jM.len_sR, jM.len_fI, jM.len_fL, jM.len_fR, *]; omega)) (by first | omega | (exact R.r _ _) | (simp only [jM.len_sI, jM.len_sL, jM.len_sR, jM.len_fI, jM.len_fL, jM.len_fR]; omega) | (simp [jM.len_nw, jM.len_sI, jM.len_sL, jM.len_sR, jM.len_fI, jM.len_fL, jM.len_fR, *]; omega)) ?_
                                          exact mQ.of (by unfold sp_layer layV; (repeat (first | rw [if_pos (by omega)] | rw [if_neg (by omega)]))))))))
                 · first
                   | (exfalso; omega)
                   | (refine J.iconst (pc' := 31) rfl rfl ?_
                      refine J.goto (tgt := 35) rfl rfl ?_
                      refine J.iconst (pc' := 36) rfl rfl ?_
                      first | refine J.callV (pc' := 39) (t := 16) rfl MX12_may ml_X12_161 iv_X12_may (by decide) ⟨_, rfl, rfl⟩ B.1 (cm_may1 B h0) rfl rfl (Nat.le_of_ble_eq_true rfl) (by first | omega | (exact R.r _ _) | (simp only [jM.len_sI, jM.len_sL, jM.len_sR, jM.len_fI, jM.len_fL, jM.len_fR]; omega) | (simp [jM.len_nw, jM.len_sI, jM.len_sL, jM.len_sR, jM.len_fI, jM.len_fL, jM.len_fR, *]; omega)) (by first | omega | (exact R.r _ _) | (simp only [jM.len_sI, jM.len_sL, jM.len_sR, jM.len_fI, jM.len_fL, jM.len_fR]; omega) | (simp [jM.len_nw, jM.len_sI, jM.len_sL, jM.len_sR, jM.len_fI, jM.len_fL, jM.len_fR, *]; omega)) (by first | omega | (exact R.r _ _) | (simp only [jM.len_sI, jM.len_sL, jM.len_sR, jM.len_fI, jM.len_fL, jM.len_fR]; omega) | (simp [jM.len_nw, jM.len_sI, jM.len_sL, jM.len_sR, jM.len_fI, jM.len_fL, jM.len_fR, *]; omega)) rfl rfl ?_ ?_ | refine J.callV (pc' := 39) (t := 16) rfl MX12_may ml_X12_161 iv_X12_may (by decide) ⟨_, rfl, rfl⟩ B.1 (cm_may0 B h0 (by omega)) rfl rfl (Nat.le_of_ble_eq_true rfl) (by first | omega | (exact R.r _ _) | (simp only [jM.len_sI, jM.len_sL, jM.len_sR, jM.len_fI, jM.len_fL, jM.len_fR]; omega) | (simp [jM.len_nw, jM.len_sI, jM.len_sL, jM.len_sR, jM.len_fI, jM.len_fL, jM.len_fR, *]; omega)) (by first | omega | (exact R.r _ _) | (simp only [jM.len_sI, jM.len_sL, jM.len_sR, jM.len_fI, jM.len_fL, jM.len_fR]; omega) | (simp [jM.len_nw, jM.len_sI, jM.len_sL, jM.len_sR, jM.len_fI, jM.len_fL, jM.len_fR, *]; omega)) (by first | omega | (exact R.r _ _) | (simp only [jM.len_sI, jM.len_sL, jM.len_sR, jM.len_fI, jM.len_fL, jM.len_fR]; omega) | (simp [jM.len_nw, jM.len_sI, jM.len_sL, jM.len_sR, jM.len_fI, jM.len_fL, jM.len_fR, *]; omega)) rfl rfl ?_ ?_
                      · exact fun _ _ h => h
                      rintro _ _ ⟨rfl, rfl⟩
                      refine J.if_eq (tgt := 65) (pc' := 42) rfl rfl rfl (by first | omega | (exact R.r _ _) | (simp only [jM.len_sI, jM.len_sL, jM.len_sR, jM.len_fI, jM.len_fL, jM.len_fR]; omega) | (simp [jM.len_nw, jM.len_sI, jM.len_sL, jM.len_sR, jM.len_fI, jM.len_fL, jM.len_fR, *]; omega)) (fun c39 => ?_) (fun c39 => ?_)
                      · first
                        | (exfalso; omega)
                        | (refine J.iconst (pc' := 66) rfl rfl ?_
                           refine J.iret rfl rfl (by first | omega | (exact R.r _ _) | (simp only [jM.len_sI, jM.len_sL, jM.len_sR, jM.len_fI, jM.len_fL, jM.len_fR]; omega) | (simp [jM.len_nw, jM.len_sI, jM.len_sL, jM.len_sR, jM.len_fI, jM.len_fL, jM.len_fR, *]; omega)) (by first | omega | (exact R.r _ _) | (simp only [jM.len_sI, jM.len_sL, jM.len_sR, jM.len_fI, jM.len_fL, jM.len_fR]; omega) | (simp [jM.len_nw, jM.len_sI, jM.len_sL, jM.len_sR, jM.len_fI, jM.len_fL, jM.len_fR, *]; omega)) ?_
                           exact mQ.of (by unfold sp_layer layV; (repeat (first | rw [if_pos (by omega)] | rw [if_neg (by omega)]))))
                      · first
                        | (exfalso; omega)
                        | (first | refine J.aload_n (pc' := 43) rfl rfl rfl ?_ | refine J.aload_nN (pc' := 43) rfl rfl rfl ?_
                           refine J.iload_n (pc' := 44) rfl rfl rfl ?_
                           refine J.if_lt (tgt := 57) (pc' := 47) rfl rfl rfl (by first | omega | (exact R.r _ _) | (simp only [jM.len_sI, jM.len_sL, jM.len_sR, jM.len_fI, jM.len_fL, jM.len_fR]; omega) | (simp [jM.len_nw, jM.len_sI, jM.len_sL, jM.len_sR, jM.len_fI, jM.len_fL, jM.len_fR, *]; omega)) (fun c44 => ?_) (fun c44 => ?_)
                           · first
                             | (exfalso; omega)
                             | (refine J.iconst (pc' := 58) rfl rfl ?_
                                refine J.iconst (pc' := 59) rfl rfl ?_
                                first | refine J.callV (pc' := 62) (t := 16) rfl MX12_may ml_X12_161 iv_X12_may (by decide) ⟨_, rfl, rfl⟩ B.1 (cm_may1 B h0) rfl rfl (Nat.le_of_ble_eq_true rfl) (by first | omega | (exact R.r _ _) | (simp only [jM.len_sI, jM.len_sL, jM.len_sR, jM.len_fI, jM.len_fL, jM.len_fR]; omega) | (simp [jM.len_nw, jM.len_sI, jM.len_sL, jM.len_sR, jM.len_fI, jM.len_fL, jM.len_fR, *]; omega)) (by first | omega | (exact R.r _ _) | (simp only [jM.len_sI, jM.len_sL, jM.len_sR, jM.len_fI, jM.len_fL, jM.len_fR]; omega) | (simp [jM.len_nw, jM.len_sI, jM.len_sL, jM.len_sR, jM.len_fI, jM.len_fL, jM.len_fR, *]; omega)) (by first | omega | (exact R.r _ _) | (simp only [jM.len_sI, jM.len_sL, jM.len_sR, jM.len_fI, jM.len_fL, jM.len_fR]; omega) | (simp [jM.len_nw, jM.len_sI, jM.len_sL, jM.len_sR, jM.len_fI, jM.len_fL, jM.len_fR, *]; omega)) rfl rfl ?_ ?_ | refine J.callV (pc' := 62) (t := 16) rfl MX12_may ml_X12_161 iv_X12_may (by decide) ⟨_, rfl, rfl⟩ B.1 (cm_may0 B h0 (by omega)) rfl rfl (Nat.le_of_ble_eq_true rfl) (by first | omega | (exact R.r _ _) | (simp only [jM.len_sI, jM.len_sL, jM.len_sR, jM.len_fI, jM.len_fL, jM.len_fR]; omega) | (simp [jM.len_nw, jM.len_sI, jM.len_sL, jM.len_sR, jM.len_fI, jM.len_fL, jM.len_fR, *]; omega)) (by first | omega | (exact R.r _ _) | (simp only [jM.len_sI, jM.len_sL, jM.len_sR, jM.len_fI, jM.len_fL, jM.len_fR]; omega) | (simp [jM.len_nw, jM.len_sI, jM.len_sL, jM.len_sR, jM.len_fI, jM.len_fL, jM.len_fR, *]; omega)) (by first | omega | (exact R.r _ _) | (simp only [jM.len_sI, jM.len_sL, jM.len_sR, jM.len_fI, jM.len_fL, jM.len_fR]; omega) | (simp [jM.len_nw, jM.len_sI, jM.len_sL, jM.len_sR, jM.len_fI, jM.len_fL, jM.len_fR, *]; omega)) rfl rfl ?_ ?_
                                · exact fun _ _ h => h
                                rintro _ _ ⟨rfl, rfl⟩
                                refine J.if_ne (tgt := 67) (pc' := 65) rfl rfl rfl (by first | omega | (exact R.r _ _) | (simp only [jM.len_sI, jM.len_sL, jM.len_sR, jM.len_fI, jM.len_fL, jM.len_fR]; omega) | (simp [jM.len_nw, jM.len_sI, jM.len_sL, jM.len_sR, jM.len_fI, jM.len_fL, jM.len_fR, *]; omega)) (fun c62 => ?_) (fun c62 => ?_)
                                · first
                                  | (exfalso; omega)
                                  | (refine J.bipush (pc' := 69) rfl rfl (by decide) ?_
                                     refine J.iload_n (pc' := 70) rfl rfl rfl ?_
                                     refine J.imul (pc' := 71) rfl rfl ?_
                                     first | refine J.aload_n (pc' := 72) rfl rfl rfl ?_ | refine J.aload_nN (pc' := 72) rfl rfl rfl ?_
                                     refine J.mgR (pc' := 75) (t := 138) B rfl fl_X12_91 rfl rfl (by decide) rfl ?_
                                     refine J.iload_n (pc' := 76) rfl rfl rfl ?_
                                     refine J.mald (pc' := 77) B rfl rfl rfl (by omega) (by simp only [jLn]; omega) rfl ?_
                                     refine J.iadd (pc' := 78) rfl rfl ?_
                                     refine J.iconst (pc' := 79) rfl rfl ?_
                                     refine J.isub (pc' := 80) rfl rfl ?_
                                     refine J.iload_n (pc' := 81) rfl rfl rfl ?_
                                     refine J.isub (pc' := 82) rfl rfl ?_
                                     refine J.istore (pc' := 84) rfl rfl (by decide) ?_
                                     refine J.iload_n (pc' := 85) rfl rfl rfl ?_
                                     refine J.tsw (tgt := 136) (n := 3) (T := jNth [112, 120, 128]) rfl (by first | omega | (exact R.r _ _) | (simp only [jM.len_sI, jM.len_sL, jM.len_sR, jM.len_fI, jM.len_fL, jM.len_fR]; omega) | (simp [jM.len_nw, jM.len_sI, jM.len_sL, jM.len_sR, jM.len_fI, jM.len_fL, jM.len_fR, *]; omega)) rfl rfl (fun k hk => by rcases k with _ | _ | _ | k <;> first | exact ⟨_, rfl, rfl⟩ | omega) (fun c85 => ?_) (fun k85 hk85 c85 => ?_)
                                     · first
                                       | (exfalso; omega)
                                       | (refine J.iload_n (pc' := 137) rfl rfl rfl ?_
                                          refine J.iconst (pc' := 138) rfl rfl ?_
                                          refine J.irem (pc' := 139) rfl rfl (by first | omega | (exact R.r _ _) | (simp only [jM.len_sI, jM.len_sL, jM.len_sR, jM.len_fI, jM.len_fL, jM.len_fR]; omega) | (simp [jM.len_nw, jM.len_sI, jM.len_sL, jM.len_sR, jM.len_fI, jM.len_fL, jM.len_fR, *]; omega)) (by first | omega | (exact R.r _ _) | (simp only [jM.len_sI, jM.len_sL, jM.len_sR, jM.len_fI, jM.len_fL, jM.len_fR]; omega) | (simp [jM.len_nw, jM.len_sI, jM.len_sL, jM.len_sR, jM.len_fI, jM.len_fL, jM.len_fR, *]; omega)) (by first | omega | (exact R.r _ _) | (simp only [jM.len_sI, jM.len_sL, jM.len_sR, jM.len_fI, jM.len_fL, jM.len_fR]; omega) | (simp [jM.len_nw, jM.len_sI, jM.len_sL, jM.len_sR, jM.len_fI, jM.len_fL, jM.len_fR, *]; omega)) ?_
                                          rw [Int.tmod_eq_emod_of_nonneg (by omega)]
                                          refine J.iconst (pc' := 140) rfl rfl ?_
                                          refine J.icmp_ne (tgt := 157) (pc' := 143) rfl rfl rfl (by first | omega | (exact R.r _ _) | (simp only [jM.len_sI, jM.len_sL, jM.len_sR, jM.len_fI, jM.len_fL, jM.len_fR]; omega) | (simp [jM.len_nw, jM.len_sI, jM.len_sL, jM.len_sR, jM.len_fI, jM.len_fL, jM.len_fR, *]; omega)) (by first | omega | (exact R.r _ _) | (simp only [jM.len_sI, jM.len_sL, jM.len_sR, jM.len_fI, jM.len_fL, jM.len_fR]; omega) | (simp [jM.len_nw, jM.len_sI, jM.len_sL, jM.len_sR, jM.len_fI, jM.len_fL, jM.len_fR, *]; omega)) (fun c140 => ?_) (fun c140 => ?_)
                                          · first
                                            | (exfalso; omega)
                                            | (first | refine J.aload_n (pc' := 158) rfl rfl rfl ?_ | refine J.aload_nN (pc' := 158) rfl rfl rfl ?_
                                               refine J.iload (pc' := 160) rfl rfl rfl ?_
                                               refine J.iload_n (pc' := 161) rfl rfl rfl ?_
                                               refine J.iconst (pc' := 162) rfl rfl ?_
                                               refine J.isub (pc' := 163) rfl rfl ?_
                                               refine J.iconst (pc' := 164) rfl rfl ?_
                                               refine J.idiv (pc' := 165) rfl rfl (by first | omega | (exact R.r _ _) | (simp only [jM.len_sI, jM.len_sL, jM.len_sR, jM.len_fI, jM.len_fL, jM.len_fR]; omega) | (simp [jM.len_nw, jM.len_sI, jM.len_sL, jM.len_sR, jM.len_fI, jM.len_fL, jM.len_fR, *]; omega)) (by first | omega | (exact R.r _ _) | (simp only [jM.len_sI, jM.len_sL, jM.len_sR, jM.len_fI, jM.len_fL, jM.len_fR]; omega) | (simp [jM.len_nw, jM.len_sI, jM.len_sL, jM.len_sR, jM.len_fI, jM.len_fL, jM.len_fR, *]; omega)) (by first | omega | (exact R.r _ _) | (simp only [jM.len_sI, jM.len_sL, jM.len_sR, jM.len_fI, jM.len_fL, jM.len_fR]; omega) | (simp [jM.len_nw, jM.len_sI, jM.len_sL, jM.len_sR, jM.len_fI, jM.len_fL, jM.len_fR, *]; omega)) ?_
                                               rw [Int.tdiv_eq_ediv_of_nonneg (by omega)]
                                               refine J.callV (pc' := 168) (t := 16) rfl MX12_highOfLayer ml_X12_307 iv_X12_highOfLayer (by decide) ⟨_, rfl, rfl⟩ B.1 (cm_highL B R (by omega) (by omega)) rfl rfl (Nat.le_of_ble_eq_true rfl) (by first | omega | (exact R.r _ _) | (simp only [jM.len_sI, jM.len_sL, jM.len_sR, jM.len_fI, jM.len_fL, jM.len_fR]; omega) | (simp [jM.len_nw, jM.len_sI, jM.len_sL, jM.len_sR, jM.len_fI, jM.len_fL, jM.len_fR, *]; omega)) (by first | omega | (exact R.r _ _) | (simp only [jM.len_sI, jM.len_sL, jM.len_sR, jM.len_fI, jM.len_fL, jM.len_fR]; omega) | (simp [jM.len_nw, jM.len_sI, jM.len_sL, jM.len_sR, jM.len_fI, jM.len_fL, jM.len_fR, *]; omega)) (by first | omega | (exact R.r _ _) | (simp only [jM.len_sI, jM.len_sL, jM.len_sR, jM.len_fI, jM.len_fL, jM.len_fR]; omega) | (simp [jM.len_nw, jM.len_sI, jM.len_sL, jM.len_sR, jM.len_fI, jM.len_fL, jM.len_fR, *]; omega)) rfl rfl ?_ ?_
                                               · exact fun _ _ h => h
                                               rintro _ _ ⟨rfl, rfl⟩
                                               refine J.iret rfl rfl (by first | omega | (exact R.r _ _) | (simp only [jM.len_sI, jM.len_sL, jM.len_sR, jM.len_fI, jM.len_fL, jM.len_fR]; omega) | (simp [jM.len_nw, jM.len_sI, jM.len_sL, jM.len_sR, jM.len_fI, jM.len_fL, jM.len_fR, *]; omega)) (by first | omega | (exact R.r _ _) | (simp only [jM.len_sI, jM.len_sL, jM.len_sR, jM.len_fI, jM.len_fL, jM.len_fR]; omega) | (simp [jM.len_nw, jM.len_sI, jM.len_sL, jM.len_sR, jM.len_fI, jM.len_fL, jM.len_fR, *]; omega)) ?_
                                               exact mQ.of (by unfold sp_layer layV; (repeat (first | rw [if_pos (by omega)] | rw [if_neg (by omega)]))))
                                          · first
                                            | (exfalso; omega)
                                            | (first | refine J.aload_n (pc' := 144) rfl rfl rfl ?_ | refine J.aload_nN (pc' := 144) rfl rfl rfl ?_
                                               refine J.iload (pc' := 146) rfl rfl rfl ?_
                                               refine J.iload_n (pc' := 147) rfl rfl rfl ?_
                                               refine J.iconst (pc' := 148) rfl rfl ?_
                                               refine J.isub (pc' := 149) rfl rfl ?_
                                               refine J.iconst (pc' := 150) rfl rfl ?_
                                               refine J.idiv (pc' := 151) rfl rfl (by first | omega | (exact R.r _ _) | (simp only [jM.len_sI, jM.len_sL, jM.len_sR, jM.len_fI, jM.len_fL, jM.len_fR]; omega) | (simp [jM.len_nw, jM.len_sI, jM.len_sL, jM.len_sR, jM.len_fI, jM.len_fL, jM.len_fR, *]; omega)) (by first | omega | (exact R.r _ _) | (simp only [jM.len_sI, jM.len_sL, jM.len_sR, jM.len_fI, jM.len_fL, jM.len_fR]; omega) | (simp [jM.len_nw, jM.len_sI, jM.len_sL, jM.len_sR, jM.len_fI, jM.len_fL, jM.len_fR, *]; omega)) (by first | omega | (exact R.r _ _) | (simp only [jM.len_sI, jM.len_sL, jM.len_sR, jM.len_fI, jM.len_fL, jM.len_fR]; omega) | (simp [jM.len_nw, jM.len_sI, jM.len_sL, jM.len_sR, jM.len_fI, jM.len_fL, jM.len_fR, *]; omega)) ?_
                                               rw [Int.tdiv_eq_ediv_of_nonneg (by omega)]
                                               refine J.callV (pc' := 154) (t := 16) rfl MX12_lowOfLayer ml_X12_304 iv_X12_lowOfLayer (by decide) ⟨_, rfl, rfl⟩ B.1 (cm_lowL B R (by omega) (by omega)) rfl rfl (Nat.le_of_ble_eq_true rfl) (by first | omega | (exact R.r _ _) | (simp only [jM.len_sI, jM.len_sL, jM.len_sR, jM.len_fI, jM.len_fL, jM.len_fR]; omega) | (simp [jM.len_nw, jM.len_sI, jM.len_sL, jM.len_sR, jM.len_fI, jM.len_fL, jM.len_fR, *]; omega)) (by first | omega | (exact R.r _ _) | (simp only [jM.len_sI, jM.len_sL, jM.len_sR, jM.len_fI, jM.len_fL, jM.len_fR]; omega) | (simp [jM.len_nw, jM.len_sI, jM.len_sL, jM.len_sR, jM.len_fI, jM.len_fL, jM.len_fR, *]; omega)) (by first | omega | (exact R.r _ _) | (simp only [jM.len_sI, jM.len_sL, jM.len_sR, jM.len_fI, jM.len_fL, jM.len_fR]; omega) | (simp [jM.len_nw, jM.len_sI, jM.len_sL, jM.len_sR, jM.len_fI, jM.len_fL, jM.len_fR, *]; omega)) rfl rfl ?_ ?_
                                               · exact fun _ _ h => h
                                               rintro _ _ ⟨rfl, rfl⟩
                                               refine J.goto (tgt := 168) rfl rfl ?_
                                               refine J.iret rfl rfl (by first | omega | (exact R.r _ _) | (simp only [jM.len_sI, jM.len_sL, jM.len_sR, jM.len_fI, jM.len_fL, jM.len_fR]; omega) | (simp [jM.len_nw, jM.len_sI, jM.len_sL, jM.len_sR, jM.len_fI, jM.len_fL, jM.len_fR, *]; omega)) (by first | omega | (exact R.r _ _) | (simp only [jM.len_sI, jM.len_sL, jM.len_sR, jM.len_fI, jM.len_fL, jM.len_fR]; omega) | (simp [jM.len_nw, jM.len_sI, jM.len_sL, jM.len_sR, jM.len_fI, jM.len_fL, jM.len_fR, *]; omega)) ?_
                                               exact mQ.of (by unfold sp_layer layV; (repeat (first | rw [if_pos (by omega)] | rw [if_neg (by omega)])))))
                                     rcases k85 with _ | _ | _ | k85
                                     · first
                                       | (exfalso; omega)
                                       | (first | refine J.aload_n (pc' := 113) rfl rfl rfl ?_ | refine J.aload_nN (pc' := 113) rfl rfl rfl ?_
                                          refine J.mgR (pc' := 116) (t := 139) B rfl fl_X12_94 rfl rfl (by decide) rfl ?_
                                          refine J.iload (pc' := 118) rfl rfl rfl ?_
                                          refine J.mald (pc' := 119) B rfl rfl rfl (by omega) (by simp only [jLn]; omega) rfl ?_
                                          refine J.iret rfl rfl (by first | omega | (exact R.r _ _) | (simp only [jM.len_sI, jM.len_sL, jM.len_sR, jM.len_fI, jM.len_fL, jM.len_fR]; omega) | (simp [jM.len_nw, jM.len_sI, jM.len_sL, jM.len_sR, jM.len_fI, jM.len_fL, jM.len_fR, *]; omega)) (by first | omega | (exact R.r _ _) | (simp only [jM.len_sI, jM.len_sL, jM.len_sR, jM.len_fI, jM.len_fL, jM.len_fR]; omega) | (simp [jM.len_nw, jM.len_sI, jM.len_sL, jM.len_sR, jM.len_fI, jM.len_fL, jM.len_fR, *]; omega)) ?_
                                          exact mQ.of (by unfold sp_layer layV; (repeat (first | rw [if_pos (by omega)] | rw [if_neg (by omega)]))))
                                     · first
                                       | (exfalso; omega)
                                       | (first | refine J.aload_n (pc' := 121) rfl rfl rfl ?_ | refine J.aload_nN (pc' := 121) rfl rfl rfl ?_
                                          refine J.mgR (pc' := 124) (t := 140) B rfl fl_X12_97 rfl rfl (by decide) rfl ?_
                                          refine J.iload (pc' := 126) rfl rfl rfl ?_
                                          refine J.mald (pc' := 127) B rfl rfl rfl (by omega) (by simp only [jLn]; omega) rfl ?_
                                          refine J.iret rfl rfl (by first | omega | (exact R.r _ _) | (simp only [jM.len_sI, jM.len_sL, jM.len_sR, jM.len_fI, jM.len_fL, jM.len_fR]; omega) | (simp [jM.len_nw, jM.len_sI, jM.len_sL, jM.len_sR, jM.len_fI, jM.len_fL, jM.len_fR, *]; omega)) (by first | omega | (exact R.r _ _) | (simp only [jM.len_sI, jM.len_sL, jM.len_sR, jM.len_fI, jM.len_fL, jM.len_fR]; omega) | (simp [jM.len_nw, jM.len_sI, jM.len_sL, jM.len_sR, jM.len_fI, jM.len_fL, jM.len_fR, *]; omega)) ?_
                                          exact mQ.of (by unfold sp_layer layV; (repeat (first | rw [if_pos (by omega)] | rw [if_neg (by omega)]))))
                                     · first
                                       | (exfalso; omega)
                                       | (first | refine J.aload_n (pc' := 129) rfl rfl rfl ?_ | refine J.aload_nN (pc' := 129) rfl rfl rfl ?_
                                          refine J.mgR (pc' := 132) (t := 141) B rfl fl_X12_100 rfl rfl (by decide) rfl ?_
                                          refine J.iload (pc' := 134) rfl rfl rfl ?_
                                          refine J.mald (pc' := 135) B rfl rfl rfl (by omega) (by simp only [jLn]; omega) rfl ?_
                                          refine J.iret rfl rfl (by first | omega | (exact R.r _ _) | (simp only [jM.len_sI, jM.len_sL, jM.len_sR, jM.len_fI, jM.len_fL, jM.len_fR]; omega) | (simp [jM.len_nw, jM.len_sI, jM.len_sL, jM.len_sR, jM.len_fI, jM.len_fL, jM.len_fR, *]; omega)) (by first | omega | (exact R.r _ _) | (simp only [jM.len_sI, jM.len_sL, jM.len_sR, jM.len_fI, jM.len_fL, jM.len_fR]; omega) | (simp [jM.len_nw, jM.len_sI, jM.len_sL, jM.len_sR, jM.len_fI, jM.len_fL, jM.len_fR, *]; omega)) ?_
                                          exact mQ.of (by unfold sp_layer layV; (repeat (first | rw [if_pos (by omega)] | rw [if_neg (by omega)]))))
                                     · omega)
                                · first
                                  | (exfalso; omega)
                                  | (refine J.iconst (pc' := 66) rfl rfl ?_
                                     refine J.iret rfl rfl (by first | omega | (exact R.r _ _) | (simp only [jM.len_sI, jM.len_sL, jM.len_sR, jM.len_fI, jM.len_fL, jM.len_fR]; omega) | (simp [jM.len_nw, jM.len_sI, jM.len_sL, jM.len_sR, jM.len_fI, jM.len_fL, jM.len_fR, *]; omega)) (by first | omega | (exact R.r _ _) | (simp only [jM.len_sI, jM.len_sL, jM.len_sR, jM.len_fI, jM.len_fL, jM.len_fR]; omega) | (simp [jM.len_nw, jM.len_sI, jM.len_sL, jM.len_sR, jM.len_fI, jM.len_fL, jM.len_fR, *]; omega)) ?_
                                     exact mQ.of (by unfold sp_layer layV; (repeat (first | rw [if_pos (by omega)] | rw [if_neg (by omega)])))))
                           · first
                             | (exfalso; omega)
                             | (refine J.iload_n (pc' := 48) rfl rfl rfl ?_
                                refine J.bipush (pc' := 50) rfl rfl (by decide) ?_
                                refine J.icmp_ge (tgt := 57) (pc' := 53) rfl rfl rfl (by first | omega | (exact R.r _ _) | (simp only [jM.len_sI, jM.len_sL, jM.len_sR, jM.len_fI, jM.len_fL, jM.len_fR]; omega) | (simp [jM.len_nw, jM.len_sI, jM.len_sL, jM.len_sR, jM.len_fI, jM.len_fL, jM.len_fR, *]; omega)) (by first | omega | (exact R.r _ _) | (simp only [jM.len_sI, jM.len_sL, jM.len_sR, jM.len_fI, jM.len_fL, jM.len_fR]; omega) | (simp [jM.len_nw, jM.len_sI, jM.len_sL, jM.len_sR, jM.len_fI, jM.len_fL, jM.len_fR, *]; omega)) (fun c50 => ?_) (fun c50 => ?_)
                                · first
                                  | (exfalso; omega)
                                  | (refine J.iconst (pc' := 58) rfl rfl ?_
                                     refine J.iconst (pc' := 59) rfl rfl ?_
                                     first | refine J.callV (pc' := 62) (t := 16) rfl MX12_may ml_X12_161 iv_X12_may (by decide) ⟨_, rfl, rfl⟩ B.1 (cm_may1 B h0) rfl rfl (Nat.le_of_ble_eq_true rfl) (by first | omega | (exact R.r _ _) | (simp only [jM.len_sI, jM.len_sL, jM.len_sR, jM.len_fI, jM.len_fL, jM.len_fR]; omega) | (simp [jM.len_nw, jM.len_sI, jM.len_sL, jM.len_sR, jM.len_fI, jM.len_fL, jM.len_fR, *]; omega)) (by first | omega | (exact R.r _ _) | (simp only [jM.len_sI, jM.len_sL, jM.len_sR, jM.len_fI, jM.len_fL, jM.len_fR]; omega) | (simp [jM.len_nw, jM.len_sI, jM.len_sL, jM.len_sR, jM.len_fI, jM.len_fL, jM.len_fR, *]; omega)) (by first | omega | (exact R.r _ _) | (simp only [jM.len_sI, jM.len_sL, jM.len_sR, jM.len_fI, jM.len_fL, jM.len_fR]; omega) | (simp [jM.len_nw, jM.len_sI, jM.len_sL, jM.len_sR, jM.len_fI, jM.len_fL, jM.len_fR, *]; omega)) rfl rfl ?_ ?_ | refine J.callV (pc' := 62) (t := 16) rfl MX12_may ml_X12_161 iv_X12_may (by decide) ⟨_, rfl, rfl⟩ B.1 (cm_may0 B h0 (by omega)) rfl rfl (Nat.le_of_ble_eq_true rfl) (by first | omega | (exact R.r _ _) | (simp only [jM.len_sI, jM.len_sL, jM.len_sR, jM.len_fI, jM.len_fL, jM.len_fR]; omega) | (simp [jM.len_nw, jM.len_sI, jM.len_sL, jM.len_sR, jM.len_fI, jM.len_fL, jM.len_fR, *]; omega)) (by first | omega | (exact R.r _ _) | (simp only [jM.len_sI, jM.len_sL, jM.len_sR, jM.len_fI, jM.len_fL, jM.len_fR]; omega) | (simp [jM.len_nw, jM.len_sI, jM.len_sL, jM.len_sR, jM.len_fI, jM.len_fL, jM.len_fR, *]; omega)) (by first | omega | (exact R.r _ _) | (simp only [jM.len_sI, jM.len_sL, jM.len_sR, jM.len_fI, jM.len_fL, jM.len_fR]; omega) | (simp [jM.len_nw, jM.len_sI, jM.len_sL, jM.len_sR, jM.len_fI, jM.len_fL, jM.len_fR, *]; omega)) rfl rfl ?_ ?_
                                     · exact fun _ _ h => h
                                     rintro _ _ ⟨rfl, rfl⟩
                                     refine J.if_ne (tgt := 67) (pc' := 65) rfl rfl rfl (by first | omega | (exact R.r _ _) | (simp only [jM.len_sI, jM.len_sL, jM.len_sR, jM.len_fI, jM.len_fL, jM.len_fR]; omega) | (simp [jM.len_nw, jM.len_sI, jM.len_sL, jM.len_sR, jM.len_fI, jM.len_fL, jM.len_fR, *]; omega)) (fun c62 => ?_) (fun c62 => ?_)
                                     · first
                                       | (exfalso; omega)
                                       | (refine J.bipush (pc' := 69) rfl rfl (by decide) ?_
                                          refine J.iload_n (pc' := 70) rfl rfl rfl ?_
                                          refine J.imul (pc' := 71) rfl rfl ?_
                                          first | refine J.aload_n (pc' := 72) rfl rfl rfl ?_ | refine J.aload_nN (pc' := 72) rfl rfl rfl ?_
                                          refine J.mgR (pc' := 75) (t := 138) B rfl fl_X12_91 rfl rfl (by decide) rfl ?_
                                          refine J.iload_n (pc' := 76) rfl rfl rfl ?_
                                          refine J.mald (pc' := 77) B rfl rfl rfl (by omega) (by simp only [jLn]; omega) rfl ?_
                                          refine J.iadd (pc' := 78) rfl rfl ?_
                                          refine J.iconst (pc' := 79) rfl rfl ?_
                                          refine J.isub (pc' := 80) rfl rfl ?_
                                          refine J.iload_n (pc' := 81) rfl rfl rfl ?_
                                          refine J.isub (pc' := 82) rfl rfl ?_
                                          refine J.istore (pc' := 84) rfl rfl (by decide) ?_
                                          refine J.iload_n (pc' := 85) rfl rfl rfl ?_
                                          refine J.tsw (tgt := 136) (n := 3) (T := jNth [112, 120, 128]) rfl (by first | omega | (exact R.r _ _) | (simp only [jM.len_sI, jM.len_sL, jM.len_sR, jM.len_fI, jM.len_fL, jM.len_fR]; omega) | (simp [jM.len_nw, jM.len_sI, jM.len_sL, jM.len_sR, jM.len_fI, jM.len_fL, jM.len_fR, *]; omega)) rfl rfl (fun k hk => by rcases k with _ | _ | _ | k <;> first | exact ⟨_, rfl, rfl⟩ | omega) (fun c85 => ?_) (fun k85 hk85 c85 => ?_)
                                          · first
                                            | (exfalso; omega)
                                            | (refine J.iload_n (pc' := 137) rfl rfl rfl ?_
                                               refine J.iconst (pc' := 138) rfl rfl ?_
                                               refine J.irem (pc' := 139) rfl rfl (by first | omega | (exact R.r _ _) | (simp only [jM.len_sI, jM.len_sL, jM.len_sR, jM.len_fI, jM.len_fL, jM.len_fR]; omega) | (simp [jM.len_nw, jM.len_sI, jM.len_sL, jM.len_sR, jM.len_fI, jM.len_fL, jM.len_fR, *]; omega)) (by first | omega | (exact R.r _ _) | (simp only [jM.len_sI, jM.len_sL, jM.len_sR, jM.len_fI, jM.len_fL, jM.len_fR]; omega) | (simp [jM.len_nw, jM.len_sI, jM.len_sL, jM.len_sR, jM.len_fI, jM.len_fL, jM.len_fR, *]; omega)) (by first | omega | (exact R.r _ _) | (simp only [jM.len_sI, jM.len_sL, jM.len_sR, jM.len_fI, jM.len_fL, jM.len_fR]; omega) | (simp [jM.len_nw, jM.len_sI, jM.len_sL, jM.len_sR, jM.len_fI, jM.len_fL, jM.len_fR, *]; omega)) ?_
                                               rw [Int.tmod_eq_emod_of_nonneg (by omega)]
                                               refine J.iconst (pc' := 140) rfl rfl ?_
                                               refine J.icmp_ne (tgt := 157) (pc' := 143) rfl rfl rfl (by first | omega | (exact R.r _ _) | (simp only [jM.len_sI, jM.len_sL, jM.len_sR, jM.len_fI, jM.len_fL, jM.len_fR]; omega) | (simp [jM.len_nw, jM.len_sI, jM.len_sL, jM.len_sR, jM.len_fI, jM.len_fL, jM.len_fR, *]; omega)) (by first | omega | (exact R.r _ _) | (simp only [jM.len_sI, jM.len_sL, jM.len_sR, jM.len_fI, jM.len_fL, jM.len_fR]; omega) | (simp [jM.len_nw, jM.len_sI, jM.len_sL, jM.len_sR, jM.len_fI, jM.len_fL, jM.len_fR, *]; omega)) (fun c140 => ?_) (fun c140 => ?_)
                                               · first
                                                 | (exfalso; omega)
                                                 | (first | refine J.aload_n (pc' := 158) rfl rfl rfl ?_ | refine J.aload_nN (pc' := 158) rfl rfl rfl ?_
                                                    refine J.iload (pc' := 160) rfl rfl rfl ?_
                                                    refine J.iload_n (pc' := 161) rfl rfl rfl ?_
                                                    refine J.iconst (pc' := 162) rfl rfl ?_
                                                    refine J.isub (pc' := 163) rfl rfl ?_
                                                    refine J.iconst (pc' := 164) rfl rfl ?_
                                                    refine J.idiv (pc' := 165) rfl rfl (by first | omega | (exact R.r _ _) | (simp only [jM.len_sI, jM.len_sL, jM.len_sR, jM.len_fI, jM.len_fL, jM.len_fR]; omega) | (simp [jM.len_nw, jM.len_sI, jM.len_sL, jM.len_sR, jM.len_fI, jM.len_fL, jM.len_fR, *]; omega)) (by first | omega | (exact R.r _ _) | (simp only [jM.len_sI, jM.len_sL, jM.len_sR, jM.len_fI, jM.len_fL, jM.len_fR]; omega) | (simp [jM.len_nw, jM.len_sI, jM.len_sL, jM.len_sR, jM.len_fI, jM.len_fL, jM.len_fR, *]; omega)) (by first | omega | (exact R.r _ _) | (simp only [jM.len_sI, jM.len_sL, jM.len_sR, jM.len_fI, jM.len_fL, jM.len_fR]; omega) | (simp [jM.len_nw, jM.len_sI, jM.len_sL, jM.len_sR, jM.len_fI, jM.len_fL, jM.len_fR, *]; omega)) ?_
                                                    rw [Int.tdiv_eq_ediv_of_nonneg (by omega)]
                                                    refine J.callV (pc' := 168) (t := 16) rfl MX12_highOfLayer ml_X12_307 iv_X12_highOfLayer (by decide) ⟨_, rfl, rfl⟩ B.1 (cm_highL B R (by omega) (by omega)) rfl rfl (Nat.le_of_ble_eq_true rfl) (by first | omega | (exact R.r _ _) | (simp only [jM.len_sI, jM.len_sL, jM.len_sR, jM.len_fI, jM.len_fL, jM.len_fR]; omega) | (simp [jM.len_nw, jM.len_sI, jM.len_sL, jM.len_sR, jM.len_fI, jM.len_fL, jM.len_fR, *]; omega)) (by first | omega | (exact R.r _ _) | (simp only [jM.len_sI, jM.len_sL, jM.len_sR, jM.len_fI, jM.len_fL, jM.len_fR]; omega) | (simp [jM.len_nw, jM.len_sI, jM.len_sL, jM.len_sR, jM.len_fI, jM.len_fL, jM.len_fR, *]; omega)) (by first | omega | (exact R.r _ _) | (simp only [jM.len_sI, jM.len_sL, jM.len_sR, jM.len_fI, jM.len_fL, jM.len_fR]; omega) | (simp [jM.len_nw, jM.len_sI, jM.len_sL, jM.len_sR, jM.len_fI, jM.len_fL, jM.len_fR, *]; omega)) rfl rfl ?_ ?_
                                                    · exact fun _ _ h => h
                                                    rintro _ _ ⟨rfl, rfl⟩
                                                    refine J.iret rfl rfl (by first | omega | (exact R.r _ _) | (simp only [jM.len_sI, jM.len_sL, jM.len_sR, jM.len_fI, jM.len_fL, jM.len_fR]; omega) | (simp [jM.len_nw, jM.len_sI, jM.len_sL, jM.len_sR, jM.len_fI, jM.len_fL, jM.len_fR, *]; omega)) (by first | omega | (exact R.r _ _) | (simp only [jM.len_sI, jM.len_sL, jM.len_sR, jM.len_fI, jM.len_fL, jM.len_fR]; omega) | (simp [jM.len_nw, jM.len_sI, jM.len_sL, jM.len_sR, jM.len_fI, jM.len_fL, jM.len_fR, *]; omega)) ?_
                                                    exact mQ.of (by unfold sp_layer layV; (repeat (first | rw [if_pos (by omega)] | rw [if_neg (by omega)]))))
                                               · first
                                                 | (exfalso; omega)
                                                 | (first | refine J.aload_n (pc' := 144) rfl rfl rfl ?_ | refine J.aload_nN (pc' := 144) rfl rfl rfl ?_
                                                    refine J.iload (pc' := 146) rfl rfl rfl ?_
                                                    refine J.iload_n (pc' := 147) rfl rfl rfl ?_
                                                    refine J.iconst (pc' := 148) rfl rfl ?_
                                                    refine J.isub (pc' := 149) rfl rfl ?_
                                                    refine J.iconst (pc' := 150) rfl rfl ?_
                                                    refine J.idiv (pc' := 151) rfl rfl (by first | omega | (exact R.r _ _) | (simp only [jM.len_sI, jM.len_sL, jM.len_sR, jM.len_fI, jM.len_fL, jM.len_fR]; omega) | (simp [jM.len_nw, jM.len_sI, jM.len_sL, jM.len_sR, jM.len_fI, jM.len_fL, jM.len_fR, *]; omega)) (by first | omega | (exact R.r _ _) | (simp only [jM.len_sI, jM.len_sL, jM.len_sR, jM.len_fI, jM.len_fL, jM.len_fR]; omega) | (simp [jM.len_nw, jM.len_sI, jM.len_sL, jM.len_sR, jM.len_fI, jM.len_fL, jM.len_fR, *]; omega)) (by first | omega | (exact R.r _ _) | (simp only [jM.len_sI, jM.len_sL, jM.len_sR, jM.len_fI, jM.len_fL, jM.len_fR]; omega) | (simp [jM.len_nw, jM.len_sI, jM.len_sL, jM.len_sR, jM.len_fI, jM.len_fL, jM.len_fR, *]; omega)) ?_
                                                    rw [Int.tdiv_eq_ediv_of_nonneg (by omega)]
                                                    refine J.callV (pc' := 154) (t := 16) rfl MX12_lowOfLayer ml_X12_304 iv_X12_lowOfLayer (by decide) ⟨_, rfl, rfl⟩ B.1 (cm_lowL B R (by omega) (by omega)) rfl rfl (Nat.le_of_ble_eq_true rfl) (by first | omega | (exact R.r _ _) | (simp only [jM.len_sI, jM.len_sL, jM.len_sR, jM.len_fI, jM.len_fL, jM.len_fR]; omega) | (simp [jM.len_nw, jM.len_sI, jM.len_sL, jM.len_sR, jM.len_fI, jM.len_fL, jM.len_fR, *]; omega)) (by first | omega | (exact R.r _ _) | (simp only [jM.len_sI, jM.len_sL, jM.len_sR, jM.len_fI, jM.len_fL, jM.len_fR]; omega) | (simp [jM.len_nw, jM.len_sI, jM.len_sL, jM.len_sR, jM.len_fI, jM.len_fL, jM.len_fR, *]; omega)) (by first | omega | (exact R.r _ _) | (simp only [jM.len_sI, jM.len_sL, jM.len_sR, jM.len_fI, jM.len_fL, jM.len_fR]; omega) | (simp [jM.len_nw, jM.len_sI, jM.len_sL, jM.len_sR, jM.len_fI, jM.len_fL, jM.len_fR, *]; omega)) rfl rfl ?_ ?_
                                                    · exact fun _ _ h => h
                                                    rintro _ _ ⟨rfl, rfl⟩
                                                    refine J.goto (tgt := 168) rfl rfl ?_
                                                    refine J.iret rfl rfl (by first | omega | (exact R.r _ _) | (simp only [jM.len_sI, jM.len_sL, jM.len_sR, jM.len_fI, jM.len_fL, jM.len_fR]; omega) | (simp [jM.len_nw, jM.len_sI, jM.len_sL, jM.len_sR, jM.len_fI, jM.len_fL, jM.len_fR, *]; omega)) (by first | omega | (exact R.r _ _) | (simp only [jM.len_sI, jM.len_sL, jM.len_sR, jM.len_fI, jM.len_fL, jM.len_fR]; omega) | (simp [jM.len_nw, jM.len_sI, jM.len_sL, jM.len_sR, jM.len_fI, jM.len_fL, jM.len_fR, *]; omega)) ?_
                                                    exact mQ.of (by unfold sp_layer layV; (repeat (first | rw [if_pos (by omega)] | rw [if_neg (by omega)])))))
                                          rcases k85 with _ | _ | _ | k85
                                          · first
                                            | (exfalso; omega)
                                            | (first | refine J.aload_n (pc' := 113) rfl rfl rfl ?_ | refine J.aload_nN (pc' := 113) rfl rfl rfl ?_
                                               refine J.mgR (pc' := 116) (t := 139) B rfl fl_X12_94 rfl rfl (by decide) rfl ?_
                                               refine J.iload (pc' := 118) rfl rfl rfl ?_
                                               refine J.mald (pc' := 119) B rfl rfl rfl (by omega) (by simp only [jLn]; omega) rfl ?_
                                               refine J.iret rfl rfl (by first | omega | (exact R.r _ _) | (simp only [jM.len_sI, jM.len_sL, jM.len_sR, jM.len_fI, jM.len_fL, jM.len_fR]; omega) | (simp [jM.len_nw, jM.len_sI, jM.len_sL, jM.len_sR, jM.len_fI, jM.len_fL, jM.len_fR, *]; omega)) (by first | omega | (exact R.r _ _) | (simp only [jM.len_sI, jM.len_sL, jM.len_sR, jM.len_fI, jM.len_fL, jM.len_fR]; omega) | (simp [jM.len_nw, jM.len_sI, jM.len_sL, jM.len_sR, jM.len_fI, jM.len_fL, jM.len_fR, *]; omega)) ?_
                                               exact mQ.of (by unfold sp_layer layV; (repeat (first | rw [if_pos (by omega)] | rw [if_neg (by omega)]))))
                                          · first
                                            | (exfalso; omega)
                                            | (first | refine J.aload_n (pc' := 121) rfl rfl rfl ?_ | refine J.aload_nN (pc' := 121) rfl rfl rfl ?_
                                               refine J.mgR (pc' := 124) (t := 140) B rfl fl_X12_97 rfl rfl (by decide) rfl ?_
                                               refine J.iload (pc' := 126) rfl rfl rfl ?_
                                               refine J.mald (pc' := 127) B rfl rfl rfl (by omega) (by simp only [jLn]; omega) rfl ?_
                                               refine J.iret rfl rfl (by first | omega | (exact R.r _ _) | (simp only [jM.len_sI, jM.len_sL, jM.len_sR, jM.len_fI, jM.len_fL, jM.len_fR]; omega) | (simp [jM.len_nw, jM.len_sI, jM.len_sL, jM.len_sR, jM.len_fI, jM.len_fL, jM.len_fR, *]; omega)) (by first | omega | (exact R.r _ _) | (simp only [jM.len_sI, jM.len_sL, jM.len_sR, jM.len_fI, jM.len_fL, jM.len_fR]; omega) | (simp [jM.len_nw, jM.len_sI, jM.len_sL, jM.len_sR, jM.len_fI, jM.len_fL, jM.len_fR, *]; omega)) ?_
                                               exact mQ.of (by unfold sp_layer layV; (repeat (first | rw [if_pos (by omega)] | rw [if_neg (by omega)]))))
                                          · first
                                            | (exfalso; omega)
                                            | (first | refine J.aload_n (pc' := 129) rfl rfl rfl ?_ | refine J.aload_nN (pc' := 129) rfl rfl rfl ?_
                                               refine J.mgR (pc' := 132) (t := 141) B rfl fl_X12_100 rfl rfl (by decide) rfl ?_
                                               refine J.iload (pc' := 134) rfl rfl rfl ?_
                                               refine J.mald (pc' := 135) B rfl rfl rfl (by omega) (by simp only [jLn]; omega) rfl ?_
                                               refine J.iret rfl rfl (by first | omega | (exact R.r _ _) | (simp only [jM.len_sI, jM.len_sL, jM.len_sR, jM.len_fI, jM.len_fL, jM.len_fR]; omega) | (simp [jM.len_nw, jM.len_sI, jM.len_sL, jM.len_sR, jM.len_fI, jM.len_fL, jM.len_fR, *]; omega)) (by first | omega | (exact R.r _ _) | (simp only [jM.len_sI, jM.len_sL, jM.len_sR, jM.len_fI, jM.len_fL, jM.len_fR]; omega) | (simp [jM.len_nw, jM.len_sI, jM.len_sL, jM.len_sR, jM.len_fI, jM.len_fL, jM.len_fR, *]; omega)) ?_
                                               exact mQ.of (by unfold sp_layer layV; (repeat (first | rw [if_pos (by omega)] | rw [if_neg (by omega)]))))
                                          · omega)
                                     · first
                                       | (exfalso; omega)
                                       | (refine J.iconst (pc' := 66) rfl rfl ?_
                                          refine J.iret rfl rfl (by first | omega | (exact R.r _ _) | (simp only [jM.len_sI, jM.len_sL, jM.len_sR, jM.len_fI, jM.len_fL, jM.len_fR]; omega) | (simp [jM.len_nw, jM.len_sI, jM.len_sL, jM.len_sR, jM.len_fI, jM.len_fL, jM.len_fR, *]; omega)) (by first | omega | (exact R.r _ _) | (simp only [jM.len_sI, jM.len_sL, jM.len_sR, jM.len_fI, jM.len_fL, jM.len_fR]; omega) | (simp [jM.len_nw, jM.len_sI, jM.len_sL, jM.len_sR, jM.len_fI, jM.len_fL, jM.len_fR, *]; omega)) ?_
                                          exact mQ.of (by unfold sp_layer layV; (repeat (first | rw [if_pos (by omega)] | rw [if_neg (by omega)])))))
                                · first
                                  | (exfalso; omega)
                                  | (refine J.iconst (pc' := 54) rfl rfl ?_
                                     refine J.goto (tgt := 58) rfl rfl ?_
                                     refine J.iconst (pc' := 59) rfl rfl ?_
                                     first | refine J.callV (pc' := 62) (t := 16) rfl MX12_may ml_X12_161 iv_X12_may (by decide) ⟨_, rfl, rfl⟩ B.1 (cm_may1 B h0) rfl rfl (Nat.le_of_ble_eq_true rfl) (by first | omega | (exact R.r _ _) | (simp only [jM.len_sI, jM.len_sL, jM.len_sR, jM.len_fI, jM.len_fL, jM.len_fR]; omega) | (simp [jM.len_nw, jM.len_sI, jM.len_sL, jM.len_sR, jM.len_fI, jM.len_fL, jM.len_fR, *]; omega)) (by first | omega | (exact R.r _ _) | (simp only [jM.len_sI, jM.len_sL, jM.len_sR, jM.len_fI, jM.len_fL, jM.len_fR]; omega) | (simp [jM.len_nw, jM.len_sI, jM.len_sL, jM.len_sR, jM.len_fI, jM.len_fL, jM.len_fR, *]; omega)) (by first | omega | (exact R.r _ _) | (simp only [jM.len_sI, jM.len_sL, jM.len_sR, jM.len_fI, jM.len_fL, jM.len_fR]; omega) | (simp [jM.len_nw, jM.len_sI, jM.len_sL, jM.len_sR, jM.len_fI, jM.len_fL, jM.len_fR, *]; omega)) rfl rfl ?_ ?_ | refine J.callV (pc' := 62) (t := 16) rfl MX12_may ml_X12_161 iv_X12_may (by decide) ⟨_, rfl, rfl⟩ B.1 (cm_may0 B h0 (by omega)) rfl rfl (Nat.le_of_ble_eq_true rfl) (by first | omega | (exact R.r _ _) | (simp only [jM.len_sI, jM.len_sL, jM.len_sR, jM.len_fI, jM.len_fL, jM.len_fR]; omega) | (simp [jM.len_nw, jM.len_sI, jM.len_sL, jM.len_sR, jM.len_fI, jM.len_fL, jM.len_fR, *]; omega)) (by first | omega | (exact R.r _ _) | (simp only [jM.len_sI, jM.len_sL, jM.len_sR, jM.len_fI, jM.len_fL, jM.len_fR]; omega) | (simp [jM.len_nw, jM.len_sI, jM.len_sL, jM.len_sR, jM.len_fI, jM.len_fL, jM.len_fR, *]; omega)) (by first | omega | (exact R.r _ _) | (simp only [jM.len_sI, jM.len_sL, jM.len_sR, jM.len_fI, jM.len_fL, jM.len_fR]; omega) | (simp [jM.len_nw, jM.len_sI, jM.len_sL, jM.len_sR, jM.len_fI, jM.len_fL, jM.len_fR, *]; omega)) rfl rfl ?_ ?_
                                     · exact fun _ _ h => h
                                     rintro _ _ ⟨rfl, rfl⟩
                                     refine J.if_ne (tgt := 67) (pc' := 65) rfl rfl rfl (by first | omega | (exact R.r _ _) | (simp only [jM.len_sI, jM.len_sL, jM.len_sR, jM.len_fI, jM.len_fL, jM.len_fR]; omega) | (simp [jM.len_nw, jM.len_sI, jM.len_sL, jM.len_sR, jM.len_fI, jM.len_fL, jM.len_fR, *]; omega)) (fun c62 => ?_) (fun c62 => ?_)
                                     · first
                                       | (exfalso; omega)
                                       | (refine J.bipush (pc' := 69) rfl rfl (by decide) ?_
                                          refine J.iload_n (pc' := 70) rfl rfl rfl ?_
                                          refine J.imul (pc' := 71) rfl rfl ?_
                                          first | refine J.aload_n (pc' := 72) rfl rfl rfl ?_ | refine J.aload_nN (pc' := 72) rfl rfl rfl ?_
                                          refine J.mgR (pc' := 75) (t := 138) B rfl fl_X12_91 rfl rfl (by decide) rfl ?_
                                          refine J.iload_n (pc' := 76) rfl rfl rfl ?_
                                          refine J.mald (pc' := 77) B rfl rfl rfl (by omega) (by simp only [jLn]; omega) rfl ?_
                                          refine J.iadd (pc' := 78) rfl rfl ?_
                                          refine J.iconst (pc' := 79) rfl rfl ?_
                                          refine J.isub (pc' := 80) rfl rfl ?_
                                          refine J.iload_n (pc' := 81) rfl rfl rfl ?_
                                          refine J.isub (pc' := 82) rfl rfl ?_
                                          refine J.istore (pc' := 84) rfl rfl (by decide) ?_
                                          refine J.iload_n (pc' := 85) rfl rfl rfl ?_
                                          refine J.tsw (tgt := 136) (n := 3) (T := jNth [112, 120, 128]) rfl (by first | omega | (exact R.r _ _) | (simp only [jM.len_sI, jM.len_sL, jM.len_sR, jM.len_fI, jM.len_fL, jM.len_fR]; omega) | (simp [jM.len_nw, jM.len_sI, jM.len_sL, jM.len_sR, jM.len_fI, jM.len_fL, jM.len_fR, *]; omega)) rfl rfl (fun k hk => by rcases k with _ | _ | _ | k <;> first | exact ⟨_, rfl, rfl⟩ | omega) (fun c85 => ?_) (fun k85 hk85 c85 => ?_)
                                          · first
                                            | (exfalso; omega)
                                            | (refine J.iload_n (pc' := 137) rfl rfl rfl ?_
                                               refine J.iconst (pc' := 138) rfl rfl ?_
                                               refine J.irem (pc' := 139) rfl rfl (by first | omega | (exact R.r _ _) | (simp only [jM.len_sI, jM.len_sL, jM.len_sR, jM.len_fI, jM.len_fL, jM.len_fR]; omega) | (simp [jM.len_nw, jM.len_sI, jM.len_sL, jM.len_sR, jM.len_fI, jM.len_fL, jM.len_fR, *]; omega)) (by first | omega | (exact R.r _ _) | (simp only [jM.len_sI, jM.len_sL, jM.len_sR, jM.len_fI, jM.len_fL, jM.len_fR]; omega) | (simp [jM.len_nw, jM.len_sI, jM.len_sL, jM.len_sR, jM.len_fI, jM.len_fL, jM.len_fR, *]; omega)) (by first | omega | (exact R.r _ _) | (simp only [jM.len_sI, jM.len_sL, jM.len_sR, jM.len_fI, jM.len_fL, jM.len_fR]; omega) | (simp [jM.len_nw, jM.len_sI, jM.len_sL, jM.len_sR, jM.len_fI, jM.len_fL, jM.len_fR, *]; omega)) ?_
                                               rw [Int.tmod_eq_emod_of_nonneg (by omega)]
                                               refine J.iconst (pc' := 140) rfl rfl ?_
                                               refine J.icmp_ne (tgt := 157) (pc' := 143) rfl rfl rfl (by first | omega | (exact R.r _ _) | (simp only [jM.len_sI, jM.len_sL, jM.len_sR, jM.len_fI, jM.len_fL, jM.len_fR]; omega) | (simp [jM.len_nw, jM.len_sI, jM.len_sL, jM.len_sR, jM.len_fI, jM.len_fL, jM.len_fR, *]; omega)) (by first | omega | (exact R.r _ _) | (simp only [jM.len_sI, jM.len_sL, jM.len_sR, jM.len_fI, jM.len_fL, jM.len_fR]; omega) | (simp [jM.len_nw, jM.len_sI, jM.len_sL, jM.len_sR, jM.len_fI, jM.len_fL, jM.len_fR, *]; omega)) (fun c140 => ?_) (fun c140 => ?_)
                                               · first
                                                 | (exfalso; omega)
                                                 | (first | refine J.aload_n (pc' := 158) rfl rfl rfl ?_ | refine J.aload_nN (pc' := 158) rfl rfl rfl ?_
                                                    refine J.iload (pc' := 160) rfl rfl rfl ?_
                                                    refine J.iload_n (pc' := 161) rfl rfl rfl ?_
                                                    refine J.iconst (pc' := 162) rfl rfl ?_
                                                    refine J.isub (pc' := 163) rfl rfl ?_
                                                    refine J.iconst (pc' := 164) rfl rfl ?_
                                                    refine J.idiv (pc' := 165) rfl rfl (by first | omega | (exact R.r _ _) | (simp only [jM.len_sI, jM.len_sL, jM.len_sR, jM.len_fI, jM.len_fL, jM.len_fR]; omega) | (simp [jM.len_nw, jM.len_sI, jM.len_sL, jM.len_sR, jM.len_fI, jM.len_fL, jM.len_fR, *]; omega)) (by first | omega | (exact R.r _ _) | (simp only [jM.len_sI, jM.len_sL, jM.len_sR, jM.len_fI, jM.len_fL, jM.len_fR]; omega) | (simp [jM.len_nw, jM.len_sI, jM.len_sL, jM.len_sR, jM.len_fI, jM.len_fL, jM.len_fR, *]; omega)) (by first | omega | (exact R.r _ _) | (simp only [jM.len_sI, jM.len_sL, jM.len_sR, jM.len_fI, jM.len_fL, jM.len_fR]; omega) | (simp [jM.len_nw, jM.len_sI, jM.len_sL, jM.len_sR, jM.len_fI, jM.len_fL, jM.len_fR, *]; omega)) ?_
                                                    rw [Int.tdiv_eq_ediv_of_nonneg (by omega)]
                                                    refine J.callV (pc' := 168) (t := 16) rfl MX12_highOfLayer ml_X12_307 iv_X12_highOfLayer (by decide) ⟨_, rfl, rfl⟩ B.1 (cm_highL B R (by omega) (by omega)) rfl rfl (Nat.le_of_ble_eq_true rfl) (by first | omega | (exact R.r _ _) | (simp only [jM.len_sI, jM.len_sL, jM.len_sR, jM.len_fI, jM.len_fL, jM.len_fR]; omega) | (simp [jM.len_nw, jM.len_sI, jM.len_sL, jM.len_sR, jM.len_fI, jM.len_fL, jM.len_fR, *]; omega)) (by first | omega | (exact R.r _ _) | (simp only [jM.len_sI, jM.len_sL, jM.len_sR, jM.len_fI, jM.len_fL, jM.len_fR]; omega) | (simp [jM.len_nw, jM.len_sI, jM.len_sL, jM.len_sR, jM.len_fI, jM.len_fL, jM.len_fR, *]; omega)) (by first | omega | (exact R.r _ _) | (simp only [jM.len_sI, jM.len_sL, jM.len_sR, jM.len_fI, jM.len_fL, jM.len_fR]; omega) | (simp [jM.len_nw, jM.len_sI, jM.len_sL, jM.len_sR, jM.len_fI, jM.len_fL, jM.len_fR, *]; omega)) rfl rfl ?_ ?_
                                                    · exact fun _ _ h => h
                                                    rintro _ _ ⟨rfl, rfl⟩
                                                    refine J.iret rfl rfl (by first | omega | (exact R.r _ _) | (simp only [jM.len_sI, jM.len_sL, jM.len_sR, jM.len_fI, jM.len_fL, jM.len_fR]; omega) | (simp [jM.len_nw, jM.len_sI, jM.len_sL, jM.len_sR, jM.len_fI, jM.len_fL, jM.len_fR, *]; omega)) (by first | omega | (exact R.r _ _) | (simp only [jM.len_sI, jM.len_sL, jM.len_sR, jM.len_fI, jM.len_fL, jM.len_fR]; omega) | (simp [jM.len_nw, jM.len_sI, jM.len_sL, jM.len_sR, jM.len_fI, jM.len_fL, jM.len_fR, *]; omega)) ?_
                                                    exact mQ.of (by unfold sp_layer layV; (repeat (first | rw [if_pos (by omega)] | rw [if_neg (by omega)]))))
                                               · first
                                                 | (exfalso; omega)
                                                 | (first | refine J.aload_n (pc' := 144) rfl rfl rfl ?_ | refine J.aload_nN (pc' := 144) rfl rfl rfl ?_
                                                    refine J.iload (pc' := 146) rfl rfl rfl ?_
                                                    refine J.iload_n (pc' := 147) rfl rfl rfl ?_
                                                    refine J.iconst (pc' := 148) rfl rfl ?_
                                                    refine J.isub (pc' := 149) rfl rfl ?_
                                                    refine J.iconst (pc' := 150) rfl rfl ?_
                                                    refine J.idiv (pc' := 151) rfl rfl (by first | omega | (exact R.r _ _) | (simp only [jM.len_sI, jM.len_sL, jM.len_sR, jM.len_fI, jM.len_fL, jM.len_fR]; omega) | (simp [jM.len_nw, jM.len_sI, jM.len_sL, jM.len_sR, jM.len_fI, jM.len_fL, jM.len_fR, *]; omega)) (by first | omega | (exact R.r _ _) | (simp only [jM.len_sI, jM.len_sL, jM.len_sR, jM.len_fI, jM.len_fL, jM.len_fR]; omega) | (simp [jM.len_nw, jM.len_sI, jM.len_sL, jM.len_sR, jM.len_fI, jM.len_fL, jM.len_fR, *]; omega)) (by first | omega | (exact R.r _ _) | (simp only [jM.len_sI, jM.len_sL, jM.len_sR, jM.len_fI, jM.len_fL, jM.len_fR]; omega) | (simp [jM.len_nw, jM.len_sI, jM.len_sL, jM.len_sR, jM.len_fI, jM.len_fL, jM.len_fR, *]; omega)) ?_
                                                    rw [Int.tdiv_eq_ediv_of_nonneg (by omega)]
                                                    refine J.callV (pc' := 154) (t := 16) rfl MX12_lowOfLayer ml_X12_304 iv_X12_lowOfLayer (by decide) ⟨_, rfl, rfl⟩ B.1 (cm_lowL B R (by omega) (by omega)) rfl rfl (Nat.le_of_ble_eq_true rfl) (by first | omega | (exact R.r _ _) | (simp only [jM.len_sI, jM.len_sL, jM.len_sR, jM.len_fI, jM.len_fL, jM.len_fR]; omega) | (simp [jM.len_nw, jM.len_sI, jM.len_sL, jM.len_sR, jM.len_fI, jM.len_fL, jM.len_fR, *]; omega)) (by first | omega | (exact R.r _ _) | (simp only [jM.len_sI, jM.len_sL, jM.len_sR, jM.len_fI, jM.len_fL, jM.len_fR]; omega) | (simp [jM.len_nw, jM.len_sI, jM.len_sL, jM.len_sR, jM.len_fI, jM.len_fL, jM.len_fR, *]; omega)) (by first | omega | (exact R.r _ _) | (simp only [jM.len_sI, jM.len_sL, jM.len_sR, jM.len_fI, jM.len_fL, jM.len_fR]; omega) | (simp [jM.len_nw, jM.len_sI, jM.len_sL, jM.len_sR, jM.len_fI, jM.len_fL, jM.len_fR, *]; omega)) rfl rfl ?_ ?_
                                                    · exact fun _ _ h => h
                                                    rintro _ _ ⟨rfl, rfl⟩
                                                    refine J.goto (tgt := 168) rfl rfl ?_
                                                    refine J.iret rfl rfl (by first | omega | (exact R.r _ _) | (simp only [jM.len_sI, jM.len_sL, jM.len_sR, jM.len_fI, jM.len_fL, jM.len_fR]; omega) | (simp [jM.len_nw, jM.len_sI, jM.len_sL, jM.len_sR, jM.len_fI, jM.len_fL, jM.len_fR, *]; omega)) (by first | omega | (exact R.r _ _) | (simp only [jM.len_sI, jM.len_sL, jM.len_sR, jM.len_fI, jM.len_fL, jM.len_fR]; omega) | (simp [jM.len_nw, jM.len_sI, jM.len_sL, jM.len_sR, jM.len_fI, jM.len_fL, jM.len_fR, *]; omega)) ?_
                                                    exact mQ.of (by unfold sp_layer layV; (repeat (first | rw [if_pos (by omega)] | rw [if_neg (by omega)])))))
                                          rcases k85 with _ | _ | _ | k85
                                          · first
                                            | (exfalso; omega)
                                            | (first | refine J.aload_n (pc' := 113) rfl rfl rfl ?_ | refine J.aload_nN (pc' := 113) rfl rfl rfl ?_
                                               refine J.mgR (pc' := 116) (t := 139) B rfl fl_X12_94 rfl rfl (by decide) rfl ?_
                                               refine J.iload (pc' := 118) rfl rfl rfl ?_
                                               refine J.mald (pc' := 119) B rfl rfl rfl (by omega) (by simp only [jLn]; omega) rfl ?_
                                               refine J.iret rfl rfl (by first | omega | (exact R.r _ _) | (simp only [jM.len_sI, jM.len_sL, jM.len_sR, jM.len_fI, jM.len_fL, jM.len_fR]; omega) | (simp [jM.len_nw, jM.len_sI, jM.len_sL, jM.len_sR, jM.len_fI, jM.len_fL, jM.len_fR, *]; omega)) (by first | omega | (exact R.r _ _) | (simp only [jM.len_sI, jM.len_sL, jM.len_sR, jM.len_fI, jM.len_fL, jM.len_fR]; omega) | (simp [jM.len_nw, jM.len_sI, jM.len_sL, jM.len_sR, jM.len_fI, jM.len_fL, jM.len_fR, *]; omega)) ?_
                                               exact mQ.of (by unfold sp_layer layV; (repeat (first | rw [if_pos (by omega)] | rw [if_neg (by omega)]))))
                                          · first
                                            | (exfalso; omega)
                                            | (first | refine J.aload_n (pc' := 121) rfl rfl rfl ?_ | refine J.aload_nN (pc' := 121) rfl rfl rfl ?_
                                               refine J.mgR (pc' := 124) (t := 140) B rfl fl_X12_97 rfl rfl (by decide) rfl ?_
                                               refine J.iload (pc' := 126) rfl rfl rfl ?_
                                               refine J.mald (pc' := 127) B rfl rfl rfl (by omega) (by simp only [jLn]; omega) rfl ?_
                                               refine J.iret rfl rfl (by first | omega | (exact R.r _ _) | (simp only [jM.len_sI, jM.len_sL, jM.len_sR, jM.len_fI, jM.len_fL, jM.len_fR]; omega) | (simp [jM.len_nw, jM.len_sI, jM.len_sL, jM.len_sR, jM.len_fI, jM.len_fL, jM.len_fR, *]; omega)) (by first | omega | (exact R.r _ _) | (simp only [jM.len_sI, jM.len_sL, jM.len_sR, jM.len_fI, jM.len_fL, jM.len_fR]; omega) | (simp [jM.len_nw, jM.len_sI, jM.len_sL, jM.len_sR, jM.len_fI, jM.len_fL, jM.len_fR, *]; omega)) ?_
                                               exact mQ.of (by unfold sp_layer layV; (repeat (first | rw [if_pos (by omega)] | rw [if_neg (by omega)]))))
                                          · first
                                            | (exfalso; omega)
                                            | (first | refine J.aload_n (pc' := 129) rfl rfl rfl ?_ | refine J.aload_nN (pc' := 129) rfl rfl rfl ?_
                                               refine J.mgR (pc' := 132) (t := 141) B rfl fl_X12_100 rfl rfl (by decide) rfl ?_
                                               refine J.iload (pc' := 134) rfl rfl rfl ?_
                                               refine J.mald (pc' := 135) B rfl rfl rfl (by omega) (by simp only [jLn]; omega) rfl ?_
                                               refine J.iret rfl rfl (by first | omega | (exact R.r _ _) | (simp only [jM.len_sI, jM.len_sL, jM.len_sR, jM.len_fI, jM.len_fL, jM.len_fR]; omega) | (simp [jM.len_nw, jM.len_sI, jM.len_sL, jM.len_sR, jM.len_fI, jM.len_fL, jM.len_fR, *]; omega)) (by first | omega | (exact R.r _ _) | (simp only [jM.len_sI, jM.len_sL, jM.len_sR, jM.len_fI, jM.len_fL, jM.len_fR]; omega) | (simp [jM.len_nw, jM.len_sI, jM.len_sL, jM.len_sR, jM.len_fI, jM.len_fL, jM.len_fR, *]; omega)) ?_
                                               exact mQ.of (by unfold sp_layer layV; (repeat (first | rw [if_pos (by omega)] | rw [if_neg (by omega)]))))
                                          · omega)
                                     · first
                                       | (exfalso; omega)
                                       | (refine J.iconst (pc' := 66) rfl rfl ?_
                                          refine J.iret rfl rfl (by first | omega | (exact R.r _ _) | (simp only [jM.len_sI, jM.len_sL, jM.len_sR, jM.len_fI, jM.len_fL, jM.len_fR]; omega) | (simp [jM.len_nw, jM.len_sI, jM.len_sL, jM.len_sR, jM.len_fI, jM.len_fL, jM.len_fR, *]; omega)) (by first | omega | (exact R.r _ _) | (simp only [jM.len_sI, jM.len_sL, jM.len_sR, jM.len_fI, jM.len_fL, jM.len_fR]; omega) | (simp [jM.len_nw, jM.len_sI, jM.len_sL, jM.len_sR, jM.len_fI, jM.len_fL, jM.len_fR, *]; omega)) ?_
                                          exact mQ.of (by unfold sp_layer layV; (repeat (first | rw [if_pos (by omega)] | rw [if_neg (by omega)]))))))))))
       · first
         | (exfalso; omega)
         | (refine J.iconst (pc' := 14) rfl rfl ?_
            refine J.iret rfl rfl (by first | omega | (exact R.r _ _) | (simp only [jM.len_sI, jM.len_sL, jM.len_sR, jM.len_fI, jM.len_fL, jM.len_fR]; omega) | (simp [jM.len_nw, jM.len_sI, jM.len_sL, jM.len_sR, jM.len_fI, jM.len_fL, jM.len_fR, *]; omega)) (by first | omega | (exact R.r _ _) | (simp only [jM.len_sI, jM.len_sL, jM.len_sR, jM.len_fI, jM.len_fL, jM.len_fR]; omega) | (simp [jM.len_nw, jM.len_sI, jM.len_sL, jM.len_sR, jM.len_fI, jM.len_fL, jM.len_fR, *]; omega)) ?_
            exact mQ.of (by unfold sp_layer layV; (repeat (first | rw [if_pos (by omega)] | rw [if_neg (by omega)])))))
theorem cm_portion {i k w : Int} (B : isB β) (R : isR V) (hi : r32 i) (hk : r32 k) (hw : r32 w) : CT γ mX12_portion 2 0 0 [.ref (β.2 16), .int (jI i), .int (jI k), .int (jI w)] (jP β V) (mQ β (sp_portion (jU V 16 0 0) i k w)) X0 := by
  refine CT.of MX12_portion (Nat.le_of_ble_eq_true rfl) ?_
  show J γ mX12_portion 2 0 0 0 0 (jP β V) 0 [(0, .ref (β.2 16)), (1, .int (jI i)), (2, .int (jI k)), (3, .int (jI w))] [] _ _
  first | refine J.aload_n (pc' := 1) rfl rfl rfl ?_ | refine J.aload_nN (pc' := 1) rfl rfl rfl ?_
  refine J.iconst (pc' := 2) rfl rfl ?_
  refine J.mpI (pc' := 5) (j := 0) B rfl fl_X12_1 rfl rfl rfl rfl ?_
  have h0 := jU_same V 16 0 0
  replace R : isR (jU V 16 0 0) := R.up (fun _ => by decide)
  generalize jU V 16 0 0 = V at h0 R ⊢
  have hf := R.f
  have h1 := R 153 i rfl
  simp [jLo, jHi] at h1
  first | refine J.aload_n (pc' := 6) rfl rfl rfl ?_ | refine J.aload_nN (pc' := 6) rfl rfl rfl ?_
  refine J.iload_n (pc' := 7) rfl rfl rfl ?_
  refine J.callV (pc' := 10) (t := 16) rfl MX12_isMelt ml_X12_331 iv_X12_isMelt (by decide) ⟨_, rfl, rfl⟩ B.1 (cm_isMelt B R h0 hi) rfl rfl (Nat.le_of_ble_eq_true rfl) (by first | omega | (exact R.r _ _) | (simp only [jM.len_sI, jM.len_sL, jM.len_sR, jM.len_fI, jM.len_fL, jM.len_fR]; omega) | (simp [jM.len_nw, jM.len_sI, jM.len_sL, jM.len_sR, jM.len_fI, jM.len_fL, jM.len_fR, *]; omega)) (by first | omega | (exact R.r _ _) | (simp only [jM.len_sI, jM.len_sL, jM.len_sR, jM.len_fI, jM.len_fL, jM.len_fR]; omega) | (simp [jM.len_nw, jM.len_sI, jM.len_sL, jM.len_sR, jM.len_fI, jM.len_fL, jM.len_fR, *]; omega)) (by first | omega | (exact R.r _ _) | (simp only [jM.len_sI, jM.len_sL, jM.len_sR, jM.len_fI, jM.len_fL, jM.len_fR]; omega) | (simp [jM.len_nw, jM.len_sI, jM.len_sL, jM.len_sR, jM.len_fI, jM.len_fL, jM.len_fR, *]; omega)) rfl rfl ?_ ?_
  · exact fun _ _ h => h
  rintro _ _ ⟨b, hb, rfl⟩
  rcases hb with ⟨rfl, hb, rfl⟩ | ⟨rfl, hb, rfl⟩
  · first
    | (exfalso; omega)
    | (refine J.if_eq (tgt := 63) (pc' := 13) rfl rfl rfl (by first | omega | (exact R.r _ _) | (simp only [jM.len_sI, jM.len_sL, jM.len_sR, jM.len_fI, jM.len_fL, jM.len_fR]; omega) | (simp [jM.len_nw, jM.len_sI, jM.len_sL, jM.len_sR, jM.len_fI, jM.len_fL, jM.len_fR, *]; omega)) (fun c10 => ?_) (fun c10 => ?_)
       · first
         | (exfalso; omega)
         | (refine J.iconst (pc' := 64) rfl rfl ?_
            refine J.iret rfl rfl (by first | omega | (exact R.r _ _) | (simp only [jM.len_sI, jM.len_sL, jM.len_sR, jM.len_fI, jM.len_fL, jM.len_fR]; omega) | (simp [jM.len_nw, jM.len_sI, jM.len_sL, jM.len_sR, jM.len_fI, jM.len_fL, jM.len_fR, *]; omega)) (by first | omega | (exact R.r _ _) | (simp only [jM.len_sI, jM.len_sL, jM.len_sR, jM.len_fI, jM.len_fL, jM.len_fR]; omega) | (simp [jM.len_nw, jM.len_sI, jM.len_sL, jM.len_sR, jM.len_fI, jM.len_fL, jM.len_fR, *]; omega)) ?_
            exact mQ.of (by unfold sp_portion porV; (repeat (first | rw [if_pos (by omega)] | rw [if_neg (by omega)]))))
       · first
         | (exfalso; omega)
         | (first | refine J.aload_n (pc' := 14) rfl rfl rfl ?_ | refine J.aload_nN (pc' := 14) rfl rfl rfl ?_
            refine J.iload_n (pc' := 15) rfl rfl rfl ?_
            refine J.if_lt (tgt := 32) (pc' := 18) rfl rfl rfl (by first | omega | (exact R.r _ _) | (simp only [jM.len_sI, jM.len_sL, jM.len_sR, jM.len_fI, jM.len_fL, jM.len_fR]; omega) | (simp [jM.len_nw, jM.len_sI, jM.len_sL, jM.len_sR, jM.len_fI, jM.len_fL, jM.len_fR, *]; omega)) (fun c15 => ?_) (fun c15 => ?_)
            · first
              | (exfalso; omega)
              | (refine J.iconst (pc' := 33) rfl rfl ?_
                 refine J.iconst (pc' := 34) rfl rfl ?_
                 first | refine J.callV (pc' := 37) (t := 16) rfl MX12_may ml_X12_161 iv_X12_may (by decide) ⟨_, rfl, rfl⟩ B.1 (cm_may1 B h0) rfl rfl (Nat.le_of_ble_eq_true rfl) (by first | omega | (exact R.r _ _) | (simp only [jM.len_sI, jM.len_sL, jM.len_sR, jM.len_fI, jM.len_fL, jM.len_fR]; omega) | (simp [jM.len_nw, jM.len_sI, jM.len_sL, jM.len_sR, jM.len_fI, jM.len_fL, jM.len_fR, *]; omega)) (by first | omega | (exact R.r _ _) | (simp only [jM.len_sI, jM.len_sL, jM.len_sR, jM.len_fI, jM.len_fL, jM.len_fR]; omega) | (simp [jM.len_nw, jM.len_sI, jM.len_sL, jM.len_sR, jM.len_fI, jM.len_fL, jM.len_fR, *]; omega)) (by first | omega | (exact R.r _ _) | (simp only [jM.len_sI, jM.len_sL, jM.len_sR, jM.len_fI, jM.len_fL, jM.len_fR]; omega) | (simp [jM.len_nw, jM.len_sI, jM.len_sL, jM.len_sR, jM.len_fI, jM.len_fL, jM.len_fR, *]; omega)) rfl rfl ?_ ?_ | refine J.callV (pc' := 37) (t := 16) rfl MX12_may ml_X12_161 iv_X12_may (by decide) ⟨_, rfl, rfl⟩ B.1 (cm_may0 B h0 (by omega)) rfl rfl (Nat.le_of_ble_eq_true rfl) (by first | omega | (exact R.r _ _) | (simp only [jM.len_sI, jM.len_sL, jM.len_sR, jM.len_fI, jM.len_fL, jM.len_fR]; omega) | (simp [jM.len_nw, jM.len_sI, jM.len_sL, jM.len_sR, jM.len_fI, jM.len_fL, jM.len_fR, *]; omega)) (by first | omega | (exact R.r _ _) | (simp only [jM.len_sI, jM.len_sL, jM.len_sR, jM.len_fI, jM.len_fL, jM.len_fR]; omega) | (simp [jM.len_nw, jM.len_sI, jM.len_sL, jM.len_sR, jM.len_fI, jM.len_fL, jM.len_fR, *]; omega)) (by first | omega | (exact R.r _ _) | (simp only [jM.len_sI, jM.len_sL, jM.len_sR, jM.len_fI, jM.len_fL, jM.len_fR]; omega) | (simp [jM.len_nw, jM.len_sI, jM.len_sL, jM.len_sR, jM.len_fI, jM.len_fL, jM.len_fR, *]; omega)) rfl rfl ?_ ?_
                 · exact fun _ _ h => h
                 rintro _ _ ⟨rfl, rfl⟩
                 refine J.if_eq (tgt := 63) (pc' := 40) rfl rfl rfl (by first | omega | (exact R.r _ _) | (simp only [jM.len_sI, jM.len_sL, jM.len_sR, jM.len_fI, jM.len_fL, jM.len_fR]; omega) | (simp [jM.len_nw, jM.len_sI, jM.len_sL, jM.len_sR, jM.len_fI, jM.len_fL, jM.len_fR, *]; omega)) (fun c37 => ?_) (fun c37 => ?_)
                 · first
                   | (exfalso; omega)
                   | (refine J.iconst (pc' := 64) rfl rfl ?_
                      refine J.iret rfl rfl (by first | omega | (exact R.r _ _) | (simp only [jM.len_sI, jM.len_sL, jM.len_sR, jM.len_fI, jM.len_fL, jM.len_fR]; omega) | (simp [jM.len_nw, jM.len_sI, jM.len_sL, jM.len_sR, jM.len_fI, jM.len_fL, jM.len_fR, *]; omega)) (by first | omega | (exact R.r _ _) | (simp only [jM.len_sI, jM.len_sL, jM.len_sR, jM.len_fI, jM.len_fL, jM.len_fR]; omega) | (simp [jM.len_nw, jM.len_sI, jM.len_sL, jM.len_sR, jM.len_fI, jM.len_fL, jM.len_fR, *]; omega)) ?_
                      exact mQ.of (by unfold sp_portion porV; (repeat (first | rw [if_pos (by omega)] | rw [if_neg (by omega)]))))
                 · first
                   | (exfalso; omega)
                   | (first | refine J.aload_n (pc' := 41) rfl rfl rfl ?_ | refine J.aload_nN (pc' := 41) rfl rfl rfl ?_
                      refine J.iload_n (pc' := 42) rfl rfl rfl ?_
                      refine J.if_lt (tgt := 55) (pc' := 45) rfl rfl rfl (by first | omega | (exact R.r _ _) | (simp only [jM.len_sI, jM.len_sL, jM.len_sR, jM.len_fI, jM.len_fL, jM.len_fR]; omega) | (simp [jM.len_nw, jM.len_sI, jM.len_sL, jM.len_sR, jM.len_fI, jM.len_fL, jM.len_fR, *]; omega)) (fun c42 => ?_) (fun c42 => ?_)
                      · first
                        | (exfalso; omega)
                        | (refine J.iconst (pc' := 56) rfl rfl ?_
                           refine J.iconst (pc' := 57) rfl rfl ?_
                           first | refine J.callV (pc' := 60) (t := 16) rfl MX12_may ml_X12_161 iv_X12_may (by decide) ⟨_, rfl, rfl⟩ B.1 (cm_may1 B h0) rfl rfl (Nat.le_of_ble_eq_true rfl) (by first | omega | (exact R.r _ _) | (simp only [jM.len_sI, jM.len_sL, jM.len_sR, jM.len_fI, jM.len_fL, jM.len_fR]; omega) | (simp [jM.len_nw, jM.len_sI, jM.len_sL, jM.len_sR, jM.len_fI, jM.len_fL, jM.len_fR, *]; omega)) (by first | omega | (exact R.r _ _) | (simp only [jM.len_sI, jM.len_sL, jM.len_sR, jM.len_fI, jM.len_fL, jM.len_fR]; omega) | (simp [jM.len_nw, jM.len_sI, jM.len_sL, jM.len_sR, jM.len_fI, jM.len_fL, jM.len_fR, *]; omega)) (by first | omega | (exact R.r _ _) | (simp only [jM.len_sI, jM.len_sL, jM.len_sR, jM.len_fI, jM.len_fL, jM.len_fR]; omega) | (simp [jM.len_nw, jM.len_sI, jM.len_sL, jM.len_sR, jM.len_fI, jM.len_fL, jM.len_fR, *]; omega)) rfl rfl ?_ ?_ | refine J.callV (pc' := 60) (t := 16) rfl MX12_may ml_X12_161 iv_X12_may (by decide) ⟨_, rfl, rfl⟩ B.1 (cm_may0 B h0 (by omega)) rfl rfl (Nat.le_of_ble_eq_true rfl) (by first | omega | (exact R.r _ _) | (simp only [jM.len_sI, jM.len_sL, jM.len_sR, jM.len_fI, jM.len_fL, jM.len_fR]; omega) | (simp [jM.len_nw, jM.len_sI, jM.len_sL, jM.len_sR, jM.len_fI, jM.len_fL, jM.len_fR, *]; omega)) (by first | omega | (exact R.r _ _) | (simp only [jM.len_sI, jM.len_sL, jM.len_sR, jM.len_fI, jM.len_fL, jM.len_fR]; omega) | (simp [jM.len_nw, jM.len_sI, jM.len_sL, jM.len_sR, jM.len_fI, jM.len_fL, jM.len_fR, *]; omega)) (by first | omega | (exact R.r _ _) | (simp only [jM.len_sI, jM.len_sL, jM.len_sR, jM.len_fI, jM.len_fL, jM.len_fR]; omega) | (simp [jM.len_nw, jM.len_sI, jM.len_sL, jM.len_sR, jM.len_fI, jM.len_fL, jM.len_fR, *]; omega)) rfl rfl ?_ ?_
                           · exact fun _ _ h => h
                           rintro _ _ ⟨rfl, rfl⟩
                           refine J.if_ne (tgt := 65) (pc' := 63) rfl rfl rfl (by first | omega | (exact R.r _ _) | (simp only [jM.len_sI, jM.len_sL, jM.len_sR, jM.len_fI, jM.len_fL, jM.len_fR]; omega) | (simp [jM.len_nw, jM.len_sI, jM.len_sL, jM.len_sR, jM.len_fI, jM.len_fL, jM.len_fR, *]; omega)) (fun c60 => ?_) (fun c60 => ?_)
                           · first
                             | (exfalso; omega)
                             | (refine J.bipush (pc' := 67) rfl rfl (by decide) ?_
                                refine J.iload_n (pc' := 68) rfl rfl rfl ?_
                                refine J.imul (pc' := 69) rfl rfl ?_
                                refine J.iload_n (pc' := 70) rfl rfl rfl ?_
                                refine J.iadd (pc' := 71) rfl rfl ?_
                                refine J.istore (pc' := 73) rfl rfl (by decide) ?_
                                refine J.iload_n (pc' := 74) rfl rfl rfl ?_
                                refine J.iconst (pc' := 75) rfl rfl ?_
                                refine J.icmp_ge (tgt := 100) (pc' := 78) rfl rfl rfl (by first | omega | (exact R.r _ _) | (simp only [jM.len_sI, jM.len_sL, jM.len_sR, jM.len_fI, jM.len_fL, jM.len_fR]; omega) | (simp [jM.len_nw, jM.len_sI, jM.len_sL, jM.len_sR, jM.len_fI, jM.len_fL, jM.len_fR, *]; omega)) (by first | omega | (exact R.r _ _) | (simp only [jM.len_sI, jM.len_sL, jM.len_sR, jM.len_fI, jM.len_fL, jM.len_fR]; omega) | (simp [jM.len_nw, jM.len_sI, jM.len_sL, jM.len_sR, jM.len_fI, jM.len_fL, jM.len_fR, *]; omega)) (fun c75 => ?_) (fun c75 => ?_)
                                · first
                                  | (exfalso; omega)
                                  | (refine J.iload_n (pc' := 101) rfl rfl rfl ?_
                                     refine J.iconst (pc' := 102) rfl rfl ?_
                                     refine J.irem (pc' := 103) rfl rfl (by first | omega | (exact R.r _ _) | (simp only [jM.len_sI, jM.len_sL, jM.len_sR, jM.len_fI, jM.len_fL, jM.len_fR]; omega) | (simp [jM.len_nw, jM.len_sI, jM.len_sL, jM.len_sR, jM.len_fI, jM.len_fL, jM.len_fR, *]; omega)) (by first | omega | (exact R.r _ _) | (simp only [jM.len_sI, jM.len_sL, jM.len_sR, jM.len_fI, jM.len_fL, jM.len_fR]; omega) | (simp [jM.len_nw, jM.len_sI, jM.len_sL, jM.len_sR, jM.len_fI, jM.len_fL, jM.len_fR, *]; omega)) (by first | omega | (exact R.r _ _) | (simp only [jM.len_sI, jM.len_sL, jM.len_sR, jM.len_fI, jM.len_fL, jM.len_fR]; omega) | (simp [jM.len_nw, jM.len_sI, jM.len_sL, jM.len_sR, jM.len_fI, jM.len_fL, jM.len_fR, *]; omega)) ?_
                                     rw [Int.tmod_eq_emod_of_nonneg (by omega)]
                                     refine J.if_ne (tgt := 124) (pc' := 106) rfl rfl rfl (by first | omega | (exact R.r _ _) | (simp only [jM.len_sI, jM.len_sL, jM.len_sR, jM.len_fI, jM.len_fL, jM.len_fR]; omega) | (simp [jM.len_nw, jM.len_sI, jM.len_sL, jM.len_sR, jM.len_fI, jM.len_fL, jM.len_fR, *]; omega)) (fun c103 => ?_) (fun c103 => ?_)
                                     · first
                                       | (exfalso; omega)
                                       | (first | refine J.aload_n (pc' := 125) rfl rfl rfl ?_ | refine J.aload_nN (pc' := 125) rfl rfl rfl ?_
                                          refine J.mgR (pc' := 128) (t := 157) B rfl fl_X12_145 rfl rfl (by decide) rfl ?_
                                          refine J.iconst (pc' := 129) rfl rfl ?_
                                          refine J.iload (pc' := 131) rfl rfl rfl ?_
                                          refine J.imul (pc' := 132) rfl rfl ?_
                                          refine J.iload_n (pc' := 133) rfl rfl rfl ?_
                                          refine J.iconst (pc' := 134) rfl rfl ?_
                                          refine J.isub (pc' := 135) rfl rfl ?_
                                          refine J.iconst (pc' := 136) rfl rfl ?_
                                          refine J.idiv (pc' := 137) rfl rfl (by first | omega | (exact R.r _ _) | (simp only [jM.len_sI, jM.len_sL, jM.len_sR, jM.len_fI, jM.len_fL, jM.len_fR]; omega) | (simp [jM.len_nw, jM.len_sI, jM.len_sL, jM.len_sR, jM.len_fI, jM.len_fL, jM.len_fR, *]; omega)) (by first | omega | (exact R.r _ _) | (simp only [jM.len_sI, jM.len_sL, jM.len_sR, jM.len_fI, jM.len_fL, jM.len_fR]; omega) | (simp [jM.len_nw, jM.len_sI, jM.len_sL, jM.len_sR, jM.len_fI, jM.len_fL, jM.len_fR, *]; omega)) (by first | omega | (exact R.r _ _) | (simp only [jM.len_sI, jM.len_sL, jM.len_sR, jM.len_fI, jM.len_fL, jM.len_fR]; omega) | (simp [jM.len_nw, jM.len_sI, jM.len_sL, jM.len_sR, jM.len_fI, jM.len_fL, jM.len_fR, *]; omega)) ?_
                                          rw [Int.tdiv_eq_ediv_of_nonneg (by omega)]
                                          refine J.iadd (pc' := 138) rfl rfl ?_
                                          refine J.mald (pc' := 139) B rfl rfl rfl (by omega) (by simp only [jLn]; omega) rfl ?_
                                          refine J.iret rfl rfl (by first | omega | (exact R.r _ _) | (simp only [jM.len_sI, jM.len_sL, jM.len_sR, jM.len_fI, jM.len_fL, jM.len_fR]; omega) | (simp [jM.len_nw, jM.len_sI, jM.len_sL, jM.len_sR, jM.len_fI, jM.len_fL, jM.len_fR, *]; omega)) (by first | omega | (exact R.r _ _) | (simp only [jM.len_sI, jM.len_sL, jM.len_sR, jM.len_fI, jM.len_fL, jM.len_fR]; omega) | (simp [jM.len_nw, jM.len_sI, jM.len_sL, jM.len_sR, jM.len_fI, jM.len_fL, jM.len_fR, *]; omega)) ?_
                                          exact mQ.of (by unfold sp_portion porV; (repeat (first | rw [if_pos (by omega)] | rw [if_neg (by omega)]))))
                                     · first
                                       | (exfalso; omega)
                                       | (first | refine J.aload_n (pc' := 107) rfl rfl rfl ?_ | refine J.aload_nN (pc' := 107) rfl rfl rfl ?_
                                          refine J.mgR (pc' := 110) (t := 156) B rfl fl_X12_142 rfl rfl (by decide) rfl ?_
                                          refine J.iconst (pc' := 111) rfl rfl ?_
                                          refine J.iload (pc' := 113) rfl rfl rfl ?_
                                          refine J.imul (pc' := 114) rfl rfl ?_
                                          refine J.iload_n (pc' := 115) rfl rfl rfl ?_
                                          refine J.iconst (pc' := 116) rfl rfl ?_
                                          refine J.isub (pc' := 117) rfl rfl ?_
                                          refine J.iconst (pc' := 118) rfl rfl ?_
                                          refine J.idiv (pc' := 119) rfl rfl (by first | omega | (exact R.r _ _) | (simp only [jM.len_sI, jM.len_sL, jM.len_sR, jM.len_fI, jM.len_fL, jM.len_fR]; omega) | (simp [jM.len_nw, jM.len_sI, jM.len_sL, jM.len_sR, jM.len_fI, jM.len_fL, jM.len_fR, *]; omega)) (by first | omega | (exact R.r _ _) | (simp only [jM.len_sI, jM.len_sL, jM.len_sR, jM.len_fI, jM.len_fL, jM.len_fR]; omega) | (simp [jM.len_nw, jM.len_sI, jM.len_sL, jM.len_sR, jM.len_fI, jM.len_fL, jM.len_fR, *]; omega)) (by first | omega | (exact R.r _ _) | (simp only [jM.len_sI, jM.len_sL, jM.len_sR, jM.len_fI, jM.len_fL, jM.len_fR]; omega) | (simp [jM.len_nw, jM.len_sI, jM.len_sL, jM.len_sR, jM.len_fI, jM.len_fL, jM.len_fR, *]; omega)) ?_
                                          rw [Int.tdiv_eq_ediv_of_nonneg (by omega)]
                                          refine J.iadd (pc' := 120) rfl rfl ?_
                                          refine J.mald (pc' := 121) B rfl rfl rfl (by omega) (by simp only [jLn]; omega) rfl ?_
                                          refine J.goto (tgt := 139) rfl rfl ?_
                                          refine J.iret rfl rfl (by first | omega | (exact R.r _ _) | (simp only [jM.len_sI, jM.len_sL, jM.len_sR, jM.len_fI, jM.len_fL, jM.len_fR]; omega) | (simp [jM.len_nw, jM.len_sI, jM.len_sL, jM.len_sR, jM.len_fI, jM.len_fL, jM.len_fR, *]; omega)) (by first | omega | (exact R.r _ _) | (simp only [jM.len_sI, jM.len_sL, jM.len_sR, jM.len_fI, jM.len_fL, jM.len_fR]; omega) | (simp [jM.len_nw, jM.len_sI, jM.len_sL, jM.len_sR, jM.len_fI, jM.len_fL, jM.len_fR, *]; omega)) ?_
                                          exact mQ.of (by unfold sp_portion porV; (repeat (first | rw [if_pos (by omega)] | rw [if_neg (by omega)])))))
                                · first
                                  | (exfalso; omega)
                                  | (refine J.iload_n (pc' := 79) rfl rfl rfl ?_
                                     refine J.if_ne (tgt := 92) (pc' := 82) rfl rfl rfl (by first | omega | (exact R.r _ _) | (simp only [jM.len_sI, jM.len_sL, jM.len_sR, jM.len_fI, jM.len_fL, jM.len_fR]; omega) | (simp [jM.len_nw, jM.len_sI, jM.len_sL, jM.len_sR, jM.len_fI, jM.len_fL, jM.len_fR, *]; omega)) (fun c79 => ?_) (fun c79 => ?_)
                                     · first
                                       | (exfalso; omega)
                                       | (first | refine J.aload_n (pc' := 93) rfl rfl rfl ?_ | refine J.aload_nN (pc' := 93) rfl rfl rfl ?_
                                          refine J.mgR (pc' := 96) (t := 155) B rfl fl_X12_139 rfl rfl (by decide) rfl ?_
                                          refine J.iload (pc' := 98) rfl rfl rfl ?_
                                          refine J.mald (pc' := 99) B rfl rfl rfl (by omega) (by simp only [jLn]; omega) rfl ?_
                                          refine J.iret rfl rfl (by first | omega | (exact R.r _ _) | (simp only [jM.len_sI, jM.len_sL, jM.len_sR, jM.len_fI, jM.len_fL, jM.len_fR]; omega) | (simp [jM.len_nw, jM.len_sI, jM.len_sL, jM.len_sR, jM.len_fI, jM.len_fL, jM.len_fR, *]; omega)) (by first | omega | (exact R.r _ _) | (simp only [jM.len_sI, jM.len_sL, jM.len_sR, jM.len_fI, jM.len_fL, jM.len_fR]; omega) | (simp [jM.len_nw, jM.len_sI, jM.len_sL, jM.len_sR, jM.len_fI, jM.len_fL, jM.len_fR, *]; omega)) ?_
                                          exact mQ.of (by unfold sp_portion porV; (repeat (first | rw [if_pos (by omega)] | rw [if_neg (by omega)]))))
                                     · first
                                       | (exfalso; omega)
                                       | (first | refine J.aload_n (pc' := 83) rfl rfl rfl ?_ | refine J.aload_nN (pc' := 83) rfl rfl rfl ?_
                                          refine J.mgR (pc' := 86) (t := 154) B rfl fl_X12_136 rfl rfl (by decide) rfl ?_
                                          refine J.iload (pc' := 88) rfl rfl rfl ?_
                                          refine J.mald (pc' := 89) B rfl rfl rfl (by omega) (by simp only [jLn]; omega) rfl ?_
                                          refine J.goto (tgt := 99) rfl rfl ?_
                                          refine J.iret rfl rfl (by first | omega | (exact R.r _ _) | (simp only [jM.len_sI, jM.len_sL, jM.len_sR, jM.len_fI, jM.len_fL, jM.len_fR]; omega) | (simp [jM.len_nw, jM.len_sI, jM.len_sL, jM.len_sR, jM.len_fI, jM.len_fL, jM.len_fR, *]; omega)) (by first | omega | (exact R.r _ _) | (simp only [jM.len_sI, jM.len_sL, jM.len_sR, jM.len_fI, jM.len_fL, jM.len_fR]; omega) | (simp [jM.len_nw, jM.len_sI, jM.len_sL, jM.len_sR, jM.len_fI, jM.len_fL, jM.len_fR, *]; omega)) ?_
                                          exact mQ.of (by unfold sp_portion porV; (repeat (first | rw [if_pos (by omega)] | rw [if_neg (by omega)]))))))
                           · first
                             | (exfalso; omega)
                             | (refine J.iconst (pc' := 64) rfl rfl ?_
                                refine J.iret rfl rfl (by first | omega | (exact R.r _ _) | (simp only [jM.len_sI, jM.len_sL, jM.len_sR, jM.len_fI, jM.len_fL, jM.len_fR]; omega) | (simp [jM.len_nw, jM.len_sI, jM.len_sL, jM.len_sR, jM.len_fI, jM.len_fL, jM.len_fR, *]; omega)) (by first | omega | (exact R.r _ _) | (simp only [jM.len_sI, jM.len_sL, jM.len_sR, jM.len_fI, jM.len_fL, jM.len_fR]; omega) | (simp [jM.len_nw, jM.len_sI, jM.len_sL, jM.len_sR, jM.len_fI, jM.len_fL, jM.len_fR, *]; omega)) ?_
                                exact mQ.of (by unfold sp_portion porV; (repeat (first | rw [if_pos (by omega)] | rw [if_neg (by omega)])))))
                      · first
                        | (exfalso; omega)
                        | (refine J.iload_n (pc' := 46) rfl rfl rfl ?_
                           refine J.bipush (pc' := 48) rfl rfl (by decide) ?_
                           refine J.icmp_ge (tgt := 55) (pc' := 51) rfl rfl rfl (by first | omega | (exact R.r _ _) | (simp only [jM.len_sI, jM.len_sL, jM.len_sR, jM.len_fI, jM.len_fL, jM.len_fR]; omega) | (simp [jM.len_nw, jM.len_sI, jM.len_sL, jM.len_sR, jM.len_fI, jM.len_fL, jM.len_fR, *]; omega)) (by first | omega | (exact R.r _ _) | (simp only [jM.len_sI, jM.len_sL, jM.len_sR, jM.len_fI, jM.len_fL, jM.len_fR]; omega) | (simp [jM.len_nw, jM.len_sI, jM.len_sL, jM.len_sR, jM.len_fI, jM.len_fL, jM.len_fR, *]; omega)) (fun c48 => ?_) (fun c48 => ?_)
                           · first
                             | (exfalso; omega)
                             | (refine J.iconst (pc' := 56) rfl rfl ?_
                                refine J.iconst (pc' := 57) rfl rfl ?_
                                first | refine J.callV (pc' := 60) (t := 16) rfl MX12_may ml_X12_161 iv_X12_may (by decide) ⟨_, rfl, rfl⟩ B.1 (cm_may1 B h0) rfl rfl (Nat.le_of_ble_eq_true rfl) (by first | omega | (exact R.r _ _) | (simp only [jM.len_sI, jM.len_sL, jM.len_sR, jM.len_fI, jM.len_fL, jM.len_fR]; omega) | (simp [jM.len_nw, jM.len_sI, jM.len_sL, jM.len_sR, jM.len_fI, jM.len_fL, jM.len_fR, *]; omega)) (by first | omega | (exact R.r _ _) | (simp only [jM.len_sI, jM.len_sL, jM.len_sR, jM.len_fI, jM.len_fL, jM.len_fR]; omega) | (simp [jM.len_nw, jM.len_sI, jM.len_sL, jM.len_sR, jM.len_fI, jM.len_fL, jM.len_fR, *]; omega)) (by first | omega | (exact R.r _ _) | (simp only [jM.len_sI, jM.len_sL, jM.len_sR, jM.len_fI, jM.len_fL, jM.len_fR]; omega) | (simp [jM.len_nw, jM.len_sI, jM.len_sL, jM.len_sR, jM.len_fI, jM.len_fL, jM.len_fR, *]; omega)) rfl rfl ?_ ?_ | refine J.callV (pc' := 60) (t := 16) rfl MX12_may ml_X12_161 iv_X12_may (by decide) ⟨_, rfl, rfl⟩ B.1 (cm_may0 B h0 (by omega)) rfl rfl (Nat.le_of_ble_eq_true rfl) (by first | omega | (exact R.r _ _) | (simp only [jM.len_sI, jM.len_sL, jM.len_sR, jM.len_fI, jM.len_fL, jM.len_fR]; omega) | (simp [jM.len_nw, jM.len_sI, jM.len_sL, jM.len_sR, jM.len_fI, jM.len_fL, jM.len_fR, *]; omega)) (by first | omega | (exact R.r _ _) | (simp only [jM.len_sI, jM.len_sL, jM.len_sR, jM.len_fI, jM.len_fL, jM.len_fR]; omega) | (simp [jM.len_nw, jM.len_sI, jM.len_sL, jM.len_sR, jM.len_fI, jM.len_fL, jM.len_fR, *]; omega)) (by first | omega | (exact R.r _ _) | (simp only [jM.len_sI, jM.len_sL, jM.len_sR, jM.len_fI, jM.len_fL, jM.len_fR]; omega) | (simp [jM.len_nw, jM.len_sI, jM.len_sL, jM.len_sR, jM.len_fI, jM.len_fL, jM.len_fR, *]; omega)) rfl rfl ?_ ?_
                                · exact fun _ _ h => h
                                rintro _ _ ⟨rfl, rfl⟩
                                refine J.if_ne (tgt := 65) (pc' := 63) rfl rfl rfl (by first | omega | (exact R.r _ _) | (simp only [jM.len_sI, jM.len_sL, jM.len_sR, jM.len_fI, jM.len_fL, jM.len_fR]; omega) | (simp [jM.len_nw, jM.len_sI, jM.len_sL, jM.len_sR, jM.len_fI, jM.len_fL, jM.len_fR, *]; omega)) (fun c60 => ?_) (fun c60 => ?_)
                                · first
                                  | (exfalso; omega)
                                  | (refine J.bipush (pc' := 67) rfl rfl (by decide) ?_
                                     refine J.iload_n (pc' := 68) rfl rfl rfl ?_
                                     refine J.imul (pc' := 69) rfl rfl ?_
                                     refine J.iload_n (pc' := 70) rfl rfl rfl ?_
                                     refine J.iadd (pc' := 71) rfl rfl ?_
                                     refine J.istore (pc' := 73) rfl rfl (by decide) ?_
                                     refine J.iload_n (pc' := 74) rfl rfl rfl ?_
                                     refine J.iconst (pc' := 75) rfl rfl ?_
                                     refine J.icmp_ge (tgt := 100) (pc' := 78) rfl rfl rfl (by first | omega | (exact R.r _ _) | (simp only [jM.len_sI, jM.len_sL, jM.len_sR, jM.len_fI, jM.len_fL, jM.len_fR]; omega) | (simp [jM.len_nw, jM.len_sI, jM.len_sL, jM.len_sR, jM.len_fI, jM.len_fL, jM.len_fR, *]; omega)) (by first | omega | (exact R.r _ _) | (simp only [jM.len_sI, jM.len_sL, jM.len_sR, jM.len_fI, jM.len_fL, jM.len_fR]; omega) | (simp [jM.len_nw, jM.len_sI, jM.len_sL, jM.len_sR, jM.len_fI, jM.len_fL, jM.len_fR, *]; omega)) (fun c75 => ?_) (fun c75 => ?_)
                                     · first
                                       | (exfalso; omega)
                                       | (refine J.iload_n (pc' := 101) rfl rfl rfl ?_
                                          refine J.iconst (pc' := 102) rfl rfl ?_
                                          refine J.irem (pc' := 103) rfl rfl (by first | omega | (exact R.r _ _) | (simp only [jM.len_sI, jM.len_sL, jM.len_sR, jM.len_fI, jM.len_fL, jM.len_fR]; omega) | (simp [jM.len_nw, jM.len_sI, jM.len_sL, jM.len_sR, jM.len_fI, jM.len_fL, jM.len_fR, *]; omega)) (by first | omega | (exact R.r _ _) | (simp only [jM.len_sI, jM.len_sL, jM.len_sR, jM.len_fI, jM.len_fL, jM.len_fR]; omega) | (simp [jM.len_nw, jM.len_sI, jM.len_sL, jM.len_sR, jM.len_fI, jM.len_fL, jM.len_fR, *]; omega)) (by first | omega | (exact R.r _ _) | (simp only [jM.len_sI, jM.len_sL, jM.len_sR, jM.len_fI, jM.len_fL, jM.len_fR]; omega) | (simp [jM.len_nw, jM.len_sI, jM.len_sL, jM.len_sR, jM.len_fI, jM.len_fL, jM.len_fR, *]; omega)) ?_
                                          rw [Int.tmod_eq_emod_of_nonneg (by omega)]
                                          refine J.if_ne (tgt := 124) (pc' := 106) rfl rfl rfl (by first | omega | (exact R.r _ _) | (simp only [jM.len_sI, jM.len_sL, jM.len_sR, jM.len_fI, jM.len_fL, jM.len_fR]; omega) | (simp [jM.len_nw, jM.len_sI, jM.len_sL, jM.len_sR, jM.len_fI, jM.len_fL, jM.len_fR, *]; omega)) (fun c103 => ?_) (fun c103 => ?_)
                                          · first
                                            | (exfalso; omega)
                                            | (first | refine J.aload_n (pc' := 125) rfl rfl rfl ?_ | refine J.aload_nN (pc' := 125) rfl rfl rfl ?_
                                               refine J.mgR (pc' := 128) (t := 157) B rfl fl_X12_145 rfl rfl (by decide) rfl ?_
                                               refine J.iconst (pc' := 129) rfl rfl ?_
                                               refine J.iload (pc' := 131) rfl rfl rfl ?_
                                               refine J.imul (pc' := 132) rfl rfl ?_
                                               refine J.iload_n (pc' := 133) rfl rfl rfl ?_
                                               refine J.iconst (pc' := 134) rfl rfl ?_
                                               refine J.isub (pc' := 135) rfl rfl ?_
                                               refine J.iconst (pc' := 136) rfl rfl ?_
                                               refine J.idiv (pc' := 137) rfl rfl (by first | omega | (exact R.r _ _) | (simp only [jM.len_sI, jM.len_sL, jM.len_sR, jM.len_fI, jM.len_fL, jM.len_fR]; omega) | (simp [jM.len_nw, jM.len_sI, jM.len_sL, jM.len_sR, jM.len_fI, jM.len_fL, jM.len_fR, *]; omega)) (by first | omega | (exact R.r _ _) | (simp only [jM.len_sI, jM.len_sL, jM.len_sR, jM.len_fI, jM.len_fL, jM.len_fR]; omega) | (simp [jM.len_nw, jM.len_sI, jM.len_sL, jM.len_sR, jM.len_fI, jM.len_fL, jM.len_fR, *]; omega)) (by first | omega | (exact R.r _ _) | (simp only [jM.len_sI, jM.len_sL, jM.len_sR, jM.len_fI, jM.len_fL, jM.len_fR]; omega) | (simp [jM.len_nw, jM.len_sI, jM.len_sL, jM.len_sR, jM.len_fI, jM.len_fL, jM.len_fR, *]; omega)) ?_
                                               rw [Int.tdiv_eq_ediv_of_nonneg (by omega)]
                                               refine J.iadd (pc' := 138) rfl rfl ?_
                                               refine J.mald (pc' := 139) B rfl rfl rfl (by omega) (by simp only [jLn]; omega) rfl ?_
                                               refine J.iret rfl rfl (by first | omega | (exact R.r _ _) | (simp only [jM.len_sI, jM.len_sL, jM.len_sR, jM.len_fI, jM.len_fL, jM.len_fR]; omega) | (simp [jM.len_nw, jM.len_sI, jM.len_sL, jM.len_sR, jM.len_fI, jM.len_fL, jM.len_fR, *]; omega)) (by first | omega | (exact R.r _ _) | (simp only [jM.len_sI, jM.len_sL, jM.len_sR, jM.len_fI, jM.len_fL, jM.len_fR]; omega) | (simp [jM.len_nw, jM.len_sI, jM.len_sL, jM.len_sR, jM.len_fI, jM.len_fL, jM.len_fR, *]; omega)) ?_
                                               exact mQ.of (by unfold sp_portion porV; (repeat (first | rw [if_pos (by omega)] | rw [if_neg (by omega)]))))
                                          · first
                                            | (exfalso; omega)
                                            | (first | refine J.aload_n (pc' := 107) rfl rfl rfl ?_ | refine J.aload_nN (pc' := 107) rfl rfl rfl ?_
                                               refine J.mgR (pc' := 110) (t := 156) B rfl fl_X12_142 rfl rfl (by decide) rfl ?_
                                               refine J.iconst (pc' := 111) rfl rfl ?_
                                               refine J.iload (pc' := 113) rfl rfl rfl ?_
                                               refine J.imul (pc' := 114) rfl rfl ?_
                                               refine J.iload_n (pc' := 115) rfl rfl rfl ?_
                                               refine J.iconst (pc' := 116) rfl rfl ?_
                                               refine J.isub (pc' := 117) rfl rfl ?_
                                               refine J.iconst (pc' := 118) rfl rfl ?_
                                               refine J.idiv (pc' := 119) rfl rfl (by first | omega | (exact R.r _ _) | (simp only [jM.len_sI, jM.len_sL, jM.len_sR, jM.len_fI, jM.len_fL, jM.len_fR]; omega) | (simp [jM.len_nw, jM.len_sI, jM.len_sL, jM.len_sR, jM.len_fI, jM.len_fL, jM.len_fR, *]; omega)) (by first | omega | (exact R.r _ _) | (simp only [jM.len_sI, jM.len_sL, jM.len_sR, jM.len_fI, jM.len_fL, jM.len_fR]; omega) | (simp [jM.len_nw, jM.len_sI, jM.len_sL, jM.len_sR, jM.len_fI, jM.len_fL, jM.len_fR, *]; omega)) (by first | omega | (exact R.r _ _) | (simp only [jM.len_sI, jM.len_sL, jM.len_sR, jM.len_fI, jM.len_fL, jM.len_fR]; omega) | (simp [jM.len_nw, jM.len_sI, jM.len_sL, jM.len_sR, jM.len_fI, jM.len_fL, jM.len_fR, *]; omega)) ?_
                                               rw [Int.tdiv_eq_ediv_of_nonneg (by omega)]
                                               refine J.iadd (pc' := 120) rfl rfl ?_
                                               refine J.mald (pc' := 121) B rfl rfl rfl (by omega) (by simp only [jLn]; omega) rfl ?_
                                               refine J.goto (tgt := 139) rfl rfl ?_
                                               refine J.iret rfl rfl (by first | omega | (exact R.r _ _) | (simp only [jM.len_sI, jM.len_sL, jM.len_sR, jM.len_fI, jM.len_fL, jM.len_fR]; omega) | (simp [jM.len_nw, jM.len_sI, jM.len_sL, jM.len_sR, jM.len_fI, jM.len_fL, jM.len_fR, *]; omega)) (by first | omega | (exact R.r _ _) | (simp only [jM.len_sI, jM.len_sL, jM.len_sR, jM.len_fI, jM.len_fL, jM.len_fR]; omega) | (simp [jM.len_nw, jM.len_sI, jM.len_sL, jM.len_sR, jM.len_fI, jM.len_fL, jM.len_fR, *]; omega)) ?_
                                               exact mQ.of (by unfold sp_portion porV; (repeat (first | rw [if_pos (by omega)] | rw [if_neg (by omega)])))))
                                     · first
                                       | (exfalso; omega)
                                       | (refine J.iload_n (pc' := 79) rfl rfl rfl ?_
                                          refine J.if_ne (tgt := 92) (pc' := 82) rfl rfl rfl (by first | omega | (exact R.r _ _) | (simp only [jM.len_sI, jM.len_sL, jM.len_sR, jM.len_fI, jM.len_fL, jM.len_fR]; omega) | (simp [jM.len_nw, jM.len_sI, jM.len_sL, jM.len_sR, jM.len_fI, jM.len_fL, jM.len_fR, *]; omega)) (fun c79 => ?_) (fun c79 => ?_)
                                          · first
                                            | (exfalso; omega)
                                            | (first | refine J.aload_n (pc' := 93) rfl rfl rfl ?_ | refine J.aload_nN (pc' := 93) rfl rfl rfl ?_
                                               refine J.mgR (pc' := 96) (t := 155) B rfl fl_X12_139 rfl rfl (by decide) rfl ?_
                                               refine J.iload (pc' := 98) rfl rfl rfl ?_
                                               refine J.mald (pc' := 99) B rfl rfl rfl (by omega) (by simp only [jLn]; omega) rfl ?_
                                               refine J.iret rfl rfl (by first | omega | (exact R.r _ _) | (simp only [jM.len_sI, jM.len_sL, jM.len_sR, jM.len_fI, jM.len_fL, jM.len_fR]; omega) | (simp [jM.len_nw, jM.len_sI, jM.len_sL, jM.len_sR, jM.len_fI, jM.len_fL, jM.len_fR, *]; omega)) (by first | omega | (exact R.r _ _) | (simp only [jM.len_sI, jM.len_sL, jM.len_sR, jM.len_fI, jM.len_fL, jM.len_fR]; omega) | (simp [jM.len_nw, jM.len_sI, jM.len_sL, jM.len_sR, jM.len_fI, jM.len_fL, jM.len_fR, *]; omega)) ?_
                                               exact mQ.of (by unfold sp_portion porV; (repeat (first | rw [if_pos (by omega)] | rw [if_neg (by omega)]))))
                                          · first
                                            | (exfalso; omega)
                                            | (first | refine J.aload_n (pc' := 83) rfl rfl rfl ?_ | refine J.aload_nN (pc' := 83) rfl rfl rfl ?_
                                               refine J.mgR (pc' := 86) (t := 154) B rfl fl_X12_136 rfl rfl (by decide) rfl ?_
                                               refine J.iload (pc' := 88) rfl rfl rfl ?_
                                               refine J.mald (pc' := 89) B rfl rfl rfl (by omega) (by simp only [jLn]; omega) rfl ?_
                                               refine J.goto (tgt := 99) rfl rfl ?_
                                               refine J.iret rfl rfl (by first | omega | (exact R.r _ _) | (simp only [jM.len_sI, jM.len_sL, jM.len_sR, jM.len_fI, jM.len_fL, jM.len_fR]; omega) | (simp [jM.len_nw, jM.len_sI, jM.len_sL, jM.len_sR, jM.len_fI, jM.len_fL, jM.len_fR, *]; omega)) (by first | omega | (exact R.r _ _) | (simp only [jM.len_sI, jM.len_sL, jM.len_sR, jM.len_fI, jM.len_fL, jM.len_fR]; omega) | (simp [jM.len_nw, jM.len_sI, jM.len_sL, jM.len_sR, jM.len_fI, jM.len_fL, jM.len_fR, *]; omega)) ?_
                                               exact mQ.of (by unfold sp_portion porV; (repeat (first | rw [if_pos (by omega)] | rw [if_neg (by omega)]))))))
                                · first
                                  | (exfalso; omega)
                                  | (refine J.iconst (pc' := 64) rfl rfl ?_
                                     refine J.iret rfl rfl (by first | omega | (exact R.r _ _) | (simp only [jM.len_sI, jM.len_sL, jM.len_sR, jM.len_fI, jM.len_fL, jM.len_fR]; omega) | (simp [jM.len_nw, jM.len_sI, jM.len_sL, jM.len_sR, jM.len_fI, jM.len_fL, jM.len_fR, *]; omega)) (by first | omega | (exact R.r _ _) | (simp only [jM.len_sI, jM.len_sL, jM.len_sR, jM.len_fI, jM.len_fL, jM.len_fR]; omega) | (simp [jM.len_nw, jM.len_sI, jM.len_sL, jM.len_sR, jM.len_fI, jM.len_fL, jM.len_fR, *]; omega)) ?_
                                     exact mQ.of (by unfold sp_portion porV; (repeat (first | rw [if_pos (by omega)] | rw [if_neg (by omega)])))))
                           · first
                             | (exfalso; omega)
                             | (refine J.iconst (pc' := 52) rfl rfl ?_
                                refine J.goto (tgt := 56) rfl rfl ?_
                                refine J.iconst (pc' := 57) rfl rfl ?_
                                first | refine J.callV (pc' := 60) (t := 16) rfl MX12_may ml_X12_161 iv_X12_may (by decide) ⟨_, rfl, rfl⟩ B.1 (cm_may1 B h0) rfl rfl (Nat.le_of_ble_eq_true rfl) (by first | omega | (exact R.r _ _) | (simp only [jM.len_sI, jM.len_sL, jM.len_sR, jM.len_fI, jM.len_fL, jM.len_fR]; omega) | (simp [jM.len_nw, jM.len_sI, jM.len_sL, jM.len_sR, jM.len_fI, jM.len_fL, jM.len_fR, *]; omega)) (by first | omega | (exact R.r _ _) | (simp only [jM.len_sI, jM.len_sL, jM.len_sR, jM.len_fI, jM.len_fL, jM.len_fR]; omega) | (simp [jM.len_nw, jM.len_sI, jM.len_sL, jM.len_sR, jM.len_fI, jM.len_fL, jM.len_fR, *]; omega)) (by first | omega | (exact R.r _ _) | (simp only [jM.len_sI, jM.len_sL, jM.len_sR, jM.len_fI, jM.len_fL, jM.len_fR]; omega) | (simp [jM.len_nw, jM.len_sI, jM.len_sL, jM.len_sR, jM.len_fI, jM.len_fL, jM.len_fR, *]; omega)) rfl rfl ?_ ?_ | refine J.callV (pc' := 60) (t := 16) rfl MX12_may ml_X12_161 iv_X12_may (by decide) ⟨_, rfl, rfl⟩ B.1 (cm_may0 B h0 (by omega)) rfl rfl (Nat.le_of_ble_eq_true rfl) (by first | omega | (exact R.r _ _) | (simp only [jM.len_sI, jM.len_sL, jM.len_sR, jM.len_fI, jM.len_fL, jM.len_fR]; omega) | (simp [jM.len_nw, jM.len_sI, jM.len_sL, jM.len_sR, jM.len_fI, jM.len_fL, jM.len_fR, *]; omega)) (by first | omega | (exact R.r _ _) | (simp only [jM.len_sI, jM.len_sL, jM.len_sR, jM.len_fI, jM.len_fL, jM.len_fR]; omega) | (simp [jM.len_nw, jM.len_sI, jM.len_sL, jM.len_sR, jM.len_fI, jM.len_fL, jM.len_fR, *]; omega)) (by first | omega | (exact R.r _ _) | (simp only [jM.len_sI, jM.len_sL, jM.len_sR, jM.len_fI, jM.len_fL, jM.len_fR]; omega) | (simp [jM.len_nw, jM.len_sI, jM.len_sL, jM.len_sR, jM.len_fI, jM.len_fL, jM.len_fR, *]; omega)) rfl rfl ?_ ?_
                                · exact fun _ _ h => h
                                rintro _ _ ⟨rfl, rfl⟩
                                refine J.if_ne (tgt := 65) (pc' := 63) rfl rfl rfl (by first | omega | (exact R.r _ _) | (simp only [jM.len_sI, jM.len_sL, jM.len_sR, jM.len_fI, jM.len_fL, jM.len_fR]; omega) | (simp [jM.len_nw, jM.len_sI, jM.len_sL, jM.len_sR, jM.len_fI, jM.len_fL, jM.len_fR, *]; omega)) (fun c60 => ?_) (fun c60 => ?_)
                                · first
                                  | (exfalso; omega)
                                  | (refine J.bipush (pc' := 67) rfl rfl (by decide) ?_
                                     refine J.iload_n (pc' := 68) rfl rfl rfl ?_
                                     refine J.imul (pc' := 69) rfl rfl ?_
                                     refine J.iload_n (pc' := 70) rfl rfl rfl ?_
                                     refine J.iadd (pc' := 71) rfl rfl ?_
                                     refine J.istore (pc' := 73) rfl rfl (by decide) ?_
                                     refine J.iload_n (pc' := 74) rfl rfl rfl ?_
                                     refine J.iconst (pc' := 75) rfl rfl ?_
                                     refine J.icmp_ge (tgt := 100) (pc' := 78) rfl rfl rfl (by first | omega | (exact R.r _ _) | (simp only [jM.len_sI, jM.len_sL, jM.len_sR, jM.len_fI, jM.len_fL, jM.len_fR]; omega) | (simp [jM.len_nw, jM.len_sI, jM.len_sL, jM.len_sR, jM.len_fI, jM.len_fL, jM.len_fR, *]; omega)) (by first | omega | (exact R.r _ _) | (simp only [jM.len_sI, jM.len_sL, jM.len_sR, jM.len_fI, jM.len_fL, jM.len_fR]; omega) | (simp [jM.len_nw, jM.len_sI, jM.len_sL, jM.len_sR, jM.len_fI, jM.len_fL, jM.len_fR, *]; omega)) (fun c75 => ?_) (fun c75 => ?_)
                                     · first
                                       | (exfalso; omega)
                                       | (refine J.iload_n (pc' := 101) rfl rfl rfl ?_
                                          refine J.iconst (pc' := 102) rfl rfl ?_
                                          refine J.irem (pc' := 103) rfl rfl (by first | omega | (exact R.r _ _) | (simp only [jM.len_sI, jM.len_sL, jM.len_sR, jM.len_fI, jM.len_fL, jM.len_fR]; omega) | (simp [jM.len_nw, jM.len_sI, jM.len_sL, jM.len_sR, jM.len_fI, jM.len_fL, jM.len_fR, *]; omega)) (by first | omega | (exact R.r _ _) | (simp only [jM.len_sI, jM.len_sL, jM.len_sR, jM.len_fI, jM.len_fL, jM.len_fR]; omega) | (simp [jM.len_nw, jM.len_sI, jM.len_sL, jM.len_sR, jM.len_fI, jM.len_fL, jM.len_fR, *]; omega)) (by first | omega | (exact R.r _ _) | (simp only [jM.len_sI, jM.len_sL, jM.len_sR, jM.len_fI, jM.len_fL, jM.len_fR]; omega) | (simp [jM.len_nw, jM.len_sI, jM.len_sL, jM.len_sR, jM.len_fI, jM.len_fL, jM.len_fR, *]; omega)) ?_
                                          rw [Int.tmod_eq_emod_of_nonneg (by omega)]
                                          refine J.if_ne (tgt := 124) (pc' := 106) rfl rfl rfl (by first | omega | (exact R.r _ _) | (simp only [jM.len_sI, jM.len_sL, jM.len_sR, jM.len_fI, jM.len_fL, jM.len_fR]; omega) | (simp [jM.len_nw, jM.len_sI, jM.len_sL, jM.len_sR, jM.len_fI, jM.len_fL, jM.len_fR, *]; omega)) (fun c103 => ?_) (fun c103 => ?_)
                                          · first
                                            | (exfalso; omega)
                                            | (first | refine J.aload_n (pc' := 125) rfl rfl rfl ?_ | refine J.aload_nN (pc' := 125) rfl rfl rfl ?_
                                               refine J.mgR (pc' := 128) (t := 157) B rfl fl_X12_145 rfl rfl (by decide) rfl ?_
                                               refine J.iconst (pc' := 129) rfl rfl ?_
                                               refine J.iload (pc' := 131) rfl rfl rfl ?_
                                               refine J.imul (pc' := 132) rfl rfl ?_
                                               refine J.iload_n (pc' := 133) rfl rfl rfl ?_
                                               refine J.iconst (pc' := 134) rfl rfl ?_
                                               refine J.isub (pc' := 135) rfl rfl ?_
                                               refine J.iconst (pc' := 136) rfl rfl ?_
                                               refine J.idiv (pc' := 137) rfl rfl (by first | omega | (exact R.r _ _) | (simp only [jM.len_sI, jM.len_sL, jM.len_sR, jM.len_fI, jM.len_fL, jM.len_fR]; omega) | (simp [jM.len_nw, jM.len_sI, jM.len_sL, jM.len_sR, jM.len_fI, jM.len_fL, jM.len_fR, *]; omega)) (by first | omega | (exact R.r _ _) | (simp only [jM.len_sI, jM.len_sL, jM.len_sR, jM.len_fI, jM.len_fL, jM.len_fR]; omega) | (simp [jM.len_nw, jM.len_sI, jM.len_sL, jM.len_sR, jM.len_fI, jM.len_fL, jM.len_fR, *]; omega)) (by first | omega | (exact R.r _ _) | (simp only [jM.len_sI, jM.len_sL, jM.len_sR, jM.len_fI, jM.len_fL, jM.len_fR]; omega) | (simp [jM.len_nw, jM.len_sI, jM.len_sL, jM.len_sR, jM.len_fI, jM.len_fL, jM.len_fR, *]; omega)) ?_
                                               rw [Int.tdiv_eq_ediv_of_nonneg (by omega)]
                                               refine J.iadd (pc' := 138) rfl rfl ?_
                                               refine J.mald (pc' := 139) B rfl rfl rfl (by omega) (by simp only [jLn]; omega) rfl ?_
                                               refine J.iret rfl rfl (by first | omega | (exact R.r _ _) | (simp only [jM.len_sI, jM.len_sL, jM.len_sR, jM.len_fI, jM.len_fL, jM.len_fR]; omega) | (simp [jM.len_nw, jM.len_sI, jM.len_sL, jM.len_sR, jM.len_fI, jM.len_fL, jM.len_fR, *]; omega)) (by first | omega | (exact R.r _ _) | (simp only [jM.len_sI, jM.len_sL, jM.len_sR, jM.len_fI, jM.len_fL, jM.len_fR]; omega) | (simp [jM.len_nw, jM.len_sI, jM.len_sL, jM.len_sR, jM.len_fI, jM.len_fL, jM.len_fR, *]; omega)) ?_
                                               exact mQ.of (by unfold sp_portion porV; (repeat (first | rw [if_pos (by omega)] | rw [if_neg (by omega)]))))
                                          · first
                                            | (exfalso; omega)
                                            | (first | refine J.aload_n (pc' := 107) rfl rfl rfl ?_ | refine J.aload_nN (pc' := 107) rfl rfl rfl ?_
                                               refine J.mgR (pc' := 110) (t := 156) B rfl fl_X12_142 rfl rfl (by decide) rfl ?_
                                               refine J.iconst (pc' := 111) rfl rfl ?_
                                               refine J.iload (pc' := 113) rfl rfl rfl ?_
                                               refine J.imul (pc' := 114) rfl rfl ?_
                                               refine J.iload_n (pc' := 115) rfl rfl rfl ?_
                                               refine J.iconst (pc' := 116) rfl rfl ?_
                                               refine J.isub (pc' := 117) rfl rfl ?_
                                               refine J.iconst (pc' := 118) rfl rfl ?_
                                               refine J.idiv (pc' := 119) rfl rfl (by first | omega | (exact R.r _ _) | (simp only [jM.len_sI, jM.len_sL, jM.len_sR, jM.len_fI, jM.len_fL, jM.len_fR]; omega) | (simp [jM.len_nw, jM.len_sI, jM.len_sL, jM.len_sR, jM.len_fI, jM.len_fL, jM.len_fR, *]; omega)) (by first | omega | (exact R.r _ _) | (simp only [jM.len_sI, jM.len_sL, jM.len_sR, jM.len_fI, jM.len_fL, jM.len_fR]; omega) | (simp [jM.len_nw, jM.len_sI, jM.len_sL, jM.len_sR, jM.len_fI, jM.len_fL, jM.len_fR, *]; omega)) (by first | omega | (exact R.r _ _) | (simp only [jM.len_sI, jM.len_sL, jM.len_sR, jM.len_fI, jM.len_fL, jM.len_fR]; omega) | (simp [jM.len_nw, jM.len_sI, jM.len_sL, jM.len_sR, jM.len_fI, jM.len_fL, jM.len_fR, *]; omega)) ?_
                                               rw [Int.tdiv_eq_ediv_of_nonneg (by omega)]
                                               refine J.iadd (pc' := 120) rfl rfl ?_
                                               refine J.mald (pc' := 121) B rfl rfl rfl (by omega) (by simp only [jLn]; omega) rfl ?_
                                               refine J.goto (tgt := 139) rfl rfl ?_
                                               refine J.iret rfl rfl (by first | omega | (exact R.r _ _) | (simp only [jM.len_sI, jM.len_sL, jM.len_sR, jM.len_fI, jM.len_fL, jM.len_fR]; omega) | (simp [jM.len_nw, jM.len_sI, jM.len_sL, jM.len_sR, jM.len_fI, jM.len_fL, jM.len_fR, *]; omega)) (by first | omega | (exact R.r _ _) | (simp only [jM.len_sI, jM.len_sL, jM.len_sR, jM.len_fI, jM.len_fL, jM.len_fR]; omega) | (simp [jM.len_nw, jM.len_sI, jM.len_sL, jM.len_sR, jM.len_fI, jM.len_fL, jM.len_fR, *]; omega)) ?_
                                               exact mQ.of (by unfold sp_portion porV; (repeat (first | rw [if_pos (by omega)] | rw [if_neg (by omega)])))))
                                     · first
                                       | (exfalso; omega)
                                       | (refine J.iload_n (pc' := 79) rfl rfl rfl ?_
                                          refine J.if_ne (tgt := 92) (pc' := 82) rfl rfl rfl (by first | omega | (exact R.r _ _) | (simp only [jM.len_sI, jM.len_sL, jM.len_sR, jM.len_fI, jM.len_fL, jM.len_fR]; omega) | (simp [jM.len_nw, jM.len_sI, jM.len_sL, jM.len_sR, jM.len_fI, jM.len_fL, jM.len_fR, *]; omega)) (fun c79 => ?_) (fun c79 => ?_)
                                          · first
                                            | (exfalso; omega)
                                            | (first | refine J.aload_n (pc' := 93) rfl rfl rfl ?_ | refine J.aload_nN (pc' := 93) rfl rfl rfl ?_
                                               refine J.mgR (pc' := 96) (t := 155) B rfl fl_X12_139 rfl rfl (by decide) rfl ?_
                                               refine J.iload (pc' := 98) rfl rfl rfl ?_
                                               refine J.mald (pc' := 99) B rfl rfl rfl (by omega) (by simp only [jLn]; omega) rfl ?_
                                               refine J.iret rfl rfl (by first | omega | (exact R.r _ _) | (simp only [jM.len_sI, jM.len_sL, jM.len_sR, jM.len_fI, jM.len_fL, jM.len_fR]; omega) | (simp [jM.len_nw, jM.len_sI, jM.len_sL, jM.len_sR, jM.len_fI, jM.len_fL, jM.len_fR, *]; omega)) (by first | omega | (exact R.r _ _) | (simp only [jM.len_sI, jM.len_sL, jM.len_sR, jM.len_fI, jM.len_fL, jM.len_fR]; omega) | (simp [jM.len_nw, jM.len_sI, jM.len_sL, jM.len_sR, jM.len_fI, jM.len_fL, jM.len_fR, *]; omega)) ?_
                                               exact mQ.of (by unfold sp_portion porV; (repeat (first | rw [if_pos (by omega)] | rw [if_neg (by omega)]))))
                                          · first
                                            | (exfalso; omega)
                                            | (first | refine J.aload_n (pc' := 83) rfl rfl rfl ?_ | refine J.aload_nN (pc' := 83) rfl rfl rfl ?_
                                               refine J.mgR (pc' := 86) (t := 154) B rfl fl_X12_136 rfl rfl (by decide) rfl ?_
                                               refine J.iload (pc' := 88) rfl rfl rfl ?_
                                               refine J.mald (pc' := 89) B rfl rfl rfl (by omega) (by simp only [jLn]; omega) rfl ?_
                                               refine J.goto (tgt := 99) rfl rfl ?_
                                               refine J.iret rfl rfl (by first | omega | (exact R.r _ _) | (simp only [jM.len_sI, jM.len_sL, jM.len_sR, jM.len_fI, jM.len_fL, jM.len_fR]; omega) | (simp [jM.len_nw, jM.len_sI, jM.len_sL, jM.len_sR, jM.len_fI, jM.len_fL, jM.len_fR, *]; omega)) (by first | omega | (exact R.r _ _) | (simp only [jM.len_sI, jM.len_sL, jM.len_sR, jM.len_fI, jM.len_fL, jM.len_fR]; omega) | (simp [jM.len_nw, jM.len_sI, jM.len_sL, jM.len_sR, jM.len_fI, jM.len_fL, jM.len_fR, *]; omega)) ?_
                                               exact mQ.of (by unfold sp_portion porV; (repeat (first | rw [if_pos (by omega)] | rw [if_neg (by omega)]))))))
                                · first
                                  | (exfalso; omega)
                                  | (refine J.iconst (pc' := 64) rfl rfl ?_
                                     refine J.iret rfl rfl (by first | omega | (exact R.r _ _) | (simp only [jM.len_sI, jM.len_sL, jM.len_sR, jM.len_fI, jM.len_fL, jM.len_fR]; omega) | (simp [jM.len_nw, jM.len_sI, jM.len_sL, jM.len_sR, jM.len_fI, jM.len_fL, jM.len_fR, *]; omega)) (by first | omega | (exact R.r _ _) | (simp only [jM.len_sI, jM.len_sL, jM.len_sR, jM.len_fI, jM.len_fL, jM.len_fR]; omega) | (simp [jM.len_nw, jM.len_sI, jM.len_sL, jM.len_sR, jM.len_fI, jM.len_fL, jM.len_fR, *]; omega)) ?_
                                     exact mQ.of (by unfold sp_portion porV; (repeat (first | rw [if_pos (by omega)] | rw [if_neg (by omega)]))))))))
            · first
              | (exfalso; omega)
              | (refine J.iload_n (pc' := 19) rfl rfl rfl ?_
                 first | refine J.aload_n (pc' := 20) rfl rfl rfl ?_ | refine J.aload_nN (pc' := 20) rfl rfl rfl ?_
                 refine J.mgR (pc' := 23) (t := 153) B rfl fl_X12_133 rfl rfl (by decide) rfl ?_
                 refine J.iload_n (pc' := 24) rfl rfl rfl ?_
                 refine J.mald (pc' := 25) B rfl rfl rfl (by omega) (by simp only [jLn]; omega) rfl ?_
                 refine J.icmp_ge (tgt := 32) (pc' := 28) rfl rfl rfl (by first | omega | (exact R.r _ _) | (simp only [jM.len_sI, jM.len_sL, jM.len_sR, jM.len_fI, jM.len_fL, jM.len_fR]; omega) | (simp [jM.len_nw, jM.len_sI, jM.len_sL, jM.len_sR, jM.len_fI, jM.len_fL, jM.len_fR, *]; omega)) (by first | omega | (exact R.r _ _) | (simp only [jM.len_sI, jM.len_sL, jM.len_sR, jM.len_fI, jM.len_fL, jM.len_fR]; omega) | (simp [jM.len_nw, jM.len_sI, jM.len_sL, jM.len_sR, jM.len_fI, jM.len_fL, jM.len_fR, *]; omega)) (fun c25 => ?_) (fun c25 => ?_)
                 · first
                   | (exfalso; omega)
                   | (refine J.iconst (pc' := 33) rfl rfl ?_
                      refine J.iconst (pc' := 34) rfl rfl ?_
                      first | refine J.callV (pc' := 37) (t := 16) rfl MX12_may ml_X12_161 iv_X12_may (by decide) ⟨_, rfl, rfl⟩ B.1 (cm_may1 B h0) rfl rfl (Nat.le_of_ble_eq_true rfl) (by first | omega | (exact R.r _ _) | (simp only [jM.len_sI, jM.len_sL, jM.len_sR, jM.len_fI, jM.len_fL, jM.len_fR]; omega) | (simp [jM.len_nw, jM.len_sI, jM.len_sL, jM.len_sR, jM.len_fI, jM.len_fL, jM.len_fR, *]; omega)) (by first | omega | (exact R.r _ _) | (simp only [jM.len_sI, jM.len_sL, jM.len_sR, jM.len_fI, jM.len_fL, jM.len_fR]; omega) | (simp [jM.len_nw, jM.len_sI, jM.len_sL, jM.len_sR, jM.len_fI, jM.len_fL, jM.len_fR, *]; omega)) (by first | omega | (exact R.r _ _) | (simp only [jM.len_sI, jM.len_sL, jM.len_sR, jM.len_fI, jM.len_fL, jM.len_fR]; omega) | (simp [jM.len_nw, jM.len_sI, jM.len_sL, jM.len_sR, jM.len_fI, jM.len_fL, jM.len_fR, *]; omega)) rfl rfl ?_ ?_ | refine J.callV (pc' := 37) (t := 16) rfl MX12_may ml_X12_161 iv_X12_may (by decide) ⟨_, rfl, rfl⟩ B.1 (cm_may0 B h0 (by omega)) rfl rfl (Nat.le_of_ble_eq_true rfl) (by first | omega | (exact R.r _ _) | (simp only [jM.len_sI, jM.len_sL, jM.len_sR, jM.len_fI, jM.len_fL, jM.len_fR]; omega) | (simp [jM.len_nw, jM.len_sI, jM.len_sL, jM.len_sR, jM.len_fI, jM.len_fL, jM.len_fR, *]; omega)) (by first | omega | (exact R.r _ _) | (simp only [jM.len_sI, jM.len_sL, jM.len_sR, jM.len_fI, jM.len_fL, jM.len_fR]; omega) | (simp [jM.len_nw, jM.len_sI, jM.len_sL, jM.len_sR, jM.len_fI, jM.len_fL, jM.len_fR, *]; omega)) (by first | omega | (exact R.r _ _) | (simp only [jM.len_sI, jM.len_sL, jM.len_sR, jM.len_fI, jM.len_fL, jM.len_fR]; omega) | (simp [jM.len_nw, jM.len_sI, jM.len_sL, jM.len_sR, jM.len_fI, jM.len_fL, jM.len_fR, *]; omega)) rfl rfl ?_ ?_
                      · exact fun _ _ h => h
                      rintro _ _ ⟨rfl, rfl⟩
                      refine J.if_eq (tgt := 63) (pc' := 40) rfl rfl rfl (by first | omega | (exact R.r _ _) | (simp only [jM.len_sI, jM.len_sL, jM.len_sR, jM.len_fI, jM.len_fL, jM.len_fR]; omega) | (simp [jM.len_nw, jM.len_sI, jM.len_sL, jM.len_sR, jM.len_fI, jM.len_fL, jM.len_fR, *]; omega)) (fun c37 => ?_) (fun c37 => ?_)
                      · first
                        | (exfalso; omega)
                        | (refine J.iconst (pc' := 64) rfl rfl ?_
                           refine J.iret rfl rfl (by first | omega | (exact R.r _ _) | (simp only [jM.len_sI, jM.len_sL, jM.len_sR, jM.len_fI, jM.len_fL, jM.len_fR]; omega) | (simp [jM.len_nw, jM.len_sI, jM.len_sL, jM.len_sR, jM.len_fI, jM.len_fL, jM.len_fR, *]; omega)) (by first | omega | (exact R.r _ _) | (simp only [jM.len_sI, jM.len_sL, jM.len_sR, jM.len_fI, jM.len_fL, jM.len_fR]; omega) | (simp [jM.len_nw, jM.len_sI, jM.len_sL, jM.len_sR, jM.len_fI, jM.len_fL, jM.len_fR, *]; omega)) ?_
                           exact mQ.of (by unfold sp_portion porV; (repeat (first | rw [if_pos (by omega)] | rw [if_neg (by omega)]))))
                      · first
                        | (exfalso; omega)
                        | (first | refine J.aload_n (pc' := 41) rfl rfl rfl ?_ | refine J.aload_nN (pc' := 41) rfl rfl rfl ?_
                           refine J.iload_n (pc' := 42) rfl rfl rfl ?_
                           refine J.if_lt (tgt := 55) (pc' := 45) rfl rfl rfl (by first | omega | (exact R.r _ _) | (simp only [jM.len_sI, jM.len_sL, jM.len_sR, jM.len_fI, jM.len_fL, jM.len_fR]; omega) | (simp [jM.len_nw, jM.len_sI, jM.len_sL, jM.len_sR, jM.len_fI, jM.len_fL, jM.len_fR, *]; omega)) (fun c42 => ?_) (fun c42 => ?_)
                           · first
                             | (exfalso; omega)
                             | (refine J.iconst (pc' := 56) rfl rfl ?_
                                refine J.iconst (pc' := 57) rfl rfl ?_
                                first | refine J.callV (pc' := 60) (t := 16) rfl MX12_may ml_X12_161 iv_X12_may (by decide) ⟨_, rfl, rfl⟩ B.1 (cm_may1 B h0) rfl rfl (Nat.le_of_ble_eq_true rfl) (by first | omega | (exact R.r _ _) | (simp only [jM.len_sI, jM.len_sL, jM.len_sR, jM.len_fI, jM.len_fL, jM.len_fR]; omega) | (simp [jM.len_nw, jM.len_sI, jM.len_sL, jM.len_sR, jM.len_fI, jM.len_fL, jM.len_fR, *]; omega)) (by first | omega | (exact R.r _ _) | (simp only [jM.len_sI, jM.len_sL, jM.len_sR, jM.len_fI, jM.len_fL, jM.len_fR]; omega) | (simp [jM.len_nw, jM.len_sI, jM.len_sL, jM.len_sR, jM.len_fI, jM.len_fL, jM.len_fR, *]; omega)) (by first | omega | (exact R.r _ _) | (simp only [jM.len_sI, jM.len_sL, jM.len_sR, jM.len_fI, jM.len_fL, jM.len_fR]; omega) | (simp [jM.len_nw, jM.len_sI, jM.len_sL, jM.len_sR, jM.len_fI, jM.len_fL, jM.len_fR, *]; omega)) rfl rfl ?_ ?_ | refine J.callV (pc' := 60) (t := 16) rfl MX12_may ml_X12_161 iv_X12_may (by decide) ⟨_, rfl, rfl⟩ B.1 (cm_may0 B h0 (by omega)) rfl rfl (Nat.le_of_ble_eq_true rfl) (by first | omega | (exact R.r _ _) | (simp only [jM.len_sI, jM.len_sL, jM.len_sR, jM.len_fI, jM.len_fL, jM.len_fR]; omega) | (simp [jM.len_nw, jM.len_sI, jM.len_sL, jM.len_sR, jM.len_fI, jM.len_fL, jM.len_fR, *]; omega)) (by first | omega | (exact R.r _ _) | (simp only [jM.len_sI, jM.len_sL, jM.len_sR, jM.len_fI, jM.len_fL, jM.len_fR]; omega) | (simp [jM.len_nw, jM.len_sI, jM.len_sL, jM.len_sR, jM.len_fI, jM.len_fL, jM.len_fR, *]; omega)) (by first | omega | (exact R.r _ _) | (simp only [jM.len_sI, jM.len_sL, jM.len_sR, jM.len_fI, jM.len_fL, jM.len_fR]; omega) | (simp [jM.len_nw, jM.len_sI, jM.len_sL, jM.len_sR, jM.len_fI, jM.len_fL, jM.len_fR, *]; omega)) rfl rfl ?_ ?_
                                · exact fun _ _ h => h
                                rintro _ _ ⟨rfl, rfl⟩
                                refine J.if_ne (tgt := 65) (pc' := 63) rfl rfl rfl (by first | omega | (exact R.r _ _) | (simp only [jM.len_sI, jM.len_sL, jM.len_sR, jM.len_fI, jM.len_fL, jM.len_fR]; omega) | (simp [jM.len_nw, jM.len_sI, jM.len_sL, jM.len_sR, jM.len_fI, jM.len_fL, jM.len_fR, *]; omega)) (fun c60 => ?_) (fun c60 => ?_)
                                · first
                                  | (exfalso; omega)
                                  | (refine J.bipush (pc' := 67) rfl rfl (by decide) ?_
                                     refine J.iload_n (pc' := 68) rfl rfl rfl ?_
                                     refine J.imul (pc' := 69) rfl rfl ?_
                                     refine J.iload_n (pc' := 70) rfl rfl rfl ?_
                                     refine J.iadd (pc' := 71) rfl rfl ?_
                                     refine J.istore (pc' := 73) rfl rfl (by decide) ?_
                                     refine J.iload_n (pc' := 74) rfl rfl rfl ?_
                                     refine J.iconst (pc' := 75) rfl rfl ?_
                                     refine J.icmp_ge (tgt := 100) (pc' := 78) rfl rfl rfl (by first | omega | (exact R.r _ _) | (simp only [jM.len_sI, jM.len_sL, jM.len_sR, jM.len_fI, jM.len_fL, jM.len_fR]; omega) | (simp [jM.len_nw, jM.len_sI, jM.len_sL, jM.len_sR, jM.len_fI, jM.len_fL, jM.len_fR, *]; omega)) (by first | omega | (exact R.r _ _) | (simp only [jM.len_sI, jM.len_sL, jM.len_sR, jM.len_fI, jM.len_fL, jM.len_fR]; omega) | (simp [jM.len_nw, jM.len_sI, jM.len_sL, jM.len_sR, jM.len_fI, jM.len_fL, jM.len_fR, *]; omega)) (fun c75 => ?_) (fun c75 => ?_)
                                     · first
                                       | (exfalso; omega)
                                       | (refine J.iload_n (pc' := 101) rfl rfl rfl ?_
                                          refine J.iconst (pc' := 102) rfl rfl ?_
                                          refine J.irem (pc' := 103) rfl rfl (by first | omega | (exact R.r _ _) | (simp only [jM.len_sI, jM.len_sL, jM.len_sR, jM.len_fI, jM.len_fL, jM.len_fR]; omega) | (simp [jM.len_nw, jM.len_sI, jM.len_sL, jM.len_sR, jM.len_fI, jM.len_fL, jM.len_fR, *]; omega)) (by first | omega | (exact R.r _ _) | (simp only [jM.len_sI, jM.len_sL, jM.len_sR, jM.len_fI, jM.len_fL, jM.len_fR]; omega) | (simp [jM.len_nw, jM.len_sI, jM.len_sL, jM.len_sR, jM.len_fI, jM.len_fL, jM.len_fR, *]; omega)) (by first | omega | (exact R.r _ _) | (simp only [jM.len_sI, jM.len_sL, jM.len_sR, jM.len_fI, jM.len_fL, jM.len_fR]; omega) | (simp [jM.len_nw, jM.len_sI, jM.len_sL, jM.len_sR, jM.len_fI, jM.len_fL, jM.len_fR, *]; omega)) ?_
                                          rw [Int.tmod_eq_emod_of_nonneg (by omega)]
                                          refine J.if_ne (tgt := 124) (pc' := 106) rfl rfl rfl (by first | omega | (exact R.r _ _) | (simp only [jM.len_sI, jM.len_sL, jM.len_sR, jM.len_fI, jM.len_fL, jM.len_fR]; omega) | (simp [jM.len_nw, jM.len_sI, jM.len_sL, jM.len_sR, jM.len_fI, jM.len_fL, jM.len_fR, *]; omega)) (fun c103 => ?_) (fun c103 => ?_)
                                          · first
                                            | (exfalso; omega)
                                            | (first | refine J.aload_n (pc' := 125) rfl rfl rfl ?_ | refine J.aload_nN (pc' := 125) rfl rfl rfl ?_
                                               refine J.mgR (pc' := 128) (t := 157) B rfl fl_X12_145 rfl rfl (by decide) rfl ?_
                                               refine J.iconst (pc' := 129) rfl rfl ?_
                                               refine J.iload (pc' := 131) rfl rfl rfl ?_
                                               refine J.imul (pc' := 132) rfl rfl ?_
                                               refine J.iload_n (pc' := 133) rfl rfl rfl ?_
                                               refine J.iconst (pc' := 134) rfl rfl ?_
                                               refine J.isub (pc' := 135) rfl rfl ?_
                                               refine J.iconst (pc' := 136) rfl rfl ?_
                                               refine J.idiv (pc' := 137) rfl rfl (by first | omega | (exact R.r _ _) | (simp only [jM.len_sI, jM.len_sL, jM.len_sR, jM.len_fI, jM.len_fL, jM.len_fR]; omega) | (simp [jM.len_nw, jM.len_sI, jM.len_sL, jM.len_sR, jM.len_fI, jM.len_fL, jM.len_fR, *]; omega)) (by first | omega | (exact R.r _ _) | (simp only [jM.len_sI, jM.len_sL, jM.len_sR, jM.len_fI, jM.len_fL, jM.len_fR]; omega) | (simp [jM.len_nw, jM.len_sI, jM.len_sL, jM.len_sR, jM.len_fI, jM.len_fL, jM.len_fR, *]; omega)) (by first | omega | (exact R.r _ _) | (simp only [jM.len_sI, jM.len_sL, jM.len_sR, jM.len_fI, jM.len_fL, jM.len_fR]; omega) | (simp [jM.len_nw, jM.len_sI, jM.len_sL, jM.len_sR, jM.len_fI, jM.len_fL, jM.len_fR, *]; omega)) ?_
                                               rw [Int.tdiv_eq_ediv_of_nonneg (by omega)]
                                               refine J.iadd (pc' := 138) rfl rfl ?_
                                               refine J.mald (pc' := 139) B rfl rfl rfl (by omega) (by simp only [jLn]; omega) rfl ?_
                                               refine J.iret rfl rfl (by first | omega | (exact R.r _ _) | (simp only [jM.len_sI, jM.len_sL, jM.len_sR, jM.len_fI, jM.len_fL, jM.len_fR]; omega) | (simp [jM.len_nw, jM.len_sI, jM.len_sL, jM.len_sR, jM.len_fI, jM.len_fL, jM.len_fR, *]; omega)) (by first | omega | (exact R.r _ _) | (simp only [jM.len_sI, jM.len_sL, jM.len_sR, jM.len_fI, jM.len_fL, jM.len_fR]; omega) | (simp [jM.len_nw, jM.len_sI, jM.len_sL, jM.len_sR, jM.len_fI, jM.len_fL, jM.len_fR, *]; omega)) ?_
                                               exact mQ.of (by unfold sp_portion porV; (repeat (first | rw [if_pos (by omega)] | rw [if_neg (by omega)]))))
                                          · first
                                            | (exfalso; omega)
                                            | (first | refine J.aload_n (pc' := 107) rfl rfl rfl ?_ | refine J.aload_nN (pc' := 107) rfl rfl rfl ?_
                                               refine J.mgR (pc' := 110) (t := 156) B rfl fl_X12_142 rfl rfl (by decide) rfl ?_
                                               refine J.iconst (pc' := 111) rfl rfl ?_
                                               refine J.iload (pc' := 113) rfl rfl rfl ?_
                                               refine J.imul (pc' := 114) rfl rfl ?_
                                               refine J.iload_n (pc' := 115) rfl rfl rfl ?_
                                               refine J.iconst (pc' := 116) rfl rfl ?_
                                               refine J.isub (pc' := 117) rfl rfl ?_
                                               refine J.iconst (pc' := 118) rfl rfl ?_
                                               refine J.idiv (pc' := 119) rfl rfl (by first | omega | (exact R.r _ _) | (simp only [jM.len_sI, jM.len_sL, jM.len_sR, jM.len_fI, jM.len_fL, jM.len_fR]; omega) | (simp [jM.len_nw, jM.len_sI, jM.len_sL, jM.len_sR, jM.len_fI, jM.len_fL, jM.len_fR, *]; omega)) (by first | omega | (exact R.r _ _) | (simp only [jM.len_sI, jM.len_sL, jM.len_sR, jM.len_fI, jM.len_fL, jM.len_fR]; omega) | (simp [jM.len_nw, jM.len_sI, jM.len_sL, jM.len_sR, jM.len_fI, jM.len_fL, jM.len_fR, *]; omega)) (by first | omega | (exact R.r _ _) | (simp only [jM.len_sI, jM.len_sL, jM.len_sR, jM.len_fI, jM.len_fL, jM.len_fR]; omega) | (simp [jM.len_nw, jM.len_sI, jM.len_sL, jM.len_sR, jM.len_fI, jM.len_fL, jM.len_fR, *]; omega)) ?_
                                               rw [Int.tdiv_eq_ediv_of_nonneg (by omega)]
                                               refine J.iadd (pc' := 120) rfl rfl ?_
                                               refine J.mald (pc' := 121) B rfl rfl rfl (by omega) (by simp only [jLn]; omega) rfl ?_
                                               refine J.goto (tgt := 139) rfl rfl ?_
                                               refine J.iret rfl rfl (by first | omega | (exact R.r _ _) | (simp only [jM.len_sI, jM.len_sL, jM.len_sR, jM.len_fI, jM.len_fL, jM.len_fR]; omega) | (simp [jM.len_nw, jM.len_sI, jM.len_sL, jM.len_sR, jM.len_fI, jM.len_fL, jM.len_fR, *]; omega)) (by first | omega | (exact R.r _ _) | (simp only [jM.len_sI, jM.len_sL, jM.len_sR, jM.len_fI, jM.len_fL, jM.len_fR]; omega) | (simp [jM.len_nw, jM.len_sI, jM.len_sL, jM.len_sR, jM.len_fI, jM.len_fL, jM.len_fR, *]; omega)) ?_
                                               exact mQ.of (by unfold sp_portion porV; (repeat (first | rw [if_pos (by omega)] | rw [if_neg (by omega)])))))
                                     · first
                                       | (exfalso; omega)
                                       | (refine J.iload_n (pc' := 79) rfl rfl rfl ?_
                                          refine J.if_ne (tgt := 92) (pc' := 82) rfl rfl rfl (by first | omega | (exact R.r _ _) | (simp only [jM.len_sI, jM.len_sL, jM.len_sR, jM.len_fI, jM.len_fL, jM.len_fR]; omega) | (simp [jM.len_nw, jM.len_sI, jM.len_sL, jM.len_sR, jM.len_fI, jM.len_fL, jM.len_fR, *]; omega)) (fun c79 => ?_) (fun c79 => ?_)
                                          · first
                                            | (exfalso; omega)
                                            | (first | refine J.aload_n (pc' := 93) rfl rfl rfl ?_ | refine J.aload_nN (pc' := 93) rfl rfl rfl ?_
                                               refine J.mgR (pc' := 96) (t := 155) B rfl fl_X12_139 rfl rfl (by decide) rfl ?_
                                               refine J.iload (pc' := 98) rfl rfl rfl ?_
                                               refine J.mald (pc' := 99) B rfl rfl rfl (by omega) (by simp only [jLn]; omega) rfl ?_
                                               refine J.iret rfl rfl (by first | omega | (exact R.r _ _) | (simp only [jM.len_sI, jM.len_sL, jM.len_sR, jM.len_fI, jM.len_fL, jM.len_fR]; omega) | (simp [jM.len_nw, jM.len_sI, jM.len_sL, jM.len_sR, jM.len_fI, jM.len_fL, jM.len_fR, *]; omega)) (by first | omega | (exact R.r _ _) | (simp only [jM.len_sI, jM.len_sL, jM.len_sR, jM.len_fI, jM.len_fL, jM.len_fR]; omega) | (simp [jM.len_nw, jM.len_sI, jM.len_sL, jM.len_sR, jM.len_fI, jM.len_fL, jM.len_fR, *]; omega)) ?_
                                               exact mQ.of (by unfold sp_portion porV; (repeat (first | rw [if_pos (by omega)] | rw [if_neg (by omega)]))))
                                          · first
                                            | (exfalso; omega)
                                            | (first | refine J.aload_n (pc' := 83) rfl rfl rfl ?_ | refine J.aload_nN (pc' := 83) rfl rfl rfl ?_
                                               refine J.mgR (pc' := 86) (t := 154) B rfl fl_X12_136 rfl rfl (by decide) rfl ?_
                                               refine J.iload (pc' := 88) rfl rfl rfl ?_
                                               refine J.mald (pc' := 89) B rfl rfl rfl (by omega) (by simp only [jLn]; omega) rfl ?_
                                               refine J.goto (tgt := 99) rfl rfl ?_
                                               refine J.iret rfl rfl (by first | omega | (exact R.r _ _) | (simp only [jM.len_sI, jM.len_sL, jM.len_sR, jM.len_fI, jM.len_fL, jM.len_fR]; omega) | (simp [jM.len_nw, jM.len_sI, jM.len_sL, jM.len_sR, jM.len_fI, jM.len_fL, jM.len_fR, *]; omega)) (by first | omega | (exact R.r _ _) | (simp only [jM.len_sI, jM.len_sL, jM.len_sR, jM.len_fI, jM.len_fL, jM.len_fR]; omega) | (simp [jM.len_nw, jM.len_sI, jM.len_sL, jM.len_sR, jM.len_fI, jM.len_fL, jM.len_fR, *]; omega)) ?_
                                               exact mQ.of (by unfold sp_portion porV; (repeat (first | rw [if_pos (by omega)] | rw [if_neg (by omega)]))))))
                                · first
                                  | (exfalso; omega)
                                  | (refine J.iconst (pc' := 64) rfl rfl ?_
                                     refine J.iret rfl rfl (by first | omega | (exact R.r _ _) | (simp only [jM.len_sI, jM.len_sL, jM.len_sR, jM.len_fI, jM.len_fL, jM.len_fR]; omega) | (simp [jM.len_nw, jM.len_sI, jM.len_sL, jM.len_sR, jM.len_fI, jM.len_fL, jM.len_fR, *]; omega)) (by first | omega | (exact R.r _ _) | (simp only [jM.len_sI, jM.len_sL, jM.len_sR, jM.len_fI, jM.len_fL, jM.len_fR]; omega) | (simp [jM.len_nw, jM.len_sI, jM.len_sL, jM.len_sR, jM.len_fI, jM.len_fL, jM.len_fR, *]; omega)) ?_
                                     exact mQ.of (by unfold sp_portion porV; (repeat (first | rw [if_pos (by omega)] | rw [if_neg (by omega)])))))
                           · first
                             | (exfalso; omega)
                             | (refine J.iload_n (pc' := 46) rfl rfl rfl ?_
                                refine J.bipush (pc' := 48) rfl rfl (by decide) ?_
                                refine J.icmp_ge (tgt := 55) (pc' := 51) rfl rfl rfl (by first | omega | (exact R.r _ _) | (simp only [jM.len_sI, jM.len_sL, jM.len_sR, jM.len_fI, jM.len_fL, jM.len_fR]; omega) | (simp [jM.len_nw, jM.len_sI, jM.len_sL, jM.len_sR, jM.len_fI, jM.len_fL, jM.len_fR, *]; omega)) (by first | omega | (exact R.r _ _) | (simp only [jM.len_sI, jM.len_sL, jM.len_sR, jM.len_fI, jM.len_fL, jM.len_fR]; omega) | (simp [jM.len_nw, jM.len_sI, jM.len_sL, jM.len_sR, jM.len_fI, jM.len_fL, jM.len_fR, *]; omega)) (fun c48 => ?_) (fun c48 => ?_)
                                · first
                                  | (exfalso; omega)
                                  | (refine J.iconst (pc' := 56) rfl rfl ?_
                                     refine J.iconst (pc' := 57) rfl rfl ?_
                                     first | refine J.callV (pc' := 60) (t := 16) rfl MX12_may ml_X12_161 iv_X12_may (by decide) ⟨_, rfl, rfl⟩ B.1 (cm_may1 B h0) rfl rfl (Nat.le_of_ble_eq_true rfl) (by first | omega | (exact R.r _ _) | (simp only [jM.len_sI, jM.len_sL, jM.len_sR, jM.len_fI, jM.len_fL, jM.len_fR]; omega) | (simp [jM.len_nw, jM.len_sI, jM.len_sL, jM.len_sR, jM.len_fI, jM.len_fL, jM.len_fR, *]; omega)) (by first | omega | (exact R.r _ _) | (simp only [jM.len_sI, jM.len_sL, jM.len_sR, jM.len_fI, jM.len_fL, jM.len_fR]; omega) | (simp [jM.len_nw, jM.len_sI, jM.len_sL, jM.len_sR, jM.len_fI, jM.len_fL, jM.len_fR, *]; omega)) (by first | omega | (exact R.r _ _) | (simp only [jM.len_sI, jM.len_sL, jM.len_sR, jM.len_fI, jM.len_fL, jM.len_fR]; omega) | (simp [jM.len_nw, jM.len_sI, jM.len_sL, jM.len_sR, jM.len_fI, jM.len_fL, jM.len_fR, *]; omega)) rfl rfl ?_ ?_ | refine J.callV (pc' := 60) (t := 16) rfl MX12_may ml_X12_161 iv_X12_may (by decide) ⟨_, rfl, rfl⟩ B.1 (cm_may0 B h0 (by omega)) rfl rfl (Nat.le_of_ble_eq_true rfl) (by first | omega | (exact R.r _ _) | (simp only [jM.len_sI, jM.len_sL, jM.len_sR, jM.len_fI, jM.len_fL, jM.len_fR]; omega) | (simp [jM.len_nw, jM.len_sI, jM.len_sL, jM.len_sR, jM.len_fI, jM.len_fL, jM.len_fR, *]; omega)) (by first | omega | (exact R.r _ _) | (simp only [jM.len_sI, jM.len_sL, jM.len_sR, jM.len_fI, jM.len_fL, jM.len_fR]; omega) | (simp [jM.len_nw, jM.len_sI, jM.len_sL, jM.len_sR, jM.len_fI, jM.len_fL, jM.len_fR, *]; omega)) (by first | omega | (exact R.r _ _) | (simp only [jM.len_sI, jM.len_sL, jM.len_sR, jM.len_fI, jM.len_fL, jM.len_fR]; omega) | (simp [jM.len_nw, jM.len_sI, jM.len_sL, jM.len_sR, jM.len_fI, jM.len_fL, jM.len_fR, *]; omega)) rfl rfl ?_ ?_
                                     · exact fun _ _ h => h
                                     rintro _ _ ⟨rfl, rfl⟩
                                     refine J.if_ne (tgt := 65) (pc' := 63) rfl rfl rfl (by first | omega | (exact R.r _ _) | (simp only [jM.len_sI, jM.len_sL, jM.len_sR, jM.len_fI, jM.len_fL, jM.len_fR]; omega) | (simp [jM.len_nw, jM.len_sI, jM.len_sL, jM.len_sR, jM.len_fI, jM.len_fL, jM.len_fR, *]; omega)) (fun c60 => ?_) (fun c60 => ?_)
                                     · first
                                       | (exfalso; omega)
                                       | (refine J.bipush (pc' := 67) rfl rfl (by decide) ?_
                                          refine J.iload_n (pc' := 68) rfl rfl rfl ?_
                                          refine J.imul (pc' := 69) rfl rfl ?_
                                          refine J.iload_n (pc' := 70) rfl rfl rfl ?_
                                          refine J.iadd (pc' := 71) rfl rfl ?_
                                          refine J.istore (pc' := 73) rfl rfl (by decide) ?_
                                          refine J.iload_n (pc' := 74) rfl rfl rfl ?_
                                          refine J.iconst (pc' := 75) rfl rfl ?_
                                          refine J.icmp_ge (tgt := 100) (pc' := 78) rfl rfl rfl (by first | omega | (exact R.r _ _) | (simp only [jM.len_sI, jM.len_sL, jM.len_sR, jM.len_fI, jM.len_fL, jM.len_fR]; omega) | (simp [jM.len_nw, jM.len_sI, jM.len_sL, jM.len_sR, jM.len_fI, jM.len_fL, jM.len_fR, *]; omega)) (by first | omega | (exact R.r _ _) | (simp only [jM.len_sI, jM.len_sL, jM.len_sR, jM.len_fI, jM.len_fL, jM.len_fR]; omega) | (simp [jM.len_nw, jM.len_sI, jM.len_sL, jM.len_sR, jM.len_fI, jM.len_fL, jM.len_fR, *]; omega)) (fun c75 => ?_) (fun c75 => ?_)
                                          · first
                                            | (exfalso; omega)
                                            | (refine J.iload_n (pc' := 101) rfl rfl rfl ?_
                                               refine J.iconst (pc' := 102) rfl rfl ?_
                                               refine J.irem (pc' := 103) rfl rfl (by first | omega | (exact R.r _ _) | (simp only [jM.len_sI, jM.len_sL, jM.len_sR, jM.len_fI, jM.len_fL, jM.len_fR]; omega) | (simp [jM.len_nw, jM.len_sI, jM.len_sL, jM.len_sR, jM.len_fI, jM.len_fL, jM.len_fR, *]; omega)) (by first | omega | (exact R.r _ _) | (simp only [jM.len_sI, jM.len_sL, jM.len_sR, jM.len_fI, jM.len_fL, jM.len_fR]; omega) | (simp [jM.len_nw, jM.len_sI, jM.len_sL, jM.len_sR, jM.len_fI, jM.len_fL, jM.len_fR, *]; omega)) (by first | omega | (exact R.r _ _) | (simp only [jM.len_sI, jM.len_sL, jM.len_sR, jM.len_fI, jM.len_fL, jM.len_fR]; omega) | (simp [jM.len_nw, jM.len_sI, jM.len_sL, jM.len_sR, jM.len_fI, jM.len_fL, jM.len_fR, *]; omega)) ?_
                                               rw [Int.tmod_eq_emod_of_nonneg (by omega)]
                                               refine J.if_ne (tgt := 124) (pc' := 106) rfl rfl rfl (by first | omega | (exact R.r _ _) | (simp only [jM.len_sI, jM.len_sL, jM.len_sR, jM.len_fI, jM.len_fL, jM.len_fR]; omega) | (simp [jM.len_nw, jM.len_sI, jM.len_sL, jM.len_sR, jM.len_fI, jM.len_fL, jM.len_fR, *]; omega)) (fun c103 => ?_) (fun c103 => ?_)
                                               · first
                                                 | (exfalso; omega)
                                                 | (first | refine J.aload_n (pc' := 125) rfl rfl rfl ?_ | refine J.aload_nN (pc' := 125) rfl rfl rfl ?_
                                                    refine J.mgR (pc' := 128) (t := 157) B rfl fl_X12_145 rfl rfl (by decide) rfl ?_
                                                    refine J.iconst (pc' := 129) rfl rfl ?_
                                                    refine J.iload (pc' := 131) rfl rfl rfl ?_
                                                    refine J.imul (pc' := 132) rfl rfl ?_
                                                    refine J.iload_n (pc' := 133) rfl rfl rfl ?_
                                                    refine J.iconst (pc' := 134) rfl rfl ?_
                                                    refine J.isub (pc' := 135) rfl rfl ?_
                                                    refine J.iconst (pc' := 136) rfl rfl ?_
                                                    refine J.idiv (pc' := 137) rfl rfl (by first | omega | (exact R.r _ _) | (simp only [jM.len_sI, jM.len_sL, jM.len_sR, jM.len_fI, jM.len_fL, jM.len_fR]; omega) | (simp [jM.len_nw, jM.len_sI, jM.len_sL, jM.len_sR, jM.len_fI, jM.len_fL, jM.len_fR, *]; omega)) (by first | omega | (exact R.r _ _) | (simp only [jM.len_sI, jM.len_sL, jM.len_sR, jM.len_fI, jM.len_fL, jM.len_fR]; omega) | (simp [jM.len_nw, jM.len_sI, jM.len_sL, jM.len_sR, jM.len_fI, jM.len_fL, jM.len_fR, *]; omega)) (by first | omega | (exact R.r _ _) | (simp only [jM.len_sI, jM.len_sL, jM.len_sR, jM.len_fI, jM.len_fL, jM.len_fR]; omega) | (simp [jM.len_nw, jM.len_sI, jM.len_sL, jM.len_sR, jM.len_fI, jM.len_fL, jM.len_fR, *]; omega)) ?_
                                                    rw [Int.tdiv_eq_ediv_of_nonneg (by omega)]
                                                    refine J.iadd (pc' := 138) rfl rfl ?_
                                                    refine J.mald (pc' := 139) B rfl rfl rfl (by omega) (by simp only [jLn]; omega) rfl ?_
                                                    refine J.iret rfl rfl (by first | omega | (exact R.r _ _) | (simp only [jM.len_sI, jM.len_sL, jM.len_sR, jM.len_fI, jM.len_fL, jM.len_fR]; omega) | (simp [jM.len_nw, jM.len_sI, jM.len_sL, jM.len_sR, jM.len_fI, jM.len_fL, jM.len_fR, *]; omega)) (by first | omega | (exact R.r _ _) | (simp only [jM.len_sI, jM.len_sL, jM.len_sR, jM.len_fI, jM.len_fL, jM.len_fR]; omega) | (simp [jM.len_nw, jM.len_sI, jM.len_sL, jM.len_sR, jM.len_fI, jM.len_fL, jM.len_fR, *]; omega)) ?_
                                                    exact mQ.of (by unfold sp_portion porV; (repeat (first | rw [if_pos (by omega)] | rw [if_neg (by omega)]))))
                                               · first
                                                 | (exfalso; omega)
                                                 | (first | refine J.aload_n (pc' := 107) rfl rfl rfl ?_ | refine J.aload_nN (pc' := 107) rfl rfl rfl ?_
                                                    refine J.mgR (pc' := 110) (t := 156) B rfl fl_X12_142 rfl rfl (by decide) rfl ?_
                                                    refine J.iconst (pc' := 111) rfl rfl ?_
                                                    refine J.iload (pc' := 113) rfl rfl rfl ?_
                                                    refine J.imul (pc' := 114) rfl rfl ?_
                                                    refine J.iload_n (pc' := 115) rfl rfl rfl ?_
                                                    refine J.iconst (pc' := 116) rfl rfl ?_
                                                    refine J.isub (pc' := 117) rfl rfl ?_
                                                    refine J.iconst (pc' := 118) rfl rfl ?_
                                                    refine J.idiv (pc' := 119) rfl rfl (by first | omega | (exact R.r _ _) | (simp only [jM.len_sI, jM.len_sL, jM.len_sR, jM.len_fI, jM.len_fL, jM.len_fR]; omega) | (simp [jM.len_nw, jM.len_sI, jM.len_sL, jM.len_sR, jM.len_fI, jM.len_fL, jM.len_fR, *]; omega)) (by first | omega | (exact R.r _ _) | (simp only [jM.len_sI, jM.len_sL, jM.len_sR, jM.len_fI, jM.len_fL, jM.len_fR]; omega) | (simp [jM.len_nw, jM.len_sI, jM.len_sL, jM.len_sR, jM.len_fI, jM.len_fL, jM.len_fR, *]; omega)) (by first | omega | (exact R.r _ _) | (simp only [jM.len_sI, jM.len_sL, jM.len_sR, jM.len_fI, jM.len_fL, jM.len_fR]; omega) | (simp [jM.len_nw, jM.len_sI, jM.len_sL, jM.len_sR, jM.len_fI, jM.len_fL, jM.len_fR, *]; omega)) ?_
                                                    rw [Int.tdiv_eq_ediv_of_nonneg (by omega)]
                                                    refine J.iadd (pc' := 120) rfl rfl ?_
                                                    refine J.mald (pc' := 121) B rfl rfl rfl (by omega) (by simp only [jLn]; omega) rfl ?_
                                                    refine J.goto (tgt := 139) rfl rfl ?_
                                                    refine J.iret rfl rfl (by first | omega | (exact R.r _ _) | (simp only [jM.len_sI, jM.len_sL, jM.len_sR, jM.len_fI, jM.len_fL, jM.len_fR]; omega) | (simp [jM.len_nw, jM.len_sI, jM.len_sL, jM.len_sR, jM.len_fI, jM.len_fL, jM.len_fR, *]; omega)) (by first | omega | (exact R.r _ _) | (simp only [jM.len_sI, jM.len_sL, jM.len_sR, jM.len_fI, jM.len_fL, jM.len_fR]; omega) | (simp [jM.len_nw, jM.len_sI, jM.len_sL, jM.len_sR, jM.len_fI, jM.len_fL, jM.len_fR, *]; omega)) ?_
                                                    exact mQ.of (by unfold sp_portion porV; (repeat (first | rw [if_pos (by omega)] | rw [if_neg (by omega)])))))
                                          · first
                                            | (exfalso; omega)
                                            | (refine J.iload_n (pc' := 79) rfl rfl rfl ?_
                                               refine J.if_ne (tgt := 92) (pc' := 82) rfl rfl rfl (by first | omega | (exact R.r _ _) | (simp only [jM.len_sI, jM.len_sL, jM.len_sR, jM.len_fI, jM.len_fL, jM.len_fR]; omega) | (simp [jM.len_nw, jM.len_sI, jM.len_sL, jM.len_sR, jM.len_fI, jM.len_fL, jM.len_fR, *]; omega)) (fun c79 => ?_) (fun c79 => ?_)
                                               · first
                                                 | (exfalso; omega)
                                                 | (first | refine J.aload_n (pc' := 93) rfl rfl rfl ?_ | refine J.aload_nN (pc' := 93) rfl rfl rfl ?_
                                                    refine J.mgR (pc' := 96) (t := 155) B rfl fl_X12_139 rfl rfl (by decide) rfl ?_
                                                    refine J.iload (pc' := 98) rfl rfl rfl ?_
                                                    refine J.mald (pc' := 99) B rfl rfl rfl (by omega) (by simp only [jLn]; omega) rfl ?_
                                                    refine J.iret rfl rfl (by first | omega | (exact R.r _ _) | (simp only [jM.len_sI, jM.len_sL, jM.len_sR, jM.len_fI, jM.len_fL, jM.len_fR]; omega) | (simp [jM.len_nw, jM.len_sI, jM.len_sL, jM.len_sR, jM.len_fI, jM.len_fL, jM.len_fR, *]; omega)) (by first | omega | (exact R.r _ _) | (simp only [jM.len_sI, jM.len_sL, jM.len_sR, jM.len_fI, jM.len_fL, jM.len_fR]; omega) | (simp [jM.len_nw, jM.len_sI, jM.len_sL, jM.len_sR, jM.len_fI, jM.len_fL, jM.len_fR, *]; omega)) ?_
                                                    exact mQ.of (by unfold sp_portion porV; (repeat (first | rw [if_pos (by omega)] | rw [if_neg (by omega)]))))
                                               · first
                                                 | (exfalso; omega)
                                                 | (first | refine J.aload_n (pc' := 83) rfl rfl rfl ?_ | refine J.aload_nN (pc' := 83) rfl rfl rfl ?_
                                                    refine J.mgR (pc' := 86) (t := 154) B rfl fl_X12_136 rfl rfl (by decide) rfl ?_
                                                    refine J.iload (pc' := 88) rfl rfl rfl ?_
                                                    refine J.mald (pc' := 89) B rfl rfl rfl (by omega) (by simp only [jLn]; omega) rfl ?_
                                                    refine J.goto (tgt := 99) rfl rfl ?_
                                                    refine J.iret rfl rfl (by first | omega | (exact R.r _ _) | (simp only [jM.len_sI, jM.len_sL, jM.len_sR, jM.len_fI, jM.len_fL, jM.len_fR]; omega) | (simp [jM.len_nw, jM.len_sI, jM.len_sL, jM.len_sR, jM.len_fI, jM.len_fL, jM.len_fR, *]; omega)) (by first | omega | (exact R.r _ _) | (simp only [jM.len_sI, jM.len_sL, jM.len_sR, jM.len_fI, jM.len_fL, jM.len_fR]; omega) | (simp [jM.len_nw, jM.len_sI, jM.len_sL, jM.len_sR, jM.len_fI, jM.len_fL, jM.len_fR, *]; omega)) ?_
                                                    exact mQ.of (by unfold sp_portion porV; (repeat (first | rw [if_pos (by omega)] | rw [if_neg (by omega)]))))))
                                     · first
                                       | (exfalso; omega)
                                       | (refine J.iconst (pc' := 64) rfl rfl ?_
                                          refine J.iret rfl rfl (by first | omega | (exact R.r _ _) | (simp only [jM.len_sI, jM.len_sL, jM.len_sR, jM.len_fI, jM.len_fL, jM.len_fR]; omega) | (simp [jM.len_nw, jM.len_sI, jM.len_sL, jM.len_sR, jM.len_fI, jM.len_fL, jM.len_fR, *]; omega)) (by first | omega | (exact R.r _ _) | (simp only [jM.len_sI, jM.len_sL, jM.len_sR, jM.len_fI, jM.len_fL, jM.len_fR]; omega) | (simp [jM.len_nw, jM.len_sI, jM.len_sL, jM.len_sR, jM.len_fI, jM.len_fL, jM.len_fR, *]; omega)) ?_
                                          exact mQ.of (by unfold sp_portion porV; (repeat (first | rw [if_pos (by omega)] | rw [if_neg (by omega)])))))
                                · first
                                  | (exfalso; omega)
                                  | (refine J.iconst (pc' := 52) rfl rfl ?_
                                     refine J.goto (tgt := 56) rfl rfl ?_
                                     refine J.iconst (pc' := 57) rfl rfl ?_
                                     first | refine J.callV (pc' := 60) (t := 16) rfl MX12_may ml_X12_161 iv_X12_may (by decide) ⟨_, rfl, rfl⟩ B.1 (cm_may1 B h0) rfl rfl (Nat.le_of_ble_eq_true rfl) (by first | omega | (exact R.r _ _) | (simp only [jM.len_sI, jM.len_sL, jM.len_sR, jM.len_fI, jM.len_fL, jM.len_fR]; omega) | (simp [jM.len_nw, jM.len_sI, jM.len_sL, jM.len_sR, jM.len_fI, jM.len_fL, jM.len_fR, *]; omega)) (by first | omega | (exact R.r _ _) | (simp only [jM.len_sI, jM.len_sL, jM.len_sR, jM.len_fI, jM.len_fL, jM.len_fR]; omega) | (simp [jM.len_nw, jM.len_sI, jM.len_sL, jM.len_sR, jM.len_fI, jM.len_fL, jM.len_fR, *]; omega)) (by first | omega | (exact R.r _ _) | (simp only [jM.len_sI, jM.len_sL, jM.len_sR, jM.len_fI, jM.len_fL, jM.len_fR]; omega) | (simp [jM.len_nw, jM.len_sI, jM.len_sL, jM.len_sR, jM.len_fI, jM.len_fL, jM.len_fR, *]; omega)) rfl rfl ?_ ?_ | refine J.callV (pc' := 60) (t := 16) rfl MX12_may ml_X12_161 iv_X12_may (by decide) ⟨_, rfl, rfl⟩ B.1 (cm_may0 B h0 (by omega)) rfl rfl (Nat.le_of_ble_eq_true rfl) (by first | omega | (exact R.r _ _) | (simp only [jM.len_sI, jM.len_sL, jM.len_sR, jM.len_fI, jM.len_fL, jM.len_fR]; omega) | (simp [jM.len_nw, jM.len_sI, jM.len_sL, jM.len_sR, jM.len_fI, jM.len_fL, jM.len_fR, *]; omega)) (by first | omega | (exact R.r _ _) | (simp only [jM.len_sI, jM.len_sL, jM.len_sR, jM.len_fI, jM.len_fL, jM.len_fR]; omega) | (simp [jM.len_nw, jM.len_sI, jM.len_sL, jM.len_sR, jM.len_fI, jM.len_fL, jM.len_fR, *]; omega)) (by first | omega | (exact R.r _ _) | (simp only [jM.len_sI, jM.len_sL, jM.len_sR, jM.len_fI, jM.len_fL, jM.len_fR]; omega) | (simp [jM.len_nw, jM.len_sI, jM.len_sL, jM.len_sR, jM.len_fI, jM.len_fL, jM.len_fR, *]; omega)) rfl rfl ?_ ?_
                                     · exact fun _ _ h => h
                                     rintro _ _ ⟨rfl, rfl⟩
                                     refine J.if_ne (tgt := 65) (pc' := 63) rfl rfl rfl (by first | omega | (exact R.r _ _) | (simp only [jM.len_sI, jM.len_sL, jM.len_sR, jM.len_fI, jM.len_fL, jM.len_fR]; omega) | (simp [jM.len_nw, jM.len_sI, jM.len_sL, jM.len_sR, jM.len_fI, jM.len_fL, jM.len_fR, *]; omega)) (fun c60 => ?_) (fun c60 => ?_)
                                     · first
                                       | (exfalso; omega)
                                       | (refine J.bipush (pc' := 67) rfl rfl (by decide) ?_
                                          refine J.iload_n (pc' := 68) rfl rfl rfl ?_
                                          refine J.imul (pc' := 69) rfl rfl ?_
                                          refine J.iload_n (pc' := 70) rfl rfl rfl ?_
                                          refine J.iadd (pc' := 71) rfl rfl ?_
                                          refine J.istore (pc' := 73) rfl rfl (by decide) ?_
                                          refine J.iload_n (pc' := 74) rfl rfl rfl ?_
                                          refine J.iconst (pc' := 75) rfl rfl ?_
                                          refine J.icmp_ge (tgt := 100) (pc' := 78) rfl rfl rfl (by first | omega | (exact R.r _ _) | (simp only [jM.len_sI, jM.len_sL, jM.len_sR, jM.len_fI, jM.len_fL, jM.len_fR]; omega) | (simp [jM.len_nw, jM.len_sI, jM.len_sL, jM.len_sR, jM.len_fI, jM.len_fL, jM.len_fR, *]; omega)) (by first | omega | (exact R.r _ _) | (simp only [jM.len_sI, jM.len_sL, jM.len_sR, jM.len_fI, jM.len_fL, jM.len_fR]; omega) | (simp [jM.len_nw, jM.len_sI, jM.len_sL, jM.len_sR, jM.len_fI, jM.len_fL, jM.len_fR, *]; omega)) (fun c75 => ?_) (fun c75 => ?_)
                                          · first
                                            | (exfalso; omega)
                                            | (refine J.iload_n (pc' := 101) rfl rfl rfl ?_
                                               refine J.iconst (pc' := 102) rfl rfl ?_
                                               refine J.irem (pc' := 103) rfl rfl (by first | omega | (exact R.r _ _) | (simp only [jM.len_sI, jM.len_sL, jM.len_sR, jM.len_fI, jM.len_fL, jM.len_fR]; omega) | (simp [jM.len_nw, jM.len_sI, jM.len_sL, jM.len_sR, jM.len_fI, jM.len_fL, jM.len_fR, *]; omega)) (by first | omega | (exact R.r _ _) | (simp only [jM.len_sI, jM.len_sL, jM.len_sR, jM.len_fI, jM.len_fL, jM.len_fR]; omega) | (simp [jM.len_nw, jM.len_sI, jM.len_sL, jM.len_sR, jM.len_fI, jM.len_fL, jM.len_fR, *]; omega)) (by first | omega | (exact R.r _ _) | (simp only [jM.len_sI, jM.len_sL, jM.len_sR, jM.len_fI, jM.len_fL, jM.len_fR]; omega) | (simp [jM.len_nw, jM.len_sI, jM.len_sL, jM.len_sR, jM.len_fI, jM.len_fL, jM.len_fR, *]; omega)) ?_
                                               rw [Int.tmod_eq_emod_of_nonneg (by omega)]
                                               refine J.if_ne (tgt := 124) (pc' := 106) rfl rfl rfl (by first | omega | (exact R.r _ _) | (simp only [jM.len_sI, jM.len_sL, jM.len_sR, jM.len_fI, jM.len_fL, jM.len_fR]; omega) | (simp [jM.len_nw, jM.len_sI, jM.len_sL, jM.len_sR, jM.len_fI, jM.len_fL, jM.len_fR, *]; omega)) (fun c103 => ?_) (fun c103 => ?_)
                                               · first
                                                 | (exfalso; omega)
                                                 | (first | refine J.aload_n (pc' := 125) rfl rfl rfl ?_ | refine J.aload_nN (pc' := 125) rfl rfl rfl ?_
                                                    refine J.mgR (pc' := 128) (t := 157) B rfl fl_X12_145 rfl rfl (by decide) rfl ?_
                                                    refine J.iconst (pc' := 129) rfl rfl ?_
                                                    refine J.iload (pc' := 131) rfl rfl rfl ?_
                                                    refine J.imul (pc' := 132) rfl rfl ?_
                                                    refine J.iload_n (pc' := 133) rfl rfl rfl ?_
                                                    refine J.iconst (pc' := 134) rfl rfl ?_
                                                    refine J.isub (pc' := 135) rfl rfl ?_
                                                    refine J.iconst (pc' := 136) rfl rfl ?_
                                                    refine J.idiv (pc' := 137) rfl rfl (by first | omega | (exact R.r _ _) | (simp only [jM.len_sI, jM.len_sL, jM.len_sR, jM.len_fI, jM.len_fL, jM.len_fR]; omega) | (simp [jM.len_nw, jM.len_sI, jM.len_sL, jM.len_sR, jM.len_fI, jM.len_fL, jM.len_fR, *]; omega)) (by first | omega | (exact R.r _ _) | (simp only [jM.len_sI, jM.len_sL, jM.len_sR, jM.len_fI, jM.len_fL, jM.len_fR]; omega) | (simp [jM.len_nw, jM.len_sI, jM.len_sL, jM.len_sR, jM.len_fI, jM.len_fL, jM.len_fR, *]; omega)) (by first | omega | (exact R.r _ _) | (simp only [jM.len_sI, jM.len_sL, jM.len_sR, jM.len_fI, jM.len_fL, jM.len_fR]; omega) | (simp [jM.len_nw, jM.len_sI, jM.len_sL, jM.len_sR, jM.len_fI, jM.len_fL, jM.len_fR, *]; omega)) ?_
                                                    rw [Int.tdiv_eq_ediv_of_nonneg (by omega)]
                                                    refine J.iadd (pc' := 138) rfl rfl ?_
                                                    refine J.mald (pc' := 139) B rfl rfl rfl (by omega) (by simp only [jLn]; omega) rfl ?_
                                                    refine J.iret rfl rfl (by first | omega | (exact R.r _ _) | (simp only [jM.len_sI, jM.len_sL, jM.len_sR, jM.len_fI, jM.len_fL, jM.len_fR]; omega) | (simp [jM.len_nw, jM.len_sI, jM.len_sL, jM.len_sR, jM.len_fI, jM.len_fL, jM.len_fR, *]; omega)) (by first | omega | (exact R.r _ _) | (simp only [jM.len_sI, jM.len_sL, jM.len_sR, jM.len_fI, jM.len_fL, jM.len_fR]; omega) | (simp [jM.len_nw, jM.len_sI, jM.len_sL, jM.len_sR, jM.len_fI, jM.len_fL, jM.len_fR, *]; omega)) ?_
                                                    exact mQ.of (by unfold sp_portion porV; (repeat (first | rw [if_pos (by omega)] | rw [if_neg (by omega)]))))
                                               · first
                                                 | (exfalso; omega)
                                                 | (first | refine J.aload_n (pc' := 107) rfl rfl rfl ?_ | refine J.aload_nN (pc' := 107) rfl rfl rfl ?_
                                                    refine J.mgR (pc' := 110) (t := 156) B rfl fl_X12_142 rfl rfl (by decide) rfl ?_
                                                    refine J.iconst (pc' := 111) rfl rfl ?_
                                                    refine J.iload (pc' := 113) rfl rfl rfl ?_
                                                    refine J.imul (pc' := 114) rfl rfl ?_
                                                    refine J.iload_n (pc' := 115) rfl rfl rfl ?_
                                                    refine J.iconst (pc' := 116) rfl rfl ?_
                                                    refine J.isub (pc' := 117) rfl rfl ?_
                                                    refine J.iconst (pc' := 118) rfl rfl ?_
                                                    refine J.idiv (pc' := 119) rfl rfl (by first | omega | (exact R.r _ _) | (simp only [jM.len_sI, jM.len_sL, jM.len_sR, jM.len_fI, jM.len_fL, jM.len_fR]; omega) | (simp [jM.len_nw, jM.len_sI, jM.len_sL, jM.len_sR, jM.len_fI, jM.len_fL, jM.len_fR, *]; omega)) (by first | omega | (exact R.r _ _) | (simp only [jM.len_sI, jM.len_sL, jM.len_sR, jM.len_fI, jM.len_fL, jM.len_fR]; omega) | (simp [jM.len_nw, jM.len_sI, jM.len_sL, jM.len_sR, jM.len_fI, jM.len_fL, jM.len_fR, *]; omega)) (by first | omega | (exact R.r _ _) | (simp only [jM.len_sI, jM.len_sL, jM.len_sR, jM.len_fI, jM.len_fL, jM.len_fR]; omega) | (simp [jM.len_nw, jM.len_sI, jM.len_sL, jM.len_sR, jM.len_fI, jM.len_fL, jM.len_fR, *]; omega)) ?_
                                                    rw [Int.tdiv_eq_ediv_of_nonneg (by omega)]
                                                    refine J.iadd (pc' := 120) rfl rfl ?_
                                                    refine J.mald (pc' := 121) B rfl rfl rfl (by omega) (by simp only [jLn]; omega) rfl ?_
                                                    refine J.goto (tgt := 139) rfl rfl ?_
                                                    refine J.iret rfl rfl (by first | omega | (exact R.r _ _) | (simp only [jM.len_sI, jM.len_sL, jM.len_sR, jM.len_fI, jM.len_fL, jM.len_fR]; omega) | (simp [jM.len_nw, jM.len_sI, jM.len_sL, jM.len_sR, jM.len_fI, jM.len_fL, jM.len_fR, *]; omega)) (by first | omega | (exact R.r _ _) | (simp only [jM.len_sI, jM.len_sL, jM.len_sR, jM.len_fI, jM.len_fL, jM.len_fR]; omega) | (simp [jM.len_nw, jM.len_sI, jM.len_sL, jM.len_sR, jM.len_fI, jM.len_fL, jM.len_fR, *]; omega)) ?_
                                                    exact mQ.of (by unfold sp_portion porV; (repeat (first | rw [if_pos (by omega)] | rw [if_neg (by omega)])))))
                                          · first
                                            | (exfalso; omega)
                                            | (refine J.iload_n (pc' := 79) rfl rfl rfl ?_
                                               refine J.if_ne (tgt := 92) (pc' := 82) rfl rfl rfl (by first | omega | (exact R.r _ _) | (simp only [jM.len_sI, jM.len_sL, jM.len_sR, jM.len_fI, jM.len_fL, jM.len_fR]; omega) | (simp [jM.len_nw, jM.len_sI, jM.len_sL, jM.len_sR, jM.len_fI, jM.len_fL, jM.len_fR, *]; omega)) (fun c79 => ?_) (fun c79 => ?_)
                                               · first
                                                 | (exfalso; omega)
                                                 | (first | refine J.aload_n (pc' := 93) rfl rfl rfl ?_ | refine J.aload_nN (pc' := 93) rfl rfl rfl ?_
                                                    refine J.mgR (pc' := 96) (t := 155) B rfl fl_X12_139 rfl rfl (by decide) rfl ?_
                                                    refine J.iload (pc' := 98) rfl rfl rfl ?_
                                                    refine J.mald (pc' := 99) B rfl rfl rfl (by omega) (by simp only [jLn]; omega) rfl ?_
                                                    refine J.iret rfl rfl (by first | omega | (exact R.r _ _) | (simp only [jM.len_sI, jM.len_sL, jM.len_sR, jM.len_fI, jM.len_fL, jM.len_fR]; omega) | (simp [jM.len_nw, jM.len_sI, jM.len_sL, jM.len_sR, jM.len_fI, jM.len_fL, jM.len_fR, *]; omega)) (by first | omega | (exact R.r _ _) | (simp only [jM.len_sI, jM.len_sL, jM.len_sR, jM.len_fI, jM.len_fL, jM.len_fR]; omega) | (simp [jM.len_nw, jM.len_sI, jM.len_sL, jM.len_sR, jM.len_fI, jM.len_fL, jM.len_fR, *]; omega)) ?_
                                                    exact mQ.of (by unfold sp_portion porV; (repeat (first | rw [if_pos (by omega)] | rw [if_neg (by omega)]))))
                                               · first
                                                 | (exfalso; omega)
                                                 | (first | refine J.aload_n (pc' := 83) rfl rfl rfl ?_ | refine J.aload_nN (pc' := 83) rfl rfl rfl ?_
                                                    refine J.mgR (pc' := 86) (t := 154) B rfl fl_X12_136 rfl rfl (by decide) rfl ?_
                                                    refine J.iload (pc' := 88) rfl rfl rfl ?_
                                                    refine J.mald (pc' := 89) B rfl rfl rfl (by omega) (by simp only [jLn]; omega) rfl ?_
                                                    refine J.goto (tgt := 99) rfl rfl ?_
                                                    refine J.iret rfl rfl (by first | omega | (exact R.r _ _) | (simp only [jM.len_sI, jM.len_sL, jM.len_sR, jM.len_fI, jM.len_fL, jM.len_fR]; omega) | (simp [jM.len_nw, jM.len_sI, jM.len_sL, jM.len_sR, jM.len_fI, jM.len_fL, jM.len_fR, *]; omega)) (by first | omega | (exact R.r _ _) | (simp only [jM.len_sI, jM.len_sL, jM.len_sR, jM.len_fI, jM.len_fL, jM.len_fR]; omega) | (simp [jM.len_nw, jM.len_sI, jM.len_sL, jM.len_sR, jM.len_fI, jM.len_fL, jM.len_fR, *]; omega)) ?_
                                                    exact mQ.of (by unfold sp_portion porV; (repeat (first | rw [if_pos (by omega)] | rw [if_neg (by omega)]))))))
                                     · first
                                       | (exfalso; omega)
                                       | (refine J.iconst (pc' := 64) rfl rfl ?_
                                          refine J.iret rfl rfl (by first | omega | (exact R.r _ _) | (simp only [jM.len_sI, jM.len_sL, jM.len_sR, jM.len_fI, jM.len_fL, jM.len_fR]; omega) | (simp [jM.len_nw, jM.len_sI, jM.len_sL, jM.len_sR, jM.len_fI, jM.len_fL, jM.len_fR, *]; omega)) (by first | omega | (exact R.r _ _) | (simp only [jM.len_sI, jM.len_sL, jM.len_sR, jM.len_fI, jM.len_fL, jM.len_fR]; omega) | (simp [jM.len_nw, jM.len_sI, jM.len_sL, jM.len_sR, jM.len_fI, jM.len_fL, jM.len_fR, *]; omega)) ?_
                                          exact mQ.of (by unfold sp_portion porV; (repeat (first | rw [if_pos (by omega)] | rw [if_neg (by omega)]))))))))
                 · first
                   | (exfalso; omega)
                   | (refine J.iconst (pc' := 29) rfl rfl ?_
                      refine J.goto (tgt := 33) rfl rfl ?_
                      refine J.iconst (pc' := 34) rfl rfl ?_
                      first | refine J.callV (pc' := 37) (t := 16) rfl MX12_may ml_X12_161 iv_X12_may (by decide) ⟨_, rfl, rfl⟩ B.1 (cm_may1 B h0) rfl rfl (Nat.le_of_ble_eq_true rfl) (by first | omega | (exact R.r _ _) | (simp only [jM.len_sI, jM.len_sL, jM.len_sR, jM.len_fI, jM.len_fL, jM.len_fR]; omega) | (simp [jM.len_nw, jM.len_sI, jM.len_sL, jM.len_sR, jM.len_fI, jM.len_fL, jM.len_fR, *]; omega)) (by first | omega | (exact R.r _ _) | (simp only [jM.len_sI, jM.len_sL, jM.len_sR, jM.len_fI, jM.len_fL, jM.len_fR]; omega) | (simp [jM.len_nw, jM.len_sI, jM.len_sL, jM.len_sR, jM.len_fI, jM.len_fL, jM.len_fR, *]; omega)) (by first | omega | (exact R.r _ _) | (simp only [jM.len_sI, jM.len_sL, jM.len_sR, jM.len_fI, jM.len_fL, jM.len_fR]; omega) | (simp [jM.len_nw, jM.len_sI, jM.len_sL, jM.len_sR, jM.len_fI, jM.len_fL, jM.len_fR, *]; omega)) rfl rfl ?_ ?_ | refine J.callV (pc' := 37) (t := 16) rfl MX12_may ml_X12_161 iv_X12_may (by decide) ⟨_, rfl, rfl⟩ B.1 (cm_may0 B h0 (by omega)) rfl rfl (Nat.le_of_ble_eq_true rfl) (by first | omega | (exact R.r _ _) | (simp only [jM.len_sI, jM.len_sL, jM.len_sR, jM.len_fI, jM.len_fL, jM.len_fR]; omega) | (simp [jM.len_nw, jM.len_sI, jM.len_sL, jM.len_sR, jM.len_fI, jM.len_fL, jM.len_fR, *]; omega)) (by first | omega | (exact R.r _ _) | (simp only [jM.len_sI, jM.len_sL, jM.len_sR, jM.len_fI, jM.len_fL, jM.len_fR]; omega) | (simp [jM.len_nw, jM.len_sI, jM.len_sL, jM.len_sR, jM.len_fI, jM.len_fL, jM.len_fR, *]; omega)) (by first | omega | (exact R.r _ _) | (simp only [jM.len_sI, jM.len_sL, jM.len_sR, jM.len_fI, jM.len_fL, jM.len_fR]; omega) | (simp [jM.len_nw, jM.len_sI, jM.len_sL, jM.len_sR, jM.len_fI, jM.len_fL, jM.len_fR, *]; omega)) rfl rfl ?_ ?_
                      · exact fun _ _ h => h
                      rintro _ _ ⟨rfl, rfl⟩
                      refine J.if_eq (tgt := 63) (pc' := 40) rfl rfl rfl (by first | omega | (exact R.r _ _) | (simp only [jM.len_sI, jM.len_sL, jM.len_sR, jM.len_fI, jM.len_fL, jM.len_fR]; omega) | (simp [jM.len_nw, jM.len_sI, jM.len_sL, jM.len_sR, jM.len_fI, jM.len_fL, jM.len_fR, *]; omega)) (fun c37 => ?_) (fun c37 => ?_)
                      · first
                        | (exfalso; omega)
                        | (refine J.iconst (pc' := 64) rfl rfl ?_
                           refine J.iret rfl rfl (by first | omega | (exact R.r _ _) | (simp only [jM.len_sI, jM.len_sL, jM.len_sR, jM.len_fI, jM.len_fL, jM.len_fR]; omega) | (simp [jM.len_nw, jM.len_sI, jM.len_sL, jM.len_sR, jM.len_fI, jM.len_fL, jM.len_fR, *]; omega)) (by first | omega | (exact R.r _ _) | (simp only [jM.len_sI, jM.len_sL, jM.len_sR, jM.len_fI, jM.len_fL, jM.len_fR]; omega) | (simp [jM.len_nw, jM.len_sI, jM.len_sL, jM.len_sR, jM.len_fI, jM.len_fL, jM.len_fR, *]; omega)) ?_
                           exact mQ.of (by unfold sp_portion porV; (repeat (first | rw [if_pos (by omega)] | rw [if_neg (by omega)]))))
                      · first
                        | (exfalso; omega)
                        | (first | refine J.aload_n (pc' := 41) rfl rfl rfl ?_ | refine J.aload_nN (pc' := 41) rfl rfl rfl ?_
                           refine J.iload_n (pc' := 42) rfl rfl rfl ?_
                           refine J.if_lt (tgt := 55) (pc' := 45) rfl rfl rfl (by first | omega | (exact R.r _ _) | (simp only [jM.len_sI, jM.len_sL, jM.len_sR, jM.len_fI, jM.len_fL, jM.len_fR]; omega) | (simp [jM.len_nw, jM.len_sI, jM.len_sL, jM.len_sR, jM.len_fI, jM.len_fL, jM.len_fR, *]; omega)) (fun c42 => ?_) (fun c42 => ?_)
                           · first
                             | (exfalso; omega)
                             | (refine J.iconst (pc' := 56) rfl rfl ?_
                                refine J.iconst (pc' := 57) rfl rfl ?_
                                first | refine J.callV (pc' := 60) (t := 16) rfl MX12_may ml_X12_161 iv_X12_may (by decide) ⟨_, rfl, rfl⟩ B.1 (cm_may1 B h0) rfl rfl (Nat.le_of_ble_eq_true rfl) (by first | omega | (exact R.r _ _) | (simp only [jM.len_sI, jM.len_sL, jM.len_sR, jM.len_fI, jM.len_fL, jM.len_fR]; omega) | (simp [jM.len_nw, jM.len_sI, jM.len_sL, jM.len_sR, jM.len_fI, jM.len_fL, jM.len_fR, *]; omega)) (by first | omega | (exact R.r _ _) | (simp only [jM.len_sI, jM.len_sL, jM.len_sR, jM.len_fI, jM.len_fL, jM.len_fR]; omega) | (simp [jM.len_nw, jM.len_sI, jM.len_sL, jM.len_sR, jM.len_fI, jM.len_fL, jM.len_fR, *]; omega)) (by first | omega | (exact R.r _ _) | (simp only [jM.len_sI, jM.len_sL, jM.len_sR, jM.len_fI, jM.len_fL, jM.len_fR]; omega) | (simp [jM.len_nw, jM.len_sI, jM.len_sL, jM.len_sR, jM.len_fI, jM.len_fL, jM.len_fR, *]; omega)) rfl rfl ?_ ?_ | refine J.callV (pc' := 60) (t := 16) rfl MX12_may ml_X12_161 iv_X12_may (by decide) ⟨_, rfl, rfl⟩ B.1 (cm_may0 B h0 (by omega)) rfl rfl (Nat.le_of_ble_eq_true rfl) (by first | omega | (exact R.r _ _) | (simp only [jM.len_sI, jM.len_sL, jM.len_sR, jM.len_fI, jM.len_fL, jM.len_fR]; omega) | (simp [jM.len_nw, jM.len_sI, jM.len_sL, jM.len_sR, jM.len_fI, jM.len_fL, jM.len_fR, *]; omega)) (by first | omega | (exact R.r _ _) | (simp only [jM.len_sI, jM.len_sL, jM.len_sR, jM.len_fI, jM.len_fL, jM.len_fR]; omega) | (simp [jM.len_nw, jM.len_sI, jM.len_sL, jM.len_sR, jM.len_fI, jM.len_fL, jM.len_fR, *]; omega)) (by first | omega | (exact R.r _ _) | (simp only [jM.len_sI, jM.len_sL, jM.len_sR, jM.len_fI, jM.len_fL, jM.len_fR]; omega) | (simp [jM.len_nw, jM.len_sI, jM.len_sL, jM.len_sR, jM.len_fI, jM.len_fL, jM.len_fR, *]; omega)) rfl rfl ?_ ?_
                                · exact fun _ _ h => h
                                rintro _ _ ⟨rfl, rfl⟩
                                refine J.if_ne (tgt := 65) (pc' := 63) rfl rfl rfl (by first | omega | (exact R.r _ _) | (simp only [jM.len_sI, jM.len_sL, jM.len_sR, jM.len_fI, jM.len_fL, jM.len_fR]; omega) | (simp [jM.len_nw, jM.len_sI, jM.len_sL, jM.len_sR, jM.len_fI, jM.len_fL, jM.len_fR, *]; omega)) (fun c60 => ?_) (fun c60 => ?_)
                                · first
                                  | (exfalso; omega)
                                  | (refine J.bipush (pc' := 67) rfl rfl (by decide) ?_
                                     refine J.iload_n (pc' := 68) rfl rfl rfl ?_
                                     refine J.imul (pc' := 69) rfl rfl ?_
                                     refine J.iload_n (pc' := 70) rfl rfl rfl ?_
                                     refine J.iadd (pc' := 71) rfl rfl ?_
                                     refine J.istore (pc' := 73) rfl rfl (by decide) ?_
                                     refine J.iload_n (pc' := 74) rfl rfl rfl ?_
                                     refine J.iconst (pc' := 75) rfl rfl ?_
                                     refine J.icmp_ge (tgt := 100) (pc' := 78) rfl rfl rfl (by first | omega | (exact R.r _ _) | (simp only [jM.len_sI, jM.len_sL, jM.len_sR, jM.len_fI, jM.len_fL, jM.len_fR]; omega) | (simp [jM.len_nw, jM.len_sI, jM.len_sL, jM.len_sR, jM.len_fI, jM.len_fL, jM.len_fR, *]; omega)) (by first | omega | (exact R.r _ _) | (simp only [jM.len_sI, jM.len_sL, jM.len_sR, jM.len_fI, jM.len_fL, jM.len_fR]; omega) | (simp [jM.len_nw, jM.len_sI, jM.len_sL, jM.len_sR, jM.len_fI, jM.len_fL, jM.len_fR, *]; omega)) (fun c75 => ?_) (fun c75 => ?_)
                                     · first
                                       | (exfalso; omega)
                                       | (refine J.iload_n (pc' := 101) rfl rfl rfl ?_
                                          refine J.iconst (pc' := 102) rfl rfl ?_
                                          refine J.irem (pc' := 103) rfl rfl (by first | omega | (exact R.r _ _) | (simp only [jM.len_sI, jM.len_sL, jM.len_sR, jM.len_fI, jM.len_fL, jM.len_fR]; omega) | (simp [jM.len_nw, jM.len_sI, jM.len_sL, jM.len_sR, jM.len_fI, jM.len_fL, jM.len_fR, *]; omega)) (by first | omega | (exact R.r _ _) | (simp only [jM.len_sI, jM.len_sL, jM.len_sR, jM.len_fI, jM.len_fL, jM.len_fR]; omega) | (simp [jM.len_nw, jM.len_sI, jM.len_sL, jM.len_sR, jM.len_fI, jM.len_fL, jM.len_fR, *]; omega)) (by first | omega | (exact R.r _ _) | (simp only [jM.len_sI, jM.len_sL, jM.len_sR, jM.len_fI, jM.len_fL, jM.len_fR]; omega) | (simp [jM.len_nw, jM.len_sI, jM.len_sL, jM.len_sR, jM.len_fI, jM.len_fL, jM.len_fR, *]; omega)) ?_
                                          rw [Int.tmod_eq_emod_of_nonneg (by omega)]
                                          refine J.if_ne (tgt := 124) (pc' := 106) rfl rfl rfl (by first | omega | (exact R.r _ _) | (simp only [jM.len_sI, jM.len_sL, jM.len_sR, jM.len_fI, jM.len_fL, jM.len_fR]; omega) | (simp [jM.len_nw, jM.len_sI, jM.len_sL, jM.len_sR, jM.len_fI, jM.len_fL, jM.len_fR, *]; omega)) (fun c103 => ?_) (fun c103 => ?_)
                                          · first
                                            | (exfalso; omega)
                                            | (first | refine J.aload_n (pc' := 125) rfl rfl rfl ?_ | refine J.aload_nN (pc' := 125) rfl rfl rfl ?_
                                               refine J.mgR (pc' := 128) (t := 157) B rfl fl_X12_145 rfl rfl (by decide) rfl ?_
                                               refine J.iconst (pc' := 129) rfl rfl ?_
                                               refine J.iload (pc' := 131) rfl rfl rfl ?_
                                               refine J.imul (pc' := 132) rfl rfl ?_
                                               refine J.iload_n (pc' := 133) rfl rfl rfl ?_
                                               refine J.iconst (pc' := 134) rfl rfl ?_
                                               refine J.isub (pc' := 135) rfl rfl ?_
                                               refine J.iconst (pc' := 136) rfl rfl ?_
                                               refine J.idiv (pc' := 137) rfl rfl (by first | omega | (exact R.r _ _) | (simp only [jM.len_sI, jM.len_sL, jM.len_sR, jM.len_fI, jM.len_fL, jM.len_fR]; omega) | (simp [jM.len_nw, jM.len_sI, jM.len_sL, jM.len_sR, jM.len_fI, jM.len_fL, jM.len_fR, *]; omega)) (by first | omega | (exact R.r _ _) | (simp only [jM.len_sI, jM.len_sL, jM.len_sR, jM.len_fI, jM.len_fL, jM.len_fR]; omega) | (simp [jM.len_nw, jM.len_sI, jM.len_sL, jM.len_sR, jM.len_fI, jM.len_fL, jM.len_fR, *]; omega)) (by first | omega | (exact R.r _ _) | (simp only [jM.len_sI, jM.len_sL, jM.len_sR, jM.len_fI, jM.len_fL, jM.len_fR]; omega) | (simp [jM.len_nw, jM.len_sI, jM.len_sL, jM.len_sR, jM.len_fI, jM.len_fL, jM.len_fR, *]; omega)) ?_
                                               rw [Int.tdiv_eq_ediv_of_nonneg (by omega)]
                                               refine J.iadd (pc' := 138) rfl rfl ?_
                                               refine J.mald (pc' := 139) B rfl rfl rfl (by omega) (by simp only [jLn]; omega) rfl ?_
                                               refine J.iret rfl rfl (by first | omega | (exact R.r _ _) | (simp only [jM.len_sI, jM.len_sL, jM.len_sR, jM.len_fI, jM.len_fL, jM.len_fR]; omega) | (simp [jM.len_nw, jM.len_sI, jM.len_sL, jM.len_sR, jM.len_fI, jM.len_fL, jM.len_fR, *]; omega)) (by first | omega | (exact R.r _ _) | (simp only [jM.len_sI, jM.len_sL, jM.len_sR, jM.len_fI, jM.len_fL, jM.len_fR]; omega) | (simp [jM.len_nw, jM.len_sI, jM.len_sL, jM.len_sR, jM.len_fI, jM.len_fL, jM.len_fR, *]; omega)) ?_
                                               exact mQ.of (by unfold sp_portion porV; (repeat (first | rw [if_pos (by omega)] | rw [if_neg (by omega)]))))
                                          · first
                                            | (exfalso; omega)
                                            | (first | refine J.aload_n (pc' := 107) rfl rfl rfl ?_ | refine J.aload_nN (pc' := 107) rfl rfl rfl ?_
                                               refine J.mgR (pc' := 110) (t := 156) B rfl fl_X12_142 rfl rfl (by decide) rfl ?_
                                               refine J.iconst (pc' := 111) rfl rfl ?_
                                               refine J.iload (pc' := 113) rfl rfl rfl ?_
                                               refine J.imul (pc' := 114) rfl rfl ?_
                                               refine J.iload_n (pc' := 115) rfl rfl rfl ?_
                                               refine J.iconst (pc' := 116) rfl rfl ?_
                                               refine J.isub (pc' := 117) rfl rfl ?_
                                               refine J.iconst (pc' := 118) rfl rfl ?_
                                               refine J.idiv (pc' := 119) rfl rfl (by first | omega | (exact R.r _ _) | (simp only [jM.len_sI, jM.len_sL, jM.len_sR, jM.len_fI, jM.len_fL, jM.len_fR]; omega) | (simp [jM.len_nw, jM.len_sI, jM.len_sL, jM.len_sR, jM.len_fI, jM.len_fL, jM.len_fR, *]; omega)) (by first | omega | (exact R.r _ _) | (simp only [jM.len_sI, jM.len_sL, jM.len_sR, jM.len_fI, jM.len_fL, jM.len_fR]; omega) | (simp [jM.len_nw, jM.len_sI, jM.len_sL, jM.len_sR, jM.len_fI, jM.len_fL, jM.len_fR, *]; omega)) (by first | omega | (exact R.r _ _) | (simp only [jM.len_sI, jM.len_sL, jM.len_sR, jM.len_fI, jM.len_fL, jM.len_fR]; omega) | (simp [jM.len_nw, jM.len_sI, jM.len_sL, jM.len_sR, jM.len_fI, jM.len_fL, jM.len_fR, *]; omega)) ?_
                                               rw [Int.tdiv_eq_ediv_of_nonneg (by omega)]
                                               refine J.iadd (pc' := 120) rfl rfl ?_
                                               refine J.mald (pc' := 121) B rfl rfl rfl (by omega) (by simp only [jLn]; omega) rfl ?_
                                               refine J.goto (tgt := 139) rfl rfl ?_
                                               refine J.iret rfl rfl (by first | omega | (exact R.r _ _) | (simp only [jM.len_sI, jM.len_sL, jM.len_sR, jM.len_fI, jM.len_fL, jM.len_fR]; omega) | (simp [jM.len_nw, jM.len_sI, jM.len_sL, jM.len_sR, jM.len_fI, jM.len_fL, jM.len_fR, *]; omega)) (by first | omega | (exact R.r _ _) | (simp only [jM.len_sI, jM.len_sL, jM.len_sR, jM.len_fI, jM.len_fL, jM.len_fR]; omega) | (simp [jM.len_nw, jM.len_sI, jM.len_sL, jM.len_sR, jM.len_fI, jM.len_fL, jM.len_fR, *]; omega)) ?_
                                               exact mQ.of (by unfold sp_portion porV; (repeat (first | rw [if_pos (by omega)] | rw [if_neg (by omega)])))))
                                     · first
                                       | (exfalso; omega)
                                       | (refine J.iload_n (pc' := 79) rfl rfl rfl ?_
                                          refine J.if_ne (tgt := 92) (pc' := 82) rfl rfl rfl (by first | omega | (exact R.r _ _) | (simp only [jM.len_sI, jM.len_sL, jM.len_sR, jM.len_fI, jM.len_fL, jM.len_fR]; omega) | (simp [jM.len_nw, jM.len_sI, jM.len_sL, jM.len_sR, jM.len_fI, jM.len_fL, jM.len_fR, *]; omega)) (fun c79 => ?_) (fun c79 => ?_)
                                          · first
                                            | (exfalso; omega)
                                            | (first | refine J.aload_n (pc' := 93) rfl rfl rfl ?_ | refine J.aload_nN (pc' := 93) rfl rfl rfl ?_
                                               refine J.mgR (pc' := 96) (t := 155) B rfl fl_X12_139 rfl rfl (by decide) rfl ?_
                                               refine J.iload (pc' := 98) rfl rfl rfl ?_
                                               refine J.mald (pc' := 99) B rfl rfl rfl (by omega) (by simp only [jLn]; omega) rfl ?_
                                               refine J.iret rfl rfl (by first | omega | (exact R.r _ _) | (simp only [jM.len_sI, jM.len_sL, jM.len_sR, jM.len_fI, jM.len_fL, jM.len_fR]; omega) | (simp [jM.len_nw, jM.len_sI, jM.len_sL, jM.len_sR, jM.len_fI, jM.len_fL, jM.len_fR, *]; omega)) (by first | omega | (exact R.r _ _) | (simp only [jM.len_sI, jM.len_sL, jM.len_sR, jM.len_fI, jM.len_fL, jM.len_fR]; omega) | (simp [jM.len_nw, jM.len_sI, jM.len_sL, jM.len_sR, jM.len_fI, jM.len_fL, jM.len_fR, *]; omega)) ?_
                                               exact mQ.of (by unfold sp_portion porV; (repeat (first | rw [if_pos (by omega)] | rw [if_neg (by omega)]))))
                                          · first
                                            | (exfalso; omega)
                                            | (first | refine J.aload_n (pc' := 83) rfl rfl rfl ?_ | refine J.aload_nN (pc' := 83) rfl rfl rfl ?_
                                               refine J.mgR (pc' := 86) (t := 154) B rfl fl_X12_136 rfl rfl (by decide) rfl ?_
                                               refine J.iload (pc' := 88) rfl rfl rfl ?_
                                               refine J.mald (pc' := 89) B rfl rfl rfl (by omega) (by simp only [jLn]; omega) rfl ?_
                                               refine J.goto (tgt := 99) rfl rfl ?_
                                               refine J.iret rfl rfl (by first | omega | (exact R.r _ _) | (simp only [jM.len_sI, jM.len_sL, jM.len_sR, jM.len_fI, jM.len_fL, jM.len_fR]; omega) | (simp [jM.len_nw, jM.len_sI, jM.len_sL, jM.len_sR, jM.len_fI, jM.len_fL, jM.len_fR, *]; omega)) (by first | omega | (exact R.r _ _) | (simp only [jM.len_sI, jM.len_sL, jM.len_sR, jM.len_fI, jM.len_fL, jM.len_fR]; omega) | (simp [jM.len_nw, jM.len_sI, jM.len_sL, jM.len_sR, jM.len_fI, jM.len_fL, jM.len_fR, *]; omega)) ?_
                                               exact mQ.of (by unfold sp_portion porV; (repeat (first | rw [if_pos (by omega)] | rw [if_neg (by omega)]))))))
                                · first
                                  | (exfalso; omega)
                                  | (refine J.iconst (pc' := 64) rfl rfl ?_
                                     refine J.iret rfl rfl (by first | omega | (exact R.r _ _) | (simp only [jM.len_sI, jM.len_sL, jM.len_sR, jM.len_fI, jM.len_fL, jM.len_fR]; omega) | (simp [jM.len_nw, jM.len_sI, jM.len_sL, jM.len_sR, jM.len_fI, jM.len_fL, jM.len_fR, *]; omega)) (by first | omega | (exact R.r _ _) | (simp only [jM.len_sI, jM.len_sL, jM.len_sR, jM.len_fI, jM.len_fL, jM.len_fR]; omega) | (simp [jM.len_nw, jM.len_sI, jM.len_sL, jM.len_sR, jM.len_fI, jM.len_fL, jM.len_fR, *]; omega)) ?_
                                     exact mQ.of (by unfold sp_portion porV; (repeat (first | rw [if_pos (by omega)] | rw [if_neg (by omega)])))))
                           · first
                             | (exfalso; omega)
                             | (refine J.iload_n (pc' := 46) rfl rfl rfl ?_
                                refine J.bipush (pc' := 48) rfl rfl (by decide) ?_
                                refine J.icmp_ge (tgt := 55) (pc' := 51) rfl rfl rfl (by first | omega | (exact R.r _ _) | (simp only [jM.len_sI, jM.len_sL, jM.len_sR, jM.len_fI, jM.len_fL, jM.len_fR]; omega) | (simp [jM.len_nw, jM.len_sI, jM.len_sL, jM.len_sR, jM.len_fI, jM.len_fL, jM.len_fR, *]; omega)) (by first | omega | (exact R.r _ _) | (simp only [jM.len_sI, jM.len_sL, jM.len_sR, jM.len_fI, jM.len_fL, jM.len_fR]; omega) | (simp [jM.len_nw, jM.len_sI, jM.len_sL, jM.len_sR, jM.len_fI, jM.len_fL, jM.len_fR, *]; omega)) (fun c48 => ?_) (fun c48 => ?_)
                                · first
                                  | (exfalso; omega)
                                  | (refine J.iconst (pc' := 56) rfl rfl ?_
                                     refine J.iconst (pc' := 57) rfl rfl ?_
                                     first | refine J.callV (pc' := 60) (t := 16) rfl MX12_may ml_X12_161 iv_X12_may (by decide) ⟨_, rfl, rfl⟩ B.1 (cm_may1 B h0) rfl rfl (Nat.le_of_ble_eq_true rfl) (by first | omega | (exact R.r _ _) | (simp only [jM.len_sI, jM.len_sL, jM.len_sR, jM.len_fI, jM.len_fL, jM.len_fR]; omega) | (simp [jM.len_nw, jM.len_sI, jM.len_sL, jM.len_sR, jM.len_fI, jM.len_fL, jM.len_fR, *]; omega)) (by first | omega | (exact R.r _ _) | (simp only [jM.len_sI, jM.len_sL, jM.len_sR, jM.len_fI, jM.len_fL, jM.len_fR]; omega) | (simp [jM.len_nw, jM.len_sI, jM.len_sL, jM.len_sR, jM.len_fI, jM.len_fL, jM.len_fR, *]; omega)) (by first | omega | (exact R.r _ _) | (simp only [jM.len_sI, jM.len_sL, jM.len_sR, jM.len_fI, jM.len_fL, jM.len_fR]; omega) | (simp [jM.len_nw, jM.len_sI, jM.len_sL, jM.len_sR, jM.len_fI, jM.len_fL, jM.len_fR, *]; omega)) rfl rfl ?_ ?_ | refine J.callV (pc' := 60) (t := 16) rfl MX12_may ml_X12_161 iv_X12_may (by decide) ⟨_, rfl, rfl⟩ B.1 (cm_may0 B h0 (by omega)) rfl rfl (Nat.le_of_ble_eq_true rfl) (by first | omega | (exact R.r _ _) | (simp only [jM.len_sI, jM.len_sL, jM.len_sR, jM.len_fI, jM.len_fL, jM.len_fR]; omega) | (simp [jM.len_nw, jM.len_sI, jM.len_sL, jM.len_sR, jM.len_fI, jM.len_fL, jM.len_fR, *]; omega)) (by first | omega | (exact R.r _ _) | (simp only [jM.len_sI, jM.len_sL, jM.len_sR, jM.len_fI, jM.len_fL, jM.len_fR]; omega) | (simp [jM.len_nw, jM.len_sI, jM.len_sL, jM.len_sR, jM.len_fI, jM.len_fL, jM.len_fR, *]; omega)) (by first | omega | (exact R.r _ _) | (simp only [jM.len_sI, jM.len_sL, jM.len_sR, jM.len_fI, jM.len_fL, jM.len_fR]; omega) | (simp [jM.len_nw, jM.len_sI, jM.len_sL, jM.len_sR, jM.len_fI, jM.len_fL, jM.len_fR, *]; omega)) rfl rfl ?_ ?_
                                     · exact fun _ _ h => h
                                     rintro _ _ ⟨rfl, rfl⟩
                                     refine J.if_ne (tgt := 65) (pc' := 63) rfl rfl rfl (by first | omega | (exact R.r _ _) | (simp only [jM.len_sI, jM.len_sL, jM.len_sR, jM.len_fI, jM.len_fL, jM.len_fR]; omega) | (simp [jM.len_nw, jM.len_sI, jM.len_sL, jM.len_sR, jM.len_fI, jM.len_fL, jM.len_fR, *]; omega)) (fun c60 => ?_) (fun c60 => ?_)
                                     · first
                                       | (exfalso; omega)
                                       | (refine J.bipush (pc' := 67) rfl rfl (by decide) ?_
                                          refine J.iload_n (pc' := 68) rfl rfl rfl ?_
                                          refine J.imul (pc' := 69) rfl rfl ?_
                                          refine J.iload_n (pc' := 70) rfl rfl rfl ?_
                                          refine J.iadd (pc' := 71) rfl rfl ?_
                                          refine J.istore (pc' := 73) rfl rfl (by decide) ?_
                                          refine J.iload_n (pc' := 74) rfl rfl rfl ?_
                                          refine J.iconst (pc' := 75) rfl rfl ?_
                                          refine J.icmp_ge (tgt := 100) (pc' := 78) rfl rfl rfl (by first | omega | (exact R.r _ _) | (simp only [jM.len_sI, jM.len_sL, jM.len_sR, jM.len_fI, jM.len_fL, jM.len_fR]; omega) | (simp [jM.len_nw, jM.len_sI, jM.len_sL, jM.len_sR, jM.len_fI, jM.len_fL, jM.len_fR, *]; omega)) (by first | omega | (exact R.r _ _) | (simp only [jM.len_sI, jM.len_sL, jM.len_sR, jM.len_fI, jM.len_fL, jM.len_fR]; omega) | (simp [jM.len_nw, jM.len_sI, jM.len_sL, jM.len_sR, jM.len_fI, jM.len_fL, jM.len_fR, *]; omega)) (fun c75 => ?_) (fun c75 => ?_)
                                          · first
                                            | (exfalso; omega)
                                            | (refine J.iload_n (pc' := 101) rfl rfl rfl ?_
                                               refine J.iconst (pc' := 102) rfl rfl ?_
                                               refine J.irem (pc' := 103) rfl rfl (by first | omega | (exact R.r _ _) | (simp only [jM.len_sI, jM.len_sL, jM.len_sR, jM.len_fI, jM.len_fL, jM.len_fR]; omega) | (simp [jM.len_nw, jM.len_sI, jM.len_sL, jM.len_sR, jM.len_fI, jM.len_fL, jM.len_fR, *]; omega)) (by first | omega | (exact R.r _ _) | (simp only [jM.len_sI, jM.len_sL, jM.len_sR, jM.len_fI, jM.len_fL, jM.len_fR]; omega) | (simp [jM.len_nw, jM.len_sI, jM.len_sL, jM.len_sR, jM.len_fI, jM.len_fL, jM.len_fR, *]; omega)) (by first | omega | (exact R.r _ _) | (simp only [jM.len_sI, jM.len_sL, jM.len_sR, jM.len_fI, jM.len_fL, jM.len_fR]; omega) | (simp [jM.len_nw, jM.len_sI, jM.len_sL, jM.len_sR, jM.len_fI, jM.len_fL, jM.len_fR, *]; omega)) ?_
                                               rw [Int.tmod_eq_emod_of_nonneg (by omega)]
                                               refine J.if_ne (tgt := 124) (pc' := 106) rfl rfl rfl (by first | omega | (exact R.r _ _) | (simp only [jM.len_sI, jM.len_sL, jM.len_sR, jM.len_fI, jM.len_fL, jM.len_fR]; omega) | (simp [jM.len_nw, jM.len_sI, jM.len_sL, jM.len_sR, jM.len_fI, jM.len_fL, jM.len_fR, *]; omega)) (fun c103 => ?_) (fun c103 => ?_)
                                               · first
                                                 | (exfalso; omega)
                                                 | (first | refine J.aload_n (pc' := 125) rfl rfl rfl ?_ | refine J.aload_nN (pc' := 125) rfl rfl rfl ?_
                                                    refine J.mgR (pc' := 128) (t := 157) B rfl fl_X12_145 rfl rfl (by decide) rfl ?_
                                                    refine J.iconst (pc' := 129) rfl rfl ?_
                                                    refine J.iload (pc' := 131) rfl rfl rfl ?_
                                                    refine J.imul (pc' := 132) rfl rfl ?_
                                                    refine J.iload_n (pc' := 133) rfl rfl rfl ?_
                                                    refine J.iconst (pc' := 134) rfl rfl ?_
                                                    refine J.isub (pc' := 135) rfl rfl ?_
                                                    refine J.iconst (pc' := 136) rfl rfl ?_
                                                    refine J.idiv (pc' := 137) rfl rfl (by first | omega | (exact R.r _ _) | (simp only [jM.len_sI, jM.len_sL, jM.len_sR, jM.len_fI, jM.len_fL, jM.len_fR]; omega) | (simp [jM.len_nw, jM.len_sI, jM.len_sL, jM.len_sR, jM.len_fI, jM.len_fL, jM.len_fR, *]; omega)) (by first | omega | (exact R.r _ _) | (simp only [jM.len_sI, jM.len_sL, jM.len_sR, jM.len_fI, jM.len_fL, jM.len_fR]; omega) | (simp [jM.len_nw, jM.len_sI, jM.len_sL, jM.len_sR, jM.len_fI, jM.len_fL, jM.len_fR, *]; omega)) (by first | omega | (exact R.r _ _) | (simp only [jM.len_sI, jM.len_sL, jM.len_sR, jM.len_fI, jM.len_fL, jM.len_fR]; omega) | (simp [jM.len_nw, jM.len_sI, jM.len_sL, jM.len_sR, jM.len_fI, jM.len_fL, jM.len_fR, *]; omega)) ?_
                                                    rw [Int.tdiv_eq_ediv_of_nonneg (by omega)]
                                                    refine J.iadd (pc' := 138) rfl rfl ?_
                                                    refine J.mald (pc' := 139) B rfl rfl rfl (by omega) (by simp only [jLn]; omega) rfl ?_
                                                    refine J.iret rfl rfl (by first | omega | (exact R.r _ _) | (simp only [jM.len_sI, jM.len_sL, jM.len_sR, jM.len_fI, jM.len_fL, jM.len_fR]; omega) | (simp [jM.len_nw, jM.len_sI, jM.len_sL, jM.len_sR, jM.len_fI, jM.len_fL, jM.len_fR, *]; omega)) (by first | omega | (exact R.r _ _) | (simp only [jM.len_sI, jM.len_sL, jM.len_sR, jM.len_fI, jM.len_fL, jM.len_fR]; omega) | (simp [jM.len_nw, jM.len_sI, jM.len_sL, jM.len_sR, jM.len_fI, jM.len_fL, jM.len_fR, *]; omega)) ?_
                                                    exact mQ.of (by unfold sp_portion porV; (repeat (first | rw [if_pos (by omega)] | rw [if_neg (by omega)]))))
                                               · first
                                                 | (exfalso; omega)
                                                 | (first | refine J.aload_n (pc' := 107) rfl rfl rfl ?_ | refine J.aload_nN (pc' := 107) rfl rfl rfl ?_
                                                    refine J.mgR (pc' := 110) (t := 156) B rfl fl_X12_142 rfl rfl (by decide) rfl ?_
                                                    refine J.iconst (pc' := 111) rfl rfl ?_
                                                    refine J.iload (pc' := 113) rfl rfl rfl ?_
                                                    refine J.imul (pc' := 114) rfl rfl ?_
                                                    refine J.iload_n (pc' := 115) rfl rfl rfl ?_
                                                    refine J.iconst (pc' := 116) rfl rfl ?_
                                                    refine J.isub (pc' := 117) rfl rfl ?_
                                                    refine J.iconst (pc' := 118) rfl rfl ?_
                                                    refine J.idiv (pc' := 119) rfl rfl (by first | omega | (exact R.r _ _) | (simp only [jM.len_sI, jM.len_sL, jM.len_sR, jM.len_fI, jM.len_fL, jM.len_fR]; omega) | (simp [jM.len_nw, jM.len_sI, jM.len_sL, jM.len_sR, jM.len_fI, jM.len_fL, jM.len_fR, *]; omega)) (by first | omega | (exact R.r _ _) | (simp only [jM.len_sI, jM.len_sL, jM.len_sR, jM.len_fI, jM.len_fL, jM.len_fR]; omega) | (simp [jM.len_nw, jM.len_sI, jM.len_sL, jM.len_sR, jM.len_fI, jM.len_fL, jM.len_fR, *]; omega)) (by first | omega | (exact R.r _ _) | (simp only [jM.len_sI, jM.len_sL, jM.len_sR, jM.len_fI, jM.len_fL, jM.len_fR]; omega) | (simp [jM.len_nw, jM.len_sI, jM.len_sL, jM.len_sR, jM.len_fI, jM.len_fL, jM.len_fR, *]; omega)) ?_
                                                    rw [Int.tdiv_eq_ediv_of_nonneg (by omega)]
                                                    refine J.iadd (pc' := 120) rfl rfl ?_
                                                    refine J.mald (pc' := 121) B rfl rfl rfl (by omega) (by simp only [jLn]; omega) rfl ?_
                                                    refine J.goto (tgt := 139) rfl rfl ?_
                                                    refine J.iret rfl rfl (by first | omega | (exact R.r _ _) | (simp only [jM.len_sI, jM.len_sL, jM.len_sR, jM.len_fI, jM.len_fL, jM.len_fR]; omega) | (simp [jM.len_nw, jM.len_sI, jM.len_sL, jM.len_sR, jM.len_fI, jM.len_fL, jM.len_fR, *]; omega)) (by first | omega | (exact R.r _ _) | (simp only [jM.len_sI, jM.len_sL, jM.len_sR, jM.len_fI, jM.len_fL, jM.len_fR]; omega) | (simp [jM.len_nw, jM.len_sI, jM.len_sL, jM.len_sR, jM.len_fI, jM.len_fL, jM.len_fR, *]; omega)) ?_
                                                    exact mQ.of (by unfold sp_portion porV; (repeat (first | rw [if_pos (by omega)] | rw [if_neg (by omega)])))))
                                          · first
                                            | (exfalso; omega)
                                            | (refine J.iload_n (pc' := 79) rfl rfl rfl ?_
                                               refine J.if_ne (tgt := 92) (pc' := 82) rfl rfl rfl (by first | omega | (exact R.r _ _) | (simp only [jM.len_sI, jM.len_sL, jM.len_sR, jM.len_fI, jM.len_fL, jM.len_fR]; omega) | (simp [jM.len_nw, jM.len_sI, jM.len_sL, jM.len_sR, jM.len_fI, jM.len_fL, jM.len_fR, *]; omega)) (fun c79 => ?_) (fun c79 => ?_)
                                               · first
                                                 | (exfalso; omega)
                                                 | (first | refine J.aload_n (pc' := 93) rfl rfl rfl ?_ | refine J.aload_nN (pc' := 93) rfl rfl rfl ?_
                                                    refine J.mgR (pc' := 96) (t := 155) B rfl fl_X12_139 rfl rfl (by decide) rfl ?_
                                                    refine J.iload (pc' := 98) rfl rfl rfl ?_
                                                    refine J.mald (pc' := 99) B rfl rfl rfl (by omega) (by simp only [jLn]; omega) rfl ?_
                                                    refine J.iret rfl rfl (by first | omega | (exact R.r _ _) | (simp only [jM.len_sI, jM.len_sL, jM.len_sR, jM.len_fI, jM.len_fL, jM.len_fR]; omega) | (simp [jM.len_nw, jM.len_sI, jM.len_sL, jM.len_sR, jM.len_fI, jM.len_fL, jM.len_fR, *]; omega)) (by first | omega | (exact R.r _ _) | (simp only [jM.len_sI, jM.len_sL, jM.len_sR, jM.len_fI, jM.len_fL, jM.len_fR]; omega) | (simp [jM.len_nw, jM.len_sI, jM.len_sL, jM.len_sR, jM.len_fI, jM.len_fL, jM.len_fR, *]; omega)) ?_
                                                    exact mQ.of (by unfold sp_portion porV; (repeat (first | rw [if_pos (by omega)] | rw [if_neg (by omega)]))))
                                               · first
                                                 | (exfalso; omega)
                                                 | (first | refine J.aload_n (pc' := 83) rfl rfl rfl ?_ | refine J.aload_nN (pc' := 83) rfl rfl rfl ?_
                                                    refine J.mgR (pc' := 86) (t := 154) B rfl fl_X12_136 rfl rfl (by decide) rfl ?_
                                                    refine J.iload (pc' := 88) rfl rfl rfl ?_
                                                    refine J.mald (pc' := 89) B rfl rfl rfl (by omega) (by simp only [jLn]; omega) rfl ?_
                                                    refine J.goto (tgt := 99) rfl rfl ?_
                                                    refine J.iret rfl rfl (by first | omega | (exact R.r _ _) | (simp only [jM.len_sI, jM.len_sL, jM.len_sR, jM.len_fI, jM.len_fL, jM.len_fR]; omega) | (simp [jM.len_nw, jM.len_sI, jM.len_sL, jM.len_sR, jM.len_fI, jM.len_fL, jM.len_fR, *]; omega)) (by first | omega | (exact R.r _ _) | (simp only [jM.len_sI, jM.len_sL, jM.len_sR, jM.len_fI, jM.len_fL, jM.len_fR]; omega) | (simp [jM.len_nw, jM.len_sI, jM.len_sL, jM.len_sR, jM.len_fI, jM.len_fL, jM.len_fR, *]; omega)) ?_
                                                    exact mQ.of (by unfold sp_portion porV; (repeat (first | rw [if_pos (by omega)] | rw [if_neg (by omega)]))))))
                                     · first
                                       | (exfalso; omega)
                                       | (refine J.iconst (pc' := 64) rfl rfl ?_
                                          refine J.iret rfl rfl (by first | omega | (exact R.r _ _) | (simp only [jM.len_sI, jM.len_sL, jM.len_sR, jM.len_fI, jM.len_fL, jM.len_fR]; omega) | (simp [jM.len_nw, jM.len_sI, jM.len_sL, jM.len_sR, jM.len_fI, jM.len_fL, jM.len_fR, *]; omega)) (by first | omega | (exact R.r _ _) | (simp only [jM.len_sI, jM.len_sL, jM.len_sR, jM.len_fI, jM.len_fL, jM.len_fR]; omega) | (simp [jM.len_nw, jM.len_sI, jM.len_sL, jM.len_sR, jM.len_fI, jM.len_fL, jM.len_fR, *]; omega)) ?_
                                          exact mQ.of (by unfold sp_portion porV; (repeat (first | rw [if_pos (by omega)] | rw [if_neg (by omega)])))))
                                · first
                                  | (exfalso; omega)
                                  | (refine J.iconst (pc' := 52) rfl rfl ?_
                                     refine J.goto (tgt := 56) rfl rfl ?_
                                     refine J.iconst (pc' := 57) rfl rfl ?_
                                     first | refine J.callV (pc' := 60) (t := 16) rfl MX12_may ml_X12_161 iv_X12_may (by decide) ⟨_, rfl, rfl⟩ B.1 (cm_may1 B h0) rfl rfl (Nat.le_of_ble_eq_true rfl) (by first | omega | (exact R.r _ _) | (simp only [jM.len_sI, jM.len_sL, jM.len_sR, jM.len_fI, jM.len_fL, jM.len_fR]; omega) | (simp [jM.len_nw, jM.len_sI, jM.len_sL, jM.len_sR, jM.len_fI, jM.len_fL, jM.len_fR, *]; omega)) (by first | omega | (exact R.r _ _) | (simp only [jM.len_sI, jM.len_sL, jM.len_sR, jM.len_fI, jM.len_fL, jM.len_fR]; omega) | (simp [jM.len_nw, jM.len_sI, jM.len_sL, jM.len_sR, jM.len_fI, jM.len_fL, jM.len_fR, *]; omega)) (by first | omega | (exact R.r _ _) | (simp only [jM.len_sI, jM.len_sL, jM.len_sR, jM.len_fI, jM.len_fL, jM.len_fR]; omega) | (simp [jM.len_nw, jM.len_sI, jM.len_sL, jM.len_sR, jM.len_fI, jM.len_fL, jM.len_fR, *]; omega)) rfl rfl ?_ ?_ | refine J.callV (pc' := 60) (t := 16) rfl MX12_may ml_X12_161 iv_X12_may (by decide) ⟨_, rfl, rfl⟩ B.1 (cm_may0 B h0 (by omega)) rfl rfl (Nat.le_of_ble_eq_true rfl) (by first | omega | (exact R.r _ _) | (simp only [jM.len_sI, jM.len_sL, jM.len_sR, jM.len_fI, jM.len_fL, jM.len_fR]; omega) | (simp [jM.len_nw, jM.len_sI, jM.len_sL, jM.len_sR, jM.len_fI, jM.len_fL, jM.len_fR, *]; omega)) (by first | omega | (exact R.r _ _) | (simp only [jM.len_sI, jM.len_sL, jM.len_sR, jM.len_fI, jM.len_fL, jM.len_fR]; omega) | (simp [jM.len_nw, jM.len_sI, jM.len_sL, jM.len_sR, jM.len_fI, jM.len_fL, jM.len_fR, *]; omega)) (by first | omega | (exact R.r _ _) | (simp only [jM.len_sI, jM.len_sL, jM.len_sR, jM.len_fI, jM.len_fL, jM.len_fR]; omega) | (simp [jM.len_nw, jM.len_sI, jM.len_sL, jM.len_sR, jM.len_fI, jM.len_fL, jM.len_fR, *]; omega)) rfl rfl ?_ ?_
                                     · exact fun _ _ h => h
                                     rintro _ _ ⟨rfl, rfl⟩
                                     refine J.if_ne (tgt := 65) (pc' := 63) rfl rfl rfl (by first | omega | (exact R.r _ _) | (simp only [jM.len_sI, jM.len_sL, jM.len_sR, jM.len_fI, jM.len_fL, jM.len_fR]; omega) | (simp [jM.len_nw, jM.len_sI, jM.len_sL, jM.len_sR, jM.len_fI, jM.len_fL, jM.len_fR, *]; omega)) (fun c60 => ?_) (fun c60 => ?_)
                                     · first
                                       | (exfalso; omega)
                                       | (refine J.bipush (pc' := 67) rfl rfl (by decide) ?_
                                          refine J.iload_n (pc' := 68) rfl rfl rfl ?_
                                          refine J.imul (pc' := 69) rfl rfl ?_
                                          refine J.iload_n (pc' := 70) rfl rfl rfl ?_
                                          refine J.iadd (pc' := 71) rfl rfl ?_
                                          refine J.istore (pc' := 73) rfl rfl (by decide) ?_
                                          refine J.iload_n (pc' := 74) rfl rfl rfl ?_
                                          refine J.iconst (pc' := 75) rfl rfl ?_
                                          refine J.icmp_ge (tgt := 100) (pc' := 78) rfl rfl rfl (by first | omega | (exact R.r _ _) | (simp only [jM.len_sI, jM.len_sL, jM.len_sR, jM.len_fI, jM.len_fL, jM.len_fR]; omega) | (simp [jM.len_nw, jM.len_sI, jM.len_sL, jM.len_sR, jM.len_fI, jM.len_fL, jM.len_fR, *]; omega)) (by first | omega | (exact R.r _ _) | (simp only [jM.len_sI, jM.len_sL, jM.len_sR, jM.len_fI, jM.len_fL, jM.len_fR]; omega) | (simp [jM.len_nw, jM.len_sI, jM.len_sL, jM.len_sR, jM.len_fI, jM.len_fL, jM.len_fR, *]; omega)) (fun c75 => ?_) (fun c75 => ?_)
                                          · first
                                            | (exfalso; omega)
                                            | (refine J.iload_n (pc' := 101) rfl rfl rfl ?_
                                               refine J.iconst (pc' := 102) rfl rfl ?_
                                               refine J.irem (pc' := 103) rfl rfl (by first | omega | (exact R.r _ _) | (simp only [jM.len_sI, jM.len_sL, jM.len_sR, jM.len_fI, jM.len_fL, jM.len_fR]; omega) | (simp [jM.len_nw, jM.len_sI, jM.len_sL, jM.len_sR, jM.len_fI, jM.len_fL, jM.len_fR, *]; omega)) (by first | omega | (exact R.r _ _) | (simp only [jM.len_sI, jM.len_sL, jM.len_sR, jM.len_fI, jM.len_fL, jM.len_fR]; omega) | (simp [jM.len_nw, jM.len_sI, jM.len_sL, jM.len_sR, jM.len_fI, jM.len_fL, jM.len_fR, *]; omega)) (by first | omega | (exact R.r _ _) | (simp only [jM.len_sI, jM.len_sL, jM.len_sR, jM.len_fI, jM.len_fL, jM.len_fR]; omega) | (simp [jM.len_nw, jM.len_sI, jM.len_sL, jM.len_sR, jM.len_fI, jM.len_fL, jM.len_fR, *]; omega)) ?_
                                               rw [Int.tmod_eq_emod_of_nonneg (by omega)]
                                               refine J.if_ne (tgt := 124) (pc' := 106) rfl rfl rfl (by first | omega | (exact R.r _ _) | (simp only [jM.len_sI, jM.len_sL, jM.len_sR, jM.len_fI, jM.len_fL, jM.len_fR]; omega) | (simp [jM.len_nw, jM.len_sI, jM.len_sL, jM.len_sR, jM.len_fI, jM.len_fL, jM.len_fR, *]; omega)) (fun c103 => ?_) (fun c103 => ?_)
                                               · first
                                                 | (exfalso; omega)
                                                 | (first | refine J.aload_n (pc' := 125) rfl rfl rfl ?_ | refine J.aload_nN (pc' := 125) rfl rfl rfl ?_
                                                    refine J.mgR (pc' := 128) (t := 157) B rfl fl_X12_145 rfl rfl (by decide) rfl ?_
                                                    refine J.iconst (pc' := 129) rfl rfl ?_
                                                    refine J.iload (pc' := 131) rfl rfl rfl ?_
                                                    refine J.imul (pc' := 132) rfl rfl ?_
                                                    refine J.iload_n (pc' := 133) rfl rfl rfl ?_
                                                    refine J.iconst (pc' := 134) rfl rfl ?_
                                                    refine J.isub (pc' := 135) rfl rfl ?_
                                                    refine J.iconst (pc' := 136) rfl rfl ?_
                                                    refine J.idiv (pc' := 137) rfl rfl (by first | omega | (exact R.r _ _) | (simp only [jM.len_sI, jM.len_sL, jM.len_sR, jM.len_fI, jM.len_fL, jM.len_fR]; omega) | (simp [jM.len_nw, jM.len_sI, jM.len_sL, jM.len_sR, jM.len_fI, jM.len_fL, jM.len_fR, *]; omega)) (by first | omega | (exact R.r _ _) | (simp only [jM.len_sI, jM.len_sL, jM.len_sR, jM.len_fI, jM.len_fL, jM.len_fR]; omega) | (simp [jM.len_nw, jM.len_sI, jM.len_sL, jM.len_sR, jM.len_fI, jM.len_fL, jM.len_fR, *]; omega)) (by first | omega | (exact R.r _ _) | (simp only [jM.len_sI, jM.len_sL, jM.len_sR, jM.len_fI, jM.len_fL, jM.len_fR]; omega) | (simp [jM.len_nw, jM.len_sI, jM.len_sL, jM.len_sR, jM.len_fI, jM.len_fL, jM.len_fR, *]; omega)) ?_
                                                    rw [Int.tdiv_eq_ediv_of_nonneg (by omega)]
                                                    refine J.iadd (pc' := 138) rfl rfl ?_
                                                    refine J.mald (pc' := 139) B rfl rfl rfl (by omega) (by simp only [jLn]; omega) rfl ?_
                                                    refine J.iret rfl rfl (by first | omega | (exact R.r _ _) | (simp only [jM.len_sI, jM.len_sL, jM.len_sR, jM.len_fI, jM.len_fL, jM.len_fR]; omega) | (simp [jM.len_nw, jM.len_sI, jM.len_sL, jM.len_sR, jM.len_fI, jM.len_fL, jM.len_fR, *]; omega)) (by first | omega | (exact R.r _ _) | (simp only [jM.len_sI, jM.len_sL, jM.len_sR, jM.len_fI, jM.len_fL, jM.len_fR]; omega) | (simp [jM.len_nw, jM.len_sI, jM.len_sL, jM.len_sR, jM.len_fI, jM.len_fL, jM.len_fR, *]; omega)) ?_
                                                    exact mQ.of (by unfold sp_portion porV; (repeat (first | rw [if_pos (by omega)] | rw [if_neg (by omega)]))))
                                               · first
                                                 | (exfalso; omega)
                                                 | (first | refine J.aload_n (pc' := 107) rfl rfl rfl ?_ | refine J.aload_nN (pc' := 107) rfl rfl rfl ?_
                                                    refine J.mgR (pc' := 110) (t := 156) B rfl fl_X12_142 rfl rfl (by decide) rfl ?_
                                                    refine J.iconst (pc' := 111) rfl rfl ?_
                                                    refine J.iload (pc' := 113) rfl rfl rfl ?_
                                                    refine J.imul (pc' := 114) rfl rfl ?_
                                                    refine J.iload_n (pc' := 115) rfl rfl rfl ?_
                                                    refine J.iconst (pc' := 116) rfl rfl ?_
                                                    refine J.isub (pc' := 117) rfl rfl ?_
                                                    refine J.iconst (pc' := 118) rfl rfl ?_
                                                    refine J.idiv (pc' := 119) rfl rfl (by first | omega | (exact R.r _ _) | (simp only [jM.len_sI, jM.len_sL, jM.len_sR, jM.len_fI, jM.len_fL, jM.len_fR]; omega) | (simp [jM.len_nw, jM.len_sI, jM.len_sL, jM.len_sR, jM.len_fI, jM.len_fL, jM.len_fR, *]; omega)) (by first | omega | (exact R.r _ _) | (simp only [jM.len_sI, jM.len_sL, jM.len_sR, jM.len_fI, jM.len_fL, jM.len_fR]; omega) | (simp [jM.len_nw, jM.len_sI, jM.len_sL, jM.len_sR, jM.len_fI, jM.len_fL, jM.len_fR, *]; omega)) (by first | omega | (exact R.r _ _) | (simp only [jM.len_sI, jM.len_sL, jM.len_sR, jM.len_fI, jM.len_fL, jM.len_fR]; omega) | (simp [jM.len_nw, jM.len_sI, jM.len_sL, jM.len_sR, jM.len_fI, jM.len_fL, jM.len_fR, *]; omega)) ?_
                                                    rw [Int.tdiv_eq_ediv_of_nonneg (by omega)]
                                                    refine J.iadd (pc' := 120) rfl rfl ?_
                                                    refine J.mald (pc' := 121) B rfl rfl rfl (by omega) (by simp only [jLn]; omega) rfl ?_
                                                    refine J.goto (tgt := 139) rfl rfl ?_
                                                    refine J.iret rfl rfl (by first | omega | (exact R.r _ _) | (simp only [jM.len_sI, jM.len_sL, jM.len_sR, jM.len_fI, jM.len_fL, jM.len_fR]; omega) | (simp [jM.len_nw, jM.len_sI, jM.len_sL, jM.len_sR, jM.len_fI, jM.len_fL, jM.len_fR, *]; omega)) (by first | omega | (exact R.r _ _) | (simp only [jM.len_sI, jM.len_sL, jM.len_sR, jM.len_fI, jM.len_fL, jM.len_fR]; omega) | (simp [jM.len_nw, jM.len_sI, jM.len_sL, jM.len_sR, jM.len_fI, jM.len_fL, jM.len_fR, *]; omega)) ?_
                                                    exact mQ.of (by unfold sp_portion porV; (repeat (first | rw [if_pos (by omega)] | rw [if_neg (by omega)])))))
                                          · first
                                            | (exfalso; omega)
                                            | (refine J.iload_n (pc' := 79) rfl rfl rfl ?_
                                               refine J.if_ne (tgt := 92) (pc' := 82) rfl rfl rfl (by first | omega | (exact R.r _ _) | (simp only [jM.len_sI, jM.len_sL, jM.len_sR, jM.len_fI, jM.len_fL, jM.len_fR]; omega) | (simp [jM.len_nw, jM.len_sI, jM.len_sL, jM.len_sR, jM.len_fI, jM.len_fL, jM.len_fR, *]; omega)) (fun c79 => ?_) (fun c79 => ?_)
                                               · first
                                                 | (exfalso; omega)
                                                 | (first | refine J.aload_n (pc' := 93) rfl rfl rfl ?_ | refine J.aload_nN (pc' := 93) rfl rfl rfl ?_
                                                    refine J.mgR (pc' := 96) (t := 155) B rfl fl_X12_139 rfl rfl (by decide) rfl ?_
                                                    refine J.iload (pc' := 98) rfl rfl rfl ?_
                                                    refine J.mald (pc' := 99) B rfl rfl rfl (by omega) (by simp only [jLn]; omega) rfl ?_
                                                    refine J.iret rfl rfl (by first | omega | (exact R.r _ _) | (simp only [jM.len_sI, jM.len_sL, jM.len_sR, jM.len_fI, jM.len_fL, jM.len_fR]; omega) | (simp [jM.len_nw, jM.len_sI, jM.len_sL, jM.len_sR, jM.len_fI, jM.len_fL, jM.len_fR, *]; omega)) (by first | omega | (exact R.r _ _) | (simp only [jM.len_sI, jM.len_sL, jM.len_sR, jM.len_fI, jM.len_fL, jM.len_fR]; omega) | (simp [jM.len_nw, jM.len_sI, jM.len_sL, jM.len_sR, jM.len_fI, jM.len_fL, jM.len_fR, *]; omega)) ?_
                                                    exact mQ.of (by unfold sp_portion porV; (repeat (first | rw [if_pos (by omega)] | rw [if_neg (by omega)]))))
                                               · first
                                                 | (exfalso; omega)
                                                 | (first | refine J.aload_n (pc' := 83) rfl rfl rfl ?_ | refine J.aload_nN (pc' := 83) rfl rfl rfl ?_
                                                    refine J.mgR (pc' := 86) (t := 154) B rfl fl_X12_136 rfl rfl (by decide) rfl ?_
                                                    refine J.iload (pc' := 88) rfl rfl rfl ?_
                                                    refine J.mald (pc' := 89) B rfl rfl rfl (by omega) (by simp only [jLn]; omega) rfl ?_
                                                    refine J.goto (tgt := 99) rfl rfl ?_
                                                    refine J.iret rfl rfl (by first | omega | (exact R.r _ _) | (simp only [jM.len_sI, jM.len_sL, jM.len_sR, jM.len_fI, jM.len_fL, jM.len_fR]; omega) | (simp [jM.len_nw, jM.len_sI, jM.len_sL, jM.len_sR, jM.len_fI, jM.len_fL, jM.len_fR, *]; omega)) (by first | omega | (exact R.r _ _) | (simp only [jM.len_sI, jM.len_sL, jM.len_sR, jM.len_fI, jM.len_fL, jM.len_fR]; omega) | (simp [jM.len_nw, jM.len_sI, jM.len_sL, jM.len_sR, jM.len_fI, jM.len_fL, jM.len_fR, *]; omega)) ?_
                                                    exact mQ.of (by unfold sp_portion porV; (repeat (first | rw [if_pos (by omega)] | rw [if_neg (by omega)]))))))
                                     · first
                                       | (exfalso; omega)
                                       | (refine J.iconst (pc' := 64) rfl rfl ?_
                                          refine J.iret rfl rfl (by first | omega | (exact R.r _ _) | (simp only [jM.len_sI, jM.len_sL, jM.len_sR, jM.len_fI, jM.len_fL, jM.len_fR]; omega) | (simp [jM.len_nw, jM.len_sI, jM.len_sL, jM.len_sR, jM.len_fI, jM.len_fL, jM.len_fR, *]; omega)) (by first | omega | (exact R.r _ _) | (simp only [jM.len_sI, jM.len_sL, jM.len_sR, jM.len_fI, jM.len_fL, jM.len_fR]; omega) | (simp [jM.len_nw, jM.len_sI, jM.len_sL, jM.len_sR, jM.len_fI, jM.len_fL, jM.len_fR, *]; omega)) ?_
                                          exact mQ.of (by unfold sp_portion porV; (repeat (first | rw [if_pos (by omega)] | rw [if_neg (by omega)])))))))))))
  · first
    | (exfalso; omega)
    | (refine J.if_eq (tgt := 63) (pc' := 13) rfl rfl rfl (by first | omega | (exact R.r _ _) | (simp only [jM.len_sI, jM.len_sL, jM.len_sR, jM.len_fI, jM.len_fL, jM.len_fR]; omega) | (simp [jM.len_nw, jM.len_sI, jM.len_sL, jM.len_sR, jM.len_fI, jM.len_fL, jM.len_fR, *]; omega)) (fun c10 => ?_) (fun c10 => ?_)
       · first
         | (exfalso; omega)
         | (refine J.iconst (pc' := 64) rfl rfl ?_
            refine J.iret rfl rfl (by first | omega | (exact R.r _ _) | (simp only [jM.len_sI, jM.len_sL, jM.len_sR, jM.len_fI, jM.len_fL, jM.len_fR]; omega) | (simp [jM.len_nw, jM.len_sI, jM.len_sL, jM.len_sR, jM.len_fI, jM.len_fL, jM.len_fR, *]; omega)) (by first | omega | (exact R.r _ _) | (simp only [jM.len_sI, jM.len_sL, jM.len_sR, jM.len_fI, jM.len_fL, jM.len_fR]; omega) | (simp [jM.len_nw, jM.len_sI, jM.len_sL, jM.len_sR, jM.len_fI, jM.len_fL, jM.len_fR, *]; omega)) ?_
            exact mQ.of (by unfold sp_portion porV; (repeat (first | rw [if_pos (by omega)] | rw [if_neg (by omega)]))))
       · first
         | (exfalso; omega)
         | (first | refine J.aload_n (pc' := 14) rfl rfl rfl ?_ | refine J.aload_nN (pc' := 14) rfl rfl rfl ?_
            refine J.iload_n (pc' := 15) rfl rfl rfl ?_
            refine J.if_lt (tgt := 32) (pc' := 18) rfl rfl rfl (by first | omega | (exact R.r _ _) | (simp only [jM.len_sI, jM.len_sL, jM.len_sR, jM.len_fI, jM.len_fL, jM.len_fR]; omega) | (simp [jM.len_nw, jM.len_sI, jM.len_sL, jM.len_sR, jM.len_fI, jM.len_fL, jM.len_fR, *]; omega)) (fun c15 => ?_) (fun c15 => ?_)
            · first
              | (exfalso; omega)
              | (refine J.iconst (pc' := 33) rfl rfl ?_
                 refine J.iconst (pc' := 34) rfl rfl ?_
                 first | refine J.callV (pc' := 37) (t := 16) rfl MX12_may ml_X12_161 iv_X12_may (by decide) ⟨_, rfl, rfl⟩ B.1 (cm_may1 B h0) rfl rfl (Nat.le_of_ble_eq_true rfl) (by first | omega | (exact R.r _ _) | (simp only [jM.len_sI, jM.len_sL, jM.len_sR, jM.len_fI, jM.len_fL, jM.len_fR]; omega) | (simp [jM.len_nw, jM.len_sI, jM.len_sL, jM.len_sR, jM.len_fI, jM.len_fL, jM.len_fR, *]; omega)) (by first | omega | (exact R.r _ _) | (simp only [jM.len_sI, jM.len_sL, jM.len_sR, jM.len_fI, jM.len_fL, jM.len_fR]; omega) | (simp [jM.len_nw, jM.len_sI, jM.len_sL, jM.len_sR, jM.len_fI, jM.len_fL, jM.len_fR, *]; omega)) (by first | omega | (exact R.r _ _) | (simp only [jM.len_sI, jM.len_sL, jM.len_sR, jM.len_fI, jM.len_fL, jM.len_fR]; omega) | (simp [jM.len_nw, jM.len_sI, jM.len_sL, jM.len_sR, jM.len_fI, jM.len_fL, jM.len_fR, *]; omega)) rfl rfl ?_ ?_ | refine J.callV (pc' := 37) (t := 16) rfl MX12_may ml_X12_161 iv_X12_may (by decide) ⟨_, rfl, rfl⟩ B.1 (cm_may0 B h0 (by omega)) rfl rfl (Nat.le_of_ble_eq_true rfl) (by first | omega | (exact R.r _ _) | (simp only [jM.len_sI, jM.len_sL, jM.len_sR, jM.len_fI, jM.len_fL, jM.len_fR]; omega) | (simp [jM.len_nw, jM.len_sI, jM.len_sL, jM.len_sR, jM.len_fI, jM.len_fL, jM.len_fR, *]; omega)) (by first | omega | (exact R.r _ _) | (simp only [jM.len_sI, jM.len_sL, jM.len_sR, jM.len_fI, jM.len_fL, jM.len_fR]; omega) | (simp [jM.len_nw, jM.len_sI, jM.len_sL, jM.len_sR, jM.len_fI, jM.len_fL, jM.len_fR, *]; omega)) (by first | omega | (exact R.r _ _) | (simp only [jM.len_sI, jM.len_sL, jM.len_sR, jM.len_fI, jM.len_fL, jM.len_fR]; omega) | (simp [jM.len_nw, jM.len_sI, jM.len_sL, jM.len_sR, jM.len_fI, jM.len_fL, jM.len_fR, *]; omega)) rfl rfl ?_ ?_
                 · exact fun _ _ h => h
                 rintro _ _ ⟨rfl, rfl⟩
                 refine J.if_eq (tgt := 63) (pc' := 40) rfl rfl rfl (by first | omega | (exact R.r _ _) | (simp only [jM.len_sI, jM.len_sL, jM.len_sR, jM.len_fI, jM.len_fL, jM.len_fR]; omega) | (simp [jM.len_nw, jM.len_sI, jM.len_sL, jM.len_sR, jM.len_fI, jM.len_fL, jM.len_fR, *]; omega)) (fun c37 => ?_) (fun c37 => ?_)
                 · first
                   | (exfalso; omega)
                   | (refine J.iconst (pc' := 64) rfl rfl ?_
                      refine J.iret rfl rfl (by first | omega | (exact R.r _ _) | (simp only [jM.len_sI, jM.len_sL, jM.len_sR, jM.len_fI, jM.len_fL, jM.len_fR]; omega) | (simp [jM.len_nw, jM.len_sI, jM.len_sL, jM.len_sR, jM.len_fI, jM.len_fL, jM.len_fR, *]; omega)) (by first | omega | (exact R.r _ _) | (simp only [jM.len_sI, jM.len_sL, jM.len_sR, jM.len_fI, jM.len_fL, jM.len_fR]; omega) | (simp [jM.len_nw, jM.len_sI, jM.len_sL, jM.len_sR, jM.len_fI, jM.len_fL, jM.len_fR, *]; omega)) ?_
                      exact mQ.of (by unfold sp_portion porV; (repeat (first | rw [if_pos (by omega)] | rw [if_neg (by omega)]))))
                 · first
                   | (exfalso; omega)
                   | (first | refine J.aload_n (pc' := 41) rfl rfl rfl ?_ | refine J.aload_nN (pc' := 41) rfl rfl rfl ?_
                      refine J.iload_n (pc' := 42) rfl rfl rfl ?_
                      refine J.if_lt (tgt := 55) (pc' := 45) rfl rfl rfl (by first | omega | (exact R.r _ _) | (simp only [jM.len_sI, jM.len_sL, jM.len_sR, jM.len_fI, jM.len_fL, jM.len_fR]; omega) | (simp [jM.len_nw, jM.len_sI, jM.len_sL, jM.len_sR, jM.len_fI, jM.len_fL, jM.len_fR, *]; omega)) (fun c42 => ?_) (fun c42 => ?_)
                      · first
                        | (exfalso; omega)
                        | (refine J.iconst (pc' := 56) rfl rfl ?_
                           refine J.iconst (pc' := 57) rfl rfl ?_
                           first | refine J.callV (pc' := 60) (t := 16) rfl MX12_may ml_X12_161 iv_X12_may (by decide) ⟨_, rfl, rfl⟩ B.1 (cm_may1 B h0) rfl rfl (Nat.le_of_ble_eq_true rfl) (by first | omega | (exact R.r _ _) | (simp only [jM.len_sI, jM.len_sL, jM.len_sR, jM.len_fI, jM.len_fL, jM.len_fR]; omega) | (simp [jM.len_nw, jM.len_sI, jM.len_sL, jM.len_sR, jM.len_fI, jM.len_fL, jM.len_fR, *]; omega)) (by first | omega | (exact R.r _ _) | (simp only [jM.len_sI, jM.len_sL, jM.len_sR, jM.len_fI, jM.len_fL, jM.len_fR]; omega) | (simp [jM.len_nw, jM.len_sI, jM.len_sL, jM.len_sR, jM.len_fI, jM.len_fL, jM.len_fR, *]; omega)) (by first | omega | (exact R.r _ _) | (simp only [jM.len_sI, jM.len_sL, jM.len_sR, jM.len_fI, jM.len_fL, jM.len_fR]; omega) | (simp [jM.len_nw, jM.len_sI, jM.len_sL, jM.len_sR, jM.len_fI, jM.len_fL, jM.len_fR, *]; omega)) rfl rfl ?_ ?_ | refine J.callV (pc' := 60) (t := 16) rfl MX12_may ml_X12_161 iv_X12_may (by decide) ⟨_, rfl, rfl⟩ B.1 (cm_may0 B h0 (by omega)) rfl rfl (Nat.le_of_ble_eq_true rfl) (by first | omega | (exact R.r _ _) | (simp only [jM.len_sI, jM.len_sL, jM.len_sR, jM.len_fI, jM.len_fL, jM.len_fR]; omega) | (simp [jM.len_nw, jM.len_sI, jM.len_sL, jM.len_sR, jM.len_fI, jM.len_fL, jM.len_fR, *]; omega)) (by first | omega | (exact R.r _ _) | (simp only [jM.len_sI, jM.len_sL, jM.len_sR, jM.len_fI, jM.len_fL, jM.len_fR]; omega) | (simp [jM.len_nw, jM.len_sI, jM.len_sL, jM.len_sR, jM.len_fI, jM.len_fL, jM.len_fR, *]; omega)) (by first | omega | (exact R.r _ _) | (simp only [jM.len_sI, jM.len_sL, jM.len_sR, jM.len_fI, jM.len_fL, jM.len_fR]; omega) | (simp [jM.len_nw, jM.len_sI, jM.len_sL, jM.len_sR, jM.len_fI, jM.len_fL, jM.len_fR, *]; omega)) rfl rfl ?_ ?_
                           · exact fun _ _ h => h
                           rintro _ _ ⟨rfl, rfl⟩
                           refine J.if_ne (tgt := 65) (pc' := 63) rfl rfl rfl (by first | omega | (exact R.r _ _) | (simp only [jM.len_sI, jM.len_sL, jM.len_sR, jM.len_fI, jM.len_fL, jM.len_fR]; omega) | (simp [jM.len_nw, jM.len_sI, jM.len_sL, jM.len_sR, jM.len_fI, jM.len_fL, jM.len_fR, *]; omega)) (fun c60 => ?_) (fun c60 => ?_)
                           · first
                             | (exfalso; omega)
                             | (refine J.bipush (pc' := 67) rfl rfl (by decide) ?_
                                refine J.iload_n (pc' := 68) rfl rfl rfl ?_
                                refine J.imul (pc' := 69) rfl rfl ?_
                                refine J.iload_n (pc' := 70) rfl rfl rfl ?_
                                refine J.iadd (pc' := 71) rfl rfl ?_
                                refine J.istore (pc' := 73) rfl rfl (by decide) ?_
                                refine J.iload_n (pc' := 74) rfl rfl rfl ?_
                                refine J.iconst (pc' := 75) rfl rfl ?_
                                refine J.icmp_ge (tgt := 100) (pc' := 78) rfl rfl rfl (by first | omega | (exact R.r _ _) | (simp only [jM.len_sI, jM.len_sL, jM.len_sR, jM.len_fI, jM.len_fL, jM.len_fR]; omega) | (simp [jM.len_nw, jM.len_sI, jM.len_sL, jM.len_sR, jM.len_fI, jM.len_fL, jM.len_fR, *]; omega)) (by first | omega | (exact R.r _ _) | (simp only [jM.len_sI, jM.len_sL, jM.len_sR, jM.len_fI, jM.len_fL, jM.len_fR]; omega) | (simp [jM.len_nw, jM.len_sI, jM.len_sL, jM.len_sR, jM.len_fI, jM.len_fL, jM.len_fR, *]; omega)) (fun c75 => ?_) (fun c75 => ?_)
                                · first
                                  | (exfalso; omega)
                                  | (refine J.iload_n (pc' := 101) rfl rfl rfl ?_
                                     refine J.iconst (pc' := 102) rfl rfl ?_
                                     refine J.irem (pc' := 103) rfl rfl (by first | omega | (exact R.r _ _) | (simp only [jM.len_sI, jM.len_sL, jM.len_sR, jM.len_fI, jM.len_fL, jM.len_fR]; omega) | (simp [jM.len_nw, jM.len_sI, jM.len_sL, jM.len_sR, jM.len_fI, jM.len_fL, jM.len_fR, *]; omega)) (by first | omega | (exact R.r _ _) | (simp only [jM.len_sI, jM.len_sL, jM.len_sR, jM.len_fI, jM.len_fL, jM.len_fR]; omega) | (simp [jM.len_nw, jM.len_sI, jM.len_sL, jM.len_sR, jM.len_fI, jM.len_fL, jM.len_fR, *]; omega)) (by first | omega | (exact R.r _ _) | (simp only [jM.len_sI, jM.len_sL, jM.len_sR, jM.len_fI, jM.len_fL, jM.len_fR]; omega) | (simp [jM.len_nw, jM.len_sI, jM.len_sL, jM.len_sR, jM.len_fI, jM.len_fL, jM.len_fR, *]; omega)) ?_
                                     rw [Int.tmod_eq_emod_of_nonneg (by omega)]
                                     refine J.if_ne (tgt := 124) (pc' := 106) rfl rfl rfl (by first | omega | (exact R.r _ _) | (simp only [jM.len_sI, jM.len_sL, jM.len_sR, jM.len_fI, jM.len_fL, jM.len_fR]; omega) | (simp [jM.len_nw, jM.len_sI, jM.len_sL, jM.len_sR, jM.len_fI, jM.len_fL, jM.len_fR, *]; omega)) (fun c103 => ?_) (fun c103 => ?_)
                                     · first
                                       | (exfalso; omega)
                                       | (first | refine J.aload_n (pc' := 125) rfl rfl rfl ?_ | refine J.aload_nN (pc' := 125) rfl rfl rfl ?_
                                          refine J.mgR (pc' := 128) (t := 157) B rfl fl_X12_145 rfl rfl (by decide) rfl ?_
                                          refine J.iconst (pc' := 129) rfl rfl ?_
                                          refine J.iload (pc' := 131) rfl rfl rfl ?_
                                          refine J.imul (pc' := 132) rfl rfl ?_
                                          refine J.iload_n (pc' := 133) rfl rfl rfl ?_
                                          refine J.iconst (pc' := 134) rfl rfl ?_
                                          refine J.isub (pc' := 135) rfl rfl ?_
                                          refine J.iconst (pc' := 136) rfl rfl ?_
                                          refine J.idiv (pc' := 137) rfl rfl (by first | omega | (exact R.r _ _) | (simp only [jM.len_sI, jM.len_sL, jM.len_sR, jM.len_fI, jM.len_fL, jM.len_fR]; omega) | (simp [jM.len_nw, jM.len_sI, jM.len_sL, jM.len_sR, jM.len_fI, jM.len_fL, jM.len_fR, *]; omega)) (by first | omega | (exact R.r _ _) | (simp only [jM.len_sI, jM.len_sL, jM.len_sR, jM.len_fI, jM.len_fL, jM.len_fR]; omega) | (simp [jM.len_nw, jM.len_sI, jM.len_sL, jM.len_sR, jM.len_fI, jM.len_fL, jM.len_fR, *]; omega)) (by first | omega | (exact R.r _ _) | (simp only [jM.len_sI, jM.len_sL, jM.len_sR, jM.len_fI, jM.len_fL, jM.len_fR]; omega) | (simp [jM.len_nw, jM.len_sI, jM.len_sL, jM.len_sR, jM.len_fI, jM.len_fL, jM.len_fR, *]; omega)) ?_
                                          rw [Int.tdiv_eq_ediv_of_nonneg (by omega)]
                                          refine J.iadd (pc' := 138) rfl rfl ?_
                                          refine J.mald (pc' := 139) B rfl rfl rfl (by omega) (by simp only [jLn]; omega) rfl ?_
                                          refine J.iret rfl rfl (by first | omega | (exact R.r _ _) | (simp only [jM.len_sI, jM.len_sL, jM.len_sR, jM.len_fI, jM.len_fL, jM.len_fR]; omega) | (simp [jM.len_nw, jM.len_sI, jM.len_sL, jM.len_sR, jM.len_fI, jM.len_fL, jM.len_fR, *]; omega)) (by first | omega | (exact R.r _ _) | (simp only [jM.len_sI, jM.len_sL, jM.len_sR, jM.len_fI, jM.len_fL, jM.len_fR]; omega) | (simp [jM.len_nw, jM.len_sI, jM.len_sL, jM.len_sR, jM.len_fI, jM.len_fL, jM.len_fR, *]; omega)) ?_
                                          exact mQ.of (by unfold sp_portion porV; (repeat (first | rw [if_pos (by omega)] | rw [if_neg (by omega)]))))
                                     · first
                                       | (exfalso; omega)
                                       | (first | refine J.aload_n (pc' := 107) rfl rfl rfl ?_ | refine J.aload_nN (pc' := 107) rfl rfl rfl ?_
                                          refine J.mgR (pc' := 110) (t := 156) B rfl fl_X12_142 rfl rfl (by decide) rfl ?_
                                          refine J.iconst (pc' := 111) rfl rfl ?_
                                          refine J.iload (pc' := 113) rfl rfl rfl ?_
                                          refine J.imul (pc' := 114) rfl rfl ?_
                                          refine J.iload_n (pc' := 115) rfl rfl rfl ?_
                                          refine J.iconst (pc' := 116) rfl rfl ?_
                                          refine J.isub (pc' := 117) rfl rfl ?_
                                          refine J.iconst (pc' := 118) rfl rfl ?_
                                          refine J.idiv (pc' := 119) rfl rfl (by first | omega | (exact R.r _ _) | (simp only [jM.len_sI, jM.len_sL, jM.len_sR, jM.len_fI, jM.len_fL, jM.len_fR]; omega) | (simp [jM.len_nw, jM.len_sI, jM.len_sL, jM.len_sR, jM.len_fI, jM.len_fL, jM.len_fR, *]; omega)) (by first | omega | (exact R.r _ _) | (simp only [jM.len_sI, jM.len_sL, jM.len_sR, jM.len_fI, jM.len_fL, jM.len_fR]; omega) | (simp [jM.len_nw, jM.len_sI, jM.len_sL, jM.len_sR, jM.len_fI, jM.len_fL, jM.len_fR, *]; omega)) (by first | omega | (exact R.r _ _) | (simp only [jM.len_sI, jM.len_sL, jM.len_sR, jM.len_fI, jM.len_fL, jM.len_fR]; omega) | (simp [jM.len_nw, jM.len_sI, jM.len_sL, jM.len_sR, jM.len_fI, jM.len_fL, jM.len_fR, *]; omega)) ?_
                                          rw [Int.tdiv_eq_ediv_of_nonneg (by omega)]
                                          refine J.iadd (pc' := 120) rfl rfl ?_
                                          refine J.mald (pc' := 121) B rfl rfl rfl (by omega) (by simp only [jLn]; omega) rfl ?_
                                          refine J.goto (tgt := 139) rfl rfl ?_
                                          refine J.iret rfl rfl (by first | omega | (exact R.r _ _) | (simp only [jM.len_sI, jM.len_sL, jM.len_sR, jM.len_fI, jM.len_fL, jM.len_fR]; omega) | (simp [jM.len_nw, jM.len_sI, jM.len_sL, jM.len_sR, jM.len_fI, jM.len_fL, jM.len_fR, *]; omega)) (by first | omega | (exact R.r _ _) | (simp only [jM.len_sI, jM.len_sL, jM.len_sR, jM.len_fI, jM.len_fL, jM.len_fR]; omega) | (simp [jM.len_nw, jM.len_sI, jM.len_sL, jM.len_sR, jM.len_fI, jM.len_fL, jM.len_fR, *]; omega)) ?_
                                          exact mQ.of (by unfold sp_portion porV; (repeat (first | rw [if_pos (by omega)] | rw [if_neg (by omega)])))))
                                · first
                                  | (exfalso; omega)
                                  | (refine J.iload_n (pc' := 79) rfl rfl rfl ?_
                                     refine J.if_ne (tgt := 92) (pc' := 82) rfl rfl rfl (by first | omega | (exact R.r _ _) | (simp only [jM.len_sI, jM.len_sL, jM.len_sR, jM.len_fI, jM.len_fL, jM.len_fR]; omega) | (simp [jM.len_nw, jM.len_sI, jM.len_sL, jM.len_sR, jM.len_fI, jM.len_fL, jM.len_fR, *]; omega)) (fun c79 => ?_) (fun c79 => ?_)
                                     · first
                                       | (exfalso; omega)
                                       | (first | refine J.aload_n (pc' := 93) rfl rfl rfl ?_ | refine J.aload_nN (pc' := 93) rfl rfl rfl ?_
                                          refine J.mgR (pc' := 96) (t := 155) B rfl fl_X12_139 rfl rfl (by decide) rfl ?_
                                          refine J.iload (pc' := 98) rfl rfl rfl ?_
                                          refine J.mald (pc' := 99) B rfl rfl rfl (by omega) (by simp only [jLn]; omega) rfl ?_
                                          refine J.iret rfl rfl (by first | omega | (exact R.r _ _) | (simp only [jM.len_sI, jM.len_sL, jM.len_sR, jM.len_fI, jM.len_fL, jM.len_fR]; omega) | (simp [jM.len_nw, jM.len_sI, jM.len_sL, jM.len_sR, jM.len_fI, jM.len_fL, jM.len_fR, *]; omega)) (by first | omega | (exact R.r _ _) | (simp only [jM.len_sI, jM.len_sL, jM.len_sR, jM.len_fI, jM.len_fL, jM.len_fR]; omega) | (simp [jM.len_nw, jM.len_sI, jM.len_sL, jM.len_sR, jM.len_fI, jM.len_fL, jM.len_fR, *]; omega)) ?_
                                          exact mQ.of (by unfold sp_portion porV; (repeat (first | rw [if_pos (by omega)] | rw [if_neg (by omega)]))))
                                     · first
                                       | (exfalso; omega)
                                       | (first | refine J.aload_n (pc' := 83) rfl rfl rfl ?_ | refine J.aload_nN (pc' := 83) rfl rfl rfl ?_
                                          refine J.mgR (pc' := 86) (t := 154) B rfl fl_X12_136 rfl rfl (by decide) rfl ?_
                                          refine J.iload (pc' := 88) rfl rfl rfl ?_
                                          refine J.mald (pc' := 89) B rfl rfl rfl (by omega) (by simp only [jLn]; omega) rfl ?_
                                          refine J.goto (tgt := 99) rfl rfl ?_
                                          refine J.iret rfl rfl (by first | omega | (exact R.r _ _) | (simp only [jM.len_sI, jM.len_sL, jM.len_sR, jM.len_fI, jM.len_fL, jM.len_fR]; omega) | (simp [jM.len_nw, jM.len_sI, jM.len_sL, jM.len_sR, jM.len_fI, jM.len_fL, jM.len_fR, *]; omega)) (by first | omega | (exact R.r _ _) | (simp only [jM.len_sI, jM.len_sL, jM.len_sR, jM.len_fI, jM.len_fL, jM.len_fR]; omega) | (simp [jM.len_nw, jM.len_sI, jM.len_sL, jM.len_sR, jM.len_fI, jM.len_fL, jM.len_fR, *]; omega)) ?_
                                          exact mQ.of (by unfold sp_portion porV; (repeat (first | rw [if_pos (by omega)] | rw [if_neg (by omega)]))))))
                           · first
                             | (exfalso; omega)
                             | (refine J.iconst (pc' := 64) rfl rfl ?_
                                refine J.iret rfl rfl (by first | omega | (exact R.r _ _) | (simp only [jM.len_sI, jM.len_sL, jM.len_sR, jM.len_fI, jM.len_fL, jM.len_fR]; omega) | (simp [jM.len_nw, jM.len_sI, jM.len_sL, jM.len_sR, jM.len_fI, jM.len_fL, jM.len_fR, *]; omega)) (by first | omega | (exact R.r _ _) | (simp only [jM.len_sI, jM.len_sL, jM.len_sR, jM.len_fI, jM.len_fL, jM.len_fR]; omega) | (simp [jM.len_nw, jM.len_sI, jM.len_sL, jM.len_sR, jM.len_fI, jM.len_fL, jM.len_fR, *]; omega)) ?_
                                exact mQ.of (by unfold sp_portion porV; (repeat (first | rw [if_pos (by omega)] | rw [if_neg (by omega)])))))
                      · first
                        | (exfalso; omega)
                        | (refine J.iload_n (pc' := 46) rfl rfl rfl ?_
                           refine J.bipush (pc' := 48) rfl rfl (by decide) ?_
                           refine J.icmp_ge (tgt := 55) (pc' := 51) rfl rfl rfl (by first | omega | (exact R.r _ _) | (simp only [jM.len_sI, jM.len_sL, jM.len_sR, jM.len_fI, jM.len_fL, jM.len_fR]; omega) | (simp [jM.len_nw, jM.len_sI, jM.len_sL, jM.len_sR, jM.len_fI, jM.len_fL, jM.len_fR, *]; omega)) (by first | omega | (exact R.r _ _) | (simp only [jM.len_sI, jM.len_sL, jM.len_sR, jM.len_fI, jM.len_fL, jM.len_fR]; omega) | (simp [jM.len_nw, jM.len_sI, jM.len_sL, jM.len_sR, jM.len_fI, jM.len_fL, jM.len_fR, *]; omega)) (fun c48 => ?_) (fun c48 => ?_)
                           · first
                             | (exfalso; omega)
                             | (refine J.iconst (pc' := 56) rfl rfl ?_
                                refine J.iconst (pc' := 57) rfl rfl ?_
                                first | refine J.callV (pc' := 60) (t := 16) rfl MX12_may ml_X12_161 iv_X12_may (by decide) ⟨_, rfl, rfl⟩ B.1 (cm_may1 B h0) rfl rfl (Nat.le_of_ble_eq_true rfl) (by first | omega | (exact R.r _ _) | (simp only [jM.len_sI, jM.len_sL, jM.len_sR, jM.len_fI, jM.len_fL, jM.len_fR]; omega) | (simp [jM.len_nw, jM.len_sI, jM.len_sL, jM.len_sR, jM.len_fI, jM.len_fL, jM.len_fR, *]; omega)) (by first | omega | (exact R.r _ _) | (simp only [jM.len_sI, jM.len_sL, jM.len_sR, jM.len_fI, jM.len_fL, jM.len_fR]; omega) | (simp [jM.len_nw, jM.len_sI, jM.len_sL, jM.len_sR, jM.len_fI, jM.len_fL, jM.len_fR, *]; omega)) (by first | omega | (exact R.r _ _) | (simp only [jM.len_sI, jM.len_sL, jM.len_sR, jM.len_fI, jM.len_fL, jM.len_fR]; omega) | (simp [jM.len_nw, jM.len_sI, jM.len_sL, jM.len_sR, jM.len_fI, jM.len_fL, jM.len_fR, *]; omega)) rfl rfl ?_ ?_ | refine J.callV (pc' := 60) (t := 16) rfl MX12_may ml_X12_161 iv_X12_may (by decide) ⟨_, rfl, rfl⟩ B.1 (cm_may0 B h0 (by omega)) rfl rfl (Nat.le_of_ble_eq_true rfl) (by first | omega | (exact R.r _ _) | (simp only [jM.len_sI, jM.len_sL, jM.len_sR, jM.len_fI, jM.len_fL, jM.len_fR]; omega) | (simp [jM.len_nw, jM.len_sI, jM.len_sL, jM.len_sR, jM.len_fI, jM.len_fL, jM.len_fR, *]; omega)) (by first | omega | (exact R.r _ _) | (simp only [jM.len_sI, jM.len_sL, jM.len_sR, jM.len_fI, jM.len_fL, jM.len_fR]; omega) | (simp [jM.len_nw, jM.len_sI, jM.len_sL, jM.len_sR, jM.len_fI, jM.len_fL, jM.len_fR, *]; omega)) (by first | omega | (exact R.r _ _) | (simp only [jM.len_sI, jM.len_sL, jM.len_sR, jM.len_fI, jM.len_fL, jM.len_fR]; omega) | (simp [jM.len_nw, jM.len_sI, jM.len_sL, jM.len_sR, jM.len_fI, jM.len_fL, jM.len_fR, *]; omega)) rfl rfl ?_ ?_
                                · exact fun _ _ h => h
                                rintro _ _ ⟨rfl, rfl⟩
                                refine J.if_ne (tgt := 65) (pc' := 63) rfl rfl rfl (by first | omega | (exact R.r _ _) | (simp only [jM.len_sI, jM.len_sL, jM.len_sR, jM.len_fI, jM.len_fL, jM.len_fR]; omega) | (simp [jM.len_nw, jM.len_sI, jM.len_sL, jM.len_sR, jM.len_fI, jM.len_fL, jM.len_fR, *]; omega)) (fun c60 => ?_) (fun c60 => ?_)
                                · first
                                  | (exfalso; omega)
                                  | (refine J.bipush (pc' := 67) rfl rfl (by decide) ?_
                                     refine J.iload_n (pc' := 68) rfl rfl rfl ?_
                                     refine J.imul (pc' := 69) rfl rfl ?_
                                     refine J.iload_n (pc' := 70) rfl rfl rfl ?_
                                     refine J.iadd (pc' := 71) rfl rfl ?_
                                     refine J.istore (pc' := 73) rfl rfl (by decide) ?_
                                     refine J.iload_n (pc' := 74) rfl rfl rfl ?_
                                     refine J.iconst (pc' := 75) rfl rfl ?_
                                     refine J.icmp_ge (tgt := 100) (pc' := 78) rfl rfl rfl (by first | omega | (exact R.r _ _) | (simp only [jM.len_sI, jM.len_sL, jM.len_sR, jM.len_fI, jM.len_fL, jM.len_fR]; omega) | (simp [jM.len_nw, jM.len_sI, jM.len_sL, jM.len_sR, jM.len_fI, jM.len_fL, jM.len_fR, *]; omega)) (by first | omega | (exact R.r _ _) | (simp only [jM.len_sI, jM.len_sL, jM.len_sR, jM.len_fI, jM.len_fL, jM.len_fR]; omega) | (simp [jM.len_nw, jM.len_sI, jM.len_sL, jM.len_sR, jM.len_fI, jM.len_fL, jM.len_fR, *]; omega)) (fun c75 => ?_) (fun c75 => ?_)
                                     · first
                                       | (exfalso; omega)
                                       | (refine J.iload_n (pc' := 101) rfl rfl rfl ?_
                                          refine J.iconst (pc' := 102) rfl rfl ?_
                                          refine J.irem (pc' := 103) rfl rfl (by first | omega | (exact R.r _ _) | (simp only [jM.len_sI, jM.len_sL, jM.len_sR, jM.len_fI, jM.len_fL, jM.len_fR]; omega) | (simp [jM.len_nw, jM.len_sI, jM.len_sL, jM.len_sR, jM.len_fI, jM.len_fL, jM.len_fR, *]; omega)) (by first | omega | (exact R.r _ _) | (simp only [jM.len_sI, jM.len_sL, jM.len_sR, jM.len_fI, jM.len_fL, jM.len_fR]; omega) | (simp [jM.len_nw, jM.len_sI, jM.len_sL, jM.len_sR, jM.len_fI, jM.len_fL, jM.len_fR, *]; omega)) (by first | omega | (exact R.r _ _) | (simp only [jM.len_sI, jM.len_sL, jM.len_sR, jM.len_fI, jM.len_fL, jM.len_fR]; omega) | (simp [jM.len_nw, jM.len_sI, jM.len_sL, jM.len_sR, jM.len_fI, jM.len_fL, jM.len_fR, *]; omega)) ?_
                                          rw [Int.tmod_eq_emod_of_nonneg (by omega)]
                                          refine J.if_ne (tgt := 124) (pc' := 106) rfl rfl rfl (by first | omega | (exact R.r _ _) | (simp only [jM.len_sI, jM.len_sL, jM.len_sR, jM.len_fI, jM.len_fL, jM.len_fR]; omega) | (simp [jM.len_nw, jM.len_sI, jM.len_sL, jM.len_sR, jM.len_fI, jM.len_fL, jM.len_fR, *]; omega)) (fun c103 => ?_) (fun c103 => ?_)
                                          · first
                                            | (exfalso; omega)
                                            | (first | refine J.aload_n (pc' := 125) rfl rfl rfl ?_ | refine J.aload_nN (pc' := 125) rfl rfl rfl ?_
                                               refine J.mgR (pc' := 128) (t := 157) B rfl fl_X12_145 rfl rfl (by decide) rfl ?_
                                               refine J.iconst (pc' := 129) rfl rfl ?_
                                               refine J.iload (pc' := 131) rfl rfl rfl ?_
                                               refine J.imul (pc' := 132) rfl rfl ?_
                                               refine J.iload_n (pc' := 133) rfl rfl rfl ?_
                                               refine J.iconst (pc' := 134) rfl rfl ?_
                                               refine J.isub (pc' := 135) rfl rfl ?_
                                               refine J.iconst (pc' := 136) rfl rfl ?_
                                               refine J.idiv (pc' := 137) rfl rfl (by first | omega | (exact R.r _ _) | (simp only [jM.len_sI, jM.len_sL, jM.len_sR, jM.len_fI, jM.len_fL, jM.len_fR]; omega) | (simp [jM.len_nw, jM.len_sI, jM.len_sL, jM.len_sR, jM.len_fI, jM.len_fL, jM.len_fR, *]; omega)) (by first | omega | (exact R.r _ _) | (simp only [jM.len_sI, jM.len_sL, jM.len_sR, jM.len_fI, jM.len_fL, jM.len_fR]; omega) | (simp [jM.len_nw, jM.len_sI, jM.len_sL, jM.len_sR, jM.len_fI, jM.len_fL, jM.len_fR, *]; omega)) (by first | omega | (exact R.r _ _) | (simp only [jM.len_sI, jM.len_sL, jM.len_sR, jM.len_fI, jM.len_fL, jM.len_fR]; omega) | (simp [jM.len_nw, jM.len_sI, jM.len_sL, jM.len_sR, jM.len_fI, jM.len_fL, jM.len_fR, *]; omega)) ?_
                                               rw [Int.tdiv_eq_ediv_of_nonneg (by omega)]
                                               refine J.iadd (pc' := 138) rfl rfl ?_
                                               refine J.mald (pc' := 139) B rfl rfl rfl (by omega) (by simp only [jLn]; omega) rfl ?_
                                               refine J.iret rfl rfl (by first | omega | (exact R.r _ _) | (simp only [jM.len_sI, jM.len_sL, jM.len_sR, jM.len_fI, jM.len_fL, jM.len_fR]; omega) | (simp [jM.len_nw, jM.len_sI, jM.len_sL, jM.len_sR, jM.len_fI, jM.len_fL, jM.len_fR, *]; omega)) (by first | omega | (exact R.r _ _) | (simp only [jM.len_sI, jM.len_sL, jM.len_sR, jM.len_fI, jM.len_fL, jM.len_fR]; omega) | (simp [jM.len_nw, jM.len_sI, jM.len_sL, jM.len_sR, jM.len_fI, jM.len_fL, jM.len_fR, *]; omega)) ?_
                                               exact mQ.of (by unfold sp_portion porV; (repeat (first | rw [if_pos (by omega)] | rw [if_neg (by omega)]))))
                                          · first
                                            | (exfalso; omega)
                                            | (first | refine J.aload_n (pc' := 107) rfl rfl rfl ?_ | refine J.aload_nN (pc' := 107) rfl rfl rfl ?_
                                               refine J.mgR (pc' := 110) (t := 156) B rfl fl_X12_142 rfl rfl (by decide) rfl ?_
                                               refine J.iconst (pc' := 111) rfl rfl ?_
                                               refine J.iload (pc' := 113) rfl rfl rfl ?_
                                               refine J.imul (pc' := 114) rfl rfl ?_
                                               refine J.iload_n (pc' := 115) rfl rfl rfl ?_
                                               refine J.iconst (pc' := 116) rfl rfl ?_
                                               refine J.isub (pc' := 117) rfl rfl ?_
                                               refine J.iconst (pc' := 118) rfl rfl ?_
                                               refine J.idiv (pc' := 119) rfl rfl (by first | omega | (exact R.r _ _) | (simp only [jM.len_sI, jM.len_sL, jM.len_sR, jM.len_fI, jM.len_fL, jM.len_fR]; omega) | (simp [jM.len_nw, jM.len_sI, jM.len_sL, jM.len_sR, jM.len_fI, jM.len_fL, jM.len_fR, *]; omega)) (by first | omega | (exact R.r _ _) | (simp only [jM.len_sI, jM.len_sL, jM.len_sR, jM.len_fI, jM.len_fL, jM.len_fR]; omega) | (simp [jM.len_nw, jM.len_sI, jM.len_sL, jM.len_sR, jM.len_fI, jM.len_fL, jM.len_fR, *]; omega)) (by first | omega | (exact R.r _ _) | (simp only [jM.len_sI, jM.len_sL, jM.len_sR, jM.len_fI, jM.len_fL, jM.len_fR]; omega) | (simp [jM.len_nw, jM.len_sI, jM.len_sL, jM.len_sR, jM.len_fI, jM.len_fL, jM.len_fR, *]; omega)) ?_
                                               rw [Int.tdiv_eq_ediv_of_nonneg (by omega)]
                                               refine J.iadd (pc' := 120) rfl rfl ?_
                                               refine J.mald (pc' := 121) B rfl rfl rfl (by omega) (by simp only [jLn]; omega) rfl ?_
                                               refine J.goto (tgt := 139) rfl rfl ?_
                                               refine J.iret rfl rfl (by first | omega | (exact R.r _ _) | (simp only [jM.len_sI, jM.len_sL, jM.len_sR, jM.len_fI, jM.len_fL, jM.len_fR]; omega) | (simp [jM.len_nw, jM.len_sI, jM.len_sL, jM.len_sR, jM.len_fI, jM.len_fL, jM.len_fR, *]; omega)) (by first | omega | (exact R.r _ _) | (simp only [jM.len_sI, jM.len_sL, jM.len_sR, jM.len_fI, jM.len_fL, jM.len_fR]; omega) | (simp [jM.len_nw, jM.len_sI, jM.len_sL, jM.len_sR, jM.len_fI, jM.len_fL, jM.len_fR, *]; omega)) ?_
                                               exact mQ.of (by unfold sp_portion porV; (repeat (first | rw [if_pos (by omega)] | rw [if_neg (by omega)])))))
                                     · first
                                       | (exfalso; omega)
                                       | (refine J.iload_n (pc' := 79) rfl rfl rfl ?_
                                          refine J.if_ne (tgt := 92) (pc' := 82) rfl rfl rfl (by first | omega | (exact R.r _ _) | (simp only [jM.len_sI, jM.len_sL, jM.len_sR, jM.len_fI, jM.len_fL, jM.len_fR]; omega) | (simp [jM.len_nw, jM.len_sI, jM.len_sL, jM.len_sR, jM.len_fI, jM.len_fL, jM.len_fR, *]; omega)) (fun c79 => ?_) (fun c79 => ?_)
                                          · first
                                            | (exfalso; omega)
                                            | (first | refine J.aload_n (pc' := 93) rfl rfl rfl ?_ | refine J.aload_nN (pc' := 93) rfl rfl rfl ?_
                                               refine J.mgR (pc' := 96) (t := 155) B rfl fl_X12_139 rfl rfl (by decide) rfl ?_
                                               refine J.iload (pc' := 98) rfl rfl rfl ?_
                                               refine J.mald (pc' := 99) B rfl rfl rfl (by omega) (by simp only [jLn]; omega) rfl ?_
                                               refine J.iret rfl rfl (by first | omega | (exact R.r _ _) | (simp only [jM.len_sI, jM.len_sL, jM.len_sR, jM.len_fI, jM.len_fL, jM.len_fR]; omega) | (simp [jM.len_nw, jM.len_sI, jM.len_sL, jM.len_sR, jM.len_fI, jM.len_fL, jM.len_fR, *]; omega)) (by first | omega | (exact R.r _ _) | (simp only [jM.len_sI, jM.len_sL, jM.len_sR, jM.len_fI, jM.len_fL, jM.len_fR]; omega) | (simp [jM.len_nw, jM.len_sI, jM.len_sL, jM.len_sR, jM.len_fI, jM.len_fL, jM.len_fR, *]; omega)) ?_
                                               exact mQ.of (by unfold sp_portion porV; (repeat (first | rw [if_pos (by omega)] | rw [if_neg (by omega)]))))
                                          · first
                                            | (exfalso; omega)
                                            | (first | refine J.aload_n (pc' := 83) rfl rfl rfl ?_ | refine J.aload_nN (pc' := 83) rfl rfl rfl ?_
                                               refine J.mgR (pc' := 86) (t := 154) B rfl fl_X12_136 rfl rfl (by decide) rfl ?_
                                               refine J.iload (pc' := 88) rfl rfl rfl ?_
                                               refine J.mald (pc' := 89) B rfl rfl rfl (by omega) (by simp only [jLn]; omega) rfl ?_
                                               refine J.goto (tgt := 99) rfl rfl ?_
                                               refine J.iret rfl rfl (by first | omega | (exact R.r _ _) | (simp only [jM.len_sI, jM.len_sL, jM.len_sR, jM.len_fI, jM.len_fL, jM.len_fR]; omega) | (simp [jM.len_nw, jM.len_sI, jM.len_sL, jM.len_sR, jM.len_fI, jM.len_fL, jM.len_fR, *]; omega)) (by first | omega | (exact R.r _ _) | (simp only [jM.len_sI, jM.len_sL, jM.len_sR, jM.len_fI, jM.len_fL, jM.len_fR]; omega) | (simp [jM.len_nw, jM.len_sI, jM.len_sL, jM.len_sR, jM.len_fI, jM.len_fL, jM.len_fR, *]; omega)) ?_
                                               exact mQ.of (by unfold sp_portion porV; (repeat (first | rw [if_pos (by omega)] | rw [if_neg (by omega)]))))))
                                · first
                                  | (exfalso; omega)
                                  | (refine J.iconst (pc' := 64) rfl rfl ?_
                                     refine J.iret rfl rfl (by first | omega | (exact R.r _ _) | (simp only [jM.len_sI, jM.len_sL, jM.len_sR, jM.len_fI, jM.len_fL, jM.len_fR]; omega) | (simp [jM.len_nw, jM.len_sI, jM.len_sL, jM.len_sR, jM.len_fI, jM.len_fL, jM.len_fR, *]; omega)) (by first | omega | (exact R.r _ _) | (simp only [jM.len_sI, jM.len_sL, jM.len_sR, jM.len_fI, jM.len_fL, jM.len_fR]; omega) | (simp [jM.len_nw, jM.len_sI, jM.len_sL, jM.len_sR, jM.len_fI, jM.len_fL, jM.len_fR, *]; omega)) ?_
                                     exact mQ.of (by unfold sp_portion porV; (repeat (first | rw [if_pos (by omega)] | rw [if_neg (by omega)])))))
                           · first
                             | (exfalso; omega)
                             | (refine J.iconst (pc' := 52) rfl rfl ?_
                                refine J.goto (tgt := 56) rfl rfl ?_
                                refine J.iconst (pc' := 57) rfl rfl ?_
                                first | refine J.callV (pc' := 60) (t := 16) rfl MX12_may ml_X12_161 iv_X12_may (by decide) ⟨_, rfl, rfl⟩ B.1 (cm_may1 B h0) rfl rfl (Nat.le_of_ble_eq_true rfl) (by first | omega | (exact R.r _ _) | (simp only [jM.len_sI, jM.len_sL, jM.len_sR, jM.len_fI, jM.len_fL, jM.len_fR]; omega) | (simp [jM.len_nw, jM.len_sI, jM.len_sL, jM.len_sR, jM.len_fI, jM.len_fL, jM.len_fR, *]; omega)) (by first | omega | (exact R.r _ _) | (simp only [jM.len_sI, jM.len_sL, jM.len_sR, jM.len_fI, jM.len_fL, jM.len_fR]; omega) | (simp [jM.len_nw, jM.len_sI, jM.len_sL, jM.len_sR, jM.len_fI, jM.len_fL, jM.len_fR, *]; omega)) (by first | omega | (exact R.r _ _) | (simp only [jM.len_sI, jM.len_sL, jM.len_sR, jM.len_fI, jM.len_fL, jM.len_fR]; omega) | (simp [jM.len_nw, jM.len_sI, jM.len_sL, jM.len_sR, jM.len_fI, jM.len_fL, jM.len_fR, *]; omega)) rfl rfl ?_ ?_ | refine J.callV (pc' := 60) (t := 16) rfl MX12_may ml_X12_161 iv_X12_may (by decide) ⟨_, rfl, rfl⟩ B.1 (cm_may0 B h0 (by omega)) rfl rfl (Nat.le_of_ble_eq_true rfl) (by first | omega | (exact R.r _ _) | (simp only [jM.len_sI, jM.len_sL, jM.len_sR, jM.len_fI, jM.len_fL, jM.len_fR]; omega) | (simp [jM.len_nw, jM.len_sI, jM.len_sL, jM.len_sR, jM.len_fI, jM.len_fL, jM.len_fR, *]; omega)) (by first | omega | (exact R.r _ _) | (simp only [jM.len_sI, jM.len_sL, jM.len_sR, jM.len_fI, jM.len_fL, jM.len_fR]; omega) | (simp [jM.len_nw, jM.len_sI, jM.len_sL, jM.len_sR, jM.len_fI, jM.len_fL, jM.len_fR, *]; omega)) (by first | omega | (exact R.r _ _) | (simp only [jM.len_sI, jM.len_sL, jM.len_sR, jM.len_fI, jM.len_fL, jM.len_fR]; omega) | (simp [jM.len_nw, jM.len_sI, jM.len_sL, jM.len_sR, jM.len_fI, jM.len_fL, jM.len_fR, *]; omega)) rfl rfl ?_ ?_
                                · exact fun _ _ h => h
                                rintro _ _ ⟨rfl, rfl⟩
                                refine J.if_ne (tgt := 65) (pc' := 63) rfl rfl rfl (by first | omega | (exact R.r _ _) | (simp only [jM.len_sI, jM.len_sL, jM.len_sR, jM.len_fI, jM.len_fL, jM.len_fR]; omega) | (simp [jM.len_nw, jM.len_sI, jM.len_sL, jM.len_sR, jM.len_fI, jM.len_fL, jM.len_fR, *]; omega)) (fun c60 => ?_) (fun c60 => ?_)
                                · first
                                  | (exfalso; omega)
                                  | (refine J.bipush (pc' := 67) rfl rfl (by decide) ?_
                                     refine J.iload_n (pc' := 68) rfl rfl rfl ?_
                                     refine J.imul (pc' := 69) rfl rfl ?_
                                     refine J.iload_n (pc' := 70) rfl rfl rfl ?_
                                     refine J.iadd (pc' := 71) rfl rfl ?_
                                     refine J.istore (pc' := 73) rfl rfl (by decide) ?_
                                     refine J.iload_n (pc' := 74) rfl rfl rfl ?_
                                     refine J.iconst (pc' := 75) rfl rfl ?_
                                     refine J.icmp_ge (tgt := 100) (pc' := 78) rfl rfl rfl (by first | omega | (exact R.r _ _) | (simp only [jM.len_sI, jM.len_sL, jM.len_sR, jM.len_fI, jM.len_fL, jM.len_fR]; omega) | (simp [jM.len_nw, jM.len_sI, jM.len_sL, jM.len_sR, jM.len_fI, jM.len_fL, jM.len_fR, *]; omega)) (by first | omega | (exact R.r _ _) | (simp only [jM.len_sI, jM.len_sL, jM.len_sR, jM.len_fI, jM.len_fL, jM.len_fR]; omega) | (simp [jM.len_nw, jM.len_sI, jM.len_sL, jM.len_sR, jM.len_fI, jM.len_fL, jM.len_fR, *]; omega)) (fun c75 => ?_) (fun c75 => ?_)
                                     · first
                                       | (exfalso; omega)
                                       | (refine J.iload_n (pc' := 101) rfl rfl rfl ?_
                                          refine J.iconst (pc' := 102) rfl rfl ?_
                                          refine J.irem (pc' := 103) rfl rfl (by first | omega | (exact R.r _ _) | (simp only [jM.len_sI, jM.len_sL, jM.len_sR, jM.len_fI, jM.len_fL, jM.len_fR]; omega) | (simp [jM.len_nw, jM.len_sI, jM.len_sL, jM.len_sR, jM.len_fI, jM.len_fL, jM.len_fR, *]; omega)) (by first | omega | (exact R.r _ _) | (simp only [jM.len_sI, jM.len_sL, jM.len_sR, jM.len_fI, jM.len_fL, jM.len_fR]; omega) | (simp [jM.len_nw, jM.len_sI, jM.len_sL, jM.len_sR, jM.len_fI, jM.len_fL, jM.len_fR, *]; omega)) (by first | omega | (exact R.r _ _) | (simp only [jM.len_sI, jM.len_sL, jM.len_sR, jM.len_fI, jM.len_fL, jM.len_fR]; omega) | (simp [jM.len_nw, jM.len_sI, jM.len_sL, jM.len_sR, jM.len_fI, jM.len_fL, jM.len_fR, *]; omega)) ?_
                                          rw [Int.tmod_eq_emod_of_nonneg (by omega)]
                                          refine J.if_ne (tgt := 124) (pc' := 106) rfl rfl rfl (by first | omega | (exact R.r _ _) | (simp only [jM.len_sI, jM.len_sL, jM.len_sR, jM.len_fI, jM.len_fL, jM.len_fR]; omega) | (simp [jM.len_nw, jM.len_sI, jM.len_sL, jM.len_sR, jM.len_fI, jM.len_fL, jM.len_fR, *]; omega)) (fun c103 => ?_) (fun c103 => ?_)
                                          · first
                                            | (exfalso; omega)
                                            | (first | refine J.aload_n (pc' := 125) rfl rfl rfl ?_ | refine J.aload_nN (pc' := 125) rfl rfl rfl ?_
                                               refine J.mgR (pc' := 128) (t := 157) B rfl fl_X12_145 rfl rfl (by decide) rfl ?_
                                               refine J.iconst (pc' := 129) rfl rfl ?_
                                               refine J.iload (pc' := 131) rfl rfl rfl ?_
                                               refine J.imul (pc' := 132) rfl rfl ?_
                                               refine J.iload_n (pc' := 133) rfl rfl rfl ?_
                                               refine J.iconst (pc' := 134) rfl rfl ?_
                                               refine J.isub (pc' := 135) rfl rfl ?_
                                               refine J.iconst (pc' := 136) rfl rfl ?_
                                               refine J.idiv (pc' := 137) rfl rfl (by first | omega | (exact R.r _ _) | (simp only [jM.len_sI, jM.len_sL, jM.len_sR, jM.len_fI, jM.len_fL, jM.len_fR]; omega) | (simp [jM.len_nw, jM.len_sI, jM.len_sL, jM.len_sR, jM.len_fI, jM.len_fL, jM.len_fR, *]; omega)) (by first | omega | (exact R.r _ _) | (simp only [jM.len_sI, jM.len_sL, jM.len_sR, jM.len_fI, jM.len_fL, jM.len_fR]; omega) | (simp [jM.len_nw, jM.len_sI, jM.len_sL, jM.len_sR, jM.len_fI, jM.len_fL, jM.len_fR, *]; omega)) (by first | omega | (exact R.r _ _) | (simp only [jM.len_sI, jM.len_sL, jM.len_sR, jM.len_fI, jM.len_fL, jM.len_fR]; omega) | (simp [jM.len_nw, jM.len_sI, jM.len_sL, jM.len_sR, jM.len_fI, jM.len_fL, jM.len_fR, *]; omega)) ?_
                                               rw [Int.tdiv_eq_ediv_of_nonneg (by omega)]
                                               refine J.iadd (pc' := 138) rfl rfl ?_
                                               refine J.mald (pc' := 139) B rfl rfl rfl (by omega) (by simp only [jLn]; omega) rfl ?_
                                               refine J.iret rfl rfl (by first | omega | (exact R.r _ _) | (simp only [jM.len_sI, jM.len_sL, jM.len_sR, jM.len_fI, jM.len_fL, jM.len_fR]; omega) | (simp [jM.len_nw, jM.len_sI, jM.len_sL, jM.len_sR, jM.len_fI, jM.len_fL, jM.len_fR, *]; omega)) (by first | omega | (exact R.r _ _) | (simp only [jM.len_sI, jM.len_sL, jM.len_sR, jM.len_fI, jM.len_fL, jM.len_fR]; omega) | (simp [jM.len_nw, jM.len_sI, jM.len_sL, jM.len_sR, jM.len_fI, jM.len_fL, jM.len_fR, *]; omega)) ?_
                                               exact mQ.of (by unfold sp_portion porV; (repeat (first | rw [if_pos (by omega)] | rw [if_neg (by omega)]))))
                                          · first
                                            | (exfalso; omega)
                                            | (first | refine J.aload_n (pc' := 107) rfl rfl rfl ?_ | refine J.aload_nN (pc' := 107) rfl rfl rfl ?_
                                               refine J.mgR (pc' := 110) (t := 156) B rfl fl_X12_142 rfl rfl (by decide) rfl ?_
                                               refine J.iconst (pc' := 111) rfl rfl ?_
                                               refine J.iload (pc' := 113) rfl rfl rfl ?_
                                               refine J.imul (pc' := 114) rfl rfl ?_
                                               refine J.iload_n (pc' := 115) rfl rfl rfl ?_
                                               refine J.iconst (pc' := 116) rfl rfl ?_
                                               refine J.isub (pc' := 117) rfl rfl ?_
                                               refine J.iconst (pc' := 118) rfl rfl ?_
                                               refine J.idiv (pc' := 119) rfl rfl (by first | omega | (exact R.r _ _) | (simp only [jM.len_sI, jM.len_sL, jM.len_sR, jM.len_fI, jM.len_fL, jM.len_fR]; omega) | (simp [jM.len_nw, jM.len_sI, jM.len_sL, jM.len_sR, jM.len_fI, jM.len_fL, jM.len_fR, *]; omega)) (by first | omega | (exact R.r _ _) | (simp only [jM.len_sI, jM.len_sL, jM.len_sR, jM.len_fI, jM.len_fL, jM.len_fR]; omega) | (simp [jM.len_nw, jM.len_sI, jM.len_sL, jM.len_sR, jM.len_fI, jM.len_fL, jM.len_fR, *]; omega)) (by first | omega | (exact R.r _ _) | (simp only [jM.len_sI, jM.len_sL, jM.len_sR, jM.len_fI, jM.len_fL, jM.len_fR]; omega) | (simp [jM.len_nw, jM.len_sI, jM.len_sL, jM.len_sR, jM.len_fI, jM.len_fL, jM.len_fR, *]; omega)) ?_
                                               rw [Int.tdiv_eq_ediv_of_nonneg (by omega)]
                                               refine J.iadd (pc' := 120) rfl rfl ?_
                                               refine J.mald (pc' := 121) B rfl rfl rfl (by omega) (by simp only [jLn]; omega) rfl ?_
                                               refine J.goto (tgt := 139) rfl rfl ?_
                                               refine J.iret rfl rfl (by first | omega | (exact R.r _ _) | (simp only [jM.len_sI, jM.len_sL, jM.len_sR, jM.len_fI, jM.len_fL, jM.len_fR]; omega) | (simp [jM.len_nw, jM.len_sI, jM.len_sL, jM.len_sR, jM.len_fI, jM.len_fL, jM.len_fR, *]; omega)) (by first | omega | (exact R.r _ _) | (simp only [jM.len_sI, jM.len_sL, jM.len_sR, jM.len_fI, jM.len_fL, jM.len_fR]; omega) | (simp [jM.len_nw, jM.len_sI, jM.len_sL, jM.len_sR, jM.len_fI, jM.len_fL, jM.len_fR, *]; omega)) ?_
                                               exact mQ.of (by unfold sp_portion porV; (repeat (first | rw [if_pos (by omega)] | rw [if_neg (by omega)])))))
                                     · first
                                       | (exfalso; omega)
                                       | (refine J.iload_n (pc' := 79) rfl rfl rfl ?_
                                          refine J.if_ne (tgt := 92) (pc' := 82) rfl rfl rfl (by first | omega | (exact R.r _ _) | (simp only [jM.len_sI, jM.len_sL, jM.len_sR, jM.len_fI, jM.len_fL, jM.len_fR]; omega) | (simp [jM.len_nw, jM.len_sI, jM.len_sL, jM.len_sR, jM.len_fI, jM.len_fL, jM.len_fR, *]; omega)) (fun c79 => ?_) (fun c79 => ?_)
                                          · first
                                            | (exfalso; omega)
                                            | (first | refine J.aload_n (pc' := 93) rfl rfl rfl ?_ | refine J.aload_nN (pc' := 93) rfl rfl rfl ?_
                                               refine J.mgR (pc' := 96) (t := 155) B rfl fl_X12_139 rfl rfl (by decide) rfl ?_
                                               refine J.iload (pc' := 98) rfl rfl rfl ?_
                                               refine J.mald (pc' := 99) B rfl rfl rfl (by omega) (by simp only [jLn]; omega) rfl ?_
                                               refine J.iret rfl rfl (by first | omega | (exact R.r _ _) | (simp only [jM.len_sI, jM.len_sL, jM.len_sR, jM.len_fI, jM.len_fL, jM.len_fR]; omega) | (simp [jM.len_nw, jM.len_sI, jM.len_sL, jM.len_sR, jM.len_fI, jM.len_fL, jM.len_fR, *]; omega)) (by first | omega | (exact R.r _ _) | (simp only [jM.len_sI, jM.len_sL, jM.len_sR, jM.len_fI, jM.len_fL, jM.len_fR]; omega) | (simp [jM.len_nw, jM.len_sI, jM.len_sL, jM.len_sR, jM.len_fI, jM.len_fL, jM.len_fR, *]; omega)) ?_
                                               exact mQ.of (by unfold sp_portion porV; (repeat (first | rw [if_pos (by omega)] | rw [if_neg (by omega)]))))
                                          · first
                                            | (exfalso; omega)
                                            | (first | refine J.aload_n (pc' := 83) rfl rfl rfl ?_ | refine J.aload_nN (pc' := 83) rfl rfl rfl ?_
                                               refine J.mgR (pc' := 86) (t := 154) B rfl fl_X12_136 rfl rfl (by decide) rfl ?_
                                               refine J.iload (pc' := 88) rfl rfl rfl ?_
                                               refine J.mald (pc' := 89) B rfl rfl rfl (by omega) (by simp only [jLn]; omega) rfl ?_
                                               refine J.goto (tgt := 99) rfl rfl ?_
                                               refine J.iret rfl rfl (by first | omega | (exact R.r _ _) | (simp only [jM.len_sI, jM.len_sL, jM.len_sR, jM.len_fI, jM.len_fL, jM.len_fR]; omega) | (simp [jM.len_nw, jM.len_sI, jM.len_sL, jM.len_sR, jM.len_fI, jM.len_fL, jM.len_fR, *]; omega)) (by first | omega | (exact R.r _ _) | (simp only [jM.len_sI, jM.len_sL, jM.len_sR, jM.len_fI, jM.len_fL, jM.len_fR]; omega) | (simp [jM.len_nw, jM.len_sI, jM.len_sL, jM.len_sR, jM.len_fI, jM.len_fL, jM.len_fR, *]; omega)) ?_
                                               exact mQ.of (by unfold sp_portion porV; (repeat (first | rw [if_pos (by omega)] | rw [if_neg (by omega)]))))))
                                · first
                                  | (exfalso; omega)
                                  | (refine J.iconst (pc' := 64) rfl rfl ?_
                                     refine J.iret rfl rfl (by first | omega | (exact R.r _ _) | (simp only [jM.len_sI, jM.len_sL, jM.len_sR, jM.len_fI, jM.len_fL, jM.len_fR]; omega) | (simp [jM.len_nw, jM.len_sI, jM.len_sL, jM.len_sR, jM.len_fI, jM.len_fL, jM.len_fR, *]; omega)) (by first | omega | (exact R.r _ _) | (simp only [jM.len_sI, jM.len_sL, jM.len_sR, jM.len_fI, jM.len_fL, jM.len_fR]; omega) | (simp [jM.len_nw, jM.len_sI, jM.len_sL, jM.len_sR, jM.len_fI, jM.len_fL, jM.len_fR, *]; omega)) ?_
                                     exact mQ.of (by unfold sp_portion porV; (repeat (first | rw [if_pos (by omega)] | rw [if_neg (by omega)]))))))))
            · first
              | (exfalso; omega)
              | (refine J.iload_n (pc' := 19) rfl rfl rfl ?_
                 first | refine J.aload_n (pc' := 20) rfl rfl rfl ?_ | refine J.aload_nN (pc' := 20) rfl rfl rfl ?_
                 refine J.mgR (pc' := 23) (t := 153) B rfl fl_X12_133 rfl rfl (by decide) rfl ?_
                 refine J.iload_n (pc' := 24) rfl rfl rfl ?_
                 refine J.mald (pc' := 25) B rfl rfl rfl (by omega) (by simp only [jLn]; omega) rfl ?_
                 refine J.icmp_ge (tgt := 32) (pc' := 28) rfl rfl rfl (by first | omega | (exact R.r _ _) | (simp only [jM.len_sI, jM.len_sL, jM.len_sR, jM.len_fI, jM.len_fL, jM.len_fR]; omega) | (simp [jM.len_nw, jM.len_sI, jM.len_sL, jM.len_sR, jM.len_fI, jM.len_fL, jM.len_fR, *]; omega)) (by first | omega | (exact R.r _ _) | (simp only [jM.len_sI, jM.len_sL, jM.len_sR, jM.len_fI, jM.len_fL, jM.len_fR]; omega) | (simp [jM.len_nw, jM.len_sI, jM.len_sL, jM.len_sR, jM.len_fI, jM.len_fL, jM.len_fR, *]; omega)) (fun c25 => ?_) (fun c25 => ?_)
                 · first
                   | (exfalso; omega)
                   | (refine J.iconst (pc' := 33) rfl rfl ?_
                      refine J.iconst (pc' := 34) rfl rfl ?_
                      first | refine J.callV (pc' := 37) (t := 16) rfl MX12_may ml_X12_161 iv_X12_may (by decide) ⟨_, rfl, rfl⟩ B.1 (cm_may1 B h0) rfl rfl (Nat.le_of_ble_eq_true rfl) (by first | omega | (exact R.r _ _) | (simp only [jM.len_sI, jM.len_sL, jM.len_sR, jM.len_fI, jM.len_fL, jM.len_fR]; omega) | (simp [jM.len_nw, jM.len_sI, jM.len_sL, jM.len_sR, jM.len_fI, jM.len_fL, jM.len_fR, *]; omega)) (by first | omega | (exact R.r _ _) | (simp only [jM.len_sI, jM.len_sL, jM.len_sR, jM.len_fI, jM.len_fL, jM.len_fR]; omega) | (simp [jM.len_nw, jM.len_sI, jM.len_sL, jM.len_sR, jM.len_fI, jM.len_fL, jM.len_fR, *]; omega)) (by first | omega | (exact R.r _ _) | (simp only [jM.len_sI, jM.len_sL, jM.len_sR, jM.len_fI, jM.len_fL, jM.len_fR]; omega) | (simp [jM.len_nw, jM.len_sI, jM.len_sL, jM.len_sR, jM.len_fI, jM.len_fL, jM.len_fR, *]; omega)) rfl rfl ?_ ?_ | refine J.callV (pc' := 37) (t := 16) rfl MX12_may ml_X12_161 iv_X12_may (by decide) ⟨_, rfl, rfl⟩ B.1 (cm_may0 B h0 (by omega)) rfl rfl (Nat.le_of_ble_eq_true rfl) (by first | omega | (exact R.r _ _) | (simp only [jM.len_sI, jM.len_sL, jM.len_sR, jM.len_fI, jM.len_fL, jM.len_fR]; omega) | (simp [jM.len_nw, jM.len_sI, jM.len_sL, jM.len_sR, jM.len_fI, jM.len_fL, jM.len_fR, *]; omega)) (by first | omega | (exact R.r _ _) | (simp only [jM.len_sI, jM.len_sL, jM.len_sR, jM.len_fI, jM.len_fL, jM.len_fR]; omega) | (simp [jM.len_nw, jM.len_sI, jM.len_sL, jM.len_sR, jM.len_fI, jM.len_fL, jM.len_fR, *]; omega)) (by first | omega | (exact R.r _ _) | (simp only [jM.len_sI, jM.len_sL, jM.len_sR, jM.len_fI, jM.len_fL, jM.len_fR]; omega) | (simp [jM.len_nw, jM.len_sI, jM.len_sL, jM.len_sR, jM.len_fI, jM.len_fL, jM.len_fR, *]; omega)) rfl rfl ?_ ?_
                      · exact fun _ _ h => h
                      rintro _ _ ⟨rfl, rfl⟩
                      refine J.if_eq (tgt := 63) (pc' := 40) rfl rfl rfl (by first | omega | (exact R.r _ _) | (simp only [jM.len_sI, jM.len_sL, jM.len_sR, jM.len_fI, jM.len_fL, jM.len_fR]; omega) | (simp [jM.len_nw, jM.len_sI, jM.len_sL, jM.len_sR, jM.len_fI, jM.len_fL, jM.len_fR, *]; omega)) (fun c37 => ?_) (fun c37 => ?_)
                      · first
                        | (exfalso; omega)
                        | (refine J.iconst (pc' := 64) rfl rfl ?_
                           refine J.iret rfl rfl (by first | omega | (exact R.r _ _) | (simp only [jM.len_sI, jM.len_sL, jM.len_sR, jM.len_fI, jM.len_fL, jM.len_fR]; omega) | (simp [jM.len_nw, jM.len_sI, jM.len_sL, jM.len_sR, jM.len_fI, jM.len_fL, jM.len_fR, *]; omega)) (by first | omega | (exact R.r _ _) | (simp only [jM.len_sI, jM.len_sL, jM.len_sR, jM.len_fI, jM.len_fL, jM.len_fR]; omega) | (simp [jM.len_nw, jM.len_sI, jM.len_sL, jM.len_sR, jM.len_fI, jM.len_fL, jM.len_fR, *]; omega)) ?_
                           exact mQ.of (by unfold sp_portion porV; (repeat (first | rw [if_pos (by omega)] | rw [if_neg (by omega)]))))
                      · first
                        | (exfalso; omega)
                        | (first | refine J.aload_n (pc' := 41) rfl rfl rfl ?_ | refine J.aload_nN (pc' := 41) rfl rfl rfl ?_
                           refine J.iload_n (pc' := 42) rfl rfl rfl ?_
                           refine J.if_lt (tgt := 55) (pc' := 45) rfl rfl rfl (by first | omega | (exact R.r _ _) | (simp only [jM.len_sI, jM.len_sL, jM.len_sR, jM.len_fI, jM.len_fL, jM.len_fR]; omega) | (simp [jM.len_nw, jM.len_sI, jM.len_sL, jM.len_sR, jM.len_fI, jM.len_fL, jM.len_fR, *]; omega)) (fun c42 => ?_) (fun c42 => ?_)
                           · first
                             | (exfalso; omega)
                             | (refine J.iconst (pc' := 56) rfl rfl ?_
                                refine J.iconst (pc' := 57) rfl rfl ?_
                                first | refine J.callV (pc' := 60) (t := 16) rfl MX12_may ml_X12_161 iv_X12_may (by decide) ⟨_, rfl, rfl⟩ B.1 (cm_may1 B h0) rfl rfl (Nat.le_of_ble_eq_true rfl) (by first | omega | (exact R.r _ _) | (simp only [jM.len_sI, jM.len_sL, jM.len_sR, jM.len_fI, jM.len_fL, jM.len_fR]; omega) | (simp [jM.len_nw, jM.len_sI, jM.len_sL, jM.len_sR, jM.len_fI, jM.len_fL, jM.len_fR, *]; omega)) (by first | omega | (exact R.r _ _) | (simp only [jM.len_sI, jM.len_sL, jM.len_sR, jM.len_fI, jM.len_fL, jM.len_fR]; omega) | (simp [jM.len_nw, jM.len_sI, jM.len_sL, jM.len_sR, jM.len_fI, jM.len_fL, jM.len_fR, *]; omega)) (by first | omega | (exact R.r _ _) | (simp only [jM.len_sI, jM.len_sL, jM.len_sR, jM.len_fI, jM.len_fL, jM.len_fR]; omega) | (simp [jM.len_nw, jM.len_sI, jM.len_sL, jM.len_sR, jM.len_fI, jM.len_fL, jM.len_fR, *]; omega)) rfl rfl ?_ ?_ | refine J.callV (pc' := 60) (t := 16) rfl MX12_may ml_X12_161 iv_X12_may (by decide) ⟨_, rfl, rfl⟩ B.1 (cm_may0 B h0 (by omega)) rfl rfl (Nat.le_of_ble_eq_true rfl) (by first | omega | (exact R.r _ _) | (simp only [jM.len_sI, jM.len_sL, jM.len_sR, jM.len_fI, jM.len_fL, jM.len_fR]; omega) | (simp [jM.len_nw, jM.len_sI, jM.len_sL, jM.len_sR, jM.len_fI, jM.len_fL, jM.len_fR, *]; omega)) (by first | omega | (exact R.r _ _) | (simp only [jM.len_sI, jM.len_sL, jM.len_sR, jM.len_fI, jM.len_fL, jM.len_fR]; omega) | (simp [jM.len_nw, jM.len_sI, jM.len_sL, jM.len_sR, jM.len_fI, jM.len_fL, jM.len_fR, *]; omega)) (by first | omega | (exact R.r _ _) | (simp only [jM.len_sI, jM.len_sL, jM.len_sR, jM.len_fI, jM.len_fL, jM.len_fR]; omega) | (simp [jM.len_nw, jM.len_sI, jM.len_sL, jM.len_sR, jM.len_fI, jM.len_fL, jM.len_fR, *]; omega)) rfl rfl ?_ ?_
                                · exact fun _ _ h => h
                                rintro _ _ ⟨rfl, rfl⟩
                                refine J.if_ne (tgt := 65) (pc' := 63) rfl rfl rfl (by first | omega | (exact R.r _ _) | (simp only [jM.len_sI, jM.len_sL, jM.len_sR, jM.len_fI, jM.len_fL, jM.len_fR]; omega) | (simp [jM.len_nw, jM.len_sI, jM.len_sL, jM.len_sR, jM.len_fI, jM.len_fL, jM.len_fR, *]; omega)) (fun c60 => ?_) (fun c60 => ?_)
                                · first
                                  | (exfalso; omega)
                                  | (refine J.bipush (pc' := 67) rfl rfl (by decide) ?_
                                     refine J.iload_n (pc' := 68) rfl rfl rfl ?_
                                     refine J.imul (pc' := 69) rfl rfl ?_
                                     refine J.iload_n (pc' := 70) rfl rfl rfl ?_
                                     refine J.iadd (pc' := 71) rfl rfl ?_
                                     refine J.istore (pc' := 73) rfl rfl (by decide) ?_
                                     refine J.iload_n (pc' := 74) rfl rfl rfl ?_
                                     refine J.iconst (pc' := 75) rfl rfl ?_
                                     refine J.icmp_ge (tgt := 100) (pc' := 78) rfl rfl rfl (by first | omega | (exact R.r _ _) | (simp only [jM.len_sI, jM.len_sL, jM.len_sR, jM.len_fI, jM.len_fL, jM.len_fR]; omega) | (simp [jM.len_nw, jM.len_sI, jM.len_sL, jM.len_sR, jM.len_fI, jM.len_fL, jM.len_fR, *]; omega)) (by first | omega | (exact R.r _ _) | (simp only [jM.len_sI, jM.len_sL, jM.len_sR, jM.len_fI, jM.len_fL, jM.len_fR]; omega) | (simp [jM.len_nw, jM.len_sI, jM.len_sL, jM.len_sR, jM.len_fI, jM.len_fL, jM.len_fR, *]; omega)) (fun c75 => ?_) (fun c75 => ?_)
                                     · first
                                       | (exfalso; omega)
                                       | (refine J.iload_n (pc' := 101) rfl rfl rfl ?_
                                          refine J.iconst (pc' := 102) rfl rfl ?_
                                          refine J.irem (pc' := 103) rfl rfl (by first | omega | (exact R.r _ _) | (simp only [jM.len_sI, jM.len_sL, jM.len_sR, jM.len_fI, jM.len_fL, jM.len_fR]; omega) | (simp [jM.len_nw, jM.len_sI, jM.len_sL, jM.len_sR, jM.len_fI, jM.len_fL, jM.len_fR, *]; omega)) (by first | omega | (exact R.r _ _) | (simp only [jM.len_sI, jM.len_sL, jM.len_sR, jM.len_fI, jM.len_fL, jM.len_fR]; omega) | (simp [jM.len_nw, jM.len_sI, jM.len_sL, jM.len_sR, jM.len_fI, jM.len_fL, jM.len_fR, *]; omega)) (by first | omega | (exact R.r _ _) | (simp only [jM.len_sI, jM.len_sL, jM.len_sR, jM.len_fI, jM.len_fL, jM.len_fR]; omega) | (simp [jM.len_nw, jM.len_sI, jM.len_sL, jM.len_sR, jM.len_fI, jM.len_fL, jM.len_fR, *]; omega)) ?_
                                          rw [Int.tmod_eq_emod_of_nonneg (by omega)]
                                          refine J.if_ne (tgt := 124) (pc' := 106) rfl rfl rfl (by first | omega | (exact R.r _ _) | (simp only [jM.len_sI, jM.len_sL, jM.len_sR, jM.len_fI, jM.len_fL, jM.len_fR]; omega) | (simp [jM.len_nw, jM.len_sI, jM.len_sL, jM.len_sR, jM.len_fI, jM.len_fL, jM.len_fR, *]; omega)) (fun c103 => ?_) (fun c103 => ?_)
                                          · first
                                            | (exfalso; omega)
                                            | (first | refine J.aload_n (pc' := 125) rfl rfl rfl ?_ | refine J.aload_nN (pc' := 125) rfl rfl rfl ?_
                                               refine J.mgR (pc' := 128) (t := 157) B rfl fl_X12_145 rfl rfl (by decide) rfl ?_
                                               refine J.iconst (pc' := 129) rfl rfl ?_
                                               refine J.iload (pc' := 131) rfl rfl rfl ?_
                                               refine J.imul (pc' := 132) rfl rfl ?_
                                               refine J.iload_n (pc' := 133) rfl rfl rfl ?_
                                               refine J.iconst (pc' := 134) rfl rfl ?_
                                               refine J.isub (pc' := 135) rfl rfl ?_
                                               refine J.iconst (pc' := 136) rfl rfl ?_
                                               refine J.idiv (pc' := 137) rfl rfl (by first | omega | (exact R.r _ _) | (simp only [jM.len_sI, jM.len_sL, jM.len_sR, jM.len_fI, jM.len_fL, jM.len_fR]; omega) | (simp [jM.len_nw, jM.len_sI, jM.len_sL, jM.len_sR, jM.len_fI, jM.len_fL, jM.len_fR, *]; omega)) (by first | omega | (exact R.r _ _) | (simp only [jM.len_sI, jM.len_sL, jM.len_sR, jM.len_fI, jM.len_fL, jM.len_fR]; omega) | (simp [jM.len_nw, jM.len_sI, jM.len_sL, jM.len_sR, jM.len_fI, jM.len_fL, jM.len_fR, *]; omega)) (by first | omega | (exact R.r _ _) | (simp only [jM.len_sI, jM.len_sL, jM.len_sR, jM.len_fI, jM.len_fL, jM.len_fR]; omega) | (simp [jM.len_nw, jM.len_sI, jM.len_sL, jM.len_sR, jM.len_fI, jM.len_fL, jM.len_fR, *]; omega)) ?_
                                               rw [Int.tdiv_eq_ediv_of_nonneg (by omega)]
                                               refine J.iadd (pc' := 138) rfl rfl ?_
                                               refine J.mald (pc' := 139) B rfl rfl rfl (by omega) (by simp only [jLn]; omega) rfl ?_
                                               refine J.iret rfl rfl (by first | omega | (exact R.r _ _) | (simp only [jM.len_sI, jM.len_sL, jM.len_sR, jM.len_fI, jM.len_fL, jM.len_fR]; omega) | (simp [jM.len_nw, jM.len_sI, jM.len_sL, jM.len_sR, jM.len_fI, jM.len_fL, jM.len_fR, *]; omega)) (by first | omega | (exact R.r _ _) | (simp only [jM.len_sI, jM.len_sL, jM.len_sR, jM.len_fI, jM.len_fL, jM.len_fR]; omega) | (simp [jM.len_nw, jM.len_sI, jM.len_sL, jM.len_sR, jM.len_fI, jM.len_fL, jM.len_fR, *]; omega)) ?_
                                               exact mQ.of (by unfold sp_portion porV; (repeat (first | rw [if_pos (by omega)] | rw [if_neg (by omega)]))))
                                          · first
                                            | (exfalso; omega)
                                            | (first | refine J.aload_n (pc' := 107) rfl rfl rfl ?_ | refine J.aload_nN (pc' := 107) rfl rfl rfl ?_
                                               refine J.mgR (pc' := 110) (t := 156) B rfl fl_X12_142 rfl rfl (by decide) rfl ?_
                                               refine J.iconst (pc' := 111) rfl rfl ?_
                                               refine J.iload (pc' := 113) rfl rfl rfl ?_
                                               refine J.imul (pc' := 114) rfl rfl ?_
                                               refine J.iload_n (pc' := 115) rfl rfl rfl ?_
                                               refine J.iconst (pc' := 116) rfl rfl ?_
                                               refine J.isub (pc' := 117) rfl rfl ?_
                                               refine J.iconst (pc' := 118) rfl rfl ?_
                                               refine J.idiv (pc' := 119) rfl rfl (by first | omega | (exact R.r _ _) | (simp only [jM.len_sI, jM.len_sL, jM.len_sR, jM.len_fI, jM.len_fL, jM.len_fR]; omega) | (simp [jM.len_nw, jM.len_sI, jM.len_sL, jM.len_sR, jM.len_fI, jM.len_fL, jM.len_fR, *]; omega)) (by first | omega | (exact R.r _ _) | (simp only [jM.len_sI, jM.len_sL, jM.len_sR, jM.len_fI, jM.len_fL, jM.len_fR]; omega) | (simp [jM.len_nw, jM.len_sI, jM.len_sL, jM.len_sR, jM.len_fI, jM.len_fL, jM.len_fR, *]; omega)) (by first | omega | (exact R.r _ _) | (simp only [jM.len_sI, jM.len_sL, jM.len_sR, jM.len_fI, jM.len_fL, jM.len_fR]; omega) | (simp [jM.len_nw, jM.len_sI, jM.len_sL, jM.len_sR, jM.len_fI, jM.len_fL, jM.len_fR, *]; omega)) ?_
                                               rw [Int.tdiv_eq_ediv_of_nonneg (by omega)]
                                               refine J.iadd (pc' := 120) rfl rfl ?_
                                               refine J.mald (pc' := 121) B rfl rfl rfl (by omega) (by simp only [jLn]; omega) rfl ?_
                                               refine J.goto (tgt := 139) rfl rfl ?_
                                               refine J.iret rfl rfl (by first | omega | (exact R.r _ _) | (simp only [jM.len_sI, jM.len_sL, jM.len_sR, jM.len_fI, jM.len_fL, jM.len_fR]; omega) | (simp [jM.len_nw, jM.len_sI, jM.len_sL, jM.len_sR, jM.len_fI, jM.len_fL, jM.len_fR, *]; omega)) (by first | omega | (exact R.r _ _) | (simp only [jM.len_sI, jM.len_sL, jM.len_sR, jM.len_fI, jM.len_fL, jM.len_fR]; omega) | (simp [jM.len_nw, jM.len_sI, jM.len_sL, jM.len_sR, jM.len_fI, jM.len_fL, jM.len_fR, *]; omega)) ?_
                                               exact mQ.of (by unfold sp_portion porV; (repeat (first | rw [if_pos (by omega)] | rw [if_neg (by omega)])))))
                                     · first
                                       | (exfalso; omega)
                                       | (refine J.iload_n (pc' := 79) rfl rfl rfl ?_
                                          refine J.if_ne (tgt := 92) (pc' := 82) rfl rfl rfl (by first | omega | (exact R.r _ _) | (simp only [jM.len_sI, jM.len_sL, jM.len_sR, jM.len_fI, jM.len_fL, jM.len_fR]; omega) | (simp [jM.len_nw, jM.len_sI, jM.len_sL, jM.len_sR, jM.len_fI, jM.len_fL, jM.len_fR, *]; omega)) (fun c79 => ?_) (fun c79 => ?_)
                                          · first
                                            | (exfalso; omega)
                                            | (first | refine J.aload_n (pc' := 93) rfl rfl rfl ?_ | refine J.aload_nN (pc' := 93) rfl rfl rfl ?_
                                               refine J.mgR (pc' := 96) (t := 155) B rfl fl_X12_139 rfl rfl (by decide) rfl ?_
                                               refine J.iload (pc' := 98) rfl rfl rfl ?_
                                               refine J.mald (pc' := 99) B rfl rfl rfl (by omega) (by simp only [jLn]; omega) rfl ?_
                                               refine J.iret rfl rfl (by first | omega | (exact R.r _ _) | (simp only [jM.len_sI, jM.len_sL, jM.len_sR, jM.len_fI, jM.len_fL, jM.len_fR]; omega) | (simp [jM.len_nw, jM.len_sI, jM.len_sL, jM.len_sR, jM.len_fI, jM.len_fL, jM.len_fR, *]; omega)) (by first | omega | (exact R.r _ _) | (simp only [jM.len_sI, jM.len_sL, jM.len_sR, jM.len_fI, jM.len_fL, jM.len_fR]; omega) | (simp [jM.len_nw, jM.len_sI, jM.len_sL, jM.len_sR, jM.len_fI, jM.len_fL, jM.len_fR, *]; omega)) ?_
                                               exact mQ.of (by unfold sp_portion porV; (repeat (first | rw [if_pos (by omega)] | rw [if_neg (by omega)]))))
                                          · first
                                            | (exfalso; omega)
                                            | (first | refine J.aload_n (pc' := 83) rfl rfl rfl ?_ | refine J.aload_nN (pc' := 83) rfl rfl rfl ?_
                                               refine J.mgR (pc' := 86) (t := 154) B rfl fl_X12_136 rfl rfl (by decide) rfl ?_
                                               refine J.iload (pc' := 88) rfl rfl rfl ?_
                                               refine J.mald (pc' := 89) B rfl rfl rfl (by omega) (by simp only [jLn]; omega) rfl ?_
                                               refine J.goto (tgt := 99) rfl rfl ?_
                                               refine J.iret rfl rfl (by first | omega | (exact R.r _ _) | (simp only [jM.len_sI, jM.len_sL, jM.len_sR, jM.len_fI, jM.len_fL, jM.len_fR]; omega) | (simp [jM.len_nw, jM.len_sI, jM.len_sL, jM.len_sR, jM.len_fI, jM.len_fL, jM.len_fR, *]; omega)) (by first | omega | (exact R.r _ _) | (simp only [jM.len_sI, jM.len_sL, jM.len_sR, jM.len_fI, jM.len_fL, jM.len_fR]; omega) | (simp [jM.len_nw, jM.len_sI, jM.len_sL, jM.len_sR, jM.len_fI, jM.len_fL, jM.len_fR, *]; omega)) ?_
                                               exact mQ.of (by unfold sp_portion porV; (repeat (first | rw [if_pos (by omega)] | rw [if_neg (by omega)]))))))
                                · first
                                  | (exfalso; omega)
                                  | (refine J.iconst (pc' := 64) rfl rfl ?_
                                     refine J.iret rfl rfl (by first | omega | (exact R.r _ _) | (simp only [jM.len_sI, jM.len_sL, jM.len_sR, jM.len_fI, jM.len_fL, jM.len_fR]; omega) | (simp [jM.len_nw, jM.len_sI, jM.len_sL, jM.len_sR, jM.len_fI, jM.len_fL, jM.len_fR, *]; omega)) (by first | omega | (exact R.r _ _) | (simp only [jM.len_sI, jM.len_sL, jM.len_sR, jM.len_fI, jM.len_fL, jM.len_fR]; omega) | (simp [jM.len_nw, jM.len_sI, jM.len_sL, jM.len_sR, jM.len_fI, jM.len_fL, jM.len_fR, *]; omega)) ?_
                                     exact mQ.of (by unfold sp_portion porV; (repeat (first | rw [if_pos (by omega)] | rw [if_neg (by omega)])))))
                           · first
                             | (exfalso; omega)
                             | (refine J.iload_n (pc' := 46) rfl rfl rfl ?_
                                refine J.bipush (pc' := 48) rfl rfl (by decide) ?_
                                refine J.icmp_ge (tgt := 55) (pc' := 51) rfl rfl rfl (by first | omega | (exact R.r _ _) | (simp only [jM.len_sI, jM.len_sL, jM.len_sR, jM.len_fI, jM.len_fL, jM.len_fR]; omega) | (simp [jM.len_nw, jM.len_sI, jM.len_sL, jM.len_sR, jM.len_fI, jM.len_fL, jM.len_fR, *]; omega)) (by first | omega | (exact R.r _ _) | (simp only [jM.len_sI, jM.len_sL, jM.len_sR, jM.len_fI, jM.len_fL, jM.len_fR]; omega) | (simp [jM.len_nw, jM.len_sI, jM.len_sL, jM.len_sR, jM.len_fI, jM.len_fL, jM.len_fR, *]; omega)) (fun c48 => ?_) (fun c48 => ?_)
                                · first
                                  | (exfalso; omega)
                                  | (refine J.iconst (pc' := 56) rfl rfl ?_
                                     refine J.iconst (pc' := 57) rfl rfl ?_
                                     first | refine J.callV (pc' := 60) (t := 16) rfl MX12_may ml_X12_161 iv_X12_may (by decide) ⟨_, rfl, rfl⟩ B.1 (cm_may1 B h0) rfl rfl (Nat.le_of_ble_eq_true rfl) (by first | omega | (exact R.r _ _) | (simp only [jM.len_sI, jM.len_sL, jM.len_sR, jM.len_fI, jM.len_fL, jM.len_fR]; omega) | (simp [jM.len_nw, jM.len_sI, jM.len_sL, jM.len_sR, jM.len_fI, jM.len_fL, jM.len_fR, *]; omega)) (by first | omega | (exact R.r _ _) | (simp only [jM.len_sI, jM.len_sL, jM.len_sR, jM.len_fI, jM.len_fL, jM.len_fR]; omega) | (simp [jM.len_nw, jM.len_sI, jM.len_sL, jM.len_sR, jM.len_fI, jM.len_fL, jM.len_fR, *]; omega)) (by first | omega | (exact R.r _ _) | (simp only [jM.len_sI, jM.len_sL, jM.len_sR, jM.len_fI, jM.len_fL, jM.len_fR]; omega) | (simp [jM.len_nw, jM.len_sI, jM.len_sL, jM.len_sR, jM.len_fI, jM.len_fL, jM.len_fR, *]; omega)) rfl rfl ?_ ?_ | refine J.callV (pc' := 60) (t := 16) rfl MX12_may ml_X12_161 iv_X12_may (by decide) ⟨_, rfl, rfl⟩ B.1 (cm_may0 B h0 (by omega)) rfl rfl (Nat.le_of_ble_eq_true rfl) (by first | omega | (exact R.r _ _) | (simp only [jM.len_sI, jM.len_sL, jM.len_sR, jM.len_fI, jM.len_fL, jM.len_fR]; omega) | (simp [jM.len_nw, jM.len_sI, jM.len_sL, jM.len_sR, jM.len_fI, jM.len_fL, jM.len_fR, *]; omega)) (by first | omega | (exact R.r _ _) | (simp only [jM.len_sI, jM.len_sL, jM.len_sR, jM.len_fI, jM.len_fL, jM.len_fR]; omega) | (simp [jM.len_nw, jM.len_sI, jM.len_sL, jM.len_sR, jM.len_fI, jM.len_fL, jM.len_fR, *]; omega)) (by first | omega | (exact R.r _ _) | (simp only [jM.len_sI, jM.len_sL, jM.len_sR, jM.len_fI, jM.len_fL, jM.len_fR]; omega) | (simp [jM.len_nw, jM.len_sI, jM.len_sL, jM.len_sR, jM.len_fI, jM.len_fL, jM.len_fR, *]; omega)) rfl rfl ?_ ?_
                                     · exact fun _ _ h => h
                                     rintro _ _ ⟨rfl, rfl⟩
                                     refine J.if_ne (tgt := 65) (pc' := 63) rfl rfl rfl (by first | omega | (exact R.r _ _) | (simp only [jM.len_sI, jM.len_sL, jM.len_sR, jM.len_fI, jM.len_fL, jM.len_fR]; omega) | (simp [jM.len_nw, jM.len_sI, jM.len_sL, jM.len_sR, jM.len_fI, jM.len_fL, jM.len_fR, *]; omega)) (fun c60 => ?_) (fun c60 => ?_)
                                     · first
                                       | (exfalso; omega)
                                       | (refine J.bipush (pc' := 67) rfl rfl (by decide) ?_
                                          refine J.iload_n (pc' := 68) rfl rfl rfl ?_
                                          refine J.imul (pc' := 69) rfl rfl ?_
                                          refine J.iload_n (pc' := 70) rfl rfl rfl ?_
                                          refine J.iadd (pc' := 71) rfl rfl ?_
                                          refine J.istore (pc' := 73) rfl rfl (by decide) ?_
                                          refine J.iload_n (pc' := 74) rfl rfl rfl ?_
                                          refine J.iconst (pc' := 75) rfl rfl ?_
                                          refine J.icmp_ge (tgt := 100) (pc' := 78) rfl rfl rfl (by first | omega | (exact R.r _ _) | (simp only [jM.len_sI, jM.len_sL, jM.len_sR, jM.len_fI, jM.len_fL, jM.len_fR]; omega) | (simp [jM.len_nw, jM.len_sI, jM.len_sL, jM.len_sR, jM.len_fI, jM.len_fL, jM.len_fR, *]; omega)) (by first | omega | (exact R.r _ _) | (simp only [jM.len_sI, jM.len_sL, jM.len_sR, jM.len_fI, jM.len_fL, jM.len_fR]; omega) | (simp [jM.len_nw, jM.len_sI, jM.len_sL, jM.len_sR, jM.len_fI, jM.len_fL, jM.len_fR, *]; omega)) (fun c75 => ?_) (fun c75 => ?_)
                                          · first
                                            | (exfalso; omega)
                                            | (refine J.iload_n (pc' := 101) rfl rfl rfl ?_
                                               refine J.iconst (pc' := 102) rfl rfl ?_
                                               refine J.irem (pc' := 103) rfl rfl (by first | omega | (exact R.r _ _) | (simp only [jM.len_sI, jM.len_sL, jM.len_sR, jM.len_fI, jM.len_fL, jM.len_fR]; omega) | (simp [jM.len_nw, jM.len_sI, jM.len_sL, jM.len_sR, jM.len_fI, jM.len_fL, jM.len_fR, *]; omega)) (by first | omega | (exact R.r _ _) | (simp only [jM.len_sI, jM.len_sL, jM.len_sR, jM.len_fI, jM.len_fL, jM.len_fR]; omega) | (simp [jM.len_nw, jM.len_sI, jM.len_sL, jM.len_sR, jM.len_fI, jM.len_fL, jM.len_fR, *]; omega)) (by first | omega | (exact R.r _ _) | (simp only [jM.len_sI, jM.len_sL, jM.len_sR, jM.len_fI, jM.len_fL, jM.len_fR]; omega) | (simp [jM.len_nw, jM.len_sI, jM.len_sL, jM.len_sR, jM.len_fI, jM.len_fL, jM.len_fR, *]; omega)) ?_
                                               rw [Int.tmod_eq_emod_of_nonneg (by omega)]
                                               refine J.if_ne (tgt := 124) (pc' := 106) rfl rfl rfl (by first | omega | (exact R.r _ _) | (simp only [jM.len_sI, jM.len_sL, jM.len_sR, jM.len_fI, jM.len_fL, jM.len_fR]; omega) | (simp [jM.len_nw, jM.len_sI, jM.len_sL, jM.len_sR, jM.len_fI, jM.len_fL, jM.len_fR, *]; omega)) (fun c103 => ?_) (fun c103 => ?_)
                                               · first
                                                 | (exfalso; omega)
                                                 | (first | refine J.aload_n (pc' := 125) rfl rfl rfl ?_ | refine J.aload_nN (pc' := 125) rfl rfl rfl ?_
                                                    refine J.mgR (pc' := 128) (t := 157) B rfl fl_X12_145 rfl rfl (by decide) rfl ?_
                                                    refine J.iconst (pc' := 129) rfl rfl ?_
                                                    refine J.iload (pc' := 131) rfl rfl rfl ?_
                                                    refine J.imul (pc' := 132) rfl rfl ?_
                                                    refine J.iload_n (pc' := 133) rfl rfl rfl ?_
                                                    refine J.iconst (pc' := 134) rfl rfl ?_
                                                    refine J.isub (pc' := 135) rfl rfl ?_
                                                    refine J.iconst (pc' := 136) rfl rfl ?_
                                                    refine J.idiv (pc' := 137) rfl rfl (by first | omega | (exact R.r _ _) | (simp only [jM.len_sI, jM.len_sL, jM.len_sR, jM.len_fI, jM.len_fL, jM.len_fR]; omega) | (simp [jM.len_nw, jM.len_sI, jM.len_sL, jM.len_sR, jM.len_fI, jM.len_fL, jM.len_fR, *]; omega)) (by first | omega | (exact R.r _ _) | (simp only [jM.len_sI, jM.len_sL, jM.len_sR, jM.len_fI, jM.len_fL, jM.len_fR]; omega) | (simp [jM.len_nw, jM.len_sI, jM.len_sL, jM.len_sR, jM.len_fI, jM.len_fL, jM.len_fR, *]; omega)) (by first | omega | (exact R.r _ _) | (simp only [jM.len_sI, jM.len_sL, jM.len_sR, jM.len_fI, jM.len_fL, jM.len_fR]; omega) | (simp [jM.len_nw, jM.len_sI, jM.len_sL, jM.len_sR, jM.len_fI, jM.len_fL, jM.len_fR, *]; omega)) ?_
                                                    rw [Int.tdiv_eq_ediv_of_nonneg (by omega)]
                                                    refine J.iadd (pc' := 138) rfl rfl ?_
                                                    refine J.mald (pc' := 139) B rfl rfl rfl (by omega) (by simp only [jLn]; omega) rfl ?_
                                                    refine J.iret rfl rfl (by first | omega | (exact R.r _ _) | (simp only [jM.len_sI, jM.len_sL, jM.len_sR, jM.len_fI, jM.len_fL, jM.len_fR]; omega) | (simp [jM.len_nw, jM.len_sI, jM.len_sL, jM.len_sR, jM.len_fI, jM.len_fL, jM.len_fR, *]; omega)) (by first | omega | (exact R.r _ _) | (simp only [jM.len_sI, jM.len_sL, jM.len_sR, jM.len_fI, jM.len_fL, jM.len_fR]; omega) | (simp [jM.len_nw, jM.len_sI, jM.len_sL, jM.len_sR, jM.len_fI, jM.len_fL, jM.len_fR, *]; omega)) ?_
                                                    exact mQ.of (by unfold sp_portion porV; (repeat (first | rw [if_pos (by omega)] | rw [if_neg (by omega)]))))
                                               · first
                                                 | (exfalso; omega)
                                                 | (first | refine J.aload_n (pc' := 107) rfl rfl rfl ?_ | refine J.aload_nN (pc' := 107) rfl rfl rfl ?_
                                                    refine J.mgR (pc' := 110) (t := 156) B rfl fl_X12_142 rfl rfl (by decide) rfl ?_
                                                    refine J.iconst (pc' := 111) rfl rfl ?_
                                                    refine J.iload (pc' := 113) rfl rfl rfl ?_
                                                    refine J.imul (pc' := 114) rfl rfl ?_
                                                    refine J.iload_n (pc' := 115) rfl rfl rfl ?_
                                                    refine J.iconst (pc' := 116) rfl rfl ?_
                                                    refine J.isub (pc' := 117) rfl rfl ?_
                                                    refine J.iconst (pc' := 118) rfl rfl ?_
                                                    refine J.idiv (pc' := 119) rfl rfl (by first | omega | (exact R.r _ _) | (simp only [jM.len_sI, jM.len_sL, jM.len_sR, jM.len_fI, jM.len_fL, jM.len_fR]; omega) | (simp [jM.len_nw, jM.len_sI, jM.len_sL, jM.len_sR, jM.len_fI, jM.len_fL, jM.len_fR, *]; omega)) (by first | omega | (exact R.r _ _) | (simp only [jM.len_sI, jM.len_sL, jM.len_sR, jM.len_fI, jM.len_fL, jM.len_fR]; omega) | (simp [jM.len_nw, jM.len_sI, jM.len_sL, jM.len_sR, jM.len_fI, jM.len_fL, jM.len_fR, *]; omega)) (by first | omega | (exact R.r _ _) | (simp only [jM.len_sI, jM.len_sL, jM.len_sR, jM.len_fI, jM.len_fL, jM.len_fR]; omega) | (simp [jM.len_nw, jM.len_sI, jM.len_sL, jM.len_sR, jM.len_fI, jM.len_fL, jM.len_fR, *]; omega)) ?_
                                                    rw [Int.tdiv_eq_ediv_of_nonneg (by omega)]
                                                    refine J.iadd (pc' := 120) rfl rfl ?_
                                                    refine J.mald (pc' := 121) B rfl rfl rfl (by omega) (by simp only [jLn]; omega) rfl ?_
                                                    refine J.goto (tgt := 139) rfl rfl ?_
                                                    refine J.iret rfl rfl (by first | omega | (exact R.r _ _) | (simp only [jM.len_sI, jM.len_sL, jM.len_sR, jM.len_fI, jM.len_fL, jM.len_fR]; omega) | (simp [jM.len_nw, jM.len_sI, jM.len_sL, jM.len_sR, jM.len_fI, jM.len_fL, jM.len_fR, *]; omega)) (by first | omega | (exact R.r _ _) | (simp only [jM.len_sI, jM.len_sL, jM.len_sR, jM.len_fI, jM.len_fL, jM.len_fR]; omega) | (simp [jM.len_nw, jM.len_sI, jM.len_sL, jM.len_sR, jM.len_fI, jM.len_fL, jM.len_fR, *]; omega)) ?_
                                                    exact mQ.of (by unfold sp_portion porV; (repeat (first | rw [if_pos (by omega)] | rw [if_neg (by omega)])))))
                                          · first
                                            | (exfalso; omega)
                                            | (refine J.iload_n (pc' := 79) rfl rfl rfl ?_
                                               refine J.if_ne (tgt := 92) (pc' := 82) rfl rfl rfl (by first | omega | (exact R.r _ _) | (simp only [jM.len_sI, jM.len_sL, jM.len_sR, jM.len_fI, jM.len_fL, jM.len_fR]; omega) | (simp [jM.len_nw, jM.len_sI, jM.len_sL, jM.len_sR, jM.len_fI, jM.len_fL, jM.len_fR, *]; omega)) (fun c79 => ?_) (fun c79 => ?_)
                                               · first
                                                 | (exfalso; omega)
                                                 | (first | refine J.aload_n (pc' := 93) rfl rfl rfl ?_ | refine J.aload_nN (pc' := 93) rfl rfl rfl ?_
                                                    refine J.mgR (pc' := 96) (t := 155) B rfl fl_X12_139 rfl rfl (by decide) rfl ?_
                                                    refine J.iload (pc' := 98) rfl rfl rfl ?_
                                                    refine J.mald (pc' := 99) B rfl rfl rfl (by omega) (by simp only [jLn]; omega) rfl ?_
                                                    refine J.iret rfl rfl (by first | omega | (exact R.r _ _) | (simp only [jM.len_sI, jM.len_sL, jM.len_sR, jM.len_fI, jM.len_fL, jM.len_fR]; omega) | (simp [jM.len_nw, jM.len_sI, jM.len_sL, jM.len_sR, jM.len_fI, jM.len_fL, jM.len_fR, *]; omega)) (by first | omega | (exact R.r _ _) | (simp only [jM.len_sI, jM.len_sL, jM.len_sR, jM.len_fI, jM.len_fL, jM.len_fR]; omega) | (simp [jM.len_nw, jM.len_sI, jM.len_sL, jM.len_sR, jM.len_fI, jM.len_fL, jM.len_fR, *]; omega)) ?_
                                                    exact mQ.of (by unfold sp_portion porV; (repeat (first | rw [if_pos (by omega)] | rw [if_neg (by omega)]))))
                                               · first
                                                 | (exfalso; omega)
                                                 | (first | refine J.aload_n (pc' := 83) rfl rfl rfl ?_ | refine J.aload_nN (pc' := 83) rfl rfl rfl ?_
                                                    refine J.mgR (pc' := 86) (t := 154) B rfl fl_X12_136 rfl rfl (by decide) rfl ?_
                                                    refine J.iload (pc' := 88) rfl rfl rfl ?_
                                                    refine J.mald (pc' := 89) B rfl rfl rfl (by omega) (by simp only [jLn]; omega) rfl ?_
                                                    refine J.goto (tgt := 99) rfl rfl ?_
                                                    refine J.iret rfl rfl (by first | omega | (exact R.r _ _) | (simp only [jM.len_sI, jM.len_sL, jM.len_sR, jM.len_fI, jM.len_fL, jM.len_fR]; omega) | (simp [jM.len_nw, jM.len_sI, jM.len_sL, jM.len_sR, jM.len_fI, jM.len_fL, jM.len_fR, *]; omega)) (by first | omega | (exact R.r _ _) | (simp only [jM.len_sI, jM.len_sL, jM.len_sR, jM.len_fI, jM.len_fL, jM.len_fR]; omega) | (simp [jM.len_nw, jM.len_sI, jM.len_sL, jM.len_sR, jM.len_fI, jM.len_fL, jM.len_fR, *]; omega)) ?_
                                                    exact mQ.of (by unfold sp_portion porV; (repeat (first | rw [if_pos (by omega)] | rw [if_neg (by omega)]))))))
                                     · first
                                       | (exfalso; omega)
                                       | (refine J.iconst (pc' := 64) rfl rfl ?_
                                          refine J.iret rfl rfl (by first | omega | (exact R.r _ _) | (simp only [jM.len_sI, jM.len_sL, jM.len_sR, jM.len_fI, jM.len_fL, jM.len_fR]; omega) | (simp [jM.len_nw, jM.len_sI, jM.len_sL, jM.len_sR, jM.len_fI, jM.len_fL, jM.len_fR, *]; omega)) (by first | omega | (exact R.r _ _) | (simp only [jM.len_sI, jM.len_sL, jM.len_sR, jM.len_fI, jM.len_fL, jM.len_fR]; omega) | (simp [jM.len_nw, jM.len_sI, jM.len_sL, jM.len_sR, jM.len_fI, jM.len_fL, jM.len_fR, *]; omega)) ?_
                                          exact mQ.of (by unfold sp_portion porV; (repeat (first | rw [if_pos (by omega)] | rw [if_neg (by omega)])))))
                                · first
                                  | (exfalso; omega)
                                  | (refine J.iconst (pc' := 52) rfl rfl ?_
                                     refine J.goto (tgt := 56) rfl rfl ?_
                                     refine J.iconst (pc' := 57) rfl rfl ?_
                                     first | refine J.callV (pc' := 60) (t := 16) rfl MX12_may ml_X12_161 iv_X12_may (by decide) ⟨_, rfl, rfl⟩ B.1 (cm_may1 B h0) rfl rfl (Nat.le_of_ble_eq_true rfl) (by first | omega | (exact R.r _ _) | (simp only [jM.len_sI, jM.len_sL, jM.len_sR, jM.len_fI, jM.len_fL, jM.len_fR]; omega) | (simp [jM.len_nw, jM.len_sI, jM.len_sL, jM.len_sR, jM.len_fI, jM.len_fL, jM.len_fR, *]; omega)) (by first | omega | (exact R.r _ _) | (simp only [jM.len_sI, jM.len_sL, jM.len_sR, jM.len_fI, jM.len_fL, jM.len_fR]; omega) | (simp [jM.len_nw, jM.len_sI, jM.len_sL, jM.len_sR, jM.len_fI, jM.len_fL, jM.len_fR, *]; omega)) (by first | omega | (exact R.r _ _) | (simp only [jM.len_sI, jM.len_sL, jM.len_sR, jM.len_fI, jM.len_fL, jM.len_fR]; omega) | (simp [jM.len_nw, jM.len_sI, jM.len_sL, jM.len_sR, jM.len_fI, jM.len_fL, jM.len_fR, *]; omega)) rfl rfl ?_ ?_ | refine J.callV (pc' := 60) (t := 16) rfl MX12_may ml_X12_161 iv_X12_may (by decide) ⟨_, rfl, rfl⟩ B.1 (cm_may0 B h0 (by omega)) rfl rfl (Nat.le_of_ble_eq_true rfl) (by first | omega | (exact R.r _ _) | (simp only [jM.len_sI, jM.len_sL, jM.len_sR, jM.len_fI, jM.len_fL, jM.len_fR]; omega) | (simp [jM.len_nw, jM.len_sI, jM.len_sL, jM.len_sR, jM.len_fI, jM.len_fL, jM.len_fR, *]; omega)) (by first | omega | (exact R.r _ _) | (simp only [jM.len_sI, jM.len_sL, jM.len_sR, jM.len_fI, jM.len_fL, jM.len_fR]; omega) | (simp [jM.len_nw, jM.len_sI, jM.len_sL, jM.len_sR, jM.len_fI, jM.len_fL, jM.len_fR, *]; omega)) (by first | omega | (exact R.r _ _) | (simp only [jM.len_sI, jM.len_sL, jM.len_sR, jM.len_fI, jM.len_fL, jM.len_fR]; omega) | (simp [jM.len_nw, jM.len_sI, jM.len_sL, jM.len_sR, jM.len_fI, jM.len_fL, jM.len_fR, *]; omega)) rfl rfl ?_ ?_
                                     · exact fun _ _ h => h
                                     rintro _ _ ⟨rfl, rfl⟩
                                     refine J.if_ne (tgt := 65) (pc' := 63) rfl rfl rfl (by first | omega | (exact R.r _ _) | (simp only [jM.len_sI, jM.len_sL, jM.len_sR, jM.len_fI, jM.len_fL, jM.len_fR]; omega) | (simp [jM.len_nw, jM.len_sI, jM.len_sL, jM.len_sR, jM.len_fI, jM.len_fL, jM.len_fR, *]; omega)) (fun c60 => ?_) (fun c60 => ?_)
                                     · first
                                       | (exfalso; omega)
                                       | (refine J.bipush (pc' := 67) rfl rfl (by decide) ?_
                                          refine J.iload_n (pc' := 68) rfl rfl rfl ?_
                                          refine J.imul (pc' := 69) rfl rfl ?_
                                          refine J.iload_n (pc' := 70) rfl rfl rfl ?_
                                          refine J.iadd (pc' := 71) rfl rfl ?_
                                          refine J.istore (pc' := 73) rfl rfl (by decide) ?_
                                          refine J.iload_n (pc' := 74) rfl rfl rfl ?_
                                          refine J.iconst (pc' := 75) rfl rfl ?_
                                          refine J.icmp_ge (tgt := 100) (pc' := 78) rfl rfl rfl (by first | omega | (exact R.r _ _) | (simp only [jM.len_sI, jM.len_sL, jM.len_sR, jM.len_fI, jM.len_fL, jM.len_fR]; omega) | (simp [jM.len_nw, jM.len_sI, jM.len_sL, jM.len_sR, jM.len_fI, jM.len_fL, jM.len_fR, *]; omega)) (by first | omega | (exact R.r _ _) | (simp only [jM.len_sI, jM.len_sL, jM.len_sR, jM.len_fI, jM.len_fL, jM.len_fR]; omega) | (simp [jM.len_nw, jM.len_sI, jM.len_sL, jM.len_sR, jM.len_fI, jM.len_fL, jM.len_fR, *]; omega)) (fun c75 => ?_) (fun c75 => ?_)
                                          · first
                                            | (exfalso; omega)
                                            | (refine J.iload_n (pc' := 101) rfl rfl rfl ?_
                                               refine J.iconst (pc' := 102) rfl rfl ?_
                                               refine J.irem (pc' := 103) rfl rfl (by first | omega | (exact R.r _ _) | (simp only [jM.len_sI, jM.len_sL, jM.len_sR, jM.len_fI, jM.len_fL, jM.len_fR]; omega) | (simp [jM.len_nw, jM.len_sI, jM.len_sL, jM.len_sR, jM.len_fI, jM.len_fL, jM.len_fR, *]; omega)) (by first | omega | (exact R.r _ _) | (simp only [jM.len_sI, jM.len_sL, jM.len_sR, jM.len_fI, jM.len_fL, jM.len_fR]; omega) | (simp [jM.len_nw, jM.len_sI, jM.len_sL, jM.len_sR, jM.len_fI, jM.len_fL, jM.len_fR, *]; omega)) (by first | omega | (exact R.r _ _) | (simp only [jM.len_sI, jM.len_sL, jM.len_sR, jM.len_fI, jM.len_fL, jM.len_fR]; omega) | (simp [jM.len_nw, jM.len_sI, jM.len_sL, jM.len_sR, jM.len_fI, jM.len_fL, jM.len_fR, *]; omega)) ?_
                                               rw [Int.tmod_eq_emod_of_nonneg (by omega)]
                                               refine J.if_ne (tgt := 124) (pc' := 106) rfl rfl rfl (by first | omega | (exact R.r _ _) | (simp only [jM.len_sI, jM.len_sL, jM.len_sR, jM.len_fI, jM.len_fL, jM.len_fR]; omega) | (simp [jM.len_nw, jM.len_sI, jM.len_sL, jM.len_sR, jM.len_fI, jM.len_fL, jM.len_fR, *]; omega)) (fun c103 => ?_) (fun c103 => ?_)
                                               · first
                                                 | (exfalso; omega)
                                                 | (first | refine J.aload_n (pc' := 125) rfl rfl rfl ?_ | refine J.aload_nN (pc' := 125) rfl rfl rfl ?_
                                                    refine J.mgR (pc' := 128) (t := 157) B rfl fl_X12_145 rfl rfl (by decide) rfl ?_
                                                    refine J.iconst (pc' := 129) rfl rfl ?_
                                                    refine J.iload (pc' := 131) rfl rfl rfl ?_
                                                    refine J.imul (pc' := 132) rfl rfl ?_
                                                    refine J.iload_n (pc' := 133) rfl rfl rfl ?_
                                                    refine J.iconst (pc' := 134) rfl rfl ?_
                                                    refine J.isub (pc' := 135) rfl rfl ?_
                                                    refine J.iconst (pc' := 136) rfl rfl ?_
                                                    refine J.idiv (pc' := 137) rfl rfl (by first | omega | (exact R.r _ _) | (simp only [jM.len_sI, jM.len_sL, jM.len_sR, jM.len_fI, jM.len_fL, jM.len_fR]; omega) | (simp [jM.len_nw, jM.len_sI, jM.len_sL, jM.len_sR, jM.len_fI, jM.len_fL, jM.len_fR, *]; omega)) (by first | omega | (exact R.r _ _) | (simp only [jM.len_sI, jM.len_sL, jM.len_sR, jM.len_fI, jM.len_fL, jM.len_fR]; omega) | (simp [jM.len_nw, jM.len_sI, jM.len_sL, jM.len_sR, jM.len_fI, jM.len_fL, jM.len_fR, *]; omega)) (by first | omega | (exact R.r _ _) | (simp only [jM.len_sI, jM.len_sL, jM.len_sR, jM.len_fI, jM.len_fL, jM.len_fR]; omega) | (simp [jM.len_nw, jM.len_sI, jM.len_sL, jM.len_sR, jM.len_fI, jM.len_fL, jM.len_fR, *]; omega)) ?_
                                                    rw [Int.tdiv_eq_ediv_of_nonneg (by omega)]
                                                    refine J.iadd (pc' := 138) rfl rfl ?_
                                                    refine J.mald (pc' := 139) B rfl rfl rfl (by omega) (by simp only [jLn]; omega) rfl ?_
                                                    refine J.iret rfl rfl (by first | omega | (exact R.r _ _) | (simp only [jM.len_sI, jM.len_sL, jM.len_sR, jM.len_fI, jM.len_fL, jM.len_fR]; omega) | (simp [jM.len_nw, jM.len_sI, jM.len_sL, jM.len_sR, jM.len_fI, jM.len_fL, jM.len_fR, *]; omega)) (by first | omega | (exact R.r _ _) | (simp only [jM.len_sI, jM.len_sL, jM.len_sR, jM.len_fI, jM.len_fL, jM.len_fR]; omega) | (simp [jM.len_nw, jM.len_sI, jM.len_sL, jM.len_sR, jM.len_fI, jM.len_fL, jM.len_fR, *]; omega)) ?_
                                                    exact mQ.of (by unfold sp_portion porV; (repeat (first | rw [if_pos (by omega)] | rw [if_neg (by omega)]))))
                                               · first
                                                 | (exfalso; omega)
                                                 | (first | refine J.aload_n (pc' := 107) rfl rfl rfl ?_ | refine J.aload_nN (pc' := 107) rfl rfl rfl ?_
                                                    refine J.mgR (pc' := 110) (t := 156) B rfl fl_X12_142 rfl rfl (by decide) rfl ?_
                                                    refine J.iconst (pc' := 111) rfl rfl ?_
                                                    refine J.iload (pc' := 113) rfl rfl rfl ?_
                                                    refine J.imul (pc' := 114) rfl rfl ?_
                                                    refine J.iload_n (pc' := 115) rfl rfl rfl ?_
                                                    refine J.iconst (pc' := 116) rfl rfl ?_
                                                    refine J.isub (pc' := 117) rfl rfl ?_
                                                    refine J.iconst (pc' := 118) rfl rfl ?_
                                                    refine J.idiv (pc' := 119) rfl rfl (by first | omega | (exact R.r _ _) | (simp only [jM.len_sI, jM.len_sL, jM.len_sR, jM.len_fI, jM.len_fL, jM.len_fR]; omega) | (simp [jM.len_nw, jM.len_sI, jM.len_sL, jM.len_sR, jM.len_fI, jM.len_fL, jM.len_fR, *]; omega)) (by first | omega | (exact R.r _ _) | (simp only [jM.len_sI, jM.len_sL, jM.len_sR, jM.len_fI, jM.len_fL, jM.len_fR]; omega) | (simp [jM.len_nw, jM.len_sI, jM.len_sL, jM.len_sR, jM.len_fI, jM.len_fL, jM.len_fR, *]; omega)) (by first | omega | (exact R.r _ _) | (simp only [jM.len_sI, jM.len_sL, jM.len_sR, jM.len_fI, jM.len_fL, jM.len_fR]; omega) | (simp [jM.len_nw, jM.len_sI, jM.len_sL, jM.len_sR, jM.len_fI, jM.len_fL, jM.len_fR, *]; omega)) ?_
                                                    rw [Int.tdiv_eq_ediv_of_nonneg (by omega)]
                                                    refine J.iadd (pc' := 120) rfl rfl ?_
                                                    refine J.mald (pc' := 121) B rfl rfl rfl (by omega) (by simp only [jLn]; omega) rfl ?_
                                                    refine J.goto (tgt := 139) rfl rfl ?_
                                                    refine J.iret rfl rfl (by first | omega | (exact R.r _ _) | (simp only [jM.len_sI, jM.len_sL, jM.len_sR, jM.len_fI, jM.len_fL, jM.len_fR]; omega) | (simp [jM.len_nw, jM.len_sI, jM.len_sL, jM.len_sR, jM.len_fI, jM.len_fL, jM.len_fR, *]; omega)) (by first | omega | (exact R.r _ _) | (simp only [jM.len_sI, jM.len_sL, jM.len_sR, jM.len_fI, jM.len_fL, jM.len_fR]; omega) | (simp [jM.len_nw, jM.len_sI, jM.len_sL, jM.len_sR, jM.len_fI, jM.len_fL, jM.len_fR, *]; omega)) ?_
                                                    exact mQ.of (by unfold sp_portion porV; (repeat (first | rw [if_pos (by omega)] | rw [if_neg (by omega)])))))
                                          · first
                                            | (exfalso; omega)
                                            | (refine J.iload_n (pc' := 79) rfl rfl rfl ?_
                                               refine J.if_ne (tgt := 92) (pc' := 82) rfl rfl rfl (by first | omega | (exact R.r _ _) | (simp only [jM.len_sI, jM.len_sL, jM.len_sR, jM.len_fI, jM.len_fL, jM.len_fR]; omega) | (simp [jM.len_nw, jM.len_sI, jM.len_sL, jM.len_sR, jM.len_fI, jM.len_fL, jM.len_fR, *]; omega)) (fun c79 => ?_) (fun c79 => ?_)
                                               · first
                                                 | (exfalso; omega)
                                                 | (first | refine J.aload_n (pc' := 93) rfl rfl rfl ?_ | refine J.aload_nN (pc' := 93) rfl rfl rfl ?_
                                                    refine J.mgR (pc' := 96) (t := 155) B rfl fl_X12_139 rfl rfl (by decide) rfl ?_
                                                    refine J.iload (pc' := 98) rfl rfl rfl ?_
                                                    refine J.mald (pc' := 99) B rfl rfl rfl (by omega) (by simp only [jLn]; omega) rfl ?_
                                                    refine J.iret rfl rfl (by first | omega | (exact R.r _ _) | (simp only [jM.len_sI, jM.len_sL, jM.len_sR, jM.len_fI, jM.len_fL, jM.len_fR]; omega) | (simp [jM.len_nw, jM.len_sI, jM.len_sL, jM.len_sR, jM.len_fI, jM.len_fL, jM.len_fR, *]; omega)) (by first | omega | (exact R.r _ _) | (simp only [jM.len_sI, jM.len_sL, jM.len_sR, jM.len_fI, jM.len_fL, jM.len_fR]; omega) | (simp [jM.len_nw, jM.len_sI, jM.len_sL, jM.len_sR, jM.len_fI, jM.len_fL, jM.len_fR, *]; omega)) ?_
                                                    exact mQ.of (by unfold sp_portion porV; (repeat (first | rw [if_pos (by omega)] | rw [if_neg (by omega)]))))
                                               · first
                                                 | (exfalso; omega)
                                                 | (first | refine J.aload_n (pc' := 83) rfl rfl rfl ?_ | refine J.aload_nN (pc' := 83) rfl rfl rfl ?_
                                                    refine J.mgR (pc' := 86) (t := 154) B rfl fl_X12_136 rfl rfl (by decide) rfl ?_
                                                    refine J.iload (pc' := 88) rfl rfl rfl ?_
                                                    refine J.mald (pc' := 89) B rfl rfl rfl (by omega) (by simp only [jLn]; omega) rfl ?_
                                                    refine J.goto (tgt := 99) rfl rfl ?_
                                                    refine J.iret rfl rfl (by first | omega | (exact R.r _ _) | (simp only [jM.len_sI, jM.len_sL, jM.len_sR, jM.len_fI, jM.len_fL, jM.len_fR]; omega) | (simp [jM.len_nw, jM.len_sI, jM.len_sL, jM.len_sR, jM.len_fI, jM.len_fL, jM.len_fR, *]; omega)) (by first | omega | (exact R.r _ _) | (simp only [jM.len_sI, jM.len_sL, jM.len_sR, jM.len_fI, jM.len_fL, jM.len_fR]; omega) | (simp [jM.len_nw, jM.len_sI, jM.len_sL, jM.len_sR, jM.len_fI, jM.len_fL, jM.len_fR, *]; omega)) ?_
                                                    exact mQ.of (by unfold sp_portion porV; (repeat (first | rw [if_pos (by omega)] | rw [if_neg (by omega)]))))))
                                     · first
                                       | (exfalso; omega)
                                       | (refine J.iconst (pc' := 64) rfl rfl ?_
                                          refine J.iret rfl rfl (by first | omega | (exact R.r _ _) | (simp only [jM.len_sI, jM.len_sL, jM.len_sR, jM.len_fI, jM.len_fL, jM.len_fR]; omega) | (simp [jM.len_nw, jM.len_sI, jM.len_sL, jM.len_sR, jM.len_fI, jM.len_fL, jM.len_fR, *]; omega)) (by first | omega | (exact R.r _ _) | (simp only [jM.len_sI, jM.len_sL, jM.len_sR, jM.len_fI, jM.len_fL, jM.len_fR]; omega) | (simp [jM.len_nw, jM.len_sI, jM.len_sL, jM.len_sR, jM.len_fI, jM.len_fL, jM.len_fR, *]; omega)) ?_
                                          exact mQ.of (by unfold sp_portion porV; (repeat (first | rw [if_pos (by omega)] | rw [if_neg (by omega)]))))))))
                 · first
                   | (exfalso; omega)
                   | (refine J.iconst (pc' := 29) rfl rfl ?_
                      refine J.goto (tgt := 33) rfl rfl ?_
                      refine J.iconst (pc' := 34) rfl rfl ?_
                      first | refine J.callV (pc' := 37) (t := 16) rfl MX12_may ml_X12_161 iv_X12_may (by decide) ⟨_, rfl, rfl⟩ B.1 (cm_may1 B h0) rfl rfl (Nat.le_of_ble_eq_true rfl) (by first | omega | (exact R.r _ _) | (simp only [jM.len_sI, jM.len_sL, jM.len_sR, jM.len_fI, jM.len_fL, jM.len_fR]; omega) | (simp [jM.len_nw, jM.len_sI, jM.len_sL, jM.len_sR, jM.len_fI, jM.len_fL, jM.len_fR, *]; omega)) (by first | omega | (exact R.r _ _) | (simp only [jM.len_sI, jM.len_sL, jM.len_sR, jM.len_fI, jM.len_fL, jM.len_fR]; omega) | (simp [jM.len_nw, jM.len_sI, jM.len_sL, jM.len_sR, jM.len_fI, jM.len_fL, jM.len_fR, *]; omega)) (by first | omega | (exact R.r _ _) | (simp only [jM.len_sI, jM.len_sL, jM.len_sR, jM.len_fI, jM.len_fL, jM.len_fR]; omega) | (simp [jM.len_nw, jM.len_sI, jM.len_sL, jM.len_sR, jM.len_fI, jM.len_fL, jM.len_fR, *]; omega)) rfl rfl ?_ ?_ | refine J.callV (pc' := 37) (t := 16) rfl MX12_may ml_X12_161 iv_X12_may (by decide) ⟨_, rfl, rfl⟩ B.1 (cm_may0 B h0 (by omega)) rfl rfl (Nat.le_of_ble_eq_true rfl) (by first | omega | (exact R.r _ _) | (simp only [jM.len_sI, jM.len_sL, jM.len_sR, jM.len_fI, jM.len_fL, jM.len_fR]; omega) | (simp [jM.len_nw, jM.len_sI, jM.len_sL, jM.len_sR, jM.len_fI, jM.len_fL, jM.len_fR, *]; omega)) (by first | omega | (exact R.r _ _) | (simp only [jM.len_sI, jM.len_sL, jM.len_sR, jM.len_fI, jM.len_fL, jM.len_fR]; omega) | (simp [jM.len_nw, jM.len_sI, jM.len_sL, jM.len_sR, jM.len_fI, jM.len_fL, jM.len_fR, *]; omega)) (by first | omega | (exact R.r _ _) | (simp only [jM.len_sI, jM.len_sL, jM.len_sR, jM.len_fI, jM.len_fL, jM.len_fR]; omega) | (simp [jM.len_nw, jM.len_sI, jM.len_sL, jM.len_sR, jM.len_fI, jM.len_fL, jM.len_fR, *]; omega)) rfl rfl ?_ ?_
                      · exact fun _ _ h => h
                      rintro _ _ ⟨rfl, rfl⟩
                      refine J.if_eq (tgt := 63) (pc' := 40) rfl rfl rfl (by first | omega | (exact R.r _ _) | (simp only [jM.len_sI, jM.len_sL, jM.len_sR, jM.len_fI, jM.len_fL, jM.len_fR]; omega) | (simp [jM.len_nw, jM.len_sI, jM.len_sL, jM.len_sR, jM.len_fI, jM.len_fL, jM.len_fR, *]; omega)) (fun c37 => ?_) (fun c37 => ?_)
                      · first
                        | (exfalso; omega)
                        | (refine J.iconst (pc' := 64) rfl rfl ?_
                           refine J.iret rfl rfl (by first | omega | (exact R.r _ _) | (simp only [jM.len_sI, jM.len_sL, jM.len_sR, jM.len_fI, jM.len_fL, jM.len_fR]; omega) | (simp [jM.len_nw, jM.len_sI, jM.len_sL, jM.len_sR, jM.len_fI, jM.len_fL, jM.len_fR, *]; omega)) (by first | omega | (exact R.r _ _) | (simp only [jM.len_sI, jM.len_sL, jM.len_sR, jM.len_fI, jM.len_fL, jM.len_fR]; omega) | (simp [jM.len_nw, jM.len_sI, jM.len_sL, jM.len_sR, jM.len_fI, jM.len_fL, jM.len_fR, *]; omega)) ?_
                           exact mQ.of (by unfold sp_portion porV; (repeat (first | rw [if_pos (by omega)] | rw [if_neg (by omega)]))))
                      · first
                        | (exfalso; omega)
                        | (first | refine J.aload_n (pc' := 41) rfl rfl rfl ?_ | refine J.aload_nN (pc' := 41) rfl rfl rfl ?_
                           refine J.iload_n (pc' := 42) rfl rfl rfl ?_
                           refine J.if_lt (tgt := 55) (pc' := 45) rfl rfl rfl (by first | omega | (exact R.r _ _) | (simp only [jM.len_sI, jM.len_sL, jM.len_sR, jM.len_fI, jM.len_fL, jM.len_fR]; omega) | (simp [jM.len_nw, jM.len_sI, jM.len_sL, jM.len_sR, jM.len_fI, jM.len_fL, jM.len_fR, *]; omega)) (fun c42 => ?_) (fun c42 => ?_)
                           · first
                             | (exfalso; omega)
                             | (refine J.iconst (pc' := 56) rfl rfl ?_
                                refine J.iconst (pc' := 57) rfl rfl ?_
                                first | refine J.callV (pc' := 60) (t := 16) rfl MX12_may ml_X12_161 iv_X12_may (by decide) ⟨_, rfl, rfl⟩ B.1 (cm_may1 B h0) rfl rfl (Nat.le_of_ble_eq_true rfl) (by first | omega | (exact R.r _ _) | (simp only [jM.len_sI, jM.len_sL, jM.len_sR, jM.len_fI, jM.len_fL, jM.len_fR]; omega) | (simp [jM.len_nw, jM.len_sI, jM.len_sL, jM.len_sR, jM.len_fI, jM.len_fL, jM.len_fR, *]; omega)) (by first | omega | (exact R.r _ _) | (simp only [jM.len_sI, jM.len_sL, jM.len_sR, jM.len_fI, jM.len_fL, jM.len_fR]; omega) | (simp [jM.len_nw, jM.len_sI, jM.len_sL, jM.len_sR, jM.len_fI, jM.len_fL, jM.len_fR, *]; omega)) (by first | omega | (exact R.r _ _) | (simp only [jM.len_sI, jM.len_sL, jM.len_sR, jM.len_fI, jM.len_fL, jM.len_fR]; omega) | (simp [jM.len_nw, jM.len_sI, jM.len_sL, jM.len_sR, jM.len_fI, jM.len_fL, jM.len_fR, *]; omega)) rfl rfl ?_ ?_ | refine J.callV (pc' := 60) (t := 16) rfl MX12_may ml_X12_161 iv_X12_may (by decide) ⟨_, rfl, rfl⟩ B.1 (cm_may0 B h0 (by omega)) rfl rfl (Nat.le_of_ble_eq_true rfl) (by first | omega | (exact R.r _ _) | (simp only [jM.len_sI, jM.len_sL, jM.len_sR, jM.len_fI, jM.len_fL, jM.len_fR]; omega) | (simp [jM.len_nw, jM.len_sI, jM.len_sL, jM.len_sR, jM.len_fI, jM.len_fL, jM.len_fR, *]; omega)) (by first | omega | (exact R.r _ _) | (simp only [jM.len_sI, jM.len_sL, jM.len_sR, jM.len_fI, jM.len_fL, jM.len_fR]; omega) | (simp [jM.len_nw, jM.len_sI, jM.len_sL, jM.len_sR, jM.len_fI, jM.len_fL, jM.len_fR, *]; omega)) (by first | omega | (exact R.r _ _) | (simp only [jM.len_sI, jM.len_sL, jM.len_sR, jM.len_fI, jM.len_fL, jM.len_fR]; omega) | (simp [jM.len_nw, jM.len_sI, jM.len_sL, jM.len_sR, jM.len_fI, jM.len_fL, jM.len_fR, *]; omega)) rfl rfl ?_ ?_
                                · exact fun _ _ h => h
                                rintro _ _ ⟨rfl, rfl⟩
                                refine J.if_ne (tgt := 65) (pc' := 63) rfl rfl rfl (by first | omega | (exact R.r _ _) | (simp only [jM.len_sI, jM.len_sL, jM.len_sR, jM.len_fI, jM.len_fL, jM.len_fR]; omega) | (simp [jM.len_nw, jM.len_sI, jM.len_sL, jM.len_sR, jM.len_fI, jM.len_fL, jM.len_fR, *]; omega)) (fun c60 => ?_) (fun c60 => ?_)
                                · first
                                  | (exfalso; omega)
                                  | (refine J.bipush (pc' := 67) rfl rfl (by decide) ?_
                                     refine J.iload_n (pc' := 68) rfl rfl rfl ?_
                                     refine J.imul (pc' := 69) rfl rfl ?_
                                     refine J.iload_n (pc' := 70) rfl rfl rfl ?_
                                     refine J.iadd (pc' := 71) rfl rfl ?_
                                     refine J.istore (pc' := 73) rfl rfl (by decide) ?_
                                     refine J.iload_n (pc' := 74) rfl rfl rfl ?_
                                     refine J.iconst (pc' := 75) rfl rfl ?_
                                     refine J.icmp_ge (tgt := 100) (pc' := 78) rfl rfl rfl (by first | omega | (exact R.r _ _) | (simp only [jM.len_sI, jM.len_sL, jM.len_sR, jM.len_fI, jM.len_fL, jM.len_fR]; omega) | (simp [jM.len_nw, jM.len_sI, jM.len_sL, jM.len_sR, jM.len_fI, jM.len_fL, jM.len_fR, *]; omega)) (by first | omega | (exact R.r _ _) | (simp only [jM.len_sI, jM.len_sL, jM.len_sR, jM.len_fI, jM.len_fL, jM.len_fR]; omega) | (simp [jM.len_nw, jM.len_sI, jM.len_sL, jM.len_sR, jM.len_fI, jM.len_fL, jM.len_fR, *]; omega)) (fun c75 => ?_) (fun c75 => ?_)
                                     · first
                                       | (exfalso; omega)
                                       | (refine J.iload_n (pc' := 101) rfl rfl rfl ?_
                                          refine J.iconst (pc' := 102) rfl rfl ?_
                                          refine J.irem (pc' := 103) rfl rfl (by first | omega | (exact R.r _ _) | (simp only [jM.len_sI, jM.len_sL, jM.len_sR, jM.len_fI, jM.len_fL, jM.len_fR]; omega) | (simp [jM.len_nw, jM.len_sI, jM.len_sL, jM.len_sR, jM.len_fI, jM.len_fL, jM.len_fR, *]; omega)) (by first | omega | (exact R.r _ _) | (simp only [jM.len_sI, jM.len_sL, jM.len_sR, jM.len_fI, jM.len_fL, jM.len_fR]; omega) | (simp [jM.len_nw, jM.len_sI, jM.len_sL, jM.len_sR, jM.len_fI, jM.len_fL, jM.len_fR, *]; omega)) (by first | omega | (exact R.r _ _) | (simp only [jM.len_sI, jM.len_sL, jM.len_sR, jM.len_fI, jM.len_fL, jM.len_fR]; omega) | (simp [jM.len_nw, jM.len_sI, jM.len_sL, jM.len_sR, jM.len_fI, jM.len_fL, jM.len_fR, *]; omega)) ?_
                                          rw [Int.tmod_eq_emod_of_nonneg (by omega)]
                                          refine J.if_ne (tgt := 124) (pc' := 106) rfl rfl rfl (by first | omega | (exact R.r _ _) | (simp only [jM.len_sI, jM.len_sL, jM.len_sR, jM.len_fI, jM.len_fL, jM.len_fR]; omega) | (simp [jM.len_nw, jM.len_sI, jM.len_sL, jM.len_sR, jM.len_fI, jM.len_fL, jM.len_fR, *]; omega)) (fun c103 => ?_) (fun c103 => ?_)
                                          · first
                                            | (exfalso; omega)
                                            | (first | refine J.aload_n (pc' := 125) rfl rfl rfl ?_ | refine J.aload_nN (pc' := 125) rfl rfl rfl ?_
                                               refine J.mgR (pc' := 128) (t := 157) B rfl fl_X12_145 rfl rfl (by decide) rfl ?_
                                               refine J.iconst (pc' := 129) rfl rfl ?_
                                               refine J.iload (pc' := 131) rfl rfl rfl ?_
                                               refine J.imul (pc' := 132) rfl rfl ?_
                                               refine J.iload_n (pc' := 133) rfl rfl rfl ?_
                                               refine J.iconst (pc' := 134) rfl rfl ?_
                                               refine J.isub (pc' := 135) rfl rfl ?_
                                               refine J.iconst (pc' := 136) rfl rfl ?_
                                               refine J.idiv (pc' := 137) rfl rfl (by first | omega | (exact R.r _ _) | (simp only [jM.len_sI, jM.len_sL, jM.len_sR, jM.len_fI, jM.len_fL, jM.len_fR]; omega) | (simp [jM.len_nw, jM.len_sI, jM.len_sL, jM.len_sR, jM.len_fI, jM.len_fL, jM.len_fR, *]; omega)) (by first | omega | (exact R.r _ _) | (simp only [jM.len_sI, jM.len_sL, jM.len_sR, jM.len_fI, jM.len_fL, jM.len_fR]; omega) | (simp [jM.len_nw, jM.len_sI, jM.len_sL, jM.len_sR, jM.len_fI, jM.len_fL, jM.len_fR, *]; omega)) (by first | omega | (exact R.r _ _) | (simp only [jM.len_sI, jM.len_sL, jM.len_sR, jM.len_fI, jM.len_fL, jM.len_fR]; omega) | (simp [jM.len_nw, jM.len_sI, jM.len_sL, jM.len_sR, jM.len_fI, jM.len_fL, jM.len_fR, *]; omega)) ?_
                                               rw [Int.tdiv_eq_ediv_of_nonneg (by omega)]
                                               refine J.iadd (pc' := 138) rfl rfl ?_
                                               refine J.mald (pc' := 139) B rfl rfl rfl (by omega) (by simp only [jLn]; omega) rfl ?_
                                               refine J.iret rfl rfl (by first | omega | (exact R.r _ _) | (simp only [jM.len_sI, jM.len_sL, jM.len_sR, jM.len_fI, jM.len_fL, jM.len_fR]; omega) | (simp [jM.len_nw, jM.len_sI, jM.len_sL, jM.len_sR, jM.len_fI, jM.len_fL, jM.len_fR, *]; omega)) (by first | omega | (exact R.r _ _) | (simp only [jM.len_sI, jM.len_sL, jM.len_sR, jM.len_fI, jM.len_fL, jM.len_fR]; omega) | (simp [jM.len_nw, jM.len_sI, jM.len_sL, jM.len_sR, jM.len_fI, jM.len_fL, jM.len_fR, *]; omega)) ?_
                                               exact mQ.of (by unfold sp_portion porV; (repeat (first | rw [if_pos (by omega)] | rw [if_neg (by omega)]))))
                                          · first
                                            | (exfalso; omega)
                                            | (first | refine J.aload_n (pc' := 107) rfl rfl rfl ?_ | refine J.aload_nN (pc' := 107) rfl rfl rfl ?_
                                               refine J.mgR (pc' := 110) (t := 156) B rfl fl_X12_142 rfl rfl (by decide) rfl ?_
                                               refine J.iconst (pc' := 111) rfl rfl ?_
                                               refine J.iload (pc' := 113) rfl rfl rfl ?_
                                               refine J.imul (pc' := 114) rfl rfl ?_
                                               refine J.iload_n (pc' := 115) rfl rfl rfl ?_
                                               refine J.iconst (pc' := 116) rfl rfl ?_
                                               refine J.isub (pc' := 117) rfl rfl ?_
                                               refine J.iconst (pc' := 118) rfl rfl ?_
                                               refine J.idiv (pc' := 119) rfl rfl (by first | omega | (exact R.r _ _) | (simp only [jM.len_sI, jM.len_sL, jM.len_sR, jM.len_fI, jM.len_fL, jM.len_fR]; omega) | (simp [jM.len_nw, jM.len_sI, jM.len_sL, jM.len_sR, jM.len_fI, jM.len_fL, jM.len_fR, *]; omega)) (by first | omega | (exact R.r _ _) | (simp only [jM.len_sI, jM.len_sL, jM.len_sR, jM.len_fI, jM.len_fL, jM.len_fR]; omega) | (simp [jM.len_nw, jM.len_sI, jM.len_sL, jM.len_sR, jM.len_fI, jM.len_fL, jM.len_fR, *]; omega)) (by first | omega | (exact R.r _ _) | (simp only [jM.len_sI, jM.len_sL, jM.len_sR, jM.len_fI, jM.len_fL, jM.len_fR]; omega) | (simp [jM.len_nw, jM.len_sI, jM.len_sL, jM.len_sR, jM.len_fI, jM.len_fL, jM.len_fR, *]; omega)) ?_
                                               rw [Int.tdiv_eq_ediv_of_nonneg (by omega)]
                                               refine J.iadd (pc' := 120) rfl rfl ?_
                                               refine J.mald (pc' := 121) B rfl rfl rfl (by omega) (by simp only [jLn]; omega) rfl ?_
                                               refine J.goto (tgt := 139) rfl rfl ?_
                                               refine J.iret rfl rfl (by first | omega | (exact R.r _ _) | (simp only [jM.len_sI, jM.len_sL, jM.len_sR, jM.len_fI, jM.len_fL, jM.len_fR]; omega) | (simp [jM.len_nw, jM.len_sI, jM.len_sL, jM.len_sR, jM.len_fI, jM.len_fL, jM.len_fR, *]; omega)) (by first | omega | (exact R.r _ _) | (simp only [jM.len_sI, jM.len_sL, jM.len_sR, jM.len_fI, jM.len_fL, jM.len_fR]; omega) | (simp [jM.len_nw, jM.len_sI, jM.len_sL, jM.len_sR, jM.len_fI, jM.len_fL, jM.len_fR, *]; omega)) ?_
                                               exact mQ.of (by unfold sp_portion porV; (repeat (first | rw [if_pos (by omega)] | rw [if_neg (by omega)])))))
                                     · first
                                       | (exfalso; omega)
                                       | (refine J.iload_n (pc' := 79) rfl rfl rfl ?_
                                          refine J.if_ne (tgt := 92) (pc' := 82) rfl rfl rfl (by first | omega | (exact R.r _ _) | (simp only [jM.len_sI, jM.len_sL, jM.len_sR, jM.len_fI, jM.len_fL, jM.len_fR]; omega) | (simp [jM.len_nw, jM.len_sI, jM.len_sL, jM.len_sR, jM.len_fI, jM.len_fL, jM.len_fR, *]; omega)) (fun c79 => ?_) (fun c79 => ?_)
                                          · first
                                            | (exfalso; omega)
                                            | (first | refine J.aload_n (pc' := 93) rfl rfl rfl ?_ | refine J.aload_nN (pc' := 93) rfl rfl rfl ?_
                                               refine J.mgR (pc' := 96) (t := 155) B rfl fl_X12_139 rfl rfl (by decide) rfl ?_
                                               refine J.iload (pc' := 98) rfl rfl rfl ?_
                                               refine J.mald (pc' := 99) B rfl rfl rfl (by omega) (by simp only [jLn]; omega) rfl ?_
                                               refine J.iret rfl rfl (by first | omega | (exact R.r _ _) | (simp only [jM.len_sI, jM.len_sL, jM.len_sR, jM.len_fI, jM.len_fL, jM.len_fR]; omega) | (simp [jM.len_nw, jM.len_sI, jM.len_sL, jM.len_sR, jM.len_fI, jM.len_fL, jM.len_fR, *]; omega)) (by first | omega | (exact R.r _ _) | (simp only [jM.len_sI, jM.len_sL, jM.len_sR, jM.len_fI, jM.len_fL, jM.len_fR]; omega) | (simp [jM.len_nw, jM.len_sI, jM.len_sL, jM.len_sR, jM.len_fI, jM.len_fL, jM.len_fR, *]; omega)) ?_
                                               exact mQ.of (by unfold sp_portion porV; (repeat (first | rw [if_pos (by omega)] | rw [if_neg (by omega)]))))
                                          · first
                                            | (exfalso; omega)
                                            | (first | refine J.aload_n (pc' := 83) rfl rfl rfl ?_ | refine J.aload_nN (pc' := 83) rfl rfl rfl ?_
                                               refine J.mgR (pc' := 86) (t := 154) B rfl fl_X12_136 rfl rfl (by decide) rfl ?_
                                               refine J.iload (pc' := 88) rfl rfl rfl ?_
                                               refine J.mald (pc' := 89) B rfl rfl rfl (by omega) (by simp only [jLn]; omega) rfl ?_
                                               refine J.goto (tgt := 99) rfl rfl ?_
                                               refine J.iret rfl rfl (by first | omega | (exact R.r _ _) | (simp only [jM.len_sI, jM.len_sL, jM.len_sR, jM.len_fI, jM.len_fL, jM.len_fR]; omega) | (simp [jM.len_nw, jM.len_sI, jM.len_sL, jM.len_sR, jM.len_fI, jM.len_fL, jM.len_fR, *]; omega)) (by first | omega | (exact R.r _ _) | (simp only [jM.len_sI, jM.len_sL, jM.len_sR, jM.len_fI, jM.len_fL, jM.len_fR]; omega) | (simp [jM.len_nw, jM.len_sI, jM.len_sL, jM.len_sR, jM.len_fI, jM.len_fL, jM.len_fR, *]; omega)) ?_
                                               exact mQ.of (by unfold sp_portion porV; (repeat (first | rw [if_pos (by omega)] | rw [if_neg (by omega)]))))))
                                · first
                                  | (exfalso; omega)
                                  | (refine J.iconst (pc' := 64) rfl rfl ?_
                                     refine J.iret rfl rfl (by first | omega | (exact R.r _ _) | (simp only [jM.len_sI, jM.len_sL, jM.len_sR, jM.len_fI, jM.len_fL, jM.len_fR]; omega) | (simp [jM.len_nw, jM.len_sI, jM.len_sL, jM.len_sR, jM.len_fI, jM.len_fL, jM.len_fR, *]; omega)) (by first | omega | (exact R.r _ _) | (simp only [jM.len_sI, jM.len_sL, jM.len_sR, jM.len_fI, jM.len_fL, jM.len_fR]; omega) | (simp [jM.len_nw, jM.len_sI, jM.len_sL, jM.len_sR, jM.len_fI, jM.len_fL, jM.len_fR, *]; omega)) ?_
                                     exact mQ.of (by unfold sp_portion porV; (repeat (first | rw [if_pos (by omega)] | rw [if_neg (by omega)])))))
                           · first
                             | (exfalso; omega)
                             | (refine J.iload_n (pc' := 46) rfl rfl rfl ?_
                                refine J.bipush (pc' := 48) rfl rfl (by decide) ?_
                                refine J.icmp_ge (tgt := 55) (pc' := 51) rfl rfl rfl (by first | omega | (exact R.r _ _) | (simp only [jM.len_sI, jM.len_sL, jM.len_sR, jM.len_fI, jM.len_fL, jM.len_fR]; omega) | (simp [jM.len_nw, jM.len_sI, jM.len_sL, jM.len_sR, jM.len_fI, jM.len_fL, jM.len_fR, *]; omega)) (by first | omega | (exact R.r _ _) | (simp only [jM.len_sI, jM.len_sL, jM.len_sR, jM.len_fI, jM.len_fL, jM.len_fR]; omega) | (simp [jM.len_nw, jM.len_sI, jM.len_sL, jM.len_sR, jM.len_fI, jM.len_fL, jM.len_fR, *]; omega)) (fun c48 => ?_) (fun c48 => ?_)
                                · first
                                  | (exfalso; omega)
                                  | (refine J.iconst (pc' := 56) rfl rfl ?_
                                     refine J.iconst (pc' := 57) rfl rfl ?_
                                     first | refine J.callV (pc' := 60) (t := 16) rfl MX12_may ml_X12_161 iv_X12_may (by decide) ⟨_, rfl, rfl⟩ B.1 (cm_may1 B h0) rfl rfl (Nat.le_of_ble_eq_true rfl) (by first | omega | (exact R.r _ _) | (simp only [jM.len_sI, jM.len_sL, jM.len_sR, jM.len_fI, jM.len_fL, jM.len_fR]; omega) | (simp [jM.len_nw, jM.len_sI, jM.len_sL, jM.len_sR, jM.len_fI, jM.len_fL, jM.len_fR, *]; omega)) (by first | omega | (exact R.r _ _) | (simp only [jM.len_sI, jM.len_sL, jM.len_sR, jM.len_fI, jM.len_fL, jM.len_fR]; omega) | (simp [jM.len_nw, jM.len_sI, jM.len_sL, jM.len_sR, jM.len_fI, jM.len_fL, jM.len_fR, *]; omega)) (by first | omega | (exact R.r _ _) | (simp only [jM.len_sI, jM.len_sL, jM.len_sR, jM.len_fI, jM.len_fL, jM.len_fR]; omega) | (simp [jM.len_nw, jM.len_sI, jM.len_sL, jM.len_sR, jM.len_fI, jM.len_fL, jM.len_fR, *]; omega)) rfl rfl ?_ ?_ | refine J.callV (pc' := 60) (t := 16) rfl MX12_may ml_X12_161 iv_X12_may (by decide) ⟨_, rfl, rfl⟩ B.1 (cm_may0 B h0 (by omega)) rfl rfl (Nat.le_of_ble_eq_true rfl) (by first | omega | (exact R.r _ _) | (simp only [jM.len_sI, jM.len_sL, jM.len_sR, jM.len_fI, jM.len_fL, jM.len_fR]; omega) | (simp [jM.len_nw, jM.len_sI, jM.len_sL, jM.len_sR, jM.len_fI, jM.len_fL, jM.len_fR, *]; omega)) (by first | omega | (exact R.r _ _) | (simp only [jM.len_sI, jM.len_sL, jM.len_sR, jM.len_fI, jM.len_fL, jM.len_fR]; omega) | (simp [jM.len_nw, jM.len_sI, jM.len_sL, jM.len_sR, jM.len_fI, jM.len_fL, jM.len_fR, *]; omega)) (by first | omega | (exact R.r _ _) | (simp only [jM.len_sI, jM.len_sL, jM.len_sR, jM.len_fI, jM.len_fL, jM.len_fR]; omega) | (simp [jM.len_nw, jM.len_sI, jM.len_sL, jM.len_sR, jM.len_fI, jM.len_fL, jM.len_fR, *]; omega)) rfl rfl ?_ ?_
                                     · exact fun _ _ h => h
                                     rintro _ _ ⟨rfl, rfl⟩
                                     refine J.if_ne (tgt := 65) (pc' := 63) rfl rfl rfl (by first | omega | (exact R.r _ _) | (simp only [jM.len_sI, jM.len_sL, jM.len_sR, jM.len_fI, jM.len_fL, jM.len_fR]; omega) | (simp [jM.len_nw, jM.len_sI, jM.len_sL, jM.len_sR, jM.len_fI, jM.len_fL, jM.len_fR, *]; omega)) (fun c60 => ?_) (fun c60 => ?_)
                                     · first
                                       | (exfalso; omega)
                                       | (refine J.bipush (pc' := 67) rfl rfl (by decide) ?_
                                          refine J.iload_n (pc' := 68) rfl rfl rfl ?_
                                          refine J.imul (pc' := 69) rfl rfl ?_
                                          refine J.iload_n (pc' := 70) rfl rfl rfl ?_
                                          refine J.iadd (pc' := 71) rfl rfl ?_
                                          refine J.istore (pc' := 73) rfl rfl (by decide) ?_
                                          refine J.iload_n (pc' := 74) rfl rfl rfl ?_
                                          refine J.iconst (pc' := 75) rfl rfl ?_
                                          refine J.icmp_ge (tgt := 100) (pc' := 78) rfl rfl rfl (by first | omega | (exact R.r _ _) | (simp only [jM.len_sI, jM.len_sL, jM.len_sR, jM.len_fI, jM.len_fL, jM.len_fR]; omega) | (simp [jM.len_nw, jM.len_sI, jM.len_sL, jM.len_sR, jM.len_fI, jM.len_fL, jM.len_fR, *]; omega)) (by first | omega | (exact R.r _ _) | (simp only [jM.len_sI, jM.len_sL, jM.len_sR, jM.len_fI, jM.len_fL, jM.len_fR]; omega) | (simp [jM.len_nw, jM.len_sI, jM.len_sL, jM.len_sR, jM.len_fI, jM.len_fL, jM.len_fR, *]; omega)) (fun c75 => ?_) (fun c75 => ?_)
                                          · first
                                            | (exfalso; omega)
                                            | (refine J.iload_n (pc' := 101) rfl rfl rfl ?_
                                               refine J.iconst (pc' := 102) rfl rfl ?_
                                               refine J.irem (pc' := 103) rfl rfl (by first | omega | (exact R.r _ _) | (simp only [jM.len_sI, jM.len_sL, jM.len_sR, jM.len_fI, jM.len_fL, jM.len_fR]; omega) | (simp [jM.len_nw, jM.len_sI, jM.len_sL, jM.len_sR, jM.len_fI, jM.len_fL, jM.len_fR, *]; omega)) (by first | omega | (exact R.r _ _) | (simp only [jM.len_sI, jM.len_sL, jM.len_sR, jM.len_fI, jM.len_fL, jM.len_fR]; omega) | (simp [jM.len_nw, jM.len_sI, jM.len_sL, jM.len_sR, jM.len_fI, jM.len_fL, jM.len_fR, *]; omega)) (by first | omega | (exact R.r _ _) | (simp only [jM.len_sI, jM.len_sL, jM.len_sR, jM.len_fI, jM.len_fL, jM.len_fR]; omega) | (simp [jM.len_nw, jM.len_sI, jM.len_sL, jM.len_sR, jM.len_fI, jM.len_fL, jM.len_fR, *]; omega)) ?_
                                               rw [Int.tmod_eq_emod_of_nonneg (by omega)]
                                               refine J.if_ne (tgt := 124) (pc' := 106) rfl rfl rfl (by first | omega | (exact R.r _ _) | (simp only [jM.len_sI, jM.len_sL, jM.len_sR, jM.len_fI, jM.len_fL, jM.len_fR]; omega) | (simp [jM.len_nw, jM.len_sI, jM.len_sL, jM.len_sR, jM.len_fI, jM.len_fL, jM.len_fR, *]; omega)) (fun c103 => ?_) (fun c103 => ?_)
                                               · first
                                                 | (exfalso; omega)
                                                 | (first | refine J.aload_n (pc' := 125) rfl rfl rfl ?_ | refine J.aload_nN (pc' := 125) rfl rfl rfl ?_
                                                    refine J.mgR (pc' := 128) (t := 157) B rfl fl_X12_145 rfl rfl (by decide) rfl ?_
                                                    refine J.iconst (pc' := 129) rfl rfl ?_
                                                    refine J.iload (pc' := 131) rfl rfl rfl ?_
                                                    refine J.imul (pc' := 132) rfl rfl ?_
                                                    refine J.iload_n (pc' := 133) rfl rfl rfl ?_
                                                    refine J.iconst (pc' := 134) rfl rfl ?_
                                                    refine J.isub (pc' := 135) rfl rfl ?_
                                                    refine J.iconst (pc' := 136) rfl rfl ?_
                                                    refine J.idiv (pc' := 137) rfl rfl (by first | omega | (exact R.r _ _) | (simp only [jM.len_sI, jM.len_sL, jM.len_sR, jM.len_fI, jM.len_fL, jM.len_fR]; omega) | (simp [jM.len_nw, jM.len_sI, jM.len_sL, jM.len_sR, jM.len_fI, jM.len_fL, jM.len_fR, *]; omega)) (by first | omega | (exact R.r _ _) | (simp only [jM.len_sI, jM.len_sL, jM.len_sR, jM.len_fI, jM.len_fL, jM.len_fR]; omega) | (simp [jM.len_nw, jM.len_sI, jM.len_sL, jM.len_sR, jM.len_fI, jM.len_fL, jM.len_fR, *]; omega)) (by first | omega | (exact R.r _ _) | (simp only [jM.len_sI, jM.len_sL, jM.len_sR, jM.len_fI, jM.len_fL, jM.len_fR]; omega) | (simp [jM.len_nw, jM.len_sI, jM.len_sL, jM.len_sR, jM.len_fI, jM.len_fL, jM.len_fR, *]; omega)) ?_
                                                    rw [Int.tdiv_eq_ediv_of_nonneg (by omega)]
                                                    refine J.iadd (pc' := 138) rfl rfl ?_
                                                    refine J.mald (pc' := 139) B rfl rfl rfl (by omega) (by simp only [jLn]; omega) rfl ?_
                                                    refine J.iret rfl rfl (by first | omega | (exact R.r _ _) | (simp only [jM.len_sI, jM.len_sL, jM.len_sR, jM.len_fI, jM.len_fL, jM.len_fR]; omega) | (simp [jM.len_nw, jM.len_sI, jM.len_sL, jM.len_sR, jM.len_fI, jM.len_fL, jM.len_fR, *]; omega)) (by first | omega | (exact R.r _ _) | (simp only [jM.len_sI, jM.len_sL, jM.len_sR, jM.len_fI, jM.len_fL, jM.len_fR]; omega) | (simp [jM.len_nw, jM.len_sI, jM.len_sL, jM.len_sR, jM.len_fI, jM.len_fL, jM.len_fR, *]; omega)) ?_
                                                    exact mQ.of (by unfold sp_portion porV; (repeat (first | rw [if_pos (by omega)] | rw [if_neg (by omega)]))))
                                               · first
                                                 | (exfalso; omega)
                                                 | (first | refine J.aload_n (pc' := 107) rfl rfl rfl ?_ | refine J.aload_nN (pc' := 107) rfl rfl rfl ?_
                                                    refine J.mgR (pc' := 110) (t := 156) B rfl fl_X12_142 rfl rfl (by decide) rfl ?_
                                                    refine J.iconst (pc' := 111) rfl rfl ?_
                                                    refine J.iload (pc' := 113) rfl rfl rfl ?_
                                                    refine J.imul (pc' := 114) rfl rfl ?_
                                                    refine J.iload_n (pc' := 115) rfl rfl rfl ?_
                                                    refine J.iconst (pc' := 116) rfl rfl ?_
                                                    refine J.isub (pc' := 117) rfl rfl ?_
                                                    refine J.iconst (pc' := 118) rfl rfl ?_
                                                    refine J.idiv (pc' := 119) rfl rfl (by first | omega | (exact R.r _ _) | (simp only [jM.len_sI, jM.len_sL, jM.len_sR, jM.len_fI, jM.len_fL, jM.len_fR]; omega) | (simp [jM.len_nw, jM.len_sI, jM.len_sL, jM.len_sR, jM.len_fI, jM.len_fL, jM.len_fR, *]; omega)) (by first | omega | (exact R.r _ _) | (simp only [jM.len_sI, jM.len_sL, jM.len_sR, jM.len_fI, jM.len_fL, jM.len_fR]; omega) | (simp [jM.len_nw, jM.len_sI, jM.len_sL, jM.len_sR, jM.len_fI, jM.len_fL, jM.len_fR, *]; omega)) (by first | omega | (exact R.r _ _) | (simp only [jM.len_sI, jM.len_sL, jM.len_sR, jM.len_fI, jM.len_fL, jM.len_fR]; omega) | (simp [jM.len_nw, jM.len_sI, jM.len_sL, jM.len_sR, jM.len_fI, jM.len_fL, jM.len_fR, *]; omega)) ?_
                                                    rw [Int.tdiv_eq_ediv_of_nonneg (by omega)]
                                                    refine J.iadd (pc' := 120) rfl rfl ?_
                                                    refine J.mald (pc' := 121) B rfl rfl rfl (by omega) (by simp only [jLn]; omega) rfl ?_
                                                    refine J.goto (tgt := 139) rfl rfl ?_
                                                    refine J.iret rfl rfl (by first | omega | (exact R.r _ _) | (simp only [jM.len_sI, jM.len_sL, jM.len_sR, jM.len_fI, jM.len_fL, jM.len_fR]; omega) | (simp [jM.len_nw, jM.len_sI, jM.len_sL, jM.len_sR, jM.len_fI, jM.len_fL, jM.len_fR, *]; omega)) (by first | omega | (exact R.r _ _) | (simp only [jM.len_sI, jM.len_sL, jM.len_sR, jM.len_fI, jM.len_fL, jM.len_fR]; omega) | (simp [jM.len_nw, jM.len_sI, jM.len_sL, jM.len_sR, jM.len_fI, jM.len_fL, jM.len_fR, *]; omega)) ?_
                                                    exact mQ.of (by unfold sp_portion porV; (repeat (first | rw [if_pos (by omega)] | rw [if_neg (by omega)])))))
                                          · first
                                            | (exfalso; omega)
                                            | (refine J.iload_n (pc' := 79) rfl rfl rfl ?_
                                               refine J.if_ne (tgt := 92) (pc' := 82) rfl rfl rfl (by first | omega | (exact R.r _ _) | (simp only [jM.len_sI, jM.len_sL, jM.len_sR, jM.len_fI, jM.len_fL, jM.len_fR]; omega) | (simp [jM.len_nw, jM.len_sI, jM.len_sL, jM.len_sR, jM.len_fI, jM.len_fL, jM.len_fR, *]; omega)) (fun c79 => ?_) (fun c79 => ?_)
                                               · first
                                                 | (exfalso; omega)
                                                 | (first | refine J.aload_n (pc' := 93) rfl rfl rfl ?_ | refine J.aload_nN (pc' := 93) rfl rfl rfl ?_
                                                    refine J.mgR (pc' := 96) (t := 155) B rfl fl_X12_139 rfl rfl (by decide) rfl ?_
                                                    refine J.iload (pc' := 98) rfl rfl rfl ?_
                                                    refine J.mald (pc' := 99) B rfl rfl rfl (by omega) (by simp only [jLn]; omega) rfl ?_
                                                    refine J.iret rfl rfl (by first | omega | (exact R.r _ _) | (simp only [jM.len_sI, jM.len_sL, jM.len_sR, jM.len_fI, jM.len_fL, jM.len_fR]; omega) | (simp [jM.len_nw, jM.len_sI, jM.len_sL, jM.len_sR, jM.len_fI, jM.len_fL, jM.len_fR, *]; omega)) (by first | omega | (exact R.r _ _) | (simp only [jM.len_sI, jM.len_sL, jM.len_sR, jM.len_fI, jM.len_fL, jM.len_fR]; omega) | (simp [jM.len_nw, jM.len_sI, jM.len_sL, jM.len_sR, jM.len_fI, jM.len_fL, jM.len_fR, *]; omega)) ?_
                                                    exact mQ.of (by unfold sp_portion porV; (repeat (first | rw [if_pos (by omega)] | rw [if_neg (by omega)]))))
                                               · first
                                                 | (exfalso; omega)
                                                 | (first | refine J.aload_n (pc' := 83) rfl rfl rfl ?_ | refine J.aload_nN (pc' := 83) rfl rfl rfl ?_
                                                    refine J.mgR (pc' := 86) (t := 154) B rfl fl_X12_136 rfl rfl (by decide) rfl ?_
                                                    refine J.iload (pc' := 88) rfl rfl rfl ?_
                                                    refine J.mald (pc' := 89) B rfl rfl rfl (by omega) (by simp only [jLn]; omega) rfl ?_
                                                    refine J.goto (tgt := 99) rfl rfl ?_
                                                    refine J.iret rfl rfl (by first | omega | (exact R.r _ _) | (simp only [jM.len_sI, jM.len_sL, jM.len_sR, jM.len_fI, jM.len_fL, jM.len_fR]; omega) | (simp [jM.len_nw, jM.len_sI, jM.len_sL, jM.len_sR, jM.len_fI, jM.len_fL, jM.len_fR, *]; omega)) (by first | omega | (exact R.r _ _) | (simp only [jM.len_sI, jM.len_sL, jM.len_sR, jM.len_fI, jM.len_fL, jM.len_fR]; omega) | (simp [jM.len_nw, jM.len_sI, jM.len_sL, jM.len_sR, jM.len_fI, jM.len_fL, jM.len_fR, *]; omega)) ?_
                                                    exact mQ.of (by unfold sp_portion porV; (repeat (first | rw [if_pos (by omega)] | rw [if_neg (by omega)]))))))
                                     · first
                                       | (exfalso; omega)
                                       | (refine J.iconst (pc' := 64) rfl rfl ?_
                                          refine J.iret rfl rfl (by first | omega | (exact R.r _ _) | (simp only [jM.len_sI, jM.len_sL, jM.len_sR, jM.len_fI, jM.len_fL, jM.len_fR]; omega) | (simp [jM.len_nw, jM.len_sI, jM.len_sL, jM.len_sR, jM.len_fI, jM.len_fL, jM.len_fR, *]; omega)) (by first | omega | (exact R.r _ _) | (simp only [jM.len_sI, jM.len_sL, jM.len_sR, jM.len_fI, jM.len_fL, jM.len_fR]; omega) | (simp [jM.len_nw, jM.len_sI, jM.len_sL, jM.len_sR, jM.len_fI, jM.len_fL, jM.len_fR, *]; omega)) ?_
                                          exact mQ.of (by unfold sp_portion porV; (repeat (first | rw [if_pos (by omega)] | rw [if_neg (by omega)])))))
                                · first
                                  | (exfalso; omega)
                                  | (refine J.iconst (pc' := 52) rfl rfl ?_
                                     refine J.goto (tgt := 56) rfl rfl ?_
                                     refine J.iconst (pc' := 57) rfl rfl ?_
                                     first | refine J.callV (pc' := 60) (t := 16) rfl MX12_may ml_X12_161 iv_X12_may (by decide) ⟨_, rfl, rfl⟩ B.1 (cm_may1 B h0) rfl rfl (Nat.le_of_ble_eq_true rfl) (by first | omega | (exact R.r _ _) | (simp only [jM.len_sI, jM.len_sL, jM.len_sR, jM.len_fI, jM.len_fL, jM.len_fR]; omega) | (simp [jM.len_nw, jM.len_sI, jM.len_sL, jM.len_sR, jM.len_fI, jM.len_fL, jM.len_fR, *]; omega)) (by first | omega | (exact R.r _ _) | (simp only [jM.len_sI, jM.len_sL, jM.len_sR, jM.len_fI, jM.len_fL, jM.len_fR]; omega) | (simp [jM.len_nw, jM.len_sI, jM.len_sL, jM.len_sR, jM.len_fI, jM.len_fL, jM.len_fR, *]; omega)) (by first | omega | (exact R.r _ _) | (simp only [jM.len_sI, jM.len_sL, jM.len_sR, jM.len_fI, jM.len_fL, jM.len_fR]; omega) | (simp [jM.len_nw, jM.len_sI, jM.len_sL, jM.len_sR, jM.len_fI, jM.len_fL, jM.len_fR, *]; omega)) rfl rfl ?_ ?_ | refine J.callV (pc' := 60) (t := 16) rfl MX12_may ml_X12_161 iv_X12_may (by decide) ⟨_, rfl, rfl⟩ B.1 (cm_may0 B h0 (by omega)) rfl rfl (Nat.le_of_ble_eq_true rfl) (by first | omega | (exact R.r _ _) | (simp only [jM.len_sI, jM.len_sL, jM.len_sR, jM.len_fI, jM.len_fL, jM.len_fR]; omega) | (simp [jM.len_nw, jM.len_sI, jM.len_sL, jM.len_sR, jM.len_fI, jM.len_fL, jM.len_fR, *]; omega)) (by first | omega | (exact R.r _ _) | (simp only [jM.len_sI, jM.len_sL, jM.len_sR, jM.len_fI, jM.len_fL, jM.len_fR]; omega) | (simp [jM.len_nw, jM.len_sI, jM.len_sL, jM.len_sR, jM.len_fI, jM.len_fL, jM.len_fR, *]; omega)) (by first | omega | (exact R.r _ _) | (simp only [jM.len_sI, jM.len_sL, jM.len_sR, jM.len_fI, jM.len_fL, jM.len_fR]; omega) | (simp [jM.len_nw, jM.len_sI, jM.len_sL, jM.len_sR, jM.len_fI, jM.len_fL, jM.len_fR, *]; omega)) rfl rfl ?_ ?_
                                     · exact fun _ _ h => h
                                     rintro _ _ ⟨rfl, rfl⟩
                                     refine J.if_ne (tgt := 65) (pc' := 63) rfl rfl rfl (by first | omega | (exact R.r _ _) | (simp only [jM.len_sI, jM.len_sL, jM.len_sR, jM.len_fI, jM.len_fL, jM.len_fR]; omega) | (simp [jM.len_nw, jM.len_sI, jM.len_sL, jM.len_sR, jM.len_fI, jM.len_fL, jM.len_fR, *]; omega)) (fun c60 => ?_) (fun c60 => ?_)
                                     · first
                                       | (exfalso; omega)
                                       | (refine J.bipush (pc' := 67) rfl rfl (by decide) ?_
                                          refine J.iload_n (pc' := 68) rfl rfl rfl ?_
                                          refine J.imul (pc' := 69) rfl rfl ?_
                                          refine J.iload_n (pc' := 70) rfl rfl rfl ?_
                                          refine J.iadd (pc' := 71) rfl rfl ?_
                                          refine J.istore (pc' := 73) rfl rfl (by decide) ?_
                                          refine J.iload_n (pc' := 74) rfl rfl rfl ?_
                                          refine J.iconst (pc' := 75) rfl rfl ?_
                                          refine J.icmp_ge (tgt := 100) (pc' := 78) rfl rfl rfl (by first | omega | (exact R.r _ _) | (simp only [jM.len_sI, jM.len_sL, jM.len_sR, jM.len_fI, jM.len_fL, jM.len_fR]; omega) | (simp [jM.len_nw, jM.len_sI, jM.len_sL, jM.len_sR, jM.len_fI, jM.len_fL, jM.len_fR, *]; omega)) (by first | omega | (exact R.r _ _) | (simp only [jM.len_sI, jM.len_sL, jM.len_sR, jM.len_fI, jM.len_fL, jM.len_fR]; omega) | (simp [jM.len_nw, jM.len_sI, jM.len_sL, jM.len_sR, jM.len_fI, jM.len_fL, jM.len_fR, *]; omega)) (fun c75 => ?_) (fun c75 => ?_)
                                          · first
                                            | (exfalso; omega)
                                            | (refine J.iload_n (pc' := 101) rfl rfl rfl ?_
                                               refine J.iconst (pc' := 102) rfl rfl ?_
                                               refine J.irem (pc' := 103) rfl rfl (by first | omega | (exact R.r _ _) | (simp only [jM.len_sI, jM.len_sL, jM.len_sR, jM.len_fI, jM.len_fL, jM.len_fR]; omega) | (simp [jM.len_nw, jM.len_sI, jM.len_sL, jM.len_sR, jM.len_fI, jM.len_fL, jM.len_fR, *]; omega)) (by first | omega | (exact R.r _ _) | (simp only [jM.len_sI, jM.len_sL, jM.len_sR, jM.len_fI, jM.len_fL, jM.len_fR]; omega) | (simp [jM.len_nw, jM.len_sI, jM.len_sL, jM.len_sR, jM.len_fI, jM.len_fL, jM.len_fR, *]; omega)) (by first | omega | (exact R.r _ _) | (simp only [jM.len_sI, jM.len_sL, jM.len_sR, jM.len_fI, jM.len_fL, jM.len_fR]; omega) | (simp [jM.len_nw, jM.len_sI, jM.len_sL, jM.len_sR, jM.len_fI, jM.len_fL, jM.len_fR, *]; omega)) ?_
                                               rw [Int.tmod_eq_emod_of_nonneg (by omega)]
                                               refine J.if_ne (tgt := 124) (pc' := 106) rfl rfl rfl (by first | omega | (exact R.r _ _) | (simp only [jM.len_sI, jM.len_sL, jM.len_sR, jM.len_fI, jM.len_fL, jM.len_fR]; omega) | (simp [jM.len_nw, jM.len_sI, jM.len_sL, jM.len_sR, jM.len_fI, jM.len_fL, jM.len_fR, *]; omega)) (fun c103 => ?_) (fun c103 => ?_)
                                               · first
                                                 | (exfalso; omega)
                                                 | (first | refine J.aload_n (pc' := 125) rfl rfl rfl ?_ | refine J.aload_nN (pc' := 125) rfl rfl rfl ?_
                                                    refine J.mgR (pc' := 128) (t := 157) B rfl fl_X12_145 rfl rfl (by decide) rfl ?_
                                                    refine J.iconst (pc' := 129) rfl rfl ?_
                                                    refine J.iload (pc' := 131) rfl rfl rfl ?_
                                                    refine J.imul (pc' := 132) rfl rfl ?_
                                                    refine J.iload_n (pc' := 133) rfl rfl rfl ?_
                                                    refine J.iconst (pc' := 134) rfl rfl ?_
                                                    refine J.isub (pc' := 135) rfl rfl ?_
                                                    refine J.iconst (pc' := 136) rfl rfl ?_
                                                    refine J.idiv (pc' := 137) rfl rfl (by first | omega | (exact R.r _ _) | (simp only [jM.len_sI, jM.len_sL, jM.len_sR, jM.len_fI, jM.len_fL, jM.len_fR]; omega) | (simp [jM.len_nw, jM.len_sI, jM.len_sL, jM.len_sR, jM.len_fI, jM.len_fL, jM.len_fR, *]; omega)) (by first | omega | (exact R.r _ _) | (simp only [jM.len_sI, jM.len_sL, jM.len_sR, jM.len_fI, jM.len_fL, jM.len_fR]; omega) | (simp [jM.len_nw, jM.len_sI, jM.len_sL, jM.len_sR, jM.len_fI, jM.len_fL, jM.len_fR, *]; omega)) (by first | omega | (exact R.r _ _) | (simp only [jM.len_sI, jM.len_sL, jM.len_sR, jM.len_fI, jM.len_fL, jM.len_fR]; omega) | (simp [jM.len_nw, jM.len_sI, jM.len_sL, jM.len_sR, jM.len_fI, jM.len_fL, jM.len_fR, *]; omega)) ?_
                                                    rw [Int.tdiv_eq_ediv_of_nonneg (by omega)]
                                                    refine J.iadd (pc' := 138) rfl rfl ?_
                                                    refine J.mald (pc' := 139) B rfl rfl rfl (by omega) (by simp only [jLn]; omega) rfl ?_
                                                    refine J.iret rfl rfl (by first | omega | (exact R.r _ _) | (simp only [jM.len_sI, jM.len_sL, jM.len_sR, jM.len_fI, jM.len_fL, jM.len_fR]; omega) | (simp [jM.len_nw, jM.len_sI, jM.len_sL, jM.len_sR, jM.len_fI, jM.len_fL, jM.len_fR, *]; omega)) (by first | omega | (exact R.r _ _) | (simp only [jM.len_sI, jM.len_sL, jM.len_sR, jM.len_fI, jM.len_fL, jM.len_fR]; omega) | (simp [jM.len_nw, jM.len_sI, jM.len_sL, jM.len_sR, jM.len_fI, jM.len_fL, jM.len_fR, *]; omega)) ?_
                                                    exact mQ.of (by unfold sp_portion porV; (repeat (first | rw [if_pos (by omega)] | rw [if_neg (by omega)]))))
                                               · first
                                                 | (exfalso; omega)
                                                 | (first | refine J.aload_n (pc' := 107) rfl rfl rfl ?_ | refine J.aload_nN (pc' := 107) rfl rfl rfl ?_
                                                    refine J.mgR (pc' := 110) (t := 156) B rfl fl_X12_142 rfl rfl (by decide) rfl ?_
                                                    refine J.iconst (pc' := 111) rfl rfl ?_
                                                    refine J.iload (pc' := 113) rfl rfl rfl ?_
                                                    refine J.imul (pc' := 114) rfl rfl ?_
                                                    refine J.iload_n (pc' := 115) rfl rfl rfl ?_
                                                    refine J.iconst (pc' := 116) rfl rfl ?_
                                                    refine J.isub (pc' := 117) rfl rfl ?_
                                                    refine J.iconst (pc' := 118) rfl rfl ?_
                                                    refine J.idiv (pc' := 119) rfl rfl (by first | omega | (exact R.r _ _) | (simp only [jM.len_sI, jM.len_sL, jM.len_sR, jM.len_fI, jM.len_fL, jM.len_fR]; omega) | (simp [jM.len_nw, jM.len_sI, jM.len_sL, jM.len_sR, jM.len_fI, jM.len_fL, jM.len_fR, *]; omega)) (by first | omega | (exact R.r _ _) | (simp only [jM.len_sI, jM.len_sL, jM.len_sR, jM.len_fI, jM.len_fL, jM.len_fR]; omega) | (simp [jM.len_nw, jM.len_sI, jM.len_sL, jM.len_sR, jM.len_fI, jM.len_fL, jM.len_fR, *]; omega)) (by first | omega | (exact R.r _ _) | (simp only [jM.len_sI, jM.len_sL, jM.len_sR, jM.len_fI, jM.len_fL, jM.len_fR]; omega) | (simp [jM.len_nw, jM.len_sI, jM.len_sL, jM.len_sR, jM.len_fI, jM.len_fL, jM.len_fR, *]; omega)) ?_
                                                    rw [Int.tdiv_eq_ediv_of_nonneg (by omega)]
                                                    refine J.iadd (pc' := 120) rfl rfl ?_
                                                    refine J.mald (pc' := 121) B rfl rfl rfl (by omega) (by simp only [jLn]; omega) rfl ?_
                                                    refine J.goto (tgt := 139) rfl rfl ?_
                                                    refine J.iret rfl rfl (by first | omega | (exact R.r _ _) | (simp only [jM.len_sI, jM.len_sL, jM.len_sR, jM.len_fI, jM.len_fL, jM.len_fR]; omega) | (simp [jM.len_nw, jM.len_sI, jM.len_sL, jM.len_sR, jM.len_fI, jM.len_fL, jM.len_fR, *]; omega)) (by first | omega | (exact R.r _ _) | (simp only [jM.len_sI, jM.len_sL, jM.len_sR, jM.len_fI, jM.len_fL, jM.len_fR]; omega) | (simp [jM.len_nw, jM.len_sI, jM.len_sL, jM.len_sR, jM.len_fI, jM.len_fL, jM.len_fR, *]; omega)) ?_
                                                    exact mQ.of (by unfold sp_portion porV; (repeat (first | rw [if_pos (by omega)] | rw [if_neg (by omega)])))))
                                          · first
                                            | (exfalso; omega)
                                            | (refine J.iload_n (pc' := 79) rfl rfl rfl ?_
                                               refine J.if_ne (tgt := 92) (pc' := 82) rfl rfl rfl (by first | omega | (exact R.r _ _) | (simp only [jM.len_sI, jM.len_sL, jM.len_sR, jM.len_fI, jM.len_fL, jM.len_fR]; omega) | (simp [jM.len_nw, jM.len_sI, jM.len_sL, jM.len_sR, jM.len_fI, jM.len_fL, jM.len_fR, *]; omega)) (fun c79 => ?_) (fun c79 => ?_)
                                               · first
                                                 | (exfalso; omega)
                                                 | (first | refine J.aload_n (pc' := 93) rfl rfl rfl ?_ | refine J.aload_nN (pc' := 93) rfl rfl rfl ?_
                                                    refine J.mgR (pc' := 96) (t := 155) B rfl fl_X12_139 rfl rfl (by decide) rfl ?_
                                                    refine J.iload (pc' := 98) rfl rfl rfl ?_
                                                    refine J.mald (pc' := 99) B rfl rfl rfl (by omega) (by simp only [jLn]; omega) rfl ?_
                                                    refine J.iret rfl rfl (by first | omega | (exact R.r _ _) | (simp only [jM.len_sI, jM.len_sL, jM.len_sR, jM.len_fI, jM.len_fL, jM.len_fR]; omega) | (simp [jM.len_nw, jM.len_sI, jM.len_sL, jM.len_sR, jM.len_fI, jM.len_fL, jM.len_fR, *]; omega)) (by first | omega | (exact R.r _ _) | (simp only [jM.len_sI, jM.len_sL, jM.len_sR, jM.len_fI, jM.len_fL, jM.len_fR]; omega) | (simp [jM.len_nw, jM.len_sI, jM.len_sL, jM.len_sR, jM.len_fI, jM.len_fL, jM.len_fR, *]; omega)) ?_
                                                    exact mQ.of (by unfold sp_portion porV; (repeat (first | rw [if_pos (by omega)] | rw [if_neg (by omega)]))))
                                               · first
                                                 | (exfalso; omega)
                                                 | (first | refine J.aload_n (pc' := 83) rfl rfl rfl ?_ | refine J.aload_nN (pc' := 83) rfl rfl rfl ?_
                                                    refine J.mgR (pc' := 86) (t := 154) B rfl fl_X12_136 rfl rfl (by decide) rfl ?_
                                                    refine J.iload (pc' := 88) rfl rfl rfl ?_
                                                    refine J.mald (pc' := 89) B rfl rfl rfl (by omega) (by simp only [jLn]; omega) rfl ?_
                                                    refine J.goto (tgt := 99) rfl rfl ?_
                                                    refine J.iret rfl rfl (by first | omega | (exact R.r _ _) | (simp only [jM.len_sI, jM.len_sL, jM.len_sR, jM.len_fI, jM.len_fL, jM.len_fR]; omega) | (simp [jM.len_nw, jM.len_sI, jM.len_sL, jM.len_sR, jM.len_fI, jM.len_fL, jM.len_fR, *]; omega)) (by first | omega | (exact R.r _ _) | (simp only [jM.len_sI, jM.len_sL, jM.len_sR, jM.len_fI, jM.len_fL, jM.len_fR]; omega) | (simp [jM.len_nw, jM.len_sI, jM.len_sL, jM.len_sR, jM.len_fI, jM.len_fL, jM.len_fR, *]; omega)) ?_
                                                    exact mQ.of (by unfold sp_portion porV; (repeat (first | rw [if_pos (by omega)] | rw [if_neg (by omega)]))))))
                                     · first
                                       | (exfalso; omega)
                                       | (refine J.iconst (pc' := 64) rfl rfl ?_
                                          refine J.iret rfl rfl (by first | omega | (exact R.r _ _) | (simp only [jM.len_sI, jM.len_sL, jM.len_sR, jM.len_fI, jM.len_fL, jM.len_fR]; omega) | (simp [jM.len_nw, jM.len_sI, jM.len_sL, jM.len_sR, jM.len_fI, jM.len_fL, jM.len_fR, *]; omega)) (by first | omega | (exact R.r _ _) | (simp only [jM.len_sI, jM.len_sL, jM.len_sR, jM.len_fI, jM.len_fL, jM.len_fR]; omega) | (simp [jM.len_nw, jM.len_sI, jM.len_sL, jM.len_sR, jM.len_fI, jM.len_fL, jM.len_fR, *]; omega)) ?_
                                          exact mQ.of (by unfold sp_portion porV; (repeat (first | rw [if_pos (by omega)] | rw [if_neg (by omega)])))))))))))
theorem cm_count {w : Int} (B : isB β) (R : isR V) (hw : r32 w) : CT γ mX12_count 1 0 0 [.ref (β.2 16), .int (jI w)] (jP β V) (mQ β (sp_count (jU V 16 0 0) w)) X0 := by
  refine CT.of MX12_count (Nat.le_of_ble_eq_true rfl) ?_
  show J γ mX12_count 1 0 0 0 0 (jP β V) 0 [(0, .ref (β.2 16)), (1, .int (jI w))] [] _ _
  first | refine J.aload_n (pc' := 1) rfl rfl rfl ?_ | refine J.aload_nN (pc' := 1) rfl rfl rfl ?_
  refine J.iconst (pc' := 2) rfl rfl ?_
  refine J.mpI (pc' := 5) (j := 0) B rfl fl_X12_1 rfl rfl rfl rfl ?_
  have h0 := jU_same V 16 0 0
  replace R : isR (jU V 16 0 0) := R.up (fun _ => by decide)
  generalize jU V 16 0 0 = V at h0 R ⊢
  have hf := R.f
  have k6 : w = 6 → ∀ (n i : Nat), i + n = 6 → J γ mX12_count 1 0 0 0 0 (jP β V) 90 [(0, .ref (β.2 16)), (1, .int (jI w)), (2, .int (jI (Sm (fun h => tonsOf V h) i))), (3, .int (jI (i : Int)))] [] (mQ β (sp_count V w)) X0 := by
    intro hw6 n
    induction n with
    | zero =>
      intro i hi
      refine J.iload_n (pc' := 91) rfl rfl rfl ?_
      refine J.bipush (pc' := 93) rfl rfl (by decide) ?_
      refine J.icmp_ge (tgt := 110) (pc' := 96) rfl rfl rfl (by first | omega | (exact R.r _ _) | (simp only [jM.len_sI, jM.len_sL, jM.len_sR, jM.len_fI, jM.len_fL, jM.len_fR]; omega) | (simp [jM.len_nw, jM.len_sI, jM.len_sL, jM.len_sR, jM.len_fI, jM.len_fL, jM.len_fR, *]; omega)) (by first | omega | (exact R.r _ _) | (simp only [jM.len_sI, jM.len_sL, jM.len_sR, jM.len_fI, jM.len_fL, jM.len_fR]; omega) | (simp [jM.len_nw, jM.len_sI, jM.len_sL, jM.len_sR, jM.len_fI, jM.len_fL, jM.len_fR, *]; omega)) (fun c93 => ?_) (fun c93 => ?_)
      · first
        | (exfalso; omega)
        | (refine J.iload_n (pc' := 111) rfl rfl rfl ?_
           refine J.iret rfl rfl (by first | omega | (exact R.r _ _) | (simp only [jM.len_sI, jM.len_sL, jM.len_sR, jM.len_fI, jM.len_fL, jM.len_fR]; omega) | (simp [jM.len_nw, jM.len_sI, jM.len_sL, jM.len_sR, jM.len_fI, jM.len_fL, jM.len_fR, *]; omega)) (by first | omega | (exact R.r _ _) | (simp only [jM.len_sI, jM.len_sL, jM.len_sR, jM.len_fI, jM.len_fL, jM.len_fR]; omega) | (simp [jM.len_nw, jM.len_sI, jM.len_sL, jM.len_sR, jM.len_fI, jM.len_fL, jM.len_fR, *]; omega)) ?_
           exact mQ.of (by unfold sp_count cntV; (repeat (first | rw [if_pos (by omega)] | rw [if_neg (by omega)])); rw [show i = 6 by omega]))
      · first
        | (exfalso; omega)
        | (refine J.iload_n (pc' := 97) rfl rfl rfl ?_
           first | refine J.aload_n (pc' := 98) rfl rfl rfl ?_ | refine J.aload_nN (pc' := 98) rfl rfl rfl ?_
           refine J.iload_n (pc' := 99) rfl rfl rfl ?_
           refine J.callV (pc' := 102) (t := 16) rfl MX12_tonsOf ml_X12_300 iv_X12_tonsOf (by decide) ⟨_, rfl, rfl⟩ B.1 (cm_tonsOf B R (by omega)) rfl rfl (Nat.le_of_ble_eq_true rfl) (by first | omega | (exact R.r _ _) | (simp only [jM.len_sI, jM.len_sL, jM.len_sR, jM.len_fI, jM.len_fL, jM.len_fR]; omega) | (simp [jM.len_nw, jM.len_sI, jM.len_sL, jM.len_sR, jM.len_fI, jM.len_fL, jM.len_fR, *]; omega)) (by first | omega | (exact R.r _ _) | (simp only [jM.len_sI, jM.len_sL, jM.len_sR, jM.len_fI, jM.len_fL, jM.len_fR]; omega) | (simp [jM.len_nw, jM.len_sI, jM.len_sL, jM.len_sR, jM.len_fI, jM.len_fL, jM.len_fR, *]; omega)) (by first | omega | (exact R.r _ _) | (simp only [jM.len_sI, jM.len_sL, jM.len_sR, jM.len_fI, jM.len_fL, jM.len_fR]; omega) | (simp [jM.len_nw, jM.len_sI, jM.len_sL, jM.len_sR, jM.len_fI, jM.len_fL, jM.len_fR, *]; omega)) rfl rfl ?_ ?_
           · exact fun _ _ h => h
           rintro _ _ ⟨rfl, rfl⟩
           refine J.iadd (pc' := 103) rfl rfl ?_
           refine J.istore_n (pc' := 104) rfl rfl (by decide) ?_
           refine J.iinc (pc' := 107) rfl rfl rfl (by decide) ?_
           refine J.goto (tgt := 90) rfl rfl ?_
           exfalso
           omega)
    | succ n ih =>
      intro i hi
      have h9 := ih (i + 1) (by omega)
      rw [Sm, show ((i + 1 : Nat) : Int) = (i : Int) + 1 by omega] at h9
      refine J.iload_n (pc' := 91) rfl rfl rfl ?_
      refine J.bipush (pc' := 93) rfl rfl (by decide) ?_
      refine J.icmp_ge (tgt := 110) (pc' := 96) rfl rfl rfl (by first | omega | (exact R.r _ _) | (simp only [jM.len_sI, jM.len_sL, jM.len_sR, jM.len_fI, jM.len_fL, jM.len_fR]; omega) | (simp [jM.len_nw, jM.len_sI, jM.len_sL, jM.len_sR, jM.len_fI, jM.len_fL, jM.len_fR, *]; omega)) (by first | omega | (exact R.r _ _) | (simp only [jM.len_sI, jM.len_sL, jM.len_sR, jM.len_fI, jM.len_fL, jM.len_fR]; omega) | (simp [jM.len_nw, jM.len_sI, jM.len_sL, jM.len_sR, jM.len_fI, jM.len_fL, jM.len_fR, *]; omega)) (fun c93 => ?_) (fun c93 => ?_)
      · first
        | (exfalso; omega)
        | (refine J.iload_n (pc' := 111) rfl rfl rfl ?_
           refine J.iret rfl rfl (by first | omega | (exact R.r _ _) | (simp only [jM.len_sI, jM.len_sL, jM.len_sR, jM.len_fI, jM.len_fL, jM.len_fR]; omega) | (simp [jM.len_nw, jM.len_sI, jM.len_sL, jM.len_sR, jM.len_fI, jM.len_fL, jM.len_fR, *]; omega)) (by first | omega | (exact R.r _ _) | (simp only [jM.len_sI, jM.len_sL, jM.len_sR, jM.len_fI, jM.len_fL, jM.len_fR]; omega) | (simp [jM.len_nw, jM.len_sI, jM.len_sL, jM.len_sR, jM.len_fI, jM.len_fL, jM.len_fR, *]; omega)) ?_
           exact ⟨rfl, rfl⟩)
      · first
        | (exfalso; omega)
        | (refine J.iload_n (pc' := 97) rfl rfl rfl ?_
           first | refine J.aload_n (pc' := 98) rfl rfl rfl ?_ | refine J.aload_nN (pc' := 98) rfl rfl rfl ?_
           refine J.iload_n (pc' := 99) rfl rfl rfl ?_
           refine J.callV (pc' := 102) (t := 16) rfl MX12_tonsOf ml_X12_300 iv_X12_tonsOf (by decide) ⟨_, rfl, rfl⟩ B.1 (cm_tonsOf B R (by omega)) rfl rfl (Nat.le_of_ble_eq_true rfl) (by first | omega | (exact R.r _ _) | (simp only [jM.len_sI, jM.len_sL, jM.len_sR, jM.len_fI, jM.len_fL, jM.len_fR]; omega) | (simp [jM.len_nw, jM.len_sI, jM.len_sL, jM.len_sR, jM.len_fI, jM.len_fL, jM.len_fR, *]; omega)) (by first | omega | (exact R.r _ _) | (simp only [jM.len_sI, jM.len_sL, jM.len_sR, jM.len_fI, jM.len_fL, jM.len_fR]; omega) | (simp [jM.len_nw, jM.len_sI, jM.len_sL, jM.len_sR, jM.len_fI, jM.len_fL, jM.len_fR, *]; omega)) (by first | omega | (exact R.r _ _) | (simp only [jM.len_sI, jM.len_sL, jM.len_sR, jM.len_fI, jM.len_fL, jM.len_fR]; omega) | (simp [jM.len_nw, jM.len_sI, jM.len_sL, jM.len_sR, jM.len_fI, jM.len_fL, jM.len_fR, *]; omega)) rfl rfl ?_ ?_
           · exact fun _ _ h => h
           rintro _ _ ⟨rfl, rfl⟩
           refine J.iadd (pc' := 103) rfl rfl ?_
           refine J.istore_n (pc' := 104) rfl rfl (by decide) ?_
           refine J.iinc (pc' := 107) rfl rfl rfl (by decide) ?_
           refine J.goto (tgt := 90) rfl rfl ?_
           exact h9)
  have k7 : w = 7 → ∀ (n i : Nat), (i : Int) + n = V 16 52 → J γ mX12_count 1 0 0 0 0 (jP β V) 116 [(0, .ref (β.2 16)), (1, .int (jI w)), (2, .int (jI (Sm (fun k => tonsP V k) i))), (3, .int (jI (i : Int)))] [] (mQ β (sp_count V w)) X0 := by
    intro hw7 n
    induction n with
    | zero =>
      intro i hi
      refine J.iload_n (pc' := 117) rfl rfl rfl ?_
      first | refine J.aload_n (pc' := 118) rfl rfl rfl ?_ | refine J.aload_nN (pc' := 118) rfl rfl rfl ?_
      refine J.mgI (pc' := 121) (j := 52) B rfl fl_X12_328 rfl rfl rfl ?_
      refine J.icmp_ge (tgt := 165) (pc' := 124) rfl rfl rfl (by first | omega | (exact R.r _ _) | (simp only [jM.len_sI, jM.len_sL, jM.len_sR, jM.len_fI, jM.len_fL, jM.len_fR]; omega) | (simp [jM.len_nw, jM.len_sI, jM.len_sL, jM.len_sR, jM.len_fI, jM.len_fL, jM.len_fR, *]; omega)) (by first | omega | (exact R.r _ _) | (simp only [jM.len_sI, jM.len_sL, jM.len_sR, jM.len_fI, jM.len_fL, jM.len_fR]; omega) | (simp [jM.len_nw, jM.len_sI, jM.len_sL, jM.len_sR, jM.len_fI, jM.len_fL, jM.len_fR, *]; omega)) (fun c121 => ?_) (fun c121 => ?_)
      · first
        | (exfalso; omega)
        | (refine J.iload_n (pc' := 166) rfl rfl rfl ?_
           refine J.iret rfl rfl (by first | omega | (exact R.r _ _) | (simp only [jM.len_sI, jM.len_sL, jM.len_sR, jM.len_fI, jM.len_fL, jM.len_fR]; omega) | (simp [jM.len_nw, jM.len_sI, jM.len_sL, jM.len_sR, jM.len_fI, jM.len_fL, jM.len_fR, *]; omega)) (by first | omega | (exact R.r _ _) | (simp only [jM.len_sI, jM.len_sL, jM.len_sR, jM.len_fI, jM.len_fL, jM.len_fR]; omega) | (simp [jM.len_nw, jM.len_sI, jM.len_sL, jM.len_sR, jM.len_fI, jM.len_fL, jM.len_fR, *]; omega)) ?_
           exact mQ.of (by unfold sp_count cntV; (repeat (first | rw [if_pos (by omega)] | rw [if_neg (by omega)])); rw [show (V 16 52).toNat = i by omega]))
      · first
        | (exfalso; omega)
        | (refine J.iconst (pc' := 125) rfl rfl ?_
           refine J.istore (pc' := 127) rfl rfl (by decide) ?_
           omega)
    | succ n ih =>
      intro i hi
      have h9 := ih (i + 1) (by omega)
      have hp := R 153 i rfl
      simp [jLo, jHi] at hp
      rw [Sm, show ((i + 1 : Nat) : Int) = (i : Int) + 1 by omega] at h9
      have inn : ∀ (n k : Nat), (k : Int) + n = V 153 i → J γ mX12_count 1 0 0 0 0 (jP β V) 127 [(0, .ref (β.2 16)), (1, .int (jI w)), (2, .int (jI (Sm (fun k => tonsP V k) i + Sm (fun p => V 154 (20 * i + p)) k))), (3, .int (jI (i : Int))), (4, .int (jI (k : Int)))] [] (mQ β (sp_count V w)) X0 := by
        intro n
        induction n with
        | zero =>
          intro k hk
          rw [tonsP, show (V 153 i).toNat = k by omega] at h9
          refine J.iload (pc' := 129) rfl rfl rfl ?_
          first | refine J.aload_n (pc' := 130) rfl rfl rfl ?_ | refine J.aload_nN (pc' := 130) rfl rfl rfl ?_
          refine J.mgR (pc' := 133) (t := 153) B rfl fl_X12_133 rfl rfl (by decide) rfl ?_
          refine J.iload_n (pc' := 134) rfl rfl rfl ?_
          refine J.mald (pc' := 135) B rfl rfl rfl (by omega) (by simp only [jLn]; omega) rfl ?_
          refine J.icmp_ge (tgt := 159) (pc' := 138) rfl rfl rfl (by first | omega | (exact R.r _ _) | (simp only [jM.len_sI, jM.len_sL, jM.len_sR, jM.len_fI, jM.len_fL, jM.len_fR]; omega) | (simp [jM.len_nw, jM.len_sI, jM.len_sL, jM.len_sR, jM.len_fI, jM.len_fL, jM.len_fR, *]; omega)) (by first | omega | (exact R.r _ _) | (simp only [jM.len_sI, jM.len_sL, jM.len_sR, jM.len_fI, jM.len_fL, jM.len_fR]; omega) | (simp [jM.len_nw, jM.len_sI, jM.len_sL, jM.len_sR, jM.len_fI, jM.len_fL, jM.len_fR, *]; omega)) (fun c135 => ?_) (fun c135 => ?_)
          · first
            | (exfalso; omega)
            | (refine J.iinc (pc' := 162) rfl rfl rfl (by decide) ?_
               refine J.goto (tgt := 116) rfl rfl ?_
               exact J.locs (fun q hq => by simp only [List.mem_cons, List.not_mem_nil, or_false] at hq; rcases hq with rfl | rfl | rfl | rfl <;> rfl) h9)
          · first
            | (exfalso; omega)
            | (refine J.iload_n (pc' := 139) rfl rfl rfl ?_
               first | refine J.aload_n (pc' := 140) rfl rfl rfl ?_ | refine J.aload_nN (pc' := 140) rfl rfl rfl ?_
               refine J.mgR (pc' := 143) (t := 154) B rfl fl_X12_136 rfl rfl (by decide) rfl ?_
               refine J.bipush (pc' := 145) rfl rfl (by decide) ?_
               refine J.iload_n (pc' := 146) rfl rfl rfl ?_
               refine J.imul (pc' := 147) rfl rfl ?_
               refine J.iload (pc' := 149) rfl rfl rfl ?_
               refine J.iadd (pc' := 150) rfl rfl ?_
               refine J.mald (pc' := 151) B rfl rfl rfl (by omega) (by simp only [jLn]; omega) rfl ?_
               refine J.iadd (pc' := 152) rfl rfl ?_
               refine J.istore_n (pc' := 153) rfl rfl (by decide) ?_
               refine J.iinc (pc' := 156) rfl rfl rfl (by decide) ?_
               refine J.goto (tgt := 127) rfl rfl ?_
               exfalso
               omega)
        | succ n ih2 =>
          intro k hk
          have h8 := ih2 (k + 1) (by omega)
          rw [Sm, show ((k + 1 : Nat) : Int) = (k : Int) + 1 by omega, ← Int.add_assoc] at h8
          refine J.iload (pc' := 129) rfl rfl rfl ?_
          first | refine J.aload_n (pc' := 130) rfl rfl rfl ?_ | refine J.aload_nN (pc' := 130) rfl rfl rfl ?_
          refine J.mgR (pc' := 133) (t := 153) B rfl fl_X12_133 rfl rfl (by decide) rfl ?_
          refine J.iload_n (pc' := 134) rfl rfl rfl ?_
          refine J.mald (pc' := 135) B rfl rfl rfl (by omega) (by simp only [jLn]; omega) rfl ?_
          refine J.icmp_ge (tgt := 159) (pc' := 138) rfl rfl rfl (by first | omega | (exact R.r _ _) | (simp only [jM.len_sI, jM.len_sL, jM.len_sR, jM.len_fI, jM.len_fL, jM.len_fR]; omega) | (simp [jM.len_nw, jM.len_sI, jM.len_sL, jM.len_sR, jM.len_fI, jM.len_fL, jM.len_fR, *]; omega)) (by first | omega | (exact R.r _ _) | (simp only [jM.len_sI, jM.len_sL, jM.len_sR, jM.len_fI, jM.len_fL, jM.len_fR]; omega) | (simp [jM.len_nw, jM.len_sI, jM.len_sL, jM.len_sR, jM.len_fI, jM.len_fL, jM.len_fR, *]; omega)) (fun c135 => ?_) (fun c135 => ?_)
          · first
            | (exfalso; omega)
            | (refine J.iinc (pc' := 162) rfl rfl rfl (by decide) ?_
               refine J.goto (tgt := 116) rfl rfl ?_
               refine J.iload_n (pc' := 117) rfl rfl rfl ?_
               first | refine J.aload_n (pc' := 118) rfl rfl rfl ?_ | refine J.aload_nN (pc' := 118) rfl rfl rfl ?_
               refine J.mgI (pc' := 121) (j := 52) B rfl fl_X12_328 rfl rfl rfl ?_
               refine J.icmp_ge (tgt := 165) (pc' := 124) rfl rfl rfl (by first | omega | (exact R.r _ _) | (simp only [jM.len_sI, jM.len_sL, jM.len_sR, jM.len_fI, jM.len_fL, jM.len_fR]; omega) | (simp [jM.len_nw, jM.len_sI, jM.len_sL, jM.len_sR, jM.len_fI, jM.len_fL, jM.len_fR, *]; omega)) (by first | omega | (exact R.r _ _) | (simp only [jM.len_sI, jM.len_sL, jM.len_sR, jM.len_fI, jM.len_fL, jM.len_fR]; omega) | (simp [jM.len_nw, jM.len_sI, jM.len_sL, jM.len_sR, jM.len_fI, jM.len_fL, jM.len_fR, *]; omega)) (fun c121 => ?_) (fun c121 => ?_)
               · first
                 | (exfalso; omega)
                 | (refine J.iload_n (pc' := 166) rfl rfl rfl ?_
                    refine J.iret rfl rfl (by first | omega | (exact R.r _ _) | (simp only [jM.len_sI, jM.len_sL, jM.len_sR, jM.len_fI, jM.len_fL, jM.len_fR]; omega) | (simp [jM.len_nw, jM.len_sI, jM.len_sL, jM.len_sR, jM.len_fI, jM.len_fL, jM.len_fR, *]; omega)) (by first | omega | (exact R.r _ _) | (simp only [jM.len_sI, jM.len_sL, jM.len_sR, jM.len_fI, jM.len_fL, jM.len_fR]; omega) | (simp [jM.len_nw, jM.len_sI, jM.len_sL, jM.len_sR, jM.len_fI, jM.len_fL, jM.len_fR, *]; omega)) ?_
                    exact ⟨rfl, rfl⟩)
               · first
                 | (exfalso; omega)
                 | (refine J.iconst (pc' := 125) rfl rfl ?_
                    refine J.istore (pc' := 127) rfl rfl (by decide) ?_
                    exact h8))
          · first
            | (exfalso; omega)
            | (refine J.iload_n (pc' := 139) rfl rfl rfl ?_
               first | refine J.aload_n (pc' := 140) rfl rfl rfl ?_ | refine J.aload_nN (pc' := 140) rfl rfl rfl ?_
               refine J.mgR (pc' := 143) (t := 154) B rfl fl_X12_136 rfl rfl (by decide) rfl ?_
               refine J.bipush (pc' := 145) rfl rfl (by decide) ?_
               refine J.iload_n (pc' := 146) rfl rfl rfl ?_
               refine J.imul (pc' := 147) rfl rfl ?_
               refine J.iload (pc' := 149) rfl rfl rfl ?_
               refine J.iadd (pc' := 150) rfl rfl ?_
               refine J.mald (pc' := 151) B rfl rfl rfl (by omega) (by simp only [jLn]; omega) rfl ?_
               refine J.iadd (pc' := 152) rfl rfl ?_
               refine J.istore_n (pc' := 153) rfl rfl (by decide) ?_
               refine J.iinc (pc' := 156) rfl rfl rfl (by decide) ?_
               refine J.goto (tgt := 127) rfl rfl ?_
               exact h8)
      have h7 := inn (V 153 i).toNat 0 (by omega)
      rw [Sm, Int.add_zero] at h7
      refine J.iload_n (pc' := 117) rfl rfl rfl ?_
      first | refine J.aload_n (pc' := 118) rfl rfl rfl ?_ | refine J.aload_nN (pc' := 118) rfl rfl rfl ?_
      refine J.mgI (pc' := 121) (j := 52) B rfl fl_X12_328 rfl rfl rfl ?_
      refine J.icmp_ge (tgt := 165) (pc' := 124) rfl rfl rfl (by first | omega | (exact R.r _ _) | (simp only [jM.len_sI, jM.len_sL, jM.len_sR, jM.len_fI, jM.len_fL, jM.len_fR]; omega) | (simp [jM.len_nw, jM.len_sI, jM.len_sL, jM.len_sR, jM.len_fI, jM.len_fL, jM.len_fR, *]; omega)) (by first | omega | (exact R.r _ _) | (simp only [jM.len_sI, jM.len_sL, jM.len_sR, jM.len_fI, jM.len_fL, jM.len_fR]; omega) | (simp [jM.len_nw, jM.len_sI, jM.len_sL, jM.len_sR, jM.len_fI, jM.len_fL, jM.len_fR, *]; omega)) (fun c121 => ?_) (fun c121 => ?_)
      · first
        | (exfalso; omega)
        | (refine J.iload_n (pc' := 166) rfl rfl rfl ?_
           refine J.iret rfl rfl (by first | omega | (exact R.r _ _) | (simp only [jM.len_sI, jM.len_sL, jM.len_sR, jM.len_fI, jM.len_fL, jM.len_fR]; omega) | (simp [jM.len_nw, jM.len_sI, jM.len_sL, jM.len_sR, jM.len_fI, jM.len_fL, jM.len_fR, *]; omega)) (by first | omega | (exact R.r _ _) | (simp only [jM.len_sI, jM.len_sL, jM.len_sR, jM.len_fI, jM.len_fL, jM.len_fR]; omega) | (simp [jM.len_nw, jM.len_sI, jM.len_sL, jM.len_sR, jM.len_fI, jM.len_fL, jM.len_fR, *]; omega)) ?_
           exact ⟨rfl, rfl⟩)
      · first
        | (exfalso; omega)
        | (refine J.iconst (pc' := 125) rfl rfl ?_
           refine J.istore (pc' := 127) rfl rfl (by decide) ?_
           exact h7)
  refine J.iload_n (pc' := 6) rfl rfl rfl ?_
  refine J.tsw (tgt := 172) (n := 9) (T := jNth [56, 61, 66, 71, 76, 81, 86, 112, 167]) rfl (by first | omega | (exact R.r _ _) | (simp only [jM.len_sI, jM.len_sL, jM.len_sR, jM.len_fI, jM.len_fL, jM.len_fR]; omega) | (simp [jM.len_nw, jM.len_sI, jM.len_sL, jM.len_sR, jM.len_fI, jM.len_fL, jM.len_fR, *]; omega)) rfl rfl (fun k hk => by rcases k with _ | _ | _ | _ | _ | _ | _ | _ | _ | k <;> first | exact ⟨_, rfl, rfl⟩ | omega) (fun c6 => ?_) (fun k6 hk6 c6 => ?_)
  · first
    | (exfalso; omega)
    | (refine J.iconst (pc' := 173) rfl rfl ?_
       refine J.iret rfl rfl (by first | omega | (exact R.r _ _) | (simp only [jM.len_sI, jM.len_sL, jM.len_sR, jM.len_fI, jM.len_fL, jM.len_fR]; omega) | (simp [jM.len_nw, jM.len_sI, jM.len_sL, jM.len_sR, jM.len_fI, jM.len_fL, jM.len_fR, *]; omega)) (by first | omega | (exact R.r _ _) | (simp only [jM.len_sI, jM.len_sL, jM.len_sR, jM.len_fI, jM.len_fL, jM.len_fR]; omega) | (simp [jM.len_nw, jM.len_sI, jM.len_sL, jM.len_sR, jM.len_fI, jM.len_fL, jM.len_fR, *]; omega)) ?_
       exact mQ.of (by unfold sp_count cntV; (repeat (first | rw [if_pos (by omega)] | rw [if_neg (by omega)]))))
  rcases k6 with _ | _ | _ | _ | _ | _ | _ | _ | _ | k6
  · first
    | (exfalso; omega)
    | (first | refine J.aload_n (pc' := 57) rfl rfl rfl ?_ | refine J.aload_nN (pc' := 57) rfl rfl rfl ?_
       refine J.mgI (pc' := 60) (j := 1) B rfl fl_X12_154 rfl rfl rfl ?_
       refine J.iret rfl rfl (by first | omega | (exact R.r _ _) | (simp only [jM.len_sI, jM.len_sL, jM.len_sR, jM.len_fI, jM.len_fL, jM.len_fR]; omega) | (simp [jM.len_nw, jM.len_sI, jM.len_sL, jM.len_sR, jM.len_fI, jM.len_fL, jM.len_fR, *]; omega)) (by first | omega | (exact R.r _ _) | (simp only [jM.len_sI, jM.len_sL, jM.len_sR, jM.len_fI, jM.len_fL, jM.len_fR]; omega) | (simp [jM.len_nw, jM.len_sI, jM.len_sL, jM.len_sR, jM.len_fI, jM.len_fL, jM.len_fR, *]; omega)) ?_
       exact mQ.of (by unfold sp_count cntV; (repeat (first | rw [if_pos (by omega)] | rw [if_neg (by omega)]))))
  · first
    | (exfalso; omega)
    | (first | refine J.aload_n (pc' := 62) rfl rfl rfl ?_ | refine J.aload_nN (pc' := 62) rfl rfl rfl ?_
       refine J.mgI (pc' := 65) (j := 2) B rfl fl_X12_169 rfl rfl rfl ?_
       refine J.iret rfl rfl (by first | omega | (exact R.r _ _) | (simp only [jM.len_sI, jM.len_sL, jM.len_sR, jM.len_fI, jM.len_fL, jM.len_fR]; omega) | (simp [jM.len_nw, jM.len_sI, jM.len_sL, jM.len_sR, jM.len_fI, jM.len_fL, jM.len_fR, *]; omega)) (by first | omega | (exact R.r _ _) | (simp only [jM.len_sI, jM.len_sL, jM.len_sR, jM.len_fI, jM.len_fL, jM.len_fR]; omega) | (simp [jM.len_nw, jM.len_sI, jM.len_sL, jM.len_sR, jM.len_fI, jM.len_fL, jM.len_fR, *]; omega)) ?_
       exact mQ.of (by unfold sp_count cntV; (repeat (first | rw [if_pos (by omega)] | rw [if_neg (by omega)]))))
  · first
    | (exfalso; omega)
    | (first | refine J.aload_n (pc' := 67) rfl rfl rfl ?_ | refine J.aload_nN (pc' := 67) rfl rfl rfl ?_
       refine J.mgI (pc' := 70) (j := 11) B rfl fl_X12_239 rfl rfl rfl ?_
       refine J.iret rfl rfl (by first | omega | (exact R.r _ _) | (simp only [jM.len_sI, jM.len_sL, jM.len_sR, jM.len_fI, jM.len_fL, jM.len_fR]; omega) | (simp [jM.len_nw, jM.len_sI, jM.len_sL, jM.len_sR, jM.len_fI, jM.len_fL, jM.len_fR, *]; omega)) (by first | omega | (exact R.r _ _) | (simp only [jM.len_sI, jM.len_sL, jM.len_sR, jM.len_fI, jM.len_fL, jM.len_fR]; omega) | (simp [jM.len_nw, jM.len_sI, jM.len_sL, jM.len_sR, jM.len_fI, jM.len_fL, jM.len_fR, *]; omega)) ?_
       exact mQ.of (by unfold sp_count cntV; (repeat (first | rw [if_pos (by omega)] | rw [if_neg (by omega)]))))
  · first
    | (exfalso; omega)
    | (first | refine J.aload_n (pc' := 72) rfl rfl rfl ?_ | refine J.aload_nN (pc' := 72) rfl rfl rfl ?_
       refine J.mgI (pc' := 75) (j := 26) B rfl fl_X12_277 rfl rfl rfl ?_
       refine J.iret rfl rfl (by first | omega | (exact R.r _ _) | (simp only [jM.len_sI, jM.len_sL, jM.len_sR, jM.len_fI, jM.len_fL, jM.len_fR]; omega) | (simp [jM.len_nw, jM.len_sI, jM.len_sL, jM.len_sR, jM.len_fI, jM.len_fL, jM.len_fR, *]; omega)) (by first | omega | (exact R.r _ _) | (simp only [jM.len_sI, jM.len_sL, jM.len_sR, jM.len_fI, jM.len_fL, jM.len_fR]; omega) | (simp [jM.len_nw, jM.len_sI, jM.len_sL, jM.len_sR, jM.len_fI, jM.len_fL, jM.len_fR, *]; omega)) ?_
       exact mQ.of (by unfold sp_count cntV; (repeat (first | rw [if_pos (by omega)] | rw [if_neg (by omega)]))))
  · first
    | (exfalso; omega)
    | (first | refine J.aload_n (pc' := 77) rfl rfl rfl ?_ | refine J.aload_nN (pc' := 77) rfl rfl rfl ?_
       refine J.callV (pc' := 80) (t := 16) rfl MX12_layersInAll ml_X12_280 iv_X12_layersInAll (by decide) ⟨_, rfl, rfl⟩ B.1 (cm_layersInAll B) rfl rfl (Nat.le_of_ble_eq_true rfl) (by first | omega | (exact R.r _ _) | (simp only [jM.len_sI, jM.len_sL, jM.len_sR, jM.len_fI, jM.len_fL, jM.len_fR]; omega) | (simp [jM.len_nw, jM.len_sI, jM.len_sL, jM.len_sR, jM.len_fI, jM.len_fL, jM.len_fR, *]; omega)) (by first | omega | (exact R.r _ _) | (simp only [jM.len_sI, jM.len_sL, jM.len_sR, jM.len_fI, jM.len_fL, jM.len_fR]; omega) | (simp [jM.len_nw, jM.len_sI, jM.len_sL, jM.len_sR, jM.len_fI, jM.len_fL, jM.len_fR, *]; omega)) (by first | omega | (exact R.r _ _) | (simp only [jM.len_sI, jM.len_sL, jM.len_sR, jM.len_fI, jM.len_fL, jM.len_fR]; omega) | (simp [jM.len_nw, jM.len_sI, jM.len_sL, jM.len_sR, jM.len_fI, jM.len_fL, jM.len_fR, *]; omega)) rfl rfl ?_ ?_
       · exact fun _ _ h => h
       rintro _ _ ⟨rfl, rfl⟩
       refine J.iret rfl rfl (by first | omega | (exact R.r _ _) | (simp only [jM.len_sI, jM.len_sL, jM.len_sR, jM.len_fI, jM.len_fL, jM.len_fR]; omega) | (simp [jM.len_nw, jM.len_sI, jM.len_sL, jM.len_sR, jM.len_fI, jM.len_fL, jM.len_fR, *]; omega)) (by first | omega | (exact R.r _ _) | (simp only [jM.len_sI, jM.len_sL, jM.len_sR, jM.len_fI, jM.len_fL, jM.len_fR]; omega) | (simp [jM.len_nw, jM.len_sI, jM.len_sL, jM.len_sR, jM.len_fI, jM.len_fL, jM.len_fR, *]; omega)) ?_
       exact mQ.of (by unfold sp_count cntV; (repeat (first | rw [if_pos (by omega)] | rw [if_neg (by omega)]))))
  · first
    | (exfalso; omega)
    | (first | refine J.aload_n (pc' := 82) rfl rfl rfl ?_ | refine J.aload_nN (pc' := 82) rfl rfl rfl ?_
       refine J.mgI (pc' := 85) (j := 52) B rfl fl_X12_328 rfl rfl rfl ?_
       refine J.iret rfl rfl (by first | omega | (exact R.r _ _) | (simp only [jM.len_sI, jM.len_sL, jM.len_sR, jM.len_fI, jM.len_fL, jM.len_fR]; omega) | (simp [jM.len_nw, jM.len_sI, jM.len_sL, jM.len_sR, jM.len_fI, jM.len_fL, jM.len_fR, *]; omega)) (by first | omega | (exact R.r _ _) | (simp only [jM.len_sI, jM.len_sL, jM.len_sR, jM.len_fI, jM.len_fL, jM.len_fR]; omega) | (simp [jM.len_nw, jM.len_sI, jM.len_sL, jM.len_sR, jM.len_fI, jM.len_fL, jM.len_fR, *]; omega)) ?_
       exact mQ.of (by unfold sp_count cntV; (repeat (first | rw [if_pos (by omega)] | rw [if_neg (by omega)]))))
  · first
    | (exfalso; omega)
    | (refine J.iconst (pc' := 87) rfl rfl ?_
       refine J.istore_n (pc' := 88) rfl rfl (by decide) ?_
       refine J.iconst (pc' := 89) rfl rfl ?_
       refine J.istore_n (pc' := 90) rfl rfl (by decide) ?_
       exact k6 (by omega) 6 0 (by omega))
  · first
    | (exfalso; omega)
    | (refine J.iconst (pc' := 113) rfl rfl ?_
       refine J.istore_n (pc' := 114) rfl rfl (by decide) ?_
       refine J.iconst (pc' := 115) rfl rfl ?_
       refine J.istore_n (pc' := 116) rfl rfl (by decide) ?_
       exact k7 (by omega) (V 16 52).toNat 0 (by omega))
  · first
    | (exfalso; omega)
    | (first | refine J.aload_n (pc' := 168) rfl rfl rfl ?_ | refine J.aload_nN (pc' := 168) rfl rfl rfl ?_
       refine J.mgI (pc' := 171) (j := 10) B rfl fl_X12_185 rfl rfl rfl ?_
       refine J.iret rfl rfl (by first | omega | (exact R.r _ _) | (simp only [jM.len_sI, jM.len_sL, jM.len_sR, jM.len_fI, jM.len_fL, jM.len_fR]; omega) | (simp [jM.len_nw, jM.len_sI, jM.len_sL, jM.len_sR, jM.len_fI, jM.len_fL, jM.len_fR, *]; omega)) (by first | omega | (exact R.r _ _) | (simp only [jM.len_sI, jM.len_sL, jM.len_sR, jM.len_fI, jM.len_fL, jM.len_fR]; omega) | (simp [jM.len_nw, jM.len_sI, jM.len_sL, jM.len_sR, jM.len_fI, jM.len_fL, jM.len_fR, *]; omega)) ?_
       exact mQ.of (by unfold sp_count cntV; (repeat (first | rw [if_pos (by omega)] | rw [if_neg (by omega)]))))
  · omega
end M3

