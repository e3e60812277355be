section CG
variable {γ : jG} {h : jM}
/-- a CONTRACT of the class and its GRADES -/
def grsOk (h : jM) (gl : List Nat) (GB GA : Int → Int → Int) (GP : Int → Int) : Prop := ∀ (i : Nat) (x : Nat), gl[i]? = some x → ∃ p1 p2, isG h x p1 p2 (GB i) (GA i) (GP i)
def isCt (γ : jG) (h : jM) (c g e : Nat) (gl : List Nat) (GB GA : Int → Int → Int) (GP : Int → Int) (ep : Int) : Prop := h.tag c = 5 ∧ h.R 5 c 3 = some g ∧ isL γ h g e gl ∧ h.I 5 c 4 = ep ∧ grsOk h gl GB GA GP
/-- the first place, of n, where f is so; else -1 -/
def gFb (f : Int → Bool) : Nat → Int
  | 0 => -1
  | n + 1 => if gFb f n = -1 then (if f n = true then (n : Int) else -1) else gFb f n
theorem gFb_st {f : Int → Bool} {i : Nat} {x : Int} (h1 : gFb f i = x) (h2 : x ≠ -1) : ∀ k, gFb f (i + k) = x
  | 0 => h1
  | k + 1 => by
    have := gFb_st h1 h2 k
    show gFb f (i + k + 1) = x
    rw [gFb, this, if_neg h2]
theorem gFb_b (f : Int → Bool) (n : Nat) : -1 ≤ gFb f n ∧ gFb f n < n := by
  induction n with
  | zero => exact ⟨by simp [gFb], by simp [gFb]⟩
  | succ n ih =>
    rw [gFb]
    split
    · split <;> omega
    · omega
theorem gFb_cg {f g : Int → Bool} {n : Nat} (h : ∀ i : Nat, i < n → f i = g i) : gFb f n = gFb g n := by
  induction n with
  | zero => rfl
  | succ n ih => rw [gFb, gFb, ih (fun i hi => h i (by omega)), h n (by omega)]
def gradeR (f : Int → Bool) (n : Nat) (ep : Int) : Int := if gFb f n = -1 then (if ep = -1 then -1 else (n : Int)) else gFb f n
theorem cx_gradeOf {c g e sp y0 : Nat} {gl : List Nat} {GB GA : Int → Int → Int} {GP : Int → Int} {ep : Int} {P : Nat → Int} (hC : isCt γ h c g e gl GB GA GP ep) (hP : isO h sp y0 P) (hB : ∀ i m : Nat, i < gl.length → m < 5 → r32 (GB i m) ∧ r32 (GA i m)) (hPb : ∀ j, j < 10 → r32 (P j)) (hep : r32 ep) : CT γ mX1_gradeOf 3 0 0 [.ref c, .ref sp] h (fun r h' => r = some (.int (jI (gradeR (fun i => sureG (GB i) (GA i) P) gl.length ep))) ∧ h' = h) X0 := by
  obtain ⟨a1, a2, a3, a4, a5⟩ := hC
  have tg := a3.1
  have hlen : gl.length ≤ 150 := Nat.le_trans a3.2.2.2.2.1 a3.2.2.2.2.2.1
  have tsp := hP.1.1
  refine CT.of MX1_gradeOf (Nat.le_of_ble_eq_true rfl) ?_
  show J γ mX1_gradeOf 3 0 0 0 0 h 0 [(0, .ref c), (1, .ref sp)] [] _ _
  refine J.iconst (pc' := 1) rfl rfl ?_
  refine J.istore_n (pc' := 2) rfl rfl (by decide) ?_
  have key : ∀ (k i : Nat), i + k = gl.length → gFb (fun i => sureG (GB i) (GA i) P) i = -1 → ∀ lv, hasL lv [(0, .ref c), (1, .ref sp), (2, .int (jI (i : Int)))] → J γ mX1_gradeOf 3 0 0 0 0 h 2 lv [] (fun r h' => r = some (.int (jI (gradeR (fun i => sureG (GB i) (GA i) P) gl.length ep))) ∧ h' = h) X0 := by
    intro k
    induction k with
    | zero =>
      intro i hi hn lv hlv
      have ei : i = gl.length := by omega
      subst ei
      refine J.lc hlv ?_
      refine J.iload_n (pc' := 3) rfl rfl rfl ?_
      first | refine J.aload_n (pc' := 4) rfl rfl rfl ?_ | refine J.aload_nN (pc' := 4) rfl rfl rfl ?_
      first | refine J.getR (pc' := 7) rfl fl_X1_12 rfl (by first | assumption | (simp only [jM.tag_sI, jM.tag_sL, jM.tag_sR, jM.tag_fI, jM.tag_fL, jM.tag_fR]; assumption) | (simp [jM.tag_nw, jM.tag_sI, jM.tag_sL, jM.tag_sR, jM.tag_fI, jM.tag_fL, jM.tag_fR, *]; done)) (by first | assumption | (simp only [jM.R_sI, jM.R_sL, jM.R_fI, jM.R_fL]; assumption) | (simp [jM.R_nw, jM.R_sR, jM.R_fR, jM.R_sI, jM.R_sL, jM.R_fI, jM.R_fL, *]; done)) rfl ?_ | refine J.getRN (pc' := 7) rfl fl_X1_12 rfl (by first | assumption | (simp only [jM.tag_sI, jM.tag_sL, jM.tag_sR, jM.tag_fI, jM.tag_fL, jM.tag_fR]; assumption) | (simp [jM.tag_nw, jM.tag_sI, jM.tag_sL, jM.tag_sR, jM.tag_fI, jM.tag_fL, jM.tag_fR, *]; done)) (by first | assumption | (simp only [jM.R_sI, jM.R_sL, jM.R_fI, jM.R_fL]; assumption) | (simp [jM.R_nw, jM.R_sR, jM.R_fR, jM.R_sI, jM.R_sL, jM.R_fI, jM.R_fL, *]; done)) rfl ?_
      refine J.callV (pc' := 10) (t := 3) rfl MJx4a65c_size_8abf5 ml_X1_32 iv_Jx4a65c_size_8abf5 (by decide) ⟨_, rfl, rfl⟩ (by first | assumption | (simp only [jM.tag_sI, jM.tag_sL, jM.tag_sR, jM.tag_fI, jM.tag_fL, jM.tag_fR]; assumption) | (simp [jM.tag_nw, jM.tag_sI, jM.tag_sL, jM.tag_sR, jM.tag_fI, jM.tag_fL, jM.tag_fR, *]; done)) a3.size rfl rfl (Nat.le_of_ble_eq_true rfl) (by first | omega | (exact R.r _ _) | (simp only [jM.len_sI, jM.len_sL, jM.len_sR, jM.len_fI, jM.len_fL, jM.len_fR]; omega) | (simp [jM.len_nw, jM.len_sI, jM.len_sL, jM.len_sR, jM.len_fI, jM.len_fL, jM.len_fR, *]; omega)) (by first | omega | (exact R.r _ _) | (simp only [jM.len_sI, jM.len_sL, jM.len_sR, jM.len_fI, jM.len_fL, jM.len_fR]; omega) | (simp [jM.len_nw, jM.len_sI, jM.len_sL, jM.len_sR, jM.len_fI, jM.len_fL, jM.len_fR, *]; omega)) (by first | omega | (exact R.r _ _) | (simp only [jM.len_sI, jM.len_sL, jM.len_sR, jM.len_fI, jM.len_fL, jM.len_fR]; omega) | (simp [jM.len_nw, jM.len_sI, jM.len_sL, jM.len_sR, jM.len_fI, jM.len_fL, jM.len_fR, *]; omega)) rfl rfl ?_ ?_
      · exact fun _ _ h => h
      rintro _ h ⟨rfl, rfl⟩
      refine J.icmp_ge (tgt := 39) (pc' := 13) rfl rfl rfl (by first | omega | (exact R.r _ _) | (simp only [jM.len_sI, jM.len_sL, jM.len_sR, jM.len_fI, jM.len_fL, jM.len_fR]; omega) | (simp [jM.len_nw, jM.len_sI, jM.len_sL, jM.len_sR, jM.len_fI, jM.len_fL, jM.len_fR, *]; omega)) (by first | omega | (exact R.r _ _) | (simp only [jM.len_sI, jM.len_sL, jM.len_sR, jM.len_fI, jM.len_fL, jM.len_fR]; omega) | (simp [jM.len_nw, jM.len_sI, jM.len_sL, jM.len_sR, jM.len_fI, jM.len_fL, jM.len_fR, *]; omega)) (fun c1 => ?_) (fun c1 => ?_)
      · first | refine J.aload_n (pc' := 40) rfl rfl rfl ?_ | refine J.aload_nN (pc' := 40) rfl rfl rfl ?_
        refine J.getI (pc' := 43) rfl fl_X1_18 rfl (by first | assumption | (simp only [jM.tag_sI, jM.tag_sL, jM.tag_sR, jM.tag_fI, jM.tag_fL, jM.tag_fR]; assumption) | (simp [jM.tag_nw, jM.tag_sI, jM.tag_sL, jM.tag_sR, jM.tag_fI, jM.tag_fL, jM.tag_fR, *]; done)) rfl ?_
        rw [a4]
        refine J.iconst (pc' := 44) rfl rfl ?_
        refine J.icmp_ne (tgt := 51) (pc' := 47) rfl rfl rfl (by first | omega | (exact R.r _ _) | (simp only [jM.len_sI, jM.len_sL, jM.len_sR, jM.len_fI, jM.len_fL, jM.len_fR]; omega) | (simp [jM.len_nw, jM.len_sI, jM.len_sL, jM.len_sR, jM.len_fI, jM.len_fL, jM.len_fR, *]; omega)) (by first | omega | (exact R.r _ _) | (simp only [jM.len_sI, jM.len_sL, jM.len_sR, jM.len_fI, jM.len_fL, jM.len_fR]; omega) | (simp [jM.len_nw, jM.len_sI, jM.len_sL, jM.len_sR, jM.len_fI, jM.len_fL, jM.len_fR, *]; omega)) (fun c2 => ?_) (fun c2 => ?_)
        · first | refine J.aload_n (pc' := 52) rfl rfl rfl ?_ | refine J.aload_nN (pc' := 52) rfl rfl rfl ?_
          first | refine J.getR (pc' := 55) rfl fl_X1_12 rfl (by first | assumption | (simp only [jM.tag_sI, jM.tag_sL, jM.tag_sR, jM.tag_fI, jM.tag_fL, jM.tag_fR]; assumption) | (simp [jM.tag_nw, jM.tag_sI, jM.tag_sL, jM.tag_sR, jM.tag_fI, jM.tag_fL, jM.tag_fR, *]; done)) (by first | assumption | (simp only [jM.R_sI, jM.R_sL, jM.R_fI, jM.R_fL]; assumption) | (simp [jM.R_nw, jM.R_sR, jM.R_fR, jM.R_sI, jM.R_sL, jM.R_fI, jM.R_fL, *]; done)) rfl ?_ | refine J.getRN (pc' := 55) rfl fl_X1_12 rfl (by first | assumption | (simp only [jM.tag_sI, jM.tag_sL, jM.tag_sR, jM.tag_fI, jM.tag_fL, jM.tag_fR]; assumption) | (simp [jM.tag_nw, jM.tag_sI, jM.tag_sL, jM.tag_sR, jM.tag_fI, jM.tag_fL, jM.tag_fR, *]; done)) (by first | assumption | (simp only [jM.R_sI, jM.R_sL, jM.R_fI, jM.R_fL]; assumption) | (simp [jM.R_nw, jM.R_sR, jM.R_fR, jM.R_sI, jM.R_sL, jM.R_fI, jM.R_fL, *]; done)) rfl ?_
          refine J.callV (pc' := 58) (t := 3) rfl MJx4a65c_size_8abf5 ml_X1_32 iv_Jx4a65c_size_8abf5 (by decide) ⟨_, rfl, rfl⟩ (by first | assumption | (simp only [jM.tag_sI, jM.tag_sL, jM.tag_sR, jM.tag_fI, jM.tag_fL, jM.tag_fR]; assumption) | (simp [jM.tag_nw, jM.tag_sI, jM.tag_sL, jM.tag_sR, jM.tag_fI, jM.tag_fL, jM.tag_fR, *]; done)) a3.size rfl rfl (Nat.le_of_ble_eq_true rfl) (by first | omega | (exact R.r _ _) | (simp only [jM.len_sI, jM.len_sL, jM.len_sR, jM.len_fI, jM.len_fL, jM.len_fR]; omega) | (simp [jM.len_nw, jM.len_sI, jM.len_sL, jM.len_sR, jM.len_fI, jM.len_fL, jM.len_fR, *]; omega)) (by first | omega | (exact R.r _ _) | (simp only [jM.len_sI, jM.len_sL, jM.len_sR, jM.len_fI, jM.len_fL, jM.len_fR]; omega) | (simp [jM.len_nw, jM.len_sI, jM.len_sL, jM.len_sR, jM.len_fI, jM.len_fL, jM.len_fR, *]; omega)) (by first | omega | (exact R.r _ _) | (simp only [jM.len_sI, jM.len_sL, jM.len_sR, jM.len_fI, jM.len_fL, jM.len_fR]; omega) | (simp [jM.len_nw, jM.len_sI, jM.len_sL, jM.len_sR, jM.len_fI, jM.len_fL, jM.len_fR, *]; omega)) rfl rfl ?_ ?_
          · exact fun _ _ h => h
          rintro _ h ⟨rfl, rfl⟩
          refine J.iret rfl rfl (by first | omega | (exact R.r _ _) | (simp only [jM.len_sI, jM.len_sL, jM.len_sR, jM.len_fI, jM.len_fL, jM.len_fR]; omega) | (simp [jM.len_nw, jM.len_sI, jM.len_sL, jM.len_sR, jM.len_fI, jM.len_fL, jM.len_fR, *]; omega)) (by first | omega | (exact R.r _ _) | (simp only [jM.len_sI, jM.len_sL, jM.len_sR, jM.len_fI, jM.len_fL, jM.len_fR]; omega) | (simp [jM.len_nw, jM.len_sI, jM.len_sL, jM.len_sR, jM.len_fI, jM.len_fL, jM.len_fR, *]; omega)) ?_
          exact ⟨by unfold gradeR; rw [if_pos hn, if_neg (by omega)], rfl⟩
        · refine J.iconst (pc' := 48) rfl rfl ?_
          refine J.goto (tgt := 58) rfl rfl ?_
          refine J.iret rfl rfl (by first | omega | (exact R.r _ _) | (simp only [jM.len_sI, jM.len_sL, jM.len_sR, jM.len_fI, jM.len_fL, jM.len_fR]; omega) | (simp [jM.len_nw, jM.len_sI, jM.len_sL, jM.len_sR, jM.len_fI, jM.len_fL, jM.len_fR, *]; omega)) (by first | omega | (exact R.r _ _) | (simp only [jM.len_sI, jM.len_sL, jM.len_sR, jM.len_fI, jM.len_fL, jM.len_fR]; omega) | (simp [jM.len_nw, jM.len_sI, jM.len_sL, jM.len_sR, jM.len_fI, jM.len_fL, jM.len_fR, *]; omega)) ?_
          exact ⟨by unfold gradeR; rw [if_pos hn, if_pos (by omega)], rfl⟩
      · omega
    | succ k ih =>
      intro i hi hn lv hlv
      obtain ⟨x, hx⟩ : ∃ x, gl[i]? = some x := ⟨_, List.getElem?_eq_getElem (by omega)⟩
      obtain ⟨p1, p2, hG⟩ := a5 i x hx
      have tx := hG.1
      refine J.lc hlv ?_
      refine J.iload_n (pc' := 3) rfl rfl rfl ?_
      first | refine J.aload_n (pc' := 4) rfl rfl rfl ?_ | refine J.aload_nN (pc' := 4) rfl rfl rfl ?_
      first | refine J.getR (pc' := 7) rfl fl_X1_12 rfl (by first | assumption | (simp only [jM.tag_sI, jM.tag_sL, jM.tag_sR, jM.tag_fI, jM.tag_fL, jM.tag_fR]; assumption) | (simp [jM.tag_nw, jM.tag_sI, jM.tag_sL, jM.tag_sR, jM.tag_fI, jM.tag_fL, jM.tag_fR, *]; done)) (by first | assumption | (simp only [jM.R_sI, jM.R_sL, jM.R_fI, jM.R_fL]; assumption) | (simp [jM.R_nw, jM.R_sR, jM.R_fR, jM.R_sI, jM.R_sL, jM.R_fI, jM.R_fL, *]; done)) rfl ?_ | refine J.getRN (pc' := 7) rfl fl_X1_12 rfl (by first | assumption | (simp only [jM.tag_sI, jM.tag_sL, jM.tag_sR, jM.tag_fI, jM.tag_fL, jM.tag_fR]; assumption) | (simp [jM.tag_nw, jM.tag_sI, jM.tag_sL, jM.tag_sR, jM.tag_fI, jM.tag_fL, jM.tag_fR, *]; done)) (by first | assumption | (simp only [jM.R_sI, jM.R_sL, jM.R_fI, jM.R_fL]; assumption) | (simp [jM.R_nw, jM.R_sR, jM.R_fR, jM.R_sI, jM.R_sL, jM.R_fI, jM.R_fL, *]; done)) rfl ?_
      refine J.callV (pc' := 10) (t := 3) rfl MJx4a65c_size_8abf5 ml_X1_32 iv_Jx4a65c_size_8abf5 (by decide) ⟨_, rfl, rfl⟩ (by first | assumption | (simp only [jM.tag_sI, jM.tag_sL, jM.tag_sR, jM.tag_fI, jM.tag_fL, jM.tag_fR]; assumption) | (simp [jM.tag_nw, jM.tag_sI, jM.tag_sL, jM.tag_sR, jM.tag_fI, jM.tag_fL, jM.tag_fR, *]; done)) a3.size rfl rfl (Nat.le_of_ble_eq_true rfl) (by first | omega | (exact R.r _ _) | (simp only [jM.len_sI, jM.len_sL, jM.len_sR, jM.len_fI, jM.len_fL, jM.len_fR]; omega) | (simp [jM.len_nw, jM.len_sI, jM.len_sL, jM.len_sR, jM.len_fI, jM.len_fL, jM.len_fR, *]; omega)) (by first | omega | (exact R.r _ _) | (simp only [jM.len_sI, jM.len_sL, jM.len_sR, jM.len_fI, jM.len_fL, jM.len_fR]; omega) | (simp [jM.len_nw, jM.len_sI, jM.len_sL, jM.len_sR, jM.len_fI, jM.len_fL, jM.len_fR, *]; omega)) (by first | omega | (exact R.r _ _) | (simp only [jM.len_sI, jM.len_sL, jM.len_sR, jM.len_fI, jM.len_fL, jM.len_fR]; omega) | (simp [jM.len_nw, jM.len_sI, jM.len_sL, jM.len_sR, jM.len_fI, jM.len_fL, jM.len_fR, *]; omega)) rfl rfl ?_ ?_
      · exact fun _ _ h => h
      rintro _ h ⟨rfl, rfl⟩
      refine J.icmp_ge (tgt := 39) (pc' := 13) rfl rfl rfl (by first | omega | (exact R.r _ _) | (simp only [jM.len_sI, jM.len_sL, jM.len_sR, jM.len_fI, jM.len_fL, jM.len_fR]; omega) | (simp [jM.len_nw, jM.len_sI, jM.len_sL, jM.len_sR, jM.len_fI, jM.len_fL, jM.len_fR, *]; omega)) (by first | omega | (exact R.r _ _) | (simp only [jM.len_sI, jM.len_sL, jM.len_sR, jM.len_fI, jM.len_fL, jM.len_fR]; omega) | (simp [jM.len_nw, jM.len_sI, jM.len_sL, jM.len_sR, jM.len_fI, jM.len_fL, jM.len_fR, *]; omega)) (fun c1 => ?_) (fun c1 => ?_)
      · omega
      · first | refine J.aload_n (pc' := 14) rfl rfl rfl ?_ | refine J.aload_nN (pc' := 14) rfl rfl rfl ?_
        first | refine J.getR (pc' := 17) rfl fl_X1_12 rfl (by first | assumption | (simp only [jM.tag_sI, jM.tag_sL, jM.tag_sR, jM.tag_fI, jM.tag_fL, jM.tag_fR]; assumption) | (simp [jM.tag_nw, jM.tag_sI, jM.tag_sL, jM.tag_sR, jM.tag_fI, jM.tag_fL, jM.tag_fR, *]; done)) (by first | assumption | (simp only [jM.R_sI, jM.R_sL, jM.R_fI, jM.R_fL]; assumption) | (simp [jM.R_nw, jM.R_sR, jM.R_fR, jM.R_sI, jM.R_sL, jM.R_fI, jM.R_fL, *]; done)) rfl ?_ | refine J.getRN (pc' := 17) rfl fl_X1_12 rfl (by first | assumption | (simp only [jM.tag_sI, jM.tag_sL, jM.tag_sR, jM.tag_fI, jM.tag_fL, jM.tag_fR]; assumption) | (simp [jM.tag_nw, jM.tag_sI, jM.tag_sL, jM.tag_sR, jM.tag_fI, jM.tag_fL, jM.tag_fR, *]; done)) (by first | assumption | (simp only [jM.R_sI, jM.R_sL, jM.R_fI, jM.R_fL]; assumption) | (simp [jM.R_nw, jM.R_sR, jM.R_fR, jM.R_sI, jM.R_sL, jM.R_fI, jM.R_fL, *]; done)) rfl ?_
        refine J.iload_n (pc' := 18) rfl rfl rfl ?_
        refine J.callV (pc' := 21) (t := 3) rfl MJx4a65c_get_915e3 ml_X1_36 iv_Jx4a65c_get_915e3 (by decide) ⟨_, rfl, rfl⟩ (by first | assumption | (simp only [jM.tag_sI, jM.tag_sL, jM.tag_sR, jM.tag_fI, jM.tag_fL, jM.tag_fR]; assumption) | (simp [jM.tag_nw, jM.tag_sI, jM.tag_sL, jM.tag_sR, jM.tag_fI, jM.tag_fL, jM.tag_fR, *]; done)) (a3.get hx) rfl rfl (Nat.le_of_ble_eq_true rfl) (by first | omega | (exact R.r _ _) | (simp only [jM.len_sI, jM.len_sL, jM.len_sR, jM.len_fI, jM.len_fL, jM.len_fR]; omega) | (simp [jM.len_nw, jM.len_sI, jM.len_sL, jM.len_sR, jM.len_fI, jM.len_fL, jM.len_fR, *]; omega)) (by first | omega | (exact R.r _ _) | (simp only [jM.len_sI, jM.len_sL, jM.len_sR, jM.len_fI, jM.len_fL, jM.len_fR]; omega) | (simp [jM.len_nw, jM.len_sI, jM.len_sL, jM.len_sR, jM.len_fI, jM.len_fL, jM.len_fR, *]; omega)) (by first | omega | (exact R.r _ _) | (simp only [jM.len_sI, jM.len_sL, jM.len_sR, jM.len_fI, jM.len_fL, jM.len_fR]; omega) | (simp [jM.len_nw, jM.len_sI, jM.len_sL, jM.len_sR, jM.len_fI, jM.len_fL, jM.len_fR, *]; omega)) rfl rfl ?_ ?_
        · exact fun _ _ h => h
        rintro _ h ⟨rfl, rfl⟩
        refine J.cast (pc' := 24) (t := 7) rfl (⟨by decide, by decide, _, RX3, rfl, List.mem_of_getElem? (i := 1069) (by decide +kernel), Or.inl rfl⟩) (by first | assumption | (simp only [jM.tag_sI, jM.tag_sL, jM.tag_sR, jM.tag_fI, jM.tag_fL, jM.tag_fR]; assumption) | (simp [jM.tag_nw, jM.tag_sI, jM.tag_sL, jM.tag_sR, jM.tag_fI, jM.tag_fL, jM.tag_fR, *]; done)) rfl ?_
        first | refine J.aload_n (pc' := 25) rfl rfl rfl ?_ | refine J.aload_nN (pc' := 25) rfl rfl rfl ?_
        refine J.callV (pc' := 28) (t := 7) rfl MX3_isSure ml_X1_42 iv_X3_isSure (by decide) ⟨_, rfl, rfl⟩ (by first | assumption | (simp only [jM.tag_sI, jM.tag_sL, jM.tag_sR, jM.tag_fI, jM.tag_fL, jM.tag_fR]; assumption) | (simp [jM.tag_nw, jM.tag_sI, jM.tag_sL, jM.tag_sR, jM.tag_fI, jM.tag_fL, jM.tag_fR, *]; done)) (cx_isSure hG hP (fun m hm => hB i m (by omega) hm) hPb) rfl rfl (Nat.le_of_ble_eq_true rfl) (by first | omega | (exact R.r _ _) | (simp only [jM.len_sI, jM.len_sL, jM.len_sR, jM.len_fI, jM.len_fL, jM.len_fR]; omega) | (simp [jM.len_nw, jM.len_sI, jM.len_sL, jM.len_sR, jM.len_fI, jM.len_fL, jM.len_fR, *]; omega)) (by first | omega | (exact R.r _ _) | (simp only [jM.len_sI, jM.len_sL, jM.len_sR, jM.len_fI, jM.len_fL, jM.len_fR]; omega) | (simp [jM.len_nw, jM.len_sI, jM.len_sL, jM.len_sR, jM.len_fI, jM.len_fL, jM.len_fR, *]; omega)) (by first | omega | (exact R.r _ _) | (simp only [jM.len_sI, jM.len_sL, jM.len_sR, jM.len_fI, jM.len_fL, jM.len_fR]; omega) | (simp [jM.len_nw, jM.len_sI, jM.len_sL, jM.len_sR, jM.len_fI, jM.len_fL, jM.len_fR, *]; omega)) rfl rfl ?_ ?_
        · exact fun _ _ h => h
        rintro _ h ⟨rfl, rfl⟩
        have nx : gFb (fun i => sureG (GB i) (GA i) P) (i + 1) = if sureG (GB i) (GA i) P = true then (i : Int) else -1 := by rw [gFb, if_pos hn]
        cases hb : sureG (GB i) (GA i) P
        · show J γ mX1_gradeOf 3 0 0 0 0 h 28 _ [.int (jI 0)] _ _
          refine J.if_eq (tgt := 33) (pc' := 31) rfl rfl rfl (by first | omega | (exact R.r _ _) | (simp only [jM.len_sI, jM.len_sL, jM.len_sR, jM.len_fI, jM.len_fL, jM.len_fR]; omega) | (simp [jM.len_nw, jM.len_sI, jM.len_sL, jM.len_sR, jM.len_fI, jM.len_fL, jM.len_fR, *]; omega)) (fun c2 => ?_) (fun c2 => ?_)
          · refine J.iinc (pc' := 36) rfl rfl rfl (by decide) ?_
            refine J.goto (tgt := 2) rfl rfl ?_
            refine ih (i + 1) (by omega) (by rw [nx, hb]; rfl) _ ⟨rfl, rfl, rfl, trivial⟩
          · omega
        · show J γ mX1_gradeOf 3 0 0 0 0 h 28 _ [.int (jI 1)] _ _
          refine J.if_eq (tgt := 33) (pc' := 31) rfl rfl rfl (by first | omega | (exact R.r _ _) | (simp only [jM.len_sI, jM.len_sL, jM.len_sR, jM.len_fI, jM.len_fL, jM.len_fR]; omega) | (simp [jM.len_nw, jM.len_sI, jM.len_sL, jM.len_sR, jM.len_fI, jM.len_fL, jM.len_fR, *]; omega)) (fun c2 => ?_) (fun c2 => ?_)
          · omega
          · refine J.iload_n (pc' := 32) rfl rfl rfl ?_
            refine J.iret rfl rfl (by first | omega | (exact R.r _ _) | (simp only [jM.len_sI, jM.len_sL, jM.len_sR, jM.len_fI, jM.len_fL, jM.len_fR]; omega) | (simp [jM.len_nw, jM.len_sI, jM.len_sL, jM.len_sR, jM.len_fI, jM.len_fL, jM.len_fR, *]; omega)) (by first | omega | (exact R.r _ _) | (simp only [jM.len_sI, jM.len_sL, jM.len_sR, jM.len_fI, jM.len_fL, jM.len_fR]; omega) | (simp [jM.len_nw, jM.len_sI, jM.len_sL, jM.len_sR, jM.len_fI, jM.len_fL, jM.len_fR, *]; omega)) ?_
            have e9 := gFb_st (f := fun i => sureG (GB i) (GA i) P) (i := i + 1) (x := (i : Int)) (by rw [nx, hb]; rfl) (by omega) k
            rw [show i + 1 + k = gl.length by omega] at e9
            exact ⟨by unfold gradeR; rw [e9, if_neg (by omega)], rfl⟩
  exact key gl.length 0 (by omega) rfl _ ⟨rfl, rfl, rfl, trivial⟩
def payR (GP : Int → Int) (n : Nat) (ep g : Int) : Int := if g < 0 then 0 else if g < (n : Int) then GP g else ep
theorem cx_payOf {c g e : Nat} {gl : List Nat} {GB GA : Int → Int → Int} {GP : Int → Int} {ep x : Int} (hC : isCt γ h c g e gl GB GA GP ep) (hx : r32 x) : CT γ mX1_payOf 3 0 0 [.ref c, .int (jI x)] h (fun r h' => r = some (.int (jI (payR GP gl.length ep x))) ∧ h' = h) X0 := by
  obtain ⟨a1, a2, a3, a4, a5⟩ := hC
  have tg := a3.1
  have hlen : gl.length ≤ 150 := Nat.le_trans a3.2.2.2.2.1 a3.2.2.2.2.2.1
  refine CT.of MX1_payOf (Nat.le_of_ble_eq_true rfl) ?_
  show J γ mX1_payOf 3 0 0 0 0 h 0 [(0, .ref c), (1, .int (jI x))] [] _ _
  refine J.iload_n (pc' := 1) rfl rfl rfl ?_
  refine J.if_ge (tgt := 6) (pc' := 4) rfl rfl rfl (by first | omega | (exact R.r _ _) | (simp only [jM.len_sI, jM.len_sL, jM.len_sR, jM.len_fI, jM.len_fL, jM.len_fR]; omega) | (simp [jM.len_nw, jM.len_sI, jM.len_sL, jM.len_sR, jM.len_fI, jM.len_fL, jM.len_fR, *]; omega)) (fun c1 => ?_) (fun c1 => ?_)
  · refine J.iload_n (pc' := 7) rfl rfl rfl ?_
    first | refine J.aload_n (pc' := 8) rfl rfl rfl ?_ | refine J.aload_nN (pc' := 8) rfl rfl rfl ?_
    first | refine J.getR (pc' := 11) rfl fl_X1_12 rfl (by first | assumption | (simp only [jM.tag_sI, jM.tag_sL, jM.tag_sR, jM.tag_fI, jM.tag_fL, jM.tag_fR]; assumption) | (simp [jM.tag_nw, jM.tag_sI, jM.tag_sL, jM.tag_sR, jM.tag_fI, jM.tag_fL, jM.tag_fR, *]; done)) (by first | assumption | (simp only [jM.R_sI, jM.R_sL, jM.R_fI, jM.R_fL]; assumption) | (simp [jM.R_nw, jM.R_sR, jM.R_fR, jM.R_sI, jM.R_sL, jM.R_fI, jM.R_fL, *]; done)) rfl ?_ | refine J.getRN (pc' := 11) rfl fl_X1_12 rfl (by first | assumption | (simp only [jM.tag_sI, jM.tag_sL, jM.tag_sR, jM.tag_fI, jM.tag_fL, jM.tag_fR]; assumption) | (simp [jM.tag_nw, jM.tag_sI, jM.tag_sL, jM.tag_sR, jM.tag_fI, jM.tag_fL, jM.tag_fR, *]; done)) (by first | assumption | (simp only [jM.R_sI, jM.R_sL, jM.R_fI, jM.R_fL]; assumption) | (simp [jM.R_nw, jM.R_sR, jM.R_fR, jM.R_sI, jM.R_sL, jM.R_fI, jM.R_fL, *]; done)) rfl ?_
    refine J.callV (pc' := 14) (t := 3) rfl MJx4a65c_size_8abf5 ml_X1_32 iv_Jx4a65c_size_8abf5 (by decide) ⟨_, rfl, rfl⟩ (by first | assumption | (simp only [jM.tag_sI, jM.tag_sL, jM.tag_sR, jM.tag_fI, jM.tag_fL, jM.tag_fR]; assumption) | (simp [jM.tag_nw, jM.tag_sI, jM.tag_sL, jM.tag_sR, jM.tag_fI, jM.tag_fL, jM.tag_fR, *]; done)) a3.size rfl rfl (Nat.le_of_ble_eq_true rfl) (by first | omega | (exact R.r _ _) | (simp only [jM.len_sI, jM.len_sL, jM.len_sR, jM.len_fI, jM.len_fL, jM.len_fR]; omega) | (simp [jM.len_nw, jM.len_sI, jM.len_sL, jM.len_sR, jM.len_fI, jM.len_fL, jM.len_fR, *]; omega)) (by first | omega | (exact R.r _ _) | (simp only [jM.len_sI, jM.len_sL, jM.len_sR, jM.len_fI, jM.len_fL, jM.len_fR]; omega) | (simp [jM.len_nw, jM.len_sI, jM.len_sL, jM.len_sR, jM.len_fI, jM.len_fL, jM.len_fR, *]; omega)) (by first | omega | (exact R.r _ _) | (simp only [jM.len_sI, jM.len_sL, jM.len_sR, jM.len_fI, jM.len_fL, jM.len_fR]; omega) | (simp [jM.len_nw, jM.len_sI, jM.len_sL, jM.len_sR, jM.len_fI, jM.len_fL, jM.len_fR, *]; omega)) rfl rfl ?_ ?_
    · exact fun _ _ h => h
    rintro _ h ⟨rfl, rfl⟩
    refine J.icmp_ge (tgt := 34) (pc' := 17) rfl rfl rfl (by first | omega | (exact R.r _ _) | (simp only [jM.len_sI, jM.len_sL, jM.len_sR, jM.len_fI, jM.len_fL, jM.len_fR]; omega) | (simp [jM.len_nw, jM.len_sI, jM.len_sL, jM.len_sR, jM.len_fI, jM.len_fL, jM.len_fR, *]; omega)) (by first | omega | (exact R.r _ _) | (simp only [jM.len_sI, jM.len_sL, jM.len_sR, jM.len_fI, jM.len_fL, jM.len_fR]; omega) | (simp [jM.len_nw, jM.len_sI, jM.len_sL, jM.len_sR, jM.len_fI, jM.len_fL, jM.len_fR, *]; omega)) (fun c2 => ?_) (fun c2 => ?_)
    · first | refine J.aload_n (pc' := 35) rfl rfl rfl ?_ | refine J.aload_nN (pc' := 35) rfl rfl rfl ?_
      refine J.getI (pc' := 38) rfl fl_X1_18 rfl (by first | assumption | (simp only [jM.tag_sI, jM.tag_sL, jM.tag_sR, jM.tag_fI, jM.tag_fL, jM.tag_fR]; assumption) | (simp [jM.tag_nw, jM.tag_sI, jM.tag_sL, jM.tag_sR, jM.tag_fI, jM.tag_fL, jM.tag_fR, *]; done)) rfl ?_
      rw [a4]
      refine J.iret rfl rfl (by first | omega | (exact R.r _ _) | (simp only [jM.len_sI, jM.len_sL, jM.len_sR, jM.len_fI, jM.len_fL, jM.len_fR]; omega) | (simp [jM.len_nw, jM.len_sI, jM.len_sL, jM.len_sR, jM.len_fI, jM.len_fL, jM.len_fR, *]; omega)) (by first | omega | (exact R.r _ _) | (simp only [jM.len_sI, jM.len_sL, jM.len_sR, jM.len_fI, jM.len_fL, jM.len_fR]; omega) | (simp [jM.len_nw, jM.len_sI, jM.len_sL, jM.len_sR, jM.len_fI, jM.len_fL, jM.len_fR, *]; omega)) ?_
      exact ⟨by unfold payR; rw [if_neg (by omega), if_neg (by omega)], rfl⟩
    · first | refine J.aload_n (pc' := 18) rfl rfl rfl ?_ | refine J.aload_nN (pc' := 18) rfl rfl rfl ?_
      first | refine J.getR (pc' := 21) rfl fl_X1_12 rfl (by first | assumption | (simp only [jM.tag_sI, jM.tag_sL, jM.tag_sR, jM.tag_fI, jM.tag_fL, jM.tag_fR]; assumption) | (simp [jM.tag_nw, jM.tag_sI, jM.tag_sL, jM.tag_sR, jM.tag_fI, jM.tag_fL, jM.tag_fR, *]; done)) (by first | assumption | (simp only [jM.R_sI, jM.R_sL, jM.R_fI, jM.R_fL]; assumption) | (simp [jM.R_nw, jM.R_sR, jM.R_fR, jM.R_sI, jM.R_sL, jM.R_fI, jM.R_fL, *]; done)) rfl ?_ | refine J.getRN (pc' := 21) rfl fl_X1_12 rfl (by first | assumption | (simp only [jM.tag_sI, jM.tag_sL, jM.tag_sR, jM.tag_fI, jM.tag_fL, jM.tag_fR]; assumption) | (simp [jM.tag_nw, jM.tag_sI, jM.tag_sL, jM.tag_sR, jM.tag_fI, jM.tag_fL, jM.tag_fR, *]; done)) (by first | assumption | (simp only [jM.R_sI, jM.R_sL, jM.R_fI, jM.R_fL]; assumption) | (simp [jM.R_nw, jM.R_sR, jM.R_fR, jM.R_sI, jM.R_sL, jM.R_fI, jM.R_fL, *]; done)) rfl ?_
      refine J.iload_n (pc' := 22) rfl rfl rfl ?_
      obtain ⟨i, rfl⟩ : ∃ i : Nat, x = (i : Int) := ⟨x.toNat, by omega⟩
      obtain ⟨y, hy⟩ : ∃ y, gl[i]? = some y := ⟨_, List.getElem?_eq_getElem (by omega)⟩
      obtain ⟨p1, p2, hG⟩ := a5 i y hy
      have ty := hG.1
      have py := hG.2.2.2.2.2.2.2.2.2.1
      refine J.callV (pc' := 25) (t := 3) rfl MJx4a65c_get_915e3 ml_X1_36 iv_Jx4a65c_get_915e3 (by decide) ⟨_, rfl, rfl⟩ (by first | assumption | (simp only [jM.tag_sI, jM.tag_sL, jM.tag_sR, jM.tag_fI, jM.tag_fL, jM.tag_fR]; assumption) | (simp [jM.tag_nw, jM.tag_sI, jM.tag_sL, jM.tag_sR, jM.tag_fI, jM.tag_fL, jM.tag_fR, *]; done)) (a3.get hy) rfl rfl (Nat.le_of_ble_eq_true rfl) (by first | omega | (exact R.r _ _) | (simp only [jM.len_sI, jM.len_sL, jM.len_sR, jM.len_fI, jM.len_fL, jM.len_fR]; omega) | (simp [jM.len_nw, jM.len_sI, jM.len_sL, jM.len_sR, jM.len_fI, jM.len_fL, jM.len_fR, *]; omega)) (by first | omega | (exact R.r _ _) | (simp only [jM.len_sI, jM.len_sL, jM.len_sR, jM.len_fI, jM.len_fL, jM.len_fR]; omega) | (simp [jM.len_nw, jM.len_sI, jM.len_sL, jM.len_sR, jM.len_fI, jM.len_fL, jM.len_fR, *]; omega)) (by first | omega | (exact R.r _ _) | (simp only [jM.len_sI, jM.len_sL, jM.len_sR, jM.len_fI, jM.len_fL, jM.len_fR]; omega) | (simp [jM.len_nw, jM.len_sI, jM.len_sL, jM.len_sR, jM.len_fI, jM.len_fL, jM.len_fR, *]; omega)) rfl rfl ?_ ?_
      · exact fun _ _ h => h
      rintro _ h ⟨rfl, rfl⟩
      refine J.cast (pc' := 28) (t := 7) rfl (⟨by decide, by decide, _, RX3, rfl, List.mem_of_getElem? (i := 1069) (by decide +kernel), Or.inl rfl⟩) (by first | assumption | (simp only [jM.tag_sI, jM.tag_sL, jM.tag_sR, jM.tag_fI, jM.tag_fL, jM.tag_fR]; assumption) | (simp [jM.tag_nw, jM.tag_sI, jM.tag_sL, jM.tag_sR, jM.tag_fI, jM.tag_fL, jM.tag_fR, *]; done)) rfl ?_
      refine J.getI (pc' := 31) rfl fl_X1_46 rfl (by first | assumption | (simp only [jM.tag_sI, jM.tag_sL, jM.tag_sR, jM.tag_fI, jM.tag_fL, jM.tag_fR]; assumption) | (simp [jM.tag_nw, jM.tag_sI, jM.tag_sL, jM.tag_sR, jM.tag_fI, jM.tag_fL, jM.tag_fR, *]; done)) rfl ?_
      rw [py]
      refine J.goto (tgt := 38) rfl rfl ?_
      refine J.iret rfl rfl (by first | omega | (exact R.r _ _) | (simp only [jM.len_sI, jM.len_sL, jM.len_sR, jM.len_fI, jM.len_fL, jM.len_fR]; omega) | (simp [jM.len_nw, jM.len_sI, jM.len_sL, jM.len_sR, jM.len_fI, jM.len_fL, jM.len_fR, *]; omega)) (by first | omega | (exact R.r _ _) | (simp only [jM.len_sI, jM.len_sL, jM.len_sR, jM.len_fI, jM.len_fL, jM.len_fR]; omega) | (simp [jM.len_nw, jM.len_sI, jM.len_sL, jM.len_sR, jM.len_fI, jM.len_fL, jM.len_fR, *]; omega)) ?_
      exact ⟨by unfold payR; rw [if_neg (by omega), if_pos (by omega)], rfl⟩
  · refine J.iconst (pc' := 5) rfl rfl ?_
    refine J.iret rfl rfl (by first | omega | (exact R.r _ _) | (simp only [jM.len_sI, jM.len_sL, jM.len_sR, jM.len_fI, jM.len_fL, jM.len_fR]; omega) | (simp [jM.len_nw, jM.len_sI, jM.len_sL, jM.len_sR, jM.len_fI, jM.len_fL, jM.len_fR, *]; omega)) (by first | omega | (exact R.r _ _) | (simp only [jM.len_sI, jM.len_sL, jM.len_sR, jM.len_fI, jM.len_fL, jM.len_fR]; omega) | (simp [jM.len_nw, jM.len_sI, jM.len_sL, jM.len_sR, jM.len_fI, jM.len_fL, jM.len_fR, *]; omega)) ?_
    exact ⟨by unfold payR; rw [if_pos (by omega)], rfl⟩
theorem cx_Contract {a s : Nat} {n d : Int} (ha : h.tag a = 5) (hK : h.tag (γ.K 0) = 34 ∧ h.len (γ.K 0) = 0) : CT γ mX1_init 4 1 3 [.ref a, .int (jI n), .ref s, .int (jI d)] h (fun r h' => r = none ∧ ∃ g, h.tag g = 0 ∧ isL γ h' g (γ.K 0) [] ∧ h'.R 5 a 3 = some g ∧ h'.I 5 a 4 = -1 ∧ h'.I 5 a 0 = n ∧ h'.R 5 a 1 = some s ∧ h'.I 5 a 2 = d ∧ Fr h h' (fun b => b = a) ∧ Nt h h' [3]) X0 := by
  refine CT.of MX1_init (Nat.le_of_ble_eq_true rfl) ?_
  show J γ mX1_init 4 1 3 0 0 h 0 [(0, .ref a), (1, .int (jI n)), (2, .ref s), (3, .int (jI d))] [] _ _
  first | refine J.aload_n (pc' := 1) rfl rfl rfl ?_ | refine J.aload_nN (pc' := 1) rfl rfl rfl ?_
  refine J.objI (pc' := 4) rfl (List.mem_of_getElem? (i := 642) (by decide +kernel)) jObj_i jObj_c (by omega) (Nat.le_of_ble_eq_true rfl) rfl ?_
  first | refine J.aload_n (pc' := 5) rfl rfl rfl ?_ | refine J.aload_nN (pc' := 5) rfl rfl rfl ?_
  refine J.new (pc' := 8) (t := 3) (N := 3) (n := 3) rfl ⟨by decide, by decide, _, rfl, rfl, List.mem_of_getElem? (i := 643) (by decide +kernel), List.mem_of_getElem? (i := 107) (by decide +kernel), List.mem_of_getElem? (i := 67) (by decide +kernel)⟩ (by first | omega | (exact R.r _ _) | (simp only [jM.len_sI, jM.len_sL, jM.len_sR, jM.len_fI, jM.len_fL, jM.len_fR]; omega) | (simp [jM.len_nw, jM.len_sI, jM.len_sL, jM.len_sR, jM.len_fI, jM.len_fL, jM.len_fR, *]; omega)) (by first | omega | (exact R.r _ _) | (simp only [jM.len_sI, jM.len_sL, jM.len_sR, jM.len_fI, jM.len_fL, jM.len_fR]; omega) | (simp [jM.len_nw, jM.len_sI, jM.len_sL, jM.len_sR, jM.len_fI, jM.len_fL, jM.len_fR, *]; omega)) rfl (fun q qf qb => ?_)
  refine J.dup (pc' := 9) rfl rfl rfl ?_
  refine J.callI (pc' := 12) rfl MJx4a65c_init_da8c8 ml_X1_11 iv_Jx4a65c_init_da8c8 ⟨rfl, rfl⟩ (ct_list_init (by rw [jM.tag_nw, if_pos rfl])) rfl rfl (Nat.le_of_ble_eq_true rfl) (by first | omega | (exact R.r _ _) | (simp only [jM.len_sI, jM.len_sL, jM.len_sR, jM.len_fI, jM.len_fL, jM.len_fR]; omega) | (simp [jM.len_nw, jM.len_sI, jM.len_sL, jM.len_sR, jM.len_fI, jM.len_fL, jM.len_fR, *]; omega)) (by first | omega | (exact R.r _ _) | (simp only [jM.len_sI, jM.len_sL, jM.len_sR, jM.len_fI, jM.len_fL, jM.len_fR]; omega) | (simp [jM.len_nw, jM.len_sI, jM.len_sL, jM.len_sR, jM.len_fI, jM.len_fL, jM.len_fR, *]; omega)) (by first | omega | (exact R.r _ _) | (simp only [jM.len_sI, jM.len_sL, jM.len_sR, jM.len_fI, jM.len_fL, jM.len_fR]; omega) | (simp [jM.len_nw, jM.len_sI, jM.len_sL, jM.len_sR, jM.len_fI, jM.len_fL, jM.len_fR, *]; omega)) rfl ?_
  rintro _ _ ⟨rfl, rfl⟩
  obtain ⟨g1, g2, g3⟩ := nwL (γ := γ) (n := 3) qf hK
  have ta := g2.tag ha (by omega)
  generalize ((h.nw q 3 3).sI 3 q 0 0).sR 3 q 1 (some (γ.K 0)) = k at g1 g2 g3 ta ⊢
  have tq := g1.1
  have hne : ¬ q = a := fun e => by rw [e] at tq; omega
  first | refine J.putR (pc' := 15) rfl fl_X1_12 rfl (Or.inr ⟨rfl, rfl, rfl⟩) (by first | assumption | (simp only [jM.tag_sI, jM.tag_sL, jM.tag_sR, jM.tag_fI, jM.tag_fL, jM.tag_fR]; assumption) | (simp [jM.tag_nw, jM.tag_sI, jM.tag_sL, jM.tag_sR, jM.tag_fI, jM.tag_fL, jM.tag_fR, *]; done)) (Or.inl rfl) rfl ?_ | refine J.putRN (pc' := 15) rfl fl_X1_12 rfl (Or.inr ⟨rfl, rfl, rfl⟩) (by first | assumption | (simp only [jM.tag_sI, jM.tag_sL, jM.tag_sR, jM.tag_fI, jM.tag_fL, jM.tag_fR]; assumption) | (simp [jM.tag_nw, jM.tag_sI, jM.tag_sL, jM.tag_sR, jM.tag_fI, jM.tag_fL, jM.tag_fR, *]; done)) (Or.inl rfl) rfl ?_
  first | refine J.aload_n (pc' := 16) rfl rfl rfl ?_ | refine J.aload_nN (pc' := 16) rfl rfl rfl ?_
  refine J.iconst (pc' := 17) rfl rfl ?_
  refine J.putI (pc' := 20) rfl fl_X1_18 rfl (Or.inl rfl) (by first | assumption | (simp only [jM.tag_sI, jM.tag_sL, jM.tag_sR, jM.tag_fI, jM.tag_fL, jM.tag_fR]; assumption) | (simp [jM.tag_nw, jM.tag_sI, jM.tag_sL, jM.tag_sR, jM.tag_fI, jM.tag_fL, jM.tag_fR, *]; done)) (Or.inl rfl) rfl ?_
  first | refine J.aload_n (pc' := 21) rfl rfl rfl ?_ | refine J.aload_nN (pc' := 21) rfl rfl rfl ?_
  refine J.iload_n (pc' := 22) rfl rfl rfl ?_
  refine J.putI (pc' := 25) rfl fl_X1_22 rfl (Or.inr ⟨rfl, rfl, rfl⟩) (by first | assumption | (simp only [jM.tag_sI, jM.tag_sL, jM.tag_sR, jM.tag_fI, jM.tag_fL, jM.tag_fR]; assumption) | (simp [jM.tag_nw, jM.tag_sI, jM.tag_sL, jM.tag_sR, jM.tag_fI, jM.tag_fL, jM.tag_fR, *]; done)) (Or.inl rfl) rfl ?_
  first | refine J.aload_n (pc' := 26) rfl rfl rfl ?_ | refine J.aload_nN (pc' := 26) rfl rfl rfl ?_
  first | refine J.aload_n (pc' := 27) rfl rfl rfl ?_ | refine J.aload_nN (pc' := 27) rfl rfl rfl ?_
  first | refine J.putR (pc' := 30) rfl fl_X1_25 rfl (Or.inr ⟨rfl, rfl, rfl⟩) (by first | assumption | (simp only [jM.tag_sI, jM.tag_sL, jM.tag_sR, jM.tag_fI, jM.tag_fL, jM.tag_fR]; assumption) | (simp [jM.tag_nw, jM.tag_sI, jM.tag_sL, jM.tag_sR, jM.tag_fI, jM.tag_fL, jM.tag_fR, *]; done)) (Or.inl rfl) rfl ?_ | refine J.putRN (pc' := 30) rfl fl_X1_25 rfl (Or.inr ⟨rfl, rfl, rfl⟩) (by first | assumption | (simp only [jM.tag_sI, jM.tag_sL, jM.tag_sR, jM.tag_fI, jM.tag_fL, jM.tag_fR]; assumption) | (simp [jM.tag_nw, jM.tag_sI, jM.tag_sL, jM.tag_sR, jM.tag_fI, jM.tag_fL, jM.tag_fR, *]; done)) (Or.inl rfl) rfl ?_
  first | refine J.aload_n (pc' := 31) rfl rfl rfl ?_ | refine J.aload_nN (pc' := 31) rfl rfl rfl ?_
  refine J.iload_n (pc' := 32) rfl rfl rfl ?_
  refine J.putI (pc' := 35) rfl fl_X1_29 rfl (Or.inr ⟨rfl, rfl, rfl⟩) (by first | assumption | (simp only [jM.tag_sI, jM.tag_sL, jM.tag_sR, jM.tag_fI, jM.tag_fL, jM.tag_fR]; assumption) | (simp [jM.tag_nw, jM.tag_sI, jM.tag_sL, jM.tag_sR, jM.tag_fI, jM.tag_fL, jM.tag_fR, *]; done)) (Or.inl rfl) rfl ?_
  refine J.vret rfl rfl (by first | omega | (exact R.r _ _) | (simp only [jM.len_sI, jM.len_sL, jM.len_sR, jM.len_fI, jM.len_fL, jM.len_fR]; omega) | (simp [jM.len_nw, jM.len_sI, jM.len_sL, jM.len_sR, jM.len_fI, jM.len_fL, jM.len_fR, *]; omega)) (by first | omega | (exact R.r _ _) | (simp only [jM.len_sI, jM.len_sL, jM.len_sR, jM.len_fI, jM.len_fL, jM.len_fR]; omega) | (simp [jM.len_nw, jM.len_sI, jM.len_sL, jM.len_sR, jM.len_fI, jM.len_fL, jM.len_fR, *]; omega)) ?_
  have F : Fr k (((((k.sR 5 a 3 (some q)).sI 5 a 4 (-1)).sI 5 a 0 n).sR 5 a 1 (some s)).sI 5 a 2 d) (fun b => b = a) := by
    refine Fr.stI (Fr.stR (Fr.stI (Fr.stI (Fr.stR Fr.rf ?_) ?_) ?_) ?_) ?_ <;> exact Or.inl rfl
  refine ⟨rfl, q, qf, g1.keptW F hne (Or.inr ?_), ?_, ?_, ?_, ?_, ?_, g2.trans F (fun b _ z => z.elim False.elim id), g3.st rfl⟩
  · exact (g2.len (by omega)).trans hK.2
  · rw [jM.R_sI, jM.R_sR, if_neg (by omega), jM.R_sI, jM.R_sI, jM.R_sR, if_pos ⟨rfl, rfl, rfl⟩]
  · rw [jM.I_sI, if_neg (by omega), jM.I_sR, jM.I_sI, if_neg (by omega), jM.I_sI, if_pos ⟨rfl, rfl, rfl⟩]
  · rw [jM.I_sI, if_neg (by omega), jM.I_sR, jM.I_sI, if_pos ⟨rfl, rfl, rfl⟩]
  · rw [jM.R_sI, jM.R_sR, if_pos ⟨rfl, rfl, rfl⟩]
  · rw [jM.I_sI, if_pos ⟨rfl, rfl, rfl⟩]
theorem cx_Heap {a : Nat} (ha : h.tag a = 8) (hK : h.tag (γ.K 0) = 34 ∧ h.len (γ.K 0) = 0) : CT γ mX4_init 4 1 3 [.ref a] h (fun r h' => r = none ∧ ∃ g, h.tag g = 0 ∧ isL γ h' g (γ.K 0) [] ∧ h'.R 8 a 0 = some g ∧ Fr h h' (fun b => b = a) ∧ Nt h h' [3]) X0 := by
  refine CT.of MX4_init (Nat.le_of_ble_eq_true rfl) ?_
  show J γ mX4_init 4 1 3 0 0 h 0 [(0, .ref a)] [] _ _
  first | refine J.aload_n (pc' := 1) rfl rfl rfl ?_ | refine J.aload_nN (pc' := 1) rfl rfl rfl ?_
  refine J.objI (pc' := 4) rfl (List.mem_of_getElem? (i := 216) (by decide +kernel)) jObj_i jObj_c (by omega) (Nat.le_of_ble_eq_true rfl) rfl ?_
  first | refine J.aload_n (pc' := 5) rfl rfl rfl ?_ | refine J.aload_nN (pc' := 5) rfl rfl rfl ?_
  refine J.new (pc' := 8) (t := 3) (N := 3) (n := 3) rfl ⟨by decide, by decide, _, rfl, rfl, List.mem_of_getElem? (i := 217) (by decide +kernel), List.mem_of_getElem? (i := 107) (by decide +kernel), List.mem_of_getElem? (i := 67) (by decide +kernel)⟩ (by first | omega | (exact R.r _ _) | (simp only [jM.len_sI, jM.len_sL, jM.len_sR, jM.len_fI, jM.len_fL, jM.len_fR]; omega) | (simp [jM.len_nw, jM.len_sI, jM.len_sL, jM.len_sR, jM.len_fI, jM.len_fL, jM.len_fR, *]; omega)) (by first | omega | (exact R.r _ _) | (simp only [jM.len_sI, jM.len_sL, jM.len_sR, jM.len_fI, jM.len_fL, jM.len_fR]; omega) | (simp [jM.len_nw, jM.len_sI, jM.len_sL, jM.len_sR, jM.len_fI, jM.len_fL, jM.len_fR, *]; omega)) rfl (fun q qf qb => ?_)
  refine J.dup (pc' := 9) rfl rfl rfl ?_
  refine J.callI (pc' := 12) rfl MJx4a65c_init_da8c8 ml_X4_11 iv_Jx4a65c_init_da8c8 ⟨rfl, rfl⟩ (ct_list_init (by rw [jM.tag_nw, if_pos rfl])) rfl rfl (Nat.le_of_ble_eq_true rfl) (by first | omega | (exact R.r _ _) | (simp only [jM.len_sI, jM.len_sL, jM.len_sR, jM.len_fI, jM.len_fL, jM.len_fR]; omega) | (simp [jM.len_nw, jM.len_sI, jM.len_sL, jM.len_sR, jM.len_fI, jM.len_fL, jM.len_fR, *]; omega)) (by first | omega | (exact R.r _ _) | (simp only [jM.len_sI, jM.len_sL, jM.len_sR, jM.len_fI, jM.len_fL, jM.len_fR]; omega) | (simp [jM.len_nw, jM.len_sI, jM.len_sL, jM.len_sR, jM.len_fI, jM.len_fL, jM.len_fR, *]; omega)) (by first | omega | (exact R.r _ _) | (simp only [jM.len_sI, jM.len_sL, jM.len_sR, jM.len_fI, jM.len_fL, jM.len_fR]; omega) | (simp [jM.len_nw, jM.len_sI, jM.len_sL, jM.len_sR, jM.len_fI, jM.len_fL, jM.len_fR, *]; omega)) rfl ?_
  rintro _ _ ⟨rfl, rfl⟩
  obtain ⟨g1, g2, g3⟩ := nwL (γ := γ) (n := 3) qf hK
  have ta := g2.tag ha (by omega)
  generalize ((h.nw q 3 3).sI 3 q 0 0).sR 3 q 1 (some (γ.K 0)) = k at g1 g2 g3 ta ⊢
  have tq := g1.1
  have hne : ¬ q = a := fun e => by rw [e] at tq; omega
  first | refine J.putR (pc' := 15) rfl fl_X4_12 rfl (Or.inr ⟨rfl, rfl, rfl⟩) (by first | assumption | (simp only [jM.tag_sI, jM.tag_sL, jM.tag_sR, jM.tag_fI, jM.tag_fL, jM.tag_fR]; assumption) | (simp [jM.tag_nw, jM.tag_sI, jM.tag_sL, jM.tag_sR, jM.tag_fI, jM.tag_fL, jM.tag_fR, *]; done)) (Or.inl rfl) rfl ?_ | refine J.putRN (pc' := 15) rfl fl_X4_12 rfl (Or.inr ⟨rfl, rfl, rfl⟩) (by first | assumption | (simp only [jM.tag_sI, jM.tag_sL, jM.tag_sR, jM.tag_fI, jM.tag_fL, jM.tag_fR]; assumption) | (simp [jM.tag_nw, jM.tag_sI, jM.tag_sL, jM.tag_sR, jM.tag_fI, jM.tag_fL, jM.tag_fR, *]; done)) (Or.inl rfl) rfl ?_
  refine J.vret rfl rfl (by first | omega | (exact R.r _ _) | (simp only [jM.len_sI, jM.len_sL, jM.len_sR, jM.len_fI, jM.len_fL, jM.len_fR]; omega) | (simp [jM.len_nw, jM.len_sI, jM.len_sL, jM.len_sR, jM.len_fI, jM.len_fL, jM.len_fR, *]; omega)) (by first | omega | (exact R.r _ _) | (simp only [jM.len_sI, jM.len_sL, jM.len_sR, jM.len_fI, jM.len_fL, jM.len_fR]; omega) | (simp [jM.len_nw, jM.len_sI, jM.len_sL, jM.len_sR, jM.len_fI, jM.len_fL, jM.len_fR, *]; omega)) ?_
  have F : Fr k (k.sR 8 a 0 (some q)) (fun b => b = a) := Fr.stR Fr.rf (Or.inl rfl)
  refine ⟨rfl, q, qf, g1.keptW F hne (Or.inr ((g2.len (by omega)).trans hK.2)), ?_, g2.trans F (fun b _ z => z.elim False.elim id), g3.st rfl⟩
  rw [jM.R_sR, if_pos ⟨rfl, rfl, rfl⟩]
theorem cx_Melt {a : Nat} {n : Int} (ha : h.tag a = 12) (hK : h.tag (γ.K 0) = 34 ∧ h.len (γ.K 0) = 0) : CT γ mX8_init 4 1 3 [.ref a, .int (jI n)] h (fun r h' => r = none ∧ ∃ g, h.tag g = 0 ∧ isL γ h' g (γ.K 0) [] ∧ h'.R 12 a 1 = some g ∧ h'.I 12 a 0 = n ∧ Fr h h' (fun b => b = a) ∧ Nt h h' [3]) X0 := by
  refine CT.of MX8_init (Nat.le_of_ble_eq_true rfl) ?_
  show J γ mX8_init 4 1 3 0 0 h 0 [(0, .ref a), (1, .int (jI n))] [] _ _
  first | refine J.aload_n (pc' := 1) rfl rfl rfl ?_ | refine J.aload_nN (pc' := 1) rfl rfl rfl ?_
  refine J.objI (pc' := 4) rfl (List.mem_of_getElem? (i := 1346) (by decide +kernel)) jObj_i jObj_c (by omega) (Nat.le_of_ble_eq_true rfl) rfl ?_
  first | refine J.aload_n (pc' := 5) rfl rfl rfl ?_ | refine J.aload_nN (pc' := 5) rfl rfl rfl ?_
  refine J.new (pc' := 8) (t := 3) (N := 3) (n := 3) rfl ⟨by decide, by decide, _, rfl, rfl, List.mem_of_getElem? (i := 1347) (by decide +kernel), List.mem_of_getElem? (i := 107) (by decide +kernel), List.mem_of_getElem? (i := 67) (by decide +kernel)⟩ (by first | omega | (exact R.r _ _) | (simp only [jM.len_sI, jM.len_sL, jM.len_sR, jM.len_fI, jM.len_fL, jM.len_fR]; omega) | (simp [jM.len_nw, jM.len_sI, jM.len_sL, jM.len_sR, jM.len_fI, jM.len_fL, jM.len_fR, *]; omega)) (by first | omega | (exact R.r _ _) | (simp only [jM.len_sI, jM.len_sL, jM.len_sR, jM.len_fI, jM.len_fL, jM.len_fR]; omega) | (simp [jM.len_nw, jM.len_sI, jM.len_sL, jM.len_sR, jM.len_fI, jM.len_fL, jM.len_fR, *]; omega)) rfl (fun q qf qb => ?_)
  refine J.dup (pc' := 9) rfl rfl rfl ?_
  refine J.callI (pc' := 12) rfl MJx4a65c_init_da8c8 ml_X8_9 iv_Jx4a65c_init_da8c8 ⟨rfl, rfl⟩ (ct_list_init (by rw [jM.tag_nw, if_pos rfl])) rfl rfl (Nat.le_of_ble_eq_true rfl) (by first | omega | (exact R.r _ _) | (simp only [jM.len_sI, jM.len_sL, jM.len_sR, jM.len_fI, jM.len_fL, jM.len_fR]; omega) | (simp [jM.len_nw, jM.len_sI, jM.len_sL, jM.len_sR, jM.len_fI, jM.len_fL, jM.len_fR, *]; omega)) (by first | omega | (exact R.r _ _) | (simp only [jM.len_sI, jM.len_sL, jM.len_sR, jM.len_fI, jM.len_fL, jM.len_fR]; omega) | (simp [jM.len_nw, jM.len_sI, jM.len_sL, jM.len_sR, jM.len_fI, jM.len_fL, jM.len_fR, *]; omega)) (by first | omega | (exact R.r _ _) | (simp only [jM.len_sI, jM.len_sL, jM.len_sR, jM.len_fI, jM.len_fL, jM.len_fR]; omega) | (simp [jM.len_nw, jM.len_sI, jM.len_sL, jM.len_sR, jM.len_fI, jM.len_fL, jM.len_fR, *]; omega)) rfl ?_
  rintro _ _ ⟨rfl, rfl⟩
  obtain ⟨g1, g2, g3⟩ := nwL (γ := γ) (n := 3) qf hK
  have ta := g2.tag ha (by omega)
  generalize ((h.nw q 3 3).sI 3 q 0 0).sR 3 q 1 (some (γ.K 0)) = k at g1 g2 g3 ta ⊢
  have tq := g1.1
  have hne : ¬ q = a := fun e => by rw [e] at tq; omega
  first | refine J.putR (pc' := 15) rfl fl_X8_10 rfl (Or.inr ⟨rfl, rfl, rfl⟩) (by first | assumption | (simp only [jM.tag_sI, jM.tag_sL, jM.tag_sR, jM.tag_fI, jM.tag_fL, jM.tag_fR]; assumption) | (simp [jM.tag_nw, jM.tag_sI, jM.tag_sL, jM.tag_sR, jM.tag_fI, jM.tag_fL, jM.tag_fR, *]; done)) (Or.inl rfl) rfl ?_ | refine J.putRN (pc' := 15) rfl fl_X8_10 rfl (Or.inr ⟨rfl, rfl, rfl⟩) (by first | assumption | (simp only [jM.tag_sI, jM.tag_sL, jM.tag_sR, jM.tag_fI, jM.tag_fL, jM.tag_fR]; assumption) | (simp [jM.tag_nw, jM.tag_sI, jM.tag_sL, jM.tag_sR, jM.tag_fI, jM.tag_fL, jM.tag_fR, *]; done)) (Or.inl rfl) rfl ?_
  first | refine J.aload_n (pc' := 16) rfl rfl rfl ?_ | refine J.aload_nN (pc' := 16) rfl rfl rfl ?_
  refine J.iload_n (pc' := 17) rfl rfl rfl ?_
  refine J.putI (pc' := 20) rfl fl_X8_16 rfl (Or.inr ⟨rfl, rfl, rfl⟩) (by first | assumption | (simp only [jM.tag_sI, jM.tag_sL, jM.tag_sR, jM.tag_fI, jM.tag_fL, jM.tag_fR]; assumption) | (simp [jM.tag_nw, jM.tag_sI, jM.tag_sL, jM.tag_sR, jM.tag_fI, jM.tag_fL, jM.tag_fR, *]; done)) (Or.inl rfl) rfl ?_
  refine J.vret rfl rfl (by first | omega | (exact R.r _ _) | (simp only [jM.len_sI, jM.len_sL, jM.len_sR, jM.len_fI, jM.len_fL, jM.len_fR]; omega) | (simp [jM.len_nw, jM.len_sI, jM.len_sL, jM.len_sR, jM.len_fI, jM.len_fL, jM.len_fR, *]; omega)) (by first | omega | (exact R.r _ _) | (simp only [jM.len_sI, jM.len_sL, jM.len_sR, jM.len_fI, jM.len_fL, jM.len_fR]; omega) | (simp [jM.len_nw, jM.len_sI, jM.len_sL, jM.len_sR, jM.len_fI, jM.len_fL, jM.len_fR, *]; omega)) ?_
  have F : Fr k ((k.sR 12 a 1 (some q)).sI 12 a 0 n) (fun b => b = a) := by
    refine Fr.stI (Fr.stR Fr.rf ?_) ?_ <;> exact Or.inl rfl
  refine ⟨rfl, q, qf, g1.keptW F hne (Or.inr ((g2.len (by omega)).trans hK.2)), ?_, ?_, g2.trans F (fun b _ z => z.elim False.elim id), g3.st rfl⟩
  · rw [jM.R_sI, jM.R_sR, if_pos ⟨rfl, rfl, rfl⟩]
  · rw [jM.I_sI, if_pos ⟨rfl, rfl, rfl⟩]
end CG

