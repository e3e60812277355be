theorem Nt.sub {h h' : jM} {T T' : List Nat} (F : Nt h h' T) (hT : ∀ x ∈ T, x ∈ T') : Nt h h' T' := fun b hb => (F b hb).imp id (hT _)
section MX
variable {γ : jG} {h : jM} {a e p : Nat} {ys : List Nat} {N C : Int → Int} {D : Int → Option Nat} {P : Int → Nat → Int}
/-- the parts of what is mixed -/
def mxP (N : Int → Int) (P : Int → Nat → Int) (n : Nat) : Nat → Int := fun j => if j % 2 = 0 then Sm (fun k => N k * P k j) n / Sm N n else -(-(Sm (fun k => N k * P k j) n) / Sm N n)
theorem cx_mixA {q : Nat} {c1 c2 : Nat} {Q : Option Value → jM → Prop} (hc1 : c1 ≤ 10) (hc2 : c2 ≤ 1000) (hp : h.tag p = 8) (hr : h.R 8 p 0 = some a) (hL : isLs γ h a e ys) (hY : lays h ys N D C P) (hS : 0 < Sm N ys.length ∧ Sm N ys.length ≤ 1000000) (hPS : ∀ j, j < 10 → 0 ≤ Sm (fun k => N k * P k j) ys.length ∧ Sm (fun k => N k * P k j) ys.length ≤ 2000000000) (qf : h.tag q = 0)
    (fin : ∀ k' : jM, isO k' q q (mxP N P ys.length) → Fr h k' (fun _ => False) → Nt h k' [14, 20] → ∀ lv, hasL lv [(0, .ref p), (1, .int (jI (Sm N ys.length))), (2, .ref q)] → J γ mX4_becomeOneLayer 7 10 1000 c1 c2 k' 72 lv [] Q X0) :
    ∀ (j i : Nat), i + j = 5 → ∀ (k : jM) (PP : Nat → Int), isO k q q PP → (∀ x, x < 2 * i → PP x = mxP N P ys.length x) → Fr h k (fun _ => False) → h.tag (pa k q) = 0 → Nt h k [14, 20] → ∀ lv, hasL lv [(0, .ref p), (1, .int (jI (Sm N ys.length))), (2, .ref q), (3, .int (jI (i : Int)))] → J γ mX4_becomeOneLayer 7 10 1000 c1 c2 k 18 lv [] Q X0 := by
  have hlen := hL.1.len
  intro j
  induction j with
  | zero =>
    intro i hi k PP b1 b2 b3 b4 b5 lv hlv
    refine J.lc hlv ?_
    refine J.iload_n (pc' := 19) rfl rfl rfl ?_
    refine J.iconst (pc' := 20) rfl rfl ?_
    refine J.icmp_ge (tgt := 72) (pc' := 23) rfl rfl rfl (by first | omega | (exact R.r _ _) | (simp only [jM.len_sI, jM.len_sL, jM.len_sR, jM.len_fI, jM.len_fL, jM.len_fR]; omega) | (simp [jM.len_nw, jM.len_sI, jM.len_sL, jM.len_sR, jM.len_fI, jM.len_fL, jM.len_fR, *]; omega)) (by first | omega | (exact R.r _ _) | (simp only [jM.len_sI, jM.len_sL, jM.len_sR, jM.len_fI, jM.len_fL, jM.len_fR]; omega) | (simp [jM.len_nw, jM.len_sI, jM.len_sL, jM.len_sR, jM.len_fI, jM.len_fL, jM.len_fR, *]; omega)) (fun c3 => ?_) (fun c3 => ?_)
    · exact fin k ⟨b1.1, b1.2.1, b1.2.2.1, fun x hx => by rw [b1.2.2.2 x hx]; exact b2 x (by omega)⟩ b3 b5 _ ⟨rfl, rfl, rfl, trivial⟩
    · omega
  | succ j ih =>
    intro i hi k PP b1 b2 b3 b4 b5 lv hlv
    have L1 : isL γ k a e ys := hL.1.keptW b3 id (Or.inl id)
    have Y1 : lays k ys N D C P := hY.kept b3 (fun _ _ _ _ _ => id)
    have tp : k.tag p = 8 := b3.tag hp (by omega)
    have rp : k.R 8 p 0 = some a := by rw [b3.R hp (by omega) id]; exact hr
    have tq := b1.1.1
    have ta := L1.1
    have s1 := hPS (2 * i) (by omega)
    have s2 := hPS (2 * i + 1) (by omega)
    have e1 : (2 * (i : Int)).toNat = 2 * i := by omega
    have e2 : (2 * (i : Int) + 1).toNat = 2 * i + 1 := by omega
    refine J.lc hlv ?_
    refine J.iload_n (pc' := 19) rfl rfl rfl ?_
    refine J.iconst (pc' := 20) rfl rfl ?_
    refine J.icmp_ge (tgt := 72) (pc' := 23) rfl rfl rfl (by first | omega | (exact R.r _ _) | (simp only [jM.len_sI, jM.len_sL, jM.len_sR, jM.len_fI, jM.len_fL, jM.len_fR]; omega) | (simp [jM.len_nw, jM.len_sI, jM.len_sL, jM.len_sR, jM.len_fI, jM.len_fL, jM.len_fR, *]; omega)) (by first | omega | (exact R.r _ _) | (simp only [jM.len_sI, jM.len_sL, jM.len_sR, jM.len_fI, jM.len_fL, jM.len_fR]; omega) | (simp [jM.len_nw, jM.len_sI, jM.len_sL, jM.len_sR, jM.len_fI, jM.len_fL, jM.len_fR, *]; omega)) (fun c3 => ?_) (fun c3 => ?_)
    · omega
    · first | refine J.aload_n (pc' := 24) rfl rfl rfl ?_ | refine J.aload_nN (pc' := 24) rfl rfl rfl ?_
      first | refine J.getR (pc' := 27) rfl fl_X4_12 rfl (by first | assumption | (simp only [jM.tag_sI, jM.tag_sL, jM.tag_sR, jM.tag_fI, jM.tag_fL, jM.tag_fR]; assumption) | (simp [jM.tag_nw, jM.tag_sI, jM.tag_sL, jM.tag_sR, jM.tag_fI, jM.tag_fL, jM.tag_fR, *]; done)) (by first | assumption | (simp only [jM.R_sI, jM.R_sL, jM.R_fI, jM.R_fL]; assumption) | (simp [jM.R_nw, jM.R_sR, jM.R_fR, jM.R_sI, jM.R_sL, jM.R_fI, jM.R_fL, *]; done)) rfl ?_ | refine J.getRN (pc' := 27) rfl fl_X4_12 rfl (by first | assumption | (simp only [jM.tag_sI, jM.tag_sL, jM.tag_sR, jM.tag_fI, jM.tag_fL, jM.tag_fR]; assumption) | (simp [jM.tag_nw, jM.tag_sI, jM.tag_sL, jM.tag_sR, jM.tag_fI, jM.tag_fL, jM.tag_fR, *]; done)) (by first | assumption | (simp only [jM.R_sI, jM.R_sL, jM.R_fI, jM.R_fL]; assumption) | (simp [jM.R_nw, jM.R_sR, jM.R_fR, jM.R_sI, jM.R_sL, jM.R_fI, jM.R_fL, *]; done)) rfl ?_
      refine J.iconst (pc' := 28) rfl rfl ?_
      refine J.iload_n (pc' := 29) rfl rfl rfl ?_
      refine J.imul (pc' := 30) rfl rfl ?_
      refine J.callSN (pc' := 33) rfl MX11_sumOf ml_X4_53 is_X11_sumOf (cx_sumOf (pl := 2 * (i : Int)) L1 Y1 (by omega)) rfl rfl (Nat.le_of_ble_eq_true rfl) (by first | omega | (exact R.r _ _) | (simp only [jM.len_sI, jM.len_sL, jM.len_sR, jM.len_fI, jM.len_fL, jM.len_fR]; omega) | (simp [jM.len_nw, jM.len_sI, jM.len_sL, jM.len_sR, jM.len_fI, jM.len_fL, jM.len_fR, *]; omega)) (by first | omega | (exact R.r _ _) | (simp only [jM.len_sI, jM.len_sL, jM.len_sR, jM.len_fI, jM.len_fL, jM.len_fR]; omega) | (simp [jM.len_nw, jM.len_sI, jM.len_sL, jM.len_sR, jM.len_fI, jM.len_fL, jM.len_fR, *]; omega)) (by first | omega | (exact R.r _ _) | (simp only [jM.len_sI, jM.len_sL, jM.len_sR, jM.len_fI, jM.len_fL, jM.len_fR]; omega) | (simp [jM.len_nw, jM.len_sI, jM.len_sL, jM.len_sR, jM.len_fI, jM.len_fL, jM.len_fR, *]; omega)) rfl ?_
      rintro _ k ⟨rfl, rfl⟩
      rw [e1]
      refine J.iload_n (pc' := 34) rfl rfl rfl ?_
      refine J.callSN (pc' := 37) rfl MX11_cut ml_X4_57 is_X11_cut (cx_cut (by constructor <;> omega) (by constructor <;> omega) hS.1) rfl rfl (Nat.le_of_ble_eq_true rfl) (by first | omega | (exact R.r _ _) | (simp only [jM.len_sI, jM.len_sL, jM.len_sR, jM.len_fI, jM.len_fL, jM.len_fR]; omega) | (simp [jM.len_nw, jM.len_sI, jM.len_sL, jM.len_sR, jM.len_fI, jM.len_fL, jM.len_fR, *]; omega)) (by first | omega | (exact R.r _ _) | (simp only [jM.len_sI, jM.len_sL, jM.len_sR, jM.len_fI, jM.len_fL, jM.len_fR]; omega) | (simp [jM.len_nw, jM.len_sI, jM.len_sL, jM.len_sR, jM.len_fI, jM.len_fL, jM.len_fR, *]; omega)) (by first | omega | (exact R.r _ _) | (simp only [jM.len_sI, jM.len_sL, jM.len_sR, jM.len_fI, jM.len_fL, jM.len_fR]; omega) | (simp [jM.len_nw, jM.len_sI, jM.len_sL, jM.len_sR, jM.len_fI, jM.len_fL, jM.len_fR, *]; omega)) rfl ?_
      rintro _ k ⟨rfl, rfl⟩
      refine J.istore (pc' := 39) rfl rfl (by decide) ?_
      refine J.lc (lv' := [(0, .ref p), (1, .int (jI (Sm N ys.length))), (2, .ref q), (3, .int (jI (i : Int))), (4, .int (jI (Sm (fun k => N k * P k (2 * i)) ys.length / Sm N ys.length)))]) (by repeat' (first | exact trivial | refine ⟨rfl, ?_⟩)) ?_
      first | refine J.aload_n (pc' := 40) rfl rfl rfl ?_ | refine J.aload_nN (pc' := 40) rfl rfl rfl ?_
      first | refine J.getR (pc' := 43) rfl fl_X4_12 rfl (by first | assumption | (simp only [jM.tag_sI, jM.tag_sL, jM.tag_sR, jM.tag_fI, jM.tag_fL, jM.tag_fR]; assumption) | (simp [jM.tag_nw, jM.tag_sI, jM.tag_sL, jM.tag_sR, jM.tag_fI, jM.tag_fL, jM.tag_fR, *]; done)) (by first | assumption | (simp only [jM.R_sI, jM.R_sL, jM.R_fI, jM.R_fL]; assumption) | (simp [jM.R_nw, jM.R_sR, jM.R_fR, jM.R_sI, jM.R_sL, jM.R_fI, jM.R_fL, *]; done)) rfl ?_ | refine J.getRN (pc' := 43) rfl fl_X4_12 rfl (by first | assumption | (simp only [jM.tag_sI, jM.tag_sL, jM.tag_sR, jM.tag_fI, jM.tag_fL, jM.tag_fR]; assumption) | (simp [jM.tag_nw, jM.tag_sI, jM.tag_sL, jM.tag_sR, jM.tag_fI, jM.tag_fL, jM.tag_fR, *]; done)) (by first | assumption | (simp only [jM.R_sI, jM.R_sL, jM.R_fI, jM.R_fL]; assumption) | (simp [jM.R_nw, jM.R_sR, jM.R_fR, jM.R_sI, jM.R_sL, jM.R_fI, jM.R_fL, *]; done)) rfl ?_
      refine J.iconst (pc' := 44) rfl rfl ?_
      refine J.iload_n (pc' := 45) rfl rfl rfl ?_
      refine J.imul (pc' := 46) rfl rfl ?_
      refine J.iconst (pc' := 47) rfl rfl ?_
      refine J.iadd (pc' := 48) rfl rfl ?_
      refine J.callSN (pc' := 51) rfl MX11_sumOf ml_X4_53 is_X11_sumOf (cx_sumOf (pl := 2 * (i : Int) + 1) L1 Y1 (by omega)) rfl rfl (Nat.le_of_ble_eq_true rfl) (by first | omega | (exact R.r _ _) | (simp only [jM.len_sI, jM.len_sL, jM.len_sR, jM.len_fI, jM.len_fL, jM.len_fR]; omega) | (simp [jM.len_nw, jM.len_sI, jM.len_sL, jM.len_sR, jM.len_fI, jM.len_fL, jM.len_fR, *]; omega)) (by first | omega | (exact R.r _ _) | (simp only [jM.len_sI, jM.len_sL, jM.len_sR, jM.len_fI, jM.len_fL, jM.len_fR]; omega) | (simp [jM.len_nw, jM.len_sI, jM.len_sL, jM.len_sR, jM.len_fI, jM.len_fL, jM.len_fR, *]; omega)) (by first | omega | (exact R.r _ _) | (simp only [jM.len_sI, jM.len_sL, jM.len_sR, jM.len_fI, jM.len_fL, jM.len_fR]; omega) | (simp [jM.len_nw, jM.len_sI, jM.len_sL, jM.len_sR, jM.len_fI, jM.len_fL, jM.len_fR, *]; omega)) rfl ?_
      rintro _ k ⟨rfl, rfl⟩
      rw [e2]
      refine J.iload_n (pc' := 52) rfl rfl rfl ?_
      refine J.callSN (pc' := 55) rfl MX11_roundedUp ml_X4_61 is_X11_roundedUp (cx_up (by constructor <;> omega) (by constructor <;> omega) (by constructor <;> omega) hS.1) rfl rfl (Nat.le_of_ble_eq_true rfl) (by first | omega | (exact R.r _ _) | (simp only [jM.len_sI, jM.len_sL, jM.len_sR, jM.len_fI, jM.len_fL, jM.len_fR]; omega) | (simp [jM.len_nw, jM.len_sI, jM.len_sL, jM.len_sR, jM.len_fI, jM.len_fL, jM.len_fR, *]; omega)) (by first | omega | (exact R.r _ _) | (simp only [jM.len_sI, jM.len_sL, jM.len_sR, jM.len_fI, jM.len_fL, jM.len_fR]; omega) | (simp [jM.len_nw, jM.len_sI, jM.len_sL, jM.len_sR, jM.len_fI, jM.len_fL, jM.len_fR, *]; omega)) (by first | omega | (exact R.r _ _) | (simp only [jM.len_sI, jM.len_sL, jM.len_sR, jM.len_fI, jM.len_fL, jM.len_fR]; omega) | (simp [jM.len_nw, jM.len_sI, jM.len_sL, jM.len_sR, jM.len_fI, jM.len_fL, jM.len_fR, *]; omega)) rfl ?_
      rintro _ k ⟨rfl, rfl⟩
      refine J.istore (pc' := 57) rfl rfl (by decide) ?_
      refine J.lc (lv' := [(0, .ref p), (1, .int (jI (Sm N ys.length))), (2, .ref q), (3, .int (jI (i : Int))), (4, .int (jI (Sm (fun k => N k * P k (2 * i)) ys.length / Sm N ys.length))), (5, .int (jI (-(-(Sm (fun k => N k * P k (2 * i + 1)) ys.length) / Sm N ys.length))))]) (by repeat' (first | exact trivial | refine ⟨rfl, ?_⟩)) ?_
      first | refine J.aload_n (pc' := 58) rfl rfl rfl ?_ | refine J.aload_nN (pc' := 58) rfl rfl rfl ?_
      refine J.iload_n (pc' := 59) rfl rfl rfl ?_
      refine J.iload (pc' := 61) rfl rfl rfl ?_
      refine J.iload (pc' := 63) rfl rfl rfl ?_
      refine J.callV (pc' := 66) (t := 14) rfl MX10_put ml_X4_64 iv_X10_put (by decide) ⟨_, rfl, rfl⟩ (by first | assumption | (simp only [jM.tag_sI, jM.tag_sL, jM.tag_sR, jM.tag_fI, jM.tag_fL, jM.tag_fR]; assumption) | (simp [jM.tag_nw, jM.tag_sI, jM.tag_sL, jM.tag_sR, jM.tag_fI, jM.tag_fL, jM.tag_fR, *]; done)) (cs_put b1.1 (by omega) (by omega)) rfl rfl (Nat.le_of_ble_eq_true rfl) (by first | omega | (exact R.r _ _) | (simp only [jM.len_sI, jM.len_sL, jM.len_sR, jM.len_fI, jM.len_fL, jM.len_fR]; omega) | (simp [jM.len_nw, jM.len_sI, jM.len_sL, jM.len_sR, jM.len_fI, jM.len_fL, jM.len_fR, *]; omega)) (by first | omega | (exact R.r _ _) | (simp only [jM.len_sI, jM.len_sL, jM.len_sR, jM.len_fI, jM.len_fL, jM.len_fR]; omega) | (simp [jM.len_nw, jM.len_sI, jM.len_sL, jM.len_sR, jM.len_fI, jM.len_fL, jM.len_fR, *]; omega)) (by first | omega | (exact R.r _ _) | (simp only [jM.len_sI, jM.len_sL, jM.len_sR, jM.len_fI, jM.len_fL, jM.len_fR]; omega) | (simp [jM.len_nw, jM.len_sI, jM.len_sL, jM.len_sR, jM.len_fI, jM.len_fL, jM.len_fR, *]; omega)) rfl rfl ?_ ?_
      · exact fun _ _ h => h
      rintro _ k2 ⟨rfl, q1⟩
      have q0 := q1
      obtain ⟨w1, w2, w3, w4, w5, w6, w7, w8⟩ := q0
      have ep : pa k2 q = pa k q := by unfold pa; rw [w4]
      refine J.iinc (pc' := 69) rfl rfl rfl (by decide) ?_
      refine J.goto (tgt := 18) rfl rfl ?_
      refine ih (i + 1) (by omega) k2 (upS PP i (Sm (fun k => N k * P k (2 * i)) ys.length / Sm N ys.length) (-(-(Sm (fun k => N k * P k (2 * i + 1)) ys.length) / Sm N ys.length))) (b1.spW q1 (upS_cg b1.2.2.2)) (fun x hx => ?_) (b3.trans w6 (fun b hb q9 => ?_)) (by rw [ep]; exact b4) (b5.st w1) _ ⟨rfl, rfl, rfl, rfl, trivial⟩
      · unfold upS
        by_cases z1 : x = 2 * i + 1
        · subst z1
          rw [if_pos (by omega)]
          unfold mxP
          rw [if_neg (by omega)]
        · rw [if_neg (by omega)]
          by_cases z2 : x = 2 * i
          · subst z2
            rw [if_pos (by omega)]
            unfold mxP
            rw [if_pos (by omega)]
          · rw [if_neg (by omega)]
            exact b2 x (by omega)
      · rcases q9 with q9 | q9
        · exact q9
        · rw [q9] at hb; exact hb b4
def mxK (N C : Int → Int) (n : Nat) : Int := -(-(Sm (fun k => N k * C k) n) / Sm N n)
/-- what mixing leaves: one layer z -/
def mixQ (γ : jG) (h : jM) (a e : Nat) (n : Nat) (N C : Int → Int) (P : Int → Nat → Int) : Option Value → jM → Prop := fun r h' => r = none ∧ ∃ e' z, isLs γ h' a e' [z] ∧ isY h' z (Sm N n) none (mxK N C n) (mxP N P n) ∧ h.tag z = 0 ∧ Fr h h' (lW h a e) ∧ Nt h h' [10, 14, 20, 34] ∧ (e' = e ∨ h.tag e' = 0)
theorem cx_mixB {k : jM} {q : Nat} {c1 c2 : Nat} (hc1 : c1 ≤ 2) (hc2 : c2 ≤ 100) (hp : h.tag p = 8) (hr : h.R 8 p 0 = some a) (hL : isLs γ h a e ys) (hS : 0 < Sm N ys.length ∧ Sm N ys.length ≤ 1000000) (hCS : 0 ≤ Sm (fun k => N k * C k) ys.length ∧ Sm (fun k => N k * C k) ys.length ≤ 2000000000) (hK : γ.K 0 < γ.base) (b1 : isO k q q (mxP N P ys.length)) (b3 : Fr h k (fun _ => False)) (b5 : Nt h k [14, 20]) : ∀ lv, hasL lv [(0, .ref p), (1, .int (jI (Sm N ys.length))), (2, .ref q), (3, .int (jI (Sm (fun k => N k * C k) ys.length)))] → J γ mX4_becomeOneLayer 7 10 1000 c1 c2 k 129 lv [] (mixQ γ h a e ys.length N C P) X0 := by
  intro lv hlv
  have L1 : isL γ k a e ys := hL.1.keptW b3 id (Or.inl id)
  have tp : k.tag p = 8 := b3.tag hp (by omega)
  have rp : k.R 8 p 0 = some a := by rw [b3.R hp (by omega) id]; exact hr
  have ta := L1.1
  have te := L1.2.2.1
  refine J.lc hlv ?_
  first | refine J.aload_n (pc' := 130) rfl rfl rfl ?_ | refine J.aload_nN (pc' := 130) rfl rfl rfl ?_
  first | refine J.getR (pc' := 133) rfl fl_X4_12 rfl (by first | assumption | (simp only [jM.tag_sI, jM.tag_sL, jM.tag_sR, jM.tag_fI, jM.tag_fL, jM.tag_fR]; assumption) | (simp [jM.tag_nw, jM.tag_sI, jM.tag_sL, jM.tag_sR, jM.tag_fI, jM.tag_fL, jM.tag_fR, *]; done)) (by first | assumption | (simp only [jM.R_sI, jM.R_sL, jM.R_fI, jM.R_fL]; assumption) | (simp [jM.R_nw, jM.R_sR, jM.R_fR, jM.R_sI, jM.R_sL, jM.R_fI, jM.R_fL, *]; done)) rfl ?_ | refine J.getRN (pc' := 133) rfl fl_X4_12 rfl (by first | assumption | (simp only [jM.tag_sI, jM.tag_sL, jM.tag_sR, jM.tag_fI, jM.tag_fL, jM.tag_fR]; assumption) | (simp [jM.tag_nw, jM.tag_sI, jM.tag_sL, jM.tag_sR, jM.tag_fI, jM.tag_fL, jM.tag_fR, *]; done)) (by first | assumption | (simp only [jM.R_sI, jM.R_sL, jM.R_fI, jM.R_fL]; assumption) | (simp [jM.R_nw, jM.R_sR, jM.R_fR, jM.R_sI, jM.R_sL, jM.R_fI, jM.R_fL, *]; done)) rfl ?_
  refine J.callV (pc' := 136) (t := 3) rfl MJx4a65c_clear_da8c8 ml_X4_71 iv_Jx4a65c_clear_da8c8 (by decide) ⟨_, rfl, rfl⟩ (by first | assumption | (simp only [jM.tag_sI, jM.tag_sL, jM.tag_sR, jM.tag_fI, jM.tag_fL, jM.tag_fR]; assumption) | (simp [jM.tag_nw, jM.tag_sI, jM.tag_sL, jM.tag_sR, jM.tag_fI, jM.tag_fL, jM.tag_fR, *]; done)) (cl_clear L1) rfl rfl (Nat.le_of_ble_eq_true rfl) (by first | omega | (exact R.r _ _) | (simp only [jM.len_sI, jM.len_sL, jM.len_sR, jM.len_fI, jM.len_fL, jM.len_fR]; omega) | (simp [jM.len_nw, jM.len_sI, jM.len_sL, jM.len_sR, jM.len_fI, jM.len_fL, jM.len_fR, *]; omega)) (by first | omega | (exact R.r _ _) | (simp only [jM.len_sI, jM.len_sL, jM.len_sR, jM.len_fI, jM.len_fL, jM.len_fR]; omega) | (simp [jM.len_nw, jM.len_sI, jM.len_sL, jM.len_sR, jM.len_fI, jM.len_fL, jM.len_fR, *]; omega)) (by first | omega | (exact R.r _ _) | (simp only [jM.len_sI, jM.len_sL, jM.len_sR, jM.len_fI, jM.len_fL, jM.len_fR]; omega) | (simp [jM.len_nw, jM.len_sI, jM.len_sL, jM.len_sR, jM.len_fI, jM.len_fL, jM.len_fR, *]; omega)) rfl rfl ?_ ?_
  · exact fun _ _ h => h
  rintro _ k1 ⟨rfl, g1, g2, g3⟩
  have F1 : Fr h k1 (lW h a e) := b3.trans g2 (fun b hb q9 => by
    rcases q9 with q9 | q9 | q9
    · exact q9.elim
    · exact Or.inl q9
    · exact Or.inr ⟨q9.1, by rw [← b3.len (by rw [hL.1.2.2.1]; omega)]; exact q9.2⟩)
  have N1 : Nt h k1 [10, 14, 20, 34] := (b5.sub (by simp)).trans g3 g2 (by simp)
  have nwA : ∀ z, (k.tag z = 8 ∨ k.tag z = 14 ∨ k.tag z = 20) → ¬ lW k a e z := fun z hz q => by
    rcases q with q | q
    · rw [q] at hz; omega
    · rw [q.1] at hz; omega
  have O1 : isO k1 q q (mxP N P ys.length) := b1.kept2 g2 (nwA q (Or.inr (Or.inl b1.1.1))) (nwA _ (Or.inr (Or.inr b1.1.2.2.1)))
  have tp1 : k1.tag p = 8 := g2.tag tp (by omega)
  have rp1 : k1.R 8 p 0 = some a := by rw [g2.R tp (by omega) (nwA p (Or.inl tp))]; exact rp
  first | refine J.aload_n (pc' := 137) rfl rfl rfl ?_ | refine J.aload_nN (pc' := 137) rfl rfl rfl ?_
  first | refine J.getR (pc' := 140) rfl fl_X4_12 rfl (by first | assumption | (simp only [jM.tag_sI, jM.tag_sL, jM.tag_sR, jM.tag_fI, jM.tag_fL, jM.tag_fR]; assumption) | (simp [jM.tag_nw, jM.tag_sI, jM.tag_sL, jM.tag_sR, jM.tag_fI, jM.tag_fL, jM.tag_fR, *]; done)) (by first | assumption | (simp only [jM.R_sI, jM.R_sL, jM.R_fI, jM.R_fL]; assumption) | (simp [jM.R_nw, jM.R_sR, jM.R_fR, jM.R_sI, jM.R_sL, jM.R_fI, jM.R_fL, *]; done)) rfl ?_ | refine J.getRN (pc' := 140) rfl fl_X4_12 rfl (by first | assumption | (simp only [jM.tag_sI, jM.tag_sL, jM.tag_sR, jM.tag_fI, jM.tag_fL, jM.tag_fR]; assumption) | (simp [jM.tag_nw, jM.tag_sI, jM.tag_sL, jM.tag_sR, jM.tag_fI, jM.tag_fL, jM.tag_fR, *]; done)) (by first | assumption | (simp only [jM.R_sI, jM.R_sL, jM.R_fI, jM.R_fL]; assumption) | (simp [jM.R_nw, jM.R_sR, jM.R_fR, jM.R_sI, jM.R_sL, jM.R_fI, jM.R_fL, *]; done)) rfl ?_
  refine J.new (pc' := 143) (t := 10) (N := 4) (n := 4) rfl ⟨by decide, by decide, _, rfl, rfl, List.mem_of_getElem? (i := 1169) (by decide +kernel), List.mem_of_getElem? (i := 1086) (by decide +kernel), List.mem_of_getElem? (i := 96) (by decide +kernel)⟩ (by first | omega | (exact R.r _ _) | (simp only [jM.len_sI, jM.len_sL, jM.len_sR, jM.len_fI, jM.len_fL, jM.len_fR]; omega) | (simp [jM.len_nw, jM.len_sI, jM.len_sL, jM.len_sR, jM.len_fI, jM.len_fL, jM.len_fR, *]; omega)) (by first | omega | (exact R.r _ _) | (simp only [jM.len_sI, jM.len_sL, jM.len_sR, jM.len_fI, jM.len_fL, jM.len_fR]; omega) | (simp [jM.len_nw, jM.len_sI, jM.len_sL, jM.len_sR, jM.len_fI, jM.len_fL, jM.len_fR, *]; omega)) rfl (fun z zf zb => ?_)
  refine J.own z 0 (some z) (J.own z 1 (some a) ?_)
  have F2 : Fr k1 (((k1.nw z 10 4).sR 0 z 0 (some z)).sR 0 z 1 (some a)) (fun _ => False) := Fr.stH (Fr.stO (Fr.nw (by decide) zf) zf) (Or.inr zf)
  have N2 : Nt k1 (((k1.nw z 10 4).sR 0 z 0 (some z)).sR 0 z 1 (some a)) [10] := (Nt.stN (n := 4) (q := z) (t := 10) Nt.rf (by simp)).st rfl
  have tz : (((k1.nw z 10 4).sR 0 z 0 (some z)).sR 0 z 1 (some a)).tag z = 10 := by rw [jM.tag_sR, jM.tag_sR, jM.tag_nw, if_pos rfl]
  have oz : ow (((k1.nw z 10 4).sR 0 z 0 (some z)).sR 0 z 1 (some a)) z = some z := by show (((k1.nw z 10 4).sR 0 z 0 (some z)).sR 0 z 1 (some a)).R 0 z 0 = _; rw [jM.R_sR, if_neg (by omega), jM.R_sR, if_pos ⟨rfl, rfl, rfl⟩]
  have hz : ho (((k1.nw z 10 4).sR 0 z 0 (some z)).sR 0 z 1 (some a)) z = some a := by show (((k1.nw z 10 4).sR 0 z 0 (some z)).sR 0 z 1 (some a)).R 0 z 1 = _; rw [jM.R_sR, if_pos ⟨rfl, rfl, rfl⟩]
  have O2 := O1.kept2 F2 id id
  have L2 := g1.keptW F2 id (Or.inl id)
  have F12 : Fr h (((k1.nw z 10 4).sR 0 z 0 (some z)).sR 0 z 1 (some a)) (lW h a e) := F1.trans F2 (fun b _ q9 => q9.elim id False.elim)
  have N12 : Nt h (((k1.nw z 10 4).sR 0 z 0 (some z)).sR 0 z 1 (some a)) [10, 14, 20, 34] := N1.trans N2 F2 (by simp)
  have zf0 : h.tag z = 0 := F1.free zf
  generalize ((k1.nw z 10 4).sR 0 z 0 (some z)).sR 0 z 1 (some a) = k2 at F12 N12 tz oz hz O2 L2 ⊢
  refine J.dup (pc' := 144) rfl rfl rfl ?_
  refine J.iload_n (pc' := 145) rfl rfl rfl ?_
  refine J.null (pc' := 146) rfl rfl ?_
  refine J.iload_n (pc' := 147) rfl rfl rfl ?_
  refine J.iload_n (pc' := 148) rfl rfl rfl ?_
  refine J.callSN (pc' := 151) rfl MX11_roundedUp ml_X4_61 is_X11_roundedUp (cx_up (by constructor <;> omega) (by constructor <;> omega) (by constructor <;> omega) hS.1) rfl rfl (Nat.le_of_ble_eq_true rfl) (by first | omega | (exact R.r _ _) | (simp only [jM.len_sI, jM.len_sL, jM.len_sR, jM.len_fI, jM.len_fL, jM.len_fR]; omega) | (simp [jM.len_nw, jM.len_sI, jM.len_sL, jM.len_sR, jM.len_fI, jM.len_fL, jM.len_fR, *]; omega)) (by first | omega | (exact R.r _ _) | (simp only [jM.len_sI, jM.len_sL, jM.len_sR, jM.len_fI, jM.len_fL, jM.len_fR]; omega) | (simp [jM.len_nw, jM.len_sI, jM.len_sL, jM.len_sR, jM.len_fI, jM.len_fL, jM.len_fR, *]; omega)) (by first | omega | (exact R.r _ _) | (simp only [jM.len_sI, jM.len_sL, jM.len_sR, jM.len_fI, jM.len_fL, jM.len_fR]; omega) | (simp [jM.len_nw, jM.len_sI, jM.len_sL, jM.len_sR, jM.len_fI, jM.len_fL, jM.len_fR, *]; omega)) rfl ?_
  rintro _ k2 ⟨rfl, rfl⟩
  first | refine J.aload_n (pc' := 152) rfl rfl rfl ?_ | refine J.aload_nN (pc' := 152) rfl rfl rfl ?_
  refine J.callI (pc' := 155) rfl MX6_init ml_X4_74 iv_X6_init ⟨rfl, rfl⟩ (cl_init (ld := none) tz O2) rfl rfl (Nat.le_of_ble_eq_true rfl) (by first | omega | (exact R.r _ _) | (simp only [jM.len_sI, jM.len_sL, jM.len_sR, jM.len_fI, jM.len_fL, jM.len_fR]; omega) | (simp [jM.len_nw, jM.len_sI, jM.len_sL, jM.len_sR, jM.len_fI, jM.len_fL, jM.len_fR, *]; omega)) (by first | omega | (exact R.r _ _) | (simp only [jM.len_sI, jM.len_sL, jM.len_sR, jM.len_fI, jM.len_fL, jM.len_fR]; omega) | (simp [jM.len_nw, jM.len_sI, jM.len_sL, jM.len_sR, jM.len_fI, jM.len_fL, jM.len_fR, *]; omega)) (by first | omega | (exact R.r _ _) | (simp only [jM.len_sI, jM.len_sL, jM.len_sR, jM.len_fI, jM.len_fL, jM.len_fR]; omega) | (simp [jM.len_nw, jM.len_sI, jM.len_sL, jM.len_sR, jM.len_fI, jM.len_fL, jM.len_fR, *]; omega)) rfl ?_
  rintro _ k3 ⟨rfl, s2, f1, f2, f3, f4, f5, f6, f7, f8⟩
  have haz : ¬ a = z := fun q9 => by have := L2.1; rw [q9, tz] at this; omega
  have hez : ¬ e = z := fun q9 => by have := L2.2.2.1; rw [q9, tz] at this; omega
  have L3 := L2.keptW f7 haz (Or.inl hez)
  have Y3 : isY k3 z (Sm N ys.length) none (mxK N C ys.length) (mxP N P ys.length) := ⟨f7.tag tz (by omega), by rw [f7.ow (by omega)]; exact oz, f5, f4, f6, s2, f3, f2⟩
  refine J.own z 1 (some a) ?_
  have G : Fr k3 (k3.sR 0 z 1 (some a)) (fun u => u = z) := Fr.stH Fr.rf (Or.inl rfl)
  have Y4 : isY (k3.sR 0 z 1 (some a)) z (Sm N ys.length) none (mxK N C ys.length) (mxP N P ys.length) := by
    obtain ⟨c1, c0, c2, c3, c4, s, c5, c6⟩ := Y3
    refine ⟨c1, ?_, c2, ?_, c4, s, ?_, c6.kept1 G (by omega)⟩
    · show (k3.sR 0 z 1 (some a)).R 0 z 0 = _
      rw [jM.R_sR, if_neg (by omega)]; exact c0
    · rw [jM.R_sR, if_neg (by omega)]; exact c3
    · rw [jM.R_sR, if_neg (by omega)]; exact c5
  have L4 := L3.keptW G haz (Or.inl hez)
  have hz4 : ho (k3.sR 0 z 1 (some a)) z = some a := by show (k3.sR 0 z 1 (some a)).R 0 z 1 = _; rw [jM.R_sR, if_pos ⟨rfl, rfl, rfl⟩]
  have F3 : Fr h (k3.sR 0 z 1 (some a)) (lW h a e) := (F12.trans f7 (W := lW h a e) (fun b hb q9 => by
    rcases q9 with q9 | q9
    · exact q9
    · rw [q9] at hb; exact absurd zf0 hb)).trans G (fun b hb q9 => by
    rcases q9 with q9 | q9
    · exact q9
    · rw [q9] at hb; exact absurd zf0 hb)
  have N3 : Nt h (k3.sR 0 z 1 (some a)) [10, 14, 20, 34] := (N12.trans f8 f7 (by simp)).st rfl
  generalize k3.sR 0 z 1 (some a) = k4 at Y4 L4 hz4 F3 N3 ⊢
  have ta4 := L4.1
  have tz4 := Y4.1
  refine J.callV (pc' := 158) (t := 3) rfl MJx4a65c_add_9ea2d ml_X4_39 iv_Jx4a65c_add_9ea2d (by decide) ⟨_, rfl, rfl⟩ (by first | assumption | (simp only [jM.tag_sI, jM.tag_sL, jM.tag_sR, jM.tag_fI, jM.tag_fL, jM.tag_fR]; assumption) | (simp [jM.tag_nw, jM.tag_sI, jM.tag_sL, jM.tag_sR, jM.tag_fI, jM.tag_fL, jM.tag_fR, *]; done)) (cl_add (x := z) L4 (fun u hu => by simp at hu) (by simp) (by rw [tz4]; rfl) hK) rfl rfl (Nat.le_of_ble_eq_true rfl) (by first | omega | (exact R.r _ _) | (simp only [jM.len_sI, jM.len_sL, jM.len_sR, jM.len_fI, jM.len_fL, jM.len_fR]; omega) | (simp [jM.len_nw, jM.len_sI, jM.len_sL, jM.len_sR, jM.len_fI, jM.len_fL, jM.len_fR, *]; omega)) (by first | omega | (exact R.r _ _) | (simp only [jM.len_sI, jM.len_sL, jM.len_sR, jM.len_fI, jM.len_fL, jM.len_fR]; omega) | (simp [jM.len_nw, jM.len_sI, jM.len_sL, jM.len_sR, jM.len_fI, jM.len_fL, jM.len_fR, *]; omega)) (by first | omega | (exact R.r _ _) | (simp only [jM.len_sI, jM.len_sL, jM.len_sR, jM.len_fI, jM.len_fL, jM.len_fR]; omega) | (simp [jM.len_nw, jM.len_sI, jM.len_sL, jM.len_sR, jM.len_fI, jM.len_fL, jM.len_fR, *]; omega)) rfl rfl ?_ ?_
  · exact fun _ _ h => h
  rintro _ k5 ⟨rfl, d'', r1, r2, r3, r4⟩
  have nwB : ∀ u, (k4.tag u = 10 ∨ k4.tag u = 14 ∨ k4.tag u = 20) → ¬ lW k4 a e u := fun u hu q => by
    have te4 := L4.2.2.1
    rcases q with q | q
    · rw [q] at hu; omega
    · rw [q.1] at hu; omega
  refine J.pop (pc' := 159) rfl rfl rfl ?_
  refine J.vret rfl rfl (by first | omega | (exact R.r _ _) | (simp only [jM.len_sI, jM.len_sL, jM.len_sR, jM.len_fI, jM.len_fL, jM.len_fR]; omega) | (simp [jM.len_nw, jM.len_sI, jM.len_sL, jM.len_sR, jM.len_fI, jM.len_fL, jM.len_fR, *]; omega)) (by first | omega | (exact R.r _ _) | (simp only [jM.len_sI, jM.len_sL, jM.len_sR, jM.len_fI, jM.len_fL, jM.len_fR]; omega) | (simp [jM.len_nw, jM.len_sI, jM.len_sL, jM.len_sR, jM.len_fI, jM.len_fL, jM.len_fR, *]; omega)) ?_
  refine ⟨rfl, d'', z, ⟨r1, by simp, fun u hu => ?_⟩, Y4.keptT r3 (fun c hc _ => nwB c hc), zf0, F3.trans r3 (fun b hb q9 => ?_), N3.trans r4 r3 (by simp), ?_⟩
  · simp at hu
    rw [hu, r3.ho (by omega) (nwB z (Or.inl tz4))]
    exact hz4
  · rcases q9 with q9 | q9 | q9
    · exact q9
    · exact Or.inl q9
    · exact Or.inr ⟨q9.1, by rw [← F3.len (by rw [hL.1.2.2.1]; omega)]; exact q9.2⟩
  · rcases r2 with r2 | r2
    · exact Or.inl r2
    · exact Or.inr (F3.free r2.1)
theorem cx_mix (hp : h.tag p = 8) (hr : h.R 8 p 0 = some a) (hL : isLs γ h a e ys) (hY : lays h ys N D C P) (hS : 0 < Sm N ys.length ∧ Sm N ys.length ≤ 1000000) (hPS : ∀ j, j < 10 → 0 ≤ Sm (fun k => N k * P k j) ys.length ∧ Sm (fun k => N k * P k j) ys.length ≤ 2000000000) (hCS : 0 ≤ Sm (fun k => N k * C k) ys.length ∧ Sm (fun k => N k * C k) ys.length ≤ 2000000000) (hK : γ.K 0 < γ.base) : CT γ mX4_becomeOneLayer 7 10 1000 [.ref p] h (mixQ γ h a e ys.length N C P) X0 := by
  have hlen := hL.1.len
  have ta := hL.1.1
  refine CT.of MX4_becomeOneLayer (Nat.le_of_ble_eq_true rfl) ?_
  show J γ mX4_becomeOneLayer 7 10 1000 0 0 h 0 [(0, .ref p)] [] _ _
  first | refine J.aload_n (pc' := 1) rfl rfl rfl ?_ | refine J.aload_nN (pc' := 1) rfl rfl rfl ?_
  first | refine J.getR (pc' := 4) rfl fl_X4_12 rfl (by first | assumption | (simp only [jM.tag_sI, jM.tag_sL, jM.tag_sR, jM.tag_fI, jM.tag_fL, jM.tag_fR]; assumption) | (simp [jM.tag_nw, jM.tag_sI, jM.tag_sL, jM.tag_sR, jM.tag_fI, jM.tag_fL, jM.tag_fR, *]; done)) (by first | assumption | (simp only [jM.R_sI, jM.R_sL, jM.R_fI, jM.R_fL]; assumption) | (simp [jM.R_nw, jM.R_sR, jM.R_fR, jM.R_sI, jM.R_sL, jM.R_fI, jM.R_fL, *]; done)) rfl ?_ | refine J.getRN (pc' := 4) rfl fl_X4_12 rfl (by first | assumption | (simp only [jM.tag_sI, jM.tag_sL, jM.tag_sR, jM.tag_fI, jM.tag_fL, jM.tag_fR]; assumption) | (simp [jM.tag_nw, jM.tag_sI, jM.tag_sL, jM.tag_sR, jM.tag_fI, jM.tag_fL, jM.tag_fR, *]; done)) (by first | assumption | (simp only [jM.R_sI, jM.R_sL, jM.R_fI, jM.R_fL]; assumption) | (simp [jM.R_nw, jM.R_sR, jM.R_fR, jM.R_sI, jM.R_sL, jM.R_fI, jM.R_fL, *]; done)) rfl ?_
  refine J.callSN (pc' := 7) rfl MX11_tonsOf ml_X4_46 is_X11_tonsOf (cx_tonsOf hL.1 hY) rfl rfl (Nat.le_of_ble_eq_true rfl) (by first | omega | (exact R.r _ _) | (simp only [jM.len_sI, jM.len_sL, jM.len_sR, jM.len_fI, jM.len_fL, jM.len_fR]; omega) | (simp [jM.len_nw, jM.len_sI, jM.len_sL, jM.len_sR, jM.len_fI, jM.len_fL, jM.len_fR, *]; omega)) (by first | omega | (exact R.r _ _) | (simp only [jM.len_sI, jM.len_sL, jM.len_sR, jM.len_fI, jM.len_fL, jM.len_fR]; omega) | (simp [jM.len_nw, jM.len_sI, jM.len_sL, jM.len_sR, jM.len_fI, jM.len_fL, jM.len_fR, *]; omega)) (by first | omega | (exact R.r _ _) | (simp only [jM.len_sI, jM.len_sL, jM.len_sR, jM.len_fI, jM.len_fL, jM.len_fR]; omega) | (simp [jM.len_nw, jM.len_sI, jM.len_sL, jM.len_sR, jM.len_fI, jM.len_fL, jM.len_fR, *]; omega)) rfl ?_
  rintro _ h ⟨rfl, rfl⟩
  refine J.istore_n (pc' := 8) rfl rfl (by decide) ?_
  refine J.new (pc' := 11) (t := 14) (N := 1) (n := 1) rfl ⟨by decide, by decide, _, rfl, rfl, List.mem_of_getElem? (i := 1247) (by decide +kernel), List.mem_of_getElem? (i := 135) (by decide +kernel), List.mem_of_getElem? (i := 68) (by decide +kernel)⟩ (by first | omega | (exact R.r _ _) | (simp only [jM.len_sI, jM.len_sL, jM.len_sR, jM.len_fI, jM.len_fL, jM.len_fR]; omega) | (simp [jM.len_nw, jM.len_sI, jM.len_sL, jM.len_sR, jM.len_fI, jM.len_fL, jM.len_fR, *]; omega)) (by first | omega | (exact R.r _ _) | (simp only [jM.len_sI, jM.len_sL, jM.len_sR, jM.len_fI, jM.len_fL, jM.len_fR]; omega) | (simp [jM.len_nw, jM.len_sI, jM.len_sL, jM.len_sR, jM.len_fI, jM.len_fL, jM.len_fR, *]; omega)) rfl (fun q qf qb => ?_)
  have tq : (h.nw q 14 1).tag q = 14 := by rw [jM.tag_nw, if_pos rfl]
  refine J.dup (pc' := 12) rfl rfl rfl ?_
  refine J.callI (pc' := 15) rfl MX10_init ml_X4_52 iv_X10_init ⟨rfl, rfl⟩ (cs_init tq) rfl rfl (Nat.le_of_ble_eq_true rfl) (by first | omega | (exact R.r _ _) | (simp only [jM.len_sI, jM.len_sL, jM.len_sR, jM.len_fI, jM.len_fL, jM.len_fR]; omega) | (simp [jM.len_nw, jM.len_sI, jM.len_sL, jM.len_sR, jM.len_fI, jM.len_fL, jM.len_fR, *]; omega)) (by first | omega | (exact R.r _ _) | (simp only [jM.len_sI, jM.len_sL, jM.len_sR, jM.len_fI, jM.len_fL, jM.len_fR]; omega) | (simp [jM.len_nw, jM.len_sI, jM.len_sL, jM.len_sR, jM.len_fI, jM.len_fL, jM.len_fR, *]; omega)) (by first | omega | (exact R.r _ _) | (simp only [jM.len_sI, jM.len_sL, jM.len_sR, jM.len_fI, jM.len_fL, jM.len_fR]; omega) | (simp [jM.len_nw, jM.len_sI, jM.len_sL, jM.len_sR, jM.len_fI, jM.len_fL, jM.len_fR, *]; omega)) rfl ?_
  rintro _ h1 ⟨rfl, g1, g2, g3, g4, g5⟩
  have F0 : Fr h (h.nw q 14 1) (fun _ => False) := Fr.stN Fr.rf qf
  have F1 : Fr h h1 (fun _ => False) := F0.trans g3 (fun b hb q9 => by
    rcases q9 with q9 | q9
    · exact q9
    · rw [q9] at hb; exact absurd qf hb)
  have N1 : Nt h h1 [14, 20] := (Nt.stN (q := q) (t := 14) (n := 1) Nt.rf (by simp)).trans g4 g3 (by simp)
  refine J.ownS q g1 (fun h2 o1 t2 e2 f2 => ?_)
  have fp : h.tag (pa h2 q) = 0 := by rw [e2]; exact F0.free g5
  have F2 := f2 h _ F1 qf (F0.free g5)
  have N2 : Nt h h2 [14, 20] := N1.st t2
  generalize sv h1 q = PP at o1
  first | refine J.astore_n (pc' := 16) rfl rfl (by decide) ?_ | refine J.astore_nN (pc' := 16) rfl rfl (by decide) ?_
  refine J.iconst (pc' := 17) rfl rfl ?_
  refine J.istore_n (pc' := 18) rfl rfl (by decide) ?_
  refine cx_mixA (c1 := 2) (c2 := 11) (by omega) (by omega) hp hr hL hY hS hPS qf (fun k b1 b3 b5 lv hlv => ?_) 5 0 (by omega) h2 PP o1 (fun x hx => by omega) F2 fp N2 _ ⟨rfl, rfl, rfl, rfl, trivial⟩
  have L1 : isL γ k a e ys := hL.1.keptW b3 id (Or.inl id)
  have Y1 : lays k ys N D C P := hY.kept b3 (fun _ _ _ _ _ => id)
  have tp : k.tag p = 8 := b3.tag hp (by omega)
  have rp : k.R 8 p 0 = some a := by rw [b3.R hp (by omega) id]; exact hr
  refine J.lc hlv ?_
  refine J.iconst (pc' := 73) rfl rfl ?_
  refine J.istore_n (pc' := 74) rfl rfl (by decide) ?_
  refine J.iconst (pc' := 75) rfl rfl ?_
  refine J.istore (pc' := 77) rfl rfl (by decide) ?_
  have key : ∀ (j i : Nat), i + j = ys.length → ∀ lv, hasL lv [(0, .ref p), (1, .int (jI (Sm N ys.length))), (2, .ref q), (3, .int (jI (Sm (fun k => N k * C k) i))), (4, .int (jI (i : Int)))] → J γ mX4_becomeOneLayer 7 10 1000 2 11 k 77 lv [] (mixQ γ h a e ys.length N C P) X0 := by
    intro j
    have ta := L1.1
    induction j with
    | zero =>
      intro i hi lv hlv
      have ei : i = ys.length := by omega
      subst ei
      refine J.lc hlv ?_
      refine J.iload (pc' := 79) rfl rfl rfl ?_
      first | refine J.aload_n (pc' := 80) rfl rfl rfl ?_ | refine J.aload_nN (pc' := 80) rfl rfl rfl ?_
      first | refine J.getR (pc' := 83) rfl fl_X4_12 rfl (by first | assumption | (simp only [jM.tag_sI, jM.tag_sL, jM.tag_sR, jM.tag_fI, jM.tag_fL, jM.tag_fR]; assumption) | (simp [jM.tag_nw, jM.tag_sI, jM.tag_sL, jM.tag_sR, jM.tag_fI, jM.tag_fL, jM.tag_fR, *]; done)) (by first | assumption | (simp only [jM.R_sI, jM.R_sL, jM.R_fI, jM.R_fL]; assumption) | (simp [jM.R_nw, jM.R_sR, jM.R_fR, jM.R_sI, jM.R_sL, jM.R_fI, jM.R_fL, *]; done)) rfl ?_ | refine J.getRN (pc' := 83) rfl fl_X4_12 rfl (by first | assumption | (simp only [jM.tag_sI, jM.tag_sL, jM.tag_sR, jM.tag_fI, jM.tag_fL, jM.tag_fR]; assumption) | (simp [jM.tag_nw, jM.tag_sI, jM.tag_sL, jM.tag_sR, jM.tag_fI, jM.tag_fL, jM.tag_fR, *]; done)) (by first | assumption | (simp only [jM.R_sI, jM.R_sL, jM.R_fI, jM.R_fL]; assumption) | (simp [jM.R_nw, jM.R_sR, jM.R_fR, jM.R_sI, jM.R_sL, jM.R_fI, jM.R_fL, *]; done)) rfl ?_
      refine J.callV (pc' := 86) (t := 3) rfl MJx4a65c_size_8abf5 ml_X4_18 iv_Jx4a65c_size_8abf5 (by decide) ⟨_, rfl, rfl⟩ (by first | assumption | (simp only [jM.tag_sI, jM.tag_sL, jM.tag_sR, jM.tag_fI, jM.tag_fL, jM.tag_fR]; assumption) | (simp [jM.tag_nw, jM.tag_sI, jM.tag_sL, jM.tag_sR, jM.tag_fI, jM.tag_fL, jM.tag_fR, *]; done)) L1.size rfl rfl (Nat.le_of_ble_eq_true rfl) (by first | omega | (exact R.r _ _) | (simp only [jM.len_sI, jM.len_sL, jM.len_sR, jM.len_fI, jM.len_fL, jM.len_fR]; omega) | (simp [jM.len_nw, jM.len_sI, jM.len_sL, jM.len_sR, jM.len_fI, jM.len_fL, jM.len_fR, *]; omega)) (by first | omega | (exact R.r _ _) | (simp only [jM.len_sI, jM.len_sL, jM.len_sR, jM.len_fI, jM.len_fL, jM.len_fR]; omega) | (simp [jM.len_nw, jM.len_sI, jM.len_sL, jM.len_sR, jM.len_fI, jM.len_fL, jM.len_fR, *]; omega)) (by first | omega | (exact R.r _ _) | (simp only [jM.len_sI, jM.len_sL, jM.len_sR, jM.len_fI, jM.len_fL, jM.len_fR]; omega) | (simp [jM.len_nw, jM.len_sI, jM.len_sL, jM.len_sR, jM.len_fI, jM.len_fL, jM.len_fR, *]; omega)) rfl rfl ?_ ?_
      · exact fun _ _ h => h
      rintro _ k ⟨rfl, rfl⟩
      refine J.icmp_ge (tgt := 129) (pc' := 89) rfl rfl rfl (by first | omega | (exact R.r _ _) | (simp only [jM.len_sI, jM.len_sL, jM.len_sR, jM.len_fI, jM.len_fL, jM.len_fR]; omega) | (simp [jM.len_nw, jM.len_sI, jM.len_sL, jM.len_sR, jM.len_fI, jM.len_fL, jM.len_fR, *]; omega)) (by first | omega | (exact R.r _ _) | (simp only [jM.len_sI, jM.len_sL, jM.len_sR, jM.len_fI, jM.len_fL, jM.len_fR]; omega) | (simp [jM.len_nw, jM.len_sI, jM.len_sL, jM.len_sR, jM.len_fI, jM.len_fL, jM.len_fR, *]; omega)) (fun c1 => ?_) (fun c1 => ?_)
      · exact cx_mixB (by omega) (by omega) hp hr hL hS hCS hK b1 b3 b5 _ ⟨rfl, rfl, rfl, rfl, trivial⟩
      · omega
    | succ j ih =>
      intro i hi lv hlv
      obtain ⟨y, hy⟩ : ∃ y, ys[i]? = some y := ⟨_, List.getElem?_eq_getElem (by omega)⟩
      obtain ⟨y1, y0, y2, y3, y4, y5⟩ := Y1 i y hy
      refine J.lc hlv ?_
      refine J.iload (pc' := 79) rfl rfl rfl ?_
      first | refine J.aload_n (pc' := 80) rfl rfl rfl ?_ | refine J.aload_nN (pc' := 80) rfl rfl rfl ?_
      first | refine J.getR (pc' := 83) rfl fl_X4_12 rfl (by first | assumption | (simp only [jM.tag_sI, jM.tag_sL, jM.tag_sR, jM.tag_fI, jM.tag_fL, jM.tag_fR]; assumption) | (simp [jM.tag_nw, jM.tag_sI, jM.tag_sL, jM.tag_sR, jM.tag_fI, jM.tag_fL, jM.tag_fR, *]; done)) (by first | assumption | (simp only [jM.R_sI, jM.R_sL, jM.R_fI, jM.R_fL]; assumption) | (simp [jM.R_nw, jM.R_sR, jM.R_fR, jM.R_sI, jM.R_sL, jM.R_fI, jM.R_fL, *]; done)) rfl ?_ | refine J.getRN (pc' := 83) rfl fl_X4_12 rfl (by first | assumption | (simp only [jM.tag_sI, jM.tag_sL, jM.tag_sR, jM.tag_fI, jM.tag_fL, jM.tag_fR]; assumption) | (simp [jM.tag_nw, jM.tag_sI, jM.tag_sL, jM.tag_sR, jM.tag_fI, jM.tag_fL, jM.tag_fR, *]; done)) (by first | assumption | (simp only [jM.R_sI, jM.R_sL, jM.R_fI, jM.R_fL]; assumption) | (simp [jM.R_nw, jM.R_sR, jM.R_fR, jM.R_sI, jM.R_sL, jM.R_fI, jM.R_fL, *]; done)) rfl ?_
      refine J.callV (pc' := 86) (t := 3) rfl MJx4a65c_size_8abf5 ml_X4_18 iv_Jx4a65c_size_8abf5 (by decide) ⟨_, rfl, rfl⟩ (by first | assumption | (simp only [jM.tag_sI, jM.tag_sL, jM.tag_sR, jM.tag_fI, jM.tag_fL, jM.tag_fR]; assumption) | (simp [jM.tag_nw, jM.tag_sI, jM.tag_sL, jM.tag_sR, jM.tag_fI, jM.tag_fL, jM.tag_fR, *]; done)) L1.size rfl rfl (Nat.le_of_ble_eq_true rfl) (by first | omega | (exact R.r _ _) | (simp only [jM.len_sI, jM.len_sL, jM.len_sR, jM.len_fI, jM.len_fL, jM.len_fR]; omega) | (simp [jM.len_nw, jM.len_sI, jM.len_sL, jM.len_sR, jM.len_fI, jM.len_fL, jM.len_fR, *]; omega)) (by first | omega | (exact R.r _ _) | (simp only [jM.len_sI, jM.len_sL, jM.len_sR, jM.len_fI, jM.len_fL, jM.len_fR]; omega) | (simp [jM.len_nw, jM.len_sI, jM.len_sL, jM.len_sR, jM.len_fI, jM.len_fL, jM.len_fR, *]; omega)) (by first | omega | (exact R.r _ _) | (simp only [jM.len_sI, jM.len_sL, jM.len_sR, jM.len_fI, jM.len_fL, jM.len_fR]; omega) | (simp [jM.len_nw, jM.len_sI, jM.len_sL, jM.len_sR, jM.len_fI, jM.len_fL, jM.len_fR, *]; omega)) rfl rfl ?_ ?_
      · exact fun _ _ h => h
      rintro _ k ⟨rfl, rfl⟩
      refine J.icmp_ge (tgt := 129) (pc' := 89) rfl rfl rfl (by first | omega | (exact R.r _ _) | (simp only [jM.len_sI, jM.len_sL, jM.len_sR, jM.len_fI, jM.len_fL, jM.len_fR]; omega) | (simp [jM.len_nw, jM.len_sI, jM.len_sL, jM.len_sR, jM.len_fI, jM.len_fL, jM.len_fR, *]; omega)) (by first | omega | (exact R.r _ _) | (simp only [jM.len_sI, jM.len_sL, jM.len_sR, jM.len_fI, jM.len_fL, jM.len_fR]; omega) | (simp [jM.len_nw, jM.len_sI, jM.len_sL, jM.len_sR, jM.len_fI, jM.len_fL, jM.len_fR, *]; omega)) (fun c1 => ?_) (fun c1 => ?_)
      · omega
      · refine J.iload_n (pc' := 90) rfl rfl rfl ?_
        first | refine J.aload_n (pc' := 91) rfl rfl rfl ?_ | refine J.aload_nN (pc' := 91) rfl rfl rfl ?_
        first | refine J.getR (pc' := 94) rfl fl_X4_12 rfl (by first | assumption | (simp only [jM.tag_sI, jM.tag_sL, jM.tag_sR, jM.tag_fI, jM.tag_fL, jM.tag_fR]; assumption) | (simp [jM.tag_nw, jM.tag_sI, jM.tag_sL, jM.tag_sR, jM.tag_fI, jM.tag_fL, jM.tag_fR, *]; done)) (by first | assumption | (simp only [jM.R_sI, jM.R_sL, jM.R_fI, jM.R_fL]; assumption) | (simp [jM.R_nw, jM.R_sR, jM.R_fR, jM.R_sI, jM.R_sL, jM.R_fI, jM.R_fL, *]; done)) rfl ?_ | refine J.getRN (pc' := 94) rfl fl_X4_12 rfl (by first | assumption | (simp only [jM.tag_sI, jM.tag_sL, jM.tag_sR, jM.tag_fI, jM.tag_fL, jM.tag_fR]; assumption) | (simp [jM.tag_nw, jM.tag_sI, jM.tag_sL, jM.tag_sR, jM.tag_fI, jM.tag_fL, jM.tag_fR, *]; done)) (by first | assumption | (simp only [jM.R_sI, jM.R_sL, jM.R_fI, jM.R_fL]; assumption) | (simp [jM.R_nw, jM.R_sR, jM.R_fR, jM.R_sI, jM.R_sL, jM.R_fI, jM.R_fL, *]; done)) rfl ?_
        refine J.iload (pc' := 96) rfl rfl rfl ?_
        refine J.callV (pc' := 99) (t := 3) rfl MJx4a65c_get_915e3 ml_X4_22 iv_Jx4a65c_get_915e3 (by decide) ⟨_, rfl, rfl⟩ (by first | assumption | (simp only [jM.tag_sI, jM.tag_sL, jM.tag_sR, jM.tag_fI, jM.tag_fL, jM.tag_fR]; assumption) | (simp [jM.tag_nw, jM.tag_sI, jM.tag_sL, jM.tag_sR, jM.tag_fI, jM.tag_fL, jM.tag_fR, *]; done)) (L1.get hy) rfl rfl (Nat.le_of_ble_eq_true rfl) (by first | omega | (exact R.r _ _) | (simp only [jM.len_sI, jM.len_sL, jM.len_sR, jM.len_fI, jM.len_fL, jM.len_fR]; omega) | (simp [jM.len_nw, jM.len_sI, jM.len_sL, jM.len_sR, jM.len_fI, jM.len_fL, jM.len_fR, *]; omega)) (by first | omega | (exact R.r _ _) | (simp only [jM.len_sI, jM.len_sL, jM.len_sR, jM.len_fI, jM.len_fL, jM.len_fR]; omega) | (simp [jM.len_nw, jM.len_sI, jM.len_sL, jM.len_sR, jM.len_fI, jM.len_fL, jM.len_fR, *]; omega)) (by first | omega | (exact R.r _ _) | (simp only [jM.len_sI, jM.len_sL, jM.len_sR, jM.len_fI, jM.len_fL, jM.len_fR]; omega) | (simp [jM.len_nw, jM.len_sI, jM.len_sL, jM.len_sR, jM.len_fI, jM.len_fL, jM.len_fR, *]; omega)) rfl rfl ?_ ?_
        · exact fun _ _ h => h
        rintro _ k ⟨rfl, rfl⟩
        refine J.cast (pc' := 102) (t := 10) rfl (⟨by decide, by decide, _, RX6, rfl, List.mem_of_getElem? (i := 1169) (by decide +kernel), Or.inl rfl⟩) (by first | assumption | (simp only [jM.tag_sI, jM.tag_sL, jM.tag_sR, jM.tag_fI, jM.tag_fL, jM.tag_fR]; assumption) | (simp [jM.tag_nw, jM.tag_sI, jM.tag_sL, jM.tag_sR, jM.tag_fI, jM.tag_fL, jM.tag_fR, *]; done)) rfl ?_
        refine J.getI (pc' := 105) rfl fl_X4_32 rfl (by first | assumption | (simp only [jM.tag_sI, jM.tag_sL, jM.tag_sR, jM.tag_fI, jM.tag_fL, jM.tag_fR]; assumption) | (simp [jM.tag_nw, jM.tag_sI, jM.tag_sL, jM.tag_sR, jM.tag_fI, jM.tag_fL, jM.tag_fR, *]; done)) rfl ?_
        rw [y2]
        first | refine J.aload_n (pc' := 106) rfl rfl rfl ?_ | refine J.aload_nN (pc' := 106) rfl rfl rfl ?_
        first | refine J.getR (pc' := 109) rfl fl_X4_12 rfl (by first | assumption | (simp only [jM.tag_sI, jM.tag_sL, jM.tag_sR, jM.tag_fI, jM.tag_fL, jM.tag_fR]; assumption) | (simp [jM.tag_nw, jM.tag_sI, jM.tag_sL, jM.tag_sR, jM.tag_fI, jM.tag_fL, jM.tag_fR, *]; done)) (by first | assumption | (simp only [jM.R_sI, jM.R_sL, jM.R_fI, jM.R_fL]; assumption) | (simp [jM.R_nw, jM.R_sR, jM.R_fR, jM.R_sI, jM.R_sL, jM.R_fI, jM.R_fL, *]; done)) rfl ?_ | refine J.getRN (pc' := 109) rfl fl_X4_12 rfl (by first | assumption | (simp only [jM.tag_sI, jM.tag_sL, jM.tag_sR, jM.tag_fI, jM.tag_fL, jM.tag_fR]; assumption) | (simp [jM.tag_nw, jM.tag_sI, jM.tag_sL, jM.tag_sR, jM.tag_fI, jM.tag_fL, jM.tag_fR, *]; done)) (by first | assumption | (simp only [jM.R_sI, jM.R_sL, jM.R_fI, jM.R_fL]; assumption) | (simp [jM.R_nw, jM.R_sR, jM.R_fR, jM.R_sI, jM.R_sL, jM.R_fI, jM.R_fL, *]; done)) rfl ?_
        refine J.iload (pc' := 111) rfl rfl rfl ?_
        refine J.callV (pc' := 114) (t := 3) rfl MJx4a65c_get_915e3 ml_X4_22 iv_Jx4a65c_get_915e3 (by decide) ⟨_, rfl, rfl⟩ (by first | assumption | (simp only [jM.tag_sI, jM.tag_sL, jM.tag_sR, jM.tag_fI, jM.tag_fL, jM.tag_fR]; assumption) | (simp [jM.tag_nw, jM.tag_sI, jM.tag_sL, jM.tag_sR, jM.tag_fI, jM.tag_fL, jM.tag_fR, *]; done)) (L1.get hy) rfl rfl (Nat.le_of_ble_eq_true rfl) (by first | omega | (exact R.r _ _) | (simp only [jM.len_sI, jM.len_sL, jM.len_sR, jM.len_fI, jM.len_fL, jM.len_fR]; omega) | (simp [jM.len_nw, jM.len_sI, jM.len_sL, jM.len_sR, jM.len_fI, jM.len_fL, jM.len_fR, *]; omega)) (by first | omega | (exact R.r _ _) | (simp only [jM.len_sI, jM.len_sL, jM.len_sR, jM.len_fI, jM.len_fL, jM.len_fR]; omega) | (simp [jM.len_nw, jM.len_sI, jM.len_sL, jM.len_sR, jM.len_fI, jM.len_fL, jM.len_fR, *]; omega)) (by first | omega | (exact R.r _ _) | (simp only [jM.len_sI, jM.len_sL, jM.len_sR, jM.len_fI, jM.len_fL, jM.len_fR]; omega) | (simp [jM.len_nw, jM.len_sI, jM.len_sL, jM.len_sR, jM.len_fI, jM.len_fL, jM.len_fR, *]; omega)) rfl rfl ?_ ?_
        · exact fun _ _ h => h
        rintro _ k ⟨rfl, rfl⟩
        refine J.cast (pc' := 117) (t := 10) rfl (⟨by decide, by decide, _, RX6, rfl, List.mem_of_getElem? (i := 1169) (by decide +kernel), Or.inl rfl⟩) (by first | assumption | (simp only [jM.tag_sI, jM.tag_sL, jM.tag_sR, jM.tag_fI, jM.tag_fL, jM.tag_fR]; assumption) | (simp [jM.tag_nw, jM.tag_sI, jM.tag_sL, jM.tag_sR, jM.tag_fI, jM.tag_fL, jM.tag_fR, *]; done)) rfl ?_
        refine J.getI (pc' := 120) rfl fl_X4_68 rfl (by first | assumption | (simp only [jM.tag_sI, jM.tag_sL, jM.tag_sR, jM.tag_fI, jM.tag_fL, jM.tag_fR]; assumption) | (simp [jM.tag_nw, jM.tag_sI, jM.tag_sL, jM.tag_sR, jM.tag_fI, jM.tag_fL, jM.tag_fR, *]; done)) rfl ?_
        rw [y4]
        refine J.imul (pc' := 121) rfl rfl ?_
        refine J.iadd (pc' := 122) rfl rfl ?_
        refine J.istore_n (pc' := 123) rfl rfl (by decide) ?_
        refine J.iinc (pc' := 126) rfl rfl rfl (by decide) ?_
        refine J.goto (tgt := 77) rfl rfl ?_
        exact ih (i + 1) (by omega) _ ⟨rfl, rfl, rfl, rfl, rfl, trivial⟩
  exact key ys.length 0 (by omega) _ ⟨rfl, rfl, rfl, rfl, rfl, trivial⟩
end MX

