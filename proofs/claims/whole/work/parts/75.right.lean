section PR
variable {γ : jG} {h : jM}
/-- the KINDS, the SELLERS -/
def repK (h : jM) (ks : List Nat) (PK : Int → Nat → Int) : Prop := ∀ (k z : Nat), ks[k]? = some z → h.tag z = 9 ∧ h.I 9 z 0 = (k : Int) ∧ ∃ sp, h.R 9 z 1 = some sp ∧ isO h sp z (PK k)
def repS (h : jM) (ss : List Nat) (O : Int → Int → Int) (pd : Int → Int) : Prop := ∀ (j s : Nat), ss[j]? = some s → ∃ o, isSl h s o j (O j) (pd j)
theorem repK.kept {h' : jM} {W : Nat → Prop} {ks : List Nat} {PK : Int → Nat → Int} (F : Fr h h' W) (hK : repK h ks PK) (h1 : ∀ b, h.tag b = 9 → ¬ W b) (h2 : ∀ b y, (h.tag b = 14 ∨ h.tag b = 20) → ow h b = some y → h.tag y = 9 → ¬ W b) : repK h' ks PK := fun k z hz => by
  obtain ⟨a1, a2, sp, a3, a4⟩ := hK k z hz
  exact ⟨F.tag a1 (by omega), by rw [F.I a1 (by omega) (h1 z a1)]; exact a2, sp, by rw [F.R a1 (by omega) (h1 z a1)]; exact a3, a4.kept2 F (h2 _ z (Or.inl a4.1.1) a4.2.1 a1) (h2 _ z (Or.inr a4.1.2.2.1) a4.2.2.1 a1)⟩
theorem repS.kept {h' : jM} {W : Nat → Prop} {ss : List Nat} {O : Int → Int → Int} {pd : Int → Int} (F : Fr h h' W) (hS : repS h ss O pd) (h1 : ∀ b, (h.tag b = 13 ∨ h.tag b = 21) → ¬ W b) : repS h' ss O pd := fun j s hj => by
  obtain ⟨o, ho⟩ := hS j s hj
  exact ⟨o, ho.kept F (h1 s (Or.inl ho.1)) (h1 o (Or.inr ho.2.2.2.1))⟩
theorem puO_b {O : Int → Int} {P R : Nat → Int} {kn m : Int} (hO : ∀ j : Int, -1 ≤ O j ∧ O j ≤ 10000) (hm : 0 ≤ m ∧ m < 5) (hPb : ∀ j, j < 10 → 0 ≤ P j ∧ P j ≤ 10000) (hRb : ∀ j, j < 10 → 0 ≤ R j ∧ R j ≤ 10000) : ∀ j : Int, -1 ≤ puO O P R kn m j ∧ puO O P R kn m j ≤ 10000 := fun j => by
  have ub : ∀ pl : Int, 0 ≤ pl → pl < 10 → 0 ≤ usP O P kn pl ∧ usP O P kn pl ≤ 10000 := fun pl p1 p2 => by
    have e1 := hO (kn * 10 + pl)
    have e2 := hPb pl.toNat (by omega)
    unfold usP
    split <;> omega
  have u1 := ub (2 * m) (by omega) (by omega)
  have u2 := ub (2 * m + 1) (by omega) (by omega)
  have r1 := hRb (2 * m).toNat (by omega)
  have r2 := hRb (2 * m + 1).toNat (by omega)
  have h0 := hO j
  unfold puO
  split
  · omega
  · split <;> omega
/-- what n portions put right -/
def puS (K : Int → Option (Int × Int)) (PK P : Int → Nat → Int) (m : Int) (O : Int → Int → Int) : Nat → Int → Int → Int
  | 0 => O
  | n + 1 => match K n with
    | none => puS K PK P m O n
    | some (s, k) => fun j => if j = s then puO (puS K PK P m O n s) (PK k) (P n) k m else puS K PK P m O n j
theorem puS_b {K : Int → Option (Int × Int)} {PK P : Int → Nat → Int} {m : Int} {O : Int → Int → Int} (hm : 0 ≤ m ∧ m < 5) (hO : ∀ s j : Int, -1 ≤ O s j ∧ O s j ≤ 10000) (hPK : ∀ (k : Int) (j : Nat), j < 10 → 0 ≤ PK k j ∧ PK k j ≤ 10000) : ∀ n : Nat, (∀ (k : Nat) (j : Nat), k < n → j < 10 → 0 ≤ P k j ∧ P k j ≤ 10000) → ∀ s j : Int, -1 ≤ puS K PK P m O n s j ∧ puS K PK P m O n s j ≤ 10000 := fun n => by
  induction n with
  | zero => exact fun _ => hO
  | succ n ih =>
    intro hP s j
    have ih := ih (fun k j hk hj => hP k j (by omega) hj)
    rw [puS]
    cases hK : K (n : Int) with
    | none => exact ih s j
    | some sk =>
      obtain ⟨s', k'⟩ := sk
      show -1 ≤ (if s = s' then puO (puS K PK P m O n s') (PK k') (P n) k' m else puS K PK P m O n s) j ∧ (if s = s' then puO (puS K PK P m O n s') (PK k') (P n) k' m else puS K PK P m O n s) j ≤ 10000
      by_cases c : s = s'
      · rw [if_pos c]
        exact puO_b (fun j => ih s' j) hm (fun j hj => hPK k' j hj) (fun j hj => hP n j (by omega) hj) j
      · rw [if_neg c]
        exact ih s j
variable {a e mt : Nat} {ys ks ss : List Nat} {N C : Int → Int} {D : Int → Option Nat} {P PK : Int → Nat → Int} {O : Int → Int → Int} {pd : Int → Int} {K : Int → Option (Int × Int)}
theorem cx_putUsual {m : Int} (tm : h.tag mt = 12) (hr : h.R 12 mt 1 = some a) (hm : 0 ≤ m ∧ m < 5) (hL : isLs γ h a e ys) (hY : lays h ys N D C P) (hKK : repK h ks PK) (hSS : repS h ss O pd) (hks : ks.length ≤ 10)
    (hO : ∀ s j : Int, -1 ≤ O s j ∧ O s j ≤ 10000) (hPK : ∀ (k : Int) (j : Nat), j < 10 → 0 ≤ PK k j ∧ PK k j ≤ 10000) (hPb : ∀ (k : Nat) (j : Nat), k < ys.length → j < 10 → 0 ≤ P k j ∧ P k j ≤ 10000)
    (hD : ∀ k : Nat, k < ys.length → (D k = none ∧ K k = none) ∨ ∃ (l s z : Nat) (i j : Nat), D k = some l ∧ K k = some ((i : Int), (j : Int)) ∧ h.tag l = 11 ∧ h.R 11 l 1 = some s ∧ h.R 11 l 2 = some z ∧ ss[i]? = some s ∧ ks[j]? = some z) :
    CT γ mX8_putUsualRight 3 0 0 [.ref mt, .int (jI m)] h (fun r h' => r = none ∧ repS h' ss (puS K PK P m O ys.length) pd ∧ Fr h h' (fun b => h.tag b = 21) ∧ h'.tag = h.tag) X0 := by
  have hlen := hL.1.len
  refine CT.of MX8_putUsualRight (Nat.le_of_ble_eq_true rfl) ?_
  show J γ mX8_putUsualRight 3 0 0 0 0 h 0 [(0, .ref mt), (1, .int (jI m))] [] _ _
  refine J.iconst (pc' := 1) rfl rfl ?_
  refine J.istore_n (pc' := 2) rfl rfl (by decide) ?_
  have key : ∀ (j i : Nat), i + j = ys.length → ∀ k : jM, repS k ss (puS K PK P m O i) pd → Fr h k (fun b => h.tag b = 21) → k.tag = h.tag → ∀ lv, hasL lv [(0, .ref mt), (1, .int (jI m)), (2, .int (jI (i : Int)))] → J γ mX8_putUsualRight 3 0 0 0 0 k 2 lv [] (fun r h' => r = none ∧ repS h' ss (puS K PK P m O ys.length) pd ∧ Fr h h' (fun b => h.tag b = 21) ∧ h'.tag = h.tag) X0 := by
    intro j
    induction j with
    | zero =>
      intro i hi k b1 b2 b3 lv hlv
      have ei : i = ys.length := by omega
      subst ei
      have tp : k.tag mt = 12 := by rw [b3]; exact tm
      have rp : k.R 12 mt 1 = some a := by rw [b2.R tm (by omega) (fun z => by omega)]; exact hr
      have L1 : isL γ k a e ys := hL.1.keptW b2 (fun z => by have := hL.1.1; omega) (Or.inl (fun z => by have := hL.1.2.2.1; omega))
      have ta := L1.1
      refine J.lc hlv ?_
      refine J.iload_n (pc' := 3) rfl rfl rfl ?_
      first | refine J.aload_n (pc' := 4) rfl rfl rfl ?_ | refine J.aload_nN (pc' := 4) rfl rfl rfl ?_
      first | refine J.getR (pc' := 7) rfl fl_X8_10 rfl (by first | assumption | (simp only [jM.tag_sI, jM.tag_sL, jM.tag_sR, jM.tag_fI, jM.tag_fL, jM.tag_fR]; assumption) | (simp [jM.tag_nw, jM.tag_sI, jM.tag_sL, jM.tag_sR, jM.tag_fI, jM.tag_fL, jM.tag_fR, *]; done)) (by first | assumption | (simp only [jM.R_sI, jM.R_sL, jM.R_fI, jM.R_fL]; assumption) | (simp [jM.R_nw, jM.R_sR, jM.R_fR, jM.R_sI, jM.R_sL, jM.R_fI, jM.R_fL, *]; done)) rfl ?_ | refine J.getRN (pc' := 7) rfl fl_X8_10 rfl (by first | assumption | (simp only [jM.tag_sI, jM.tag_sL, jM.tag_sR, jM.tag_fI, jM.tag_fL, jM.tag_fR]; assumption) | (simp [jM.tag_nw, jM.tag_sI, jM.tag_sL, jM.tag_sR, jM.tag_fI, jM.tag_fL, jM.tag_fR, *]; done)) (by first | assumption | (simp only [jM.R_sI, jM.R_sL, jM.R_fI, jM.R_fL]; assumption) | (simp [jM.R_nw, jM.R_sR, jM.R_fR, jM.R_sI, jM.R_sL, jM.R_fI, jM.R_fL, *]; done)) rfl ?_
      refine J.callV (pc' := 10) (t := 3) rfl MJx4a65c_size_8abf5 ml_X8_26 iv_Jx4a65c_size_8abf5 (by decide) ⟨_, rfl, rfl⟩ (by first | assumption | (simp only [jM.tag_sI, jM.tag_sL, jM.tag_sR, jM.tag_fI, jM.tag_fL, jM.tag_fR]; assumption) | (simp [jM.tag_nw, jM.tag_sI, jM.tag_sL, jM.tag_sR, jM.tag_fI, jM.tag_fL, jM.tag_fR, *]; done)) L1.size rfl rfl (Nat.le_of_ble_eq_true rfl) (by first | omega | (exact R.r _ _) | (simp only [jM.len_sI, jM.len_sL, jM.len_sR, jM.len_fI, jM.len_fL, jM.len_fR]; omega) | (simp [jM.len_nw, jM.len_sI, jM.len_sL, jM.len_sR, jM.len_fI, jM.len_fL, jM.len_fR, *]; omega)) (by first | omega | (exact R.r _ _) | (simp only [jM.len_sI, jM.len_sL, jM.len_sR, jM.len_fI, jM.len_fL, jM.len_fR]; omega) | (simp [jM.len_nw, jM.len_sI, jM.len_sL, jM.len_sR, jM.len_fI, jM.len_fL, jM.len_fR, *]; omega)) (by first | omega | (exact R.r _ _) | (simp only [jM.len_sI, jM.len_sL, jM.len_sR, jM.len_fI, jM.len_fL, jM.len_fR]; omega) | (simp [jM.len_nw, jM.len_sI, jM.len_sL, jM.len_sR, jM.len_fI, jM.len_fL, jM.len_fR, *]; omega)) rfl rfl ?_ ?_
      · exact fun _ _ h => h
      rintro _ k ⟨rfl, rfl⟩
      refine J.icmp_ge (tgt := 60) (pc' := 13) rfl rfl rfl (by first | omega | (exact R.r _ _) | (simp only [jM.len_sI, jM.len_sL, jM.len_sR, jM.len_fI, jM.len_fL, jM.len_fR]; omega) | (simp [jM.len_nw, jM.len_sI, jM.len_sL, jM.len_sR, jM.len_fI, jM.len_fL, jM.len_fR, *]; omega)) (by first | omega | (exact R.r _ _) | (simp only [jM.len_sI, jM.len_sL, jM.len_sR, jM.len_fI, jM.len_fL, jM.len_fR]; omega) | (simp [jM.len_nw, jM.len_sI, jM.len_sL, jM.len_sR, jM.len_fI, jM.len_fL, jM.len_fR, *]; omega)) (fun c1 => ?_) (fun c1 => ?_)
      · refine J.vret rfl rfl (by first | omega | (exact R.r _ _) | (simp only [jM.len_sI, jM.len_sL, jM.len_sR, jM.len_fI, jM.len_fL, jM.len_fR]; omega) | (simp [jM.len_nw, jM.len_sI, jM.len_sL, jM.len_sR, jM.len_fI, jM.len_fL, jM.len_fR, *]; omega)) (by first | omega | (exact R.r _ _) | (simp only [jM.len_sI, jM.len_sL, jM.len_sR, jM.len_fI, jM.len_fL, jM.len_fR]; omega) | (simp [jM.len_nw, jM.len_sI, jM.len_sL, jM.len_sR, jM.len_fI, jM.len_fL, jM.len_fR, *]; omega)) ?_
        exact ⟨rfl, b1, b2, b3⟩
      · omega
    | succ j ih =>
      intro i hi k b1 b2 b3 lv hlv
      have tp : k.tag mt = 12 := by rw [b3]; exact tm
      have rp : k.R 12 mt 1 = some a := by rw [b2.R tm (by omega) (fun z => by omega)]; exact hr
      have L1 : isL γ k a e ys := hL.1.keptW b2 (fun z => by have := hL.1.1; omega) (Or.inl (fun z => by have := hL.1.2.2.1; omega))
      have ta := L1.1
      obtain ⟨y, hy⟩ : ∃ y, ys[i]? = some y := ⟨_, List.getElem?_eq_getElem (by omega)⟩
      have hyy : isY k y (N i) (D i) (C i) (P i) := (hY i y hy).keptT b2 (fun b hb _ => by omega)
      obtain ⟨y1, y0, y2, y3, y4, s, y5, y6⟩ := hyy
      have K1 : repK k ks PK := hKK.kept b2 (fun b hb => by omega) (fun b y hb _ _ => by omega)
      refine J.lc hlv ?_
      refine J.iload_n (pc' := 3) rfl rfl rfl ?_
      first | refine J.aload_n (pc' := 4) rfl rfl rfl ?_ | refine J.aload_nN (pc' := 4) rfl rfl rfl ?_
      first | refine J.getR (pc' := 7) rfl fl_X8_10 rfl (by first | assumption | (simp only [jM.tag_sI, jM.tag_sL, jM.tag_sR, jM.tag_fI, jM.tag_fL, jM.tag_fR]; assumption) | (simp [jM.tag_nw, jM.tag_sI, jM.tag_sL, jM.tag_sR, jM.tag_fI, jM.tag_fL, jM.tag_fR, *]; done)) (by first | assumption | (simp only [jM.R_sI, jM.R_sL, jM.R_fI, jM.R_fL]; assumption) | (simp [jM.R_nw, jM.R_sR, jM.R_fR, jM.R_sI, jM.R_sL, jM.R_fI, jM.R_fL, *]; done)) rfl ?_ | refine J.getRN (pc' := 7) rfl fl_X8_10 rfl (by first | assumption | (simp only [jM.tag_sI, jM.tag_sL, jM.tag_sR, jM.tag_fI, jM.tag_fL, jM.tag_fR]; assumption) | (simp [jM.tag_nw, jM.tag_sI, jM.tag_sL, jM.tag_sR, jM.tag_fI, jM.tag_fL, jM.tag_fR, *]; done)) (by first | assumption | (simp only [jM.R_sI, jM.R_sL, jM.R_fI, jM.R_fL]; assumption) | (simp [jM.R_nw, jM.R_sR, jM.R_fR, jM.R_sI, jM.R_sL, jM.R_fI, jM.R_fL, *]; done)) rfl ?_
      refine J.callV (pc' := 10) (t := 3) rfl MJx4a65c_size_8abf5 ml_X8_26 iv_Jx4a65c_size_8abf5 (by decide) ⟨_, rfl, rfl⟩ (by first | assumption | (simp only [jM.tag_sI, jM.tag_sL, jM.tag_sR, jM.tag_fI, jM.tag_fL, jM.tag_fR]; assumption) | (simp [jM.tag_nw, jM.tag_sI, jM.tag_sL, jM.tag_sR, jM.tag_fI, jM.tag_fL, jM.tag_fR, *]; done)) L1.size rfl rfl (Nat.le_of_ble_eq_true rfl) (by first | omega | (exact R.r _ _) | (simp only [jM.len_sI, jM.len_sL, jM.len_sR, jM.len_fI, jM.len_fL, jM.len_fR]; omega) | (simp [jM.len_nw, jM.len_sI, jM.len_sL, jM.len_sR, jM.len_fI, jM.len_fL, jM.len_fR, *]; omega)) (by first | omega | (exact R.r _ _) | (simp only [jM.len_sI, jM.len_sL, jM.len_sR, jM.len_fI, jM.len_fL, jM.len_fR]; omega) | (simp [jM.len_nw, jM.len_sI, jM.len_sL, jM.len_sR, jM.len_fI, jM.len_fL, jM.len_fR, *]; omega)) (by first | omega | (exact R.r _ _) | (simp only [jM.len_sI, jM.len_sL, jM.len_sR, jM.len_fI, jM.len_fL, jM.len_fR]; omega) | (simp [jM.len_nw, jM.len_sI, jM.len_sL, jM.len_sR, jM.len_fI, jM.len_fL, jM.len_fR, *]; omega)) rfl rfl ?_ ?_
      · exact fun _ _ h => h
      rintro _ k ⟨rfl, rfl⟩
      refine J.icmp_ge (tgt := 60) (pc' := 13) rfl rfl rfl (by first | omega | (exact R.r _ _) | (simp only [jM.len_sI, jM.len_sL, jM.len_sR, jM.len_fI, jM.len_fL, jM.len_fR]; omega) | (simp [jM.len_nw, jM.len_sI, jM.len_sL, jM.len_sR, jM.len_fI, jM.len_fL, jM.len_fR, *]; omega)) (by first | omega | (exact R.r _ _) | (simp only [jM.len_sI, jM.len_sL, jM.len_sR, jM.len_fI, jM.len_fL, jM.len_fR]; omega) | (simp [jM.len_nw, jM.len_sI, jM.len_sL, jM.len_sR, jM.len_fI, jM.len_fL, jM.len_fR, *]; omega)) (fun c1 => ?_) (fun c1 => ?_)
      · omega
      · first | refine J.aload_n (pc' := 14) rfl rfl rfl ?_ | refine J.aload_nN (pc' := 14) rfl rfl rfl ?_
        first | refine J.getR (pc' := 17) rfl fl_X8_10 rfl (by first | assumption | (simp only [jM.tag_sI, jM.tag_sL, jM.tag_sR, jM.tag_fI, jM.tag_fL, jM.tag_fR]; assumption) | (simp [jM.tag_nw, jM.tag_sI, jM.tag_sL, jM.tag_sR, jM.tag_fI, jM.tag_fL, jM.tag_fR, *]; done)) (by first | assumption | (simp only [jM.R_sI, jM.R_sL, jM.R_fI, jM.R_fL]; assumption) | (simp [jM.R_nw, jM.R_sR, jM.R_fR, jM.R_sI, jM.R_sL, jM.R_fI, jM.R_fL, *]; done)) rfl ?_ | refine J.getRN (pc' := 17) rfl fl_X8_10 rfl (by first | assumption | (simp only [jM.tag_sI, jM.tag_sL, jM.tag_sR, jM.tag_fI, jM.tag_fL, jM.tag_fR]; assumption) | (simp [jM.tag_nw, jM.tag_sI, jM.tag_sL, jM.tag_sR, jM.tag_fI, jM.tag_fL, jM.tag_fR, *]; done)) (by first | assumption | (simp only [jM.R_sI, jM.R_sL, jM.R_fI, jM.R_fL]; assumption) | (simp [jM.R_nw, jM.R_sR, jM.R_fR, jM.R_sI, jM.R_sL, jM.R_fI, jM.R_fL, *]; done)) rfl ?_
        refine J.iload_n (pc' := 18) rfl rfl rfl ?_
        refine J.callV (pc' := 21) (t := 3) rfl MJx4a65c_get_915e3 ml_X8_30 iv_Jx4a65c_get_915e3 (by decide) ⟨_, rfl, rfl⟩ (by first | assumption | (simp only [jM.tag_sI, jM.tag_sL, jM.tag_sR, jM.tag_fI, jM.tag_fL, jM.tag_fR]; assumption) | (simp [jM.tag_nw, jM.tag_sI, jM.tag_sL, jM.tag_sR, jM.tag_fI, jM.tag_fL, jM.tag_fR, *]; done)) (L1.get hy) rfl rfl (Nat.le_of_ble_eq_true rfl) (by first | omega | (exact R.r _ _) | (simp only [jM.len_sI, jM.len_sL, jM.len_sR, jM.len_fI, jM.len_fL, jM.len_fR]; omega) | (simp [jM.len_nw, jM.len_sI, jM.len_sL, jM.len_sR, jM.len_fI, jM.len_fL, jM.len_fR, *]; omega)) (by first | omega | (exact R.r _ _) | (simp only [jM.len_sI, jM.len_sL, jM.len_sR, jM.len_fI, jM.len_fL, jM.len_fR]; omega) | (simp [jM.len_nw, jM.len_sI, jM.len_sL, jM.len_sR, jM.len_fI, jM.len_fL, jM.len_fR, *]; omega)) (by first | omega | (exact R.r _ _) | (simp only [jM.len_sI, jM.len_sL, jM.len_sR, jM.len_fI, jM.len_fL, jM.len_fR]; omega) | (simp [jM.len_nw, jM.len_sI, jM.len_sL, jM.len_sR, jM.len_fI, jM.len_fL, jM.len_fR, *]; omega)) rfl rfl ?_ ?_
        · exact fun _ _ h => h
        rintro _ k ⟨rfl, rfl⟩
        refine J.cast (pc' := 24) (t := 10) rfl (⟨by decide, by decide, _, RX6, rfl, List.mem_of_getElem? (i := 1392) (by decide +kernel), Or.inl rfl⟩) (by first | assumption | (simp only [jM.tag_sI, jM.tag_sL, jM.tag_sR, jM.tag_fI, jM.tag_fL, jM.tag_fR]; assumption) | (simp [jM.tag_nw, jM.tag_sI, jM.tag_sL, jM.tag_sR, jM.tag_fI, jM.tag_fL, jM.tag_fR, *]; done)) rfl ?_
        first | refine J.astore_n (pc' := 25) rfl rfl (by decide) ?_ | refine J.astore_nN (pc' := 25) rfl rfl (by decide) ?_
        refine J.lc (lv' := [(0, .ref mt), (1, .int (jI m)), (2, .int (jI (i : Int))), (3, .ref y)]) (by repeat' (first | exact trivial | refine ⟨rfl, ?_⟩)) ?_
        rcases hD i (by omega) with ⟨d1, d2⟩ | ⟨l, s', z, x, w, d1, d2, d3, d4, d5, d6, d7⟩
        · rw [d1] at y3
          first | refine J.aload_n (pc' := 26) rfl rfl rfl ?_ | refine J.aload_nN (pc' := 26) rfl rfl rfl ?_
          first | refine J.getR (pc' := 29) rfl fl_X8_72 rfl (by first | assumption | (simp only [jM.tag_sI, jM.tag_sL, jM.tag_sR, jM.tag_fI, jM.tag_fL, jM.tag_fR]; assumption) | (simp [jM.tag_nw, jM.tag_sI, jM.tag_sL, jM.tag_sR, jM.tag_fI, jM.tag_fL, jM.tag_fR, *]; done)) (by first | assumption | (simp only [jM.R_sI, jM.R_sL, jM.R_fI, jM.R_fL]; assumption) | (simp [jM.R_nw, jM.R_sR, jM.R_fR, jM.R_sI, jM.R_sL, jM.R_fI, jM.R_fL, *]; done)) rfl ?_ | refine J.getRN (pc' := 29) rfl fl_X8_72 rfl (by first | assumption | (simp only [jM.tag_sI, jM.tag_sL, jM.tag_sR, jM.tag_fI, jM.tag_fL, jM.tag_fR]; assumption) | (simp [jM.tag_nw, jM.tag_sI, jM.tag_sL, jM.tag_sR, jM.tag_fI, jM.tag_fL, jM.tag_fR, *]; done)) (by first | assumption | (simp only [jM.R_sI, jM.R_sL, jM.R_fI, jM.R_fL]; assumption) | (simp [jM.R_nw, jM.R_sR, jM.R_fR, jM.R_sI, jM.R_sL, jM.R_fI, jM.R_fL, *]; done)) rfl ?_
          first | refine J.ifnull (pc' := 32) rfl rfl ?_ | refine J.ifnullN (tgt := 54) rfl rfl ?_
          refine J.iinc (pc' := 57) rfl rfl rfl (by decide) ?_
          refine J.goto (tgt := 2) rfl rfl ?_
          refine ih (i + 1) (by omega) k (by rw [puS, d2]; exact b1) b2 b3 _ ⟨rfl, rfl, rfl, trivial⟩
        · rw [d1] at y3
          have tl : k.tag l = 11 := by rw [b3]; exact d3
          have r1 : k.R 11 l 1 = some s' := by rw [b2.R d3 (by omega) (fun z => by omega)]; exact d4
          have r2 : k.R 11 l 2 = some z := by rw [b2.R d3 (by omega) (fun z => by omega)]; exact d5
          obtain ⟨o, hS⟩ := b1 x s' d6
          obtain ⟨k1, k2, sp, k3, k4⟩ := K1 w z d7
          have hw := (List.getElem?_eq_some_iff.mp d7).1
          have ts' := hS.1
          have ts := y6.1.1
          have pb := puS_b (K := K) (PK := PK) (P := P) hm hO hPK i (fun k j hk hj => hPb k j (by omega) hj)
          first | refine J.aload_n (pc' := 26) rfl rfl rfl ?_ | refine J.aload_nN (pc' := 26) rfl rfl rfl ?_
          first | refine J.getR (pc' := 29) rfl fl_X8_72 rfl (by first | assumption | (simp only [jM.tag_sI, jM.tag_sL, jM.tag_sR, jM.tag_fI, jM.tag_fL, jM.tag_fR]; assumption) | (simp [jM.tag_nw, jM.tag_sI, jM.tag_sL, jM.tag_sR, jM.tag_fI, jM.tag_fL, jM.tag_fR, *]; done)) (by first | assumption | (simp only [jM.R_sI, jM.R_sL, jM.R_fI, jM.R_fL]; assumption) | (simp [jM.R_nw, jM.R_sR, jM.R_fR, jM.R_sI, jM.R_sL, jM.R_fI, jM.R_fL, *]; done)) rfl ?_ | refine J.getRN (pc' := 29) rfl fl_X8_72 rfl (by first | assumption | (simp only [jM.tag_sI, jM.tag_sL, jM.tag_sR, jM.tag_fI, jM.tag_fL, jM.tag_fR]; assumption) | (simp [jM.tag_nw, jM.tag_sI, jM.tag_sL, jM.tag_sR, jM.tag_fI, jM.tag_fL, jM.tag_fR, *]; done)) (by first | assumption | (simp only [jM.R_sI, jM.R_sL, jM.R_fI, jM.R_fL]; assumption) | (simp [jM.R_nw, jM.R_sR, jM.R_fR, jM.R_sI, jM.R_sL, jM.R_fI, jM.R_fL, *]; done)) rfl ?_
          first | refine J.ifnull (pc' := 32) rfl rfl ?_ | refine J.ifnullN (tgt := 54) rfl rfl ?_
          first | refine J.aload_n (pc' := 33) rfl rfl rfl ?_ | refine J.aload_nN (pc' := 33) rfl rfl rfl ?_
          first | refine J.getR (pc' := 36) rfl fl_X8_72 rfl (by first | assumption | (simp only [jM.tag_sI, jM.tag_sL, jM.tag_sR, jM.tag_fI, jM.tag_fL, jM.tag_fR]; assumption) | (simp [jM.tag_nw, jM.tag_sI, jM.tag_sL, jM.tag_sR, jM.tag_fI, jM.tag_fL, jM.tag_fR, *]; done)) (by first | assumption | (simp only [jM.R_sI, jM.R_sL, jM.R_fI, jM.R_fL]; assumption) | (simp [jM.R_nw, jM.R_sR, jM.R_fR, jM.R_sI, jM.R_sL, jM.R_fI, jM.R_fL, *]; done)) rfl ?_ | refine J.getRN (pc' := 36) rfl fl_X8_72 rfl (by first | assumption | (simp only [jM.tag_sI, jM.tag_sL, jM.tag_sR, jM.tag_fI, jM.tag_fL, jM.tag_fR]; assumption) | (simp [jM.tag_nw, jM.tag_sI, jM.tag_sL, jM.tag_sR, jM.tag_fI, jM.tag_fL, jM.tag_fR, *]; done)) (by first | assumption | (simp only [jM.R_sI, jM.R_sL, jM.R_fI, jM.R_fL]; assumption) | (simp [jM.R_nw, jM.R_sR, jM.R_fR, jM.R_sI, jM.R_sL, jM.R_fI, jM.R_fL, *]; done)) rfl ?_
          first | refine J.getR (pc' := 39) rfl fl_X8_76 rfl (by first | assumption | (simp only [jM.tag_sI, jM.tag_sL, jM.tag_sR, jM.tag_fI, jM.tag_fL, jM.tag_fR]; assumption) | (simp [jM.tag_nw, jM.tag_sI, jM.tag_sL, jM.tag_sR, jM.tag_fI, jM.tag_fL, jM.tag_fR, *]; done)) (by first | assumption | (simp only [jM.R_sI, jM.R_sL, jM.R_fI, jM.R_fL]; assumption) | (simp [jM.R_nw, jM.R_sR, jM.R_fR, jM.R_sI, jM.R_sL, jM.R_fI, jM.R_fL, *]; done)) rfl ?_ | refine J.getRN (pc' := 39) rfl fl_X8_76 rfl (by first | assumption | (simp only [jM.tag_sI, jM.tag_sL, jM.tag_sR, jM.tag_fI, jM.tag_fL, jM.tag_fR]; assumption) | (simp [jM.tag_nw, jM.tag_sI, jM.tag_sL, jM.tag_sR, jM.tag_fI, jM.tag_fL, jM.tag_fR, *]; done)) (by first | assumption | (simp only [jM.R_sI, jM.R_sL, jM.R_fI, jM.R_fL]; assumption) | (simp [jM.R_nw, jM.R_sR, jM.R_fR, jM.R_sI, jM.R_sL, jM.R_fI, jM.R_fL, *]; done)) rfl ?_
          first | refine J.aload_n (pc' := 40) rfl rfl rfl ?_ | refine J.aload_nN (pc' := 40) rfl rfl rfl ?_
          first | refine J.getR (pc' := 43) rfl fl_X8_72 rfl (by first | assumption | (simp only [jM.tag_sI, jM.tag_sL, jM.tag_sR, jM.tag_fI, jM.tag_fL, jM.tag_fR]; assumption) | (simp [jM.tag_nw, jM.tag_sI, jM.tag_sL, jM.tag_sR, jM.tag_fI, jM.tag_fL, jM.tag_fR, *]; done)) (by first | assumption | (simp only [jM.R_sI, jM.R_sL, jM.R_fI, jM.R_fL]; assumption) | (simp [jM.R_nw, jM.R_sR, jM.R_fR, jM.R_sI, jM.R_sL, jM.R_fI, jM.R_fL, *]; done)) rfl ?_ | refine J.getRN (pc' := 43) rfl fl_X8_72 rfl (by first | assumption | (simp only [jM.tag_sI, jM.tag_sL, jM.tag_sR, jM.tag_fI, jM.tag_fL, jM.tag_fR]; assumption) | (simp [jM.tag_nw, jM.tag_sI, jM.tag_sL, jM.tag_sR, jM.tag_fI, jM.tag_fL, jM.tag_fR, *]; done)) (by first | assumption | (simp only [jM.R_sI, jM.R_sL, jM.R_fI, jM.R_fL]; assumption) | (simp [jM.R_nw, jM.R_sR, jM.R_fR, jM.R_sI, jM.R_sL, jM.R_fI, jM.R_fL, *]; done)) rfl ?_
          first | refine J.getR (pc' := 46) rfl fl_X8_82 rfl (by first | assumption | (simp only [jM.tag_sI, jM.tag_sL, jM.tag_sR, jM.tag_fI, jM.tag_fL, jM.tag_fR]; assumption) | (simp [jM.tag_nw, jM.tag_sI, jM.tag_sL, jM.tag_sR, jM.tag_fI, jM.tag_fL, jM.tag_fR, *]; done)) (by first | assumption | (simp only [jM.R_sI, jM.R_sL, jM.R_fI, jM.R_fL]; assumption) | (simp [jM.R_nw, jM.R_sR, jM.R_fR, jM.R_sI, jM.R_sL, jM.R_fI, jM.R_fL, *]; done)) rfl ?_ | refine J.getRN (pc' := 46) rfl fl_X8_82 rfl (by first | assumption | (simp only [jM.tag_sI, jM.tag_sL, jM.tag_sR, jM.tag_fI, jM.tag_fL, jM.tag_fR]; assumption) | (simp [jM.tag_nw, jM.tag_sI, jM.tag_sL, jM.tag_sR, jM.tag_fI, jM.tag_fL, jM.tag_fR, *]; done)) (by first | assumption | (simp only [jM.R_sI, jM.R_sL, jM.R_fI, jM.R_fL]; assumption) | (simp [jM.R_nw, jM.R_sR, jM.R_fR, jM.R_sI, jM.R_sL, jM.R_fI, jM.R_fL, *]; done)) rfl ?_
          refine J.iload_n (pc' := 47) rfl rfl rfl ?_
          first | refine J.aload_n (pc' := 48) rfl rfl rfl ?_ | refine J.aload_nN (pc' := 48) rfl rfl rfl ?_
          first | refine J.getR (pc' := 51) rfl fl_X8_43 rfl (by first | assumption | (simp only [jM.tag_sI, jM.tag_sL, jM.tag_sR, jM.tag_fI, jM.tag_fL, jM.tag_fR]; assumption) | (simp [jM.tag_nw, jM.tag_sI, jM.tag_sL, jM.tag_sR, jM.tag_fI, jM.tag_fL, jM.tag_fR, *]; done)) (by first | assumption | (simp only [jM.R_sI, jM.R_sL, jM.R_fI, jM.R_fL]; assumption) | (simp [jM.R_nw, jM.R_sR, jM.R_fR, jM.R_sI, jM.R_sL, jM.R_fI, jM.R_fL, *]; done)) rfl ?_ | refine J.getRN (pc' := 51) rfl fl_X8_43 rfl (by first | assumption | (simp only [jM.tag_sI, jM.tag_sL, jM.tag_sR, jM.tag_fI, jM.tag_fL, jM.tag_fR]; assumption) | (simp [jM.tag_nw, jM.tag_sI, jM.tag_sL, jM.tag_sR, jM.tag_fI, jM.tag_fL, jM.tag_fR, *]; done)) (by first | assumption | (simp only [jM.R_sI, jM.R_sL, jM.R_fI, jM.R_fL]; assumption) | (simp [jM.R_nw, jM.R_sR, jM.R_fR, jM.R_sI, jM.R_sL, jM.R_fI, jM.R_fL, *]; done)) rfl ?_
          refine J.callV (pc' := 54) (t := 13) rfl MX9_putRight ml_X8_86 iv_X9_putRight (by decide) ⟨_, rfl, rfl⟩ (by first | assumption | (simp only [jM.tag_sI, jM.tag_sL, jM.tag_sR, jM.tag_fI, jM.tag_fL, jM.tag_fR]; assumption) | (simp [jM.tag_nw, jM.tag_sI, jM.tag_sL, jM.tag_sR, jM.tag_fI, jM.tag_fL, jM.tag_fR, *]; done)) (cx_putRight hS k1 k2 k3 k4 y6 (by omega) hm (pb x) (hPK w) (fun j hj => hPb i j (by omega) hj)) rfl rfl (Nat.le_of_ble_eq_true rfl) (by first | omega | (exact R.r _ _) | (simp only [jM.len_sI, jM.len_sL, jM.len_sR, jM.len_fI, jM.len_fL, jM.len_fR]; omega) | (simp [jM.len_nw, jM.len_sI, jM.len_sL, jM.len_sR, jM.len_fI, jM.len_fL, jM.len_fR, *]; omega)) (by first | omega | (exact R.r _ _) | (simp only [jM.len_sI, jM.len_sL, jM.len_sR, jM.len_fI, jM.len_fL, jM.len_fR]; omega) | (simp [jM.len_nw, jM.len_sI, jM.len_sL, jM.len_sR, jM.len_fI, jM.len_fL, jM.len_fR, *]; omega)) (by first | omega | (exact R.r _ _) | (simp only [jM.len_sI, jM.len_sL, jM.len_sR, jM.len_fI, jM.len_fL, jM.len_fR]; omega) | (simp [jM.len_nw, jM.len_sI, jM.len_sL, jM.len_sR, jM.len_fI, jM.len_fL, jM.len_fR, *]; omega)) rfl rfl ?_ ?_
          · exact fun _ _ h => h
          rintro _ k' ⟨rfl, g1, g2, g3⟩
          have to := hS.2.2.2.1
          refine J.iinc (pc' := 57) rfl rfl rfl (by decide) ?_
          refine J.goto (tgt := 2) rfl rfl ?_
          refine ih (i + 1) (by omega) k' ?_ (b2.trans g2 (fun b hb q => ?_)) (by rw [g3]; exact b3) _ ⟨rfl, rfl, rfl, trivial⟩
          · intro j' u hu
            rw [puS, d2]
            show ∃ o, isSl k' u o j' (if (j' : Int) = (x : Int) then puO (puS K PK P m O i x) (PK w) (P i) w m else puS K PK P m O i j') (pd j')
            by_cases c : j' = x
            · subst c
              rw [d6] at hu
              cases hu
              rw [if_pos rfl]
              exact ⟨o, g1⟩
            · rw [if_neg (by omega)]
              obtain ⟨o2, hS2⟩ := b1 j' u hu
              have hn : u ≠ s' := fun q => by
                have q1 := hS2.2.1
                rw [q, hS.2.1] at q1
                omega
              exact ⟨o2, hS2.kept g2 (fun q => by have := hS2.1; rw [q] at this; omega) (fun q => hS2.ne hS hn q)⟩
          · rcases q with q | q
            · exact q
            · rw [q, ← b3]; exact to
  exact key ys.length 0 (by omega) h hSS Fr.rf rfl _ ⟨rfl, rfl, rfl, trivial⟩
end PR

