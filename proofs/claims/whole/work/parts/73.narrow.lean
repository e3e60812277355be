section NR
variable {γ : jG} {h : jM}
theorem isO.spW {h' : jM} {s y : Nat} {P Q P' : Nat → Int} (hO : isO h s y P) (hW : spW h h' s Q) (hQ : ∀ i, i < 10 → Q i = P' i) : isO h' s y P' := by
  obtain ⟨w1, w2, w3, w4, w5, w6, w7, w8⟩ := hW
  have ep : pa h' s = pa h s := by unfold pa; rw [w4]
  refine ⟨w7, by show h'.R 0 s 0 = _; rw [w4]; exact hO.2.1, by rw [ep]; show h'.R 0 _ 0 = _; rw [w4]; exact hO.2.2.1, fun i hi => by rw [w8]; exact hQ i hi⟩
/-- a span made narrower -/
def nrP (P : Nat → Int) (m lo hi : Int) : Nat → Int := upS P m (max lo (P (2 * m).toNat)) (min hi (P (2 * m + 1).toNat))
theorem upS_cg {P Q : Nat → Int} {m x y : Int} (hc : ∀ i, i < 10 → P i = Q i) : ∀ i, i < 10 → upS P m x y i = upS Q m x y i := fun i hi => by
  unfold upS
  rw [hc i hi]
theorem cs_nr {s y : Nat} {P : Nat → Int} {m x z : Int} (hO : isO h s y P) (h0 : 0 ≤ m) (h1 : m < 5) (hx : r32 x) (hz : r32 z) (hr : ∀ i, i < 10 → r32 (P i)) : CT γ mX10_narrow 1 0 0 [.ref s, .int (jI m), .int (jI x), .int (jI z)] h (fun r h' => r = none ∧ spW h h' s (upS (sv h s) m (max x (P (2 * m).toNat)) (min z (P (2 * m + 1).toNat))) ∧ isO h' s y (nrP P m x z)) X0 := by
  have e1 : sv h s (2 * m).toNat = P (2 * m).toNat := hO.2.2.2 _ (by omega)
  have e2 : sv h s (2 * m + 1).toNat = P (2 * m + 1).toNat := hO.2.2.2 _ (by omega)
  have c := cs_narrow (γ := γ) hO.1 h0 h1 hx hz (fun i hi => by rw [hO.2.2.2 i hi]; exact hr i hi)
  rw [e1, e2] at c
  exact c.gh (fun r h' ⟨q1, q2⟩ => ⟨h', ⟨q1, q2, hO.spW q2 (upS_cg hO.2.2.2)⟩, fun _ z => z⟩)
theorem isY.nr {h' : jM} {y s : Nat} {n c : Int} {ld : Option Nat} {P P' Q : Nat → Int} (hY : isY h y n ld c P) (hs : h.R 10 y 3 = some s) (hW : spW h h' s Q) (hO : isO h' s y P') : isY h' y n ld c P' := by
  obtain ⟨a1, a0, a2, a3, a4, s2, a5, a6⟩ := hY
  obtain ⟨w1, w2, w3, w4, w5, w6, w7, w8⟩ := hW
  exact ⟨by rw [w1]; exact a1, by show h'.R 0 y 0 = _; rw [w4]; exact a0, by rw [w5 10 (by omega)]; exact a2, by rw [w4]; exact a3, by rw [w5 10 (by omega)]; exact a4, s, by rw [w4]; exact hs, hO⟩
theorem isLs.spW {h' : jM} {a e s : Nat} {ys : List Nat} {Q : Nat → Int} (hL : isLs γ h a e ys) (hW : spW h h' s Q) : isLs γ h' a e ys := by
  obtain ⟨w1, w2, w3, w4, w5, w6, w7, w8⟩ := hW
  obtain ⟨⟨h1, h2, h3, h4, h5, h6, h7, h8, h9⟩, n1, n2⟩ := hL
  exact ⟨⟨by rw [w1]; exact h1, by rw [w4]; exact h2, by rw [w1]; exact h3, by rw [w5 3 (by omega)]; exact h4, by rw [w2]; exact h5, by rw [w2]; exact h6, by rw [w2]; exact h7, fun i hi => by rw [w4]; exact h8 i hi, fun hn => by rw [w5 34 (by omega)]; rw [w2] at hn; exact h9 hn⟩, n1, fun y hy => by show h'.R 0 y 1 = _; rw [w4]; exact n2 y hy⟩
variable {a e p ld : Nat} {ys : List Nat} {N C : Int → Int} {D : Int → Option Nat} {P : Int → Nat → Int}
/-- the parts of these layers may be written -/
abbrev pyW (h : jM) (ys : List Nat) : Nat → Prop := fun z => h.tag z = 20 ∧ ∃ y ∈ ys, ow h z = some y
def nrL (D : Int → Option Nat) (P : Int → Nat → Int) (ld : Nat) (m lo hi : Int) : Int → Nat → Int := fun k => if D k = some ld then nrP (P k) m lo hi else P k
theorem cx_narrowL {m lo hi : Int} (hp : h.tag p = 8) (hr : h.R 8 p 0 = some a) (hm : 0 ≤ m ∧ m < 5) (hlo : r32 lo) (hhi : r32 hi) (hL : isLs γ h a e ys) (hY : lays h ys N D C P) (hPb : ∀ k i : Nat, k < ys.length → i < 10 → r32 (P k i)) : CT γ mX4_narrowLayersOf 3 0 0 [.ref p, .ref ld, .int (jI m), .int (jI lo), .int (jI hi)] h (fun r h' => r = none ∧ isLs γ h' a e ys ∧ lays h' ys N D C (nrL D P ld m lo hi) ∧ Fr h h' (pyW h ys) ∧ h'.tag = h.tag) X0 := by
  have hlen := hL.1.len
  refine CT.of MX4_narrowLayersOf (Nat.le_of_ble_eq_true rfl) ?_
  show J γ mX4_narrowLayersOf 3 0 0 0 0 h 0 [(0, .ref p), (1, .ref ld), (2, .int (jI m)), (3, .int (jI lo)), (4, .int (jI hi))] [] _ _
  refine J.iconst (pc' := 1) rfl rfl ?_
  refine J.istore (pc' := 3) rfl rfl (by decide) ?_
  have key : ∀ (j i : Nat), i + j = ys.length → ∀ k : jM, isLs γ k a e ys → lays k ys N D C (fun x => if x < (i : Int) then nrL D P ld m lo hi x else P x) → Fr h k (pyW h ys) → k.tag = h.tag → ∀ lv, hasL lv [(0, .ref p), (1, .ref ld), (2, .int (jI m)), (3, .int (jI lo)), (4, .int (jI hi)), (5, .int (jI (i : Int)))] → J γ mX4_narrowLayersOf 3 0 0 0 0 k 3 lv [] (fun r h' => r = none ∧ isLs γ h' a e ys ∧ lays h' ys N D C (nrL D P ld m lo hi) ∧ Fr h h' (pyW h ys) ∧ h'.tag = h.tag) X0 := by
    intro j
    induction j with
    | zero =>
      intro i hi2 k b1 b2 b3 b4 lv hlv
      have ta := b1.1.1
      have tp : k.tag p = 8 := by rw [b4]; exact hp
      have rp : k.R 8 p 0 = some a := by rw [b3.R hp (by omega) (fun z => by omega)]; exact hr
      refine J.lc hlv ?_
      refine J.iload (pc' := 5) rfl rfl rfl ?_
      first | refine J.aload_n (pc' := 6) rfl rfl rfl ?_ | refine J.aload_nN (pc' := 6) rfl rfl rfl ?_
      first | refine J.getR (pc' := 9) rfl fl_X4_12 rfl (by first | assumption | (simp only [jM.tag_sI, jM.tag_sL, jM.tag_sR, jM.tag_fI, jM.tag_fL, jM.tag_fR]; assumption) | (simp [jM.tag_nw, jM.tag_sI, jM.tag_sL, jM.tag_sR, jM.tag_fI, jM.tag_fL, jM.tag_fR, *]; done)) (by first | assumption | (simp only [jM.R_sI, jM.R_sL, jM.R_fI, jM.R_fL]; assumption) | (simp [jM.R_nw, jM.R_sR, jM.R_fR, jM.R_sI, jM.R_sL, jM.R_fI, jM.R_fL, *]; done)) rfl ?_ | refine J.getRN (pc' := 9) rfl fl_X4_12 rfl (by first | assumption | (simp only [jM.tag_sI, jM.tag_sL, jM.tag_sR, jM.tag_fI, jM.tag_fL, jM.tag_fR]; assumption) | (simp [jM.tag_nw, jM.tag_sI, jM.tag_sL, jM.tag_sR, jM.tag_fI, jM.tag_fL, jM.tag_fR, *]; done)) (by first | assumption | (simp only [jM.R_sI, jM.R_sL, jM.R_fI, jM.R_fL]; assumption) | (simp [jM.R_nw, jM.R_sR, jM.R_fR, jM.R_sI, jM.R_sL, jM.R_fI, jM.R_fL, *]; done)) rfl ?_
      refine J.callV (pc' := 12) (t := 3) rfl MJx4a65c_size_8abf5 ml_X4_18 iv_Jx4a65c_size_8abf5 (by decide) ⟨_, rfl, rfl⟩ (by first | assumption | (simp only [jM.tag_sI, jM.tag_sL, jM.tag_sR, jM.tag_fI, jM.tag_fL, jM.tag_fR]; assumption) | (simp [jM.tag_nw, jM.tag_sI, jM.tag_sL, jM.tag_sR, jM.tag_fI, jM.tag_fL, jM.tag_fR, *]; done)) b1.1.size rfl rfl (Nat.le_of_ble_eq_true rfl) (by first | omega | (exact R.r _ _) | (simp only [jM.len_sI, jM.len_sL, jM.len_sR, jM.len_fI, jM.len_fL, jM.len_fR]; omega) | (simp [jM.len_nw, jM.len_sI, jM.len_sL, jM.len_sR, jM.len_fI, jM.len_fL, jM.len_fR, *]; omega)) (by first | omega | (exact R.r _ _) | (simp only [jM.len_sI, jM.len_sL, jM.len_sR, jM.len_fI, jM.len_fL, jM.len_fR]; omega) | (simp [jM.len_nw, jM.len_sI, jM.len_sL, jM.len_sR, jM.len_fI, jM.len_fL, jM.len_fR, *]; omega)) (by first | omega | (exact R.r _ _) | (simp only [jM.len_sI, jM.len_sL, jM.len_sR, jM.len_fI, jM.len_fL, jM.len_fR]; omega) | (simp [jM.len_nw, jM.len_sI, jM.len_sL, jM.len_sR, jM.len_fI, jM.len_fL, jM.len_fR, *]; omega)) rfl rfl ?_ ?_
      · exact fun _ _ h => h
      rintro _ k ⟨rfl, rfl⟩
      refine J.icmp_ge (tgt := 62) (pc' := 15) rfl rfl rfl (by first | omega | (exact R.r _ _) | (simp only [jM.len_sI, jM.len_sL, jM.len_sR, jM.len_fI, jM.len_fL, jM.len_fR]; omega) | (simp [jM.len_nw, jM.len_sI, jM.len_sL, jM.len_sR, jM.len_fI, jM.len_fL, jM.len_fR, *]; omega)) (by first | omega | (exact R.r _ _) | (simp only [jM.len_sI, jM.len_sL, jM.len_sR, jM.len_fI, jM.len_fL, jM.len_fR]; omega) | (simp [jM.len_nw, jM.len_sI, jM.len_sL, jM.len_sR, jM.len_fI, jM.len_fL, jM.len_fR, *]; omega)) (fun c1 => ?_) (fun c1 => ?_)
      · refine J.vret rfl rfl (by first | omega | (exact R.r _ _) | (simp only [jM.len_sI, jM.len_sL, jM.len_sR, jM.len_fI, jM.len_fL, jM.len_fR]; omega) | (simp [jM.len_nw, jM.len_sI, jM.len_sL, jM.len_sR, jM.len_fI, jM.len_fL, jM.len_fR, *]; omega)) (by first | omega | (exact R.r _ _) | (simp only [jM.len_sI, jM.len_sL, jM.len_sR, jM.len_fI, jM.len_fL, jM.len_fR]; omega) | (simp [jM.len_nw, jM.len_sI, jM.len_sL, jM.len_sR, jM.len_fI, jM.len_fL, jM.len_fR, *]; omega)) ?_
        exact ⟨rfl, b1, b2.cg (fun x hx => ⟨rfl, rfl, rfl, by (try dsimp only); rw [if_pos (by omega)]⟩), b3, b4⟩
      · omega
    | succ j ih =>
      intro i hi2 k b1 b2 b3 b4 lv hlv
      have ta := b1.1.1
      have tp : k.tag p = 8 := by rw [b4]; exact hp
      have rp : k.R 8 p 0 = some a := by rw [b3.R hp (by omega) (fun z => by omega)]; exact hr
      obtain ⟨y, hy⟩ : ∃ y, ys[i]? = some y := ⟨_, List.getElem?_eq_getElem (by omega)⟩
      have hyy := b2 i y hy
      try dsimp only at hyy
      rw [if_neg (by omega)] at hyy
      have hy0 := hyy
      obtain ⟨y1, y0, y2, y3, y4, s, y5, y6⟩ := hyy
      have nx : ∀ (k' : jM) , isLs γ k' a e ys → lays k' ys N D C (fun x => if x < (i : Int) + 1 then nrL D P ld m lo hi x else P x) → Fr h k' (pyW h ys) → k'.tag = h.tag → ∀ lv, hasL lv [(0, .ref p), (1, .ref ld), (2, .int (jI m)), (3, .int (jI lo)), (4, .int (jI hi)), (5, .int (jI (i : Int)))] → J γ mX4_narrowLayersOf 3 0 0 0 0 k' 56 lv [] (fun r h' => r = none ∧ isLs γ h' a e ys ∧ lays h' ys N D C (nrL D P ld m lo hi) ∧ Fr h h' (pyW h ys) ∧ h'.tag = h.tag) X0 := by
        intro k' z1 z2 z3 z4 lv hlv
        refine J.lc hlv ?_
        refine J.iinc (pc' := 59) rfl rfl rfl (by decide) ?_
        refine J.goto (tgt := 3) rfl rfl ?_
        exact ih (i + 1) (by omega) k' z1 z2 z3 z4 _ ⟨rfl, rfl, rfl, rfl, rfl, rfl, trivial⟩
      have same : D i ≠ some ld → lays k ys N D C (fun x => if x < (i : Int) + 1 then nrL D P ld m lo hi x else P x) := fun hD => b2.cg (fun x hx => ⟨rfl, rfl, rfl, by
        try dsimp only
        by_cases c : (x : Int) < (i : Int)
        · rw [if_pos c, if_pos (by omega)]
        · rw [if_neg c]
          by_cases c2 : (x : Int) < (i : Int) + 1
          · have ex : x = i := by omega
            subst ex
            rw [if_pos c2]
            unfold nrL
            rw [if_neg hD]
          · rw [if_neg c2]⟩)
      refine J.lc hlv ?_
      refine J.iload (pc' := 5) rfl rfl rfl ?_
      first | refine J.aload_n (pc' := 6) rfl rfl rfl ?_ | refine J.aload_nN (pc' := 6) rfl rfl rfl ?_
      first | refine J.getR (pc' := 9) rfl fl_X4_12 rfl (by first | assumption | (simp only [jM.tag_sI, jM.tag_sL, jM.tag_sR, jM.tag_fI, jM.tag_fL, jM.tag_fR]; assumption) | (simp [jM.tag_nw, jM.tag_sI, jM.tag_sL, jM.tag_sR, jM.tag_fI, jM.tag_fL, jM.tag_fR, *]; done)) (by first | assumption | (simp only [jM.R_sI, jM.R_sL, jM.R_fI, jM.R_fL]; assumption) | (simp [jM.R_nw, jM.R_sR, jM.R_fR, jM.R_sI, jM.R_sL, jM.R_fI, jM.R_fL, *]; done)) rfl ?_ | refine J.getRN (pc' := 9) rfl fl_X4_12 rfl (by first | assumption | (simp only [jM.tag_sI, jM.tag_sL, jM.tag_sR, jM.tag_fI, jM.tag_fL, jM.tag_fR]; assumption) | (simp [jM.tag_nw, jM.tag_sI, jM.tag_sL, jM.tag_sR, jM.tag_fI, jM.tag_fL, jM.tag_fR, *]; done)) (by first | assumption | (simp only [jM.R_sI, jM.R_sL, jM.R_fI, jM.R_fL]; assumption) | (simp [jM.R_nw, jM.R_sR, jM.R_fR, jM.R_sI, jM.R_sL, jM.R_fI, jM.R_fL, *]; done)) rfl ?_
      refine J.callV (pc' := 12) (t := 3) rfl MJx4a65c_size_8abf5 ml_X4_18 iv_Jx4a65c_size_8abf5 (by decide) ⟨_, rfl, rfl⟩ (by first | assumption | (simp only [jM.tag_sI, jM.tag_sL, jM.tag_sR, jM.tag_fI, jM.tag_fL, jM.tag_fR]; assumption) | (simp [jM.tag_nw, jM.tag_sI, jM.tag_sL, jM.tag_sR, jM.tag_fI, jM.tag_fL, jM.tag_fR, *]; done)) b1.1.size rfl rfl (Nat.le_of_ble_eq_true rfl) (by first | omega | (exact R.r _ _) | (simp only [jM.len_sI, jM.len_sL, jM.len_sR, jM.len_fI, jM.len_fL, jM.len_fR]; omega) | (simp [jM.len_nw, jM.len_sI, jM.len_sL, jM.len_sR, jM.len_fI, jM.len_fL, jM.len_fR, *]; omega)) (by first | omega | (exact R.r _ _) | (simp only [jM.len_sI, jM.len_sL, jM.len_sR, jM.len_fI, jM.len_fL, jM.len_fR]; omega) | (simp [jM.len_nw, jM.len_sI, jM.len_sL, jM.len_sR, jM.len_fI, jM.len_fL, jM.len_fR, *]; omega)) (by first | omega | (exact R.r _ _) | (simp only [jM.len_sI, jM.len_sL, jM.len_sR, jM.len_fI, jM.len_fL, jM.len_fR]; omega) | (simp [jM.len_nw, jM.len_sI, jM.len_sL, jM.len_sR, jM.len_fI, jM.len_fL, jM.len_fR, *]; omega)) rfl rfl ?_ ?_
      · exact fun _ _ h => h
      rintro _ k ⟨rfl, rfl⟩
      refine J.icmp_ge (tgt := 62) (pc' := 15) rfl rfl rfl (by first | omega | (exact R.r _ _) | (simp only [jM.len_sI, jM.len_sL, jM.len_sR, jM.len_fI, jM.len_fL, jM.len_fR]; omega) | (simp [jM.len_nw, jM.len_sI, jM.len_sL, jM.len_sR, jM.len_fI, jM.len_fL, jM.len_fR, *]; omega)) (by first | omega | (exact R.r _ _) | (simp only [jM.len_sI, jM.len_sL, jM.len_sR, jM.len_fI, jM.len_fL, jM.len_fR]; omega) | (simp [jM.len_nw, jM.len_sI, jM.len_sL, jM.len_sR, jM.len_fI, jM.len_fL, jM.len_fR, *]; omega)) (fun c1 => ?_) (fun c1 => ?_)
      · omega
      · first | refine J.aload_n (pc' := 16) rfl rfl rfl ?_ | refine J.aload_nN (pc' := 16) rfl rfl rfl ?_
        first | refine J.getR (pc' := 19) rfl fl_X4_12 rfl (by first | assumption | (simp only [jM.tag_sI, jM.tag_sL, jM.tag_sR, jM.tag_fI, jM.tag_fL, jM.tag_fR]; assumption) | (simp [jM.tag_nw, jM.tag_sI, jM.tag_sL, jM.tag_sR, jM.tag_fI, jM.tag_fL, jM.tag_fR, *]; done)) (by first | assumption | (simp only [jM.R_sI, jM.R_sL, jM.R_fI, jM.R_fL]; assumption) | (simp [jM.R_nw, jM.R_sR, jM.R_fR, jM.R_sI, jM.R_sL, jM.R_fI, jM.R_fL, *]; done)) rfl ?_ | refine J.getRN (pc' := 19) rfl fl_X4_12 rfl (by first | assumption | (simp only [jM.tag_sI, jM.tag_sL, jM.tag_sR, jM.tag_fI, jM.tag_fL, jM.tag_fR]; assumption) | (simp [jM.tag_nw, jM.tag_sI, jM.tag_sL, jM.tag_sR, jM.tag_fI, jM.tag_fL, jM.tag_fR, *]; done)) (by first | assumption | (simp only [jM.R_sI, jM.R_sL, jM.R_fI, jM.R_fL]; assumption) | (simp [jM.R_nw, jM.R_sR, jM.R_fR, jM.R_sI, jM.R_sL, jM.R_fI, jM.R_fL, *]; done)) rfl ?_
        refine J.iload (pc' := 21) rfl rfl rfl ?_
        refine J.callV (pc' := 24) (t := 3) rfl MJx4a65c_get_915e3 ml_X4_22 iv_Jx4a65c_get_915e3 (by decide) ⟨_, rfl, rfl⟩ (by first | assumption | (simp only [jM.tag_sI, jM.tag_sL, jM.tag_sR, jM.tag_fI, jM.tag_fL, jM.tag_fR]; assumption) | (simp [jM.tag_nw, jM.tag_sI, jM.tag_sL, jM.tag_sR, jM.tag_fI, jM.tag_fL, jM.tag_fR, *]; done)) (b1.1.get hy) rfl rfl (Nat.le_of_ble_eq_true rfl) (by first | omega | (exact R.r _ _) | (simp only [jM.len_sI, jM.len_sL, jM.len_sR, jM.len_fI, jM.len_fL, jM.len_fR]; omega) | (simp [jM.len_nw, jM.len_sI, jM.len_sL, jM.len_sR, jM.len_fI, jM.len_fL, jM.len_fR, *]; omega)) (by first | omega | (exact R.r _ _) | (simp only [jM.len_sI, jM.len_sL, jM.len_sR, jM.len_fI, jM.len_fL, jM.len_fR]; omega) | (simp [jM.len_nw, jM.len_sI, jM.len_sL, jM.len_sR, jM.len_fI, jM.len_fL, jM.len_fR, *]; omega)) (by first | omega | (exact R.r _ _) | (simp only [jM.len_sI, jM.len_sL, jM.len_sR, jM.len_fI, jM.len_fL, jM.len_fR]; omega) | (simp [jM.len_nw, jM.len_sI, jM.len_sL, jM.len_sR, jM.len_fI, jM.len_fL, jM.len_fR, *]; omega)) rfl rfl ?_ ?_
        · exact fun _ _ h => h
        rintro _ k ⟨rfl, rfl⟩
        refine J.cast (pc' := 27) (t := 10) rfl (⟨by decide, by decide, _, RX6, rfl, List.mem_of_getElem? (i := 1169) (by decide +kernel), Or.inl rfl⟩) (by first | assumption | (simp only [jM.tag_sI, jM.tag_sL, jM.tag_sR, jM.tag_fI, jM.tag_fL, jM.tag_fR]; assumption) | (simp [jM.tag_nw, jM.tag_sI, jM.tag_sL, jM.tag_sR, jM.tag_fI, jM.tag_fL, jM.tag_fR, *]; done)) rfl ?_
        cases hD : D i with
        | none =>
          rw [hD] at y3
          first | refine J.getR (pc' := 30) rfl fl_X4_77 rfl (by first | assumption | (simp only [jM.tag_sI, jM.tag_sL, jM.tag_sR, jM.tag_fI, jM.tag_fL, jM.tag_fR]; assumption) | (simp [jM.tag_nw, jM.tag_sI, jM.tag_sL, jM.tag_sR, jM.tag_fI, jM.tag_fL, jM.tag_fR, *]; done)) (by first | assumption | (simp only [jM.R_sI, jM.R_sL, jM.R_fI, jM.R_fL]; assumption) | (simp [jM.R_nw, jM.R_sR, jM.R_fR, jM.R_sI, jM.R_sL, jM.R_fI, jM.R_fL, *]; done)) rfl ?_ | refine J.getRN (pc' := 30) rfl fl_X4_77 rfl (by first | assumption | (simp only [jM.tag_sI, jM.tag_sL, jM.tag_sR, jM.tag_fI, jM.tag_fL, jM.tag_fR]; assumption) | (simp [jM.tag_nw, jM.tag_sI, jM.tag_sL, jM.tag_sR, jM.tag_fI, jM.tag_fL, jM.tag_fR, *]; done)) (by first | assumption | (simp only [jM.R_sI, jM.R_sL, jM.R_fI, jM.R_fL]; assumption) | (simp [jM.R_nw, jM.R_sR, jM.R_fR, jM.R_sI, jM.R_sL, jM.R_fI, jM.R_fL, *]; done)) rfl ?_
          first | refine J.aload_n (pc' := 31) rfl rfl rfl ?_ | refine J.aload_nN (pc' := 31) rfl rfl rfl ?_
          refine J.acmp_ne (rx := none) (ry := some ld) (tgt := 56) (pc' := 34) rfl rfl rfl (fun c => ?_) (fun c => ?_)
          · exact nx k b1 (same (by rw [hD]; exact fun z => by cases z)) b3 b4 _ ⟨rfl, rfl, rfl, rfl, rfl, rfl, trivial⟩
          · cases c
        | some l2 =>
          rw [hD] at y3
          first | refine J.getR (pc' := 30) rfl fl_X4_77 rfl (by first | assumption | (simp only [jM.tag_sI, jM.tag_sL, jM.tag_sR, jM.tag_fI, jM.tag_fL, jM.tag_fR]; assumption) | (simp [jM.tag_nw, jM.tag_sI, jM.tag_sL, jM.tag_sR, jM.tag_fI, jM.tag_fL, jM.tag_fR, *]; done)) (by first | assumption | (simp only [jM.R_sI, jM.R_sL, jM.R_fI, jM.R_fL]; assumption) | (simp [jM.R_nw, jM.R_sR, jM.R_fR, jM.R_sI, jM.R_sL, jM.R_fI, jM.R_fL, *]; done)) rfl ?_ | refine J.getRN (pc' := 30) rfl fl_X4_77 rfl (by first | assumption | (simp only [jM.tag_sI, jM.tag_sL, jM.tag_sR, jM.tag_fI, jM.tag_fL, jM.tag_fR]; assumption) | (simp [jM.tag_nw, jM.tag_sI, jM.tag_sL, jM.tag_sR, jM.tag_fI, jM.tag_fL, jM.tag_fR, *]; done)) (by first | assumption | (simp only [jM.R_sI, jM.R_sL, jM.R_fI, jM.R_fL]; assumption) | (simp [jM.R_nw, jM.R_sR, jM.R_fR, jM.R_sI, jM.R_sL, jM.R_fI, jM.R_fL, *]; done)) rfl ?_
          first | refine J.aload_n (pc' := 31) rfl rfl rfl ?_ | refine J.aload_nN (pc' := 31) rfl rfl rfl ?_
          refine J.acmp_ne (rx := some l2) (ry := some ld) (tgt := 56) (pc' := 34) rfl rfl rfl (fun c => ?_) (fun c => ?_)
          · exact nx k b1 (same (by rw [hD]; exact c)) b3 b4 _ ⟨rfl, rfl, rfl, rfl, rfl, rfl, trivial⟩
          · first | refine J.aload_n (pc' := 35) rfl rfl rfl ?_ | refine J.aload_nN (pc' := 35) rfl rfl rfl ?_
            first | refine J.getR (pc' := 38) rfl fl_X4_12 rfl (by first | assumption | (simp only [jM.tag_sI, jM.tag_sL, jM.tag_sR, jM.tag_fI, jM.tag_fL, jM.tag_fR]; assumption) | (simp [jM.tag_nw, jM.tag_sI, jM.tag_sL, jM.tag_sR, jM.tag_fI, jM.tag_fL, jM.tag_fR, *]; done)) (by first | assumption | (simp only [jM.R_sI, jM.R_sL, jM.R_fI, jM.R_fL]; assumption) | (simp [jM.R_nw, jM.R_sR, jM.R_fR, jM.R_sI, jM.R_sL, jM.R_fI, jM.R_fL, *]; done)) rfl ?_ | refine J.getRN (pc' := 38) rfl fl_X4_12 rfl (by first | assumption | (simp only [jM.tag_sI, jM.tag_sL, jM.tag_sR, jM.tag_fI, jM.tag_fL, jM.tag_fR]; assumption) | (simp [jM.tag_nw, jM.tag_sI, jM.tag_sL, jM.tag_sR, jM.tag_fI, jM.tag_fL, jM.tag_fR, *]; done)) (by first | assumption | (simp only [jM.R_sI, jM.R_sL, jM.R_fI, jM.R_fL]; assumption) | (simp [jM.R_nw, jM.R_sR, jM.R_fR, jM.R_sI, jM.R_sL, jM.R_fI, jM.R_fL, *]; done)) rfl ?_
            refine J.iload (pc' := 40) rfl rfl rfl ?_
            refine J.callV (pc' := 43) (t := 3) rfl MJx4a65c_get_915e3 ml_X4_22 iv_Jx4a65c_get_915e3 (by decide) ⟨_, rfl, rfl⟩ (by first | assumption | (simp only [jM.tag_sI, jM.tag_sL, jM.tag_sR, jM.tag_fI, jM.tag_fL, jM.tag_fR]; assumption) | (simp [jM.tag_nw, jM.tag_sI, jM.tag_sL, jM.tag_sR, jM.tag_fI, jM.tag_fL, jM.tag_fR, *]; done)) (b1.1.get hy) rfl rfl (Nat.le_of_ble_eq_true rfl) (by first | omega | (exact R.r _ _) | (simp only [jM.len_sI, jM.len_sL, jM.len_sR, jM.len_fI, jM.len_fL, jM.len_fR]; omega) | (simp [jM.len_nw, jM.len_sI, jM.len_sL, jM.len_sR, jM.len_fI, jM.len_fL, jM.len_fR, *]; omega)) (by first | omega | (exact R.r _ _) | (simp only [jM.len_sI, jM.len_sL, jM.len_sR, jM.len_fI, jM.len_fL, jM.len_fR]; omega) | (simp [jM.len_nw, jM.len_sI, jM.len_sL, jM.len_sR, jM.len_fI, jM.len_fL, jM.len_fR, *]; omega)) (by first | omega | (exact R.r _ _) | (simp only [jM.len_sI, jM.len_sL, jM.len_sR, jM.len_fI, jM.len_fL, jM.len_fR]; omega) | (simp [jM.len_nw, jM.len_sI, jM.len_sL, jM.len_sR, jM.len_fI, jM.len_fL, jM.len_fR, *]; omega)) rfl rfl ?_ ?_
            · exact fun _ _ h => h
            rintro _ k ⟨rfl, rfl⟩
            have ts := y6.1.1
            refine J.cast (pc' := 46) (t := 10) rfl (⟨by decide, by decide, _, RX6, rfl, List.mem_of_getElem? (i := 1169) (by decide +kernel), Or.inl rfl⟩) (by first | assumption | (simp only [jM.tag_sI, jM.tag_sL, jM.tag_sR, jM.tag_fI, jM.tag_fL, jM.tag_fR]; assumption) | (simp [jM.tag_nw, jM.tag_sI, jM.tag_sL, jM.tag_sR, jM.tag_fI, jM.tag_fL, jM.tag_fR, *]; done)) rfl ?_
            first | refine J.getR (pc' := 49) rfl fl_X4_81 rfl (by first | assumption | (simp only [jM.tag_sI, jM.tag_sL, jM.tag_sR, jM.tag_fI, jM.tag_fL, jM.tag_fR]; assumption) | (simp [jM.tag_nw, jM.tag_sI, jM.tag_sL, jM.tag_sR, jM.tag_fI, jM.tag_fL, jM.tag_fR, *]; done)) (by first | assumption | (simp only [jM.R_sI, jM.R_sL, jM.R_fI, jM.R_fL]; assumption) | (simp [jM.R_nw, jM.R_sR, jM.R_fR, jM.R_sI, jM.R_sL, jM.R_fI, jM.R_fL, *]; done)) rfl ?_ | refine J.getRN (pc' := 49) rfl fl_X4_81 rfl (by first | assumption | (simp only [jM.tag_sI, jM.tag_sL, jM.tag_sR, jM.tag_fI, jM.tag_fL, jM.tag_fR]; assumption) | (simp [jM.tag_nw, jM.tag_sI, jM.tag_sL, jM.tag_sR, jM.tag_fI, jM.tag_fL, jM.tag_fR, *]; done)) (by first | assumption | (simp only [jM.R_sI, jM.R_sL, jM.R_fI, jM.R_fL]; assumption) | (simp [jM.R_nw, jM.R_sR, jM.R_fR, jM.R_sI, jM.R_sL, jM.R_fI, jM.R_fL, *]; done)) rfl ?_
            refine J.iload_n (pc' := 50) rfl rfl rfl ?_
            refine J.iload_n (pc' := 51) rfl rfl rfl ?_
            refine J.iload (pc' := 53) rfl rfl rfl ?_
            refine J.callV (pc' := 56) (t := 14) rfl MX10_narrow ml_X4_85 iv_X10_narrow (by decide) ⟨_, rfl, rfl⟩ (by first | assumption | (simp only [jM.tag_sI, jM.tag_sL, jM.tag_sR, jM.tag_fI, jM.tag_fL, jM.tag_fR]; assumption) | (simp [jM.tag_nw, jM.tag_sI, jM.tag_sL, jM.tag_sR, jM.tag_fI, jM.tag_fL, jM.tag_fR, *]; done)) (cs_nr y6 hm.1 hm.2 hlo hhi (fun x hx => hPb i x (by omega) hx)) rfl rfl (Nat.le_of_ble_eq_true rfl) (by first | omega | (exact R.r _ _) | (simp only [jM.len_sI, jM.len_sL, jM.len_sR, jM.len_fI, jM.len_fL, jM.len_fR]; omega) | (simp [jM.len_nw, jM.len_sI, jM.len_sL, jM.len_sR, jM.len_fI, jM.len_fL, jM.len_fR, *]; omega)) (by first | omega | (exact R.r _ _) | (simp only [jM.len_sI, jM.len_sL, jM.len_sR, jM.len_fI, jM.len_fL, jM.len_fR]; omega) | (simp [jM.len_nw, jM.len_sI, jM.len_sL, jM.len_sR, jM.len_fI, jM.len_fL, jM.len_fR, *]; omega)) (by first | omega | (exact R.r _ _) | (simp only [jM.len_sI, jM.len_sL, jM.len_sR, jM.len_fI, jM.len_fL, jM.len_fR]; omega) | (simp [jM.len_nw, jM.len_sI, jM.len_sL, jM.len_sR, jM.len_fI, jM.len_fL, jM.len_fR, *]; omega)) rfl rfl ?_ ?_
            · exact fun _ _ h => h
            rintro _ k2 ⟨rfl, q1, q2⟩
            have hpo : ow k (pa k s) = some y := y6.2.2.1
            have tpa : k.tag (pa k s) = 20 := y6.1.2.2.1
            have F2 := q1.2.2.2.2.2.1
            have t2 := q1.1
            refine nx k2 (b1.spW q1) (fun x u hu => ?_) (b3.trans F2 (fun z hz q => ?_)) (by rw [t2]; exact b4) _ ⟨rfl, rfl, rfl, rfl, rfl, rfl, trivial⟩
            · by_cases c3 : x = i
              · subst c3
                rw [hy] at hu
                cases hu
                try dsimp only
                rw [if_pos (by omega)]
                unfold nrL
                rw [if_pos (by rw [hD]; exact c)]
                exact hy0.nr y5 q1 q2
              · have hx := (List.getElem?_eq_some_iff.mp hu).1
                have hb := b2 x u hu
                have e2 : (if (x : Int) < (i : Int) + 1 then nrL D P ld m lo hi x else P x) = (if (x : Int) < (i : Int) then nrL D P ld m lo hi x else P x) := by
                  by_cases c4 : (x : Int) < (i : Int)
                  · rw [if_pos c4, if_pos (by omega)]
                  · rw [if_neg c4, if_neg (by omega)]
                try dsimp only at hb ⊢
                rw [e2]
                refine hb.keptT F2 (fun z hz hoz q => ?_)
                rw [q, hpo] at hoz
                have e3 := Option.some.inj hoz
                subst e3
                exact c3 ((List.getElem?_inj hx b1.2.1).mp (hu.trans hy.symm))
            · rcases q with q | q
              · exact q
              · rw [q]
                exact ⟨by rw [← b4]; exact tpa, y, List.mem_of_getElem? hy, by rw [← b3.ow (by rw [q] at hz; exact hz)]; exact hpo⟩
  exact key ys.length 0 (by omega) h hL (hY.cg (fun x hx => ⟨rfl, rfl, rfl, by (try dsimp only); rw [if_neg (by omega)]⟩)) Fr.rf rfl _ ⟨rfl, rfl, rfl, rfl, rfl, rfl, trivial⟩
end NR

