section WH
variable {γ : jG} {h : jM} {σ : Nat → Nat} {V : VV} {n : Int}
theorem cg_s {V : VV} {s g : Int} (hs : 0 ≤ s ∧ s < 11) (t : Nat) : cg V s g ((t + 1 : Nat) : Int) = cg V s g t + ctY (V 141 (41 * g + (tk V g t).1)) (yP V (41 * g + (tk V g t).1)) s := by
  rw [ctY_eq hs]
  unfold cg
  rw [Int.toNat_natCast, Int.toNat_natCast, gs, Int.mul_add]
abbrev wgP (σ : Nat → Nat) : Nat → Nat → Prop := fun t a => (t = 27 ∧ ∃ s : Nat, s < 11 ∧ a = σ 31 + 1 + s) ∨ (t = 26 ∧ a = σ 26)
/-- heap g filled up to ton m -/
def gvF (h k : jM) (σ : Nat → Nat) (V : VV) (g : Int) (m : Nat) : Prop := (∀ s : Nat, s < 11 → ∀ t : Nat, t ≤ m → gvV k σ s (g * 21 + t) = cg V s g t) ∧ ∀ s : Nat, s < 11 → ∀ (j : Int) (t : Int), 0 ≤ j → j ≠ g → 0 ≤ t → t ≤ 20 → gvV k σ s (j * 21 + t) = gvV h σ s (j * 21 + t)
def wgQ (h : jM) (σ : Nat → Nat) (V : VV) (n g : Int) : Option Value → jM → Prop := fun r h' => r = none ∧ onI h h' (wgP σ) ∧ gvF h h' σ V g (mostP V n g).toNat ∧ ∀ j : Int, 0 ≤ j → moV h' σ j = if j = g then mostP V n g else moV h σ j
theorem cz_wEnd {k : jM} {g : Int} {m : Nat} (hg : 0 ≤ g ∧ g < 6) (hS : isSS h σ) (b1 : onI h k (fun t a => t = 27 ∧ ∃ s : Nat, s < 11 ∧ a = σ 31 + 1 + s)) (b2 : gvF h k σ V g m) (hm : (m : Int) = mostP V n g) : ∀ lv, hasL lv [(0, .ref (σ 0)), (1, .int (jI g)), (4, .int (jI (m : Int)))] → J γ mX0_weigh 4 0 0 0 0 k 78 lv [] (wgQ h σ V n g) X0 := by
  intro lv hlv
  have hS1 := hS.on b1
  obtain ⟨t0, -, -, ⟨r26, t26, l26⟩, -, -, -, -, -, -⟩ := hS1
  refine J.lc hlv ?_
  first | refine J.aload_n (pc' := 79) rfl rfl rfl ?_ | refine J.aload_nN (pc' := 79) rfl rfl rfl ?_
  first | refine J.getR (pc' := 82) rfl fl_X0_18 rfl (by first | assumption | (simp only [jM.tag_sI, jM.tag_sL, jM.tag_sR, jM.tag_fI, jM.tag_fL, jM.tag_fR]; assumption) | (simp [jM.tag_nw, jM.tag_sI, jM.tag_sL, jM.tag_sR, jM.tag_fI, jM.tag_fL, jM.tag_fR, *]; done)) (by first | assumption | (simp only [jM.R_sI, jM.R_sL, jM.R_fI, jM.R_fL]; assumption) | (simp [jM.R_nw, jM.R_sR, jM.R_fR, jM.R_sI, jM.R_sL, jM.R_fI, jM.R_fL, *]; done)) rfl ?_ | refine J.getRN (pc' := 82) rfl fl_X0_18 rfl (by first | assumption | (simp only [jM.tag_sI, jM.tag_sL, jM.tag_sR, jM.tag_fI, jM.tag_fL, jM.tag_fR]; assumption) | (simp [jM.tag_nw, jM.tag_sI, jM.tag_sL, jM.tag_sR, jM.tag_fI, jM.tag_fL, jM.tag_fR, *]; done)) (by first | assumption | (simp only [jM.R_sI, jM.R_sL, jM.R_fI, jM.R_fL]; assumption) | (simp [jM.R_nw, jM.R_sR, jM.R_fR, jM.R_sI, jM.R_sL, jM.R_fI, jM.R_fL, *]; done)) rfl ?_
  refine J.iload_n (pc' := 83) rfl rfl rfl ?_
  refine J.iload (pc' := 85) rfl rfl rfl ?_
  refine J.iast (pc' := 86) rfl (by first | assumption | (simp only [jM.tag_sI, jM.tag_sL, jM.tag_sR, jM.tag_fI, jM.tag_fL, jM.tag_fR]; assumption) | (simp [jM.tag_nw, jM.tag_sI, jM.tag_sL, jM.tag_sR, jM.tag_fI, jM.tag_fL, jM.tag_fR, *]; done)) (by decide) rfl (by first | omega | (exact R.r _ _) | (simp only [jM.len_sI, jM.len_sL, jM.len_sR, jM.len_fI, jM.len_fL, jM.len_fR]; omega) | (simp [jM.len_nw, jM.len_sI, jM.len_sL, jM.len_sR, jM.len_fI, jM.len_fL, jM.len_fR, *]; omega)) (by first | omega | (exact R.r _ _) | (simp only [jM.len_sI, jM.len_sL, jM.len_sR, jM.len_fI, jM.len_fL, jM.len_fR]; omega) | (simp [jM.len_nw, jM.len_sI, jM.len_sL, jM.len_sR, jM.len_fI, jM.len_fL, jM.len_fR, *]; omega)) (by first | omega | (exact R.r _ _) | (simp only [jM.len_sI, jM.len_sL, jM.len_sR, jM.len_fI, jM.len_fL, jM.len_fR]; omega) | (simp [jM.len_nw, jM.len_sI, jM.len_sL, jM.len_sR, jM.len_fI, jM.len_fL, jM.len_fR, *]; omega)) (Or.inl rfl) rfl ?_
  refine J.vret rfl rfl (by first | omega | (exact R.r _ _) | (simp only [jM.len_sI, jM.len_sL, jM.len_sR, jM.len_fI, jM.len_fL, jM.len_fR]; omega) | (simp [jM.len_nw, jM.len_sI, jM.len_sL, jM.len_sR, jM.len_fI, jM.len_fL, jM.len_fR, *]; omega)) (by first | omega | (exact R.r _ _) | (simp only [jM.len_sI, jM.len_sL, jM.len_sR, jM.len_fI, jM.len_fL, jM.len_fR]; omega) | (simp [jM.len_nw, jM.len_sI, jM.len_sL, jM.len_sR, jM.len_fI, jM.len_fL, jM.len_fR, *]; omega)) ?_
  refine ⟨rfl, ⟨b1.1, b1.2.1, b1.2.2.1, b1.2.2.2.1, fun t a k9 hn => ?_⟩, ?_, fun j hj => ?_⟩
  · rw [jM.I_sI, if_neg (fun z => hn (Or.inr ⟨z.1, z.2.1⟩))]
    exact b1.2.2.2.2 t a k9 (fun z => hn (Or.inl z))
  · have e : ∀ s i, gvV (k.sI 26 (σ 26) g.toNat m) σ s i = gvV k σ s i := fun s i => by
      show (k.sI 26 (σ 26) g.toNat m).I 27 _ _ = _
      rw [jM.I_sI, if_neg (by omega)]; rfl
    refine ⟨fun s hs t ht => by rw [e]; exact b2.1 s hs t (by omega), fun s hs j t h1 h2 h3 h4 => by rw [e]; exact b2.2 s hs j t h1 h2 h3 h4⟩
  · show (k.sI 26 (σ 26) g.toNat m).I 26 (σ 26) j.toNat = _
    rw [jM.I_sI]
    by_cases z : j = g
    · rw [if_pos ⟨rfl, rfl, by omega⟩, if_pos z, hm]
    · rw [if_neg (by omega), if_neg z]
      exact b1.2.2.2.2 26 _ _ (by omega)
theorem cz_weigh {g : Int} {p a e : Nat} {ys : List Nat} {D : Int → Option Nat} (R : isR V) (T : isT V) (hn : 1 ≤ n ∧ n ≤ 20) (hg : 0 ≤ g ∧ g < 6) (hS : isSS h σ) (hp : h.tag p = 8) (hr : h.R 8 p 0 = some a) (hL : isL γ h a e ys) (hlen : (ys.length : Int) = V 138 g) (hY : lays h ys (fun k => V 139 (41 * g + k)) D (fun k => V 141 (41 * g + k)) (fun k => yP V (41 * g + k))) (h0 : ∀ s : Nat, s < 11 → gvV h σ s (g * 21) = 0) : CT γ mX0_weigh 4 0 0 [.ref (σ 0), .int (jI g), .ref p, .int (jI n)] h (wgQ h σ V n g) X0 := by
  have hl150 := hL.len
  have hm : 0 ≤ V 138 g := by omega
  have hT : ∀ j : Int, 0 ≤ j → j < V 138 g → 1 ≤ V 139 (41 * g + j) := fun j j0 j1 => T g j hg.1 hg.2 j0 j1
  have tkb := tk_b hm hT
  have Tb : 0 ≤ tonsOf V g := (tons_b R).1
  have sB : ∀ j, -1 ≤ V 139 j ∧ V 139 j ≤ 99999 := fun j => R.s 139 j
  have mo : mostP V n g = min (tonsOf V g) n := rfl
  refine CT.of MX0_weigh (Nat.le_of_ble_eq_true rfl) ?_
  show J γ mX0_weigh 4 0 0 0 0 h 0 [(0, .ref (σ 0)), (1, .int (jI g)), (2, .ref p), (3, .int (jI n))] [] _ _
  refine J.iconst (pc' := 1) rfl rfl ?_
  refine J.istore (pc' := 3) rfl rfl (by decide) ?_
  refine J.iconst (pc' := 4) rfl rfl ?_
  refine J.istore (pc' := 6) rfl rfl (by decide) ?_
  have key : ∀ (r i : Nat), i + r = ys.length → ∀ (m : Nat) (k : jM), (m : Int) ≤ n → (m : Int) ≤ tonsOf V g → ((m : Int) = n ∨ tk V g m = (V 138 g - 1 - (i : Int), 0)) → onI h k (fun t a => t = 27 ∧ ∃ s : Nat, s < 11 ∧ a = σ 31 + 1 + s) → gvF h k σ V g m → ∀ lv, hasL lv [(0, .ref (σ 0)), (1, .int (jI g)), (2, .ref p), (3, .int (jI n)), (4, .int (jI (m : Int))), (5, .int (jI (i : Int)))] → J γ mX0_weigh 4 0 0 0 0 k 6 lv [] (wgQ h σ V n g) X0 := by
    intro r
    induction r with
    | zero =>
      intro i hi m k m1 m2 m3 b1 b2 lv hlv
      have L1 : isL γ k a e ys := hL.keptW b1.fr (fun z => by have := hL.1; omega) (Or.inl (fun z => by have := hL.2.2.1; omega))
      have tp : k.tag p = 8 := by rw [b1.1]; exact hp
      have rp : k.R 8 p 0 = some a := by rw [b1.2.2.2.1]; exact hr
      have ta := L1.1
      refine J.lc hlv ?_
      refine J.iload (pc' := 8) rfl rfl rfl ?_
      first | refine J.aload_n (pc' := 9) rfl rfl rfl ?_ | refine J.aload_nN (pc' := 9) rfl rfl rfl ?_
      first | refine J.getR (pc' := 12) rfl fl_X0_56 rfl (by first | assumption | (simp only [jM.tag_sI, jM.tag_sL, jM.tag_sR, jM.tag_fI, jM.tag_fL, jM.tag_fR]; assumption) | (simp [jM.tag_nw, jM.tag_sI, jM.tag_sL, jM.tag_sR, jM.tag_fI, jM.tag_fL, jM.tag_fR, *]; done)) (by first | assumption | (simp only [jM.R_sI, jM.R_sL, jM.R_fI, jM.R_fL]; assumption) | (simp [jM.R_nw, jM.R_sR, jM.R_fR, jM.R_sI, jM.R_sL, jM.R_fI, jM.R_fL, *]; done)) rfl ?_ | refine J.getRN (pc' := 12) rfl fl_X0_56 rfl (by first | assumption | (simp only [jM.tag_sI, jM.tag_sL, jM.tag_sR, jM.tag_fI, jM.tag_fL, jM.tag_fR]; assumption) | (simp [jM.tag_nw, jM.tag_sI, jM.tag_sL, jM.tag_sR, jM.tag_fI, jM.tag_fL, jM.tag_fR, *]; done)) (by first | assumption | (simp only [jM.R_sI, jM.R_sL, jM.R_fI, jM.R_fL]; assumption) | (simp [jM.R_nw, jM.R_sR, jM.R_fR, jM.R_sI, jM.R_sL, jM.R_fI, jM.R_fL, *]; done)) rfl ?_
      refine J.callV (pc' := 15) (t := 3) rfl MJx4a65c_size_8abf5 ml_X0_62 iv_Jx4a65c_size_8abf5 (by decide) ⟨_, rfl, rfl⟩ (by first | assumption | (simp only [jM.tag_sI, jM.tag_sL, jM.tag_sR, jM.tag_fI, jM.tag_fL, jM.tag_fR]; assumption) | (simp [jM.tag_nw, jM.tag_sI, jM.tag_sL, jM.tag_sR, jM.tag_fI, jM.tag_fL, jM.tag_fR, *]; done)) L1.size rfl rfl (Nat.le_of_ble_eq_true rfl) (by first | omega | (exact R.r _ _) | (simp only [jM.len_sI, jM.len_sL, jM.len_sR, jM.len_fI, jM.len_fL, jM.len_fR]; omega) | (simp [jM.len_nw, jM.len_sI, jM.len_sL, jM.len_sR, jM.len_fI, jM.len_fL, jM.len_fR, *]; omega)) (by first | omega | (exact R.r _ _) | (simp only [jM.len_sI, jM.len_sL, jM.len_sR, jM.len_fI, jM.len_fL, jM.len_fR]; omega) | (simp [jM.len_nw, jM.len_sI, jM.len_sL, jM.len_sR, jM.len_fI, jM.len_fL, jM.len_fR, *]; omega)) (by first | omega | (exact R.r _ _) | (simp only [jM.len_sI, jM.len_sL, jM.len_sR, jM.len_fI, jM.len_fL, jM.len_fR]; omega) | (simp [jM.len_nw, jM.len_sI, jM.len_sL, jM.len_sR, jM.len_fI, jM.len_fL, jM.len_fR, *]; omega)) rfl rfl ?_ ?_
      · exact fun _ _ h => h
      rintro _ k ⟨rfl, rfl⟩
      refine J.icmp_ge (tgt := 78) (pc' := 18) rfl rfl rfl (by first | omega | (exact R.r _ _) | (simp only [jM.len_sI, jM.len_sL, jM.len_sR, jM.len_fI, jM.len_fL, jM.len_fR]; omega) | (simp [jM.len_nw, jM.len_sI, jM.len_sL, jM.len_sR, jM.len_fI, jM.len_fL, jM.len_fR, *]; omega)) (by first | omega | (exact R.r _ _) | (simp only [jM.len_sI, jM.len_sL, jM.len_sR, jM.len_fI, jM.len_fL, jM.len_fR]; omega) | (simp [jM.len_nw, jM.len_sI, jM.len_sL, jM.len_sR, jM.len_fI, jM.len_fL, jM.len_fR, *]; omega)) (fun c1 => ?_) (fun c1 => ?_)
      · refine cz_wEnd hg hS b1 b2 ?_ _ ⟨rfl, rfl, rfl, trivial⟩
        rcases m3 with q | q
        · omega
        · have t1 := (tkb m m2).2.2.2.2
          rw [q] at t1
          have : (V 138 g - 1 - (i : Int) + 1).toNat = 0 := by omega
          rw [this] at t1
          have e0 : Sm (fun j => V 139 (41 * g + j)) 0 = 0 := rfl
          omega
      · omega
    | succ r ih =>
      intro i hi m k m1 m2 m3 b1 b2 lv hlv
      have L1 : isL γ k a e ys := hL.keptW b1.fr (fun z => by have := hL.1; omega) (Or.inl (fun z => by have := hL.2.2.1; omega))
      have tp : k.tag p = 8 := by rw [b1.1]; exact hp
      have rp : k.R 8 p 0 = some a := by rw [b1.2.2.2.1]; exact hr
      have ta := L1.1
      obtain ⟨y, hy⟩ : ∃ y, ys[ys.length - 1 - i]? = some y := ⟨_, List.getElem?_eq_getElem (by omega)⟩
      have hyy := hY _ y hy
      have ei : ((ys.length - 1 - i : Nat) : Int) = V 138 g - 1 - (i : Int) := by omega
      rw [ei] at hyy
      dsimp only at hyy
      have hN := hT (V 138 g - 1 - (i : Int)) (by omega) (by omega)
      have hN2 := sB (41 * g + (V 138 g - 1 - (i : Int)))
      have Y1 := hyy.onG b1 (fun t a q => by omega)
      have ty := Y1.1
      refine J.lc hlv ?_
      refine J.iload (pc' := 8) rfl rfl rfl ?_
      first | refine J.aload_n (pc' := 9) rfl rfl rfl ?_ | refine J.aload_nN (pc' := 9) rfl rfl rfl ?_
      first | refine J.getR (pc' := 12) rfl fl_X0_56 rfl (by first | assumption | (simp only [jM.tag_sI, jM.tag_sL, jM.tag_sR, jM.tag_fI, jM.tag_fL, jM.tag_fR]; assumption) | (simp [jM.tag_nw, jM.tag_sI, jM.tag_sL, jM.tag_sR, jM.tag_fI, jM.tag_fL, jM.tag_fR, *]; done)) (by first | assumption | (simp only [jM.R_sI, jM.R_sL, jM.R_fI, jM.R_fL]; assumption) | (simp [jM.R_nw, jM.R_sR, jM.R_fR, jM.R_sI, jM.R_sL, jM.R_fI, jM.R_fL, *]; done)) rfl ?_ | refine J.getRN (pc' := 12) rfl fl_X0_56 rfl (by first | assumption | (simp only [jM.tag_sI, jM.tag_sL, jM.tag_sR, jM.tag_fI, jM.tag_fL, jM.tag_fR]; assumption) | (simp [jM.tag_nw, jM.tag_sI, jM.tag_sL, jM.tag_sR, jM.tag_fI, jM.tag_fL, jM.tag_fR, *]; done)) (by first | assumption | (simp only [jM.R_sI, jM.R_sL, jM.R_fI, jM.R_fL]; assumption) | (simp [jM.R_nw, jM.R_sR, jM.R_fR, jM.R_sI, jM.R_sL, jM.R_fI, jM.R_fL, *]; done)) rfl ?_
      refine J.callV (pc' := 15) (t := 3) rfl MJx4a65c_size_8abf5 ml_X0_62 iv_Jx4a65c_size_8abf5 (by decide) ⟨_, rfl, rfl⟩ (by first | assumption | (simp only [jM.tag_sI, jM.tag_sL, jM.tag_sR, jM.tag_fI, jM.tag_fL, jM.tag_fR]; assumption) | (simp [jM.tag_nw, jM.tag_sI, jM.tag_sL, jM.tag_sR, jM.tag_fI, jM.tag_fL, jM.tag_fR, *]; done)) L1.size rfl rfl (Nat.le_of_ble_eq_true rfl) (by first | omega | (exact R.r _ _) | (simp only [jM.len_sI, jM.len_sL, jM.len_sR, jM.len_fI, jM.len_fL, jM.len_fR]; omega) | (simp [jM.len_nw, jM.len_sI, jM.len_sL, jM.len_sR, jM.len_fI, jM.len_fL, jM.len_fR, *]; omega)) (by first | omega | (exact R.r _ _) | (simp only [jM.len_sI, jM.len_sL, jM.len_sR, jM.len_fI, jM.len_fL, jM.len_fR]; omega) | (simp [jM.len_nw, jM.len_sI, jM.len_sL, jM.len_sR, jM.len_fI, jM.len_fL, jM.len_fR, *]; omega)) (by first | omega | (exact R.r _ _) | (simp only [jM.len_sI, jM.len_sL, jM.len_sR, jM.len_fI, jM.len_fL, jM.len_fR]; omega) | (simp [jM.len_nw, jM.len_sI, jM.len_sL, jM.len_sR, jM.len_fI, jM.len_fL, jM.len_fR, *]; omega)) rfl rfl ?_ ?_
      · exact fun _ _ h => h
      rintro _ k ⟨rfl, rfl⟩
      refine J.icmp_ge (tgt := 78) (pc' := 18) rfl rfl rfl (by first | omega | (exact R.r _ _) | (simp only [jM.len_sI, jM.len_sL, jM.len_sR, jM.len_fI, jM.len_fL, jM.len_fR]; omega) | (simp [jM.len_nw, jM.len_sI, jM.len_sL, jM.len_sR, jM.len_fI, jM.len_fL, jM.len_fR, *]; omega)) (by first | omega | (exact R.r _ _) | (simp only [jM.len_sI, jM.len_sL, jM.len_sR, jM.len_fI, jM.len_fL, jM.len_fR]; omega) | (simp [jM.len_nw, jM.len_sI, jM.len_sL, jM.len_sR, jM.len_fI, jM.len_fL, jM.len_fR, *]; omega)) (fun c1 => ?_) (fun c1 => ?_)
      · omega
      · refine J.iload (pc' := 20) rfl rfl rfl ?_
        refine J.iload_n (pc' := 21) rfl rfl rfl ?_
        refine J.icmp_ge (tgt := 78) (pc' := 24) rfl rfl rfl (by first | omega | (exact R.r _ _) | (simp only [jM.len_sI, jM.len_sL, jM.len_sR, jM.len_fI, jM.len_fL, jM.len_fR]; omega) | (simp [jM.len_nw, jM.len_sI, jM.len_sL, jM.len_sR, jM.len_fI, jM.len_fL, jM.len_fR, *]; omega)) (by first | omega | (exact R.r _ _) | (simp only [jM.len_sI, jM.len_sL, jM.len_sR, jM.len_fI, jM.len_fL, jM.len_fR]; omega) | (simp [jM.len_nw, jM.len_sI, jM.len_sL, jM.len_sR, jM.len_fI, jM.len_fL, jM.len_fR, *]; omega)) (fun c2 => ?_) (fun c2 => ?_)
        · exact cz_wEnd hg hS b1 b2 (by omega) _ ⟨rfl, rfl, rfl, trivial⟩
        · have m4 : tk V g m = (V 138 g - 1 - (i : Int), 0) := by
            rcases m3 with q | q
            · omega
            · exact q
          first | refine J.aload_n (pc' := 25) rfl rfl rfl ?_ | refine J.aload_nN (pc' := 25) rfl rfl rfl ?_
          refine J.iload (pc' := 27) rfl rfl rfl ?_
          refine J.callV (pc' := 30) (t := 8) rfl MX4_fromTop ml_X0_68 iv_X4_fromTop (by decide) ⟨_, rfl, rfl⟩ (by first | assumption | (simp only [jM.tag_sI, jM.tag_sL, jM.tag_sR, jM.tag_fI, jM.tag_fL, jM.tag_fR]; assumption) | (simp [jM.tag_nw, jM.tag_sI, jM.tag_sL, jM.tag_sR, jM.tag_fI, jM.tag_fL, jM.tag_fR, *]; done)) (cx_fromTop tp rp L1 (by omega) hy ty) rfl rfl (Nat.le_of_ble_eq_true rfl) (by first | omega | (exact R.r _ _) | (simp only [jM.len_sI, jM.len_sL, jM.len_sR, jM.len_fI, jM.len_fL, jM.len_fR]; omega) | (simp [jM.len_nw, jM.len_sI, jM.len_sL, jM.len_sR, jM.len_fI, jM.len_fL, jM.len_fR, *]; omega)) (by first | omega | (exact R.r _ _) | (simp only [jM.len_sI, jM.len_sL, jM.len_sR, jM.len_fI, jM.len_fL, jM.len_fR]; omega) | (simp [jM.len_nw, jM.len_sI, jM.len_sL, jM.len_sR, jM.len_fI, jM.len_fL, jM.len_fR, *]; omega)) (by first | omega | (exact R.r _ _) | (simp only [jM.len_sI, jM.len_sL, jM.len_sR, jM.len_fI, jM.len_fL, jM.len_fR]; omega) | (simp [jM.len_nw, jM.len_sI, jM.len_sL, jM.len_sR, jM.len_fI, jM.len_fL, jM.len_fR, *]; omega)) rfl rfl ?_ ?_
          · exact fun _ _ h => h
          rintro _ k ⟨rfl, rfl⟩
          first | refine J.astore (pc' := 32) rfl rfl (by decide) ?_ | refine J.astoreN (pc' := 32) rfl rfl (by decide) ?_
          refine J.iconst (pc' := 33) rfl rfl ?_
          refine J.istore (pc' := 35) rfl rfl (by decide) ?_
          -- the tons of this layer
          have inn : ∀ (u : Nat) (x : Nat) (m : Nat) (k : jM), (x : Int) + u = V 139 (41 * g + (V 138 g - 1 - (i : Int))) → (m : Int) ≤ n → (m : Int) ≤ tonsOf V g → ((m : Int) = n ∨ (0 < u ∧ tk V g m = (V 138 g - 1 - (i : Int), (x : Int))) ∨ (u = 0 ∧ tk V g m = (V 138 g - 1 - ((i + 1 : Nat) : Int), 0))) → onI h k (fun t a => t = 27 ∧ ∃ s : Nat, s < 11 ∧ a = σ 31 + 1 + s) → gvF h k σ V g m → ∀ lv, hasL lv [(0, .ref (σ 0)), (1, .int (jI g)), (2, .ref p), (3, .int (jI n)), (4, .int (jI (m : Int))), (5, .int (jI (i : Int))), (6, .ref y), (7, .int (jI (x : Int)))] → J γ mX0_weigh 4 0 0 0 0 k 35 lv [] (wgQ h σ V n g) X0 := by
            have out : ∀ (m : Nat) (k : jM), (m : Int) ≤ n → (m : Int) ≤ tonsOf V g → ((m : Int) = n ∨ tk V g m = (V 138 g - 1 - ((i + 1 : Nat) : Int), 0)) → onI h k (fun t a => t = 27 ∧ ∃ s : Nat, s < 11 ∧ a = σ 31 + 1 + s) → gvF h k σ V g m → ∀ lv, hasL lv [(0, .ref (σ 0)), (1, .int (jI g)), (2, .ref p), (3, .int (jI n)), (4, .int (jI (m : Int))), (5, .int (jI (i : Int)))] → J γ mX0_weigh 4 0 0 0 0 k 72 lv [] (wgQ h σ V n g) X0 := by
              intro m k m1 m2 m3 b1 b2 lv hlv
              refine J.lc hlv ?_
              refine J.iinc (pc' := 75) rfl rfl rfl (by decide) ?_
              refine J.goto (tgt := 6) rfl rfl ?_
              exact ih (i + 1) (by omega) m k m1 m2 m3 b1 b2 _ ⟨rfl, rfl, rfl, rfl, rfl, rfl, trivial⟩
            intro u
            induction u with
            | zero =>
              intro x m k hx m1 m2 m3 b1 b2 lv hlv
              have Y1 := hyy.onG b1 (fun t a q => by omega)
              have ty := Y1.1
              have y2 := Y1.2.2.1
              refine J.lc hlv ?_
              refine J.iload (pc' := 37) rfl rfl rfl ?_
              first | refine J.aload (pc' := 39) rfl rfl rfl ?_ | refine J.aloadN (pc' := 39) rfl rfl rfl ?_
              refine J.getI (pc' := 42) rfl fl_X0_72 rfl (by first | assumption | (simp only [jM.tag_sI, jM.tag_sL, jM.tag_sR, jM.tag_fI, jM.tag_fL, jM.tag_fR]; assumption) | (simp [jM.tag_nw, jM.tag_sI, jM.tag_sL, jM.tag_sR, jM.tag_fI, jM.tag_fL, jM.tag_fR, *]; done)) rfl ?_
              rw [y2]
              refine J.icmp_ge (tgt := 72) (pc' := 45) rfl rfl rfl (by first | omega | (exact R.r _ _) | (simp only [jM.len_sI, jM.len_sL, jM.len_sR, jM.len_fI, jM.len_fL, jM.len_fR]; omega) | (simp [jM.len_nw, jM.len_sI, jM.len_sL, jM.len_sR, jM.len_fI, jM.len_fL, jM.len_fR, *]; omega)) (by first | omega | (exact R.r _ _) | (simp only [jM.len_sI, jM.len_sL, jM.len_sR, jM.len_fI, jM.len_fL, jM.len_fR]; omega) | (simp [jM.len_nw, jM.len_sI, jM.len_sL, jM.len_sR, jM.len_fI, jM.len_fL, jM.len_fR, *]; omega)) (fun c3 => ?_) (fun c3 => ?_)
              · refine out m k m1 m2 ?_ b1 b2 _ ⟨rfl, rfl, rfl, rfl, rfl, rfl, trivial⟩
                rcases m3 with q | q | q
                · exact Or.inl q
                · omega
                · exact Or.inr q.2
              · omega
            | succ u ihu =>
              intro x m k hx m1 m2 m3 b1 b2 lv hlv
              have Y1 := hyy.onG b1 (fun t a q => by omega)
              have ty := Y1.1
              have y2 := Y1.2.2.1
              have hS1 := hS.on b1
              have t0 := hS1.1
              refine J.lc hlv ?_
              refine J.iload (pc' := 37) rfl rfl rfl ?_
              first | refine J.aload (pc' := 39) rfl rfl rfl ?_ | refine J.aloadN (pc' := 39) rfl rfl rfl ?_
              refine J.getI (pc' := 42) rfl fl_X0_72 rfl (by first | assumption | (simp only [jM.tag_sI, jM.tag_sL, jM.tag_sR, jM.tag_fI, jM.tag_fL, jM.tag_fR]; assumption) | (simp [jM.tag_nw, jM.tag_sI, jM.tag_sL, jM.tag_sR, jM.tag_fI, jM.tag_fL, jM.tag_fR, *]; done)) rfl ?_
              rw [y2]
              refine J.icmp_ge (tgt := 72) (pc' := 45) rfl rfl rfl (by first | omega | (exact R.r _ _) | (simp only [jM.len_sI, jM.len_sL, jM.len_sR, jM.len_fI, jM.len_fL, jM.len_fR]; omega) | (simp [jM.len_nw, jM.len_sI, jM.len_sL, jM.len_sR, jM.len_fI, jM.len_fL, jM.len_fR, *]; omega)) (by first | omega | (exact R.r _ _) | (simp only [jM.len_sI, jM.len_sL, jM.len_sR, jM.len_fI, jM.len_fL, jM.len_fR]; omega) | (simp [jM.len_nw, jM.len_sI, jM.len_sL, jM.len_sR, jM.len_fI, jM.len_fL, jM.len_fR, *]; omega)) (fun c3 => ?_) (fun c3 => ?_)
              · omega
              · refine J.iload (pc' := 47) rfl rfl rfl ?_
                refine J.iload_n (pc' := 48) rfl rfl rfl ?_
                refine J.icmp_ge (tgt := 72) (pc' := 51) rfl rfl rfl (by first | omega | (exact R.r _ _) | (simp only [jM.len_sI, jM.len_sL, jM.len_sR, jM.len_fI, jM.len_fL, jM.len_fR]; omega) | (simp [jM.len_nw, jM.len_sI, jM.len_sL, jM.len_sR, jM.len_fI, jM.len_fL, jM.len_fR, *]; omega)) (by first | omega | (exact R.r _ _) | (simp only [jM.len_sI, jM.len_sL, jM.len_sR, jM.len_fI, jM.len_fL, jM.len_fR]; omega) | (simp [jM.len_nw, jM.len_sI, jM.len_sL, jM.len_sR, jM.len_fI, jM.len_fL, jM.len_fR, *]; omega)) (fun c4 => ?_) (fun c4 => ?_)
                · exact out m k m1 m2 (Or.inl (by omega)) b1 b2 _ ⟨rfl, rfl, rfl, rfl, rfl, rfl, trivial⟩
                · have m4 : tk V g m = (V 138 g - 1 - (i : Int), (x : Int)) := by
                    rcases m3 with q | q | q
                    · omega
                    · exact q.2
                    · omega
                  have m5 : (m : Int) + 1 ≤ tonsOf V g := by
                    have t1 := (tkb m m2).2.2.2.2
                    rw [m4] at t1
                    have e1 : (V 138 g - 1 - (i : Int) + 1).toNat = (V 138 g - 1 - (i : Int)).toNat + 1 := by omega
                    dsimp only at t1
                    rw [e1, Sm] at t1
                    have e2 : (((V 138 g - 1 - (i : Int)).toNat : Nat) : Int) = V 138 g - 1 - (i : Int) := by omega
                    rw [e2] at t1
                    have p0 := Sm_le (f := fun j => V 139 (41 * g + j)) (n := (V 138 g - 1 - (i : Int)).toNat) (a := 0) (b := 99999) (fun w hw => ⟨by have := hT w (by omega) (by omega); omega, (sB _).2⟩)
                    omega
                  refine J.iinc (pc' := 54) rfl rfl rfl (by decide) ?_
                  first | refine J.aload_n (pc' := 55) rfl rfl rfl ?_ | refine J.aload_nN (pc' := 55) rfl rfl rfl ?_
                  refine J.iload_n (pc' := 56) rfl rfl rfl ?_
                  refine J.iload (pc' := 58) rfl rfl rfl ?_
                  rw [show (m : Int) + 1 = ((m + 1 : Nat) : Int) by omega]
                  refine J.callS (pc' := 61) rfl MX0_at ml_X0_78 is_X0_at cz_at rfl rfl (Nat.le_of_ble_eq_true rfl) (by first | omega | (exact R.r _ _) | (simp only [jM.len_sI, jM.len_sL, jM.len_sR, jM.len_fI, jM.len_fL, jM.len_fR]; omega) | (simp [jM.len_nw, jM.len_sI, jM.len_sL, jM.len_sR, jM.len_fI, jM.len_fL, jM.len_fR, *]; omega)) (by first | omega | (exact R.r _ _) | (simp only [jM.len_sI, jM.len_sL, jM.len_sR, jM.len_fI, jM.len_fL, jM.len_fR]; omega) | (simp [jM.len_nw, jM.len_sI, jM.len_sL, jM.len_sR, jM.len_fI, jM.len_fL, jM.len_fR, *]; omega)) (by first | omega | (exact R.r _ _) | (simp only [jM.len_sI, jM.len_sL, jM.len_sR, jM.len_fI, jM.len_fL, jM.len_fR]; omega) | (simp [jM.len_nw, jM.len_sI, jM.len_sL, jM.len_sR, jM.len_fI, jM.len_fL, jM.len_fR, *]; omega)) rfl rfl ?_ ?_
                  · exact fun _ _ h => h
                  rintro _ k ⟨rfl, rfl⟩
                  first | refine J.aload (pc' := 63) rfl rfl rfl ?_ | refine J.aloadN (pc' := 63) rfl rfl rfl ?_
                  refine J.callV (pc' := 66) (t := 4) rfl MX0_addTon ml_X0_82 iv_X0_addTon (by decide) ⟨_, rfl, rfl⟩ (by first | assumption | (simp only [jM.tag_sI, jM.tag_sL, jM.tag_sR, jM.tag_fI, jM.tag_fL, jM.tag_fR]; assumption) | (simp [jM.tag_nw, jM.tag_sI, jM.tag_sL, jM.tag_sR, jM.tag_fI, jM.tag_fL, jM.tag_fR, *]; done)) (cz_addTon hS1 (by omega) Y1) rfl rfl (Nat.le_of_ble_eq_true rfl) (by first | omega | (exact R.r _ _) | (simp only [jM.len_sI, jM.len_sL, jM.len_sR, jM.len_fI, jM.len_fL, jM.len_fR]; omega) | (simp [jM.len_nw, jM.len_sI, jM.len_sL, jM.len_sR, jM.len_fI, jM.len_fL, jM.len_fR, *]; omega)) (by first | omega | (exact R.r _ _) | (simp only [jM.len_sI, jM.len_sL, jM.len_sR, jM.len_fI, jM.len_fL, jM.len_fR]; omega) | (simp [jM.len_nw, jM.len_sI, jM.len_sL, jM.len_sR, jM.len_fI, jM.len_fL, jM.len_fR, *]; omega)) (by first | omega | (exact R.r _ _) | (simp only [jM.len_sI, jM.len_sL, jM.len_sR, jM.len_fI, jM.len_fL, jM.len_fR]; omega) | (simp [jM.len_nw, jM.len_sI, jM.len_sL, jM.len_sR, jM.len_fI, jM.len_fL, jM.len_fR, *]; omega)) rfl rfl ?_ ?_
                  · exact fun _ _ h => h
                  rintro _ k2 ⟨rfl, w1, w2⟩
                  refine J.iinc (pc' := 69) rfl rfl rfl (by decide) ?_
                  refine J.goto (tgt := 35) rfl rfl ?_
                  refine ihu (x + 1) (m + 1) k2 (by omega) (by omega) (by omega) (Or.inr ?_) (b1.trans w1 (fun t a z => z.elim id id)) ⟨fun s hs t ht => ?_, fun s hs j t q1 q2 q3 q4 => ?_⟩ _ ⟨rfl, rfl, rfl, rfl, rfl, rfl, rfl, rfl, trivial⟩
                  · have tks : tk V g (m + 1) = if (tk V g m).2 + 1 < V 139 (41 * g + (tk V g m).1) then ((tk V g m).1, (tk V g m).2 + 1) else ((tk V g m).1 - 1, 0) := rfl
                    rw [m4] at tks
                    dsimp only at tks
                    by_cases z : u = 0
                    · rw [if_neg (by omega)] at tks
                      refine Or.inr ⟨z, ?_⟩
                      rw [tks]
                      congr 1
                      omega
                    · rw [if_pos (by omega)] at tks
                      refine Or.inl ⟨by omega, ?_⟩
                      rw [tks]
                      congr 1
                  · rw [w2 s hs (g * 21 + t) (by omega)]
                    by_cases z : t = m + 1
                    · subst z
                      rw [if_pos rfl, show g * 21 + ((m + 1 : Nat) : Int) - 1 = g * 21 + (m : Int) by omega, b2.1 s hs m (Nat.le_refl _), cg_s (by omega), m4]
                    · rw [if_neg (by omega)]
                      exact b2.1 s hs t (by omega)
                  · rw [w2 s hs (j * 21 + t) (by omega), if_neg (by omega)]
                    exact b2.2 s hs j t q1 q2 q3 q4
          refine inn (V 139 (41 * g + (V 138 g - 1 - (i : Int)))).toNat 0 m k (by omega) m1 m2 (Or.inr (Or.inl ⟨by omega, m4⟩)) b1 b2 _ ⟨rfl, rfl, rfl, rfl, rfl, rfl, rfl, rfl, trivial⟩
  refine key ys.length 0 (by omega) 0 h (by omega) (by omega) (Or.inr (by show (V 138 g - 1, (0 : Int)) = _; congr 1; omega)) onI.rf ⟨fun s hs t ht => ?_, fun s hs j t _ _ _ _ => rfl⟩ _ ⟨rfl, rfl, rfl, rfl, rfl, rfl, trivial⟩
  have et : t = 0 := by omega
  subst et
  rw [show g * 21 + ((0 : Nat) : Int) = g * 21 by omega, h0 s hs]
  unfold cg
  show 0 = sgn s * 0
  omega
end WH

