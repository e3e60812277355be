section SS
variable {γ : jG} {h : jM} {σ : Nat → Nat}
/-- the SEARCH and its arrays -/
def isSS (h : jM) (σ : Nat → Nat) : Prop := h.tag (σ 0) = 4 ∧ (h.R 4 (σ 0) 0 = some (σ 24) ∧ h.tag (σ 24) = 24 ∧ h.len (σ 24) = 6) ∧ (h.R 4 (σ 0) 1 = some (σ 25) ∧ h.tag (σ 25) = 25 ∧ h.len (σ 25) = 6) ∧ (h.R 4 (σ 0) 2 = some (σ 26) ∧ h.tag (σ 26) = 26 ∧ h.len (σ 26) = 6) ∧ (h.R 4 (σ 0) 3 = some (σ 31) ∧ h.tag (σ 31) = 31 ∧ h.len (σ 31) = 11) ∧ (h.R 4 (σ 0) 4 = some (σ 32) ∧ h.tag (σ 32) = 32 ∧ h.len (σ 32) = 11) ∧ (h.R 4 (σ 0) 5 = some (σ 29) ∧ h.tag (σ 29) = 29 ∧ h.len (σ 29) = 11) ∧ (h.R 4 (σ 0) 6 = some (σ 30) ∧ h.tag (σ 30) = 30 ∧ h.len (σ 30) = 11) ∧ (∀ s : Nat, s < 11 → h.R 31 (σ 31) s = some (σ 31 + 1 + s) ∧ h.tag (σ 31 + 1 + s) = 27 ∧ h.len (σ 31 + 1 + s) = 126) ∧ (∀ s : Nat, s < 11 → h.R 32 (σ 32) s = some (σ 32 + 1 + s) ∧ h.tag (σ 32 + 1 + s) = 28 ∧ h.len (σ 32 + 1 + s) = 147)
/-- only ints have moved, and of those no others -/
def onI (h h' : jM) (P : Nat → Nat → Prop) : Prop := h'.tag = h.tag ∧ h'.len = h.len ∧ h'.L = h.L ∧ h'.R = h.R ∧ ∀ t a k, ¬ P t a → h'.I t a k = h.I t a k
theorem onI.rf {P : Nat → Nat → Prop} : onI h h P := ⟨rfl, rfl, rfl, rfl, fun _ _ _ _ => rfl⟩
theorem onI.trans {h1 h2 : jM} {P P1 P2 : Nat → Nat → Prop} (h1' : onI h h1 P1) (h2' : onI h1 h2 P2) (hp : ∀ t a, P1 t a ∨ P2 t a → P t a) : onI h h2 P := by
  obtain ⟨a1, a2, a3, a4, a5⟩ := h1'
  obtain ⟨b1, b2, b3, b4, b5⟩ := h2'
  exact ⟨b1.trans a1, b2.trans a2, b3.trans a3, b4.trans a4, fun t a k hn => (b5 t a k (fun z => hn (hp t a (Or.inr z)))).trans (a5 t a k (fun z => hn (hp t a (Or.inl z))))⟩
theorem onI.sI {h1 : jM} {P : Nat → Nat → Prop} {t a k : Nat} {v : Int} (h1' : onI h h1 P) (hp : P t a) : onI h (h1.sI t a k v) P := by
  obtain ⟨a1, a2, a3, a4, a5⟩ := h1'
  exact ⟨a1, a2, a3, a4, fun t' a' k' hn => by rw [jM.I_sI, if_neg (fun z => hn (by rw [z.1, z.2.1]; exact hp))]; exact a5 t' a' k' hn⟩
theorem onI.fr {h' : jM} {P : Nat → Nat → Prop} (o : onI h h' P) : Fr h h' (fun b => P (h.tag b) b) := fun b _ => by
  obtain ⟨a1, a2, a3, a4, a5⟩ := o
  exact ⟨by rw [a1], by rw [a2], by show h'.R 0 b 0 = _; rw [a4], fun hw => ⟨fun k => a5 _ _ _ hw, fun k => by rw [a3], fun k => by rw [a4], by show h'.R 0 b 1 = _; rw [a4]⟩⟩
theorem isSS.on {h' : jM} {P : Nat → Nat → Prop} (hS : isSS h σ) (o : onI h h' P) : isSS h' σ := by
  obtain ⟨a1, a2, a3, a4, a5⟩ := o
  unfold isSS
  rw [a1, a2, a4]
  exact hS
theorem cz_at {a b : Int} : CT γ mX0_at 0 0 0 [.int (jI a), .int (jI b)] h (fun r h' => r = some (.int (jI (a * 21 + b))) ∧ h' = h) X0 := by
  refine CT.of MX0_at (Nat.le_of_ble_eq_true rfl) ?_
  show J γ mX0_at 0 0 0 0 0 h 0 [(0, .int (jI a)), (1, .int (jI b))] [] _ _
  refine J.iload_n (pc' := 1) rfl rfl rfl ?_
  refine J.bipush (pc' := 3) rfl rfl (by decide) ?_
  refine J.imul (pc' := 4) rfl rfl ?_
  refine J.iload_n (pc' := 5) rfl rfl rfl ?_
  refine J.iadd (pc' := 6) rfl rfl ?_
  refine J.iret rfl rfl (by first | omega | (exact R.r _ _) | (simp only [jM.len_sI, jM.len_sL, jM.len_sR, jM.len_fI, jM.len_fL, jM.len_fR]; omega) | (simp [jM.len_nw, jM.len_sI, jM.len_sL, jM.len_sR, jM.len_fI, jM.len_fL, jM.len_fR, *]; omega)) (by first | omega | (exact R.r _ _) | (simp only [jM.len_sI, jM.len_sL, jM.len_sR, jM.len_fI, jM.len_fL, jM.len_fR]; omega) | (simp [jM.len_nw, jM.len_sI, jM.len_sL, jM.len_sR, jM.len_fI, jM.len_fL, jM.len_fR, *]; omega)) ?_
  exact ⟨rfl, rfl⟩
def suV (h : jM) (σ : Nat → Nat) (s : Int) : Int := h.I 30 (σ 30) s.toNat
def liV (h : jM) (σ : Nat → Nat) (s : Int) : Int := h.I 29 (σ 29) s.toNat
def leV (h : jM) (σ : Nat → Nat) (s : Int) (i : Int) : Int := h.I 28 (σ 32 + 1 + s.toNat) i.toNat
def gvV (h : jM) (σ : Nat → Nat) (s : Int) (i : Int) : Int := h.I 27 (σ 31 + 1 + s.toNat) i.toNat
def moV (h : jM) (σ : Nat → Nat) (g : Int) : Int := h.I 26 (σ 26) g.toNat
def trV (h : jM) (σ : Nat → Nat) (g : Int) : Int := h.I 25 (σ 25) g.toNat
def chV (h : jM) (σ : Nat → Nat) (g : Int) : Int := h.I 24 (σ 24) g.toNat
def hopeB (h : jM) (σ : Nat → Nat) (g l : Int) : Bool := allB (fun s => decide (suV h σ s + leV h σ s (g * 21 + l) ≤ liV h σ s)) 0 11
theorem cz_hope {g l : Int} (hS : isSS h σ) (hg : 0 ≤ g ∧ g ≤ 6) (hl : 0 ≤ l ∧ l ≤ 20) (hb : ∀ s : Nat, s < 11 → r32 (suV h σ s + leV h σ s (g * 21 + l)) ∧ r32 (liV h σ s)) : CT γ mX0_hasHope 1 0 0 [.ref (σ 0), .int (jI g), .int (jI l)] h (fun r h' => r = some (.int (jI (b2i (hopeB h σ g l)))) ∧ h' = h) X0 := by
  obtain ⟨t0, ⟨r24, t24, l24⟩, ⟨r25, t25, l25⟩, ⟨r26, t26, l26⟩, ⟨r31, t31, l31⟩, ⟨r32', t32, l32⟩, ⟨r29, t29, l29⟩, ⟨r30, t30, l30⟩, rg, rl⟩ := hS
  refine CT.of MX0_hasHope (Nat.le_of_ble_eq_true rfl) ?_
  show J γ mX0_hasHope 1 0 0 0 0 h 0 [(0, .ref (σ 0)), (1, .int (jI g)), (2, .int (jI l))] [] _ _
  refine J.iconst (pc' := 1) rfl rfl ?_
  refine J.istore_n (pc' := 2) rfl rfl (by decide) ?_
  have key : ∀ (k s : Nat), s + k = 11 → allB (fun s => decide (suV h σ s + leV h σ s (g * 21 + l) ≤ liV h σ s)) 0 s = true → ∀ lv, hasL lv [(0, .ref (σ 0)), (1, .int (jI g)), (2, .int (jI l)), (3, .int (jI (s : Int)))] → J γ mX0_hasHope 1 0 0 0 0 h 2 lv [] (fun r h' => r = some (.int (jI (b2i (hopeB h σ g l)))) ∧ h' = h) X0 := by
    intro k
    induction k with
    | zero =>
      intro s hs hall lv hlv
      have es : s = 11 := by omega
      subst es
      refine J.lc hlv ?_
      refine J.iload_n (pc' := 3) rfl rfl rfl ?_
      refine J.bipush (pc' := 5) rfl rfl (by decide) ?_
      refine J.icmp_ge (tgt := 44) (pc' := 8) rfl rfl rfl (by first | omega | (exact R.r _ _) | (simp only [jM.len_sI, jM.len_sL, jM.len_sR, jM.len_fI, jM.len_fL, jM.len_fR]; omega) | (simp [jM.len_nw, jM.len_sI, jM.len_sL, jM.len_sR, jM.len_fI, jM.len_fL, jM.len_fR, *]; omega)) (by first | omega | (exact R.r _ _) | (simp only [jM.len_sI, jM.len_sL, jM.len_sR, jM.len_fI, jM.len_fL, jM.len_fR]; omega) | (simp [jM.len_nw, jM.len_sI, jM.len_sL, jM.len_sR, jM.len_fI, jM.len_fL, jM.len_fR, *]; omega)) (fun c1 => ?_) (fun c1 => ?_)
      · refine J.iconst (pc' := 45) rfl rfl ?_
        refine J.zret rfl rfl (by rfl) (by first | omega | (exact R.r _ _) | (simp only [jM.len_sI, jM.len_sL, jM.len_sR, jM.len_fI, jM.len_fL, jM.len_fR]; omega) | (simp [jM.len_nw, jM.len_sI, jM.len_sL, jM.len_sR, jM.len_fI, jM.len_fL, jM.len_fR, *]; omega)) (by first | omega | (exact R.r _ _) | (simp only [jM.len_sI, jM.len_sL, jM.len_sR, jM.len_fI, jM.len_fL, jM.len_fR]; omega) | (simp [jM.len_nw, jM.len_sI, jM.len_sL, jM.len_sR, jM.len_fI, jM.len_fL, jM.len_fR, *]; omega)) ?_
        exact ⟨by unfold hopeB; rw [hall]; rfl, rfl⟩
      · omega
    | succ k ih =>
      intro s hs hall lv hlv
      obtain ⟨q1, q2, q3⟩ := rl s (by omega)
      have q1' : h.R 32 (σ 32) (s : Int).toNat = some (σ 32 + 1 + s) := q1
      have bs := hb s (by omega)
      refine J.lc hlv ?_
      refine J.iload_n (pc' := 3) rfl rfl rfl ?_
      refine J.bipush (pc' := 5) rfl rfl (by decide) ?_
      refine J.icmp_ge (tgt := 44) (pc' := 8) rfl rfl rfl (by first | omega | (exact R.r _ _) | (simp only [jM.len_sI, jM.len_sL, jM.len_sR, jM.len_fI, jM.len_fL, jM.len_fR]; omega) | (simp [jM.len_nw, jM.len_sI, jM.len_sL, jM.len_sR, jM.len_fI, jM.len_fL, jM.len_fR, *]; omega)) (by first | omega | (exact R.r _ _) | (simp only [jM.len_sI, jM.len_sL, jM.len_sR, jM.len_fI, jM.len_fL, jM.len_fR]; omega) | (simp [jM.len_nw, jM.len_sI, jM.len_sL, jM.len_sR, jM.len_fI, jM.len_fL, jM.len_fR, *]; omega)) (fun c1 => ?_) (fun c1 => ?_)
      · omega
      · first | refine J.aload_n (pc' := 9) rfl rfl rfl ?_ | refine J.aload_nN (pc' := 9) rfl rfl rfl ?_
        first | refine J.getR (pc' := 12) rfl fl_X0_32 rfl (by first | assumption | (simp only [jM.tag_sI, jM.tag_sL, jM.tag_sR, jM.tag_fI, jM.tag_fL, jM.tag_fR]; assumption) | (simp [jM.tag_nw, jM.tag_sI, jM.tag_sL, jM.tag_sR, jM.tag_fI, jM.tag_fL, jM.tag_fR, *]; done)) (by first | assumption | (simp only [jM.R_sI, jM.R_sL, jM.R_fI, jM.R_fL]; assumption) | (simp [jM.R_nw, jM.R_sR, jM.R_fR, jM.R_sI, jM.R_sL, jM.R_fI, jM.R_fL, *]; done)) rfl ?_ | refine J.getRN (pc' := 12) rfl fl_X0_32 rfl (by first | assumption | (simp only [jM.tag_sI, jM.tag_sL, jM.tag_sR, jM.tag_fI, jM.tag_fL, jM.tag_fR]; assumption) | (simp [jM.tag_nw, jM.tag_sI, jM.tag_sL, jM.tag_sR, jM.tag_fI, jM.tag_fL, jM.tag_fR, *]; done)) (by first | assumption | (simp only [jM.R_sI, jM.R_sL, jM.R_fI, jM.R_fL]; assumption) | (simp [jM.R_nw, jM.R_sR, jM.R_fR, jM.R_sI, jM.R_sL, jM.R_fI, jM.R_fL, *]; done)) rfl ?_
        refine J.iload_n (pc' := 13) rfl rfl rfl ?_
        refine J.iald (pc' := 14) rfl (by first | assumption | (simp only [jM.tag_sI, jM.tag_sL, jM.tag_sR, jM.tag_fI, jM.tag_fL, jM.tag_fR]; assumption) | (simp [jM.tag_nw, jM.tag_sI, jM.tag_sL, jM.tag_sR, jM.tag_fI, jM.tag_fL, jM.tag_fR, *]; done)) (by decide) rfl (by first | omega | (exact R.r _ _) | (simp only [jM.len_sI, jM.len_sL, jM.len_sR, jM.len_fI, jM.len_fL, jM.len_fR]; omega) | (simp [jM.len_nw, jM.len_sI, jM.len_sL, jM.len_sR, jM.len_fI, jM.len_fL, jM.len_fR, *]; omega)) (by first | omega | (exact R.r _ _) | (simp only [jM.len_sI, jM.len_sL, jM.len_sR, jM.len_fI, jM.len_fL, jM.len_fR]; omega) | (simp [jM.len_nw, jM.len_sI, jM.len_sL, jM.len_sR, jM.len_fI, jM.len_fL, jM.len_fR, *]; omega)) (by first | omega | (exact R.r _ _) | (simp only [jM.len_sI, jM.len_sL, jM.len_sR, jM.len_fI, jM.len_fL, jM.len_fR]; omega) | (simp [jM.len_nw, jM.len_sI, jM.len_sL, jM.len_sR, jM.len_fI, jM.len_fL, jM.len_fR, *]; omega)) rfl ?_
        first | refine J.aload_n (pc' := 15) rfl rfl rfl ?_ | refine J.aload_nN (pc' := 15) rfl rfl rfl ?_
        first | refine J.getR (pc' := 18) rfl fl_X0_26 rfl (by first | assumption | (simp only [jM.tag_sI, jM.tag_sL, jM.tag_sR, jM.tag_fI, jM.tag_fL, jM.tag_fR]; assumption) | (simp [jM.tag_nw, jM.tag_sI, jM.tag_sL, jM.tag_sR, jM.tag_fI, jM.tag_fL, jM.tag_fR, *]; done)) (by first | assumption | (simp only [jM.R_sI, jM.R_sL, jM.R_fI, jM.R_fL]; assumption) | (simp [jM.R_nw, jM.R_sR, jM.R_fR, jM.R_sI, jM.R_sL, jM.R_fI, jM.R_fL, *]; done)) rfl ?_ | refine J.getRN (pc' := 18) rfl fl_X0_26 rfl (by first | assumption | (simp only [jM.tag_sI, jM.tag_sL, jM.tag_sR, jM.tag_fI, jM.tag_fL, jM.tag_fR]; assumption) | (simp [jM.tag_nw, jM.tag_sI, jM.tag_sL, jM.tag_sR, jM.tag_fI, jM.tag_fL, jM.tag_fR, *]; done)) (by first | assumption | (simp only [jM.R_sI, jM.R_sL, jM.R_fI, jM.R_fL]; assumption) | (simp [jM.R_nw, jM.R_sR, jM.R_fR, jM.R_sI, jM.R_sL, jM.R_fI, jM.R_fL, *]; done)) rfl ?_
        refine J.iload_n (pc' := 19) rfl rfl rfl ?_
        first | refine J.aald (pc' := 20) rfl (by first | assumption | (simp only [jM.tag_sI, jM.tag_sL, jM.tag_sR, jM.tag_fI, jM.tag_fL, jM.tag_fR]; assumption) | (simp [jM.tag_nw, jM.tag_sI, jM.tag_sL, jM.tag_sR, jM.tag_fI, jM.tag_fL, jM.tag_fR, *]; done)) (by decide) (by decide) rfl (by first | omega | (exact R.r _ _) | (simp only [jM.len_sI, jM.len_sL, jM.len_sR, jM.len_fI, jM.len_fL, jM.len_fR]; omega) | (simp [jM.len_nw, jM.len_sI, jM.len_sL, jM.len_sR, jM.len_fI, jM.len_fL, jM.len_fR, *]; omega)) (by first | omega | (exact R.r _ _) | (simp only [jM.len_sI, jM.len_sL, jM.len_sR, jM.len_fI, jM.len_fL, jM.len_fR]; omega) | (simp [jM.len_nw, jM.len_sI, jM.len_sL, jM.len_sR, jM.len_fI, jM.len_fL, jM.len_fR, *]; omega)) (by first | omega | (exact R.r _ _) | (simp only [jM.len_sI, jM.len_sL, jM.len_sR, jM.len_fI, jM.len_fL, jM.len_fR]; omega) | (simp [jM.len_nw, jM.len_sI, jM.len_sL, jM.len_sR, jM.len_fI, jM.len_fL, jM.len_fR, *]; omega)) (by first | assumption | (simp only [jM.R_sI, jM.R_sL, jM.R_fI, jM.R_fL]; assumption) | (simp [jM.R_nw, jM.R_sR, jM.R_fR, jM.R_sI, jM.R_sL, jM.R_fI, jM.R_fL, *]; done)) rfl ?_ | refine J.aaldN (pc' := 20) rfl (by first | assumption | (simp only [jM.tag_sI, jM.tag_sL, jM.tag_sR, jM.tag_fI, jM.tag_fL, jM.tag_fR]; assumption) | (simp [jM.tag_nw, jM.tag_sI, jM.tag_sL, jM.tag_sR, jM.tag_fI, jM.tag_fL, jM.tag_fR, *]; done)) (by decide) (by decide) rfl (by first | omega | (exact R.r _ _) | (simp only [jM.len_sI, jM.len_sL, jM.len_sR, jM.len_fI, jM.len_fL, jM.len_fR]; omega) | (simp [jM.len_nw, jM.len_sI, jM.len_sL, jM.len_sR, jM.len_fI, jM.len_fL, jM.len_fR, *]; omega)) (by first | omega | (exact R.r _ _) | (simp only [jM.len_sI, jM.len_sL, jM.len_sR, jM.len_fI, jM.len_fL, jM.len_fR]; omega) | (simp [jM.len_nw, jM.len_sI, jM.len_sL, jM.len_sR, jM.len_fI, jM.len_fL, jM.len_fR, *]; omega)) (by first | omega | (exact R.r _ _) | (simp only [jM.len_sI, jM.len_sL, jM.len_sR, jM.len_fI, jM.len_fL, jM.len_fR]; omega) | (simp [jM.len_nw, jM.len_sI, jM.len_sL, jM.len_sR, jM.len_fI, jM.len_fL, jM.len_fR, *]; omega)) (by first | assumption | (simp only [jM.R_sI, jM.R_sL, jM.R_fI, jM.R_fL]; assumption) | (simp [jM.R_nw, jM.R_sR, jM.R_fR, jM.R_sI, jM.R_sL, jM.R_fI, jM.R_fL, *]; done)) rfl ?_
        refine J.iload_n (pc' := 21) rfl rfl rfl ?_
        refine J.iload_n (pc' := 22) rfl rfl rfl ?_
        refine J.callS (pc' := 25) rfl MX0_at ml_X0_78 is_X0_at cz_at rfl rfl (Nat.le_of_ble_eq_true rfl) (by first | omega | (exact R.r _ _) | (simp only [jM.len_sI, jM.len_sL, jM.len_sR, jM.len_fI, jM.len_fL, jM.len_fR]; omega) | (simp [jM.len_nw, jM.len_sI, jM.len_sL, jM.len_sR, jM.len_fI, jM.len_fL, jM.len_fR, *]; omega)) (by first | omega | (exact R.r _ _) | (simp only [jM.len_sI, jM.len_sL, jM.len_sR, jM.len_fI, jM.len_fL, jM.len_fR]; omega) | (simp [jM.len_nw, jM.len_sI, jM.len_sL, jM.len_sR, jM.len_fI, jM.len_fL, jM.len_fR, *]; omega)) (by first | omega | (exact R.r _ _) | (simp only [jM.len_sI, jM.len_sL, jM.len_sR, jM.len_fI, jM.len_fL, jM.len_fR]; omega) | (simp [jM.len_nw, jM.len_sI, jM.len_sL, jM.len_sR, jM.len_fI, jM.len_fL, jM.len_fR, *]; omega)) rfl rfl ?_ ?_
        · exact fun _ _ h => h
        rintro _ h ⟨rfl, rfl⟩
        refine J.iald (pc' := 26) rfl (by first | assumption | (simp only [jM.tag_sI, jM.tag_sL, jM.tag_sR, jM.tag_fI, jM.tag_fL, jM.tag_fR]; assumption) | (simp [jM.tag_nw, jM.tag_sI, jM.tag_sL, jM.tag_sR, jM.tag_fI, jM.tag_fL, jM.tag_fR, *]; done)) (by decide) rfl (by first | omega | (exact R.r _ _) | (simp only [jM.len_sI, jM.len_sL, jM.len_sR, jM.len_fI, jM.len_fL, jM.len_fR]; omega) | (simp [jM.len_nw, jM.len_sI, jM.len_sL, jM.len_sR, jM.len_fI, jM.len_fL, jM.len_fR, *]; omega)) (by first | omega | (exact R.r _ _) | (simp only [jM.len_sI, jM.len_sL, jM.len_sR, jM.len_fI, jM.len_fL, jM.len_fR]; omega) | (simp [jM.len_nw, jM.len_sI, jM.len_sL, jM.len_sR, jM.len_fI, jM.len_fL, jM.len_fR, *]; omega)) (by first | omega | (exact R.r _ _) | (simp only [jM.len_sI, jM.len_sL, jM.len_sR, jM.len_fI, jM.len_fL, jM.len_fR]; omega) | (simp [jM.len_nw, jM.len_sI, jM.len_sL, jM.len_sR, jM.len_fI, jM.len_fL, jM.len_fR, *]; omega)) rfl ?_
        refine J.iadd (pc' := 27) rfl rfl ?_
        first | refine J.aload_n (pc' := 28) rfl rfl rfl ?_ | refine J.aload_nN (pc' := 28) rfl rfl rfl ?_
        first | refine J.getR (pc' := 31) rfl fl_X0_29 rfl (by first | assumption | (simp only [jM.tag_sI, jM.tag_sL, jM.tag_sR, jM.tag_fI, jM.tag_fL, jM.tag_fR]; assumption) | (simp [jM.tag_nw, jM.tag_sI, jM.tag_sL, jM.tag_sR, jM.tag_fI, jM.tag_fL, jM.tag_fR, *]; done)) (by first | assumption | (simp only [jM.R_sI, jM.R_sL, jM.R_fI, jM.R_fL]; assumption) | (simp [jM.R_nw, jM.R_sR, jM.R_fR, jM.R_sI, jM.R_sL, jM.R_fI, jM.R_fL, *]; done)) rfl ?_ | refine J.getRN (pc' := 31) rfl fl_X0_29 rfl (by first | assumption | (simp only [jM.tag_sI, jM.tag_sL, jM.tag_sR, jM.tag_fI, jM.tag_fL, jM.tag_fR]; assumption) | (simp [jM.tag_nw, jM.tag_sI, jM.tag_sL, jM.tag_sR, jM.tag_fI, jM.tag_fL, jM.tag_fR, *]; done)) (by first | assumption | (simp only [jM.R_sI, jM.R_sL, jM.R_fI, jM.R_fL]; assumption) | (simp [jM.R_nw, jM.R_sR, jM.R_fR, jM.R_sI, jM.R_sL, jM.R_fI, jM.R_fL, *]; done)) rfl ?_
        refine J.iload_n (pc' := 32) rfl rfl rfl ?_
        refine J.iald (pc' := 33) rfl (by first | assumption | (simp only [jM.tag_sI, jM.tag_sL, jM.tag_sR, jM.tag_fI, jM.tag_fL, jM.tag_fR]; assumption) | (simp [jM.tag_nw, jM.tag_sI, jM.tag_sL, jM.tag_sR, jM.tag_fI, jM.tag_fL, jM.tag_fR, *]; done)) (by decide) rfl (by first | omega | (exact R.r _ _) | (simp only [jM.len_sI, jM.len_sL, jM.len_sR, jM.len_fI, jM.len_fL, jM.len_fR]; omega) | (simp [jM.len_nw, jM.len_sI, jM.len_sL, jM.len_sR, jM.len_fI, jM.len_fL, jM.len_fR, *]; omega)) (by first | omega | (exact R.r _ _) | (simp only [jM.len_sI, jM.len_sL, jM.len_sR, jM.len_fI, jM.len_fL, jM.len_fR]; omega) | (simp [jM.len_nw, jM.len_sI, jM.len_sL, jM.len_sR, jM.len_fI, jM.len_fL, jM.len_fR, *]; omega)) (by first | omega | (exact R.r _ _) | (simp only [jM.len_sI, jM.len_sL, jM.len_sR, jM.len_fI, jM.len_fL, jM.len_fR]; omega) | (simp [jM.len_nw, jM.len_sI, jM.len_sL, jM.len_sR, jM.len_fI, jM.len_fL, jM.len_fR, *]; omega)) rfl ?_
        have e1 : h.I 30 (σ 30) (s : Int).toNat = suV h σ s := rfl
        have e2 : h.I 28 (σ 32 + 1 + s) (g * 21 + l).toNat = leV h σ s (g * 21 + l) := rfl
        have e3 : h.I 29 (σ 29) (s : Int).toNat = liV h σ s := rfl
        rw [e1, e2, e3]
        refine J.icmp_le (tgt := 38) (pc' := 36) rfl rfl rfl (by first | omega | (exact R.r _ _) | (simp only [jM.len_sI, jM.len_sL, jM.len_sR, jM.len_fI, jM.len_fL, jM.len_fR]; omega) | (simp [jM.len_nw, jM.len_sI, jM.len_sL, jM.len_sR, jM.len_fI, jM.len_fL, jM.len_fR, *]; omega)) (by first | omega | (exact R.r _ _) | (simp only [jM.len_sI, jM.len_sL, jM.len_sR, jM.len_fI, jM.len_fL, jM.len_fR]; omega) | (simp [jM.len_nw, jM.len_sI, jM.len_sL, jM.len_sR, jM.len_fI, jM.len_fL, jM.len_fR, *]; omega)) (fun c2 => ?_) (fun c2 => ?_)
        · refine J.iinc (pc' := 41) rfl rfl rfl (by decide) ?_
          refine J.goto (tgt := 2) rfl rfl ?_
          refine ih (s + 1) (by omega) ?_ _ ⟨rfl, rfl, rfl, rfl, trivial⟩
          rw [allB, hall, Bool.true_and, Int.zero_add]
          exact decide_eq_true c2
        · refine J.iconst (pc' := 37) rfl rfl ?_
          refine J.zret rfl rfl (by rfl) (by first | omega | (exact R.r _ _) | (simp only [jM.len_sI, jM.len_sL, jM.len_sR, jM.len_fI, jM.len_fL, jM.len_fR]; omega) | (simp [jM.len_nw, jM.len_sI, jM.len_sL, jM.len_sR, jM.len_fI, jM.len_fL, jM.len_fR, *]; omega)) (by first | omega | (exact R.r _ _) | (simp only [jM.len_sI, jM.len_sL, jM.len_sR, jM.len_fI, jM.len_fL, jM.len_fR]; omega) | (simp [jM.len_nw, jM.len_sI, jM.len_sL, jM.len_sR, jM.len_fI, jM.len_fL, jM.len_fR, *]; omega)) ?_
          have z1 : allB (fun s => decide (suV h σ s + leV h σ s (g * 21 + l) ≤ liV h σ s)) 0 (s + 1) = false := by
            rw [allB, Int.zero_add]
            rw [show decide (suV h σ s + leV h σ s (g * 21 + l) ≤ liV h σ s) = false from decide_eq_false c2, Bool.and_false]
          have z2 := allB_st z1 k
          rw [show s + 1 + k = 11 by omega] at z2
          exact ⟨by unfold hopeB; rw [z2]; rfl, rfl⟩
  exact key 11 0 (by omega) rfl _ ⟨rfl, rfl, rfl, rfl, trivial⟩
theorem cz_addGiven {x w : Int} (hS : isSS h σ) (hx : 0 ≤ x ∧ x < 126) : CT γ mX0_addGiven 0 0 0 [.ref (σ 0), .int (jI x), .int (jI w)] h (fun r h' => r = none ∧ onI h h' (fun t a => t = 30 ∧ a = σ 30) ∧ ∀ s : Nat, s < 11 → suV h' σ s = suV h σ s + w * gvV h σ s x) X0 := by
  have hS0 := hS
  obtain ⟨t0, ⟨r24, t24, l24⟩, ⟨r25, t25, l25⟩, ⟨r26, t26, l26⟩, ⟨r31, t31, l31⟩, ⟨r32', t32, l32⟩, ⟨r29, t29, l29⟩, ⟨r30, t30, l30⟩, rg, rl⟩ := hS0
  refine CT.of MX0_addGiven (Nat.le_of_ble_eq_true rfl) ?_
  show J γ mX0_addGiven 0 0 0 0 0 h 0 [(0, .ref (σ 0)), (1, .int (jI x)), (2, .int (jI w))] [] _ _
  refine J.iconst (pc' := 1) rfl rfl ?_
  refine J.istore_n (pc' := 2) rfl rfl (by decide) ?_
  have key : ∀ (j s : Nat), s + j = 11 → ∀ k : jM, onI h k (fun t a => t = 30 ∧ a = σ 30) → (∀ u : Nat, u < 11 → suV k σ u = if u < s then suV h σ u + w * gvV h σ u x else suV h σ u) → ∀ lv, hasL lv [(0, .ref (σ 0)), (1, .int (jI x)), (2, .int (jI w)), (3, .int (jI (s : Int)))] → J γ mX0_addGiven 0 0 0 0 0 k 2 lv [] (fun r h' => r = none ∧ onI h h' (fun t a => t = 30 ∧ a = σ 30) ∧ ∀ s : Nat, s < 11 → suV h' σ s = suV h σ s + w * gvV h σ s x) X0 := by
    intro j
    induction j with
    | zero =>
      intro s hs k b1 b2 lv hlv
      refine J.lc hlv ?_
      refine J.iload_n (pc' := 3) rfl rfl rfl ?_
      refine J.bipush (pc' := 5) rfl rfl (by decide) ?_
      refine J.icmp_ge (tgt := 33) (pc' := 8) rfl rfl rfl (by first | omega | (exact R.r _ _) | (simp only [jM.len_sI, jM.len_sL, jM.len_sR, jM.len_fI, jM.len_fL, jM.len_fR]; omega) | (simp [jM.len_nw, jM.len_sI, jM.len_sL, jM.len_sR, jM.len_fI, jM.len_fL, jM.len_fR, *]; omega)) (by first | omega | (exact R.r _ _) | (simp only [jM.len_sI, jM.len_sL, jM.len_sR, jM.len_fI, jM.len_fL, jM.len_fR]; omega) | (simp [jM.len_nw, jM.len_sI, jM.len_sL, jM.len_sR, jM.len_fI, jM.len_fL, jM.len_fR, *]; omega)) (fun c1 => ?_) (fun c1 => ?_)
      · refine J.vret rfl rfl (by first | omega | (exact R.r _ _) | (simp only [jM.len_sI, jM.len_sL, jM.len_sR, jM.len_fI, jM.len_fL, jM.len_fR]; omega) | (simp [jM.len_nw, jM.len_sI, jM.len_sL, jM.len_sR, jM.len_fI, jM.len_fL, jM.len_fR, *]; omega)) (by first | omega | (exact R.r _ _) | (simp only [jM.len_sI, jM.len_sL, jM.len_sR, jM.len_fI, jM.len_fL, jM.len_fR]; omega) | (simp [jM.len_nw, jM.len_sI, jM.len_sL, jM.len_sR, jM.len_fI, jM.len_fL, jM.len_fR, *]; omega)) ?_
        exact ⟨rfl, b1, fun u hu => by rw [b2 u hu, if_pos (by omega)]⟩
      · omega
    | succ j ih =>
      intro s hs k b1 b2 lv hlv
      have hS1 := hS.on b1
      obtain ⟨t0, -, -, -, ⟨r31, t31, l31⟩, -, -, ⟨r30, t30, l30⟩, rg, -⟩ := hS1
      obtain ⟨q1, q2, q3⟩ := rg s (by omega)
      have q1' : k.R 31 (σ 31) (s : Int).toNat = some (σ 31 + 1 + s) := q1
      refine J.lc hlv ?_
      refine J.iload_n (pc' := 3) rfl rfl rfl ?_
      refine J.bipush (pc' := 5) rfl rfl (by decide) ?_
      refine J.icmp_ge (tgt := 33) (pc' := 8) rfl rfl rfl (by first | omega | (exact R.r _ _) | (simp only [jM.len_sI, jM.len_sL, jM.len_sR, jM.len_fI, jM.len_fL, jM.len_fR]; omega) | (simp [jM.len_nw, jM.len_sI, jM.len_sL, jM.len_sR, jM.len_fI, jM.len_fL, jM.len_fR, *]; omega)) (by first | omega | (exact R.r _ _) | (simp only [jM.len_sI, jM.len_sL, jM.len_sR, jM.len_fI, jM.len_fL, jM.len_fR]; omega) | (simp [jM.len_nw, jM.len_sI, jM.len_sL, jM.len_sR, jM.len_fI, jM.len_fL, jM.len_fR, *]; omega)) (fun c1 => ?_) (fun c1 => ?_)
      · omega
      · first | refine J.aload_n (pc' := 9) rfl rfl rfl ?_ | refine J.aload_nN (pc' := 9) rfl rfl rfl ?_
        first | refine J.getR (pc' := 12) rfl fl_X0_32 rfl (by first | assumption | (simp only [jM.tag_sI, jM.tag_sL, jM.tag_sR, jM.tag_fI, jM.tag_fL, jM.tag_fR]; assumption) | (simp [jM.tag_nw, jM.tag_sI, jM.tag_sL, jM.tag_sR, jM.tag_fI, jM.tag_fL, jM.tag_fR, *]; done)) (by first | assumption | (simp only [jM.R_sI, jM.R_sL, jM.R_fI, jM.R_fL]; assumption) | (simp [jM.R_nw, jM.R_sR, jM.R_fR, jM.R_sI, jM.R_sL, jM.R_fI, jM.R_fL, *]; done)) rfl ?_ | refine J.getRN (pc' := 12) rfl fl_X0_32 rfl (by first | assumption | (simp only [jM.tag_sI, jM.tag_sL, jM.tag_sR, jM.tag_fI, jM.tag_fL, jM.tag_fR]; assumption) | (simp [jM.tag_nw, jM.tag_sI, jM.tag_sL, jM.tag_sR, jM.tag_fI, jM.tag_fL, jM.tag_fR, *]; done)) (by first | assumption | (simp only [jM.R_sI, jM.R_sL, jM.R_fI, jM.R_fL]; assumption) | (simp [jM.R_nw, jM.R_sR, jM.R_fR, jM.R_sI, jM.R_sL, jM.R_fI, jM.R_fL, *]; done)) rfl ?_
        refine J.iload_n (pc' := 13) rfl rfl rfl ?_
        first | refine J.dup2 (pc' := 14) rfl rfl rfl rfl ?_ | refine J.dup2L (pc' := 14) rfl rfl rfl ?_
        refine J.iald (pc' := 15) rfl (by first | assumption | (simp only [jM.tag_sI, jM.tag_sL, jM.tag_sR, jM.tag_fI, jM.tag_fL, jM.tag_fR]; assumption) | (simp [jM.tag_nw, jM.tag_sI, jM.tag_sL, jM.tag_sR, jM.tag_fI, jM.tag_fL, jM.tag_fR, *]; done)) (by decide) rfl (by first | omega | (exact R.r _ _) | (simp only [jM.len_sI, jM.len_sL, jM.len_sR, jM.len_fI, jM.len_fL, jM.len_fR]; omega) | (simp [jM.len_nw, jM.len_sI, jM.len_sL, jM.len_sR, jM.len_fI, jM.len_fL, jM.len_fR, *]; omega)) (by first | omega | (exact R.r _ _) | (simp only [jM.len_sI, jM.len_sL, jM.len_sR, jM.len_fI, jM.len_fL, jM.len_fR]; omega) | (simp [jM.len_nw, jM.len_sI, jM.len_sL, jM.len_sR, jM.len_fI, jM.len_fL, jM.len_fR, *]; omega)) (by first | omega | (exact R.r _ _) | (simp only [jM.len_sI, jM.len_sL, jM.len_sR, jM.len_fI, jM.len_fL, jM.len_fR]; omega) | (simp [jM.len_nw, jM.len_sI, jM.len_sL, jM.len_sR, jM.len_fI, jM.len_fL, jM.len_fR, *]; omega)) rfl ?_
        refine J.iload_n (pc' := 16) rfl rfl rfl ?_
        first | refine J.aload_n (pc' := 17) rfl rfl rfl ?_ | refine J.aload_nN (pc' := 17) rfl rfl rfl ?_
        first | refine J.getR (pc' := 20) rfl fl_X0_23 rfl (by first | assumption | (simp only [jM.tag_sI, jM.tag_sL, jM.tag_sR, jM.tag_fI, jM.tag_fL, jM.tag_fR]; assumption) | (simp [jM.tag_nw, jM.tag_sI, jM.tag_sL, jM.tag_sR, jM.tag_fI, jM.tag_fL, jM.tag_fR, *]; done)) (by first | assumption | (simp only [jM.R_sI, jM.R_sL, jM.R_fI, jM.R_fL]; assumption) | (simp [jM.R_nw, jM.R_sR, jM.R_fR, jM.R_sI, jM.R_sL, jM.R_fI, jM.R_fL, *]; done)) rfl ?_ | refine J.getRN (pc' := 20) rfl fl_X0_23 rfl (by first | assumption | (simp only [jM.tag_sI, jM.tag_sL, jM.tag_sR, jM.tag_fI, jM.tag_fL, jM.tag_fR]; assumption) | (simp [jM.tag_nw, jM.tag_sI, jM.tag_sL, jM.tag_sR, jM.tag_fI, jM.tag_fL, jM.tag_fR, *]; done)) (by first | assumption | (simp only [jM.R_sI, jM.R_sL, jM.R_fI, jM.R_fL]; assumption) | (simp [jM.R_nw, jM.R_sR, jM.R_fR, jM.R_sI, jM.R_sL, jM.R_fI, jM.R_fL, *]; done)) rfl ?_
        refine J.iload_n (pc' := 21) rfl rfl rfl ?_
        first | refine J.aald (pc' := 22) rfl (by first | assumption | (simp only [jM.tag_sI, jM.tag_sL, jM.tag_sR, jM.tag_fI, jM.tag_fL, jM.tag_fR]; assumption) | (simp [jM.tag_nw, jM.tag_sI, jM.tag_sL, jM.tag_sR, jM.tag_fI, jM.tag_fL, jM.tag_fR, *]; done)) (by decide) (by decide) rfl (by first | omega | (exact R.r _ _) | (simp only [jM.len_sI, jM.len_sL, jM.len_sR, jM.len_fI, jM.len_fL, jM.len_fR]; omega) | (simp [jM.len_nw, jM.len_sI, jM.len_sL, jM.len_sR, jM.len_fI, jM.len_fL, jM.len_fR, *]; omega)) (by first | omega | (exact R.r _ _) | (simp only [jM.len_sI, jM.len_sL, jM.len_sR, jM.len_fI, jM.len_fL, jM.len_fR]; omega) | (simp [jM.len_nw, jM.len_sI, jM.len_sL, jM.len_sR, jM.len_fI, jM.len_fL, jM.len_fR, *]; omega)) (by first | omega | (exact R.r _ _) | (simp only [jM.len_sI, jM.len_sL, jM.len_sR, jM.len_fI, jM.len_fL, jM.len_fR]; omega) | (simp [jM.len_nw, jM.len_sI, jM.len_sL, jM.len_sR, jM.len_fI, jM.len_fL, jM.len_fR, *]; omega)) (by first | assumption | (simp only [jM.R_sI, jM.R_sL, jM.R_fI, jM.R_fL]; assumption) | (simp [jM.R_nw, jM.R_sR, jM.R_fR, jM.R_sI, jM.R_sL, jM.R_fI, jM.R_fL, *]; done)) rfl ?_ | refine J.aaldN (pc' := 22) rfl (by first | assumption | (simp only [jM.tag_sI, jM.tag_sL, jM.tag_sR, jM.tag_fI, jM.tag_fL, jM.tag_fR]; assumption) | (simp [jM.tag_nw, jM.tag_sI, jM.tag_sL, jM.tag_sR, jM.tag_fI, jM.tag_fL, jM.tag_fR, *]; done)) (by decide) (by decide) rfl (by first | omega | (exact R.r _ _) | (simp only [jM.len_sI, jM.len_sL, jM.len_sR, jM.len_fI, jM.len_fL, jM.len_fR]; omega) | (simp [jM.len_nw, jM.len_sI, jM.len_sL, jM.len_sR, jM.len_fI, jM.len_fL, jM.len_fR, *]; omega)) (by first | omega | (exact R.r _ _) | (simp only [jM.len_sI, jM.len_sL, jM.len_sR, jM.len_fI, jM.len_fL, jM.len_fR]; omega) | (simp [jM.len_nw, jM.len_sI, jM.len_sL, jM.len_sR, jM.len_fI, jM.len_fL, jM.len_fR, *]; omega)) (by first | omega | (exact R.r _ _) | (simp only [jM.len_sI, jM.len_sL, jM.len_sR, jM.len_fI, jM.len_fL, jM.len_fR]; omega) | (simp [jM.len_nw, jM.len_sI, jM.len_sL, jM.len_sR, jM.len_fI, jM.len_fL, jM.len_fR, *]; omega)) (by first | assumption | (simp only [jM.R_sI, jM.R_sL, jM.R_fI, jM.R_fL]; assumption) | (simp [jM.R_nw, jM.R_sR, jM.R_fR, jM.R_sI, jM.R_sL, jM.R_fI, jM.R_fL, *]; done)) rfl ?_
        refine J.iload_n (pc' := 23) rfl rfl rfl ?_
        refine J.iald (pc' := 24) rfl (by first | assumption | (simp only [jM.tag_sI, jM.tag_sL, jM.tag_sR, jM.tag_fI, jM.tag_fL, jM.tag_fR]; assumption) | (simp [jM.tag_nw, jM.tag_sI, jM.tag_sL, jM.tag_sR, jM.tag_fI, jM.tag_fL, jM.tag_fR, *]; done)) (by decide) rfl (by first | omega | (exact R.r _ _) | (simp only [jM.len_sI, jM.len_sL, jM.len_sR, jM.len_fI, jM.len_fL, jM.len_fR]; omega) | (simp [jM.len_nw, jM.len_sI, jM.len_sL, jM.len_sR, jM.len_fI, jM.len_fL, jM.len_fR, *]; omega)) (by first | omega | (exact R.r _ _) | (simp only [jM.len_sI, jM.len_sL, jM.len_sR, jM.len_fI, jM.len_fL, jM.len_fR]; omega) | (simp [jM.len_nw, jM.len_sI, jM.len_sL, jM.len_sR, jM.len_fI, jM.len_fL, jM.len_fR, *]; omega)) (by first | omega | (exact R.r _ _) | (simp only [jM.len_sI, jM.len_sL, jM.len_sR, jM.len_fI, jM.len_fL, jM.len_fR]; omega) | (simp [jM.len_nw, jM.len_sI, jM.len_sL, jM.len_sR, jM.len_fI, jM.len_fL, jM.len_fR, *]; omega)) rfl ?_
        have e1 : k.I 30 (σ 30) (s : Int).toNat = suV h σ s := by
          have := b2 s (by omega)
          rw [if_neg (by omega)] at this
          exact this
        have e2 : k.I 27 (σ 31 + 1 + s) x.toNat = gvV h σ s x := b1.2.2.2.2 27 _ _ (by omega)
        rw [e1, e2]
        refine J.imul (pc' := 25) rfl rfl ?_
        refine J.iadd (pc' := 26) rfl rfl ?_
        refine J.iast (pc' := 27) rfl (by first | assumption | (simp only [jM.tag_sI, jM.tag_sL, jM.tag_sR, jM.tag_fI, jM.tag_fL, jM.tag_fR]; assumption) | (simp [jM.tag_nw, jM.tag_sI, jM.tag_sL, jM.tag_sR, jM.tag_fI, jM.tag_fL, jM.tag_fR, *]; done)) (by decide) rfl (by first | omega | (exact R.r _ _) | (simp only [jM.len_sI, jM.len_sL, jM.len_sR, jM.len_fI, jM.len_fL, jM.len_fR]; omega) | (simp [jM.len_nw, jM.len_sI, jM.len_sL, jM.len_sR, jM.len_fI, jM.len_fL, jM.len_fR, *]; omega)) (by first | omega | (exact R.r _ _) | (simp only [jM.len_sI, jM.len_sL, jM.len_sR, jM.len_fI, jM.len_fL, jM.len_fR]; omega) | (simp [jM.len_nw, jM.len_sI, jM.len_sL, jM.len_sR, jM.len_fI, jM.len_fL, jM.len_fR, *]; omega)) (by first | omega | (exact R.r _ _) | (simp only [jM.len_sI, jM.len_sL, jM.len_sR, jM.len_fI, jM.len_fL, jM.len_fR]; omega) | (simp [jM.len_nw, jM.len_sI, jM.len_sL, jM.len_sR, jM.len_fI, jM.len_fL, jM.len_fR, *]; omega)) (Or.inl rfl) rfl ?_
        refine J.iinc (pc' := 30) rfl rfl rfl (by decide) ?_
        refine J.goto (tgt := 2) rfl rfl ?_
        refine ih (s + 1) (by omega) (k.sI 30 (σ 30) (s : Int).toNat (suV h σ s + w * gvV h σ s x)) (b1.sI ⟨rfl, rfl⟩) (fun u hu => ?_) _ ⟨rfl, rfl, rfl, rfl, trivial⟩
        show (k.sI 30 (σ 30) (s : Int).toNat (suV h σ s + w * gvV h σ s x)).I 30 (σ 30) (u : Int).toNat = _
        rw [jM.I_sI]
        by_cases z : u = s
        · subst z
          rw [if_pos ⟨rfl, rfl, rfl⟩, if_pos (by omega)]
        · rw [if_neg (by omega)]
          have b := b2 u hu
          by_cases z2 : u < s
          · rw [if_pos z2] at b
            rw [if_pos (by omega)]
            exact b
          · rw [if_neg z2] at b
            rw [if_neg (by omega)]
            exact b
  exact key 11 0 (by omega) h onI.rf (fun u hu => by rw [if_neg (by omega)]) _ ⟨rfl, rfl, rfl, rfl, trivial⟩
theorem jCk_l : Cond.methodLink RX0 109 arraycopyName ∈ lw_tbl := by decide +kernel
theorem cz_keep (hS : isSS h σ) : CT γ mX0_keep 1 0 0 [.ref (σ 0)] h (fun r h' => r = none ∧ onI h h' (fun t a => t = 24 ∧ a = σ 24 ∨ t = 29 ∧ a = σ 29) ∧ (∀ g : Int, 0 ≤ g → g < 6 → chV h' σ g = trV h σ g) ∧ ∀ s : Nat, s < 11 → liV h' σ s = if s = 0 then suV h σ 0 - 1 else liV h σ s) X0 := by
  obtain ⟨t0, ⟨r24, t24, l24⟩, ⟨r25, t25, l25⟩, ⟨r26, t26, l26⟩, ⟨r31, t31, l31⟩, ⟨r32', t32, l32⟩, ⟨r29, t29, l29⟩, ⟨r30, t30, l30⟩, rg, rl⟩ := hS
  refine CT.of MX0_keep (Nat.le_of_ble_eq_true rfl) ?_
  show J γ mX0_keep 1 0 0 0 0 h 0 [(0, .ref (σ 0))] [] _ _
  first | refine J.aload_n (pc' := 1) rfl rfl rfl ?_ | refine J.aload_nN (pc' := 1) rfl rfl rfl ?_
  first | refine J.getR (pc' := 4) rfl fl_X0_15 rfl (by first | assumption | (simp only [jM.tag_sI, jM.tag_sL, jM.tag_sR, jM.tag_fI, jM.tag_fL, jM.tag_fR]; assumption) | (simp [jM.tag_nw, jM.tag_sI, jM.tag_sL, jM.tag_sR, jM.tag_fI, jM.tag_fL, jM.tag_fR, *]; done)) (by first | assumption | (simp only [jM.R_sI, jM.R_sL, jM.R_fI, jM.R_fL]; assumption) | (simp [jM.R_nw, jM.R_sR, jM.R_fR, jM.R_sI, jM.R_sL, jM.R_fI, jM.R_fL, *]; done)) rfl ?_ | refine J.getRN (pc' := 4) rfl fl_X0_15 rfl (by first | assumption | (simp only [jM.tag_sI, jM.tag_sL, jM.tag_sR, jM.tag_fI, jM.tag_fL, jM.tag_fR]; assumption) | (simp [jM.tag_nw, jM.tag_sI, jM.tag_sL, jM.tag_sR, jM.tag_fI, jM.tag_fL, jM.tag_fR, *]; done)) (by first | assumption | (simp only [jM.R_sI, jM.R_sL, jM.R_fI, jM.R_fL]; assumption) | (simp [jM.R_nw, jM.R_sR, jM.R_fR, jM.R_sI, jM.R_sL, jM.R_fI, jM.R_fL, *]; done)) rfl ?_
  refine J.iconst (pc' := 5) rfl rfl ?_
  first | refine J.aload_n (pc' := 6) rfl rfl rfl ?_ | refine J.aload_nN (pc' := 6) rfl rfl rfl ?_
  first | refine J.getR (pc' := 9) rfl fl_X0_9 rfl (by first | assumption | (simp only [jM.tag_sI, jM.tag_sL, jM.tag_sR, jM.tag_fI, jM.tag_fL, jM.tag_fR]; assumption) | (simp [jM.tag_nw, jM.tag_sI, jM.tag_sL, jM.tag_sR, jM.tag_fI, jM.tag_fL, jM.tag_fR, *]; done)) (by first | assumption | (simp only [jM.R_sI, jM.R_sL, jM.R_fI, jM.R_fL]; assumption) | (simp [jM.R_nw, jM.R_sR, jM.R_fR, jM.R_sI, jM.R_sL, jM.R_fI, jM.R_fL, *]; done)) rfl ?_ | refine J.getRN (pc' := 9) rfl fl_X0_9 rfl (by first | assumption | (simp only [jM.tag_sI, jM.tag_sL, jM.tag_sR, jM.tag_fI, jM.tag_fL, jM.tag_fR]; assumption) | (simp [jM.tag_nw, jM.tag_sI, jM.tag_sL, jM.tag_sR, jM.tag_fI, jM.tag_fL, jM.tag_fR, *]; done)) (by first | assumption | (simp only [jM.R_sI, jM.R_sL, jM.R_fI, jM.R_fL]; assumption) | (simp [jM.R_nw, jM.R_sR, jM.R_fR, jM.R_sI, jM.R_sL, jM.R_fI, jM.R_fL, *]; done)) rfl ?_
  refine J.iconst (pc' := 10) rfl rfl ?_
  refine J.bipush (pc' := 12) rfl rfl (by decide) ?_
  refine J.acopyI (pc' := 15) (t0 := 25) (t := 24) rfl jCk_l t25 t24 (by decide) (by decide) rfl (by decide) rfl (by omega) (by omega) (by omega) (by omega) (by omega) (by omega) (by omega) (by omega) (fun i _ => rfl) (Or.inl ⟨rfl, by omega⟩) (by omega) (Nat.le_of_ble_eq_true rfl) rfl ?_
  first | refine J.aload_n (pc' := 16) rfl rfl rfl ?_ | refine J.aload_nN (pc' := 16) rfl rfl rfl ?_
  first | refine J.getR (pc' := 19) rfl fl_X0_29 rfl (by first | assumption | (simp only [jM.tag_sI, jM.tag_sL, jM.tag_sR, jM.tag_fI, jM.tag_fL, jM.tag_fR]; assumption) | (simp [jM.tag_nw, jM.tag_sI, jM.tag_sL, jM.tag_sR, jM.tag_fI, jM.tag_fL, jM.tag_fR, *]; done)) (by first | assumption | (simp only [jM.R_sI, jM.R_sL, jM.R_fI, jM.R_fL]; assumption) | (simp [jM.R_nw, jM.R_sR, jM.R_fR, jM.R_sI, jM.R_sL, jM.R_fI, jM.R_fL, *]; done)) rfl ?_ | refine J.getRN (pc' := 19) rfl fl_X0_29 rfl (by first | assumption | (simp only [jM.tag_sI, jM.tag_sL, jM.tag_sR, jM.tag_fI, jM.tag_fL, jM.tag_fR]; assumption) | (simp [jM.tag_nw, jM.tag_sI, jM.tag_sL, jM.tag_sR, jM.tag_fI, jM.tag_fL, jM.tag_fR, *]; done)) (by first | assumption | (simp only [jM.R_sI, jM.R_sL, jM.R_fI, jM.R_fL]; assumption) | (simp [jM.R_nw, jM.R_sR, jM.R_fR, jM.R_sI, jM.R_sL, jM.R_fI, jM.R_fL, *]; done)) rfl ?_
  refine J.iconst (pc' := 20) rfl rfl ?_
  first | refine J.aload_n (pc' := 21) rfl rfl rfl ?_ | refine J.aload_nN (pc' := 21) rfl rfl rfl ?_
  first | refine J.getR (pc' := 24) rfl fl_X0_32 rfl (by first | assumption | (simp only [jM.tag_sI, jM.tag_sL, jM.tag_sR, jM.tag_fI, jM.tag_fL, jM.tag_fR]; assumption) | (simp [jM.tag_nw, jM.tag_sI, jM.tag_sL, jM.tag_sR, jM.tag_fI, jM.tag_fL, jM.tag_fR, *]; done)) (by first | assumption | (simp only [jM.R_sI, jM.R_sL, jM.R_fI, jM.R_fL]; assumption) | (simp [jM.R_nw, jM.R_sR, jM.R_fR, jM.R_sI, jM.R_sL, jM.R_fI, jM.R_fL, *]; done)) rfl ?_ | refine J.getRN (pc' := 24) rfl fl_X0_32 rfl (by first | assumption | (simp only [jM.tag_sI, jM.tag_sL, jM.tag_sR, jM.tag_fI, jM.tag_fL, jM.tag_fR]; assumption) | (simp [jM.tag_nw, jM.tag_sI, jM.tag_sL, jM.tag_sR, jM.tag_fI, jM.tag_fL, jM.tag_fR, *]; done)) (by first | assumption | (simp only [jM.R_sI, jM.R_sL, jM.R_fI, jM.R_fL]; assumption) | (simp [jM.R_nw, jM.R_sR, jM.R_fR, jM.R_sI, jM.R_sL, jM.R_fI, jM.R_fL, *]; done)) rfl ?_
  refine J.iconst (pc' := 25) rfl rfl ?_
  refine J.iald (pc' := 26) rfl (by first | assumption | (simp only [jM.tag_sI, jM.tag_sL, jM.tag_sR, jM.tag_fI, jM.tag_fL, jM.tag_fR]; assumption) | (simp [jM.tag_nw, jM.tag_sI, jM.tag_sL, jM.tag_sR, jM.tag_fI, jM.tag_fL, jM.tag_fR, *]; done)) (by decide) rfl (by first | omega | (exact R.r _ _) | (simp only [jM.len_sI, jM.len_sL, jM.len_sR, jM.len_fI, jM.len_fL, jM.len_fR]; omega) | (simp [jM.len_nw, jM.len_sI, jM.len_sL, jM.len_sR, jM.len_fI, jM.len_fL, jM.len_fR, *]; omega)) (by first | omega | (exact R.r _ _) | (simp only [jM.len_sI, jM.len_sL, jM.len_sR, jM.len_fI, jM.len_fL, jM.len_fR]; omega) | (simp [jM.len_nw, jM.len_sI, jM.len_sL, jM.len_sR, jM.len_fI, jM.len_fL, jM.len_fR, *]; omega)) (by first | omega | (exact R.r _ _) | (simp only [jM.len_sI, jM.len_sL, jM.len_sR, jM.len_fI, jM.len_fL, jM.len_fR]; omega) | (simp [jM.len_nw, jM.len_sI, jM.len_sL, jM.len_sR, jM.len_fI, jM.len_fL, jM.len_fR, *]; omega)) rfl ?_
  refine J.iconst (pc' := 27) rfl rfl ?_
  refine J.isub (pc' := 28) rfl rfl ?_
  refine J.iast (pc' := 29) rfl (by first | assumption | (simp only [jM.tag_sI, jM.tag_sL, jM.tag_sR, jM.tag_fI, jM.tag_fL, jM.tag_fR]; assumption) | (simp [jM.tag_nw, jM.tag_sI, jM.tag_sL, jM.tag_sR, jM.tag_fI, jM.tag_fL, jM.tag_fR, *]; done)) (by decide) rfl (by first | omega | (exact R.r _ _) | (simp only [jM.len_sI, jM.len_sL, jM.len_sR, jM.len_fI, jM.len_fL, jM.len_fR]; omega) | (simp [jM.len_nw, jM.len_sI, jM.len_sL, jM.len_sR, jM.len_fI, jM.len_fL, jM.len_fR, *]; omega)) (by first | omega | (exact R.r _ _) | (simp only [jM.len_sI, jM.len_sL, jM.len_sR, jM.len_fI, jM.len_fL, jM.len_fR]; omega) | (simp [jM.len_nw, jM.len_sI, jM.len_sL, jM.len_sR, jM.len_fI, jM.len_fL, jM.len_fR, *]; omega)) (by first | omega | (exact R.r _ _) | (simp only [jM.len_sI, jM.len_sL, jM.len_sR, jM.len_fI, jM.len_fL, jM.len_fR]; omega) | (simp [jM.len_nw, jM.len_sI, jM.len_sL, jM.len_sR, jM.len_fI, jM.len_fL, jM.len_fR, *]; omega)) (Or.inl rfl) rfl ?_
  refine J.vret rfl rfl (by first | omega | (exact R.r _ _) | (simp only [jM.len_sI, jM.len_sL, jM.len_sR, jM.len_fI, jM.len_fL, jM.len_fR]; omega) | (simp [jM.len_nw, jM.len_sI, jM.len_sL, jM.len_sR, jM.len_fI, jM.len_fL, jM.len_fR, *]; omega)) (by first | omega | (exact R.r _ _) | (simp only [jM.len_sI, jM.len_sL, jM.len_sR, jM.len_fI, jM.len_fL, jM.len_fR]; omega) | (simp [jM.len_nw, jM.len_sI, jM.len_sL, jM.len_sR, jM.len_fI, jM.len_fL, jM.len_fR, *]; omega)) ?_
  refine ⟨rfl, ⟨rfl, rfl, rfl, rfl, fun t a k hn => ?_⟩, fun g h0 h1 => ?_, fun s hs => ?_⟩
  · rw [jM.I_sI, if_neg (fun z => hn (Or.inr ⟨z.1, z.2.1⟩)), jM.I_fI, if_neg (fun z => hn (Or.inl z))]
  · show ((h.fI 24 (σ 24) _).sI 29 (σ 29) 0 _).I 24 (σ 24) g.toNat = h.I 25 (σ 25) g.toNat
    rw [jM.I_sI, if_neg (by omega), jM.I_fI, if_pos ⟨rfl, rfl⟩]
    unfold va_cpy
    rw [if_pos (by simp; omega)]
    simp
  · show ((h.fI 24 (σ 24) _).sI 29 (σ 29) 0 _).I 29 (σ 29) (s : Int).toNat = _
    rw [jM.I_sI]
    by_cases z : s = 0
    · subst z
      rw [if_pos ⟨rfl, rfl, rfl⟩, if_pos rfl]
      show (h.fI 24 (σ 24) _).I 30 (σ 30) 0 - 1 = _
      rw [jM.I_fI, if_neg (by omega)]
      rfl
    · rw [if_neg (by omega), jM.I_fI, if_neg (by omega), if_neg z]
      rfl
end SS

