theorem pTest_w {T : Int → Int} {n p q : Int} {t : Tst} (hp : p ≤ n) (h : pTest T n p = .inr (q, t)) : we T n (sk T n p) + 2 ≤ q := by
  have sb := sk_b (T := T) hp
  unfold pTest at h
  split at h
  · cases h
  · have wb := we_b (T := T) sb.2.1
    have s2 := sk_b (T := T) wb.2.1
    split at h
    · cases h
    · rename_i h2
      have h2' := Classical.not_not.mp h2
      have s3 := sk_b (T := T) (n := n) (p := sk T n (we T n (sk T n p)) + 1) (by omega)
      have nb := numN_b (T := T) (n := n) 5 (sk T n (sk T n (we T n (sk T n p)) + 1)) 0 s3.2.1 (by omega)
      split at h
      · cases h
      · rename_i h3
        have e := Sum.inr.inj h
        have e1 := (Prod.mk.inj e).1
        omega
theorem pPay_b {T : Int → Int} {n p q v : Int} (hp : p ≤ n) (h : pPay T n p = .inr (q, v)) : p ≤ q ∧ q ≤ n ∧ we T n (sk T n p) + 2 ≤ q ∧ (0 ≤ v ∧ v ≤ 99999) := by
  have s1 := sk_b (T := T) hp
  have w1 := we_b (T := T) s1.2.1
  have s2 := sk_b (T := T) w1.2.1
  have nb := numN_b (T := T) (n := n) 5 (sk T n (we T n (sk T n p))) 0 s2.2.1 (by omega)
  have s3 := sk_b (T := T) nb.2.2.1
  have p5 : ((0 : Int) + 1) * 10 ^ 5 = 100000 := by decide
  rw [p5] at nb
  unfold pPay at h
  split at h
  · cases h
  · split at h
    · cases h
    · split at h
      · have e := Sum.inr.inj h
        have e1 := (Prod.mk.inj e).1
        have e2 := (Prod.mk.inj e).2
        omega
      · cases h
theorem pTs_b {T : Int → Int} {n q : Int} {l : List Tst} : ∀ (k : Nat) (p : Int) (acc : List Tst), p ≤ n → pTs T n k p acc = .inr (q, l) → p + 4 ≤ q ∧ q ≤ n ∧ we T n (sk T n p) ≤ q := fun k => by
  induction k with
  | zero => intro p acc hp h; cases h
  | succ k ih =>
    intro p acc hp h
    rw [pTs] at h
    cases ht : pTest T n p with
    | inl e => rw [ht] at h; cases h
    | inr qt =>
      obtain ⟨q1, t⟩ := qt
      have b := pTest_b hp ht
      have w := pTest_w hp ht
      have s := sk_b (T := T) b.2.1
      rw [ht] at h
      dsimp only at h
      split at h
      · have := ih _ _ (by omega) h
        omega
      · have e := Sum.inr.inj h
        have e1 := (Prod.mk.inj e).1
        omega
def gLim (T : Int → Int) (n p : Int) : Int := match pGr T n p with
  | .inl _ => n
  | .inr (q, _) => q
theorem gLim_pay {T : Int → Int} {n p q1 : Int} {l : List Tst} (hp : p ≤ n) (h : pTs T n 400 p [] = .inr (q1, l)) : q1 ≤ gLim T n p ∧ we T n (sk T n q1) ≤ gLim T n p ∧ gLim T n p ≤ n := by
  have b := pTs_b _ _ _ hp h
  have s := sk_b (T := T) b.2.1
  have w := we_b (T := T) s.2.1
  unfold gLim pGr
  rw [h]
  dsimp only
  cases hy : pPay T n q1 with
  | inl e => dsimp only; omega
  | inr qv =>
    obtain ⟨q, v⟩ := qv
    have c := pPay_b b.2.1 hy
    dsimp only
    omega
theorem gLim_ts {T : Int → Int} {n p0 p : Int} {k : Nat} {acc : List Tst} (hp0 : p0 ≤ n) (hp : p ≤ n) (h : pTs T n 400 p0 [] = pTs T n k p acc) : p ≤ gLim T n p0 ∧ we T n (sk T n p) ≤ gLim T n p0 ∧ gLim T n p0 ≤ n := by
  have s := sk_b (T := T) hp
  have w := we_b (T := T) s.2.1
  cases hk : pTs T n k p acc with
  | inl e =>
    rw [hk] at h
    unfold gLim pGr
    rw [h]
    dsimp only
    omega
  | inr ql =>
    obtain ⟨q, l⟩ := ql
    have b := pTs_b _ _ _ hp hk
    have := gLim_pay hp0 (h.trans hk)
    omega
def tOk (l : List Tst) : Prop := ∀ m, (0 ≤ gB l m ∧ gB l m ≤ 10001) ∧ (-1 ≤ gA l m ∧ gA l m ≤ 99999)
theorem tOk_0 : tOk [] := fun m => by unfold gB gA; simp
theorem tOk.app {l : List Tst} {t : Tst} (h : tOk l) (ht : 0 ≤ t.2.2 ∧ t.2.2 ≤ 99999) : tOk (l ++ [t]) := fun m => by
  have := h m
  rw [gB_app, gA_app]
  constructor
  · split <;> omega
  · split <;> omega
theorem tOk.r {l : List Tst} (h : tOk l) : ∀ m, r32 (gB l m) ∧ r32 (gA l m) := fun m => by
  have := h m
  constructor <;> constructor <;> omega
section RG
variable {γ : jG} {h : jM} {rd s e c gg ge : Nat} {n p pl nm : Int} {T : Int → Int} {gl : List Nat}
def grdQ (γ : jG) (h : jM) (rd s e : Nat) (n : Int) (T : Int → Int) (c gg ge : Nat) (gl : List Nat) (p : Int) : Option Value → jM → Prop := fun r h' => match pGr T n p with
  | .inl er => r = some (.int (jI 0)) ∧ (∃ p' nm', isRd h' rd s e n T c p' er nm') ∧ Fr h h' (fun b => b = rd) ∧ Nt h h' [1, 7, 22, 23, 34, 35]
  | .inr (q, l, v) => r = some (.int (jI 1)) ∧ (∃ pl' nm', isRd h' rd s e n T c q pl' nm') ∧ ∃ g ge' p1 p2, isL γ h' gg ge' (gl ++ [g]) ∧ isG h' g p1 p2 (gB l) (gA l) v ∧ h.tag g = 0 ∧ h.tag p1 = 0 ∧ h.tag p2 = 0 ∧ Fr h h' (fun b => b = rd ∨ lW h gg ge b) ∧ Nt h h' [1, 7, 22, 23, 34, 35] ∧ (ge' = ge ∨ h.tag ge' = 0)
theorem cr_grade1 {g p1 p2 : Nat} {mc ms c1 c2 : Nat} {k : jM} {q1 : Int} {l : List Tst} (hmc : c1 + 3 ≤ mc) (hms : c2 + ((we T n (sk T n q1) - sk T n q1).toNat + 4) + 150 ≤ ms) (hR0 : isRd h rd s e n T c p pl nm) (tc : h.tag c = 5) (rc : h.R 5 c 3 = some gg) (hL : isL γ h gg ge gl) (hel : ∀ y ∈ gl, h.tag y = 7) (hgl : gl.length < 12) (gf : h.tag g = 0) (p1f : h.tag p1 = 0) (p2f : h.tag p2 = 0)
    (hs : pTs T n 400 p [] = .inr (q1, l)) {pl1 nm1 : Int} (b1 : isRd k rd s e n T c q1 pl1 nm1) (b2 : isG k g p1 p2 (gB l) (gA l) 0) (b3 : Fr h k (fun b => b = rd)) (b4 : Nt h k [1, 7, 22, 23, 34, 35]) (hK : isK γ k) : ∀ lv, hasL lv [(0, .ref rd), (1, .ref g)] → J γ mX2_readsGrade 8 mc ms c1 c2 k 46 lv [] (grdQ γ h rd s e n T c gg ge gl p) X0 := by
  intro lv hlv
  have tr := b1.1
  have hbn := b1.bnd
  have tr0 := hR0.1
  refine J.lc hlv ?_
  first | refine J.aload_n (pc' := 47) rfl rfl rfl ?_ | refine J.aload_nN (pc' := 47) rfl rfl rfl ?_
  refine J.callV (pc' := 50) (t := 6) rfl MX2_readsPay ml_X2_41 iv_X2_readsPay (by decide) ⟨_, rfl, rfl⟩ (by first | assumption | (simp only [jM.tag_sI, jM.tag_sL, jM.tag_sR, jM.tag_fI, jM.tag_fL, jM.tag_fR]; assumption) | (simp [jM.tag_nw, jM.tag_sI, jM.tag_sL, jM.tag_sR, jM.tag_fI, jM.tag_fL, jM.tag_fR, *]; done)) (cr_pay b1 hK) rfl rfl (Nat.le_of_ble_eq_true rfl) (by first | omega | (exact R.r _ _) | (simp only [jM.len_sI, jM.len_sL, jM.len_sR, jM.len_fI, jM.len_fL, jM.len_fR]; omega) | (simp [jM.len_nw, jM.len_sI, jM.len_sL, jM.len_sR, jM.len_fI, jM.len_fL, jM.len_fR, *]; omega)) (by first | omega | (exact R.r _ _) | (simp only [jM.len_sI, jM.len_sL, jM.len_sR, jM.len_fI, jM.len_fL, jM.len_fR]; omega) | (simp [jM.len_nw, jM.len_sI, jM.len_sL, jM.len_sR, jM.len_fI, jM.len_fL, jM.len_fR, *]; omega)) (by first | omega | (exact R.r _ _) | (simp only [jM.len_sI, jM.len_sL, jM.len_sR, jM.len_fI, jM.len_fL, jM.len_fR]; omega) | (simp [jM.len_nw, jM.len_sI, jM.len_sL, jM.len_sR, jM.len_fI, jM.len_fL, jM.len_fR, *]; omega)) rfl rfl ?_ ?_
  · exact fun _ _ h => h
  intro r k1 hq
  unfold pyQ at hq
  have q1b := b1.2.2.2.2.2.2.2
  cases hy : pPay T n q1 with
  | inl er =>
    rw [hy] at hq
    obtain ⟨rfl, x1, x2, x3⟩ := hq
    refine J.if_ne (tgt := 55) (pc' := 53) rfl rfl rfl (by first | omega | (exact R.r _ _) | (simp only [jM.len_sI, jM.len_sL, jM.len_sR, jM.len_fI, jM.len_fL, jM.len_fR]; omega) | (simp [jM.len_nw, jM.len_sI, jM.len_sL, jM.len_sR, jM.len_fI, jM.len_fL, jM.len_fR, *]; omega)) (fun z1 => ?_) (fun z1 => ?_)
    · omega
    · refine J.iconst (pc' := 54) rfl rfl ?_
      refine J.zret rfl rfl (by rfl) (by first | omega | (exact R.r _ _) | (simp only [jM.len_sI, jM.len_sL, jM.len_sR, jM.len_fI, jM.len_fL, jM.len_fR]; omega) | (simp [jM.len_nw, jM.len_sI, jM.len_sL, jM.len_sR, jM.len_fI, jM.len_fL, jM.len_fR, *]; omega)) (by first | omega | (exact R.r _ _) | (simp only [jM.len_sI, jM.len_sL, jM.len_sR, jM.len_fI, jM.len_fL, jM.len_fR]; omega) | (simp [jM.len_nw, jM.len_sI, jM.len_sL, jM.len_sR, jM.len_fI, jM.len_fL, jM.len_fR, *]; omega)) ?_
      unfold grdQ
      rw [show pGr T n p = .inl er by unfold pGr; rw [hs]; dsimp only; rw [hy]]
      exact ⟨rfl, x1, b3.trans x2 (fun _ _ z => z.elim id id), b4.trans x3 x2 (by simp)⟩
  | inr qv =>
    obtain ⟨q, v⟩ := qv
    rw [hy] at hq
    obtain ⟨rfl, ⟨pl2, x1⟩, x2, x3⟩ := hq
    have pb := pPay_b q1b.2 hy
    have G1 := b2.keptR tr x2
    have F1 : Fr h k1 (fun b => b = rd) := b3.trans x2 (fun _ _ z => z.elim id id)
    have N1 : Nt h k1 [1, 7, 22, 23, 34, 35] := b4.trans x3 x2 (by simp)
    have tr1 := x1.1
    have nm1 := x1.2.2.2.2.2.2.1
    have tg1 := G1.1
    have hrg : ¬ rd = g := fun z => by rw [z] at tr1; omega
    refine J.if_ne (tgt := 55) (pc' := 53) rfl rfl rfl (by first | omega | (exact R.r _ _) | (simp only [jM.len_sI, jM.len_sL, jM.len_sR, jM.len_fI, jM.len_fL, jM.len_fR]; omega) | (simp [jM.len_nw, jM.len_sI, jM.len_sL, jM.len_sR, jM.len_fI, jM.len_fL, jM.len_fR, *]; omega)) (fun z1 => ?_) (fun z1 => ?_)
    · first | refine J.aload_n (pc' := 56) rfl rfl rfl ?_ | refine J.aload_nN (pc' := 56) rfl rfl rfl ?_
      first | refine J.aload_n (pc' := 57) rfl rfl rfl ?_ | refine J.aload_nN (pc' := 57) rfl rfl rfl ?_
      refine J.getI (pc' := 60) rfl fl_X2_18 rfl (by first | assumption | (simp only [jM.tag_sI, jM.tag_sL, jM.tag_sR, jM.tag_fI, jM.tag_fL, jM.tag_fR]; assumption) | (simp [jM.tag_nw, jM.tag_sI, jM.tag_sL, jM.tag_sR, jM.tag_fI, jM.tag_fL, jM.tag_fR, *]; done)) rfl ?_
      rw [nm1]
      refine J.putI (pc' := 63) rfl fl_X2_69 rfl (Or.inl rfl) (by first | assumption | (simp only [jM.tag_sI, jM.tag_sL, jM.tag_sR, jM.tag_fI, jM.tag_fL, jM.tag_fR]; assumption) | (simp [jM.tag_nw, jM.tag_sI, jM.tag_sL, jM.tag_sR, jM.tag_fI, jM.tag_fL, jM.tag_fR, *]; done)) (Or.inl rfl) rfl ?_
      have F2 : Fr k1 (k1.sI 7 g 2 v) (fun b => b = g) := Fr.sI
      have R2 : isRd (k1.sI 7 g 2 v) rd s e n T c q pl2 v := x1.kept F2 hrg (fun z => by have := x1.2.2.1.1; rw [z] at this; omega) (fun z => by have := x1.2.2.1.2.2.1; rw [z] at this; omega)
      have G2 : isG (k1.sI 7 g 2 v) g p1 p2 (gB l) (gA l) v := by
        obtain ⟨a1, a2, a3, a4, a5, a6, a7, a8, a9, a10, a11⟩ := G1
        exact ⟨a1, a2, a3, a4, a5, a6, a7, a8, a9, by rw [jM.I_sI, if_pos ⟨rfl, rfl, rfl⟩], fun m hm => by rw [jM.I_sI, if_neg (by omega), jM.I_sI, if_neg (by omega)]; exact a11 m hm⟩
      have F12 : Fr h (k1.sI 7 g 2 v) (fun b => b = rd) := F1.stI (Or.inr gf)
      have N2 : Nt h (k1.sI 7 g 2 v) [1, 7, 22, 23, 34, 35] := N1.st rfl
      generalize k1.sI 7 g 2 v = k2 at R2 G2 F12 N2 ⊢
      have tr2 := R2.1
      have rc2 := R2.2.2.2.1
      have hcr : ¬ c = rd := fun z => by rw [z] at tc; omega
      have tc2 : k2.tag c = 5 := F12.tag tc (by omega)
      have rg2 : k2.R 5 c 3 = some gg := by rw [F12.R tc (by omega) hcr]; exact rc
      have L2 : isL γ k2 gg ge gl := hL.keptW F12 (fun z => by have := hL.1; rw [z] at this; omega) (Or.inl (fun z => by have := hL.2.2.1; rw [z] at this; omega))
      have tgg := L2.1
      have tg2 := G2.1
      first | refine J.aload_n (pc' := 64) rfl rfl rfl ?_ | refine J.aload_nN (pc' := 64) rfl rfl rfl ?_
      first | refine J.getR (pc' := 67) rfl fl_X2_25 rfl (by first | assumption | (simp only [jM.tag_sI, jM.tag_sL, jM.tag_sR, jM.tag_fI, jM.tag_fL, jM.tag_fR]; assumption) | (simp [jM.tag_nw, jM.tag_sI, jM.tag_sL, jM.tag_sR, jM.tag_fI, jM.tag_fL, jM.tag_fR, *]; done)) (by first | assumption | (simp only [jM.R_sI, jM.R_sL, jM.R_fI, jM.R_fL]; assumption) | (simp [jM.R_nw, jM.R_sR, jM.R_fR, jM.R_sI, jM.R_sL, jM.R_fI, jM.R_fL, *]; done)) rfl ?_ | refine J.getRN (pc' := 67) rfl fl_X2_25 rfl (by first | assumption | (simp only [jM.tag_sI, jM.tag_sL, jM.tag_sR, jM.tag_fI, jM.tag_fL, jM.tag_fR]; assumption) | (simp [jM.tag_nw, jM.tag_sI, jM.tag_sL, jM.tag_sR, jM.tag_fI, jM.tag_fL, jM.tag_fR, *]; done)) (by first | assumption | (simp only [jM.R_sI, jM.R_sL, jM.R_fI, jM.R_fL]; assumption) | (simp [jM.R_nw, jM.R_sR, jM.R_fR, jM.R_sI, jM.R_sL, jM.R_fI, jM.R_fL, *]; done)) rfl ?_
      first | refine J.getR (pc' := 70) rfl fl_X2_72 rfl (by first | assumption | (simp only [jM.tag_sI, jM.tag_sL, jM.tag_sR, jM.tag_fI, jM.tag_fL, jM.tag_fR]; assumption) | (simp [jM.tag_nw, jM.tag_sI, jM.tag_sL, jM.tag_sR, jM.tag_fI, jM.tag_fL, jM.tag_fR, *]; done)) (by first | assumption | (simp only [jM.R_sI, jM.R_sL, jM.R_fI, jM.R_fL]; assumption) | (simp [jM.R_nw, jM.R_sR, jM.R_fR, jM.R_sI, jM.R_sL, jM.R_fI, jM.R_fL, *]; done)) rfl ?_ | refine J.getRN (pc' := 70) rfl fl_X2_72 rfl (by first | assumption | (simp only [jM.tag_sI, jM.tag_sL, jM.tag_sR, jM.tag_fI, jM.tag_fL, jM.tag_fR]; assumption) | (simp [jM.tag_nw, jM.tag_sI, jM.tag_sL, jM.tag_sR, jM.tag_fI, jM.tag_fL, jM.tag_fR, *]; done)) (by first | assumption | (simp only [jM.R_sI, jM.R_sL, jM.R_fI, jM.R_fL]; assumption) | (simp [jM.R_nw, jM.R_sR, jM.R_fR, jM.R_sI, jM.R_sL, jM.R_fI, jM.R_fL, *]; done)) rfl ?_
      first | refine J.aload_n (pc' := 71) rfl rfl rfl ?_ | refine J.aload_nN (pc' := 71) rfl rfl rfl ?_
      refine J.callV (pc' := 74) (t := 3) rfl MJx4a65c_add_9ea2d ml_X2_76 iv_Jx4a65c_add_9ea2d (by decide) ⟨_, rfl, rfl⟩ (by first | assumption | (simp only [jM.tag_sI, jM.tag_sL, jM.tag_sR, jM.tag_fI, jM.tag_fL, jM.tag_fR]; assumption) | (simp [jM.tag_nw, jM.tag_sI, jM.tag_sL, jM.tag_sR, jM.tag_fI, jM.tag_fL, jM.tag_fR, *]; done)) (cl_add (x := g) L2 (fun y hy => by rw [F12.tag (hel y hy) (by omega)]; rfl) (by omega) (by rw [tg2]; rfl) hK.2.2.1) rfl rfl (Nat.le_of_ble_eq_true rfl) (by first | omega | (exact R.r _ _) | (simp only [jM.len_sI, jM.len_sL, jM.len_sR, jM.len_fI, jM.len_fL, jM.len_fR]; omega) | (simp [jM.len_nw, jM.len_sI, jM.len_sL, jM.len_sR, jM.len_fI, jM.len_fL, jM.len_fR, *]; omega)) (by first | omega | (exact R.r _ _) | (simp only [jM.len_sI, jM.len_sL, jM.len_sR, jM.len_fI, jM.len_fL, jM.len_fR]; omega) | (simp [jM.len_nw, jM.len_sI, jM.len_sL, jM.len_sR, jM.len_fI, jM.len_fL, jM.len_fR, *]; omega)) (by first | omega | (exact R.r _ _) | (simp only [jM.len_sI, jM.len_sL, jM.len_sR, jM.len_fI, jM.len_fL, jM.len_fR]; omega) | (simp [jM.len_nw, jM.len_sI, jM.len_sL, jM.len_sR, jM.len_fI, jM.len_fL, jM.len_fR, *]; omega)) rfl rfl ?_ ?_
      · exact fun _ _ h => h
      rintro _ k3 ⟨rfl, ge', r1, r2, r3, r4⟩
      have tge := L2.2.2.1
      have nw : ∀ z, (k2.tag z = 6 ∨ k2.tag z = 1 ∨ k2.tag z = 35 ∨ k2.tag z = 7 ∨ k2.tag z = 22 ∨ k2.tag z = 23) → ¬ lW k2 gg ge z := fun z hz q => by
        rcases q with q | q
        · rw [q] at hz; omega
        · rw [q.1] at hz; omega
      refine J.pop (pc' := 75) rfl rfl rfl ?_
      refine J.iconst (pc' := 76) rfl rfl ?_
      refine J.zret rfl rfl (by rfl) (by first | omega | (exact R.r _ _) | (simp only [jM.len_sI, jM.len_sL, jM.len_sR, jM.len_fI, jM.len_fL, jM.len_fR]; omega) | (simp [jM.len_nw, jM.len_sI, jM.len_sL, jM.len_sR, jM.len_fI, jM.len_fL, jM.len_fR, *]; omega)) (by first | omega | (exact R.r _ _) | (simp only [jM.len_sI, jM.len_sL, jM.len_sR, jM.len_fI, jM.len_fL, jM.len_fR]; omega) | (simp [jM.len_nw, jM.len_sI, jM.len_sL, jM.len_sR, jM.len_fI, jM.len_fL, jM.len_fR, *]; omega)) ?_
      unfold grdQ
      rw [show pGr T n p = .inr (q, l, v) by unfold pGr; rw [hs]; dsimp only; rw [hy]]
      refine ⟨rfl, ⟨_, _, R2.kept r3 (nw _ (Or.inl tr2)) (nw _ (Or.inr (Or.inl R2.2.2.1.1))) (nw _ (Or.inr (Or.inr (Or.inl R2.2.2.1.2.2.1))))⟩, g, ge', p1, p2, r1, G2.kept r3 (nw _ (Or.inr (Or.inr (Or.inr (Or.inl tg2))))) (nw _ (Or.inr (Or.inr (Or.inr (Or.inr (Or.inl G2.2.2.1)))))) (nw _ (Or.inr (Or.inr (Or.inr (Or.inr (Or.inr G2.2.2.2.2.2.2.1)))))), gf, p1f, p2f, F12.trans r3 (fun b hb z => ?_), N2.trans r4 r3 (by simp), ?_⟩
      · rcases z with z | z | z
        · exact Or.inl z
        · exact Or.inr (Or.inl z)
        · exact Or.inr (Or.inr ⟨z.1, by rw [← F12.len (by rw [hL.2.2.1]; omega)]; exact z.2⟩)
      · rcases r2 with r2 | r2
        · exact Or.inl r2
        · exact Or.inr (F12.free r2.1)
    · omega
theorem cr_grade (hR : isRd h rd s e n T c p pl nm) (hn : n ≤ 400) (hp5 : 5 ≤ p) (hK : isK γ h) (tc : h.tag c = 5) (rc : h.R 5 c 3 = some gg) (hL : isL γ h gg ge gl) (hel : ∀ y ∈ gl, h.tag y = 7) (hgl : gl.length < 12) : CT γ mX2_readsGrade 8 (8 + (gLim T n p - p).toNat) (180 + 3 * (gLim T n p - p).toNat) [.ref rd] h (grdQ γ h rd s e n T c gg ge gl p) X0 := by
  have hpn := hR.2.2.2.2.2.2.2
  have tr := hR.1
  have hbn := hR.bnd
  refine CT.of MX2_readsGrade (Nat.le_of_ble_eq_true rfl) ?_
  show J γ mX2_readsGrade 8 (8 + (gLim T n p - p).toNat) (180 + 3 * (gLim T n p - p).toNat) 0 0 h 0 [(0, .ref rd)] [] _ _
  refine J.new (pc' := 3) (t := 7) (N := 3) (n := 3) rfl ⟨by decide, by decide, _, rfl, rfl, List.mem_of_getElem? (i := 916) (by decide +kernel), List.mem_of_getElem? (i := 917) (by decide +kernel), List.mem_of_getElem? (i := 94) (by decide +kernel)⟩ (by first | omega | (exact R.r _ _) | (simp only [jM.len_sI, jM.len_sL, jM.len_sR, jM.len_fI, jM.len_fL, jM.len_fR]; omega) | (simp [jM.len_nw, jM.len_sI, jM.len_sL, jM.len_sR, jM.len_fI, jM.len_fL, jM.len_fR, *]; omega)) (by first | omega | (exact R.r _ _) | (simp only [jM.len_sI, jM.len_sL, jM.len_sR, jM.len_fI, jM.len_fL, jM.len_fR]; omega) | (simp [jM.len_nw, jM.len_sI, jM.len_sL, jM.len_sR, jM.len_fI, jM.len_fL, jM.len_fR, *]; omega)) rfl (fun g gf gb => ?_)
  have tg : (h.nw g 7 3).tag g = 7 := by rw [jM.tag_nw, if_pos rfl]
  refine J.dup (pc' := 4) rfl rfl rfl ?_
  refine J.callI (pc' := 7) rfl MX3_init ml_X2_60 iv_X3_init ⟨rfl, rfl⟩ (cx_Grade tg) rfl rfl (Nat.le_of_ble_eq_true rfl) (by first | omega | (exact R.r _ _) | (simp only [jM.len_sI, jM.len_sL, jM.len_sR, jM.len_fI, jM.len_fL, jM.len_fR]; omega) | (simp [jM.len_nw, jM.len_sI, jM.len_sL, jM.len_sR, jM.len_fI, jM.len_fL, jM.len_fR, *]; omega)) (by first | omega | (exact R.r _ _) | (simp only [jM.len_sI, jM.len_sL, jM.len_sR, jM.len_fI, jM.len_fL, jM.len_fR]; omega) | (simp [jM.len_nw, jM.len_sI, jM.len_sL, jM.len_sR, jM.len_fI, jM.len_fL, jM.len_fR, *]; omega)) (by first | omega | (exact R.r _ _) | (simp only [jM.len_sI, jM.len_sL, jM.len_sR, jM.len_fI, jM.len_fL, jM.len_fR]; omega) | (simp [jM.len_nw, jM.len_sI, jM.len_sL, jM.len_sR, jM.len_fI, jM.len_fL, jM.len_fR, *]; omega)) rfl ?_
  rintro _ k0 ⟨rfl, p1, p2, g1, g2, g3, g4, g5⟩
  have F0 : Fr h (h.nw g 7 3) (fun b => b = rd) := Fr.stN Fr.rf gf
  have F1 : Fr h k0 (fun b => b = rd) := F0.trans g4 (fun b hb z => by
    rcases z with z | z
    · exact z
    · rw [z] at hb; exact absurd gf hb)
  have N1 : Nt h k0 [1, 7, 22, 23, 34, 35] := (Nt.stN (q := g) (t := 7) (n := 3) Nt.rf (by simp)).trans g5 g4 (by simp)
  have p1f := F0.free g2
  have p2f := F0.free g3
  have hrg : ¬ rd = g := fun z => by rw [z] at tr; omega
  have ts := hR.2.2.1.1
  have te := hR.2.2.1.2.2.1
  have R1 : isRd k0 rd s e n T c p pl nm := (hR.kept (Fr.stN (t := 7) (n := 3) (W := fun _ => False) Fr.rf gf) id id id).kept g4 hrg (fun z => by rw [z] at ts; omega) (fun z => by rw [z] at te; omega)
  have K1 : isK γ k0 := hK.kept F1 (fun b _ hb z => by rw [z] at hb; omega)
  first | refine J.astore_n (pc' := 8) rfl rfl (by decide) ?_ | refine J.astore_nN (pc' := 8) rfl rfl (by decide) ?_
  refine J.iconst (pc' := 9) rfl rfl ?_
  refine J.istore_n (pc' := 10) rfl rfl (by decide) ?_
  refine J.iconst (pc' := 11) rfl rfl ?_
  refine J.istore_n (pc' := 12) rfl rfl (by decide) ?_
  have key : ∀ (j : Nat) (q : Int) (acc : List Tst) (k : jM) (c1 c2 : Nat) (pl1 nm1 : Int), j ≤ 400 → 405 - (j : Int) ≤ q → p ≤ q → pTs T n 400 p [] = pTs T n j q acc → tOk acc → isRd k rd s e n T c q pl1 nm1 → isG k g p1 p2 (gB acc) (gA acc) 0 → Fr h k (fun b => b = rd) → Nt h k [1, 7, 22, 23, 34, 35] → isK γ k → (c1 : Int) ≤ 3 + (q - p) → (c2 : Int) ≤ 13 + 2 * (q - p) → ∀ lv, hasL lv [(0, .ref rd), (1, .ref g), (2, .int (jI 1)), (3, .int (jI (400 - (j : Int))))] → J γ mX2_readsGrade 8 (8 + (gLim T n p - p).toNat) (180 + 3 * (gLim T n p - p).toNat) c1 c2 k 12 lv [] (grdQ γ h rd s e n T c gg ge gl p) X0 := by
    intro j
    induction j with
    | zero =>
      intro q acc k c1 c2 pl1 nm1 hj hq hpq hs hok b1 b2 b3 b4 b5 b6 b7 lv hlv
      have := b1.2.2.2.2.2.2.2
      omega
    | succ j ih =>
      intro q acc k c1 c2 pl1 nm1 hj hq hpq hs hok b1 b2 b3 b4 b5 b6 b7 lv hlv
      have qb := b1.2.2.2.2.2.2.2
      have lim := gLim_ts hpn.2 qb.2 hs
      have sb := sk_b (T := T) qb.2
      have wb := we_b (T := T) sb.2.1
      have tr1 := b1.1
      have tg1 := b2.1
      refine J.lc hlv ?_
      refine J.iload_n (pc' := 13) rfl rfl rfl ?_
      refine J.if_eq (tgt := 46) (pc' := 16) rfl rfl rfl (by first | omega | (exact R.r _ _) | (simp only [jM.len_sI, jM.len_sL, jM.len_sR, jM.len_fI, jM.len_fL, jM.len_fR]; omega) | (simp [jM.len_nw, jM.len_sI, jM.len_sL, jM.len_sR, jM.len_fI, jM.len_fL, jM.len_fR, *]; omega)) (fun z1 => ?_) (fun z1 => ?_)
      · omega
      · refine J.iload_n (pc' := 17) rfl rfl rfl ?_
        refine J.sipush (pc' := 20) rfl rfl (by decide) ?_
        refine J.icmp_ge (tgt := 46) (pc' := 23) rfl rfl rfl (by first | omega | (exact R.r _ _) | (simp only [jM.len_sI, jM.len_sL, jM.len_sR, jM.len_fI, jM.len_fL, jM.len_fR]; omega) | (simp [jM.len_nw, jM.len_sI, jM.len_sL, jM.len_sR, jM.len_fI, jM.len_fL, jM.len_fR, *]; omega)) (by first | omega | (exact R.r _ _) | (simp only [jM.len_sI, jM.len_sL, jM.len_sR, jM.len_fI, jM.len_fL, jM.len_fR]; omega) | (simp [jM.len_nw, jM.len_sI, jM.len_sL, jM.len_sR, jM.len_fI, jM.len_fL, jM.len_fR, *]; omega)) (fun z2 => ?_) (fun z2 => ?_)
        · omega
        · first | refine J.aload_n (pc' := 24) rfl rfl rfl ?_ | refine J.aload_nN (pc' := 24) rfl rfl rfl ?_
          first | refine J.aload_n (pc' := 25) rfl rfl rfl ?_ | refine J.aload_nN (pc' := 25) rfl rfl rfl ?_
          refine J.callV (pc' := 28) (t := 6) rfl MX2_readsTest ml_X2_61 iv_X2_readsTest (by decide) ⟨_, rfl, rfl⟩ (by first | assumption | (simp only [jM.tag_sI, jM.tag_sL, jM.tag_sR, jM.tag_fI, jM.tag_fL, jM.tag_fR]; assumption) | (simp [jM.tag_nw, jM.tag_sI, jM.tag_sL, jM.tag_sR, jM.tag_fI, jM.tag_fL, jM.tag_fR, *]; done)) (cr_test b1 b5 b2 hok.r) rfl rfl (Nat.le_of_ble_eq_true rfl) (by first | omega | (exact R.r _ _) | (simp only [jM.len_sI, jM.len_sL, jM.len_sR, jM.len_fI, jM.len_fL, jM.len_fR]; omega) | (simp [jM.len_nw, jM.len_sI, jM.len_sL, jM.len_sR, jM.len_fI, jM.len_fL, jM.len_fR, *]; omega)) (by first | omega | (exact R.r _ _) | (simp only [jM.len_sI, jM.len_sL, jM.len_sR, jM.len_fI, jM.len_fL, jM.len_fR]; omega) | (simp [jM.len_nw, jM.len_sI, jM.len_sL, jM.len_sR, jM.len_fI, jM.len_fL, jM.len_fR, *]; omega)) (by first | omega | (exact R.r _ _) | (simp only [jM.len_sI, jM.len_sL, jM.len_sR, jM.len_fI, jM.len_fL, jM.len_fR]; omega) | (simp [jM.len_nw, jM.len_sI, jM.len_sL, jM.len_sR, jM.len_fI, jM.len_fL, jM.len_fR, *]; omega)) rfl rfl ?_ ?_
          · exact fun _ _ h => h
          intro r k1 hq2
          unfold rtQ at hq2
          have hstep : pTs T n (j + 1) q acc = match pTest T n q with
            | .inl e => .inl e
            | .inr (q, t) => if sk T n q < n ∧ T (sk T n q) = 44 then pTs T n j (sk T n q + 1) (acc ++ [t]) else .inr (sk T n q, acc ++ [t]) := rfl
          have ww : ∀ z, (z = rd ∨ z = p1 ∨ z = p2) → h.tag z ≠ 0 → z = rd := fun z hz h0 => by
            rcases hz with hz | hz | hz
            · exact hz
            · rw [hz] at h0; exact absurd p1f h0
            · rw [hz] at h0; exact absurd p2f h0
          cases ht : pTest T n q with
          | inl er =>
            rw [ht] at hq2 hstep
            dsimp only at hq2 hstep
            obtain ⟨rfl, x1, x2, x3⟩ := hq2
            refine J.if_ne (tgt := 33) (pc' := 31) rfl rfl rfl (by first | omega | (exact R.r _ _) | (simp only [jM.len_sI, jM.len_sL, jM.len_sR, jM.len_fI, jM.len_fL, jM.len_fR]; omega) | (simp [jM.len_nw, jM.len_sI, jM.len_sL, jM.len_sR, jM.len_fI, jM.len_fL, jM.len_fR, *]; omega)) (fun z3 => ?_) (fun z3 => ?_)
            · omega
            · refine J.iconst (pc' := 32) rfl rfl ?_
              refine J.zret rfl rfl (by rfl) (by first | omega | (exact R.r _ _) | (simp only [jM.len_sI, jM.len_sL, jM.len_sR, jM.len_fI, jM.len_fL, jM.len_fR]; omega) | (simp [jM.len_nw, jM.len_sI, jM.len_sL, jM.len_sR, jM.len_fI, jM.len_fL, jM.len_fR, *]; omega)) (by first | omega | (exact R.r _ _) | (simp only [jM.len_sI, jM.len_sL, jM.len_sR, jM.len_fI, jM.len_fL, jM.len_fR]; omega) | (simp [jM.len_nw, jM.len_sI, jM.len_sL, jM.len_sR, jM.len_fI, jM.len_fL, jM.len_fR, *]; omega)) ?_
              unfold grdQ
              rw [show pGr T n p = .inl er by unfold pGr; rw [hs, hstep]]
              exact ⟨rfl, x1, b3.trans x2 (fun z hz q9 => q9.elim id (fun q9 => ww z q9 hz)), b4.trans x3 x2 (by simp)⟩
          | inr qt =>
            obtain ⟨q2, t⟩ := qt
            rw [ht] at hq2 hstep
            dsimp only at hq2 hstep
            obtain ⟨rfl, ⟨pl2, x1⟩, x4, x2, x3⟩ := hq2
            have tb := pTest_b qb.2 ht
            have tw := pTest_w qb.2 ht
            have F2 : Fr h k1 (fun b => b = rd) := b3.trans x2 (fun z hz q9 => q9.elim id (fun q9 => ww z q9 hz))
            have N2 : Nt h k1 [1, 7, 22, 23, 34, 35] := b4.trans x3 x2 (by simp)
            have K2 : isK γ k1 := hK.kept F2 (fun b _ hb z => by rw [z] at hb; omega)
            have tr2 := x1.1
            have s2 := sk_b (T := T) tb.2.1
            refine J.if_ne (tgt := 33) (pc' := 31) rfl rfl rfl (by first | omega | (exact R.r _ _) | (simp only [jM.len_sI, jM.len_sL, jM.len_sR, jM.len_fI, jM.len_fL, jM.len_fR]; omega) | (simp [jM.len_nw, jM.len_sI, jM.len_sL, jM.len_sR, jM.len_fI, jM.len_fL, jM.len_fR, *]; omega)) (fun z3 => ?_) (fun z3 => ?_)
            · first | refine J.aload_n (pc' := 34) rfl rfl rfl ?_ | refine J.aload_nN (pc' := 34) rfl rfl rfl ?_
              refine J.bipush (pc' := 36) rfl rfl (by decide) ?_
              refine J.callV (pc' := 39) (t := 6) rfl MX2_takesSign ml_X2_65 iv_X2_takesSign (by decide) ⟨_, rfl, rfl⟩ (by first | assumption | (simp only [jM.tag_sI, jM.tag_sL, jM.tag_sR, jM.tag_fI, jM.tag_fL, jM.tag_fR]; assumption) | (simp [jM.tag_nw, jM.tag_sI, jM.tag_sL, jM.tag_sR, jM.tag_fI, jM.tag_fL, jM.tag_fR, *]; done)) (cr_sign (ch := 44) (by decide) x1) rfl rfl (Nat.le_of_ble_eq_true rfl) (by first | omega | (exact R.r _ _) | (simp only [jM.len_sI, jM.len_sL, jM.len_sR, jM.len_fI, jM.len_fL, jM.len_fR]; omega) | (simp [jM.len_nw, jM.len_sI, jM.len_sL, jM.len_sR, jM.len_fI, jM.len_fL, jM.len_fR, *]; omega)) (by first | omega | (exact R.r _ _) | (simp only [jM.len_sI, jM.len_sL, jM.len_sR, jM.len_fI, jM.len_fL, jM.len_fR]; omega) | (simp [jM.len_nw, jM.len_sI, jM.len_sL, jM.len_sR, jM.len_fI, jM.len_fL, jM.len_fR, *]; omega)) (by first | omega | (exact R.r _ _) | (simp only [jM.len_sI, jM.len_sL, jM.len_sR, jM.len_fI, jM.len_fL, jM.len_fR]; omega) | (simp [jM.len_nw, jM.len_sI, jM.len_sL, jM.len_sR, jM.len_fI, jM.len_fL, jM.len_fR, *]; omega)) rfl rfl ?_ ?_
              · exact fun _ _ h => h
              rintro _ k2 (⟨y1, rfl, d2, d3, d4⟩ | ⟨y1, rfl, d2, d3, d4⟩)
              · rw [if_pos y1] at hstep
                refine J.istore_n (pc' := 40) rfl rfl (by decide) ?_
                refine J.iinc (pc' := 43) rfl rfl rfl (by decide) ?_
                refine J.goto (tgt := 12) rfl rfl ?_
                refine ih (sk T n q2 + 1) (acc ++ [t]) k2 _ _ _ _ (by omega) (by omega) (by omega) (hs.trans hstep) (hok.app tb.2.2.2.2) d2 (x4.keptR tr2 d3) (F2.trans d3 (fun _ _ z => z.elim id id)) (N2.trans d4 d3 (by simp)) (K2.kept d3 (fun b _ hb z => by rw [z] at hb; omega)) (by omega) (by omega) _ ⟨rfl, rfl, rfl, ?_, trivial⟩
                show some (Value.int (jI (400 - ((j + 1 : Nat) : Int) + 1))) = some (Value.int (jI (400 - (j : Int))))
                rw [show 400 - ((j + 1 : Nat) : Int) + 1 = 400 - (j : Int) by omega]
              · rw [if_neg y1] at hstep
                have lp := gLim_pay hpn.2 (hs.trans hstep)
                refine J.istore_n (pc' := 40) rfl rfl (by decide) ?_
                refine J.iinc (pc' := 43) rfl rfl rfl (by decide) ?_
                refine J.goto (tgt := 12) rfl rfl ?_
                refine J.iload_n (pc' := 13) rfl rfl rfl ?_
                refine J.if_eq (tgt := 46) (pc' := 16) rfl rfl rfl (by first | omega | (exact R.r _ _) | (simp only [jM.len_sI, jM.len_sL, jM.len_sR, jM.len_fI, jM.len_fL, jM.len_fR]; omega) | (simp [jM.len_nw, jM.len_sI, jM.len_sL, jM.len_sR, jM.len_fI, jM.len_fL, jM.len_fR, *]; omega)) (fun z4 => ?_) (fun z4 => ?_)
                · exact cr_grade1 (q1 := sk T n q2) (l := acc ++ [t]) (by omega) (by have := sk_b (T := T) (n := n) (p := sk T n q2) (by omega); have := we_b (T := T) (n := n) (p := sk T n (sk T n q2)) (by omega); omega) hR tc rc hL hel hgl gf p1f p2f (hs.trans hstep) d2 (x4.keptR tr2 d3) (F2.trans d3 (fun _ _ z => z.elim id id)) (N2.trans d4 d3 (by simp)) (K2.kept d3 (fun b _ hb z => by rw [z] at hb; omega)) _ ⟨rfl, rfl, trivial⟩
                · omega
            · omega
  have l0 := gLim_ts (T := T) (k := 400) (acc := []) hpn.2 hpn.2 rfl
  exact key 400 p [] k0 _ _ _ _ (by omega) (by omega) (by omega) rfl tOk_0 R1 g1 F1 N1 K1 (by omega) (by omega) _ ⟨rfl, rfl, rfl, rfl, trivial⟩
end RG

