section
variable {γ : jG} {μ : jMth} {f mc ms cells slots : Nat} {h : jM} {pc : Nat} {lv : List (Nat × Value)} {st : List Value} {Q : Option Value → jM → Prop} {X : String → jM → Prop}
theorem J.lookup {dflt : Int} {ps : Array (Int × Int)} {len : Nat} {x off : Int} {tgt : Nat} (hc : μ.cm pc = some (.lookupswitch dflt ps, len)) (hx : r32 x) (hp : (ps.toList.zip (ps.toList.drop 1)).all (fun (a, next) => a.1 < next.1) = true) (ho : Op.lookupswitch.offset ps.toList dflt x = off) (ht : (pc : Int) + off = (tgt : Int)) (kk : J γ μ f mc ms cells slots h tgt lv st Q X) : J γ μ f mc ms cells slots h pc lv (.int (jI x) :: st) Q X := by
  intro p e s m args below meth c C H locs ls hH hz hlo hl
  exact lv_lookup C.hx C.hb (C.dec hc) hp (by rw [jI_toInt hx]; exact ho) ht (kk p e s m args below meth c C H locs ls hH hz hlo hl)
end
/-- what must hold of the state -/
def refL (V : VV) : Prop := ∀ g j : Int, 0 ≤ g → g < 6 → 0 ≤ j → j < V 138 g → V 140 (41 * g + j) < V 16 26
def refP (V : VV) : Prop := ∀ i k : Int, 0 ≤ i → i < V 16 52 → 0 ≤ k → k < V 153 i → V 155 (20 * i + k) < V 16 26
def unS (V : VV) : Prop := ∀ s : Int, V 16 2 ≤ s → V 109 s = 0 ∧ ∀ k m : Int, 0 ≤ k → k < 10 → 0 ≤ m → m < 5 → V 108 (ua s k m) = 0
def tnB (V : VV) : Prop := Sm (fun g => tonsOf V g) 6 ≤ 50 * V 16 26
def Inv (V : VV) : Prop := isR V ∧ isT V ∧ isPt V ∧ layAll V ≤ 40 ∧ refL V ∧ refP V ∧ V 16 10 % 20 = 0 ∧ unS V ∧ tnB V
abbrev opQ (γ : jG) (x : Nat) (h : jM) (w : RV) : Option Value → jM → Prop := fun r h' => r = some (.int (jI w.1)) ∧ w.2 16 0 = 0 ∧ RepC γ w.2 h' x ∧ FrC h h' clsS
abbrev opX (V : VV) (h : jM) (w : RV) (l : List (String × Int)) : String → jM → Prop := fun E h' => h' = h ∧ ∃ c, (E, c) ∈ l ∧ w = (0, jU V 16 0 c)
section FB
variable {γ : jG} {h : jM} {ρ σ : Nat → Nat} {x : Nat} {ks ss cs ls ms : List Nat} {V : VV}
theorem oV_b (R : isR V) (s j : Int) : -1 ≤ oV V s j ∧ oV V s j ≤ 10000 := by
  have h1 := R 106 (ua s (j / 10) ((j % 10) / 2)) rfl
  have h2 := R 107 (ua s (j / 10) ((j % 10) / 2)) rfl
  simp [jLo, jHi] at h1 h2
  unfold oV
  split
  · omega
  · split <;> omega
theorem kP_b (R : isR V) (k : Int) (j : Nat) : 0 ≤ kP V k j ∧ kP V k j ≤ 10000 := by
  have h1 : 0 ≤ V 104 (5 * k + ((j / 2 : Nat) : Int)) ∧ V 104 (5 * k + ((j / 2 : Nat) : Int)) ≤ 10000 := R 104 (5 * k + ((j / 2 : Nat) : Int)) rfl
  have h2 : 0 ≤ V 105 (5 * k + ((j / 2 : Nat) : Int)) ∧ V 105 (5 * k + ((j / 2 : Nat) : Int)) ≤ 10000 := R 105 (5 * k + ((j / 2 : Nat) : Int)) rfl
  unfold kP
  split
  · exact h1
  · exact h2
theorem usP_eq (R : isR V) {s k m d : Int} (hm : 0 ≤ m ∧ m < 5) (hd : d = 0 ∨ d = 1) : usP (oV V s) (kP V k) k (2 * m + d) = if d = 0 then lowOf V s k m else highOf V s k m := by
  have h1 := R 106 (ua s k m) rfl
  have h2 := R 107 (ua s k m) rfl
  simp [jLo, jHi] at h1 h2
  have e1 : (k * 10 + (2 * m + d)) / 10 = k := by omega
  have e2 : (k * 10 + (2 * m + d)) % 10 / 2 = m := by omega
  have e3 : (k * 10 + (2 * m + d)) % 2 = d := by omega
  have e4 : ((2 * m + d).toNat / 2 : Nat) = m.toNat := by omega
  have e5 : (2 * m + d).toNat % 2 = d.toNat := by omega
  have e6 : ((m.toNat : Nat) : Int) = m := by omega
  unfold usP oV kP lowOf highOf
  rw [e1, e2, e3, e4, e5, e6]
  by_cases z : V 108 (ua s k m) = 0
  · rw [if_pos z, if_pos rfl, if_pos z, if_pos z]
    rcases hd with rfl | rfl
    · rw [if_pos (show Int.toNat 0 = 0 from rfl), if_pos rfl]
    · rw [if_neg (show ¬ Int.toNat 1 = 0 by decide), if_neg (by decide)]
  · rw [if_neg z, if_neg z, if_neg z]
    rcases hd with rfl | rfl
    · rw [if_pos rfl, if_neg (by omega)]
    · rw [if_neg (show ¬ (1 : Int) = 0 by decide), if_neg (by omega)]
theorem cf_usual {s k m d : Int} (hs : r32 s) (hk : r32 k) (hm : r32 m) (hd : r32 d) (h0 : V 16 0 = 0) (I : Inv V) (hR : RepB γ V h x ρ σ ks ss cs ls ms) : CT γ mX11_usual 7 8 48 [.ref x, .int (jI s), .int (jI k), .int (jI m), .int (jI d)] h (opQ γ x h (sp_usual V s k m d)) (opX V h (sp_usual V s k m d) [(eNSE, 1), (eIAE, 2)]) := by
  have R := I.1
  have Rf := R.f
  have tx := hR.1.1
  refine CT.of MX11_usual (Nat.le_of_ble_eq_true rfl) ?_
  show J γ mX11_usual 7 8 48 0 0 h 0 [(0, .ref x), (1, .int (jI s)), (2, .int (jI k)), (3, .int (jI m)), (4, .int (jI d))] [] _ _
  first | refine J.aload_n (pc' := 1) rfl rfl rfl ?_ | refine J.aload_nN (pc' := 1) rfl rfl rfl ?_
  refine J.iload_n (pc' := 2) rfl rfl rfl ?_
  refine J.callV (pc' := 5) (t := 15) rfl MX11_sellerOf ml_X11_100 iv_X11_sellerOf (by decide) ⟨_, rfl, rfl⟩ (by first | assumption | (simp only [jM.tag_sI, jM.tag_sL, jM.tag_sR, jM.tag_fI, jM.tag_fL, jM.tag_fR]; assumption) | (simp [jM.tag_nw, jM.tag_sI, jM.tag_sL, jM.tag_sR, jM.tag_fI, jM.tag_fL, jM.tag_fR, *]; done)) (cf_sellerOf hs hR) rfl rfl (Nat.le_of_ble_eq_true rfl) (by first | omega | (exact R.r _ _) | (simp only [jM.len_sI, jM.len_sL, jM.len_sR, jM.len_fI, jM.len_fL, jM.len_fR]; omega) | (simp [jM.len_nw, jM.len_sI, jM.len_sL, jM.len_sR, jM.len_fI, jM.len_fL, jM.len_fR, *]; omega)) (by first | omega | (exact R.r _ _) | (simp only [jM.len_sI, jM.len_sL, jM.len_sR, jM.len_fI, jM.len_fL, jM.len_fR]; omega) | (simp [jM.len_nw, jM.len_sI, jM.len_sL, jM.len_sR, jM.len_fI, jM.len_fL, jM.len_fR, *]; omega)) (by first | omega | (exact R.r _ _) | (simp only [jM.len_sI, jM.len_sL, jM.len_sR, jM.len_fI, jM.len_fL, jM.len_fR]; omega) | (simp [jM.len_nw, jM.len_sI, jM.len_sL, jM.len_sR, jM.len_fI, jM.len_fL, jM.len_fR, *]; omega)) rfl rfl ?_ ?_
  · rintro _ _ ⟨hc, rfl, rfl⟩
    exact ⟨rfl, 1, by simp, by unfold sp_usual; rw [if_neg hc]⟩
  rintro _ h ⟨sz, rfl, as, cs1, rfl⟩
  first | refine J.astore (pc' := 7) rfl rfl (by decide) ?_ | refine J.astoreN (pc' := 7) rfl rfl (by decide) ?_
  first | refine J.aload_n (pc' := 8) rfl rfl rfl ?_ | refine J.aload_nN (pc' := 8) rfl rfl rfl ?_
  refine J.iload_n (pc' := 9) rfl rfl rfl ?_
  refine J.callV (pc' := 12) (t := 15) rfl MX11_kindOf ml_X11_73 iv_X11_kindOf (by decide) ⟨_, rfl, rfl⟩ (by first | assumption | (simp only [jM.tag_sI, jM.tag_sL, jM.tag_sR, jM.tag_fI, jM.tag_fL, jM.tag_fR]; assumption) | (simp [jM.tag_nw, jM.tag_sI, jM.tag_sL, jM.tag_sR, jM.tag_fI, jM.tag_fL, jM.tag_fR, *]; done)) (cf_kindOf hk hR) rfl rfl (Nat.le_of_ble_eq_true rfl) (by first | omega | (exact R.r _ _) | (simp only [jM.len_sI, jM.len_sL, jM.len_sR, jM.len_fI, jM.len_fL, jM.len_fR]; omega) | (simp [jM.len_nw, jM.len_sI, jM.len_sL, jM.len_sR, jM.len_fI, jM.len_fL, jM.len_fR, *]; omega)) (by first | omega | (exact R.r _ _) | (simp only [jM.len_sI, jM.len_sL, jM.len_sR, jM.len_fI, jM.len_fL, jM.len_fR]; omega) | (simp [jM.len_nw, jM.len_sI, jM.len_sL, jM.len_sR, jM.len_fI, jM.len_fL, jM.len_fR, *]; omega)) (by first | omega | (exact R.r _ _) | (simp only [jM.len_sI, jM.len_sL, jM.len_sR, jM.len_fI, jM.len_fL, jM.len_fR]; omega) | (simp [jM.len_nw, jM.len_sI, jM.len_sL, jM.len_sR, jM.len_fI, jM.len_fL, jM.len_fR, *]; omega)) rfl rfl ?_ ?_
  · rintro _ _ ⟨hc, rfl, rfl⟩
    exact ⟨rfl, 1, by simp, by unfold sp_usual; rw [if_pos cs1, if_neg hc]⟩
  rintro _ h ⟨kz, rfl, ak, ck1, rfl⟩
  first | refine J.astore (pc' := 14) rfl rfl (by decide) ?_ | refine J.astoreN (pc' := 14) rfl rfl (by decide) ?_
  refine J.iload_n (pc' := 15) rfl rfl rfl ?_
  refine J.callS (pc' := 18) rfl MX11_needMetal ml_X11_77 is_X11_needMetal (cx_needMetal hm) rfl rfl (Nat.le_of_ble_eq_true rfl) (by first | omega | (exact R.r _ _) | (simp only [jM.len_sI, jM.len_sL, jM.len_sR, jM.len_fI, jM.len_fL, jM.len_fR]; omega) | (simp [jM.len_nw, jM.len_sI, jM.len_sL, jM.len_sR, jM.len_fI, jM.len_fL, jM.len_fR, *]; omega)) (by first | omega | (exact R.r _ _) | (simp only [jM.len_sI, jM.len_sL, jM.len_sR, jM.len_fI, jM.len_fL, jM.len_fR]; omega) | (simp [jM.len_nw, jM.len_sI, jM.len_sL, jM.len_sR, jM.len_fI, jM.len_fL, jM.len_fR, *]; omega)) (by first | omega | (exact R.r _ _) | (simp only [jM.len_sI, jM.len_sL, jM.len_sR, jM.len_fI, jM.len_fL, jM.len_fR]; omega) | (simp [jM.len_nw, jM.len_sI, jM.len_sL, jM.len_sR, jM.len_fI, jM.len_fL, jM.len_fR, *]; omega)) rfl rfl ?_ ?_
  · rintro _ _ ⟨hc, rfl, rfl⟩
    exact ⟨rfl, 2, by simp, by unfold sp_usual; rw [if_pos cs1, if_pos ck1, if_neg (fun z => hc z.1)]⟩
  rintro _ h ⟨cm1, rfl, rfl⟩
  have bad : ¬ (d = 0 ∨ d = 1) → sp_usual V s k m d = (0, jU V 16 0 2) := fun q => by unfold sp_usual; rw [if_pos cs1, if_pos ck1, if_neg (fun z => q z.2)]
  obtain ⟨o, hS⟩ := hR.2.2.1.2.2 s.toNat sz as.2
  obtain ⟨k1, k2, sp, k3, k4⟩ := hR.2.1.2.2 k.toNat kz ak.2
  rw [show ((s.toNat : Nat) : Int) = s by omega] at hS
  rw [show ((k.toNat : Nat) : Int) = k by omega] at k2 k4
  have tz := hS.1
  refine J.iload (pc' := 20) rfl rfl rfl ?_
  refine J.if_lt (tgt := 29) (pc' := 23) rfl rfl rfl (by first | omega | (exact R.r _ _) | (simp only [jM.len_sI, jM.len_sL, jM.len_sR, jM.len_fI, jM.len_fL, jM.len_fR]; omega) | (simp [jM.len_nw, jM.len_sI, jM.len_sL, jM.len_sR, jM.len_fI, jM.len_fL, jM.len_fR, *]; omega)) (fun c1 => ?_) (fun c1 => ?_)
  · refine J.throwL (text := "no such side") rfl rfl rfl rfl rfl jThr_IAE (List.mem_of_getElem? (i := 582) (by decide +kernel)) (List.mem_of_getElem? (i := 990) (by decide +kernel)) rfl (by first | omega | (exact R.r _ _) | (simp only [jM.len_sI, jM.len_sL, jM.len_sR, jM.len_fI, jM.len_fL, jM.len_fR]; omega) | (simp [jM.len_nw, jM.len_sI, jM.len_sL, jM.len_sR, jM.len_fI, jM.len_fL, jM.len_fR, *]; omega)) (Nat.le_of_ble_eq_true rfl) (by first | omega | (exact R.r _ _) | (simp only [jM.len_sI, jM.len_sL, jM.len_sR, jM.len_fI, jM.len_fL, jM.len_fR]; omega) | (simp [jM.len_nw, jM.len_sI, jM.len_sL, jM.len_sR, jM.len_fI, jM.len_fL, jM.len_fR, *]; omega)) (by first | omega | (exact R.r _ _) | (simp only [jM.len_sI, jM.len_sL, jM.len_sR, jM.len_fI, jM.len_fL, jM.len_fR]; omega) | (simp [jM.len_nw, jM.len_sI, jM.len_sL, jM.len_sR, jM.len_fI, jM.len_fL, jM.len_fR, *]; omega)) ?_
    exact ⟨rfl, 2, by simp, bad (by omega)⟩
  · refine J.iload (pc' := 25) rfl rfl rfl ?_
    refine J.iconst (pc' := 26) rfl rfl ?_
    refine J.icmp_le (tgt := 39) (pc' := 29) rfl rfl rfl (by first | omega | (exact R.r _ _) | (simp only [jM.len_sI, jM.len_sL, jM.len_sR, jM.len_fI, jM.len_fL, jM.len_fR]; omega) | (simp [jM.len_nw, jM.len_sI, jM.len_sL, jM.len_sR, jM.len_fI, jM.len_fL, jM.len_fR, *]; omega)) (by first | omega | (exact R.r _ _) | (simp only [jM.len_sI, jM.len_sL, jM.len_sR, jM.len_fI, jM.len_fL, jM.len_fR]; omega) | (simp [jM.len_nw, jM.len_sI, jM.len_sL, jM.len_sR, jM.len_fI, jM.len_fL, jM.len_fR, *]; omega)) (fun c2 => ?_) (fun c2 => ?_)
    · first | refine J.aload (pc' := 41) rfl rfl rfl ?_ | refine J.aloadN (pc' := 41) rfl rfl rfl ?_
      first | refine J.aload (pc' := 43) rfl rfl rfl ?_ | refine J.aloadN (pc' := 43) rfl rfl rfl ?_
      refine J.iconst (pc' := 44) rfl rfl ?_
      refine J.iload_n (pc' := 45) rfl rfl rfl ?_
      refine J.imul (pc' := 46) rfl rfl ?_
      refine J.iload (pc' := 48) rfl rfl rfl ?_
      refine J.iadd (pc' := 49) rfl rfl ?_
      refine J.callV (pc' := 52) (t := 13) rfl MX9_usualPart ml_X11_157 iv_X9_usualPart (by decide) ⟨_, rfl, rfl⟩ (by first | assumption | (simp only [jM.tag_sI, jM.tag_sL, jM.tag_sR, jM.tag_fI, jM.tag_fL, jM.tag_fR]; assumption) | (simp [jM.tag_nw, jM.tag_sI, jM.tag_sL, jM.tag_sR, jM.tag_fI, jM.tag_fL, jM.tag_fR, *]; done)) (cx_usual (place := 2 * m + d) hS k1 k2 k3 k4 (by omega) (by omega) (oV_b R s)) rfl rfl (Nat.le_of_ble_eq_true rfl) (by first | omega | (exact R.r _ _) | (simp only [jM.len_sI, jM.len_sL, jM.len_sR, jM.len_fI, jM.len_fL, jM.len_fR]; omega) | (simp [jM.len_nw, jM.len_sI, jM.len_sL, jM.len_sR, jM.len_fI, jM.len_fL, jM.len_fR, *]; omega)) (by first | omega | (exact R.r _ _) | (simp only [jM.len_sI, jM.len_sL, jM.len_sR, jM.len_fI, jM.len_fL, jM.len_fR]; omega) | (simp [jM.len_nw, jM.len_sI, jM.len_sL, jM.len_sR, jM.len_fI, jM.len_fL, jM.len_fR, *]; omega)) (by first | omega | (exact R.r _ _) | (simp only [jM.len_sI, jM.len_sL, jM.len_sR, jM.len_fI, jM.len_fL, jM.len_fR]; omega) | (simp [jM.len_nw, jM.len_sI, jM.len_sL, jM.len_sR, jM.len_fI, jM.len_fL, jM.len_fR, *]; omega)) rfl rfl ?_ ?_
      · exact fun _ _ z => z.elim
      rintro _ h ⟨rfl, rfl⟩
      refine J.iret rfl rfl (by first | omega | (exact R.r _ _) | (simp only [jM.len_sI, jM.len_sL, jM.len_sR, jM.len_fI, jM.len_fL, jM.len_fR]; omega) | (simp [jM.len_nw, jM.len_sI, jM.len_sL, jM.len_sR, jM.len_fI, jM.len_fL, jM.len_fR, *]; omega)) (by first | omega | (exact R.r _ _) | (simp only [jM.len_sI, jM.len_sL, jM.len_sR, jM.len_fI, jM.len_fL, jM.len_fR]; omega) | (simp [jM.len_nw, jM.len_sI, jM.len_sL, jM.len_sR, jM.len_fI, jM.len_fL, jM.len_fR, *]; omega)) ?_
      have e9 := usP_eq R (s := s) (k := k) (d := d) cm1 (by omega)
      have es : sp_usual V s k m d = (if d = 0 then lowOf V s k m else highOf V s k m, V) := by unfold sp_usual; rw [if_pos cs1, if_pos ck1, if_pos ⟨cm1, by omega⟩]
      rw [es]
      exact ⟨by rw [← e9]; rfl, h0, ⟨ρ, σ, ks, ss, cs, ls, ms, hR⟩, Fr.rf⟩
    · refine J.throwL (text := "no such side") rfl rfl rfl rfl rfl jThr_IAE (List.mem_of_getElem? (i := 582) (by decide +kernel)) (List.mem_of_getElem? (i := 990) (by decide +kernel)) rfl (by first | omega | (exact R.r _ _) | (simp only [jM.len_sI, jM.len_sL, jM.len_sR, jM.len_fI, jM.len_fL, jM.len_fR]; omega) | (simp [jM.len_nw, jM.len_sI, jM.len_sL, jM.len_sR, jM.len_fI, jM.len_fL, jM.len_fR, *]; omega)) (Nat.le_of_ble_eq_true rfl) (by first | omega | (exact R.r _ _) | (simp only [jM.len_sI, jM.len_sL, jM.len_sR, jM.len_fI, jM.len_fL, jM.len_fR]; omega) | (simp [jM.len_nw, jM.len_sI, jM.len_sL, jM.len_sR, jM.len_fI, jM.len_fL, jM.len_fR, *]; omega)) (by first | omega | (exact R.r _ _) | (simp only [jM.len_sI, jM.len_sL, jM.len_sR, jM.len_fI, jM.len_fL, jM.len_fR]; omega) | (simp [jM.len_nw, jM.len_sI, jM.len_sL, jM.len_sR, jM.len_fI, jM.len_fL, jM.len_fR, *]; omega)) ?_
      exact ⟨rfl, 2, by simp, bad (by omega)⟩
theorem cf_force {s d : Int} (hs : r32 s) (hd : r32 d) (h0 : V 16 0 = 0) (I : Inv V) (hR : RepB γ V h x ρ σ ks ss cs ls ms) : CT γ mX11_force 7 8 48 [.ref x, .int (jI s), .int (jI d)] h (opQ γ x h (sp_force V s d)) (opX V h (sp_force V s d) [(eNSE, 1)]) := by
  have R := I.1
  have Rf := R.f
  have tx := hR.1.1
  refine CT.of MX11_force (Nat.le_of_ble_eq_true rfl) ?_
  show J γ mX11_force 7 8 48 0 0 h 0 [(0, .ref x), (1, .int (jI s)), (2, .int (jI d))] [] _ _
  first | refine J.aload_n (pc' := 1) rfl rfl rfl ?_ | refine J.aload_nN (pc' := 1) rfl rfl rfl ?_
  first | refine J.aload_n (pc' := 2) rfl rfl rfl ?_ | refine J.aload_nN (pc' := 2) rfl rfl rfl ?_
  refine J.iload_n (pc' := 3) rfl rfl rfl ?_
  refine J.callV (pc' := 6) (t := 15) rfl MX11_sellerOf ml_X11_100 iv_X11_sellerOf (by decide) ⟨_, rfl, rfl⟩ (by first | assumption | (simp only [jM.tag_sI, jM.tag_sL, jM.tag_sR, jM.tag_fI, jM.tag_fL, jM.tag_fR]; assumption) | (simp [jM.tag_nw, jM.tag_sI, jM.tag_sL, jM.tag_sR, jM.tag_fI, jM.tag_fL, jM.tag_fR, *]; done)) (cf_sellerOf hs hR) rfl rfl (Nat.le_of_ble_eq_true rfl) (by first | omega | (exact R.r _ _) | (simp only [jM.len_sI, jM.len_sL, jM.len_sR, jM.len_fI, jM.len_fL, jM.len_fR]; omega) | (simp [jM.len_nw, jM.len_sI, jM.len_sL, jM.len_sR, jM.len_fI, jM.len_fL, jM.len_fR, *]; omega)) (by first | omega | (exact R.r _ _) | (simp only [jM.len_sI, jM.len_sL, jM.len_sR, jM.len_fI, jM.len_fL, jM.len_fR]; omega) | (simp [jM.len_nw, jM.len_sI, jM.len_sL, jM.len_sR, jM.len_fI, jM.len_fL, jM.len_fR, *]; omega)) (by first | omega | (exact R.r _ _) | (simp only [jM.len_sI, jM.len_sL, jM.len_sR, jM.len_fI, jM.len_fL, jM.len_fR]; omega) | (simp [jM.len_nw, jM.len_sI, jM.len_sL, jM.len_sR, jM.len_fI, jM.len_fL, jM.len_fR, *]; omega)) rfl rfl ?_ ?_
  · rintro _ _ ⟨hc, rfl, rfl⟩
    exact ⟨rfl, 1, by simp, by unfold sp_force; rw [if_neg hc]⟩
  rintro _ h ⟨sz, rfl, as, cs1, rfl⟩
  refine J.iload_n (pc' := 7) rfl rfl rfl ?_
  refine J.callV (pc' := 10) (t := 15) rfl MX11_inForce ml_X11_151 iv_X11_inForce (by decide) ⟨_, rfl, rfl⟩ (by first | assumption | (simp only [jM.tag_sI, jM.tag_sL, jM.tag_sR, jM.tag_fI, jM.tag_fL, jM.tag_fR]; assumption) | (simp [jM.tag_nw, jM.tag_sI, jM.tag_sL, jM.tag_sR, jM.tag_fI, jM.tag_fL, jM.tag_fR, *]; done)) (cf_inForce R as hd hR) rfl rfl (Nat.le_of_ble_eq_true rfl) (by first | omega | (exact R.r _ _) | (simp only [jM.len_sI, jM.len_sL, jM.len_sR, jM.len_fI, jM.len_fL, jM.len_fR]; omega) | (simp [jM.len_nw, jM.len_sI, jM.len_sL, jM.len_sR, jM.len_fI, jM.len_fL, jM.len_fR, *]; omega)) (by first | omega | (exact R.r _ _) | (simp only [jM.len_sI, jM.len_sL, jM.len_sR, jM.len_fI, jM.len_fL, jM.len_fR]; omega) | (simp [jM.len_nw, jM.len_sI, jM.len_sL, jM.len_sR, jM.len_fI, jM.len_fL, jM.len_fR, *]; omega)) (by first | omega | (exact R.r _ _) | (simp only [jM.len_sI, jM.len_sL, jM.len_sR, jM.len_fI, jM.len_fL, jM.len_fR]; omega) | (simp [jM.len_nw, jM.len_sI, jM.len_sL, jM.len_sR, jM.len_fI, jM.len_fL, jM.len_fR, *]; omega)) rfl rfl ?_ ?_
  · exact fun _ _ z => z.elim
  have es : sp_force V s d = (inF V s d (V 16 11).toNat, V) := by unfold sp_force; rw [if_pos cs1]
  rw [es]
  rintro _ h ⟨rfl, ⟨hf, rfl⟩ | ⟨z, hz, rfl⟩⟩
  · first | refine J.astore_n (pc' := 11) rfl rfl (by decide) ?_ | refine J.astore_nN (pc' := 11) rfl rfl (by decide) ?_
    first | refine J.aload_n (pc' := 12) rfl rfl rfl ?_ | refine J.aload_nN (pc' := 12) rfl rfl rfl ?_
    first | refine J.ifnonnull (tgt := 19) rfl rfl ?_ | refine J.ifnonnullN (pc' := 15) rfl rfl ?_
    refine J.iconst (pc' := 16) rfl rfl ?_
    refine J.goto (tgt := 23) rfl rfl ?_
    refine J.iret rfl rfl (by first | omega | (exact R.r _ _) | (simp only [jM.len_sI, jM.len_sL, jM.len_sR, jM.len_fI, jM.len_fL, jM.len_fR]; omega) | (simp [jM.len_nw, jM.len_sI, jM.len_sL, jM.len_sR, jM.len_fI, jM.len_fL, jM.len_fR, *]; omega)) (by first | omega | (exact R.r _ _) | (simp only [jM.len_sI, jM.len_sL, jM.len_sR, jM.len_fI, jM.len_fL, jM.len_fR]; omega) | (simp [jM.len_nw, jM.len_sI, jM.len_sL, jM.len_sR, jM.len_fI, jM.len_fL, jM.len_fR, *]; omega)) ?_
    exact ⟨by rw [hf], h0, ⟨ρ, σ, ks, ss, cs, ls, ms, hR⟩, Fr.rf⟩
  · obtain ⟨g, e2, gl, G, K, b1, b2, b3, b4, b5⟩ := hR.2.2.2.1.2.2 _ z hz.2
    have tz := b1.1
    have hz0 := hz.1
    rw [show (((inF V s d (V 16 11).toNat).toNat : Nat) : Int) = inF V s d (V 16 11).toNat by omega] at b4
    first | refine J.astore_n (pc' := 11) rfl rfl (by decide) ?_ | refine J.astore_nN (pc' := 11) rfl rfl (by decide) ?_
    first | refine J.aload_n (pc' := 12) rfl rfl rfl ?_ | refine J.aload_nN (pc' := 12) rfl rfl rfl ?_
    first | refine J.ifnonnull (tgt := 19) rfl rfl ?_ | refine J.ifnonnullN (pc' := 15) rfl rfl ?_
    first | refine J.aload_n (pc' := 20) rfl rfl rfl ?_ | refine J.aload_nN (pc' := 20) rfl rfl rfl ?_
    refine J.getI (pc' := 23) rfl fl_X11_148 rfl (by first | assumption | (simp only [jM.tag_sI, jM.tag_sL, jM.tag_sR, jM.tag_fI, jM.tag_fL, jM.tag_fR]; assumption) | (simp [jM.tag_nw, jM.tag_sI, jM.tag_sL, jM.tag_sR, jM.tag_fI, jM.tag_fL, jM.tag_fR, *]; done)) rfl ?_
    rw [b4]
    refine J.iret rfl rfl (by first | omega | (exact R.r _ _) | (simp only [jM.len_sI, jM.len_sL, jM.len_sR, jM.len_fI, jM.len_fL, jM.len_fR]; omega) | (simp [jM.len_nw, jM.len_sI, jM.len_sL, jM.len_sR, jM.len_fI, jM.len_fL, jM.len_fR, *]; omega)) (by first | omega | (exact R.r _ _) | (simp only [jM.len_sI, jM.len_sL, jM.len_sR, jM.len_fI, jM.len_fL, jM.len_fR]; omega) | (simp [jM.len_nw, jM.len_sI, jM.len_sL, jM.len_sR, jM.len_fI, jM.len_fL, jM.len_fR, *]; omega)) ?_
    exact ⟨rfl, h0, ⟨ρ, σ, ks, ss, cs, ls, ms, hR⟩, Fr.rf⟩
theorem cf_told {l w : Int} (hl : r32 l) (hw : r32 w) (h0 : V 16 0 = 0) (I : Inv V) (hR : RepB γ V h x ρ σ ks ss cs ls ms) : CT γ mX11_told 7 8 48 [.ref x, .int (jI l), .int (jI w)] h (opQ γ x h (sp_told V l w)) (opX V h (sp_told V l w) [(eNSE, 1), (eIAE, 2)]) := by
  have R := I.1
  have Rf := R.f
  have tx := hR.1.1
  refine CT.of MX11_told (Nat.le_of_ble_eq_true rfl) ?_
  show J γ mX11_told 7 8 48 0 0 h 0 [(0, .ref x), (1, .int (jI l)), (2, .int (jI w))] [] _ _
  first | refine J.aload_n (pc' := 1) rfl rfl rfl ?_ | refine J.aload_nN (pc' := 1) rfl rfl rfl ?_
  refine J.iload_n (pc' := 2) rfl rfl rfl ?_
  refine J.callV (pc' := 5) (t := 15) rfl MX11_loadOf ml_X11_198 iv_X11_loadOf (by decide) ⟨_, rfl, rfl⟩ (by first | assumption | (simp only [jM.tag_sI, jM.tag_sL, jM.tag_sR, jM.tag_fI, jM.tag_fL, jM.tag_fR]; assumption) | (simp [jM.tag_nw, jM.tag_sI, jM.tag_sL, jM.tag_sR, jM.tag_fI, jM.tag_fL, jM.tag_fR, *]; done)) (cf_loadOf hl hR) rfl rfl (Nat.le_of_ble_eq_true rfl) (by first | omega | (exact R.r _ _) | (simp only [jM.len_sI, jM.len_sL, jM.len_sR, jM.len_fI, jM.len_fL, jM.len_fR]; omega) | (simp [jM.len_nw, jM.len_sI, jM.len_sL, jM.len_sR, jM.len_fI, jM.len_fL, jM.len_fR, *]; omega)) (by first | omega | (exact R.r _ _) | (simp only [jM.len_sI, jM.len_sL, jM.len_sR, jM.len_fI, jM.len_fL, jM.len_fR]; omega) | (simp [jM.len_nw, jM.len_sI, jM.len_sL, jM.len_sR, jM.len_fI, jM.len_fL, jM.len_fR, *]; omega)) (by first | omega | (exact R.r _ _) | (simp only [jM.len_sI, jM.len_sL, jM.len_sR, jM.len_fI, jM.len_fL, jM.len_fR]; omega) | (simp [jM.len_nw, jM.len_sI, jM.len_sL, jM.len_sR, jM.len_fI, jM.len_fL, jM.len_fR, *]; omega)) rfl rfl ?_ ?_
  · rintro _ _ ⟨hc, rfl, rfl⟩
    exact ⟨rfl, 1, by simp, by unfold sp_told; rw [if_neg hc]⟩
  rintro _ h ⟨z, rfl, az, cl1, rfl⟩
  obtain ⟨s, k, c, sp, b, q1, q2, q3⟩ := hR.2.2.2.2.1.2.2 l.toNat z az.2
  rw [show ((l.toNat : Nat) : Int) = l by omega] at b q1 q2 q3
  obtain ⟨b1, b2, b3, b4, b5, b6, b7, b8, b9, b10, b11⟩ := b
  obtain ⟨o, hS⟩ := hR.2.2.1.2.2 _ s q1.2
  obtain ⟨k1, k2, _⟩ := hR.2.1.2.2 _ k q2.2
  have s1 := hS.1
  have s2 := hS.2.1
  have u1 := q1.1
  have u2 := q2.1
  rw [show (((V 127 l).toNat : Nat) : Int) = V 127 l by omega] at s2
  rw [show (((V 128 l).toNat : Nat) : Int) = V 128 l by omega] at k2
  have tsp := b9.1.1
  have es : 0 ≤ w ∧ w < 16 → sp_told V l w = (toldV V l w, V) := fun q => by unfold sp_told; rw [if_pos cl1, if_pos q]
  first | refine J.astore_n (pc' := 6) rfl rfl (by decide) ?_ | refine J.astore_nN (pc' := 6) rfl rfl (by decide) ?_
  refine J.iload_n (pc' := 7) rfl rfl rfl ?_
  refine J.tsw (tgt := 80) (n := 6) (T := jNth [44, 52, 60, 65, 70, 75]) rfl hw rfl rfl (fun k hk => by rcases k with _ | _ | _ | _ | _ | _ | k <;> first | exact ⟨_, rfl, rfl⟩ | omega) (fun c7 => ?_) (fun k7 hk7 c7 => ?_)
  · first | refine J.aload_n (pc' := 81) rfl rfl rfl ?_ | refine J.aload_nN (pc' := 81) rfl rfl rfl ?_
    first | refine J.getR (pc' := 84) rfl fl_X11_193 rfl (by first | assumption | (simp only [jM.tag_sI, jM.tag_sL, jM.tag_sR, jM.tag_fI, jM.tag_fL, jM.tag_fR]; assumption) | (simp [jM.tag_nw, jM.tag_sI, jM.tag_sL, jM.tag_sR, jM.tag_fI, jM.tag_fL, jM.tag_fR, *]; done)) (by first | assumption | (simp only [jM.R_sI, jM.R_sL, jM.R_fI, jM.R_fL]; assumption) | (simp [jM.R_nw, jM.R_sR, jM.R_fR, jM.R_sI, jM.R_sL, jM.R_fI, jM.R_fL, *]; done)) rfl ?_ | refine J.getRN (pc' := 84) rfl fl_X11_193 rfl (by first | assumption | (simp only [jM.tag_sI, jM.tag_sL, jM.tag_sR, jM.tag_fI, jM.tag_fL, jM.tag_fR]; assumption) | (simp [jM.tag_nw, jM.tag_sI, jM.tag_sL, jM.tag_sR, jM.tag_fI, jM.tag_fL, jM.tag_fR, *]; done)) (by first | assumption | (simp only [jM.R_sI, jM.R_sL, jM.R_fI, jM.R_fL]; assumption) | (simp [jM.R_nw, jM.R_sR, jM.R_fR, jM.R_sI, jM.R_sL, jM.R_fI, jM.R_fL, *]; done)) rfl ?_
    refine J.iload_n (pc' := 85) rfl rfl rfl ?_
    refine J.bipush (pc' := 87) rfl rfl (by decide) ?_
    refine J.callV (pc' := 90) (t := 14) rfl MX10_partOrThrow ml_X11_218 iv_X10_partOrThrow (by decide) ⟨_, rfl, rfl⟩ (by first | assumption | (simp only [jM.tag_sI, jM.tag_sL, jM.tag_sR, jM.tag_fI, jM.tag_fL, jM.tag_fR]; assumption) | (simp [jM.tag_nw, jM.tag_sI, jM.tag_sL, jM.tag_sR, jM.tag_fI, jM.tag_fL, jM.tag_fR, *]; done)) (cs_part b9.1 hw (by omega) (by omega)) rfl rfl (Nat.le_of_ble_eq_true rfl) (by first | omega | (exact R.r _ _) | (simp only [jM.len_sI, jM.len_sL, jM.len_sR, jM.len_fI, jM.len_fL, jM.len_fR]; omega) | (simp [jM.len_nw, jM.len_sI, jM.len_sL, jM.len_sR, jM.len_fI, jM.len_fL, jM.len_fR, *]; omega)) (by first | omega | (exact R.r _ _) | (simp only [jM.len_sI, jM.len_sL, jM.len_sR, jM.len_fI, jM.len_fL, jM.len_fR]; omega) | (simp [jM.len_nw, jM.len_sI, jM.len_sL, jM.len_sR, jM.len_fI, jM.len_fL, jM.len_fR, *]; omega)) (by first | omega | (exact R.r _ _) | (simp only [jM.len_sI, jM.len_sL, jM.len_sR, jM.len_fI, jM.len_fL, jM.len_fR]; omega) | (simp [jM.len_nw, jM.len_sI, jM.len_sL, jM.len_sR, jM.len_fI, jM.len_fL, jM.len_fR, *]; omega)) rfl rfl ?_ ?_
    · rintro _ _ ⟨hc, rfl, rfl⟩
      exact ⟨rfl, 2, by simp, by unfold sp_told; rw [if_pos cl1, if_neg (by omega)]⟩
    rintro _ h ⟨hc, rfl, rfl⟩
    refine J.iret rfl rfl (by first | omega | (exact R.r _ _) | (simp only [jM.len_sI, jM.len_sL, jM.len_sR, jM.len_fI, jM.len_fL, jM.len_fR]; omega) | (simp [jM.len_nw, jM.len_sI, jM.len_sL, jM.len_sR, jM.len_fI, jM.len_fL, jM.len_fR, *]; omega)) (by first | omega | (exact R.r _ _) | (simp only [jM.len_sI, jM.len_sL, jM.len_sR, jM.len_fI, jM.len_fL, jM.len_fR]; omega) | (simp [jM.len_nw, jM.len_sI, jM.len_sL, jM.len_sR, jM.len_fI, jM.len_fL, jM.len_fR, *]; omega)) ?_
    rw [es (by omega)]
    refine ⟨?_, h0, ⟨ρ, σ, ks, ss, cs, ls, ms, hR⟩, Fr.rf⟩
    rw [b9.2.2.2 _ (by omega)]
    unfold lP toldV
    rw [if_neg (show ¬ w = 0 by omega), if_neg (show ¬ w = 1 by omega), if_neg (show ¬ w = 2 by omega), if_neg (show ¬ w = 3 by omega), if_neg (show ¬ w = 4 by omega), if_neg (show ¬ w = 5 by omega)]
    by_cases zz : w % 2 = 0
    · rw [if_pos (show (w - 6).toNat % 2 = 0 by omega), if_pos zz, show (((w - 6).toNat / 2 : Nat) : Int) = (w - 6) / 2 by omega]
    · rw [if_neg (show ¬ (w - 6).toNat % 2 = 0 by omega), if_neg zz, show (((w - 6).toNat / 2 : Nat) : Int) = (w - 6) / 2 by omega]
  rw [es (by omega)]
  rcases k7 with _ | _ | _ | _ | _ | _ | k7
  · first | refine J.aload_n (pc' := 45) rfl rfl rfl ?_ | refine J.aload_nN (pc' := 45) rfl rfl rfl ?_
    first | refine J.getR (pc' := 48) rfl fl_X11_202 rfl (by first | assumption | (simp only [jM.tag_sI, jM.tag_sL, jM.tag_sR, jM.tag_fI, jM.tag_fL, jM.tag_fR]; assumption) | (simp [jM.tag_nw, jM.tag_sI, jM.tag_sL, jM.tag_sR, jM.tag_fI, jM.tag_fL, jM.tag_fR, *]; done)) (by first | assumption | (simp only [jM.R_sI, jM.R_sL, jM.R_fI, jM.R_fL]; assumption) | (simp [jM.R_nw, jM.R_sR, jM.R_fR, jM.R_sI, jM.R_sL, jM.R_fI, jM.R_fL, *]; done)) rfl ?_ | refine J.getRN (pc' := 48) rfl fl_X11_202 rfl (by first | assumption | (simp only [jM.tag_sI, jM.tag_sL, jM.tag_sR, jM.tag_fI, jM.tag_fL, jM.tag_fR]; assumption) | (simp [jM.tag_nw, jM.tag_sI, jM.tag_sL, jM.tag_sR, jM.tag_fI, jM.tag_fL, jM.tag_fR, *]; done)) (by first | assumption | (simp only [jM.R_sI, jM.R_sL, jM.R_fI, jM.R_fL]; assumption) | (simp [jM.R_nw, jM.R_sR, jM.R_fR, jM.R_sI, jM.R_sL, jM.R_fI, jM.R_fL, *]; done)) rfl ?_
    refine J.getI (pc' := 51) rfl fl_X11_206 rfl (by first | assumption | (simp only [jM.tag_sI, jM.tag_sL, jM.tag_sR, jM.tag_fI, jM.tag_fL, jM.tag_fR]; assumption) | (simp [jM.tag_nw, jM.tag_sI, jM.tag_sL, jM.tag_sR, jM.tag_fI, jM.tag_fL, jM.tag_fR, *]; done)) rfl ?_
    rw [s2]
    refine J.iret rfl rfl (by first | omega | (exact R.r _ _) | (simp only [jM.len_sI, jM.len_sL, jM.len_sR, jM.len_fI, jM.len_fL, jM.len_fR]; omega) | (simp [jM.len_nw, jM.len_sI, jM.len_sL, jM.len_sR, jM.len_fI, jM.len_fL, jM.len_fR, *]; omega)) (by first | omega | (exact R.r _ _) | (simp only [jM.len_sI, jM.len_sL, jM.len_sR, jM.len_fI, jM.len_fL, jM.len_fR]; omega) | (simp [jM.len_nw, jM.len_sI, jM.len_sL, jM.len_sR, jM.len_fI, jM.len_fL, jM.len_fR, *]; omega)) ?_
    exact ⟨by rw [c7]; rfl, h0, ⟨ρ, σ, ks, ss, cs, ls, ms, hR⟩, Fr.rf⟩
  · first | refine J.aload_n (pc' := 53) rfl rfl rfl ?_ | refine J.aload_nN (pc' := 53) rfl rfl rfl ?_
    first | refine J.getR (pc' := 56) rfl fl_X11_207 rfl (by first | assumption | (simp only [jM.tag_sI, jM.tag_sL, jM.tag_sR, jM.tag_fI, jM.tag_fL, jM.tag_fR]; assumption) | (simp [jM.tag_nw, jM.tag_sI, jM.tag_sL, jM.tag_sR, jM.tag_fI, jM.tag_fL, jM.tag_fR, *]; done)) (by first | assumption | (simp only [jM.R_sI, jM.R_sL, jM.R_fI, jM.R_fL]; assumption) | (simp [jM.R_nw, jM.R_sR, jM.R_fR, jM.R_sI, jM.R_sL, jM.R_fI, jM.R_fL, *]; done)) rfl ?_ | refine J.getRN (pc' := 56) rfl fl_X11_207 rfl (by first | assumption | (simp only [jM.tag_sI, jM.tag_sL, jM.tag_sR, jM.tag_fI, jM.tag_fL, jM.tag_fR]; assumption) | (simp [jM.tag_nw, jM.tag_sI, jM.tag_sL, jM.tag_sR, jM.tag_fI, jM.tag_fL, jM.tag_fR, *]; done)) (by first | assumption | (simp only [jM.R_sI, jM.R_sL, jM.R_fI, jM.R_fL]; assumption) | (simp [jM.R_nw, jM.R_sR, jM.R_fR, jM.R_sI, jM.R_sL, jM.R_fI, jM.R_fL, *]; done)) rfl ?_
    refine J.getI (pc' := 59) rfl fl_X11_211 rfl (by first | assumption | (simp only [jM.tag_sI, jM.tag_sL, jM.tag_sR, jM.tag_fI, jM.tag_fL, jM.tag_fR]; assumption) | (simp [jM.tag_nw, jM.tag_sI, jM.tag_sL, jM.tag_sR, jM.tag_fI, jM.tag_fL, jM.tag_fR, *]; done)) rfl ?_
    rw [k2]
    refine J.iret rfl rfl (by first | omega | (exact R.r _ _) | (simp only [jM.len_sI, jM.len_sL, jM.len_sR, jM.len_fI, jM.len_fL, jM.len_fR]; omega) | (simp [jM.len_nw, jM.len_sI, jM.len_sL, jM.len_sR, jM.len_fI, jM.len_fL, jM.len_fR, *]; omega)) (by first | omega | (exact R.r _ _) | (simp only [jM.len_sI, jM.len_sL, jM.len_sR, jM.len_fI, jM.len_fL, jM.len_fR]; omega) | (simp [jM.len_nw, jM.len_sI, jM.len_sL, jM.len_sR, jM.len_fI, jM.len_fL, jM.len_fR, *]; omega)) ?_
    exact ⟨by rw [c7]; rfl, h0, ⟨ρ, σ, ks, ss, cs, ls, ms, hR⟩, Fr.rf⟩
  · first | refine J.aload_n (pc' := 61) rfl rfl rfl ?_ | refine J.aload_nN (pc' := 61) rfl rfl rfl ?_
    refine J.getI (pc' := 64) rfl fl_X11_212 rfl (by first | assumption | (simp only [jM.tag_sI, jM.tag_sL, jM.tag_sR, jM.tag_fI, jM.tag_fL, jM.tag_fR]; assumption) | (simp [jM.tag_nw, jM.tag_sI, jM.tag_sL, jM.tag_sR, jM.tag_fI, jM.tag_fL, jM.tag_fR, *]; done)) rfl ?_
    rw [b5]
    refine J.iret rfl rfl (by first | omega | (exact R.r _ _) | (simp only [jM.len_sI, jM.len_sL, jM.len_sR, jM.len_fI, jM.len_fL, jM.len_fR]; omega) | (simp [jM.len_nw, jM.len_sI, jM.len_sL, jM.len_sR, jM.len_fI, jM.len_fL, jM.len_fR, *]; omega)) (by first | omega | (exact R.r _ _) | (simp only [jM.len_sI, jM.len_sL, jM.len_sR, jM.len_fI, jM.len_fL, jM.len_fR]; omega) | (simp [jM.len_nw, jM.len_sI, jM.len_sL, jM.len_sR, jM.len_fI, jM.len_fL, jM.len_fR, *]; omega)) ?_
    exact ⟨by rw [c7]; rfl, h0, ⟨ρ, σ, ks, ss, cs, ls, ms, hR⟩, Fr.rf⟩
  · first | refine J.aload_n (pc' := 66) rfl rfl rfl ?_ | refine J.aload_nN (pc' := 66) rfl rfl rfl ?_
    refine J.getI (pc' := 69) rfl fl_X11_215 rfl (by first | assumption | (simp only [jM.tag_sI, jM.tag_sL, jM.tag_sR, jM.tag_fI, jM.tag_fL, jM.tag_fR]; assumption) | (simp [jM.tag_nw, jM.tag_sI, jM.tag_sL, jM.tag_sR, jM.tag_fI, jM.tag_fL, jM.tag_fR, *]; done)) rfl ?_
    rw [b6]
    refine J.iret rfl rfl (by first | omega | (exact R.r _ _) | (simp only [jM.len_sI, jM.len_sL, jM.len_sR, jM.len_fI, jM.len_fL, jM.len_fR]; omega) | (simp [jM.len_nw, jM.len_sI, jM.len_sL, jM.len_sR, jM.len_fI, jM.len_fL, jM.len_fR, *]; omega)) (by first | omega | (exact R.r _ _) | (simp only [jM.len_sI, jM.len_sL, jM.len_sR, jM.len_fI, jM.len_fL, jM.len_fR]; omega) | (simp [jM.len_nw, jM.len_sI, jM.len_sL, jM.len_sR, jM.len_fI, jM.len_fL, jM.len_fR, *]; omega)) ?_
    exact ⟨by rw [c7]; rfl, h0, ⟨ρ, σ, ks, ss, cs, ls, ms, hR⟩, Fr.rf⟩
  · first | refine J.aload_n (pc' := 71) rfl rfl rfl ?_ | refine J.aload_nN (pc' := 71) rfl rfl rfl ?_
    refine J.getI (pc' := 74) rfl fl_X11_178 rfl (by first | assumption | (simp only [jM.tag_sI, jM.tag_sL, jM.tag_sR, jM.tag_fI, jM.tag_fL, jM.tag_fR]; assumption) | (simp [jM.tag_nw, jM.tag_sI, jM.tag_sL, jM.tag_sR, jM.tag_fI, jM.tag_fL, jM.tag_fR, *]; done)) rfl ?_
    rw [b10]
    refine J.iret rfl rfl (by first | omega | (exact R.r _ _) | (simp only [jM.len_sI, jM.len_sL, jM.len_sR, jM.len_fI, jM.len_fL, jM.len_fR]; omega) | (simp [jM.len_nw, jM.len_sI, jM.len_sL, jM.len_sR, jM.len_fI, jM.len_fL, jM.len_fR, *]; omega)) (by first | omega | (exact R.r _ _) | (simp only [jM.len_sI, jM.len_sL, jM.len_sR, jM.len_fI, jM.len_fL, jM.len_fR]; omega) | (simp [jM.len_nw, jM.len_sI, jM.len_sL, jM.len_sR, jM.len_fI, jM.len_fL, jM.len_fR, *]; omega)) ?_
    exact ⟨by rw [c7]; rfl, h0, ⟨ρ, σ, ks, ss, cs, ls, ms, hR⟩, Fr.rf⟩
  · first | refine J.aload_n (pc' := 76) rfl rfl rfl ?_ | refine J.aload_nN (pc' := 76) rfl rfl rfl ?_
    refine J.getI (pc' := 79) rfl fl_X11_185 rfl (by first | assumption | (simp only [jM.tag_sI, jM.tag_sL, jM.tag_sR, jM.tag_fI, jM.tag_fL, jM.tag_fR]; assumption) | (simp [jM.tag_nw, jM.tag_sI, jM.tag_sL, jM.tag_sR, jM.tag_fI, jM.tag_fL, jM.tag_fR, *]; done)) rfl ?_
    rw [b11]
    refine J.iret rfl rfl (by first | omega | (exact R.r _ _) | (simp only [jM.len_sI, jM.len_sL, jM.len_sR, jM.len_fI, jM.len_fL, jM.len_fR]; omega) | (simp [jM.len_nw, jM.len_sI, jM.len_sL, jM.len_sR, jM.len_fI, jM.len_fL, jM.len_fR, *]; omega)) (by first | omega | (exact R.r _ _) | (simp only [jM.len_sI, jM.len_sL, jM.len_sR, jM.len_fI, jM.len_fL, jM.len_fR]; omega) | (simp [jM.len_nw, jM.len_sI, jM.len_sL, jM.len_sR, jM.len_fI, jM.len_fL, jM.len_fR, *]; omega)) ?_
    exact ⟨by rw [c7]; rfl, h0, ⟨ρ, σ, ks, ss, cs, ls, ms, hR⟩, Fr.rf⟩
  · omega
theorem cf_tons {g : Int} (hg : r32 g) (h0 : V 16 0 = 0) (hR : RepB γ V h x ρ σ ks ss cs ls ms) : CT γ mX11_tons 8 8 48 [.ref x, .int (jI g)] h (opQ γ x h (sp_tons V g)) (opX V h (sp_tons V g) [(eIAE, 1)]) := by
  have tx := hR.1.1
  refine CT.of MX11_tons (Nat.le_of_ble_eq_true rfl) ?_
  show J γ mX11_tons 8 8 48 0 0 h 0 [(0, .ref x), (1, .int (jI g))] [] _ _
  first | refine J.aload_n (pc' := 1) rfl rfl rfl ?_ | refine J.aload_nN (pc' := 1) rfl rfl rfl ?_
  refine J.iload_n (pc' := 2) rfl rfl rfl ?_
  refine J.callV (pc' := 5) (t := 15) rfl MX11_heapOf ml_X11_161 iv_X11_heapOf (by decide) ⟨_, rfl, rfl⟩ (by first | assumption | (simp only [jM.tag_sI, jM.tag_sL, jM.tag_sR, jM.tag_fI, jM.tag_fL, jM.tag_fR]; assumption) | (simp [jM.tag_nw, jM.tag_sI, jM.tag_sL, jM.tag_sR, jM.tag_fI, jM.tag_fL, jM.tag_fR, *]; done)) (cf_heapOf hg hR) rfl rfl (Nat.le_of_ble_eq_true rfl) (by first | omega | (exact R.r _ _) | (simp only [jM.len_sI, jM.len_sL, jM.len_sR, jM.len_fI, jM.len_fL, jM.len_fR]; omega) | (simp [jM.len_nw, jM.len_sI, jM.len_sL, jM.len_sR, jM.len_fI, jM.len_fL, jM.len_fR, *]; omega)) (by first | omega | (exact R.r _ _) | (simp only [jM.len_sI, jM.len_sL, jM.len_sR, jM.len_fI, jM.len_fL, jM.len_fR]; omega) | (simp [jM.len_nw, jM.len_sI, jM.len_sL, jM.len_sR, jM.len_fI, jM.len_fL, jM.len_fR, *]; omega)) (by first | omega | (exact R.r _ _) | (simp only [jM.len_sI, jM.len_sL, jM.len_sR, jM.len_fI, jM.len_fL, jM.len_fR]; omega) | (simp [jM.len_nw, jM.len_sI, jM.len_sL, jM.len_sR, jM.len_fI, jM.len_fL, jM.len_fR, *]; omega)) rfl rfl ?_ ?_
  · rintro _ _ ⟨hc, rfl, rfl⟩
    exact ⟨rfl, 1, by simp, by unfold sp_tons; rw [if_neg hc]⟩
  rintro _ h ⟨p, a, e, ys, rfl, cg1, r1, ⟨d1, d2, d3, d4, d5, d6⟩, rfl⟩
  rw [show ((g.toNat : Nat) : Int) = g by omega] at d5 d6
  have ta := d3.1.1
  first | refine J.getR (pc' := 8) rfl fl_X11_188 rfl (by first | assumption | (simp only [jM.tag_sI, jM.tag_sL, jM.tag_sR, jM.tag_fI, jM.tag_fL, jM.tag_fR]; assumption) | (simp [jM.tag_nw, jM.tag_sI, jM.tag_sL, jM.tag_sR, jM.tag_fI, jM.tag_fL, jM.tag_fR, *]; done)) (by first | assumption | (simp only [jM.R_sI, jM.R_sL, jM.R_fI, jM.R_fL]; assumption) | (simp [jM.R_nw, jM.R_sR, jM.R_fR, jM.R_sI, jM.R_sL, jM.R_fI, jM.R_fL, *]; done)) rfl ?_ | refine J.getRN (pc' := 8) rfl fl_X11_188 rfl (by first | assumption | (simp only [jM.tag_sI, jM.tag_sL, jM.tag_sR, jM.tag_fI, jM.tag_fL, jM.tag_fR]; assumption) | (simp [jM.tag_nw, jM.tag_sI, jM.tag_sL, jM.tag_sR, jM.tag_fI, jM.tag_fL, jM.tag_fR, *]; done)) (by first | assumption | (simp only [jM.R_sI, jM.R_sL, jM.R_fI, jM.R_fL]; assumption) | (simp [jM.R_nw, jM.R_sR, jM.R_fR, jM.R_sI, jM.R_sL, jM.R_fI, jM.R_fL, *]; done)) rfl ?_
  refine J.callS (pc' := 11) rfl MX11_tonsOf ml_X11_233 is_X11_tonsOf (cx_tonsOf d3.1 d6) rfl rfl (Nat.le_of_ble_eq_true rfl) (by first | omega | (exact R.r _ _) | (simp only [jM.len_sI, jM.len_sL, jM.len_sR, jM.len_fI, jM.len_fL, jM.len_fR]; omega) | (simp [jM.len_nw, jM.len_sI, jM.len_sL, jM.len_sR, jM.len_fI, jM.len_fL, jM.len_fR, *]; omega)) (by first | omega | (exact R.r _ _) | (simp only [jM.len_sI, jM.len_sL, jM.len_sR, jM.len_fI, jM.len_fL, jM.len_fR]; omega) | (simp [jM.len_nw, jM.len_sI, jM.len_sL, jM.len_sR, jM.len_fI, jM.len_fL, jM.len_fR, *]; omega)) (by first | omega | (exact R.r _ _) | (simp only [jM.len_sI, jM.len_sL, jM.len_sR, jM.len_fI, jM.len_fL, jM.len_fR]; omega) | (simp [jM.len_nw, jM.len_sI, jM.len_sL, jM.len_sR, jM.len_fI, jM.len_fL, jM.len_fR, *]; omega)) rfl rfl ?_ ?_
  · exact fun _ _ z => z.elim
  rintro _ h ⟨rfl, rfl⟩
  refine J.iret rfl rfl (by first | omega | (exact R.r _ _) | (simp only [jM.len_sI, jM.len_sL, jM.len_sR, jM.len_fI, jM.len_fL, jM.len_fR]; omega) | (simp [jM.len_nw, jM.len_sI, jM.len_sL, jM.len_sR, jM.len_fI, jM.len_fL, jM.len_fR, *]; omega)) (by first | omega | (exact R.r _ _) | (simp only [jM.len_sI, jM.len_sL, jM.len_sR, jM.len_fI, jM.len_fL, jM.len_fR]; omega) | (simp [jM.len_nw, jM.len_sI, jM.len_sL, jM.len_sR, jM.len_fI, jM.len_fL, jM.len_fR, *]; omega)) ?_
  have es : sp_tons V g = (tonsOf V g, V) := by unfold sp_tons; rw [if_pos cg1]
  rw [es]
  refine ⟨?_, h0, ⟨ρ, σ, ks, ss, cs, ls, ms, hR⟩, Fr.rf⟩
  show _ = some (Value.int (jI (tonsOf V g)))
  unfold tonsOf
  rw [← d5, Int.toNat_natCast]
theorem cf_layers {g : Int} (hg : r32 g) (h0 : V 16 0 = 0) (hR : RepB γ V h x ρ σ ks ss cs ls ms) : CT γ mX11_layers 8 8 48 [.ref x, .int (jI g)] h (opQ γ x h (sp_layers V g)) (opX V h (sp_layers V g) [(eIAE, 1)]) := by
  have tx := hR.1.1
  refine CT.of MX11_layers (Nat.le_of_ble_eq_true rfl) ?_
  show J γ mX11_layers 8 8 48 0 0 h 0 [(0, .ref x), (1, .int (jI g))] [] _ _
  first | refine J.aload_n (pc' := 1) rfl rfl rfl ?_ | refine J.aload_nN (pc' := 1) rfl rfl rfl ?_
  refine J.iload_n (pc' := 2) rfl rfl rfl ?_
  refine J.callV (pc' := 5) (t := 15) rfl MX11_heapOf ml_X11_161 iv_X11_heapOf (by decide) ⟨_, rfl, rfl⟩ (by first | assumption | (simp only [jM.tag_sI, jM.tag_sL, jM.tag_sR, jM.tag_fI, jM.tag_fL, jM.tag_fR]; assumption) | (simp [jM.tag_nw, jM.tag_sI, jM.tag_sL, jM.tag_sR, jM.tag_fI, jM.tag_fL, jM.tag_fR, *]; done)) (cf_heapOf hg hR) rfl rfl (Nat.le_of_ble_eq_true rfl) (by first | omega | (exact R.r _ _) | (simp only [jM.len_sI, jM.len_sL, jM.len_sR, jM.len_fI, jM.len_fL, jM.len_fR]; omega) | (simp [jM.len_nw, jM.len_sI, jM.len_sL, jM.len_sR, jM.len_fI, jM.len_fL, jM.len_fR, *]; omega)) (by first | omega | (exact R.r _ _) | (simp only [jM.len_sI, jM.len_sL, jM.len_sR, jM.len_fI, jM.len_fL, jM.len_fR]; omega) | (simp [jM.len_nw, jM.len_sI, jM.len_sL, jM.len_sR, jM.len_fI, jM.len_fL, jM.len_fR, *]; omega)) (by first | omega | (exact R.r _ _) | (simp only [jM.len_sI, jM.len_sL, jM.len_sR, jM.len_fI, jM.len_fL, jM.len_fR]; omega) | (simp [jM.len_nw, jM.len_sI, jM.len_sL, jM.len_sR, jM.len_fI, jM.len_fL, jM.len_fR, *]; omega)) rfl rfl ?_ ?_
  · rintro _ _ ⟨hc, rfl, rfl⟩
    exact ⟨rfl, 1, by simp, by unfold sp_layers; rw [if_neg hc]⟩
  rintro _ h ⟨p, a, e, ys, rfl, cg1, r1, ⟨d1, d2, d3, d4, d5, d6⟩, rfl⟩
  rw [show ((g.toNat : Nat) : Int) = g by omega] at d5
  have ta := d3.1.1
  first | refine J.getR (pc' := 8) rfl fl_X11_188 rfl (by first | assumption | (simp only [jM.tag_sI, jM.tag_sL, jM.tag_sR, jM.tag_fI, jM.tag_fL, jM.tag_fR]; assumption) | (simp [jM.tag_nw, jM.tag_sI, jM.tag_sL, jM.tag_sR, jM.tag_fI, jM.tag_fL, jM.tag_fR, *]; done)) (by first | assumption | (simp only [jM.R_sI, jM.R_sL, jM.R_fI, jM.R_fL]; assumption) | (simp [jM.R_nw, jM.R_sR, jM.R_fR, jM.R_sI, jM.R_sL, jM.R_fI, jM.R_fL, *]; done)) rfl ?_ | refine J.getRN (pc' := 8) rfl fl_X11_188 rfl (by first | assumption | (simp only [jM.tag_sI, jM.tag_sL, jM.tag_sR, jM.tag_fI, jM.tag_fL, jM.tag_fR]; assumption) | (simp [jM.tag_nw, jM.tag_sI, jM.tag_sL, jM.tag_sR, jM.tag_fI, jM.tag_fL, jM.tag_fR, *]; done)) (by first | assumption | (simp only [jM.R_sI, jM.R_sL, jM.R_fI, jM.R_fL]; assumption) | (simp [jM.R_nw, jM.R_sR, jM.R_fR, jM.R_sI, jM.R_sL, jM.R_fI, jM.R_fL, *]; done)) rfl ?_
  refine J.callV (pc' := 11) (t := 3) rfl MJx4a65c_size_8abf5 ml_X11_60 iv_Jx4a65c_size_8abf5 (by decide) ⟨_, rfl, rfl⟩ (by first | assumption | (simp only [jM.tag_sI, jM.tag_sL, jM.tag_sR, jM.tag_fI, jM.tag_fL, jM.tag_fR]; assumption) | (simp [jM.tag_nw, jM.tag_sI, jM.tag_sL, jM.tag_sR, jM.tag_fI, jM.tag_fL, jM.tag_fR, *]; done)) d3.1.size rfl rfl (Nat.le_of_ble_eq_true rfl) (by first | omega | (exact R.r _ _) | (simp only [jM.len_sI, jM.len_sL, jM.len_sR, jM.len_fI, jM.len_fL, jM.len_fR]; omega) | (simp [jM.len_nw, jM.len_sI, jM.len_sL, jM.len_sR, jM.len_fI, jM.len_fL, jM.len_fR, *]; omega)) (by first | omega | (exact R.r _ _) | (simp only [jM.len_sI, jM.len_sL, jM.len_sR, jM.len_fI, jM.len_fL, jM.len_fR]; omega) | (simp [jM.len_nw, jM.len_sI, jM.len_sL, jM.len_sR, jM.len_fI, jM.len_fL, jM.len_fR, *]; omega)) (by first | omega | (exact R.r _ _) | (simp only [jM.len_sI, jM.len_sL, jM.len_sR, jM.len_fI, jM.len_fL, jM.len_fR]; omega) | (simp [jM.len_nw, jM.len_sI, jM.len_sL, jM.len_sR, jM.len_fI, jM.len_fL, jM.len_fR, *]; omega)) rfl rfl ?_ ?_
  · exact fun _ _ z => z.elim
  rintro _ h ⟨rfl, rfl⟩
  refine J.iret rfl rfl (by first | omega | (exact R.r _ _) | (simp only [jM.len_sI, jM.len_sL, jM.len_sR, jM.len_fI, jM.len_fL, jM.len_fR]; omega) | (simp [jM.len_nw, jM.len_sI, jM.len_sL, jM.len_sR, jM.len_fI, jM.len_fL, jM.len_fR, *]; omega)) (by first | omega | (exact R.r _ _) | (simp only [jM.len_sI, jM.len_sL, jM.len_sR, jM.len_fI, jM.len_fL, jM.len_fR]; omega) | (simp [jM.len_nw, jM.len_sI, jM.len_sL, jM.len_sR, jM.len_fI, jM.len_fL, jM.len_fR, *]; omega)) ?_
  have es : sp_layers V g = (V 138 g, V) := by unfold sp_layers; rw [if_pos cg1]
  rw [es]
  exact ⟨by rw [d5], h0, ⟨ρ, σ, ks, ss, cs, ls, ms, hR⟩, Fr.rf⟩
theorem cy_num {y : Nat} {n c v : Int} {P : Nat → Int} (hY : isY h y n (ldR ls v) c P) (hD : repD γ h ρ ls ss ks cs V) (hv : -1 ≤ v ∧ v < V 16 26) : CT γ mX6_loadNumber 0 0 0 [.ref y] h (fun r h' => r = some (.int (jI v)) ∧ h' = h) X0 := by
  unfold ldR at hY
  by_cases z : v = -1
  · rw [if_pos z] at hY
    rw [z]
    exact cy_numberN hY.1 hY.2.2.2.1
  · rw [if_neg z] at hY
    have hl := hD.2.1
    obtain ⟨l, hl2⟩ : ∃ l, ls[v.toNat]? = some l := ⟨_, List.getElem?_eq_getElem (by omega)⟩
    rw [hl2] at hY
    obtain ⟨_, _, _, _, b, _⟩ := hD.2.2 _ l hl2
    have := cy_number (γ := γ) hY.1 hY.2.2.2.1 b.1
    rw [b.2.1, show ((v.toNat : Nat) : Int) = v by omega] at this
    exact this
theorem cf_layer {g k w : Int} (hg : r32 g) (hk : r32 k) (hw : r32 w) (h0 : V 16 0 = 0) (I : Inv V) (hR : RepB γ V h x ρ σ ks ss cs ls ms) : CT γ mX11_layer 8 8 48 [.ref x, .int (jI g), .int (jI k), .int (jI w)] h (opQ γ x h (sp_layer V g k w)) (opX V h (sp_layer V g k w) [(eIAE, 1), (eNSE, 2)]) := by
  have R := I.1
  have tx := hR.1.1
  refine CT.of MX11_layer (Nat.le_of_ble_eq_true rfl) ?_
  show J γ mX11_layer 8 8 48 0 0 h 0 [(0, .ref x), (1, .int (jI g)), (2, .int (jI k)), (3, .int (jI w))] [] _ _
  first | refine J.aload_n (pc' := 1) rfl rfl rfl ?_ | refine J.aload_nN (pc' := 1) rfl rfl rfl ?_
  refine J.iload_n (pc' := 2) rfl rfl rfl ?_
  refine J.callV (pc' := 5) (t := 15) rfl MX11_heapOf ml_X11_161 iv_X11_heapOf (by decide) ⟨_, rfl, rfl⟩ (by first | assumption | (simp only [jM.tag_sI, jM.tag_sL, jM.tag_sR, jM.tag_fI, jM.tag_fL, jM.tag_fR]; assumption) | (simp [jM.tag_nw, jM.tag_sI, jM.tag_sL, jM.tag_sR, jM.tag_fI, jM.tag_fL, jM.tag_fR, *]; done)) (cf_heapOf hg hR) rfl rfl (Nat.le_of_ble_eq_true rfl) (by first | omega | (exact R.r _ _) | (simp only [jM.len_sI, jM.len_sL, jM.len_sR, jM.len_fI, jM.len_fL, jM.len_fR]; omega) | (simp [jM.len_nw, jM.len_sI, jM.len_sL, jM.len_sR, jM.len_fI, jM.len_fL, jM.len_fR, *]; omega)) (by first | omega | (exact R.r _ _) | (simp only [jM.len_sI, jM.len_sL, jM.len_sR, jM.len_fI, jM.len_fL, jM.len_fR]; omega) | (simp [jM.len_nw, jM.len_sI, jM.len_sL, jM.len_sR, jM.len_fI, jM.len_fL, jM.len_fR, *]; omega)) (by first | omega | (exact R.r _ _) | (simp only [jM.len_sI, jM.len_sL, jM.len_sR, jM.len_fI, jM.len_fL, jM.len_fR]; omega) | (simp [jM.len_nw, jM.len_sI, jM.len_sL, jM.len_sR, jM.len_fI, jM.len_fL, jM.len_fR, *]; omega)) rfl rfl ?_ ?_
  · rintro _ _ ⟨hc, rfl, rfl⟩
    exact ⟨rfl, 1, by simp, by unfold sp_layer; rw [if_neg hc]⟩
  rintro _ h ⟨p, a, e, ys, rfl, cg1, r1, ⟨d1, d2, d3, d4, d5, d6⟩, rfl⟩
  rw [show ((g.toNat : Nat) : Int) = g by omega] at d5 d6
  have ta := d3.1.1
  have hlen := d3.1.len
  have bad : ¬ (0 ≤ k ∧ k < V 138 g) → sp_layer V g k w = (0, jU V 16 0 2) := fun q => by unfold sp_layer; rw [if_pos cg1, if_neg q]
  first | refine J.astore (pc' := 7) rfl rfl (by decide) ?_ | refine J.astoreN (pc' := 7) rfl rfl (by decide) ?_
  refine J.iload_n (pc' := 8) rfl rfl rfl ?_
  refine J.if_lt (tgt := 23) (pc' := 11) rfl rfl rfl (by first | omega | (exact R.r _ _) | (simp only [jM.len_sI, jM.len_sL, jM.len_sR, jM.len_fI, jM.len_fL, jM.len_fR]; omega) | (simp [jM.len_nw, jM.len_sI, jM.len_sL, jM.len_sR, jM.len_fI, jM.len_fL, jM.len_fR, *]; omega)) (fun c1 => ?_) (fun c1 => ?_)
  · refine J.throwL (text := "no such layer") rfl rfl rfl rfl rfl jThr_NSE (List.mem_of_getElem? (i := 512) (by decide +kernel)) (List.mem_of_getElem? (i := 1192) (by decide +kernel)) rfl (by first | omega | (exact R.r _ _) | (simp only [jM.len_sI, jM.len_sL, jM.len_sR, jM.len_fI, jM.len_fL, jM.len_fR]; omega) | (simp [jM.len_nw, jM.len_sI, jM.len_sL, jM.len_sR, jM.len_fI, jM.len_fL, jM.len_fR, *]; omega)) (Nat.le_of_ble_eq_true rfl) (by first | omega | (exact R.r _ _) | (simp only [jM.len_sI, jM.len_sL, jM.len_sR, jM.len_fI, jM.len_fL, jM.len_fR]; omega) | (simp [jM.len_nw, jM.len_sI, jM.len_sL, jM.len_sR, jM.len_fI, jM.len_fL, jM.len_fR, *]; omega)) (by first | omega | (exact R.r _ _) | (simp only [jM.len_sI, jM.len_sL, jM.len_sR, jM.len_fI, jM.len_fL, jM.len_fR]; omega) | (simp [jM.len_nw, jM.len_sI, jM.len_sL, jM.len_sR, jM.len_fI, jM.len_fL, jM.len_fR, *]; omega)) ?_
    exact ⟨rfl, 2, by simp, bad (by omega)⟩
  · refine J.iload_n (pc' := 12) rfl rfl rfl ?_
    first | refine J.aload (pc' := 14) rfl rfl rfl ?_ | refine J.aloadN (pc' := 14) rfl rfl rfl ?_
    first | refine J.getR (pc' := 17) rfl fl_X11_188 rfl (by first | assumption | (simp only [jM.tag_sI, jM.tag_sL, jM.tag_sR, jM.tag_fI, jM.tag_fL, jM.tag_fR]; assumption) | (simp [jM.tag_nw, jM.tag_sI, jM.tag_sL, jM.tag_sR, jM.tag_fI, jM.tag_fL, jM.tag_fR, *]; done)) (by first | assumption | (simp only [jM.R_sI, jM.R_sL, jM.R_fI, jM.R_fL]; assumption) | (simp [jM.R_nw, jM.R_sR, jM.R_fR, jM.R_sI, jM.R_sL, jM.R_fI, jM.R_fL, *]; done)) rfl ?_ | refine J.getRN (pc' := 17) rfl fl_X11_188 rfl (by first | assumption | (simp only [jM.tag_sI, jM.tag_sL, jM.tag_sR, jM.tag_fI, jM.tag_fL, jM.tag_fR]; assumption) | (simp [jM.tag_nw, jM.tag_sI, jM.tag_sL, jM.tag_sR, jM.tag_fI, jM.tag_fL, jM.tag_fR, *]; done)) (by first | assumption | (simp only [jM.R_sI, jM.R_sL, jM.R_fI, jM.R_fL]; assumption) | (simp [jM.R_nw, jM.R_sR, jM.R_fR, jM.R_sI, jM.R_sL, jM.R_fI, jM.R_fL, *]; done)) rfl ?_
    refine J.callV (pc' := 20) (t := 3) rfl MJx4a65c_size_8abf5 ml_X11_60 iv_Jx4a65c_size_8abf5 (by decide) ⟨_, rfl, rfl⟩ (by first | assumption | (simp only [jM.tag_sI, jM.tag_sL, jM.tag_sR, jM.tag_fI, jM.tag_fL, jM.tag_fR]; assumption) | (simp [jM.tag_nw, jM.tag_sI, jM.tag_sL, jM.tag_sR, jM.tag_fI, jM.tag_fL, jM.tag_fR, *]; done)) d3.1.size rfl rfl (Nat.le_of_ble_eq_true rfl) (by first | omega | (exact R.r _ _) | (simp only [jM.len_sI, jM.len_sL, jM.len_sR, jM.len_fI, jM.len_fL, jM.len_fR]; omega) | (simp [jM.len_nw, jM.len_sI, jM.len_sL, jM.len_sR, jM.len_fI, jM.len_fL, jM.len_fR, *]; omega)) (by first | omega | (exact R.r _ _) | (simp only [jM.len_sI, jM.len_sL, jM.len_sR, jM.len_fI, jM.len_fL, jM.len_fR]; omega) | (simp [jM.len_nw, jM.len_sI, jM.len_sL, jM.len_sR, jM.len_fI, jM.len_fL, jM.len_fR, *]; omega)) (by first | omega | (exact R.r _ _) | (simp only [jM.len_sI, jM.len_sL, jM.len_sR, jM.len_fI, jM.len_fL, jM.len_fR]; omega) | (simp [jM.len_nw, jM.len_sI, jM.len_sL, jM.len_sR, jM.len_fI, jM.len_fL, jM.len_fR, *]; omega)) rfl rfl ?_ ?_
    · exact fun _ _ z => z.elim
    rintro _ h ⟨rfl, rfl⟩
    refine J.icmp_lt (tgt := 33) (pc' := 23) rfl rfl rfl (by first | omega | (exact R.r _ _) | (simp only [jM.len_sI, jM.len_sL, jM.len_sR, jM.len_fI, jM.len_fL, jM.len_fR]; omega) | (simp [jM.len_nw, jM.len_sI, jM.len_sL, jM.len_sR, jM.len_fI, jM.len_fL, jM.len_fR, *]; omega)) (by first | omega | (exact R.r _ _) | (simp only [jM.len_sI, jM.len_sL, jM.len_sR, jM.len_fI, jM.len_fL, jM.len_fR]; omega) | (simp [jM.len_nw, jM.len_sI, jM.len_sL, jM.len_sR, jM.len_fI, jM.len_fL, jM.len_fR, *]; omega)) (fun c2 => ?_) (fun c2 => ?_)
    · obtain ⟨i, rfl⟩ : ∃ i : Nat, k = (i : Int) := ⟨k.toNat, by omega⟩
      obtain ⟨y, hy⟩ : ∃ y, ys[ys.length - 1 - i]? = some y := ⟨_, List.getElem?_eq_getElem (by omega)⟩
      have hyy := d6 _ y hy
      have ei : ((ys.length - 1 - i : Nat) : Int) = V 138 g - 1 - (i : Int) := by omega
      rw [ei] at hyy
      dsimp only at hyy
      rw [show 41 * g + (V 138 g - 1 - (i : Int)) = 41 * g + V 138 g - 1 - (i : Int) by omega] at hyy
      have rf := I.2.2.2.2.1 g (V 138 g - 1 - (i : Int)) cg1.1 cg1.2 (by omega) (by omega)
      rw [show 41 * g + (V 138 g - 1 - (i : Int)) = 41 * g + V 138 g - 1 - (i : Int) by omega] at rf
      have h140 := R 140 (41 * g + V 138 g - 1 - (i : Int)) rfl
      simp [jLo, jHi] at h140
      have hyy0 := hyy
      obtain ⟨y1, y0, y2, y3, y4, s, y5, y6⟩ := hyy0
      have ts := y6.1.1
      have es : 0 ≤ w ∧ w < 13 → sp_layer V g (i : Int) w = (layV V (41 * g + V 138 g - 1 - (i : Int)) w, V) := fun q => by unfold sp_layer; rw [if_pos cg1, if_pos (by omega), if_pos q]
      generalize 41 * g + V 138 g - 1 - (i : Int) = yy at hyy y2 y3 y4 y6 rf h140 es
      first | refine J.aload (pc' := 35) rfl rfl rfl ?_ | refine J.aloadN (pc' := 35) rfl rfl rfl ?_
      refine J.iload_n (pc' := 36) rfl rfl rfl ?_
      refine J.callV (pc' := 39) (t := 8) rfl MX4_fromTop ml_X11_242 iv_X4_fromTop (by decide) ⟨_, rfl, rfl⟩ (by first | assumption | (simp only [jM.tag_sI, jM.tag_sL, jM.tag_sR, jM.tag_fI, jM.tag_fL, jM.tag_fR]; assumption) | (simp [jM.tag_nw, jM.tag_sI, jM.tag_sL, jM.tag_sR, jM.tag_fI, jM.tag_fL, jM.tag_fR, *]; done)) (cx_fromTop d1 d2 d3.1 (by omega) hy y1) rfl rfl (Nat.le_of_ble_eq_true rfl) (by first | omega | (exact R.r _ _) | (simp only [jM.len_sI, jM.len_sL, jM.len_sR, jM.len_fI, jM.len_fL, jM.len_fR]; omega) | (simp [jM.len_nw, jM.len_sI, jM.len_sL, jM.len_sR, jM.len_fI, jM.len_fL, jM.len_fR, *]; omega)) (by first | omega | (exact R.r _ _) | (simp only [jM.len_sI, jM.len_sL, jM.len_sR, jM.len_fI, jM.len_fL, jM.len_fR]; omega) | (simp [jM.len_nw, jM.len_sI, jM.len_sL, jM.len_sR, jM.len_fI, jM.len_fL, jM.len_fR, *]; omega)) (by first | omega | (exact R.r _ _) | (simp only [jM.len_sI, jM.len_sL, jM.len_sR, jM.len_fI, jM.len_fL, jM.len_fR]; omega) | (simp [jM.len_nw, jM.len_sI, jM.len_sL, jM.len_sR, jM.len_fI, jM.len_fL, jM.len_fR, *]; omega)) rfl rfl ?_ ?_
      · exact fun _ _ z => z.elim
      rintro _ h ⟨rfl, rfl⟩
      first | refine J.astore (pc' := 41) rfl rfl (by decide) ?_ | refine J.astoreN (pc' := 41) rfl rfl (by decide) ?_
      refine J.iload_n (pc' := 42) rfl rfl rfl ?_
      refine J.tsw (tgt := 86) (n := 3) (T := jNth [68, 74, 80]) rfl hw rfl rfl (fun k hk => by rcases k with _ | _ | _ | k <;> first | exact ⟨_, rfl, rfl⟩ | omega) (fun c7 => ?_) (fun k7 hk7 c7 => ?_)
      · first | refine J.aload (pc' := 88) rfl rfl rfl ?_ | refine J.aloadN (pc' := 88) rfl rfl rfl ?_
        first | refine J.getR (pc' := 91) rfl fl_X11_253 rfl (by first | assumption | (simp only [jM.tag_sI, jM.tag_sL, jM.tag_sR, jM.tag_fI, jM.tag_fL, jM.tag_fR]; assumption) | (simp [jM.tag_nw, jM.tag_sI, jM.tag_sL, jM.tag_sR, jM.tag_fI, jM.tag_fL, jM.tag_fR, *]; done)) (by first | assumption | (simp only [jM.R_sI, jM.R_sL, jM.R_fI, jM.R_fL]; assumption) | (simp [jM.R_nw, jM.R_sR, jM.R_fR, jM.R_sI, jM.R_sL, jM.R_fI, jM.R_fL, *]; done)) rfl ?_ | refine J.getRN (pc' := 91) rfl fl_X11_253 rfl (by first | assumption | (simp only [jM.tag_sI, jM.tag_sL, jM.tag_sR, jM.tag_fI, jM.tag_fL, jM.tag_fR]; assumption) | (simp [jM.tag_nw, jM.tag_sI, jM.tag_sL, jM.tag_sR, jM.tag_fI, jM.tag_fL, jM.tag_fR, *]; done)) (by first | assumption | (simp only [jM.R_sI, jM.R_sL, jM.R_fI, jM.R_fL]; assumption) | (simp [jM.R_nw, jM.R_sR, jM.R_fR, jM.R_sI, jM.R_sL, jM.R_fI, jM.R_fL, *]; done)) rfl ?_
        refine J.iload_n (pc' := 92) rfl rfl rfl ?_
        refine J.iconst (pc' := 93) rfl rfl ?_
        refine J.callV (pc' := 96) (t := 14) rfl MX10_partOrThrow ml_X11_218 iv_X10_partOrThrow (by decide) ⟨_, rfl, rfl⟩ (by first | assumption | (simp only [jM.tag_sI, jM.tag_sL, jM.tag_sR, jM.tag_fI, jM.tag_fL, jM.tag_fR]; assumption) | (simp [jM.tag_nw, jM.tag_sI, jM.tag_sL, jM.tag_sR, jM.tag_fI, jM.tag_fL, jM.tag_fR, *]; done)) (cs_part y6.1 hw (by omega) (by omega)) rfl rfl (Nat.le_of_ble_eq_true rfl) (by first | omega | (exact R.r _ _) | (simp only [jM.len_sI, jM.len_sL, jM.len_sR, jM.len_fI, jM.len_fL, jM.len_fR]; omega) | (simp [jM.len_nw, jM.len_sI, jM.len_sL, jM.len_sR, jM.len_fI, jM.len_fL, jM.len_fR, *]; omega)) (by first | omega | (exact R.r _ _) | (simp only [jM.len_sI, jM.len_sL, jM.len_sR, jM.len_fI, jM.len_fL, jM.len_fR]; omega) | (simp [jM.len_nw, jM.len_sI, jM.len_sL, jM.len_sR, jM.len_fI, jM.len_fL, jM.len_fR, *]; omega)) (by first | omega | (exact R.r _ _) | (simp only [jM.len_sI, jM.len_sL, jM.len_sR, jM.len_fI, jM.len_fL, jM.len_fR]; omega) | (simp [jM.len_nw, jM.len_sI, jM.len_sL, jM.len_sR, jM.len_fI, jM.len_fL, jM.len_fR, *]; omega)) rfl rfl ?_ ?_
        · rintro _ _ ⟨hc, rfl, rfl⟩
          exact ⟨rfl, 1, by simp, by unfold sp_layer; rw [if_pos cg1, if_pos (by omega), if_neg (by omega)]⟩
        rintro _ h ⟨hc, rfl, rfl⟩
        refine J.iret rfl rfl (by first | omega | (exact R.r _ _) | (simp only [jM.len_sI, jM.len_sL, jM.len_sR, jM.len_fI, jM.len_fL, jM.len_fR]; omega) | (simp [jM.len_nw, jM.len_sI, jM.len_sL, jM.len_sR, jM.len_fI, jM.len_fL, jM.len_fR, *]; omega)) (by first | omega | (exact R.r _ _) | (simp only [jM.len_sI, jM.len_sL, jM.len_sR, jM.len_fI, jM.len_fL, jM.len_fR]; omega) | (simp [jM.len_nw, jM.len_sI, jM.len_sL, jM.len_sR, jM.len_fI, jM.len_fL, jM.len_fR, *]; omega)) ?_
        rw [es (by omega)]
        refine ⟨?_, h0, ⟨ρ, σ, ks, ss, cs, ls, ms, hR⟩, Fr.rf⟩
        rw [y6.2.2.2 _ (by omega)]
        unfold yP layV
        rw [if_neg (show ¬ w = 0 by omega), if_neg (show ¬ w = 1 by omega), if_neg (show ¬ w = 2 by omega)]
        by_cases zz : w % 2 = 1
        · rw [if_pos (show (w - 3).toNat % 2 = 0 by omega), if_pos zz, show (((w - 3).toNat / 2 : Nat) : Int) = (w - 3) / 2 by omega]
        · rw [if_neg (show ¬ (w - 3).toNat % 2 = 0 by omega), if_neg zz, show (((w - 3).toNat / 2 : Nat) : Int) = (w - 3) / 2 by omega]
      rw [es (by omega)]
      rcases k7 with _ | _ | _ | k7
      · first | refine J.aload (pc' := 70) rfl rfl rfl ?_ | refine J.aloadN (pc' := 70) rfl rfl rfl ?_
        refine J.getI (pc' := 73) rfl fl_X11_246 rfl (by first | assumption | (simp only [jM.tag_sI, jM.tag_sL, jM.tag_sR, jM.tag_fI, jM.tag_fL, jM.tag_fR]; assumption) | (simp [jM.tag_nw, jM.tag_sI, jM.tag_sL, jM.tag_sR, jM.tag_fI, jM.tag_fL, jM.tag_fR, *]; done)) rfl ?_
        rw [y2]
        refine J.iret rfl rfl (by first | omega | (exact R.r _ _) | (simp only [jM.len_sI, jM.len_sL, jM.len_sR, jM.len_fI, jM.len_fL, jM.len_fR]; omega) | (simp [jM.len_nw, jM.len_sI, jM.len_sL, jM.len_sR, jM.len_fI, jM.len_fL, jM.len_fR, *]; omega)) (by first | omega | (exact R.r _ _) | (simp only [jM.len_sI, jM.len_sL, jM.len_sR, jM.len_fI, jM.len_fL, jM.len_fR]; omega) | (simp [jM.len_nw, jM.len_sI, jM.len_sL, jM.len_sR, jM.len_fI, jM.len_fL, jM.len_fR, *]; omega)) ?_
        exact ⟨by rw [c7]; rfl, h0, ⟨ρ, σ, ks, ss, cs, ls, ms, hR⟩, Fr.rf⟩
      · first | refine J.aload (pc' := 76) rfl rfl rfl ?_ | refine J.aloadN (pc' := 76) rfl rfl rfl ?_
        refine J.callV (pc' := 79) (t := 10) rfl MX6_loadNumber ml_X11_247 iv_X6_loadNumber (by decide) ⟨_, rfl, rfl⟩ (by first | assumption | (simp only [jM.tag_sI, jM.tag_sL, jM.tag_sR, jM.tag_fI, jM.tag_fL, jM.tag_fR]; assumption) | (simp [jM.tag_nw, jM.tag_sI, jM.tag_sL, jM.tag_sR, jM.tag_fI, jM.tag_fL, jM.tag_fR, *]; done)) (cy_num hyy hR.2.2.2.2.1 (by omega)) rfl rfl (Nat.le_of_ble_eq_true rfl) (by first | omega | (exact R.r _ _) | (simp only [jM.len_sI, jM.len_sL, jM.len_sR, jM.len_fI, jM.len_fL, jM.len_fR]; omega) | (simp [jM.len_nw, jM.len_sI, jM.len_sL, jM.len_sR, jM.len_fI, jM.len_fL, jM.len_fR, *]; omega)) (by first | omega | (exact R.r _ _) | (simp only [jM.len_sI, jM.len_sL, jM.len_sR, jM.len_fI, jM.len_fL, jM.len_fR]; omega) | (simp [jM.len_nw, jM.len_sI, jM.len_sL, jM.len_sR, jM.len_fI, jM.len_fL, jM.len_fR, *]; omega)) (by first | omega | (exact R.r _ _) | (simp only [jM.len_sI, jM.len_sL, jM.len_sR, jM.len_fI, jM.len_fL, jM.len_fR]; omega) | (simp [jM.len_nw, jM.len_sI, jM.len_sL, jM.len_sR, jM.len_fI, jM.len_fL, jM.len_fR, *]; omega)) rfl rfl ?_ ?_
        · exact fun _ _ z => z.elim
        rintro _ h ⟨rfl, rfl⟩
        refine J.iret rfl rfl (by first | omega | (exact R.r _ _) | (simp only [jM.len_sI, jM.len_sL, jM.len_sR, jM.len_fI, jM.len_fL, jM.len_fR]; omega) | (simp [jM.len_nw, jM.len_sI, jM.len_sL, jM.len_sR, jM.len_fI, jM.len_fL, jM.len_fR, *]; omega)) (by first | omega | (exact R.r _ _) | (simp only [jM.len_sI, jM.len_sL, jM.len_sR, jM.len_fI, jM.len_fL, jM.len_fR]; omega) | (simp [jM.len_nw, jM.len_sI, jM.len_sL, jM.len_sR, jM.len_fI, jM.len_fL, jM.len_fR, *]; omega)) ?_
        exact ⟨by rw [c7]; rfl, h0, ⟨ρ, σ, ks, ss, cs, ls, ms, hR⟩, Fr.rf⟩
      · first | refine J.aload (pc' := 82) rfl rfl rfl ?_ | refine J.aloadN (pc' := 82) rfl rfl rfl ?_
        refine J.getI (pc' := 85) rfl fl_X11_250 rfl (by first | assumption | (simp only [jM.tag_sI, jM.tag_sL, jM.tag_sR, jM.tag_fI, jM.tag_fL, jM.tag_fR]; assumption) | (simp [jM.tag_nw, jM.tag_sI, jM.tag_sL, jM.tag_sR, jM.tag_fI, jM.tag_fL, jM.tag_fR, *]; done)) rfl ?_
        rw [y4]
        refine J.iret rfl rfl (by first | omega | (exact R.r _ _) | (simp only [jM.len_sI, jM.len_sL, jM.len_sR, jM.len_fI, jM.len_fL, jM.len_fR]; omega) | (simp [jM.len_nw, jM.len_sI, jM.len_sL, jM.len_sR, jM.len_fI, jM.len_fL, jM.len_fR, *]; omega)) (by first | omega | (exact R.r _ _) | (simp only [jM.len_sI, jM.len_sL, jM.len_sR, jM.len_fI, jM.len_fL, jM.len_fR]; omega) | (simp [jM.len_nw, jM.len_sI, jM.len_sL, jM.len_sR, jM.len_fI, jM.len_fL, jM.len_fR, *]; omega)) ?_
        exact ⟨by rw [c7]; rfl, h0, ⟨ρ, σ, ks, ss, cs, ls, ms, hR⟩, Fr.rf⟩
      · omega
    · refine J.throwL (text := "no such layer") rfl rfl rfl rfl rfl jThr_NSE (List.mem_of_getElem? (i := 512) (by decide +kernel)) (List.mem_of_getElem? (i := 1192) (by decide +kernel)) rfl (by first | omega | (exact R.r _ _) | (simp only [jM.len_sI, jM.len_sL, jM.len_sR, jM.len_fI, jM.len_fL, jM.len_fR]; omega) | (simp [jM.len_nw, jM.len_sI, jM.len_sL, jM.len_sR, jM.len_fI, jM.len_fL, jM.len_fR, *]; omega)) (Nat.le_of_ble_eq_true rfl) (by first | omega | (exact R.r _ _) | (simp only [jM.len_sI, jM.len_sL, jM.len_sR, jM.len_fI, jM.len_fL, jM.len_fR]; omega) | (simp [jM.len_nw, jM.len_sI, jM.len_sL, jM.len_sR, jM.len_fI, jM.len_fL, jM.len_fR, *]; omega)) (by first | omega | (exact R.r _ _) | (simp only [jM.len_sI, jM.len_sL, jM.len_sR, jM.len_fI, jM.len_fL, jM.len_fR]; omega) | (simp [jM.len_nw, jM.len_sI, jM.len_sL, jM.len_sR, jM.len_fI, jM.len_fL, jM.len_fR, *]; omega)) ?_
      exact ⟨rfl, 2, by simp, bad (by omega)⟩
theorem cf_portions {i : Int} (hi : r32 i) (h0 : V 16 0 = 0) (hR : RepB γ V h x ρ σ ks ss cs ls ms) : CT γ mX11_portions 7 8 48 [.ref x, .int (jI i)] h (opQ γ x h (sp_portions V i)) (opX V h (sp_portions V i) [(eNSE, 1)]) := by
  have tx := hR.1.1
  refine CT.of MX11_portions (Nat.le_of_ble_eq_true rfl) ?_
  show J γ mX11_portions 7 8 48 0 0 h 0 [(0, .ref x), (1, .int (jI i))] [] _ _
  first | refine J.aload_n (pc' := 1) rfl rfl rfl ?_ | refine J.aload_nN (pc' := 1) rfl rfl rfl ?_
  refine J.iload_n (pc' := 2) rfl rfl rfl ?_
  refine J.callV (pc' := 5) (t := 15) rfl MX11_meltOf ml_X11_289 iv_X11_meltOf (by decide) ⟨_, rfl, rfl⟩ (by first | assumption | (simp only [jM.tag_sI, jM.tag_sL, jM.tag_sR, jM.tag_fI, jM.tag_fL, jM.tag_fR]; assumption) | (simp [jM.tag_nw, jM.tag_sI, jM.tag_sL, jM.tag_sR, jM.tag_fI, jM.tag_fL, jM.tag_fR, *]; done)) (cf_meltOf hi hR) rfl rfl (Nat.le_of_ble_eq_true rfl) (by first | omega | (exact R.r _ _) | (simp only [jM.len_sI, jM.len_sL, jM.len_sR, jM.len_fI, jM.len_fL, jM.len_fR]; omega) | (simp [jM.len_nw, jM.len_sI, jM.len_sL, jM.len_sR, jM.len_fI, jM.len_fL, jM.len_fR, *]; omega)) (by first | omega | (exact R.r _ _) | (simp only [jM.len_sI, jM.len_sL, jM.len_sR, jM.len_fI, jM.len_fL, jM.len_fR]; omega) | (simp [jM.len_nw, jM.len_sI, jM.len_sL, jM.len_sR, jM.len_fI, jM.len_fL, jM.len_fR, *]; omega)) (by first | omega | (exact R.r _ _) | (simp only [jM.len_sI, jM.len_sL, jM.len_sR, jM.len_fI, jM.len_fL, jM.len_fR]; omega) | (simp [jM.len_nw, jM.len_sI, jM.len_sL, jM.len_sR, jM.len_fI, jM.len_fL, jM.len_fR, *]; omega)) rfl rfl ?_ ?_
  · rintro _ _ ⟨hc, rfl, rfl⟩
    exact ⟨rfl, 1, by simp, by unfold sp_portions; rw [if_neg hc]⟩
  rintro _ h ⟨z, rfl, az, ci1, rfl⟩
  obtain ⟨a, e, ys, C, d1, d0, d2, d3, d4, d5, d6⟩ := hR.2.2.2.2.2.2.1.2.2 i.toNat z az.2
  rw [show ((i.toNat : Nat) : Int) = i by omega] at d5
  have ta := d3.1.1
  first | refine J.getR (pc' := 8) rfl fl_X11_286 rfl (by first | assumption | (simp only [jM.tag_sI, jM.tag_sL, jM.tag_sR, jM.tag_fI, jM.tag_fL, jM.tag_fR]; assumption) | (simp [jM.tag_nw, jM.tag_sI, jM.tag_sL, jM.tag_sR, jM.tag_fI, jM.tag_fL, jM.tag_fR, *]; done)) (by first | assumption | (simp only [jM.R_sI, jM.R_sL, jM.R_fI, jM.R_fL]; assumption) | (simp [jM.R_nw, jM.R_sR, jM.R_fR, jM.R_sI, jM.R_sL, jM.R_fI, jM.R_fL, *]; done)) rfl ?_ | refine J.getRN (pc' := 8) rfl fl_X11_286 rfl (by first | assumption | (simp only [jM.tag_sI, jM.tag_sL, jM.tag_sR, jM.tag_fI, jM.tag_fL, jM.tag_fR]; assumption) | (simp [jM.tag_nw, jM.tag_sI, jM.tag_sL, jM.tag_sR, jM.tag_fI, jM.tag_fL, jM.tag_fR, *]; done)) (by first | assumption | (simp only [jM.R_sI, jM.R_sL, jM.R_fI, jM.R_fL]; assumption) | (simp [jM.R_nw, jM.R_sR, jM.R_fR, jM.R_sI, jM.R_sL, jM.R_fI, jM.R_fL, *]; done)) rfl ?_
  refine J.callV (pc' := 11) (t := 3) rfl MJx4a65c_size_8abf5 ml_X11_60 iv_Jx4a65c_size_8abf5 (by decide) ⟨_, rfl, rfl⟩ (by first | assumption | (simp only [jM.tag_sI, jM.tag_sL, jM.tag_sR, jM.tag_fI, jM.tag_fL, jM.tag_fR]; assumption) | (simp [jM.tag_nw, jM.tag_sI, jM.tag_sL, jM.tag_sR, jM.tag_fI, jM.tag_fL, jM.tag_fR, *]; done)) d3.1.size rfl rfl (Nat.le_of_ble_eq_true rfl) (by first | omega | (exact R.r _ _) | (simp only [jM.len_sI, jM.len_sL, jM.len_sR, jM.len_fI, jM.len_fL, jM.len_fR]; omega) | (simp [jM.len_nw, jM.len_sI, jM.len_sL, jM.len_sR, jM.len_fI, jM.len_fL, jM.len_fR, *]; omega)) (by first | omega | (exact R.r _ _) | (simp only [jM.len_sI, jM.len_sL, jM.len_sR, jM.len_fI, jM.len_fL, jM.len_fR]; omega) | (simp [jM.len_nw, jM.len_sI, jM.len_sL, jM.len_sR, jM.len_fI, jM.len_fL, jM.len_fR, *]; omega)) (by first | omega | (exact R.r _ _) | (simp only [jM.len_sI, jM.len_sL, jM.len_sR, jM.len_fI, jM.len_fL, jM.len_fR]; omega) | (simp [jM.len_nw, jM.len_sI, jM.len_sL, jM.len_sR, jM.len_fI, jM.len_fL, jM.len_fR, *]; omega)) rfl rfl ?_ ?_
  · exact fun _ _ z => z.elim
  rintro _ h ⟨rfl, rfl⟩
  refine J.iret rfl rfl (by first | omega | (exact R.r _ _) | (simp only [jM.len_sI, jM.len_sL, jM.len_sR, jM.len_fI, jM.len_fL, jM.len_fR]; omega) | (simp [jM.len_nw, jM.len_sI, jM.len_sL, jM.len_sR, jM.len_fI, jM.len_fL, jM.len_fR, *]; omega)) (by first | omega | (exact R.r _ _) | (simp only [jM.len_sI, jM.len_sL, jM.len_sR, jM.len_fI, jM.len_fL, jM.len_fR]; omega) | (simp [jM.len_nw, jM.len_sI, jM.len_sL, jM.len_sR, jM.len_fI, jM.len_fL, jM.len_fR, *]; omega)) ?_
  have es : sp_portions V i = (V 153 i, V) := by unfold sp_portions; rw [if_pos ci1]
  rw [es]
  exact ⟨by rw [d5], h0, ⟨ρ, σ, ks, ss, cs, ls, ms, hR⟩, Fr.rf⟩
theorem cf_portion {i k w : Int} (hi : r32 i) (hk : r32 k) (hw : r32 w) (h0 : V 16 0 = 0) (I : Inv V) (hR : RepB γ V h x ρ σ ks ss cs ls ms) : CT γ mX11_portion 7 8 48 [.ref x, .int (jI i), .int (jI k), .int (jI w)] h (opQ γ x h (sp_portion V i k w)) (opX V h (sp_portion V i k w) [(eNSE, 1), (eIAE, 2)]) := by
  have R := I.1
  have tx := hR.1.1
  refine CT.of MX11_portion (Nat.le_of_ble_eq_true rfl) ?_
  show J γ mX11_portion 7 8 48 0 0 h 0 [(0, .ref x), (1, .int (jI i)), (2, .int (jI k)), (3, .int (jI w))] [] _ _
  first | refine J.aload_n (pc' := 1) rfl rfl rfl ?_ | refine J.aload_nN (pc' := 1) rfl rfl rfl ?_
  refine J.iload_n (pc' := 2) rfl rfl rfl ?_
  refine J.callV (pc' := 5) (t := 15) rfl MX11_meltOf ml_X11_289 iv_X11_meltOf (by decide) ⟨_, rfl, rfl⟩ (by first | assumption | (simp only [jM.tag_sI, jM.tag_sL, jM.tag_sR, jM.tag_fI, jM.tag_fL, jM.tag_fR]; assumption) | (simp [jM.tag_nw, jM.tag_sI, jM.tag_sL, jM.tag_sR, jM.tag_fI, jM.tag_fL, jM.tag_fR, *]; done)) (cf_meltOf hi hR) rfl rfl (Nat.le_of_ble_eq_true rfl) (by first | omega | (exact R.r _ _) | (simp only [jM.len_sI, jM.len_sL, jM.len_sR, jM.len_fI, jM.len_fL, jM.len_fR]; omega) | (simp [jM.len_nw, jM.len_sI, jM.len_sL, jM.len_sR, jM.len_fI, jM.len_fL, jM.len_fR, *]; omega)) (by first | omega | (exact R.r _ _) | (simp only [jM.len_sI, jM.len_sL, jM.len_sR, jM.len_fI, jM.len_fL, jM.len_fR]; omega) | (simp [jM.len_nw, jM.len_sI, jM.len_sL, jM.len_sR, jM.len_fI, jM.len_fL, jM.len_fR, *]; omega)) (by first | omega | (exact R.r _ _) | (simp only [jM.len_sI, jM.len_sL, jM.len_sR, jM.len_fI, jM.len_fL, jM.len_fR]; omega) | (simp [jM.len_nw, jM.len_sI, jM.len_sL, jM.len_sR, jM.len_fI, jM.len_fL, jM.len_fR, *]; omega)) rfl rfl ?_ ?_
  · rintro _ _ ⟨hc, rfl, rfl⟩
    exact ⟨rfl, 1, by simp, by unfold sp_portion; rw [if_neg hc]⟩
  rintro _ h ⟨z, rfl, az, ci1, rfl⟩
  obtain ⟨a, e, ys, C, d1, d0, d2, d3, d4, d5, d6⟩ := hR.2.2.2.2.2.2.1.2.2 i.toNat z az.2
  rw [show ((i.toNat : Nat) : Int) = i by omega] at d5 d6
  have ta := d3.1.1
  have hlen := d3.1.len
  have bad : ¬ (0 ≤ k ∧ k < V 153 i) → sp_portion V i k w = (0, jU V 16 0 1) := fun q => by unfold sp_portion; rw [if_pos ci1, if_neg q]
  first | refine J.astore (pc' := 7) rfl rfl (by decide) ?_ | refine J.astoreN (pc' := 7) rfl rfl (by decide) ?_
  refine J.iload_n (pc' := 8) rfl rfl rfl ?_
  refine J.if_lt (tgt := 23) (pc' := 11) rfl rfl rfl (by first | omega | (exact R.r _ _) | (simp only [jM.len_sI, jM.len_sL, jM.len_sR, jM.len_fI, jM.len_fL, jM.len_fR]; omega) | (simp [jM.len_nw, jM.len_sI, jM.len_sL, jM.len_sR, jM.len_fI, jM.len_fL, jM.len_fR, *]; omega)) (fun c1 => ?_) (fun c1 => ?_)
  · refine J.throwW (text := "no such portion") rfl rfl rfl rfl rfl jThr_NSE (List.mem_of_getElem? (i := 512) (by decide +kernel)) (List.mem_of_getElem? (i := 1377) (by decide +kernel)) rfl (by first | omega | (exact R.r _ _) | (simp only [jM.len_sI, jM.len_sL, jM.len_sR, jM.len_fI, jM.len_fL, jM.len_fR]; omega) | (simp [jM.len_nw, jM.len_sI, jM.len_sL, jM.len_sR, jM.len_fI, jM.len_fL, jM.len_fR, *]; omega)) (Nat.le_of_ble_eq_true rfl) (by first | omega | (exact R.r _ _) | (simp only [jM.len_sI, jM.len_sL, jM.len_sR, jM.len_fI, jM.len_fL, jM.len_fR]; omega) | (simp [jM.len_nw, jM.len_sI, jM.len_sL, jM.len_sR, jM.len_fI, jM.len_fL, jM.len_fR, *]; omega)) (by first | omega | (exact R.r _ _) | (simp only [jM.len_sI, jM.len_sL, jM.len_sR, jM.len_fI, jM.len_fL, jM.len_fR]; omega) | (simp [jM.len_nw, jM.len_sI, jM.len_sL, jM.len_sR, jM.len_fI, jM.len_fL, jM.len_fR, *]; omega)) ?_
    exact ⟨rfl, 1, by simp, bad (by omega)⟩
  · refine J.iload_n (pc' := 12) rfl rfl rfl ?_
    first | refine J.aload (pc' := 14) rfl rfl rfl ?_ | refine J.aloadN (pc' := 14) rfl rfl rfl ?_
    first | refine J.getR (pc' := 17) rfl fl_X11_286 rfl (by first | assumption | (simp only [jM.tag_sI, jM.tag_sL, jM.tag_sR, jM.tag_fI, jM.tag_fL, jM.tag_fR]; assumption) | (simp [jM.tag_nw, jM.tag_sI, jM.tag_sL, jM.tag_sR, jM.tag_fI, jM.tag_fL, jM.tag_fR, *]; done)) (by first | assumption | (simp only [jM.R_sI, jM.R_sL, jM.R_fI, jM.R_fL]; assumption) | (simp [jM.R_nw, jM.R_sR, jM.R_fR, jM.R_sI, jM.R_sL, jM.R_fI, jM.R_fL, *]; done)) rfl ?_ | refine J.getRN (pc' := 17) rfl fl_X11_286 rfl (by first | assumption | (simp only [jM.tag_sI, jM.tag_sL, jM.tag_sR, jM.tag_fI, jM.tag_fL, jM.tag_fR]; assumption) | (simp [jM.tag_nw, jM.tag_sI, jM.tag_sL, jM.tag_sR, jM.tag_fI, jM.tag_fL, jM.tag_fR, *]; done)) (by first | assumption | (simp only [jM.R_sI, jM.R_sL, jM.R_fI, jM.R_fL]; assumption) | (simp [jM.R_nw, jM.R_sR, jM.R_fR, jM.R_sI, jM.R_sL, jM.R_fI, jM.R_fL, *]; done)) rfl ?_
    refine J.callV (pc' := 20) (t := 3) rfl MJx4a65c_size_8abf5 ml_X11_60 iv_Jx4a65c_size_8abf5 (by decide) ⟨_, rfl, rfl⟩ (by first | assumption | (simp only [jM.tag_sI, jM.tag_sL, jM.tag_sR, jM.tag_fI, jM.tag_fL, jM.tag_fR]; assumption) | (simp [jM.tag_nw, jM.tag_sI, jM.tag_sL, jM.tag_sR, jM.tag_fI, jM.tag_fL, jM.tag_fR, *]; done)) d3.1.size rfl rfl (Nat.le_of_ble_eq_true rfl) (by first | omega | (exact R.r _ _) | (simp only [jM.len_sI, jM.len_sL, jM.len_sR, jM.len_fI, jM.len_fL, jM.len_fR]; omega) | (simp [jM.len_nw, jM.len_sI, jM.len_sL, jM.len_sR, jM.len_fI, jM.len_fL, jM.len_fR, *]; omega)) (by first | omega | (exact R.r _ _) | (simp only [jM.len_sI, jM.len_sL, jM.len_sR, jM.len_fI, jM.len_fL, jM.len_fR]; omega) | (simp [jM.len_nw, jM.len_sI, jM.len_sL, jM.len_sR, jM.len_fI, jM.len_fL, jM.len_fR, *]; omega)) (by first | omega | (exact R.r _ _) | (simp only [jM.len_sI, jM.len_sL, jM.len_sR, jM.len_fI, jM.len_fL, jM.len_fR]; omega) | (simp [jM.len_nw, jM.len_sI, jM.len_sL, jM.len_sR, jM.len_fI, jM.len_fL, jM.len_fR, *]; omega)) rfl rfl ?_ ?_
    · exact fun _ _ z => z.elim
    rintro _ h ⟨rfl, rfl⟩
    refine J.icmp_lt (tgt := 34) (pc' := 23) rfl rfl rfl (by first | omega | (exact R.r _ _) | (simp only [jM.len_sI, jM.len_sL, jM.len_sR, jM.len_fI, jM.len_fL, jM.len_fR]; omega) | (simp [jM.len_nw, jM.len_sI, jM.len_sL, jM.len_sR, jM.len_fI, jM.len_fL, jM.len_fR, *]; omega)) (by first | omega | (exact R.r _ _) | (simp only [jM.len_sI, jM.len_sL, jM.len_sR, jM.len_fI, jM.len_fL, jM.len_fR]; omega) | (simp [jM.len_nw, jM.len_sI, jM.len_sL, jM.len_sR, jM.len_fI, jM.len_fL, jM.len_fR, *]; omega)) (fun c2 => ?_) (fun c2 => ?_)
    · obtain ⟨j, rfl⟩ : ∃ j : Nat, k = (j : Int) := ⟨k.toNat, by omega⟩
      obtain ⟨y, hy⟩ : ∃ y, ys[j]? = some y := ⟨_, List.getElem?_eq_getElem (by omega)⟩
      have hyy := d6 _ y hy
      dsimp only at hyy
      have rf := I.2.2.2.2.2.1 i (j : Int) ci1.1 ci1.2 (by omega) (by omega)
      have h155 := R 155 (20 * i + (j : Int)) rfl
      simp [jLo, jHi] at h155
      have hyy0 := hyy
      obtain ⟨y1, y0, y2, y3, y4, s, y5, y6⟩ := hyy0
      have ts := y6.1.1
      have es : 0 ≤ w ∧ w < 12 → sp_portion V i (j : Int) w = (porV V (20 * i + (j : Int)) w, V) := fun q => by unfold sp_portion; rw [if_pos ci1, if_pos (by omega), if_pos q]
      first | refine J.aload (pc' := 36) rfl rfl rfl ?_ | refine J.aloadN (pc' := 36) rfl rfl rfl ?_
      first | refine J.getR (pc' := 39) rfl fl_X11_286 rfl (by first | assumption | (simp only [jM.tag_sI, jM.tag_sL, jM.tag_sR, jM.tag_fI, jM.tag_fL, jM.tag_fR]; assumption) | (simp [jM.tag_nw, jM.tag_sI, jM.tag_sL, jM.tag_sR, jM.tag_fI, jM.tag_fL, jM.tag_fR, *]; done)) (by first | assumption | (simp only [jM.R_sI, jM.R_sL, jM.R_fI, jM.R_fL]; assumption) | (simp [jM.R_nw, jM.R_sR, jM.R_fR, jM.R_sI, jM.R_sL, jM.R_fI, jM.R_fL, *]; done)) rfl ?_ | refine J.getRN (pc' := 39) rfl fl_X11_286 rfl (by first | assumption | (simp only [jM.tag_sI, jM.tag_sL, jM.tag_sR, jM.tag_fI, jM.tag_fL, jM.tag_fR]; assumption) | (simp [jM.tag_nw, jM.tag_sI, jM.tag_sL, jM.tag_sR, jM.tag_fI, jM.tag_fL, jM.tag_fR, *]; done)) (by first | assumption | (simp only [jM.R_sI, jM.R_sL, jM.R_fI, jM.R_fL]; assumption) | (simp [jM.R_nw, jM.R_sR, jM.R_fR, jM.R_sI, jM.R_sL, jM.R_fI, jM.R_fL, *]; done)) rfl ?_
      refine J.iload_n (pc' := 40) rfl rfl rfl ?_
      refine J.callV (pc' := 43) (t := 3) rfl MJx4a65c_get_915e3 ml_X11_295 iv_Jx4a65c_get_915e3 (by decide) ⟨_, rfl, rfl⟩ (by first | assumption | (simp only [jM.tag_sI, jM.tag_sL, jM.tag_sR, jM.tag_fI, jM.tag_fL, jM.tag_fR]; assumption) | (simp [jM.tag_nw, jM.tag_sI, jM.tag_sL, jM.tag_sR, jM.tag_fI, jM.tag_fL, jM.tag_fR, *]; done)) (d3.1.get hy) rfl rfl (Nat.le_of_ble_eq_true rfl) (by first | omega | (exact R.r _ _) | (simp only [jM.len_sI, jM.len_sL, jM.len_sR, jM.len_fI, jM.len_fL, jM.len_fR]; omega) | (simp [jM.len_nw, jM.len_sI, jM.len_sL, jM.len_sR, jM.len_fI, jM.len_fL, jM.len_fR, *]; omega)) (by first | omega | (exact R.r _ _) | (simp only [jM.len_sI, jM.len_sL, jM.len_sR, jM.len_fI, jM.len_fL, jM.len_fR]; omega) | (simp [jM.len_nw, jM.len_sI, jM.len_sL, jM.len_sR, jM.len_fI, jM.len_fL, jM.len_fR, *]; omega)) (by first | omega | (exact R.r _ _) | (simp only [jM.len_sI, jM.len_sL, jM.len_sR, jM.len_fI, jM.len_fL, jM.len_fR]; omega) | (simp [jM.len_nw, jM.len_sI, jM.len_sL, jM.len_sR, jM.len_fI, jM.len_fL, jM.len_fR, *]; omega)) rfl rfl ?_ ?_
      · exact fun _ _ z => z.elim
      rintro _ h ⟨rfl, rfl⟩
      refine J.cast (pc' := 46) (t := 10) rfl (⟨by decide, by decide, _, RX6, rfl, List.mem_of_getElem? (i := 493) (by decide +kernel), Or.inl rfl⟩) (by first | assumption | (simp only [jM.tag_sI, jM.tag_sL, jM.tag_sR, jM.tag_fI, jM.tag_fL, jM.tag_fR]; assumption) | (simp [jM.tag_nw, jM.tag_sI, jM.tag_sL, jM.tag_sR, jM.tag_fI, jM.tag_fL, jM.tag_fR, *]; done)) rfl ?_
      first | refine J.astore (pc' := 48) rfl rfl (by decide) ?_ | refine J.astoreN (pc' := 48) rfl rfl (by decide) ?_
      refine J.iload_n (pc' := 49) rfl rfl rfl ?_
      by_cases w0 : w = 0
      · subst w0
        refine J.lookup (off := 27) (tgt := 76) rfl hw rfl rfl rfl ?_
        rw [es (by omega)]
        first | refine J.aload (pc' := 78) rfl rfl rfl ?_ | refine J.aloadN (pc' := 78) rfl rfl rfl ?_
        refine J.getI (pc' := 81) rfl fl_X11_246 rfl (by first | assumption | (simp only [jM.tag_sI, jM.tag_sL, jM.tag_sR, jM.tag_fI, jM.tag_fL, jM.tag_fR]; assumption) | (simp [jM.tag_nw, jM.tag_sI, jM.tag_sL, jM.tag_sR, jM.tag_fI, jM.tag_fL, jM.tag_fR, *]; done)) rfl ?_
        rw [y2]
        refine J.iret rfl rfl (by first | omega | (exact R.r _ _) | (simp only [jM.len_sI, jM.len_sL, jM.len_sR, jM.len_fI, jM.len_fL, jM.len_fR]; omega) | (simp [jM.len_nw, jM.len_sI, jM.len_sL, jM.len_sR, jM.len_fI, jM.len_fL, jM.len_fR, *]; omega)) (by first | omega | (exact R.r _ _) | (simp only [jM.len_sI, jM.len_sL, jM.len_sR, jM.len_fI, jM.len_fL, jM.len_fR]; omega) | (simp [jM.len_nw, jM.len_sI, jM.len_sL, jM.len_sR, jM.len_fI, jM.len_fL, jM.len_fR, *]; omega)) ?_
        exact ⟨rfl, h0, ⟨ρ, σ, ks, ss, cs, ls, ms, hR⟩, Fr.rf⟩
      · by_cases w1 : w = 1
        · subst w1
          refine J.lookup (off := 33) (tgt := 82) rfl hw rfl rfl rfl ?_
          rw [es (by omega)]
          first | refine J.aload (pc' := 84) rfl rfl rfl ?_ | refine J.aloadN (pc' := 84) rfl rfl rfl ?_
          refine J.callV (pc' := 87) (t := 10) rfl MX6_loadNumber ml_X11_247 iv_X6_loadNumber (by decide) ⟨_, rfl, rfl⟩ (by first | assumption | (simp only [jM.tag_sI, jM.tag_sL, jM.tag_sR, jM.tag_fI, jM.tag_fL, jM.tag_fR]; assumption) | (simp [jM.tag_nw, jM.tag_sI, jM.tag_sL, jM.tag_sR, jM.tag_fI, jM.tag_fL, jM.tag_fR, *]; done)) (cy_num hyy hR.2.2.2.2.1 (by omega)) rfl rfl (Nat.le_of_ble_eq_true rfl) (by first | omega | (exact R.r _ _) | (simp only [jM.len_sI, jM.len_sL, jM.len_sR, jM.len_fI, jM.len_fL, jM.len_fR]; omega) | (simp [jM.len_nw, jM.len_sI, jM.len_sL, jM.len_sR, jM.len_fI, jM.len_fL, jM.len_fR, *]; omega)) (by first | omega | (exact R.r _ _) | (simp only [jM.len_sI, jM.len_sL, jM.len_sR, jM.len_fI, jM.len_fL, jM.len_fR]; omega) | (simp [jM.len_nw, jM.len_sI, jM.len_sL, jM.len_sR, jM.len_fI, jM.len_fL, jM.len_fR, *]; omega)) (by first | omega | (exact R.r _ _) | (simp only [jM.len_sI, jM.len_sL, jM.len_sR, jM.len_fI, jM.len_fL, jM.len_fR]; omega) | (simp [jM.len_nw, jM.len_sI, jM.len_sL, jM.len_sR, jM.len_fI, jM.len_fL, jM.len_fR, *]; omega)) rfl rfl ?_ ?_
          · exact fun _ _ z => z.elim
          rintro _ h ⟨rfl, rfl⟩
          refine J.iret rfl rfl (by first | omega | (exact R.r _ _) | (simp only [jM.len_sI, jM.len_sL, jM.len_sR, jM.len_fI, jM.len_fL, jM.len_fR]; omega) | (simp [jM.len_nw, jM.len_sI, jM.len_sL, jM.len_sR, jM.len_fI, jM.len_fL, jM.len_fR, *]; omega)) (by first | omega | (exact R.r _ _) | (simp only [jM.len_sI, jM.len_sL, jM.len_sR, jM.len_fI, jM.len_fL, jM.len_fR]; omega) | (simp [jM.len_nw, jM.len_sI, jM.len_sL, jM.len_sR, jM.len_fI, jM.len_fL, jM.len_fR, *]; omega)) ?_
          exact ⟨rfl, h0, ⟨ρ, σ, ks, ss, cs, ls, ms, hR⟩, Fr.rf⟩
        · refine J.lookup (off := 39) (tgt := 88) rfl hw rfl (by show Op.lookupswitch.offset [(0, 27), (1, 33)] 39 w = 39; rw [Op.lookupswitch.offset_cons, if_neg (fun z => w0 z.symm), Op.lookupswitch.offset_cons, if_neg (fun z => w1 z.symm)]; rfl) rfl ?_
          first | refine J.aload (pc' := 90) rfl rfl rfl ?_ | refine J.aloadN (pc' := 90) rfl rfl rfl ?_
          first | refine J.getR (pc' := 93) rfl fl_X11_253 rfl (by first | assumption | (simp only [jM.tag_sI, jM.tag_sL, jM.tag_sR, jM.tag_fI, jM.tag_fL, jM.tag_fR]; assumption) | (simp [jM.tag_nw, jM.tag_sI, jM.tag_sL, jM.tag_sR, jM.tag_fI, jM.tag_fL, jM.tag_fR, *]; done)) (by first | assumption | (simp only [jM.R_sI, jM.R_sL, jM.R_fI, jM.R_fL]; assumption) | (simp [jM.R_nw, jM.R_sR, jM.R_fR, jM.R_sI, jM.R_sL, jM.R_fI, jM.R_fL, *]; done)) rfl ?_ | refine J.getRN (pc' := 93) rfl fl_X11_253 rfl (by first | assumption | (simp only [jM.tag_sI, jM.tag_sL, jM.tag_sR, jM.tag_fI, jM.tag_fL, jM.tag_fR]; assumption) | (simp [jM.tag_nw, jM.tag_sI, jM.tag_sL, jM.tag_sR, jM.tag_fI, jM.tag_fL, jM.tag_fR, *]; done)) (by first | assumption | (simp only [jM.R_sI, jM.R_sL, jM.R_fI, jM.R_fL]; assumption) | (simp [jM.R_nw, jM.R_sR, jM.R_fR, jM.R_sI, jM.R_sL, jM.R_fI, jM.R_fL, *]; done)) rfl ?_
          refine J.iload_n (pc' := 94) rfl rfl rfl ?_
          refine J.iconst (pc' := 95) rfl rfl ?_
          refine J.callV (pc' := 98) (t := 14) rfl MX10_partOrThrow ml_X11_218 iv_X10_partOrThrow (by decide) ⟨_, rfl, rfl⟩ (by first | assumption | (simp only [jM.tag_sI, jM.tag_sL, jM.tag_sR, jM.tag_fI, jM.tag_fL, jM.tag_fR]; assumption) | (simp [jM.tag_nw, jM.tag_sI, jM.tag_sL, jM.tag_sR, jM.tag_fI, jM.tag_fL, jM.tag_fR, *]; done)) (cs_part y6.1 hw (by omega) (by omega)) rfl rfl (Nat.le_of_ble_eq_true rfl) (by first | omega | (exact R.r _ _) | (simp only [jM.len_sI, jM.len_sL, jM.len_sR, jM.len_fI, jM.len_fL, jM.len_fR]; omega) | (simp [jM.len_nw, jM.len_sI, jM.len_sL, jM.len_sR, jM.len_fI, jM.len_fL, jM.len_fR, *]; omega)) (by first | omega | (exact R.r _ _) | (simp only [jM.len_sI, jM.len_sL, jM.len_sR, jM.len_fI, jM.len_fL, jM.len_fR]; omega) | (simp [jM.len_nw, jM.len_sI, jM.len_sL, jM.len_sR, jM.len_fI, jM.len_fL, jM.len_fR, *]; omega)) (by first | omega | (exact R.r _ _) | (simp only [jM.len_sI, jM.len_sL, jM.len_sR, jM.len_fI, jM.len_fL, jM.len_fR]; omega) | (simp [jM.len_nw, jM.len_sI, jM.len_sL, jM.len_sR, jM.len_fI, jM.len_fL, jM.len_fR, *]; omega)) rfl rfl ?_ ?_
          · rintro _ _ ⟨hc, rfl, rfl⟩
            exact ⟨rfl, 2, by simp, by unfold sp_portion; rw [if_pos ci1, if_pos (by omega), if_neg (by omega)]⟩
          rintro _ h ⟨hc, rfl, rfl⟩
          refine J.iret rfl rfl (by first | omega | (exact R.r _ _) | (simp only [jM.len_sI, jM.len_sL, jM.len_sR, jM.len_fI, jM.len_fL, jM.len_fR]; omega) | (simp [jM.len_nw, jM.len_sI, jM.len_sL, jM.len_sR, jM.len_fI, jM.len_fL, jM.len_fR, *]; omega)) (by first | omega | (exact R.r _ _) | (simp only [jM.len_sI, jM.len_sL, jM.len_sR, jM.len_fI, jM.len_fL, jM.len_fR]; omega) | (simp [jM.len_nw, jM.len_sI, jM.len_sL, jM.len_sR, jM.len_fI, jM.len_fL, jM.len_fR, *]; omega)) ?_
          rw [es (by omega)]
          refine ⟨?_, h0, ⟨ρ, σ, ks, ss, cs, ls, ms, hR⟩, Fr.rf⟩
          rw [y6.2.2.2 _ (by omega)]
          unfold pP porV
          rw [if_neg w0, if_neg w1]
          by_cases zz : w % 2 = 0
          · rw [if_pos (show (w - 2).toNat % 2 = 0 by omega), if_pos zz, show (((w - 2).toNat / 2 : Nat) : Int) = (w - 2) / 2 by omega]
          · rw [if_neg (show ¬ (w - 2).toNat % 2 = 0 by omega), if_neg zz, show (((w - 2).toNat / 2 : Nat) : Int) = (w - 2) / 2 by omega]
    · refine J.throwW (text := "no such portion") rfl rfl rfl rfl rfl jThr_NSE (List.mem_of_getElem? (i := 512) (by decide +kernel)) (List.mem_of_getElem? (i := 1377) (by decide +kernel)) rfl (by first | omega | (exact R.r _ _) | (simp only [jM.len_sI, jM.len_sL, jM.len_sR, jM.len_fI, jM.len_fL, jM.len_fR]; omega) | (simp [jM.len_nw, jM.len_sI, jM.len_sL, jM.len_sR, jM.len_fI, jM.len_fL, jM.len_fR, *]; omega)) (Nat.le_of_ble_eq_true rfl) (by first | omega | (exact R.r _ _) | (simp only [jM.len_sI, jM.len_sL, jM.len_sR, jM.len_fI, jM.len_fL, jM.len_fR]; omega) | (simp [jM.len_nw, jM.len_sI, jM.len_sL, jM.len_sR, jM.len_fI, jM.len_fL, jM.len_fR, *]; omega)) (by first | omega | (exact R.r _ _) | (simp only [jM.len_sI, jM.len_sL, jM.len_sR, jM.len_fI, jM.len_fL, jM.len_fR]; omega) | (simp [jM.len_nw, jM.len_sI, jM.len_sL, jM.len_sR, jM.len_fI, jM.len_fL, jM.len_fR, *]; omega)) ?_
      exact ⟨rfl, 1, by simp, bad (by omega)⟩
abbrev opL (γ : jG) (x : Nat) (h : jM) (w : RV) : Option Value → jM → Prop := fun r h' => r = some (.long (jL w.1)) ∧ w.2 16 0 = 0 ∧ RepC γ w.2 h' x ∧ FrC h h' clsS
theorem cf_money {s : Int} (hs : r32 s) (h0 : V 16 0 = 0) (hR : RepB γ V h x ρ σ ks ss cs ls ms) : CT γ mX11_money 7 8 48 [.ref x, .int (jI s)] h (opL γ x h (sp_money V s)) (opX V h (sp_money V s) [(eNSE, 1)]) := by
  have tx := hR.1.1
  refine CT.of MX11_money (Nat.le_of_ble_eq_true rfl) ?_
  show J γ mX11_money 7 8 48 0 0 h 0 [(0, .ref x), (1, .int (jI s))] [] _ _
  first | refine J.aload_n (pc' := 1) rfl rfl rfl ?_ | refine J.aload_nN (pc' := 1) rfl rfl rfl ?_
  refine J.iload_n (pc' := 2) rfl rfl rfl ?_
  refine J.callV (pc' := 5) (t := 15) rfl MX11_sellerOf ml_X11_100 iv_X11_sellerOf (by decide) ⟨_, rfl, rfl⟩ (by first | assumption | (simp only [jM.tag_sI, jM.tag_sL, jM.tag_sR, jM.tag_fI, jM.tag_fL, jM.tag_fR]; assumption) | (simp [jM.tag_nw, jM.tag_sI, jM.tag_sL, jM.tag_sR, jM.tag_fI, jM.tag_fL, jM.tag_fR, *]; done)) (cf_sellerOf hs hR) rfl rfl (Nat.le_of_ble_eq_true rfl) (by first | omega | (exact R.r _ _) | (simp only [jM.len_sI, jM.len_sL, jM.len_sR, jM.len_fI, jM.len_fL, jM.len_fR]; omega) | (simp [jM.len_nw, jM.len_sI, jM.len_sL, jM.len_sR, jM.len_fI, jM.len_fL, jM.len_fR, *]; omega)) (by first | omega | (exact R.r _ _) | (simp only [jM.len_sI, jM.len_sL, jM.len_sR, jM.len_fI, jM.len_fL, jM.len_fR]; omega) | (simp [jM.len_nw, jM.len_sI, jM.len_sL, jM.len_sR, jM.len_fI, jM.len_fL, jM.len_fR, *]; omega)) (by first | omega | (exact R.r _ _) | (simp only [jM.len_sI, jM.len_sL, jM.len_sR, jM.len_fI, jM.len_fL, jM.len_fR]; omega) | (simp [jM.len_nw, jM.len_sI, jM.len_sL, jM.len_sR, jM.len_fI, jM.len_fL, jM.len_fR, *]; omega)) rfl rfl ?_ ?_
  · rintro _ _ ⟨hc, rfl, rfl⟩
    exact ⟨rfl, 1, by simp, by unfold sp_money; rw [if_neg hc]⟩
  rintro _ h ⟨sz, rfl, as, cs1, rfl⟩
  obtain ⟨o, hS⟩ := hR.2.2.1.2.2 s.toNat sz as.2
  have tz := hS.1
  have pd := hS.2.2.2.2.2.2.1
  rw [show ((s.toNat : Nat) : Int) = s by omega] at pd
  refine J.getL (pc' := 8) rfl fl_X11_181 rfl (by first | assumption | (simp only [jM.tag_sI, jM.tag_sL, jM.tag_sR, jM.tag_fI, jM.tag_fL, jM.tag_fR]; assumption) | (simp [jM.tag_nw, jM.tag_sI, jM.tag_sL, jM.tag_sR, jM.tag_fI, jM.tag_fL, jM.tag_fR, *]; done)) rfl ?_
  rw [pd]
  refine J.lret rfl rfl (by first | omega | (exact R.r _ _) | (simp only [jM.len_sI, jM.len_sL, jM.len_sR, jM.len_fI, jM.len_fL, jM.len_fR]; omega) | (simp [jM.len_nw, jM.len_sI, jM.len_sL, jM.len_sR, jM.len_fI, jM.len_fL, jM.len_fR, *]; omega)) (by first | omega | (exact R.r _ _) | (simp only [jM.len_sI, jM.len_sL, jM.len_sR, jM.len_fI, jM.len_fL, jM.len_fR]; omega) | (simp [jM.len_nw, jM.len_sI, jM.len_sL, jM.len_sR, jM.len_fI, jM.len_fL, jM.len_fR, *]; omega)) ?_
  have es : sp_money V s = (V 109 s, V) := by unfold sp_money; rw [if_pos cs1]
  rw [es]
  exact ⟨rfl, h0, ⟨ρ, σ, ks, ss, cs, ls, ms, hR⟩, Fr.rf⟩
end FB

