section SU2
variable {γ : jG} {h : jM} {a e : Nat} {n : Int} {T : Int → Int}
def subR (h : jM) (e : Nat) (m : Int) (T : Int → Int) : Option Value → jM → Prop := fun r h' => ∃ s q, r = some (.ref s) ∧ isSt h' s q m T ∧ Fr h h' (fun _ => False) ∧ Nt h h' [1, 35] ∧ (h.tag q = 0 ∨ q = e ∨ m = 0)
theorem cj_newStr2 {x m : Int} (hS : isSt h a e n T) (hK : ∃ e0, isSt h (γ.K 9) e0 0 (fun _ => 0)) (h0 : 0 ≤ x) (h1 : 0 ≤ m) (h2 : x + m ≤ n) (hc : ¬ (x = 0 ∧ m = n ∧ 0 < m)) : CT γ mJ1_newString_b4f7a 3 2 (m.toNat + 4) [.ref e, .int (jI x), .int (jI m)] h (subR h e m (fun i => T (x + i))) X0 := by
  have hS0 := hS
  obtain ⟨a1, a2, a3, a4, a5, a6, a7⟩ := hS0
  refine CT.of MJ1_newString_b4f7a (Nat.le_of_ble_eq_true rfl) ?_
  show J γ mJ1_newString_b4f7a 3 2 (m.toNat+4) 0 0 h 0 [(0, .ref e), (1, .int (jI x)), (2, .int (jI m))] [] _ _
  refine J.iload_n (pc' := 1) rfl rfl rfl ?_
  refine J.if_ne (tgt := 7) (pc' := 4) rfl rfl rfl (by first | omega | (exact R.r _ _) | (simp only [jM.len_sI, jM.len_sL, jM.len_sR, jM.len_fI, jM.len_fL, jM.len_fR]; omega) | (simp [jM.len_nw, jM.len_sI, jM.len_sL, jM.len_sR, jM.len_fI, jM.len_fL, jM.len_fR, *]; omega)) (fun c1 => ?_) (fun c1 => ?_)
  · refine J.new (pc' := 10) (t := 1) (N := 2) (n := 4) rfl ⟨by decide, by decide, _, rfl, rfl, List.mem_of_getElem? (i := 813) (by decide +kernel), List.mem_of_getElem? (i := 673) (by decide +kernel), List.mem_of_getElem? (i := 72) (by decide +kernel)⟩ (by first | omega | (exact R.r _ _) | (simp only [jM.len_sI, jM.len_sL, jM.len_sR, jM.len_fI, jM.len_fL, jM.len_fR]; omega) | (simp [jM.len_nw, jM.len_sI, jM.len_sL, jM.len_sR, jM.len_fI, jM.len_fL, jM.len_fR, *]; omega)) (by first | omega | (exact R.r _ _) | (simp only [jM.len_sI, jM.len_sL, jM.len_sR, jM.len_fI, jM.len_fL, jM.len_fR]; omega) | (simp [jM.len_nw, jM.len_sI, jM.len_sL, jM.len_sR, jM.len_fI, jM.len_fL, jM.len_fR, *]; omega)) rfl (fun s sf sb => ?_)
    have hne : ¬ e = s := fun e1 => by rw [e1, sf] at a3; cases a3
    have F0 : Fr h (h.nw s 1 2) (fun _ => False) := Fr.stN Fr.rf sf
    have N0 : Nt h (h.nw s 1 2) [1, 35] := Nt.stN Nt.rf (by simp)
    have t1 : (h.nw s 1 2).tag e = 35 := F0.tag a3 (by omega)
    have l1 : (h.nw s 1 2).len e = h.len e := F0.len (by omega)
    have i1 : ∀ k, (h.nw s 1 2).I 35 e k = h.I 35 e k := fun k => F0.I a3 (by omega) (fun z => z) k
    have ts : (h.nw s 1 2).tag s = 1 := by rw [jM.tag_nw, if_pos rfl]
    generalize h.nw s 1 2 = k1 at F0 N0 t1 l1 i1 ts ⊢
    refine J.dup (pc' := 11) rfl rfl rfl ?_
    first | refine J.aload_n (pc' := 12) rfl rfl rfl ?_ | refine J.aload_nN (pc' := 12) rfl rfl rfl ?_
    refine J.iload_n (pc' := 13) rfl rfl rfl ?_
    refine J.iload_n (pc' := 14) rfl rfl rfl ?_
    refine J.iload_n (pc' := 15) rfl rfl rfl ?_
    refine J.iadd (pc' := 16) rfl rfl ?_
    refine J.callS (pc' := 19) rfl MJ7_copyOfRange_39247 ml_J1_232 is_J7_copyOfRange_39247 (cj_copyR (x := x) (y := x + m) t1 (fun i hi => by rw [i1]; exact hS.b i (by omega)) h0 (by omega) (by omega) (by omega) (by omega)) rfl rfl (Nat.le_of_ble_eq_true rfl) (by first | omega | (exact R.r _ _) | (simp only [jM.len_sI, jM.len_sL, jM.len_sR, jM.len_fI, jM.len_fL, jM.len_fR]; omega) | (simp [jM.len_nw, jM.len_sI, jM.len_sL, jM.len_sR, jM.len_fI, jM.len_fL, jM.len_fR, *]; omega)) (by first | omega | (exact R.r _ _) | (simp only [jM.len_sI, jM.len_sL, jM.len_sR, jM.len_fI, jM.len_fL, jM.len_fR]; omega) | (simp [jM.len_nw, jM.len_sI, jM.len_sL, jM.len_sR, jM.len_fI, jM.len_fL, jM.len_fR, *]; omega)) (by first | omega | (exact R.r _ _) | (simp only [jM.len_sI, jM.len_sL, jM.len_sR, jM.len_fI, jM.len_fL, jM.len_fR]; omega) | (simp [jM.len_nw, jM.len_sI, jM.len_sL, jM.len_sR, jM.len_fI, jM.len_fL, jM.len_fR, *]; omega)) rfl rfl ?_ ?_
    · exact fun _ _ h => h
    rintro _ _ ⟨q, qf, qb, rfl, rfl⟩
    have hsq : ¬ s = q := fun e1 => by rw [e1, qf] at ts; cases ts
    have F1 : Fr h (cpyB k1 q e x (x + m)) (fun _ => False) := F0.trans (cpyB_Fr (W := fun _ => False) qf) (fun b _ z => z.elim id id)
    have N1 : Nt h (cpyB k1 q e x (x + m)) [1, 35] := fun b hb => by
      rw [cpyB_t]
      by_cases z : b = q
      · rw [if_pos z]; exact Or.inr (by simp)
      · rw [if_neg z]; exact N0 b hb
    have ts2 : (cpyB k1 q e x (x + m)).tag s = 1 := by rw [cpyB_t, if_neg hsq]; exact ts
    have tq2 : (cpyB k1 q e x (x + m)).tag q = 35 := by rw [cpyB_t, if_pos rfl]
    have lq2 : (cpyB k1 q e x (x + m)).len q = m.toNat := by rw [cpyB_l, if_pos rfl]; congr 1; omega
    have iq2 : ∀ j : Nat, (j : Int) < m → (cpyB k1 q e x (x + m)).I 35 q j = h.I 35 e (x.toNat + j) := fun j hj => by rw [cpyB_q (by omega), i1]
    generalize cpyB k1 q e x (x + m) = k2 at F1 N1 ts2 tq2 lq2 iq2 ⊢
    refine J.iconst (pc' := 20) rfl rfl ?_
    refine J.callI (pc' := 23) rfl MJ0_init_031fb ml_J1_112 iv_J0_init_031fb ⟨rfl, rfl⟩ (cj_strI ts2 sb) rfl rfl (Nat.le_of_ble_eq_true rfl) (by first | omega | (exact R.r _ _) | (simp only [jM.len_sI, jM.len_sL, jM.len_sR, jM.len_fI, jM.len_fL, jM.len_fR]; omega) | (simp [jM.len_nw, jM.len_sI, jM.len_sL, jM.len_sR, jM.len_fI, jM.len_fL, jM.len_fR, *]; omega)) (by first | omega | (exact R.r _ _) | (simp only [jM.len_sI, jM.len_sL, jM.len_sR, jM.len_fI, jM.len_fL, jM.len_fR]; omega) | (simp [jM.len_nw, jM.len_sI, jM.len_sL, jM.len_sR, jM.len_fI, jM.len_fL, jM.len_fR, *]; omega)) (by first | omega | (exact R.r _ _) | (simp only [jM.len_sI, jM.len_sL, jM.len_sR, jM.len_fI, jM.len_fL, jM.len_fR]; omega) | (simp [jM.len_nw, jM.len_sI, jM.len_sL, jM.len_sR, jM.len_fI, jM.len_fL, jM.len_fR, *]; omega)) rfl ?_
    rintro _ _ ⟨rfl, rfl⟩
    first | refine J.aret rfl rfl rfl (by first | omega | (exact R.r _ _) | (simp only [jM.len_sI, jM.len_sL, jM.len_sR, jM.len_fI, jM.len_fL, jM.len_fR]; omega) | (simp [jM.len_nw, jM.len_sI, jM.len_sL, jM.len_sR, jM.len_fI, jM.len_fL, jM.len_fR, *]; omega)) (by first | omega | (exact R.r _ _) | (simp only [jM.len_sI, jM.len_sL, jM.len_sR, jM.len_fI, jM.len_fL, jM.len_fR]; omega) | (simp [jM.len_nw, jM.len_sI, jM.len_sL, jM.len_sR, jM.len_fI, jM.len_fL, jM.len_fR, *]; omega)) ?_ | refine J.aretN rfl rfl rfl (by first | omega | (exact R.r _ _) | (simp only [jM.len_sI, jM.len_sL, jM.len_sR, jM.len_fI, jM.len_fL, jM.len_fR]; omega) | (simp [jM.len_nw, jM.len_sI, jM.len_sL, jM.len_sR, jM.len_fI, jM.len_fL, jM.len_fR, *]; omega)) (by first | omega | (exact R.r _ _) | (simp only [jM.len_sI, jM.len_sL, jM.len_sR, jM.len_fI, jM.len_fL, jM.len_fR]; omega) | (simp [jM.len_nw, jM.len_sI, jM.len_sL, jM.len_sR, jM.len_fI, jM.len_fL, jM.len_fR, *]; omega)) ?_
    refine ⟨s, q, rfl, ⟨ts2, ?_, tq2, ?_, ?_, by omega, fun i hi => ?_⟩, ?_, N1.st rfl, Or.inl (F0.free qf)⟩
    · rw [jM.R_sI, jM.R_sR, if_pos ⟨rfl, rfl, rfl⟩]
    · rw [jM.I_sI, if_pos ⟨rfl, rfl, rfl⟩]
    · show (k2.len q : Int) = m
      rw [lq2]
      omega
    · rw [jM.I_sI, if_neg (by omega)]
      show k2.I 35 q i = _ ∧ _
      rw [iq2 i hi]
      have := a7 (x.toNat + i) (by omega)
      rw [show ((x.toNat + i : Nat) : Int) = x + i by omega] at this
      exact this
    · refine Fr.stI (Fr.stR F1 ?_) ?_ <;> exact Or.inr sf
  · obtain ⟨e0, k0⟩ := hK
    refine J.ldcS (pc' := 6) (i := 9) rfl jNs_c (show (9, Term.string "java/lang/StringLatin1" 151) ∈ jKs by simp [jKs]) rfl ?_
    first | refine J.aret rfl rfl rfl (by first | omega | (exact R.r _ _) | (simp only [jM.len_sI, jM.len_sL, jM.len_sR, jM.len_fI, jM.len_fL, jM.len_fR]; omega) | (simp [jM.len_nw, jM.len_sI, jM.len_sL, jM.len_sR, jM.len_fI, jM.len_fL, jM.len_fR, *]; omega)) (by first | omega | (exact R.r _ _) | (simp only [jM.len_sI, jM.len_sL, jM.len_sR, jM.len_fI, jM.len_fL, jM.len_fR]; omega) | (simp [jM.len_nw, jM.len_sI, jM.len_sL, jM.len_sR, jM.len_fI, jM.len_fL, jM.len_fR, *]; omega)) ?_ | refine J.aretN rfl rfl rfl (by first | omega | (exact R.r _ _) | (simp only [jM.len_sI, jM.len_sL, jM.len_sR, jM.len_fI, jM.len_fL, jM.len_fR]; omega) | (simp [jM.len_nw, jM.len_sI, jM.len_sL, jM.len_sR, jM.len_fI, jM.len_fL, jM.len_fR, *]; omega)) (by first | omega | (exact R.r _ _) | (simp only [jM.len_sI, jM.len_sL, jM.len_sR, jM.len_fI, jM.len_fL, jM.len_fR]; omega) | (simp [jM.len_nw, jM.len_sI, jM.len_sL, jM.len_sR, jM.len_fI, jM.len_fL, jM.len_fR, *]; omega)) ?_
    have em : m = 0 := by omega
    subst em
    refine ⟨_, e0, rfl, ?_, Fr.rf, Nt.rf, Or.inr (Or.inr rfl)⟩
    obtain ⟨b1, b2, b3, b4, b5, b6, b7⟩ := k0
    exact ⟨b1, b2, b3, b4, b5, by omega, fun i hi => by omega⟩
theorem cj_substr2 {x y : Int} (hS : isSt h a e n T) (hK : ∃ e0, isSt h (γ.K 9) e0 0 (fun _ => 0)) (h0 : 0 ≤ x) (h1 : x ≤ y) (h2 : y ≤ n) : CT γ mJ0_substring_37a41 4 2 ((y - x).toNat + 4) [.ref a, .int (jI x), .int (jI y)] h (subR h e (y - x) (fun i => T (x + i))) X0 := by
  have hS0 := hS
  obtain ⟨a1, a2, a3, a4, a5, a6, a7⟩ := hS0
  refine CT.of MJ0_substring_37a41 (Nat.le_of_ble_eq_true rfl) ?_
  show J γ mJ0_substring_37a41 4 2 ((y-x).toNat+4) 0 0 h 0 [(0, .ref a), (1, .int (jI x)), (2, .int (jI y))] [] _ _
  first | refine J.aload_n (pc' := 1) rfl rfl rfl ?_ | refine J.aload_nN (pc' := 1) rfl rfl rfl ?_
  refine J.callV (pc' := 4) (t := 1) rfl MJ0_length_8abf5 ml_J0_505 iv_J0_length_8abf5 (by decide) ⟨_, rfl, rfl⟩ (by first | assumption | (simp only [jM.tag_sI, jM.tag_sL, jM.tag_sR, jM.tag_fI, jM.tag_fL, jM.tag_fR]; assumption) | (simp [jM.tag_nw, jM.tag_sI, jM.tag_sL, jM.tag_sR, jM.tag_fI, jM.tag_fL, jM.tag_fR, *]; done)) (cj_strLen hS) rfl rfl (Nat.le_of_ble_eq_true rfl) (by first | omega | (exact R.r _ _) | (simp only [jM.len_sI, jM.len_sL, jM.len_sR, jM.len_fI, jM.len_fL, jM.len_fR]; omega) | (simp [jM.len_nw, jM.len_sI, jM.len_sL, jM.len_sR, jM.len_fI, jM.len_fL, jM.len_fR, *]; omega)) (by first | omega | (exact R.r _ _) | (simp only [jM.len_sI, jM.len_sL, jM.len_sR, jM.len_fI, jM.len_fL, jM.len_fR]; omega) | (simp [jM.len_nw, jM.len_sI, jM.len_sL, jM.len_sR, jM.len_fI, jM.len_fL, jM.len_fR, *]; omega)) (by first | omega | (exact R.r _ _) | (simp only [jM.len_sI, jM.len_sL, jM.len_sR, jM.len_fI, jM.len_fL, jM.len_fR]; omega) | (simp [jM.len_nw, jM.len_sI, jM.len_sL, jM.len_sR, jM.len_fI, jM.len_fL, jM.len_fR, *]; omega)) rfl rfl ?_ ?_
  · exact fun _ _ h => h
  rintro _ h ⟨rfl, rfl⟩
  refine J.istore_n (pc' := 5) rfl rfl (by decide) ?_
  refine J.iload_n (pc' := 6) rfl rfl rfl ?_
  refine J.iload_n (pc' := 7) rfl rfl rfl ?_
  refine J.iload_n (pc' := 8) rfl rfl rfl ?_
  refine J.callS (pc' := 11) rfl MJ0_checkBoundsBeginEnd_23922 ml_J0_521 is_J0_checkBoundsBeginEnd_23922 (cj_chkBE h0 h1 h2 (by constructor <;> omega)) rfl rfl (Nat.le_of_ble_eq_true rfl) (by first | omega | (exact R.r _ _) | (simp only [jM.len_sI, jM.len_sL, jM.len_sR, jM.len_fI, jM.len_fL, jM.len_fR]; omega) | (simp [jM.len_nw, jM.len_sI, jM.len_sL, jM.len_sR, jM.len_fI, jM.len_fL, jM.len_fR, *]; omega)) (by first | omega | (exact R.r _ _) | (simp only [jM.len_sI, jM.len_sL, jM.len_sR, jM.len_fI, jM.len_fL, jM.len_fR]; omega) | (simp [jM.len_nw, jM.len_sI, jM.len_sL, jM.len_sR, jM.len_fI, jM.len_fL, jM.len_fR, *]; omega)) (by first | omega | (exact R.r _ _) | (simp only [jM.len_sI, jM.len_sL, jM.len_sR, jM.len_fI, jM.len_fL, jM.len_fR]; omega) | (simp [jM.len_nw, jM.len_sI, jM.len_sL, jM.len_sR, jM.len_fI, jM.len_fL, jM.len_fR, *]; omega)) rfl rfl ?_ ?_
  · exact fun _ _ h => h
  rintro _ h ⟨rfl, rfl⟩
  have rest : ¬ (x = 0 ∧ y = n) → ∀ lv, hasL lv [(0, .ref a), (1, .int (jI x)), (2, .int (jI y)), (3, .int (jI n))] → J γ mJ0_substring_37a41 4 2 ((y - x).toNat + 4) 0 0 h 22 lv [] (subR h e (y - x) (fun i => T (x + i))) X0 := by
    intro hc lv hlv
    refine J.lc hlv ?_
    refine J.iload_n (pc' := 23) rfl rfl rfl ?_
    refine J.iload_n (pc' := 24) rfl rfl rfl ?_
    refine J.isub (pc' := 25) rfl rfl ?_
    refine J.istore (pc' := 27) rfl rfl (by decide) ?_
    first | refine J.aload_n (pc' := 28) rfl rfl rfl ?_ | refine J.aload_nN (pc' := 28) rfl rfl rfl ?_
    refine J.callV (pc' := 31) (t := 1) rfl MJ0_isLatin1_aae02 ml_J0_492 iv_J0_isLatin1_aae02 (by decide) ⟨_, rfl, rfl⟩ (by first | assumption | (simp only [jM.tag_sI, jM.tag_sL, jM.tag_sR, jM.tag_fI, jM.tag_fL, jM.tag_fR]; assumption) | (simp [jM.tag_nw, jM.tag_sI, jM.tag_sL, jM.tag_sR, jM.tag_fI, jM.tag_fL, jM.tag_fR, *]; done)) (cj_isLatin1 hS) rfl rfl (Nat.le_of_ble_eq_true rfl) (by first | omega | (exact R.r _ _) | (simp only [jM.len_sI, jM.len_sL, jM.len_sR, jM.len_fI, jM.len_fL, jM.len_fR]; omega) | (simp [jM.len_nw, jM.len_sI, jM.len_sL, jM.len_sR, jM.len_fI, jM.len_fL, jM.len_fR, *]; omega)) (by first | omega | (exact R.r _ _) | (simp only [jM.len_sI, jM.len_sL, jM.len_sR, jM.len_fI, jM.len_fL, jM.len_fR]; omega) | (simp [jM.len_nw, jM.len_sI, jM.len_sL, jM.len_sR, jM.len_fI, jM.len_fL, jM.len_fR, *]; omega)) (by first | omega | (exact R.r _ _) | (simp only [jM.len_sI, jM.len_sL, jM.len_sR, jM.len_fI, jM.len_fL, jM.len_fR]; omega) | (simp [jM.len_nw, jM.len_sI, jM.len_sL, jM.len_sR, jM.len_fI, jM.len_fL, jM.len_fR, *]; omega)) rfl rfl ?_ ?_
    · exact fun _ _ h => h
    rintro _ h ⟨rfl, rfl⟩
    refine J.if_eq (tgt := 47) (pc' := 34) rfl rfl rfl (by first | omega | (exact R.r _ _) | (simp only [jM.len_sI, jM.len_sL, jM.len_sR, jM.len_fI, jM.len_fL, jM.len_fR]; omega) | (simp [jM.len_nw, jM.len_sI, jM.len_sL, jM.len_sR, jM.len_fI, jM.len_fL, jM.len_fR, *]; omega)) (fun c3 => ?_) (fun c3 => ?_)
    · omega
    · first | refine J.aload_n (pc' := 35) rfl rfl rfl ?_ | refine J.aload_nN (pc' := 35) rfl rfl rfl ?_
      first | refine J.getR (pc' := 38) rfl fl_J0_9 rfl (by first | assumption | (simp only [jM.tag_sI, jM.tag_sL, jM.tag_sR, jM.tag_fI, jM.tag_fL, jM.tag_fR]; assumption) | (simp [jM.tag_nw, jM.tag_sI, jM.tag_sL, jM.tag_sR, jM.tag_fI, jM.tag_fL, jM.tag_fR, *]; done)) (by first | assumption | (simp only [jM.R_sI, jM.R_sL, jM.R_fI, jM.R_fL]; assumption) | (simp [jM.R_nw, jM.R_sR, jM.R_fR, jM.R_sI, jM.R_sL, jM.R_fI, jM.R_fL, *]; done)) rfl ?_ | refine J.getRN (pc' := 38) rfl fl_J0_9 rfl (by first | assumption | (simp only [jM.tag_sI, jM.tag_sL, jM.tag_sR, jM.tag_fI, jM.tag_fL, jM.tag_fR]; assumption) | (simp [jM.tag_nw, jM.tag_sI, jM.tag_sL, jM.tag_sR, jM.tag_fI, jM.tag_fL, jM.tag_fR, *]; done)) (by first | assumption | (simp only [jM.R_sI, jM.R_sL, jM.R_fI, jM.R_fL]; assumption) | (simp [jM.R_nw, jM.R_sR, jM.R_fR, jM.R_sI, jM.R_sL, jM.R_fI, jM.R_fL, *]; done)) rfl ?_
      refine J.iload_n (pc' := 39) rfl rfl rfl ?_
      refine J.iload (pc' := 41) rfl rfl rfl ?_
      refine J.callS (pc' := 44) rfl MJ1_newString_b4f7a ml_J0_685 is_J1_newString_b4f7a (cj_newStr2 (x := x) (m := y - x) hS hK h0 (by omega) (by omega) (by omega)) rfl rfl (Nat.le_of_ble_eq_true rfl) (by first | omega | (exact R.r _ _) | (simp only [jM.len_sI, jM.len_sL, jM.len_sR, jM.len_fI, jM.len_fL, jM.len_fR]; omega) | (simp [jM.len_nw, jM.len_sI, jM.len_sL, jM.len_sR, jM.len_fI, jM.len_fL, jM.len_fR, *]; omega)) (by first | omega | (exact R.r _ _) | (simp only [jM.len_sI, jM.len_sL, jM.len_sR, jM.len_fI, jM.len_fL, jM.len_fR]; omega) | (simp [jM.len_nw, jM.len_sI, jM.len_sL, jM.len_sR, jM.len_fI, jM.len_fL, jM.len_fR, *]; omega)) (by first | omega | (exact R.r _ _) | (simp only [jM.len_sI, jM.len_sL, jM.len_sR, jM.len_fI, jM.len_fL, jM.len_fR]; omega) | (simp [jM.len_nw, jM.len_sI, jM.len_sL, jM.len_sR, jM.len_fI, jM.len_fL, jM.len_fR, *]; omega)) rfl rfl ?_ ?_
      · exact fun _ _ h => h
      rintro _ _ ⟨s, q, rfl, g1, g2, g3, g4⟩
      refine J.goto (tgt := 57) rfl rfl ?_
      first | refine J.aret rfl rfl rfl (by first | omega | (exact R.r _ _) | (simp only [jM.len_sI, jM.len_sL, jM.len_sR, jM.len_fI, jM.len_fL, jM.len_fR]; omega) | (simp [jM.len_nw, jM.len_sI, jM.len_sL, jM.len_sR, jM.len_fI, jM.len_fL, jM.len_fR, *]; omega)) (by first | omega | (exact R.r _ _) | (simp only [jM.len_sI, jM.len_sL, jM.len_sR, jM.len_fI, jM.len_fL, jM.len_fR]; omega) | (simp [jM.len_nw, jM.len_sI, jM.len_sL, jM.len_sR, jM.len_fI, jM.len_fL, jM.len_fR, *]; omega)) ?_ | refine J.aretN rfl rfl rfl (by first | omega | (exact R.r _ _) | (simp only [jM.len_sI, jM.len_sL, jM.len_sR, jM.len_fI, jM.len_fL, jM.len_fR]; omega) | (simp [jM.len_nw, jM.len_sI, jM.len_sL, jM.len_sR, jM.len_fI, jM.len_fL, jM.len_fR, *]; omega)) (by first | omega | (exact R.r _ _) | (simp only [jM.len_sI, jM.len_sL, jM.len_sR, jM.len_fI, jM.len_fL, jM.len_fR]; omega) | (simp [jM.len_nw, jM.len_sI, jM.len_sL, jM.len_sR, jM.len_fI, jM.len_fL, jM.len_fR, *]; omega)) ?_
      exact ⟨s, q, rfl, g1, g2, g3, g4⟩
  refine J.iload_n (pc' := 12) rfl rfl rfl ?_
  refine J.if_ne (tgt := 22) (pc' := 15) rfl rfl rfl (by first | omega | (exact R.r _ _) | (simp only [jM.len_sI, jM.len_sL, jM.len_sR, jM.len_fI, jM.len_fL, jM.len_fR]; omega) | (simp [jM.len_nw, jM.len_sI, jM.len_sL, jM.len_sR, jM.len_fI, jM.len_fL, jM.len_fR, *]; omega)) (fun c1 => ?_) (fun c1 => ?_)
  · exact rest (by omega) _ ⟨rfl, rfl, rfl, rfl, trivial⟩
  · refine J.iload_n (pc' := 16) rfl rfl rfl ?_
    refine J.iload_n (pc' := 17) rfl rfl rfl ?_
    refine J.icmp_ne (tgt := 22) (pc' := 20) rfl rfl rfl (by first | omega | (exact R.r _ _) | (simp only [jM.len_sI, jM.len_sL, jM.len_sR, jM.len_fI, jM.len_fL, jM.len_fR]; omega) | (simp [jM.len_nw, jM.len_sI, jM.len_sL, jM.len_sR, jM.len_fI, jM.len_fL, jM.len_fR, *]; omega)) (by first | omega | (exact R.r _ _) | (simp only [jM.len_sI, jM.len_sL, jM.len_sR, jM.len_fI, jM.len_fL, jM.len_fR]; omega) | (simp [jM.len_nw, jM.len_sI, jM.len_sL, jM.len_sR, jM.len_fI, jM.len_fL, jM.len_fR, *]; omega)) (fun c2 => ?_) (fun c2 => ?_)
    · exact rest (by omega) _ ⟨rfl, rfl, rfl, rfl, trivial⟩
    · first | refine J.aload_n (pc' := 21) rfl rfl rfl ?_ | refine J.aload_nN (pc' := 21) rfl rfl rfl ?_
      first | refine J.aret rfl rfl rfl (by first | omega | (exact R.r _ _) | (simp only [jM.len_sI, jM.len_sL, jM.len_sR, jM.len_fI, jM.len_fL, jM.len_fR]; omega) | (simp [jM.len_nw, jM.len_sI, jM.len_sL, jM.len_sR, jM.len_fI, jM.len_fL, jM.len_fR, *]; omega)) (by first | omega | (exact R.r _ _) | (simp only [jM.len_sI, jM.len_sL, jM.len_sR, jM.len_fI, jM.len_fL, jM.len_fR]; omega) | (simp [jM.len_nw, jM.len_sI, jM.len_sL, jM.len_sR, jM.len_fI, jM.len_fL, jM.len_fR, *]; omega)) ?_ | refine J.aretN rfl rfl rfl (by first | omega | (exact R.r _ _) | (simp only [jM.len_sI, jM.len_sL, jM.len_sR, jM.len_fI, jM.len_fL, jM.len_fR]; omega) | (simp [jM.len_nw, jM.len_sI, jM.len_sL, jM.len_sR, jM.len_fI, jM.len_fL, jM.len_fR, *]; omega)) (by first | omega | (exact R.r _ _) | (simp only [jM.len_sI, jM.len_sL, jM.len_sR, jM.len_fI, jM.len_fL, jM.len_fR]; omega) | (simp [jM.len_nw, jM.len_sI, jM.len_sL, jM.len_sR, jM.len_fI, jM.len_fL, jM.len_fR, *]; omega)) ?_
      refine ⟨a, e, rfl, ?_, Fr.rf, Nt.rf, Or.inr (Or.inl rfl)⟩
      have ex : x = 0 := by omega
      have ey : y = n := by omega
      subst ex
      subst ey
      rw [show y - 0 = y by omega]
      simp only [Int.zero_add]
      exact hS
end SU2

