section AE
variable {γ : jG} {h : jM} {a e x : Nat} {xs : List Nat}
theorem isL.s0 {v : Int} (hL : isL γ h a e xs) : isL γ (h.sI 3 a 0 v) a e xs := by
  obtain ⟨h1, h2, h3, h4, h5, h6, h7, h8, h9⟩ := hL
  refine ⟨h1, h2, h3, ?_, h5, h6, h7, h8, fun hn => ?_⟩
  · rw [jM.I_sI, if_neg (by omega)]
    exact h4
  · rw [jM.I_sI, if_neg (by omega)]
    exact h9 hn
theorem frA.s0 {h' : jM} {v : Int} (F : frA (h.sI 3 a 0 v) h' a e) : frA h h' a e := by
  obtain ⟨f1, f2, f3, f4, f5⟩ := F
  refine ⟨f1, f2, fun t b k q1 q2 => ?_, f4, f5⟩
  rw [f3 t b k q1 q2, jM.I_sI, if_neg (fun q => q1 ⟨q.1, q.2.1⟩)]
theorem ct_add (hL : isL γ h a e xs) (hel : ∀ y ∈ xs, jOb (h.tag y) = true) (hn : xs.length < 100) (hx : jOb (h.tag x) = true) (hK : γ.K 0 < γ.base) : CT γ mJx4a65c_add_9ea2d 6 1 150 [.ref a, .ref x] h (fun r h' => r = some (.int (jI 1)) ∧ ∃ e', isL γ h' a e' (xs ++ [x]) ∧ (e' = e ∨ (h.tag e' = 0 ∧ γ.base ≤ e')) ∧ frA h h' a e) X0 := by
  have hL0 := hL
  obtain ⟨h1, h2, h3, h4, h5, h6, h7, h8, h9⟩ := hL0
  refine CT.of MJx4a65c_add_9ea2d (Nat.le_of_ble_eq_true rfl) ?_
  show J γ mJx4a65c_add_9ea2d 6 1 150 0 0 h 0 [(0, .ref a), (1, .ref x)] [] _ _
  first | refine J.aload_n (pc' := 1) rfl rfl rfl ?_ | refine J.aload_nN (pc' := 1) rfl rfl rfl ?_
  refine J.dup (pc' := 2) rfl rfl rfl ?_
  refine J.getI (pc' := 5) rfl fl_Jx4a65c_63 rfl (by first | assumption | (simp only [jM.tag_sI, jM.tag_sL, jM.tag_sR, jM.tag_fI, jM.tag_fL, jM.tag_fR]; assumption) | (simp [jM.tag_nw, jM.tag_sI, jM.tag_sL, jM.tag_sR, jM.tag_fI, jM.tag_fL, jM.tag_fR, *]; done)) rfl ?_
  refine J.iconst (pc' := 6) rfl rfl ?_
  refine J.iadd (pc' := 7) rfl rfl ?_
  refine J.putI (pc' := 10) rfl fl_Jx4a65c_63 rfl (Or.inl rfl) (by first | assumption | (simp only [jM.tag_sI, jM.tag_sL, jM.tag_sR, jM.tag_fI, jM.tag_fL, jM.tag_fR]; assumption) | (simp [jM.tag_nw, jM.tag_sI, jM.tag_sL, jM.tag_sR, jM.tag_fI, jM.tag_fL, jM.tag_fR, *]; done)) (Or.inl rfl) rfl ?_
  first | refine J.aload_n (pc' := 11) rfl rfl rfl ?_ | refine J.aload_nN (pc' := 11) rfl rfl rfl ?_
  first | refine J.aload_n (pc' := 12) rfl rfl rfl ?_ | refine J.aload_nN (pc' := 12) rfl rfl rfl ?_
  first | refine J.aload_n (pc' := 13) rfl rfl rfl ?_ | refine J.aload_nN (pc' := 13) rfl rfl rfl ?_
  first | refine J.getR (pc' := 16) rfl fl_Jx4a65c_9 rfl (by first | assumption | (simp only [jM.tag_sI, jM.tag_sL, jM.tag_sR, jM.tag_fI, jM.tag_fL, jM.tag_fR]; assumption) | (simp [jM.tag_nw, jM.tag_sI, jM.tag_sL, jM.tag_sR, jM.tag_fI, jM.tag_fL, jM.tag_fR, *]; done)) (by first | assumption | (simp only [jM.R_sI, jM.R_sL, jM.R_fI, jM.R_fL]; assumption) | (simp [jM.R_nw, jM.R_sR, jM.R_fR, jM.R_sI, jM.R_sL, jM.R_fI, jM.R_fL, *]; done)) rfl ?_ | refine J.getRN (pc' := 16) rfl fl_Jx4a65c_9 rfl (by first | assumption | (simp only [jM.tag_sI, jM.tag_sL, jM.tag_sR, jM.tag_fI, jM.tag_fL, jM.tag_fR]; assumption) | (simp [jM.tag_nw, jM.tag_sI, jM.tag_sL, jM.tag_sR, jM.tag_fI, jM.tag_fL, jM.tag_fR, *]; done)) (by first | assumption | (simp only [jM.R_sI, jM.R_sL, jM.R_fI, jM.R_fL]; assumption) | (simp [jM.R_nw, jM.R_sR, jM.R_fR, jM.R_sI, jM.R_sL, jM.R_fI, jM.R_fL, *]; done)) rfl ?_
  first | refine J.aload_n (pc' := 17) rfl rfl rfl ?_ | refine J.aload_nN (pc' := 17) rfl rfl rfl ?_
  refine J.getI (pc' := 20) rfl fl_Jx4a65c_48 rfl (by first | assumption | (simp only [jM.tag_sI, jM.tag_sL, jM.tag_sR, jM.tag_fI, jM.tag_fL, jM.tag_fR]; assumption) | (simp [jM.tag_nw, jM.tag_sI, jM.tag_sL, jM.tag_sR, jM.tag_fI, jM.tag_fL, jM.tag_fR, *]; done)) rfl ?_
  rw [show (h.sI 3 a 0 (h.I 3 a 0 + 1)).I 3 a 2 = (xs.length : Int) from (hL.s0 (v := h.I 3 a 0 + 1)).2.2.2.1]
  refine J.callV (pc' := 23) (t := 3) rfl MJx4a65c_add_72be8 ml_Jx4a65c_131 iv_Jx4a65c_add_72be8 (by decide) ⟨_, rfl, rfl⟩ (by first | assumption | (simp only [jM.tag_sI, jM.tag_sL, jM.tag_sR, jM.tag_fI, jM.tag_fL, jM.tag_fR]; assumption) | (simp [jM.tag_nw, jM.tag_sI, jM.tag_sL, jM.tag_sR, jM.tag_fI, jM.tag_fL, jM.tag_fR, *]; done)) (ct_add3 (hL.s0 (v := h.I 3 a 0 + 1)) hel hn hx hK) rfl rfl (Nat.le_of_ble_eq_true rfl) (by first | omega | (simp only [jM.len_sI, jM.len_sL, jM.len_sR, jM.len_fI, jM.len_fL, jM.len_fR]; omega) | (simp [jM.len_nw, jM.len_sI, jM.len_sL, jM.len_sR, jM.len_fI, jM.len_fL, jM.len_fR, *]; omega)) (by first | omega | (simp only [jM.len_sI, jM.len_sL, jM.len_sR, jM.len_fI, jM.len_fL, jM.len_fR]; omega) | (simp [jM.len_nw, jM.len_sI, jM.len_sL, jM.len_sR, jM.len_fI, jM.len_fL, jM.len_fR, *]; omega)) (by first | omega | (simp only [jM.len_sI, jM.len_sL, jM.len_sR, jM.len_fI, jM.len_fL, jM.len_fR]; omega) | (simp [jM.len_nw, jM.len_sI, jM.len_sL, jM.len_sR, jM.len_fI, jM.len_fL, jM.len_fR, *]; omega)) rfl rfl ?_ ?_
  · exact fun _ _ h => h
  rintro _ h' ⟨rfl, e', g1, g2, g3, -⟩
  refine J.iconst (pc' := 24) rfl rfl ?_
  refine J.zret rfl rfl (by rfl) (by first | omega | (simp only [jM.len_sI, jM.len_sL, jM.len_sR, jM.len_fI, jM.len_fL, jM.len_fR]; omega) | (simp [jM.len_nw, jM.len_sI, jM.len_sL, jM.len_sR, jM.len_fI, jM.len_fL, jM.len_fR, *]; omega)) (by first | omega | (simp only [jM.len_sI, jM.len_sL, jM.len_sR, jM.len_fI, jM.len_fL, jM.len_fR]; omega) | (simp [jM.len_nw, jM.len_sI, jM.len_sL, jM.len_sR, jM.len_fI, jM.len_fL, jM.len_fR, *]; omega)) ?_
  exact ⟨rfl, e', g1, g2, g3.s0⟩
theorem ct_coll_init : CT γ mJxa1e45_init_da8c8 1 0 0 [.ref a] h (fun r h' => r = none ∧ h' = h) X0 := by
  refine CT.of MJxa1e45_init_da8c8 (Nat.le_of_ble_eq_true rfl) ?_
  show J γ mJxa1e45_init_da8c8 1 0 0 0 0 h 0 [(0, .ref a)] [] _ _
  first | refine J.aload_n (pc' := 1) rfl rfl rfl ?_ | refine J.aload_nN (pc' := 1) rfl rfl rfl ?_
  refine J.objI (pc' := 4) rfl (List.mem_of_getElem? (i := 117) (by decide +kernel)) jObj_i jObj_c (by omega) (Nat.le_of_ble_eq_true rfl) rfl ?_
  refine J.vret rfl rfl (by first | omega | (simp only [jM.len_sI, jM.len_sL, jM.len_sR, jM.len_fI, jM.len_fL, jM.len_fR]; omega) | (simp [jM.len_nw, jM.len_sI, jM.len_sL, jM.len_sR, jM.len_fI, jM.len_fL, jM.len_fR, *]; omega)) (by first | omega | (simp only [jM.len_sI, jM.len_sL, jM.len_sR, jM.len_fI, jM.len_fL, jM.len_fR]; omega) | (simp [jM.len_nw, jM.len_sI, jM.len_sL, jM.len_sR, jM.len_fI, jM.len_fL, jM.len_fR, *]; omega)) ?_
  exact ⟨rfl, rfl⟩
theorem ct_alist_init (ha : h.tag a = 3) : CT γ mJxc12de_init_da8c8 2 0 0 [.ref a] h (fun r h' => r = none ∧ h' = h.sI 3 a 0 0) X0 := by
  refine CT.of MJxc12de_init_da8c8 (Nat.le_of_ble_eq_true rfl) ?_
  show J γ mJxc12de_init_da8c8 2 0 0 0 0 h 0 [(0, .ref a)] [] _ _
  first | refine J.aload_n (pc' := 1) rfl rfl rfl ?_ | refine J.aload_nN (pc' := 1) rfl rfl rfl ?_
  refine J.callI (pc' := 4) rfl MJxa1e45_init_da8c8 ml_Jxc12de_1 iv_Jxa1e45_init_da8c8 ⟨rfl, rfl⟩ (ct_coll_init (a := a)) rfl rfl (Nat.le_of_ble_eq_true rfl) (by first | omega | (simp only [jM.len_sI, jM.len_sL, jM.len_sR, jM.len_fI, jM.len_fL, jM.len_fR]; omega) | (simp [jM.len_nw, jM.len_sI, jM.len_sL, jM.len_sR, jM.len_fI, jM.len_fL, jM.len_fR, *]; omega)) (by first | omega | (simp only [jM.len_sI, jM.len_sL, jM.len_sR, jM.len_fI, jM.len_fL, jM.len_fR]; omega) | (simp [jM.len_nw, jM.len_sI, jM.len_sL, jM.len_sR, jM.len_fI, jM.len_fL, jM.len_fR, *]; omega)) (by first | omega | (simp only [jM.len_sI, jM.len_sL, jM.len_sR, jM.len_fI, jM.len_fL, jM.len_fR]; omega) | (simp [jM.len_nw, jM.len_sI, jM.len_sL, jM.len_sR, jM.len_fI, jM.len_fL, jM.len_fR, *]; omega)) rfl ?_
  rintro _ h ⟨rfl, rfl⟩
  first | refine J.aload_n (pc' := 5) rfl rfl rfl ?_ | refine J.aload_nN (pc' := 5) rfl rfl rfl ?_
  refine J.iconst (pc' := 6) rfl rfl ?_
  refine J.putI (pc' := 9) rfl fl_Jxc12de_7 rfl (Or.inl rfl) (by first | assumption | (simp only [jM.tag_sI, jM.tag_sL, jM.tag_sR, jM.tag_fI, jM.tag_fL, jM.tag_fR]; assumption) | (simp [jM.tag_nw, jM.tag_sI, jM.tag_sL, jM.tag_sR, jM.tag_fI, jM.tag_fL, jM.tag_fR, *]; done)) (Or.inl rfl) rfl ?_
  refine J.vret rfl rfl (by first | omega | (simp only [jM.len_sI, jM.len_sL, jM.len_sR, jM.len_fI, jM.len_fL, jM.len_fR]; omega) | (simp [jM.len_nw, jM.len_sI, jM.len_sL, jM.len_sR, jM.len_fI, jM.len_fL, jM.len_fR, *]; omega)) (by first | omega | (simp only [jM.len_sI, jM.len_sL, jM.len_sR, jM.len_fI, jM.len_fL, jM.len_fR]; omega) | (simp [jM.len_nw, jM.len_sI, jM.len_sL, jM.len_sR, jM.len_fI, jM.len_fL, jM.len_fR, *]; omega)) ?_
  exact ⟨rfl, rfl⟩
theorem ct_list_init (ha : h.tag a = 3) : CT γ mJx4a65c_init_da8c8 3 0 0 [.ref a] h (fun r h' => r = none ∧ h' = (h.sI 3 a 0 0).sR 3 a 1 (some (γ.K 0))) X0 := by
  refine CT.of MJx4a65c_init_da8c8 (Nat.le_of_ble_eq_true rfl) ?_
  show J γ mJx4a65c_init_da8c8 3 0 0 0 0 h 0 [(0, .ref a)] [] _ _
  first | refine J.aload_n (pc' := 1) rfl rfl rfl ?_ | refine J.aload_nN (pc' := 1) rfl rfl rfl ?_
  refine J.callI (pc' := 4) rfl MJxc12de_init_da8c8 ml_Jx4a65c_1 iv_Jxc12de_init_da8c8 ⟨rfl, rfl⟩ (ct_alist_init ha) rfl rfl (Nat.le_of_ble_eq_true rfl) (by first | omega | (simp only [jM.len_sI, jM.len_sL, jM.len_sR, jM.len_fI, jM.len_fL, jM.len_fR]; omega) | (simp [jM.len_nw, jM.len_sI, jM.len_sL, jM.len_sR, jM.len_fI, jM.len_fL, jM.len_fR, *]; omega)) (by first | omega | (simp only [jM.len_sI, jM.len_sL, jM.len_sR, jM.len_fI, jM.len_fL, jM.len_fR]; omega) | (simp [jM.len_nw, jM.len_sI, jM.len_sL, jM.len_sR, jM.len_fI, jM.len_fL, jM.len_fR, *]; omega)) (by first | omega | (simp only [jM.len_sI, jM.len_sL, jM.len_sR, jM.len_fI, jM.len_fL, jM.len_fR]; omega) | (simp [jM.len_nw, jM.len_sI, jM.len_sL, jM.len_sR, jM.len_fI, jM.len_fL, jM.len_fR, *]; omega)) rfl ?_
  rintro _ _ ⟨rfl, rfl⟩
  first | refine J.aload_n (pc' := 5) rfl rfl rfl ?_ | refine J.aload_nN (pc' := 5) rfl rfl rfl ?_
  refine J.getsK (pc' := 8) (i := 0) (ref := "") rfl jAL_f (by simp [jKs]) jAL_s ini_RJx4a65c rfl ?_
  first | refine J.putR (pc' := 11) rfl fl_Jx4a65c_9 rfl (Or.inl rfl) (by first | assumption | (simp only [jM.tag_sI, jM.tag_sL, jM.tag_sR, jM.tag_fI, jM.tag_fL, jM.tag_fR]; assumption) | (simp [jM.tag_nw, jM.tag_sI, jM.tag_sL, jM.tag_sR, jM.tag_fI, jM.tag_fL, jM.tag_fR, *]; done)) (Or.inl rfl) rfl ?_ | refine J.putRN (pc' := 11) rfl fl_Jx4a65c_9 rfl (Or.inl rfl) (by first | assumption | (simp only [jM.tag_sI, jM.tag_sL, jM.tag_sR, jM.tag_fI, jM.tag_fL, jM.tag_fR]; assumption) | (simp [jM.tag_nw, jM.tag_sI, jM.tag_sL, jM.tag_sR, jM.tag_fI, jM.tag_fL, jM.tag_fR, *]; done)) (Or.inl rfl) rfl ?_
  refine J.vret rfl rfl (by first | omega | (simp only [jM.len_sI, jM.len_sL, jM.len_sR, jM.len_fI, jM.len_fL, jM.len_fR]; omega) | (simp [jM.len_nw, jM.len_sI, jM.len_sL, jM.len_sR, jM.len_fI, jM.len_fL, jM.len_fR, *]; omega)) (by first | omega | (simp only [jM.len_sI, jM.len_sL, jM.len_sR, jM.len_fI, jM.len_fL, jM.len_fR]; omega) | (simp [jM.len_nw, jM.len_sI, jM.len_sL, jM.len_sR, jM.len_fI, jM.len_fL, jM.len_fR, *]; omega)) ?_
  exact ⟨rfl, rfl⟩
/-- a list loses its last -/
theorem ct_fastRemove (hL : isL γ h a e (xs ++ [x])) : CT γ mJx4a65c_fastRemove_b59b0 1 0 0 [.ref a, .ref e, .int (jI (xs.length : Int))] h (fun r h' => r = none ∧ isL γ h' a e xs ∧ frA h h' a e) X0 := by
  obtain ⟨h1, h2, h3, h4, h5, h6, h7, h8, h9⟩ := hL
  simp only [List.length_append, List.length_singleton] at h4 h5 h8
  refine CT.of MJx4a65c_fastRemove_b59b0 (Nat.le_of_ble_eq_true rfl) ?_
  show J γ mJx4a65c_fastRemove_b59b0 1 0 0 0 0 h 0 [(0, .ref a), (1, .ref e), (2, .int (jI (xs.length : Int)))] [] _ _
  first | refine J.aload_n (pc' := 1) rfl rfl rfl ?_ | refine J.aload_nN (pc' := 1) rfl rfl rfl ?_
  refine J.dup (pc' := 2) rfl rfl rfl ?_
  refine J.getI (pc' := 5) rfl fl_Jx4a65c_63 rfl (by first | assumption | (simp only [jM.tag_sI, jM.tag_sL, jM.tag_sR, jM.tag_fI, jM.tag_fL, jM.tag_fR]; assumption) | (simp [jM.tag_nw, jM.tag_sI, jM.tag_sL, jM.tag_sR, jM.tag_fI, jM.tag_fL, jM.tag_fR, *]; done)) rfl ?_
  refine J.iconst (pc' := 6) rfl rfl ?_
  refine J.iadd (pc' := 7) rfl rfl ?_
  refine J.putI (pc' := 10) rfl fl_Jx4a65c_63 rfl (Or.inl rfl) (by first | assumption | (simp only [jM.tag_sI, jM.tag_sL, jM.tag_sR, jM.tag_fI, jM.tag_fL, jM.tag_fR]; assumption) | (simp [jM.tag_nw, jM.tag_sI, jM.tag_sL, jM.tag_sR, jM.tag_fI, jM.tag_fL, jM.tag_fR, *]; done)) (Or.inl rfl) rfl ?_
  first | refine J.aload_n (pc' := 11) rfl rfl rfl ?_ | refine J.aload_nN (pc' := 11) rfl rfl rfl ?_
  refine J.getI (pc' := 14) rfl fl_Jx4a65c_48 rfl (by first | assumption | (simp only [jM.tag_sI, jM.tag_sL, jM.tag_sR, jM.tag_fI, jM.tag_fL, jM.tag_fR]; assumption) | (simp [jM.tag_nw, jM.tag_sI, jM.tag_sL, jM.tag_sR, jM.tag_fI, jM.tag_fL, jM.tag_fR, *]; done)) rfl ?_
  refine J.iconst (pc' := 15) rfl rfl ?_
  refine J.isub (pc' := 16) rfl rfl ?_
  refine J.dup (pc' := 17) rfl rfl rfl ?_
  refine J.istore_n (pc' := 18) rfl rfl (by decide) ?_
  refine J.iload_n (pc' := 19) rfl rfl rfl ?_
  rw [show (h.sI 3 a 0 (h.I 3 a 0 + 1)).I 3 a 2 = (xs.length : Int) + 1 by rw [jM.I_sI, if_neg (by omega), h4]; omega]
  refine J.icmp_le (tgt := 34) (pc' := 22) rfl rfl rfl (by first | omega | (simp only [jM.len_sI, jM.len_sL, jM.len_sR, jM.len_fI, jM.len_fL, jM.len_fR]; omega) | (simp [jM.len_nw, jM.len_sI, jM.len_sL, jM.len_sR, jM.len_fI, jM.len_fL, jM.len_fR, *]; omega)) (by first | omega | (simp only [jM.len_sI, jM.len_sL, jM.len_sR, jM.len_fI, jM.len_fL, jM.len_fR]; omega) | (simp [jM.len_nw, jM.len_sI, jM.len_sL, jM.len_sR, jM.len_fI, jM.len_fL, jM.len_fR, *]; omega)) (fun hc => ?_) (fun hc => ?_)
  · first | refine J.aload_n (pc' := 35) rfl rfl rfl ?_ | refine J.aload_nN (pc' := 35) rfl rfl rfl ?_
    first | refine J.aload_n (pc' := 36) rfl rfl rfl ?_ | refine J.aload_nN (pc' := 36) rfl rfl rfl ?_
    refine J.iload_n (pc' := 37) rfl rfl rfl ?_
    refine J.dup_x1 (pc' := 38) rfl rfl rfl rfl ?_
    refine J.putI (pc' := 41) rfl fl_Jx4a65c_48 rfl (Or.inl rfl) (by first | assumption | (simp only [jM.tag_sI, jM.tag_sL, jM.tag_sR, jM.tag_fI, jM.tag_fL, jM.tag_fR]; assumption) | (simp [jM.tag_nw, jM.tag_sI, jM.tag_sL, jM.tag_sR, jM.tag_fI, jM.tag_fL, jM.tag_fR, *]; done)) (Or.inl rfl) rfl ?_
    refine J.null (pc' := 42) rfl rfl ?_
    refine J.aastN (pc' := 43) (cn := "java/lang/Object") rfl (show h.tag e = 34 from h3) (by decide) rfl (by decide) (by omega) (show _ < (h.len e : Int) by omega) (by omega) rfl rfl ?_
    refine J.vret rfl rfl (by first | omega | (simp only [jM.len_sI, jM.len_sL, jM.len_sR, jM.len_fI, jM.len_fL, jM.len_fR]; omega) | (simp [jM.len_nw, jM.len_sI, jM.len_sL, jM.len_sR, jM.len_fI, jM.len_fL, jM.len_fR, *]; omega)) (by first | omega | (simp only [jM.len_sI, jM.len_sL, jM.len_sR, jM.len_fI, jM.len_fL, jM.len_fR]; omega) | (simp [jM.len_nw, jM.len_sI, jM.len_sL, jM.len_sR, jM.len_fI, jM.len_fL, jM.len_fR, *]; omega)) ?_
    refine ⟨rfl, ⟨h1, h2, h3, ?_, ?_, h6, h7, fun i hi => ?_, fun hn => ?_⟩, ⟨fun b => Or.inl rfl, fun b _ => rfl, fun t b k q1 q2 => ?_, fun t b k _ => rfl, fun t b k q1 q2 => ?_⟩⟩
    · rw [jM.I_sR, jM.I_sI, if_pos ⟨rfl, rfl, rfl⟩]
      omega
    · show _ ≤ h.len e
      omega
    · rw [jM.R_sR, if_neg (by omega)]
      show h.R 34 e i = _
      rw [h8 i (by omega), List.getElem?_append_left hi]
    · rw [jM.I_sR, jM.I_sI, if_neg (by omega), jM.I_sI, if_neg (by omega)]
      exact h9 hn
    · rw [jM.I_sR, jM.I_sI, if_neg (fun q => q1 ⟨q.1, q.2.1⟩), jM.I_sI, if_neg (fun q => q1 ⟨q.1, q.2.1⟩)]
    · rw [jM.R_sR, if_neg (fun q => q2 ⟨q.1, Or.inl q.2.1⟩)]
      rfl
  · omega
theorem ct_remove (hL : isL γ h a e (xs ++ [x])) : CT γ mJx4a65c_remove_915e3 2 0 0 [.ref a, .int (jI (xs.length : Int))] h (fun r h' => r = some (.ref x) ∧ isL γ h' a e xs ∧ frA h h' a e) X0 := by
  have hL0 := hL
  obtain ⟨h1, h2, h3, h4, h5, h6, h7, h8, h9⟩ := hL0
  simp only [List.length_append, List.length_singleton] at h4 h5 h8
  have hx : h.R 34 e (xs.length : Int).toNat = some x := by
    rw [Int.toNat_natCast, h8 _ (by omega)]
    simp
  refine CT.of MJx4a65c_remove_915e3 (Nat.le_of_ble_eq_true rfl) ?_
  show J γ mJx4a65c_remove_915e3 2 0 0 0 0 h 0 [(0, .ref a), (1, .int (jI (xs.length : Int)))] [] _ _
  refine J.iload_n (pc' := 1) rfl rfl rfl ?_
  first | refine J.aload_n (pc' := 2) rfl rfl rfl ?_ | refine J.aload_nN (pc' := 2) rfl rfl rfl ?_
  refine J.getI (pc' := 5) rfl fl_Jx4a65c_48 rfl (by first | assumption | (simp only [jM.tag_sI, jM.tag_sL, jM.tag_sR, jM.tag_fI, jM.tag_fL, jM.tag_fR]; assumption) | (simp [jM.tag_nw, jM.tag_sI, jM.tag_sL, jM.tag_sR, jM.tag_fI, jM.tag_fL, jM.tag_fR, *]; done)) rfl ?_
  refine J.callS (pc' := 8) rfl MJ15_checkIndex_7cf53 ml_Jx4a65c_118 is_J15_checkIndex_7cf53 (ct_chk (by omega) (by omega) (by omega)) rfl rfl (Nat.le_of_ble_eq_true rfl) (by first | omega | (simp only [jM.len_sI, jM.len_sL, jM.len_sR, jM.len_fI, jM.len_fL, jM.len_fR]; omega) | (simp [jM.len_nw, jM.len_sI, jM.len_sL, jM.len_sR, jM.len_fI, jM.len_fL, jM.len_fR, *]; omega)) (by first | omega | (simp only [jM.len_sI, jM.len_sL, jM.len_sR, jM.len_fI, jM.len_fL, jM.len_fR]; omega) | (simp [jM.len_nw, jM.len_sI, jM.len_sL, jM.len_sR, jM.len_fI, jM.len_fL, jM.len_fR, *]; omega)) (by first | omega | (simp only [jM.len_sI, jM.len_sL, jM.len_sR, jM.len_fI, jM.len_fL, jM.len_fR]; omega) | (simp [jM.len_nw, jM.len_sI, jM.len_sL, jM.len_sR, jM.len_fI, jM.len_fL, jM.len_fR, *]; omega)) rfl rfl ?_ ?_
  · exact fun _ _ h => h
  rintro _ h ⟨rfl, rfl⟩
  refine J.pop (pc' := 9) rfl rfl rfl ?_
  first | refine J.aload_n (pc' := 10) rfl rfl rfl ?_ | refine J.aload_nN (pc' := 10) rfl rfl rfl ?_
  first | refine J.getR (pc' := 13) rfl fl_Jx4a65c_9 rfl (by first | assumption | (simp only [jM.tag_sI, jM.tag_sL, jM.tag_sR, jM.tag_fI, jM.tag_fL, jM.tag_fR]; assumption) | (simp [jM.tag_nw, jM.tag_sI, jM.tag_sL, jM.tag_sR, jM.tag_fI, jM.tag_fL, jM.tag_fR, *]; done)) (by first | assumption | (simp only [jM.R_sI, jM.R_sL, jM.R_fI, jM.R_fL]; assumption) | (simp [jM.R_nw, jM.R_sR, jM.R_fR, jM.R_sI, jM.R_sL, jM.R_fI, jM.R_fL, *]; done)) rfl ?_ | refine J.getRN (pc' := 13) rfl fl_Jx4a65c_9 rfl (by first | assumption | (simp only [jM.tag_sI, jM.tag_sL, jM.tag_sR, jM.tag_fI, jM.tag_fL, jM.tag_fR]; assumption) | (simp [jM.tag_nw, jM.tag_sI, jM.tag_sL, jM.tag_sR, jM.tag_fI, jM.tag_fL, jM.tag_fR, *]; done)) (by first | assumption | (simp only [jM.R_sI, jM.R_sL, jM.R_fI, jM.R_fL]; assumption) | (simp [jM.R_nw, jM.R_sR, jM.R_fR, jM.R_sI, jM.R_sL, jM.R_fI, jM.R_fL, *]; done)) rfl ?_
  first | refine J.astore_n (pc' := 14) rfl rfl (by decide) ?_ | refine J.astore_nN (pc' := 14) rfl rfl (by decide) ?_
  first | refine J.aload_n (pc' := 15) rfl rfl rfl ?_ | refine J.aload_nN (pc' := 15) rfl rfl rfl ?_
  refine J.iload_n (pc' := 16) rfl rfl rfl ?_
  first | refine J.aald (pc' := 17) rfl (by first | assumption | (simp only [jM.tag_sI, jM.tag_sL, jM.tag_sR, jM.tag_fI, jM.tag_fL, jM.tag_fR]; assumption) | (simp [jM.tag_nw, jM.tag_sI, jM.tag_sL, jM.tag_sR, jM.tag_fI, jM.tag_fL, jM.tag_fR, *]; done)) (by decide) (by decide) rfl (by first | omega | (simp only [jM.len_sI, jM.len_sL, jM.len_sR, jM.len_fI, jM.len_fL, jM.len_fR]; omega) | (simp [jM.len_nw, jM.len_sI, jM.len_sL, jM.len_sR, jM.len_fI, jM.len_fL, jM.len_fR, *]; omega)) (by first | omega | (simp only [jM.len_sI, jM.len_sL, jM.len_sR, jM.len_fI, jM.len_fL, jM.len_fR]; omega) | (simp [jM.len_nw, jM.len_sI, jM.len_sL, jM.len_sR, jM.len_fI, jM.len_fL, jM.len_fR, *]; omega)) (by first | omega | (simp only [jM.len_sI, jM.len_sL, jM.len_sR, jM.len_fI, jM.len_fL, jM.len_fR]; omega) | (simp [jM.len_nw, jM.len_sI, jM.len_sL, jM.len_sR, jM.len_fI, jM.len_fL, jM.len_fR, *]; omega)) (by first | assumption | (simp only [jM.R_sI, jM.R_sL, jM.R_fI, jM.R_fL]; assumption) | (simp [jM.R_nw, jM.R_sR, jM.R_fR, jM.R_sI, jM.R_sL, jM.R_fI, jM.R_fL, *]; done)) rfl ?_ | refine J.aaldN (pc' := 17) rfl (by first | assumption | (simp only [jM.tag_sI, jM.tag_sL, jM.tag_sR, jM.tag_fI, jM.tag_fL, jM.tag_fR]; assumption) | (simp [jM.tag_nw, jM.tag_sI, jM.tag_sL, jM.tag_sR, jM.tag_fI, jM.tag_fL, jM.tag_fR, *]; done)) (by decide) (by decide) rfl (by first | omega | (simp only [jM.len_sI, jM.len_sL, jM.len_sR, jM.len_fI, jM.len_fL, jM.len_fR]; omega) | (simp [jM.len_nw, jM.len_sI, jM.len_sL, jM.len_sR, jM.len_fI, jM.len_fL, jM.len_fR, *]; omega)) (by first | omega | (simp only [jM.len_sI, jM.len_sL, jM.len_sR, jM.len_fI, jM.len_fL, jM.len_fR]; omega) | (simp [jM.len_nw, jM.len_sI, jM.len_sL, jM.len_sR, jM.len_fI, jM.len_fL, jM.len_fR, *]; omega)) (by first | omega | (simp only [jM.len_sI, jM.len_sL, jM.len_sR, jM.len_fI, jM.len_fL, jM.len_fR]; omega) | (simp [jM.len_nw, jM.len_sI, jM.len_sL, jM.len_sR, jM.len_fI, jM.len_fL, jM.len_fR, *]; omega)) (by first | assumption | (simp only [jM.R_sI, jM.R_sL, jM.R_fI, jM.R_fL]; assumption) | (simp [jM.R_nw, jM.R_sR, jM.R_fR, jM.R_sI, jM.R_sL, jM.R_fI, jM.R_fL, *]; done)) rfl ?_
  first | refine J.astore_n (pc' := 18) rfl rfl (by decide) ?_ | refine J.astore_nN (pc' := 18) rfl rfl (by decide) ?_
  first | refine J.aload_n (pc' := 19) rfl rfl rfl ?_ | refine J.aload_nN (pc' := 19) rfl rfl rfl ?_
  first | refine J.aload_n (pc' := 20) rfl rfl rfl ?_ | refine J.aload_nN (pc' := 20) rfl rfl rfl ?_
  refine J.iload_n (pc' := 21) rfl rfl rfl ?_
  refine J.callV (pc' := 24) (t := 3) rfl MJx4a65c_fastRemove_b59b0 ml_Jx4a65c_144 iv_Jx4a65c_fastRemove_b59b0 (by decide) ⟨_, rfl, rfl⟩ (by first | assumption | (simp only [jM.tag_sI, jM.tag_sL, jM.tag_sR, jM.tag_fI, jM.tag_fL, jM.tag_fR]; assumption) | (simp [jM.tag_nw, jM.tag_sI, jM.tag_sL, jM.tag_sR, jM.tag_fI, jM.tag_fL, jM.tag_fR, *]; done)) (ct_fastRemove hL) rfl rfl (Nat.le_of_ble_eq_true rfl) (by first | omega | (simp only [jM.len_sI, jM.len_sL, jM.len_sR, jM.len_fI, jM.len_fL, jM.len_fR]; omega) | (simp [jM.len_nw, jM.len_sI, jM.len_sL, jM.len_sR, jM.len_fI, jM.len_fL, jM.len_fR, *]; omega)) (by first | omega | (simp only [jM.len_sI, jM.len_sL, jM.len_sR, jM.len_fI, jM.len_fL, jM.len_fR]; omega) | (simp [jM.len_nw, jM.len_sI, jM.len_sL, jM.len_sR, jM.len_fI, jM.len_fL, jM.len_fR, *]; omega)) (by first | omega | (simp only [jM.len_sI, jM.len_sL, jM.len_sR, jM.len_fI, jM.len_fL, jM.len_fR]; omega) | (simp [jM.len_nw, jM.len_sI, jM.len_sL, jM.len_sR, jM.len_fI, jM.len_fL, jM.len_fR, *]; omega)) rfl rfl ?_ ?_
  · exact fun _ _ h => h
  rintro _ h' ⟨rfl, g1, g2⟩
  first | refine J.aload_n (pc' := 25) rfl rfl rfl ?_ | refine J.aload_nN (pc' := 25) rfl rfl rfl ?_
  first | refine J.aret rfl rfl rfl (by first | omega | (simp only [jM.len_sI, jM.len_sL, jM.len_sR, jM.len_fI, jM.len_fL, jM.len_fR]; omega) | (simp [jM.len_nw, jM.len_sI, jM.len_sL, jM.len_sR, jM.len_fI, jM.len_fL, jM.len_fR, *]; omega)) (by first | omega | (simp only [jM.len_sI, jM.len_sL, jM.len_sR, jM.len_fI, jM.len_fL, jM.len_fR]; omega) | (simp [jM.len_nw, jM.len_sI, jM.len_sL, jM.len_sR, jM.len_fI, jM.len_fL, jM.len_fR, *]; omega)) ?_ | refine J.aretN rfl rfl rfl (by first | omega | (simp only [jM.len_sI, jM.len_sL, jM.len_sR, jM.len_fI, jM.len_fL, jM.len_fR]; omega) | (simp [jM.len_nw, jM.len_sI, jM.len_sL, jM.len_sR, jM.len_fI, jM.len_fL, jM.len_fR, *]; omega)) (by first | omega | (simp only [jM.len_sI, jM.len_sL, jM.len_sR, jM.len_fI, jM.len_fL, jM.len_fR]; omega) | (simp [jM.len_nw, jM.len_sI, jM.len_sL, jM.len_sR, jM.len_fI, jM.len_fL, jM.len_fR, *]; omega)) ?_
  exact ⟨rfl, g1, g2⟩
theorem ct_clear (hL : isL γ h a e xs) : CT γ mJx4a65c_clear_da8c8 0 0 0 [.ref a] h (fun r h' => r = none ∧ isL γ h' a e [] ∧ frA h h' a e) X0 := by
  obtain ⟨h1, h2, h3, h4, h5, h6, h7, h8, h9⟩ := hL
  refine CT.of MJx4a65c_clear_da8c8 (Nat.le_of_ble_eq_true rfl) ?_
  show J γ mJx4a65c_clear_da8c8 0 0 0 0 0 h 0 [(0, .ref a)] [] _ _
  first | refine J.aload_n (pc' := 1) rfl rfl rfl ?_ | refine J.aload_nN (pc' := 1) rfl rfl rfl ?_
  refine J.dup (pc' := 2) rfl rfl rfl ?_
  refine J.getI (pc' := 5) rfl fl_Jx4a65c_63 rfl (by first | assumption | (simp only [jM.tag_sI, jM.tag_sL, jM.tag_sR, jM.tag_fI, jM.tag_fL, jM.tag_fR]; assumption) | (simp [jM.tag_nw, jM.tag_sI, jM.tag_sL, jM.tag_sR, jM.tag_fI, jM.tag_fL, jM.tag_fR, *]; done)) rfl ?_
  refine J.iconst (pc' := 6) rfl rfl ?_
  refine J.iadd (pc' := 7) rfl rfl ?_
  refine J.putI (pc' := 10) rfl fl_Jx4a65c_63 rfl (Or.inl rfl) (by first | assumption | (simp only [jM.tag_sI, jM.tag_sL, jM.tag_sR, jM.tag_fI, jM.tag_fL, jM.tag_fR]; assumption) | (simp [jM.tag_nw, jM.tag_sI, jM.tag_sL, jM.tag_sR, jM.tag_fI, jM.tag_fL, jM.tag_fR, *]; done)) (Or.inl rfl) rfl ?_
  first | refine J.aload_n (pc' := 11) rfl rfl rfl ?_ | refine J.aload_nN (pc' := 11) rfl rfl rfl ?_
  first | refine J.getR (pc' := 14) rfl fl_Jx4a65c_9 rfl (by first | assumption | (simp only [jM.tag_sI, jM.tag_sL, jM.tag_sR, jM.tag_fI, jM.tag_fL, jM.tag_fR]; assumption) | (simp [jM.tag_nw, jM.tag_sI, jM.tag_sL, jM.tag_sR, jM.tag_fI, jM.tag_fL, jM.tag_fR, *]; done)) (by first | assumption | (simp only [jM.R_sI, jM.R_sL, jM.R_fI, jM.R_fL]; assumption) | (simp [jM.R_nw, jM.R_sR, jM.R_fR, jM.R_sI, jM.R_sL, jM.R_fI, jM.R_fL, *]; done)) rfl ?_ | refine J.getRN (pc' := 14) rfl fl_Jx4a65c_9 rfl (by first | assumption | (simp only [jM.tag_sI, jM.tag_sL, jM.tag_sR, jM.tag_fI, jM.tag_fL, jM.tag_fR]; assumption) | (simp [jM.tag_nw, jM.tag_sI, jM.tag_sL, jM.tag_sR, jM.tag_fI, jM.tag_fL, jM.tag_fR, *]; done)) (by first | assumption | (simp only [jM.R_sI, jM.R_sL, jM.R_fI, jM.R_fL]; assumption) | (simp [jM.R_nw, jM.R_sR, jM.R_fR, jM.R_sI, jM.R_sL, jM.R_fI, jM.R_fL, *]; done)) rfl ?_
  first | refine J.astore_n (pc' := 15) rfl rfl (by decide) ?_ | refine J.astore_nN (pc' := 15) rfl rfl (by decide) ?_
  first | refine J.aload_n (pc' := 16) rfl rfl rfl ?_ | refine J.aload_nN (pc' := 16) rfl rfl rfl ?_
  refine J.getI (pc' := 19) rfl fl_Jx4a65c_48 rfl (by first | assumption | (simp only [jM.tag_sI, jM.tag_sL, jM.tag_sR, jM.tag_fI, jM.tag_fL, jM.tag_fR]; assumption) | (simp [jM.tag_nw, jM.tag_sI, jM.tag_sL, jM.tag_sR, jM.tag_fI, jM.tag_fL, jM.tag_fR, *]; done)) rfl ?_
  refine J.istore_n (pc' := 20) rfl rfl (by decide) ?_
  first | refine J.aload_n (pc' := 21) rfl rfl rfl ?_ | refine J.aload_nN (pc' := 21) rfl rfl rfl ?_
  refine J.iconst (pc' := 22) rfl rfl ?_
  refine J.dup_x1 (pc' := 23) rfl rfl rfl rfl ?_
  refine J.putI (pc' := 26) rfl fl_Jx4a65c_48 rfl (Or.inl rfl) (by first | assumption | (simp only [jM.tag_sI, jM.tag_sL, jM.tag_sR, jM.tag_fI, jM.tag_fL, jM.tag_fR]; assumption) | (simp [jM.tag_nw, jM.tag_sI, jM.tag_sL, jM.tag_sR, jM.tag_fI, jM.tag_fL, jM.tag_fR, *]; done)) (Or.inl rfl) rfl ?_
  refine J.istore_n (pc' := 27) rfl rfl (by decide) ?_
  rw [show (h.sI 3 a 0 (h.I 3 a 0 + 1)).I 3 a 2 = (xs.length : Int) by rw [jM.I_sI, if_neg (by omega), h4]]
  have key : ∀ (n : Nat) (i : Int) (H : jM), 0 ≤ i → i + n = xs.length → H.tag = h.tag → H.len = h.len → H.R 3 = h.R 3 → H.I 3 a 2 = 0 → H.I 34 = h.I 34 → frA h H a e → J γ mJx4a65c_clear_da8c8 0 0 0 0 0 H 27 [(0, .ref a), (1, .ref e), (2, .int (jI (xs.length : Int))), (3, .int (jI i))] [] (fun r h' => r = none ∧ isL γ h' a e [] ∧ frA h h' a e) X0 := by
    intro n
    induction n with
    | zero =>
      intro i H h0 hi e1 e2 e3 e4 e5 F
      refine J.iload_n (pc' := 28) rfl rfl rfl ?_
      refine J.iload_n (pc' := 29) rfl rfl rfl ?_
      refine J.icmp_ge (tgt := 42) (pc' := 32) rfl rfl rfl (by first | omega | (simp only [jM.len_sI, jM.len_sL, jM.len_sR, jM.len_fI, jM.len_fL, jM.len_fR]; omega) | (simp [jM.len_nw, jM.len_sI, jM.len_sL, jM.len_sR, jM.len_fI, jM.len_fL, jM.len_fR, *]; omega)) (by first | omega | (simp only [jM.len_sI, jM.len_sL, jM.len_sR, jM.len_fI, jM.len_fL, jM.len_fR]; omega) | (simp [jM.len_nw, jM.len_sI, jM.len_sL, jM.len_sR, jM.len_fI, jM.len_fL, jM.len_fR, *]; omega)) (fun hc => ?_) (fun hc => ?_)
      · refine J.vret rfl rfl (by first | omega | (simp only [jM.len_sI, jM.len_sL, jM.len_sR, jM.len_fI, jM.len_fL, jM.len_fR]; omega) | (simp [jM.len_nw, jM.len_sI, jM.len_sL, jM.len_sR, jM.len_fI, jM.len_fL, jM.len_fR, *]; omega)) (by first | omega | (simp only [jM.len_sI, jM.len_sL, jM.len_sR, jM.len_fI, jM.len_fL, jM.len_fR]; omega) | (simp [jM.len_nw, jM.len_sI, jM.len_sL, jM.len_sR, jM.len_fI, jM.len_fL, jM.len_fR, *]; omega)) ?_
        refine ⟨rfl, ⟨by rw [e1]; exact h1, by rw [e3]; exact h2, by rw [e1]; exact h3, by rw [e4]; rfl, by simp, by rw [e2]; exact h6, by rw [e2]; exact h7, fun i hi => by simp at hi, fun hn => by rw [e5]; rw [e2] at hn; exact h9 hn⟩, F⟩
      · omega
    | succ n ih =>
      intro i H h0 hi e1 e2 e3 e4 e5 F
      have te : H.tag e = 34 := by rw [e1]; exact h3
      have le : H.len e = h.len e := by rw [e2]
      refine J.iload_n (pc' := 28) rfl rfl rfl ?_
      refine J.iload_n (pc' := 29) rfl rfl rfl ?_
      refine J.icmp_ge (tgt := 42) (pc' := 32) rfl rfl rfl (by first | omega | (simp only [jM.len_sI, jM.len_sL, jM.len_sR, jM.len_fI, jM.len_fL, jM.len_fR]; omega) | (simp [jM.len_nw, jM.len_sI, jM.len_sL, jM.len_sR, jM.len_fI, jM.len_fL, jM.len_fR, *]; omega)) (by first | omega | (simp only [jM.len_sI, jM.len_sL, jM.len_sR, jM.len_fI, jM.len_fL, jM.len_fR]; omega) | (simp [jM.len_nw, jM.len_sI, jM.len_sL, jM.len_sR, jM.len_fI, jM.len_fL, jM.len_fR, *]; omega)) (fun hc => ?_) (fun hc => ?_)
      · omega
      · first | refine J.aload_n (pc' := 33) rfl rfl rfl ?_ | refine J.aload_nN (pc' := 33) rfl rfl rfl ?_
        refine J.iload_n (pc' := 34) rfl rfl rfl ?_
        refine J.null (pc' := 35) rfl rfl ?_
        refine J.aastN (pc' := 36) (cn := "java/lang/Object") rfl te (by decide) rfl (by decide) (by omega) (by omega) (by omega) rfl rfl ?_
        refine J.iinc (pc' := 39) rfl rfl rfl (by decide) ?_
        refine J.goto (tgt := 27) rfl rfl ?_
        refine ih (i + 1) _ (by omega) (by omega) (by rw [jM.tag_sR]; exact e1) (by rw [jM.len_sR]; exact e2) ?_ (by rw [jM.I_sR]; exact e4) (by rw [jM.I_sR]; exact e5) ?_
        · rw [← e3]
          funext b k
          rw [jM.R_sR, if_neg (by omega)]
        · obtain ⟨f1, f2, f3, f4, f5⟩ := F
          refine ⟨f1, f2, f3, f4, fun t b k q1 q2 => ?_⟩
          rw [jM.R_sR, if_neg (fun q => q2 ⟨q.1, Or.inl q.2.1⟩)]
          exact f5 t b k q1 q2
  refine key xs.length 0 _ (by omega) (by omega) rfl rfl rfl (by rw [jM.I_sI, if_pos ⟨rfl, rfl, rfl⟩]) (by funext b k; rw [jM.I_sI, if_neg (by omega), jM.I_sI, if_neg (by omega)]) ⟨fun b => Or.inl rfl, fun b _ => rfl, fun t b k q1 q2 => ?_, fun t b k _ => rfl, fun t b k _ _ => rfl⟩
  rw [jM.I_sI, if_neg (fun q => q1 ⟨q.1, q.2.1⟩), jM.I_sI, if_neg (fun q => q1 ⟨q.1, q.2.1⟩)]
theorem isL.get {i : Nat} (hL : isL γ h a e xs) (hi : xs[i]? = some x) : CT γ mJx4a65c_get_915e3 2 0 0 [.ref a, .int (jI (i : Int))] h (fun r h' => r = some (.ref x) ∧ h' = h) X0 := by
  obtain ⟨h1, h2, h3, h4, h5, h6, h7, h8, h9⟩ := hL
  have hlt := (List.getElem?_eq_some_iff.mp hi).1
  exact ct_get h1 h2 h3 (by omega) (by omega) (by omega) (by omega) (by rw [Int.toNat_natCast, h8 i hlt]; exact hi)
theorem isL.size (hL : isL γ h a e xs) : CT γ mJx4a65c_size_8abf5 0 0 0 [.ref a] h (fun r h' => r = some (.int (jI (xs.length : Int))) ∧ h' = h) X0 := by
  have h9 := ct_size (γ := γ) hL.1
  rw [hL.2.2.2.1] at h9
  exact h9
end AE

