section WR
variable {γ : jG} {h : jM} {x o : Nat}
theorem wr_span {a1 a2 a3 a4 : Int} {f mc ms : Nat} {Q R : Option Value → jM → Prop} {X : String → jM → Prop} (tx : h.tag x = 15) (hC : CT γ mX11_span f mc ms [.ref x, .int (jI a1), .int (jI a2), .int (jI a3), .int (jI a4)] h Q X) (hQ : ∀ r h', Q r h' → ∃ v, r = some (.int (jI v)) ∧ h'.tag o = 38 ∧ h'.len o = 1 ∧ R (some (.int (jI 0))) (h'.sL 38 o 0 (jI v).toInt)) (hX : ∀ E h', X E h' → (E = eNSE ∧ R (some (.int (jI 1))) h') ∨ (E = eIAE ∧ R (some (.int (jI 2))) h')) : CT γ mL_span (f + 1) mc ms [.ref x, .int (jI a1), .int (jI a2), .int (jI a3), .int (jI a4), .ref o] h R X0 := by
  refine CT.ofW ML_span (Nat.le_of_ble_eq_true rfl) ?_
  show J γ mL_span (f + 1) mc ms 0 0 h 0 [(0, .ref x), (1, .int (jI a1)), (2, .int (jI a2)), (3, .int (jI a3)), (4, .int (jI a4)), (5, .ref o)] [] _ _
  first | refine J.aload (pc' := 2) rfl rfl rfl ?_ | refine J.aloadN (pc' := 2) rfl rfl rfl ?_
  refine J.iconst (pc' := 3) rfl rfl ?_
  first | refine J.aload_n (pc' := 4) rfl rfl rfl ?_ | refine J.aload_nN (pc' := 4) rfl rfl rfl ?_
  refine J.iload_n (pc' := 5) rfl rfl rfl ?_
  refine J.iload_n (pc' := 6) rfl rfl rfl ?_
  refine J.iload_n (pc' := 7) rfl rfl rfl ?_
  refine J.iload (pc' := 9) rfl rfl rfl ?_
  refine J.callT (pc' := 12) (t := 15) rfl MX11_span ml_L_7 iv_X11_span (by decide) ⟨_, rfl, rfl⟩ tx hC rfl rfl (Nat.le_of_ble_eq_true rfl) (Nat.le_refl _) (by omega) (by omega) rfl ?_ ?_
  · intro E k hx
    rcases hX E k hx with ⟨rfl, z⟩ | ⟨rfl, z⟩
    · refine ⟨17, ⟨[], (0, 14, 17, 13), [(0, 14, 21, 15)], eNSE, rfl, fun _ w => (nomatch w), by decide, by decide, cl_N, ca_N, rfl⟩, fun q => ?_⟩
      first | refine J.astore (pc' := 19) rfl rfl (by decide) ?_ | refine J.astoreN (pc' := 19) rfl rfl (by decide) ?_
      refine J.iconst (pc' := 20) rfl rfl ?_
      refine J.iret rfl rfl (by first | omega | (exact R.r _ _) | (simp only [jM.len_sI, jM.len_sL, jM.len_sR, jM.len_fI, jM.len_fL, jM.len_fR]; omega) | (simp [jM.len_nw, jM.len_sI, jM.len_sL, jM.len_sR, jM.len_fI, jM.len_fL, jM.len_fR, *]; omega)) (by first | omega | (exact R.r _ _) | (simp only [jM.len_sI, jM.len_sL, jM.len_sR, jM.len_fI, jM.len_fL, jM.len_fR]; omega) | (simp [jM.len_nw, jM.len_sI, jM.len_sL, jM.len_sR, jM.len_fI, jM.len_fL, jM.len_fR, *]; omega)) ?_
      exact z
    · refine ⟨21, ⟨[(0, 14, 17, 13)], (0, 14, 21, 15), [], eIAE, rfl, fun y w => by rw [List.mem_singleton.mp w]; exact ⟨by decide, eNSE, cl_N, nc_IN⟩, by decide, by decide, cl_I, ca_I, rfl⟩, fun q => ?_⟩
      first | refine J.astore (pc' := 23) rfl rfl (by decide) ?_ | refine J.astoreN (pc' := 23) rfl rfl (by decide) ?_
      refine J.iconst (pc' := 24) rfl rfl ?_
      refine J.iret rfl rfl (by first | omega | (exact R.r _ _) | (simp only [jM.len_sI, jM.len_sL, jM.len_sR, jM.len_fI, jM.len_fL, jM.len_fR]; omega) | (simp [jM.len_nw, jM.len_sI, jM.len_sL, jM.len_sR, jM.len_fI, jM.len_fL, jM.len_fR, *]; omega)) (by first | omega | (exact R.r _ _) | (simp only [jM.len_sI, jM.len_sL, jM.len_sR, jM.len_fI, jM.len_fL, jM.len_fR]; omega) | (simp [jM.len_nw, jM.len_sI, jM.len_sL, jM.len_sR, jM.len_fI, jM.len_fL, jM.len_fR, *]; omega)) ?_
      exact z
  · intro r k hq
    obtain ⟨v, rfl, t1, t2, z⟩ := hQ r k hq
    refine J.i2lT (pc' := 13) rfl rfl ?_
    refine J.last (pc' := 14) rfl (by first | assumption | (simp only [jM.tag_sI, jM.tag_sL, jM.tag_sR, jM.tag_fI, jM.tag_fL, jM.tag_fR]; assumption) | (simp [jM.tag_nw, jM.tag_sI, jM.tag_sL, jM.tag_sR, jM.tag_fI, jM.tag_fL, jM.tag_fR, *]; done)) (by decide) rfl (by first | omega | (exact R.r _ _) | (simp only [jM.len_sI, jM.len_sL, jM.len_sR, jM.len_fI, jM.len_fL, jM.len_fR]; omega) | (simp [jM.len_nw, jM.len_sI, jM.len_sL, jM.len_sR, jM.len_fI, jM.len_fL, jM.len_fR, *]; omega)) (by first | omega | (exact R.r _ _) | (simp only [jM.len_sI, jM.len_sL, jM.len_sR, jM.len_fI, jM.len_fL, jM.len_fR]; omega) | (simp [jM.len_nw, jM.len_sI, jM.len_sL, jM.len_sR, jM.len_fI, jM.len_fL, jM.len_fR, *]; omega)) (by first | omega | (exact R.r _ _) | (simp only [jM.len_sI, jM.len_sL, jM.len_sR, jM.len_fI, jM.len_fL, jM.len_fR]; omega) | (simp [jM.len_nw, jM.len_sI, jM.len_sL, jM.len_sR, jM.len_fI, jM.len_fL, jM.len_fR, *]; omega)) (Or.inl rfl) rfl ?_
    refine J.goto (tgt := 25) rfl rfl ?_
    refine J.iconst (pc' := 26) rfl rfl ?_
    refine J.iret rfl rfl (by first | omega | (exact R.r _ _) | (simp only [jM.len_sI, jM.len_sL, jM.len_sR, jM.len_fI, jM.len_fL, jM.len_fR]; omega) | (simp [jM.len_nw, jM.len_sI, jM.len_sL, jM.len_sR, jM.len_fI, jM.len_fL, jM.len_fR, *]; omega)) (by first | omega | (exact R.r _ _) | (simp only [jM.len_sI, jM.len_sL, jM.len_sR, jM.len_fI, jM.len_fL, jM.len_fR]; omega) | (simp [jM.len_nw, jM.len_sI, jM.len_sL, jM.len_sR, jM.len_fI, jM.len_fL, jM.len_fR, *]; omega)) ?_
    exact z
theorem wr_contract {a1 a2 a3 : Int} {f mc ms : Nat} {Q R : Option Value → jM → Prop} {X : String → jM → Prop} (tx : h.tag x = 15) (hC : CT γ mX11_contract f mc ms [.ref x, .int (jI a1), .int (jI a2), .int (jI a3)] h Q X) (hQ : ∀ r h', Q r h' → ∃ v, r = some (.int (jI v)) ∧ h'.tag o = 38 ∧ h'.len o = 1 ∧ R (some (.int (jI 0))) (h'.sL 38 o 0 (jI v).toInt)) (hX : ∀ E h', X E h' → (E = eNSE ∧ R (some (.int (jI 1))) h') ∨ (E = eIAE ∧ R (some (.int (jI 2))) h') ∨ (E = eISE ∧ R (some (.int (jI 3))) h')) : CT γ mL_contract (f + 1) mc ms [.ref x, .int (jI a1), .int (jI a2), .int (jI a3), .ref o] h R X0 := by
  refine CT.ofW ML_contract (Nat.le_of_ble_eq_true rfl) ?_
  show J γ mL_contract (f + 1) mc ms 0 0 h 0 [(0, .ref x), (1, .int (jI a1)), (2, .int (jI a2)), (3, .int (jI a3)), (4, .ref o)] [] _ _
  first | refine J.aload (pc' := 2) rfl rfl rfl ?_ | refine J.aloadN (pc' := 2) rfl rfl rfl ?_
  refine J.iconst (pc' := 3) rfl rfl ?_
  first | refine J.aload_n (pc' := 4) rfl rfl rfl ?_ | refine J.aload_nN (pc' := 4) rfl rfl rfl ?_
  refine J.iload_n (pc' := 5) rfl rfl rfl ?_
  refine J.iload_n (pc' := 6) rfl rfl rfl ?_
  refine J.iload_n (pc' := 7) rfl rfl rfl ?_
  refine J.callT (pc' := 10) (t := 15) rfl MX11_contract ml_L_17 iv_X11_contract (by decide) ⟨_, rfl, rfl⟩ tx hC rfl rfl (Nat.le_of_ble_eq_true rfl) (Nat.le_refl _) (by omega) (by omega) rfl ?_ ?_
  · intro E k hx
    rcases hX E k hx with ⟨rfl, z⟩ | ⟨rfl, z⟩ | ⟨rfl, z⟩
    · refine ⟨15, ⟨[], (0, 12, 15, 13), [(0, 12, 19, 15), (0, 12, 23, 21)], eNSE, rfl, fun _ w => (nomatch w), by decide, by decide, cl_N, ca_N, rfl⟩, fun q => ?_⟩
      first | refine J.astore (pc' := 17) rfl rfl (by decide) ?_ | refine J.astoreN (pc' := 17) rfl rfl (by decide) ?_
      refine J.iconst (pc' := 18) rfl rfl ?_
      refine J.iret rfl rfl (by first | omega | (exact R.r _ _) | (simp only [jM.len_sI, jM.len_sL, jM.len_sR, jM.len_fI, jM.len_fL, jM.len_fR]; omega) | (simp [jM.len_nw, jM.len_sI, jM.len_sL, jM.len_sR, jM.len_fI, jM.len_fL, jM.len_fR, *]; omega)) (by first | omega | (exact R.r _ _) | (simp only [jM.len_sI, jM.len_sL, jM.len_sR, jM.len_fI, jM.len_fL, jM.len_fR]; omega) | (simp [jM.len_nw, jM.len_sI, jM.len_sL, jM.len_sR, jM.len_fI, jM.len_fL, jM.len_fR, *]; omega)) ?_
      exact z
    · refine ⟨19, ⟨[(0, 12, 15, 13)], (0, 12, 19, 15), [(0, 12, 23, 21)], eIAE, rfl, fun y w => by rw [List.mem_singleton.mp w]; exact ⟨by decide, eNSE, cl_N, nc_IN⟩, by decide, by decide, cl_I, ca_I, rfl⟩, fun q => ?_⟩
      first | refine J.astore (pc' := 21) rfl rfl (by decide) ?_ | refine J.astoreN (pc' := 21) rfl rfl (by decide) ?_
      refine J.iconst (pc' := 22) rfl rfl ?_
      refine J.iret rfl rfl (by first | omega | (exact R.r _ _) | (simp only [jM.len_sI, jM.len_sL, jM.len_sR, jM.len_fI, jM.len_fL, jM.len_fR]; omega) | (simp [jM.len_nw, jM.len_sI, jM.len_sL, jM.len_sR, jM.len_fI, jM.len_fL, jM.len_fR, *]; omega)) (by first | omega | (exact R.r _ _) | (simp only [jM.len_sI, jM.len_sL, jM.len_sR, jM.len_fI, jM.len_fL, jM.len_fR]; omega) | (simp [jM.len_nw, jM.len_sI, jM.len_sL, jM.len_sR, jM.len_fI, jM.len_fL, jM.len_fR, *]; omega)) ?_
      exact z
    · have hp : ∀ y ∈ ([(0, 12, 15, 13), (0, 12, 19, 15)] : List (Nat × Nat × Nat × Nat)), y.2.2.2 ≠ 0 ∧ ∃ n2, Cond.classLink mL_contract.y.cls y.2.2.2 n2 ∈ lw_tbl ∧ Cond.not (.castable eISE n2) ∈ flatC (Jvm.Cond.and given_1 narrow_1) := fun y w => by
        simp only [List.mem_cons, List.not_mem_nil, or_false] at w
        rcases w with rfl | rfl
        · exact ⟨by decide, eNSE, cl_N, nc_SN⟩
        · exact ⟨by decide, eIAE, cl_I, nc_SI⟩
      refine ⟨23, ⟨[(0, 12, 15, 13), (0, 12, 19, 15)], (0, 12, 23, 21), [], eISE, rfl, hp, by decide, by decide, cl_S, ca_S, rfl⟩, fun q => ?_⟩
      first | refine J.astore (pc' := 25) rfl rfl (by decide) ?_ | refine J.astoreN (pc' := 25) rfl rfl (by decide) ?_
      refine J.iconst (pc' := 26) rfl rfl ?_
      refine J.iret rfl rfl (by first | omega | (exact R.r _ _) | (simp only [jM.len_sI, jM.len_sL, jM.len_sR, jM.len_fI, jM.len_fL, jM.len_fR]; omega) | (simp [jM.len_nw, jM.len_sI, jM.len_sL, jM.len_sR, jM.len_fI, jM.len_fL, jM.len_fR, *]; omega)) (by first | omega | (exact R.r _ _) | (simp only [jM.len_sI, jM.len_sL, jM.len_sR, jM.len_fI, jM.len_fL, jM.len_fR]; omega) | (simp [jM.len_nw, jM.len_sI, jM.len_sL, jM.len_sR, jM.len_fI, jM.len_fL, jM.len_fR, *]; omega)) ?_
      exact z
  · intro r k hq
    obtain ⟨v, rfl, t1, t2, z⟩ := hQ r k hq
    refine J.i2lT (pc' := 11) rfl rfl ?_
    refine J.last (pc' := 12) rfl (by first | assumption | (simp only [jM.tag_sI, jM.tag_sL, jM.tag_sR, jM.tag_fI, jM.tag_fL, jM.tag_fR]; assumption) | (simp [jM.tag_nw, jM.tag_sI, jM.tag_sL, jM.tag_sR, jM.tag_fI, jM.tag_fL, jM.tag_fR, *]; done)) (by decide) rfl (by first | omega | (exact R.r _ _) | (simp only [jM.len_sI, jM.len_sL, jM.len_sR, jM.len_fI, jM.len_fL, jM.len_fR]; omega) | (simp [jM.len_nw, jM.len_sI, jM.len_sL, jM.len_sR, jM.len_fI, jM.len_fL, jM.len_fR, *]; omega)) (by first | omega | (exact R.r _ _) | (simp only [jM.len_sI, jM.len_sL, jM.len_sR, jM.len_fI, jM.len_fL, jM.len_fR]; omega) | (simp [jM.len_nw, jM.len_sI, jM.len_sL, jM.len_sR, jM.len_fI, jM.len_fL, jM.len_fR, *]; omega)) (by first | omega | (exact R.r _ _) | (simp only [jM.len_sI, jM.len_sL, jM.len_sR, jM.len_fI, jM.len_fL, jM.len_fR]; omega) | (simp [jM.len_nw, jM.len_sI, jM.len_sL, jM.len_sR, jM.len_fI, jM.len_fL, jM.len_fR, *]; omega)) (Or.inl rfl) rfl ?_
    refine J.goto (tgt := 27) rfl rfl ?_
    refine J.iconst (pc' := 28) rfl rfl ?_
    refine J.iret rfl rfl (by first | omega | (exact R.r _ _) | (simp only [jM.len_sI, jM.len_sL, jM.len_sR, jM.len_fI, jM.len_fL, jM.len_fR]; omega) | (simp [jM.len_nw, jM.len_sI, jM.len_sL, jM.len_sR, jM.len_fI, jM.len_fL, jM.len_fR, *]; omega)) (by first | omega | (exact R.r _ _) | (simp only [jM.len_sI, jM.len_sL, jM.len_sR, jM.len_fI, jM.len_fL, jM.len_fR]; omega) | (simp [jM.len_nw, jM.len_sI, jM.len_sL, jM.len_sR, jM.len_fI, jM.len_fL, jM.len_fR, *]; omega)) ?_
    exact z
theorem wr_force {a1 a2 : Int} {f mc ms : Nat} {Q R : Option Value → jM → Prop} {X : String → jM → Prop} (tx : h.tag x = 15) (hC : CT γ mX11_force f mc ms [.ref x, .int (jI a1), .int (jI a2)] h Q X) (hQ : ∀ r h', Q r h' → ∃ v, r = some (.int (jI v)) ∧ h'.tag o = 38 ∧ h'.len o = 1 ∧ R (some (.int (jI 0))) (h'.sL 38 o 0 (jI v).toInt)) (hX : ∀ E h', X E h' → (E = eNSE ∧ R (some (.int (jI 1))) h')) : CT γ mL_force (f + 1) mc ms [.ref x, .int (jI a1), .int (jI a2), .ref o] h R X0 := by
  refine CT.ofW ML_force (Nat.le_of_ble_eq_true rfl) ?_
  show J γ mL_force (f + 1) mc ms 0 0 h 0 [(0, .ref x), (1, .int (jI a1)), (2, .int (jI a2)), (3, .ref o)] [] _ _
  first | refine J.aload_n (pc' := 1) rfl rfl rfl ?_ | refine J.aload_nN (pc' := 1) rfl rfl rfl ?_
  refine J.iconst (pc' := 2) rfl rfl ?_
  first | refine J.aload_n (pc' := 3) rfl rfl rfl ?_ | refine J.aload_nN (pc' := 3) rfl rfl rfl ?_
  refine J.iload_n (pc' := 4) rfl rfl rfl ?_
  refine J.iload_n (pc' := 5) rfl rfl rfl ?_
  refine J.callT (pc' := 8) (t := 15) rfl MX11_force ml_L_23 iv_X11_force (by decide) ⟨_, rfl, rfl⟩ tx hC rfl rfl (Nat.le_of_ble_eq_true rfl) (Nat.le_refl _) (by omega) (by omega) rfl ?_ ?_
  · intro E k hx
    rcases hX E k hx with ⟨rfl, z⟩
    · refine ⟨13, ⟨[], (0, 10, 13, 13), [], eNSE, rfl, fun _ w => (nomatch w), by decide, by decide, cl_N, ca_N, rfl⟩, fun q => ?_⟩
      first | refine J.astore (pc' := 15) rfl rfl (by decide) ?_ | refine J.astoreN (pc' := 15) rfl rfl (by decide) ?_
      refine J.iconst (pc' := 16) rfl rfl ?_
      refine J.iret rfl rfl (by first | omega | (exact R.r _ _) | (simp only [jM.len_sI, jM.len_sL, jM.len_sR, jM.len_fI, jM.len_fL, jM.len_fR]; omega) | (simp [jM.len_nw, jM.len_sI, jM.len_sL, jM.len_sR, jM.len_fI, jM.len_fL, jM.len_fR, *]; omega)) (by first | omega | (exact R.r _ _) | (simp only [jM.len_sI, jM.len_sL, jM.len_sR, jM.len_fI, jM.len_fL, jM.len_fR]; omega) | (simp [jM.len_nw, jM.len_sI, jM.len_sL, jM.len_sR, jM.len_fI, jM.len_fL, jM.len_fR, *]; omega)) ?_
      exact z
  · intro r k hq
    obtain ⟨v, rfl, t1, t2, z⟩ := hQ r k hq
    refine J.i2lT (pc' := 9) rfl rfl ?_
    refine J.last (pc' := 10) rfl (by first | assumption | (simp only [jM.tag_sI, jM.tag_sL, jM.tag_sR, jM.tag_fI, jM.tag_fL, jM.tag_fR]; assumption) | (simp [jM.tag_nw, jM.tag_sI, jM.tag_sL, jM.tag_sR, jM.tag_fI, jM.tag_fL, jM.tag_fR, *]; done)) (by decide) rfl (by first | omega | (exact R.r _ _) | (simp only [jM.len_sI, jM.len_sL, jM.len_sR, jM.len_fI, jM.len_fL, jM.len_fR]; omega) | (simp [jM.len_nw, jM.len_sI, jM.len_sL, jM.len_sR, jM.len_fI, jM.len_fL, jM.len_fR, *]; omega)) (by first | omega | (exact R.r _ _) | (simp only [jM.len_sI, jM.len_sL, jM.len_sR, jM.len_fI, jM.len_fL, jM.len_fR]; omega) | (simp [jM.len_nw, jM.len_sI, jM.len_sL, jM.len_sR, jM.len_fI, jM.len_fL, jM.len_fR, *]; omega)) (by first | omega | (exact R.r _ _) | (simp only [jM.len_sI, jM.len_sL, jM.len_sR, jM.len_fI, jM.len_fL, jM.len_fR]; omega) | (simp [jM.len_nw, jM.len_sI, jM.len_sL, jM.len_sR, jM.len_fI, jM.len_fL, jM.len_fR, *]; omega)) (Or.inl rfl) rfl ?_
    refine J.goto (tgt := 17) rfl rfl ?_
    refine J.iconst (pc' := 18) rfl rfl ?_
    refine J.iret rfl rfl (by first | omega | (exact R.r _ _) | (simp only [jM.len_sI, jM.len_sL, jM.len_sR, jM.len_fI, jM.len_fL, jM.len_fR]; omega) | (simp [jM.len_nw, jM.len_sI, jM.len_sL, jM.len_sR, jM.len_fI, jM.len_fL, jM.len_fR, *]; omega)) (by first | omega | (exact R.r _ _) | (simp only [jM.len_sI, jM.len_sL, jM.len_sR, jM.len_fI, jM.len_fL, jM.len_fR]; omega) | (simp [jM.len_nw, jM.len_sI, jM.len_sL, jM.len_sR, jM.len_fI, jM.len_fL, jM.len_fR, *]; omega)) ?_
    exact z
theorem wr_usual {a1 a2 a3 a4 : Int} {f mc ms : Nat} {Q R : Option Value → jM → Prop} {X : String → jM → Prop} (tx : h.tag x = 15) (hC : CT γ mX11_usual f mc ms [.ref x, .int (jI a1), .int (jI a2), .int (jI a3), .int (jI a4)] h Q X) (hQ : ∀ r h', Q r h' → ∃ v, r = some (.int (jI v)) ∧ h'.tag o = 38 ∧ h'.len o = 1 ∧ R (some (.int (jI 0))) (h'.sL 38 o 0 (jI v).toInt)) (hX : ∀ E h', X E h' → (E = eNSE ∧ R (some (.int (jI 1))) h') ∨ (E = eIAE ∧ R (some (.int (jI 2))) h')) : CT γ mL_usual (f + 1) mc ms [.ref x, .int (jI a1), .int (jI a2), .int (jI a3), .int (jI a4), .ref o] h R X0 := by
  refine CT.ofW ML_usual (Nat.le_of_ble_eq_true rfl) ?_
  show J γ mL_usual (f + 1) mc ms 0 0 h 0 [(0, .ref x), (1, .int (jI a1)), (2, .int (jI a2)), (3, .int (jI a3)), (4, .int (jI a4)), (5, .ref o)] [] _ _
  first | refine J.aload (pc' := 2) rfl rfl rfl ?_ | refine J.aloadN (pc' := 2) rfl rfl rfl ?_
  refine J.iconst (pc' := 3) rfl rfl ?_
  first | refine J.aload_n (pc' := 4) rfl rfl rfl ?_ | refine J.aload_nN (pc' := 4) rfl rfl rfl ?_
  refine J.iload_n (pc' := 5) rfl rfl rfl ?_
  refine J.iload_n (pc' := 6) rfl rfl rfl ?_
  refine J.iload_n (pc' := 7) rfl rfl rfl ?_
  refine J.iload (pc' := 9) rfl rfl rfl ?_
  refine J.callT (pc' := 12) (t := 15) rfl MX11_usual ml_L_27 iv_X11_usual (by decide) ⟨_, rfl, rfl⟩ tx hC rfl rfl (Nat.le_of_ble_eq_true rfl) (Nat.le_refl _) (by omega) (by omega) rfl ?_ ?_
  · intro E k hx
    rcases hX E k hx with ⟨rfl, z⟩ | ⟨rfl, z⟩
    · refine ⟨17, ⟨[], (0, 14, 17, 13), [(0, 14, 21, 15)], eNSE, rfl, fun _ w => (nomatch w), by decide, by decide, cl_N, ca_N, rfl⟩, fun q => ?_⟩
      first | refine J.astore (pc' := 19) rfl rfl (by decide) ?_ | refine J.astoreN (pc' := 19) rfl rfl (by decide) ?_
      refine J.iconst (pc' := 20) rfl rfl ?_
      refine J.iret rfl rfl (by first | omega | (exact R.r _ _) | (simp only [jM.len_sI, jM.len_sL, jM.len_sR, jM.len_fI, jM.len_fL, jM.len_fR]; omega) | (simp [jM.len_nw, jM.len_sI, jM.len_sL, jM.len_sR, jM.len_fI, jM.len_fL, jM.len_fR, *]; omega)) (by first | omega | (exact R.r _ _) | (simp only [jM.len_sI, jM.len_sL, jM.len_sR, jM.len_fI, jM.len_fL, jM.len_fR]; omega) | (simp [jM.len_nw, jM.len_sI, jM.len_sL, jM.len_sR, jM.len_fI, jM.len_fL, jM.len_fR, *]; omega)) ?_
      exact z
    · refine ⟨21, ⟨[(0, 14, 17, 13)], (0, 14, 21, 15), [], eIAE, rfl, fun y w => by rw [List.mem_singleton.mp w]; exact ⟨by decide, eNSE, cl_N, nc_IN⟩, by decide, by decide, cl_I, ca_I, rfl⟩, fun q => ?_⟩
      first | refine J.astore (pc' := 23) rfl rfl (by decide) ?_ | refine J.astoreN (pc' := 23) rfl rfl (by decide) ?_
      refine J.iconst (pc' := 24) rfl rfl ?_
      refine J.iret rfl rfl (by first | omega | (exact R.r _ _) | (simp only [jM.len_sI, jM.len_sL, jM.len_sR, jM.len_fI, jM.len_fL, jM.len_fR]; omega) | (simp [jM.len_nw, jM.len_sI, jM.len_sL, jM.len_sR, jM.len_fI, jM.len_fL, jM.len_fR, *]; omega)) (by first | omega | (exact R.r _ _) | (simp only [jM.len_sI, jM.len_sL, jM.len_sR, jM.len_fI, jM.len_fL, jM.len_fR]; omega) | (simp [jM.len_nw, jM.len_sI, jM.len_sL, jM.len_sR, jM.len_fI, jM.len_fL, jM.len_fR, *]; omega)) ?_
      exact z
  · intro r k hq
    obtain ⟨v, rfl, t1, t2, z⟩ := hQ r k hq
    refine J.i2lT (pc' := 13) rfl rfl ?_
    refine J.last (pc' := 14) rfl (by first | assumption | (simp only [jM.tag_sI, jM.tag_sL, jM.tag_sR, jM.tag_fI, jM.tag_fL, jM.tag_fR]; assumption) | (simp [jM.tag_nw, jM.tag_sI, jM.tag_sL, jM.tag_sR, jM.tag_fI, jM.tag_fL, jM.tag_fR, *]; done)) (by decide) rfl (by first | omega | (exact R.r _ _) | (simp only [jM.len_sI, jM.len_sL, jM.len_sR, jM.len_fI, jM.len_fL, jM.len_fR]; omega) | (simp [jM.len_nw, jM.len_sI, jM.len_sL, jM.len_sR, jM.len_fI, jM.len_fL, jM.len_fR, *]; omega)) (by first | omega | (exact R.r _ _) | (simp only [jM.len_sI, jM.len_sL, jM.len_sR, jM.len_fI, jM.len_fL, jM.len_fR]; omega) | (simp [jM.len_nw, jM.len_sI, jM.len_sL, jM.len_sR, jM.len_fI, jM.len_fL, jM.len_fR, *]; omega)) (by first | omega | (exact R.r _ _) | (simp only [jM.len_sI, jM.len_sL, jM.len_sR, jM.len_fI, jM.len_fL, jM.len_fR]; omega) | (simp [jM.len_nw, jM.len_sI, jM.len_sL, jM.len_sR, jM.len_fI, jM.len_fL, jM.len_fR, *]; omega)) (Or.inl rfl) rfl ?_
    refine J.goto (tgt := 25) rfl rfl ?_
    refine J.iconst (pc' := 26) rfl rfl ?_
    refine J.iret rfl rfl (by first | omega | (exact R.r _ _) | (simp only [jM.len_sI, jM.len_sL, jM.len_sR, jM.len_fI, jM.len_fL, jM.len_fR]; omega) | (simp [jM.len_nw, jM.len_sI, jM.len_sL, jM.len_sR, jM.len_fI, jM.len_fL, jM.len_fR, *]; omega)) (by first | omega | (exact R.r _ _) | (simp only [jM.len_sI, jM.len_sL, jM.len_sR, jM.len_fI, jM.len_fL, jM.len_fR]; omega) | (simp [jM.len_nw, jM.len_sI, jM.len_sL, jM.len_sR, jM.len_fI, jM.len_fL, jM.len_fR, *]; omega)) ?_
    exact z
theorem wr_load {a1 a2 a3 a4 : Int} {f mc ms : Nat} {Q R : Option Value → jM → Prop} {X : String → jM → Prop} (tx : h.tag x = 15) (hC : CT γ mX11_load f mc ms [.ref x, .int (jI a1), .int (jI a2), .int (jI a3), .int (jI a4)] h Q X) (hQ : ∀ r h', Q r h' → ∃ v, r = some (.int (jI v)) ∧ h'.tag o = 38 ∧ h'.len o = 1 ∧ R (some (.int (jI 0))) (h'.sL 38 o 0 (jI v).toInt)) (hX : ∀ E h', X E h' → (E = eNSE ∧ R (some (.int (jI 1))) h') ∨ (E = eIAE ∧ R (some (.int (jI 2))) h')) : CT γ mL_load (f + 1) mc ms [.ref x, .int (jI a1), .int (jI a2), .int (jI a3), .int (jI a4), .ref o] h R X0 := by
  refine CT.ofW ML_load (Nat.le_of_ble_eq_true rfl) ?_
  show J γ mL_load (f + 1) mc ms 0 0 h 0 [(0, .ref x), (1, .int (jI a1)), (2, .int (jI a2)), (3, .int (jI a3)), (4, .int (jI a4)), (5, .ref o)] [] _ _
  first | refine J.aload (pc' := 2) rfl rfl rfl ?_ | refine J.aloadN (pc' := 2) rfl rfl rfl ?_
  refine J.iconst (pc' := 3) rfl rfl ?_
  first | refine J.aload_n (pc' := 4) rfl rfl rfl ?_ | refine J.aload_nN (pc' := 4) rfl rfl rfl ?_
  refine J.iload_n (pc' := 5) rfl rfl rfl ?_
  refine J.iload_n (pc' := 6) rfl rfl rfl ?_
  refine J.iload_n (pc' := 7) rfl rfl rfl ?_
  refine J.iload (pc' := 9) rfl rfl rfl ?_
  refine J.callT (pc' := 12) (t := 15) rfl MX11_load ml_L_30 iv_X11_load (by decide) ⟨_, rfl, rfl⟩ tx hC rfl rfl (Nat.le_of_ble_eq_true rfl) (Nat.le_refl _) (by omega) (by omega) rfl ?_ ?_
  · intro E k hx
    rcases hX E k hx with ⟨rfl, z⟩ | ⟨rfl, z⟩
    · refine ⟨17, ⟨[], (0, 14, 17, 13), [(0, 14, 21, 15)], eNSE, rfl, fun _ w => (nomatch w), by decide, by decide, cl_N, ca_N, rfl⟩, fun q => ?_⟩
      first | refine J.astore (pc' := 19) rfl rfl (by decide) ?_ | refine J.astoreN (pc' := 19) rfl rfl (by decide) ?_
      refine J.iconst (pc' := 20) rfl rfl ?_
      refine J.iret rfl rfl (by first | omega | (exact R.r _ _) | (simp only [jM.len_sI, jM.len_sL, jM.len_sR, jM.len_fI, jM.len_fL, jM.len_fR]; omega) | (simp [jM.len_nw, jM.len_sI, jM.len_sL, jM.len_sR, jM.len_fI, jM.len_fL, jM.len_fR, *]; omega)) (by first | omega | (exact R.r _ _) | (simp only [jM.len_sI, jM.len_sL, jM.len_sR, jM.len_fI, jM.len_fL, jM.len_fR]; omega) | (simp [jM.len_nw, jM.len_sI, jM.len_sL, jM.len_sR, jM.len_fI, jM.len_fL, jM.len_fR, *]; omega)) ?_
      exact z
    · refine ⟨21, ⟨[(0, 14, 17, 13)], (0, 14, 21, 15), [], eIAE, rfl, fun y w => by rw [List.mem_singleton.mp w]; exact ⟨by decide, eNSE, cl_N, nc_IN⟩, by decide, by decide, cl_I, ca_I, rfl⟩, fun q => ?_⟩
      first | refine J.astore (pc' := 23) rfl rfl (by decide) ?_ | refine J.astoreN (pc' := 23) rfl rfl (by decide) ?_
      refine J.iconst (pc' := 24) rfl rfl ?_
      refine J.iret rfl rfl (by first | omega | (exact R.r _ _) | (simp only [jM.len_sI, jM.len_sL, jM.len_sR, jM.len_fI, jM.len_fL, jM.len_fR]; omega) | (simp [jM.len_nw, jM.len_sI, jM.len_sL, jM.len_sR, jM.len_fI, jM.len_fL, jM.len_fR, *]; omega)) (by first | omega | (exact R.r _ _) | (simp only [jM.len_sI, jM.len_sL, jM.len_sR, jM.len_fI, jM.len_fL, jM.len_fR]; omega) | (simp [jM.len_nw, jM.len_sI, jM.len_sL, jM.len_sR, jM.len_fI, jM.len_fL, jM.len_fR, *]; omega)) ?_
      exact z
  · intro r k hq
    obtain ⟨v, rfl, t1, t2, z⟩ := hQ r k hq
    refine J.i2lT (pc' := 13) rfl rfl ?_
    refine J.last (pc' := 14) rfl (by first | assumption | (simp only [jM.tag_sI, jM.tag_sL, jM.tag_sR, jM.tag_fI, jM.tag_fL, jM.tag_fR]; assumption) | (simp [jM.tag_nw, jM.tag_sI, jM.tag_sL, jM.tag_sR, jM.tag_fI, jM.tag_fL, jM.tag_fR, *]; done)) (by decide) rfl (by first | omega | (exact R.r _ _) | (simp only [jM.len_sI, jM.len_sL, jM.len_sR, jM.len_fI, jM.len_fL, jM.len_fR]; omega) | (simp [jM.len_nw, jM.len_sI, jM.len_sL, jM.len_sR, jM.len_fI, jM.len_fL, jM.len_fR, *]; omega)) (by first | omega | (exact R.r _ _) | (simp only [jM.len_sI, jM.len_sL, jM.len_sR, jM.len_fI, jM.len_fL, jM.len_fR]; omega) | (simp [jM.len_nw, jM.len_sI, jM.len_sL, jM.len_sR, jM.len_fI, jM.len_fL, jM.len_fR, *]; omega)) (by first | omega | (exact R.r _ _) | (simp only [jM.len_sI, jM.len_sL, jM.len_sR, jM.len_fI, jM.len_fL, jM.len_fR]; omega) | (simp [jM.len_nw, jM.len_sI, jM.len_sL, jM.len_sR, jM.len_fI, jM.len_fL, jM.len_fR, *]; omega)) (Or.inl rfl) rfl ?_
    refine J.goto (tgt := 25) rfl rfl ?_
    refine J.iconst (pc' := 26) rfl rfl ?_
    refine J.iret rfl rfl (by first | omega | (exact R.r _ _) | (simp only [jM.len_sI, jM.len_sL, jM.len_sR, jM.len_fI, jM.len_fL, jM.len_fR]; omega) | (simp [jM.len_nw, jM.len_sI, jM.len_sL, jM.len_sR, jM.len_fI, jM.len_fL, jM.len_fR, *]; omega)) (by first | omega | (exact R.r _ _) | (simp only [jM.len_sI, jM.len_sL, jM.len_sR, jM.len_fI, jM.len_fL, jM.len_fR]; omega) | (simp [jM.len_nw, jM.len_sI, jM.len_sL, jM.len_sR, jM.len_fI, jM.len_fL, jM.len_fR, *]; omega)) ?_
    exact z
theorem wr_told {a1 a2 : Int} {f mc ms : Nat} {Q R : Option Value → jM → Prop} {X : String → jM → Prop} (tx : h.tag x = 15) (hC : CT γ mX11_told f mc ms [.ref x, .int (jI a1), .int (jI a2)] h Q X) (hQ : ∀ r h', Q r h' → ∃ v, r = some (.int (jI v)) ∧ h'.tag o = 38 ∧ h'.len o = 1 ∧ R (some (.int (jI 0))) (h'.sL 38 o 0 (jI v).toInt)) (hX : ∀ E h', X E h' → (E = eNSE ∧ R (some (.int (jI 1))) h') ∨ (E = eIAE ∧ R (some (.int (jI 2))) h')) : CT γ mL_told (f + 1) mc ms [.ref x, .int (jI a1), .int (jI a2), .ref o] h R X0 := by
  refine CT.ofW ML_told (Nat.le_of_ble_eq_true rfl) ?_
  show J γ mL_told (f + 1) mc ms 0 0 h 0 [(0, .ref x), (1, .int (jI a1)), (2, .int (jI a2)), (3, .ref o)] [] _ _
  first | refine J.aload_n (pc' := 1) rfl rfl rfl ?_ | refine J.aload_nN (pc' := 1) rfl rfl rfl ?_
  refine J.iconst (pc' := 2) rfl rfl ?_
  first | refine J.aload_n (pc' := 3) rfl rfl rfl ?_ | refine J.aload_nN (pc' := 3) rfl rfl rfl ?_
  refine J.iload_n (pc' := 4) rfl rfl rfl ?_
  refine J.iload_n (pc' := 5) rfl rfl rfl ?_
  refine J.callT (pc' := 8) (t := 15) rfl MX11_told ml_L_33 iv_X11_told (by decide) ⟨_, rfl, rfl⟩ tx hC rfl rfl (Nat.le_of_ble_eq_true rfl) (Nat.le_refl _) (by omega) (by omega) rfl ?_ ?_
  · intro E k hx
    rcases hX E k hx with ⟨rfl, z⟩ | ⟨rfl, z⟩
    · refine ⟨13, ⟨[], (0, 10, 13, 13), [(0, 10, 17, 15)], eNSE, rfl, fun _ w => (nomatch w), by decide, by decide, cl_N, ca_N, rfl⟩, fun q => ?_⟩
      first | refine J.astore (pc' := 15) rfl rfl (by decide) ?_ | refine J.astoreN (pc' := 15) rfl rfl (by decide) ?_
      refine J.iconst (pc' := 16) rfl rfl ?_
      refine J.iret rfl rfl (by first | omega | (exact R.r _ _) | (simp only [jM.len_sI, jM.len_sL, jM.len_sR, jM.len_fI, jM.len_fL, jM.len_fR]; omega) | (simp [jM.len_nw, jM.len_sI, jM.len_sL, jM.len_sR, jM.len_fI, jM.len_fL, jM.len_fR, *]; omega)) (by first | omega | (exact R.r _ _) | (simp only [jM.len_sI, jM.len_sL, jM.len_sR, jM.len_fI, jM.len_fL, jM.len_fR]; omega) | (simp [jM.len_nw, jM.len_sI, jM.len_sL, jM.len_sR, jM.len_fI, jM.len_fL, jM.len_fR, *]; omega)) ?_
      exact z
    · refine ⟨17, ⟨[(0, 10, 13, 13)], (0, 10, 17, 15), [], eIAE, rfl, fun y w => by rw [List.mem_singleton.mp w]; exact ⟨by decide, eNSE, cl_N, nc_IN⟩, by decide, by decide, cl_I, ca_I, rfl⟩, fun q => ?_⟩
      first | refine J.astore (pc' := 19) rfl rfl (by decide) ?_ | refine J.astoreN (pc' := 19) rfl rfl (by decide) ?_
      refine J.iconst (pc' := 20) rfl rfl ?_
      refine J.iret rfl rfl (by first | omega | (exact R.r _ _) | (simp only [jM.len_sI, jM.len_sL, jM.len_sR, jM.len_fI, jM.len_fL, jM.len_fR]; omega) | (simp [jM.len_nw, jM.len_sI, jM.len_sL, jM.len_sR, jM.len_fI, jM.len_fL, jM.len_fR, *]; omega)) (by first | omega | (exact R.r _ _) | (simp only [jM.len_sI, jM.len_sL, jM.len_sR, jM.len_fI, jM.len_fL, jM.len_fR]; omega) | (simp [jM.len_nw, jM.len_sI, jM.len_sL, jM.len_sR, jM.len_fI, jM.len_fL, jM.len_fR, *]; omega)) ?_
      exact z
  · intro r k hq
    obtain ⟨v, rfl, t1, t2, z⟩ := hQ r k hq
    refine J.i2lT (pc' := 9) rfl rfl ?_
    refine J.last (pc' := 10) rfl (by first | assumption | (simp only [jM.tag_sI, jM.tag_sL, jM.tag_sR, jM.tag_fI, jM.tag_fL, jM.tag_fR]; assumption) | (simp [jM.tag_nw, jM.tag_sI, jM.tag_sL, jM.tag_sR, jM.tag_fI, jM.tag_fL, jM.tag_fR, *]; done)) (by decide) rfl (by first | omega | (exact R.r _ _) | (simp only [jM.len_sI, jM.len_sL, jM.len_sR, jM.len_fI, jM.len_fL, jM.len_fR]; omega) | (simp [jM.len_nw, jM.len_sI, jM.len_sL, jM.len_sR, jM.len_fI, jM.len_fL, jM.len_fR, *]; omega)) (by first | omega | (exact R.r _ _) | (simp only [jM.len_sI, jM.len_sL, jM.len_sR, jM.len_fI, jM.len_fL, jM.len_fR]; omega) | (simp [jM.len_nw, jM.len_sI, jM.len_sL, jM.len_sR, jM.len_fI, jM.len_fL, jM.len_fR, *]; omega)) (by first | omega | (exact R.r _ _) | (simp only [jM.len_sI, jM.len_sL, jM.len_sR, jM.len_fI, jM.len_fL, jM.len_fR]; omega) | (simp [jM.len_nw, jM.len_sI, jM.len_sL, jM.len_sR, jM.len_fI, jM.len_fL, jM.len_fR, *]; omega)) (Or.inl rfl) rfl ?_
    refine J.goto (tgt := 21) rfl rfl ?_
    refine J.iconst (pc' := 22) rfl rfl ?_
    refine J.iret rfl rfl (by first | omega | (exact R.r _ _) | (simp only [jM.len_sI, jM.len_sL, jM.len_sR, jM.len_fI, jM.len_fL, jM.len_fR]; omega) | (simp [jM.len_nw, jM.len_sI, jM.len_sL, jM.len_sR, jM.len_fI, jM.len_fL, jM.len_fR, *]; omega)) (by first | omega | (exact R.r _ _) | (simp only [jM.len_sI, jM.len_sL, jM.len_sR, jM.len_fI, jM.len_fL, jM.len_fR]; omega) | (simp [jM.len_nw, jM.len_sI, jM.len_sL, jM.len_sR, jM.len_fI, jM.len_fL, jM.len_fR, *]; omega)) ?_
    exact z
theorem wr_sample {a1 a2 a3 a4 : Int} {f mc ms : Nat} {Q R : Option Value → jM → Prop} {X : String → jM → Prop} (tx : h.tag x = 15) (hC : CT γ mX11_sample f mc ms [.ref x, .int (jI a1), .int (jI a2), .int (jI a3), .int (jI a4)] h Q X) (hQ : ∀ r h', Q r h' → ∃ v, r = some (.int (jI v)) ∧ h'.tag o = 38 ∧ h'.len o = 1 ∧ R (some (.int (jI 0))) (h'.sL 38 o 0 (jI v).toInt)) (hX : ∀ E h', X E h' → (E = eNSE ∧ R (some (.int (jI 1))) h') ∨ (E = eIAE ∧ R (some (.int (jI 2))) h')) : CT γ mL_sample (f + 1) mc ms [.ref x, .int (jI a1), .int (jI a2), .int (jI a3), .int (jI a4), .ref o] h R X0 := by
  refine CT.ofW ML_sample (Nat.le_of_ble_eq_true rfl) ?_
  show J γ mL_sample (f + 1) mc ms 0 0 h 0 [(0, .ref x), (1, .int (jI a1)), (2, .int (jI a2)), (3, .int (jI a3)), (4, .int (jI a4)), (5, .ref o)] [] _ _
  first | refine J.aload (pc' := 2) rfl rfl rfl ?_ | refine J.aloadN (pc' := 2) rfl rfl rfl ?_
  refine J.iconst (pc' := 3) rfl rfl ?_
  first | refine J.aload_n (pc' := 4) rfl rfl rfl ?_ | refine J.aload_nN (pc' := 4) rfl rfl rfl ?_
  refine J.iload_n (pc' := 5) rfl rfl rfl ?_
  refine J.iload_n (pc' := 6) rfl rfl rfl ?_
  refine J.iload_n (pc' := 7) rfl rfl rfl ?_
  refine J.iload (pc' := 9) rfl rfl rfl ?_
  refine J.callT (pc' := 12) (t := 15) rfl MX11_sample ml_L_36 iv_X11_sample (by decide) ⟨_, rfl, rfl⟩ tx hC rfl rfl (Nat.le_of_ble_eq_true rfl) (Nat.le_refl _) (by omega) (by omega) rfl ?_ ?_
  · intro E k hx
    rcases hX E k hx with ⟨rfl, z⟩ | ⟨rfl, z⟩
    · refine ⟨17, ⟨[], (0, 14, 17, 13), [(0, 14, 21, 15)], eNSE, rfl, fun _ w => (nomatch w), by decide, by decide, cl_N, ca_N, rfl⟩, fun q => ?_⟩
      first | refine J.astore (pc' := 19) rfl rfl (by decide) ?_ | refine J.astoreN (pc' := 19) rfl rfl (by decide) ?_
      refine J.iconst (pc' := 20) rfl rfl ?_
      refine J.iret rfl rfl (by first | omega | (exact R.r _ _) | (simp only [jM.len_sI, jM.len_sL, jM.len_sR, jM.len_fI, jM.len_fL, jM.len_fR]; omega) | (simp [jM.len_nw, jM.len_sI, jM.len_sL, jM.len_sR, jM.len_fI, jM.len_fL, jM.len_fR, *]; omega)) (by first | omega | (exact R.r _ _) | (simp only [jM.len_sI, jM.len_sL, jM.len_sR, jM.len_fI, jM.len_fL, jM.len_fR]; omega) | (simp [jM.len_nw, jM.len_sI, jM.len_sL, jM.len_sR, jM.len_fI, jM.len_fL, jM.len_fR, *]; omega)) ?_
      exact z
    · refine ⟨21, ⟨[(0, 14, 17, 13)], (0, 14, 21, 15), [], eIAE, rfl, fun y w => by rw [List.mem_singleton.mp w]; exact ⟨by decide, eNSE, cl_N, nc_IN⟩, by decide, by decide, cl_I, ca_I, rfl⟩, fun q => ?_⟩
      first | refine J.astore (pc' := 23) rfl rfl (by decide) ?_ | refine J.astoreN (pc' := 23) rfl rfl (by decide) ?_
      refine J.iconst (pc' := 24) rfl rfl ?_
      refine J.iret rfl rfl (by first | omega | (exact R.r _ _) | (simp only [jM.len_sI, jM.len_sL, jM.len_sR, jM.len_fI, jM.len_fL, jM.len_fR]; omega) | (simp [jM.len_nw, jM.len_sI, jM.len_sL, jM.len_sR, jM.len_fI, jM.len_fL, jM.len_fR, *]; omega)) (by first | omega | (exact R.r _ _) | (simp only [jM.len_sI, jM.len_sL, jM.len_sR, jM.len_fI, jM.len_fL, jM.len_fR]; omega) | (simp [jM.len_nw, jM.len_sI, jM.len_sL, jM.len_sR, jM.len_fI, jM.len_fL, jM.len_fR, *]; omega)) ?_
      exact z
  · intro r k hq
    obtain ⟨v, rfl, t1, t2, z⟩ := hQ r k hq
    refine J.i2lT (pc' := 13) rfl rfl ?_
    refine J.last (pc' := 14) rfl (by first | assumption | (simp only [jM.tag_sI, jM.tag_sL, jM.tag_sR, jM.tag_fI, jM.tag_fL, jM.tag_fR]; assumption) | (simp [jM.tag_nw, jM.tag_sI, jM.tag_sL, jM.tag_sR, jM.tag_fI, jM.tag_fL, jM.tag_fR, *]; done)) (by decide) rfl (by first | omega | (exact R.r _ _) | (simp only [jM.len_sI, jM.len_sL, jM.len_sR, jM.len_fI, jM.len_fL, jM.len_fR]; omega) | (simp [jM.len_nw, jM.len_sI, jM.len_sL, jM.len_sR, jM.len_fI, jM.len_fL, jM.len_fR, *]; omega)) (by first | omega | (exact R.r _ _) | (simp only [jM.len_sI, jM.len_sL, jM.len_sR, jM.len_fI, jM.len_fL, jM.len_fR]; omega) | (simp [jM.len_nw, jM.len_sI, jM.len_sL, jM.len_sR, jM.len_fI, jM.len_fL, jM.len_fR, *]; omega)) (by first | omega | (exact R.r _ _) | (simp only [jM.len_sI, jM.len_sL, jM.len_sR, jM.len_fI, jM.len_fL, jM.len_fR]; omega) | (simp [jM.len_nw, jM.len_sI, jM.len_sL, jM.len_sR, jM.len_fI, jM.len_fL, jM.len_fR, *]; omega)) (Or.inl rfl) rfl ?_
    refine J.goto (tgt := 25) rfl rfl ?_
    refine J.iconst (pc' := 26) rfl rfl ?_
    refine J.iret rfl rfl (by first | omega | (exact R.r _ _) | (simp only [jM.len_sI, jM.len_sL, jM.len_sR, jM.len_fI, jM.len_fL, jM.len_fR]; omega) | (simp [jM.len_nw, jM.len_sI, jM.len_sL, jM.len_sR, jM.len_fI, jM.len_fL, jM.len_fR, *]; omega)) (by first | omega | (exact R.r _ _) | (simp only [jM.len_sI, jM.len_sL, jM.len_sR, jM.len_fI, jM.len_fL, jM.len_fR]; omega) | (simp [jM.len_nw, jM.len_sI, jM.len_sL, jM.len_sR, jM.len_fI, jM.len_fL, jM.len_fR, *]; omega)) ?_
    exact z
theorem wr_tons {a1 : Int} {f mc ms : Nat} {Q R : Option Value → jM → Prop} {X : String → jM → Prop} (tx : h.tag x = 15) (hC : CT γ mX11_tons f mc ms [.ref x, .int (jI a1)] h Q X) (hQ : ∀ r h', Q r h' → ∃ v, r = some (.int (jI v)) ∧ h'.tag o = 38 ∧ h'.len o = 1 ∧ R (some (.int (jI 0))) (h'.sL 38 o 0 (jI v).toInt)) (hX : ∀ E h', X E h' → (E = eIAE ∧ R (some (.int (jI 1))) h')) : CT γ mL_tons (f + 1) mc ms [.ref x, .int (jI a1), .ref o] h R X0 := by
  refine CT.ofW ML_tons (Nat.le_of_ble_eq_true rfl) ?_
  show J γ mL_tons (f + 1) mc ms 0 0 h 0 [(0, .ref x), (1, .int (jI a1)), (2, .ref o)] [] _ _
  first | refine J.aload_n (pc' := 1) rfl rfl rfl ?_ | refine J.aload_nN (pc' := 1) rfl rfl rfl ?_
  refine J.iconst (pc' := 2) rfl rfl ?_
  first | refine J.aload_n (pc' := 3) rfl rfl rfl ?_ | refine J.aload_nN (pc' := 3) rfl rfl rfl ?_
  refine J.iload_n (pc' := 4) rfl rfl rfl ?_
  refine J.callT (pc' := 7) (t := 15) rfl MX11_tons ml_L_39 iv_X11_tons (by decide) ⟨_, rfl, rfl⟩ tx hC rfl rfl (Nat.le_of_ble_eq_true rfl) (Nat.le_refl _) (by omega) (by omega) rfl ?_ ?_
  · intro E k hx
    rcases hX E k hx with ⟨rfl, z⟩
    · refine ⟨12, ⟨[], (0, 9, 12, 15), [], eIAE, rfl, fun _ w => (nomatch w), by decide, by decide, cl_I, ca_I, rfl⟩, fun q => ?_⟩
      first | refine J.astore_n (pc' := 13) rfl rfl (by decide) ?_ | refine J.astore_nN (pc' := 13) rfl rfl (by decide) ?_
      refine J.iconst (pc' := 14) rfl rfl ?_
      refine J.iret rfl rfl (by first | omega | (exact R.r _ _) | (simp only [jM.len_sI, jM.len_sL, jM.len_sR, jM.len_fI, jM.len_fL, jM.len_fR]; omega) | (simp [jM.len_nw, jM.len_sI, jM.len_sL, jM.len_sR, jM.len_fI, jM.len_fL, jM.len_fR, *]; omega)) (by first | omega | (exact R.r _ _) | (simp only [jM.len_sI, jM.len_sL, jM.len_sR, jM.len_fI, jM.len_fL, jM.len_fR]; omega) | (simp [jM.len_nw, jM.len_sI, jM.len_sL, jM.len_sR, jM.len_fI, jM.len_fL, jM.len_fR, *]; omega)) ?_
      exact z
  · intro r k hq
    obtain ⟨v, rfl, t1, t2, z⟩ := hQ r k hq
    refine J.i2lT (pc' := 8) rfl rfl ?_
    refine J.last (pc' := 9) rfl (by first | assumption | (simp only [jM.tag_sI, jM.tag_sL, jM.tag_sR, jM.tag_fI, jM.tag_fL, jM.tag_fR]; assumption) | (simp [jM.tag_nw, jM.tag_sI, jM.tag_sL, jM.tag_sR, jM.tag_fI, jM.tag_fL, jM.tag_fR, *]; done)) (by decide) rfl (by first | omega | (exact R.r _ _) | (simp only [jM.len_sI, jM.len_sL, jM.len_sR, jM.len_fI, jM.len_fL, jM.len_fR]; omega) | (simp [jM.len_nw, jM.len_sI, jM.len_sL, jM.len_sR, jM.len_fI, jM.len_fL, jM.len_fR, *]; omega)) (by first | omega | (exact R.r _ _) | (simp only [jM.len_sI, jM.len_sL, jM.len_sR, jM.len_fI, jM.len_fL, jM.len_fR]; omega) | (simp [jM.len_nw, jM.len_sI, jM.len_sL, jM.len_sR, jM.len_fI, jM.len_fL, jM.len_fR, *]; omega)) (by first | omega | (exact R.r _ _) | (simp only [jM.len_sI, jM.len_sL, jM.len_sR, jM.len_fI, jM.len_fL, jM.len_fR]; omega) | (simp [jM.len_nw, jM.len_sI, jM.len_sL, jM.len_sR, jM.len_fI, jM.len_fL, jM.len_fR, *]; omega)) (Or.inl rfl) rfl ?_
    refine J.goto (tgt := 15) rfl rfl ?_
    refine J.iconst (pc' := 16) rfl rfl ?_
    refine J.iret rfl rfl (by first | omega | (exact R.r _ _) | (simp only [jM.len_sI, jM.len_sL, jM.len_sR, jM.len_fI, jM.len_fL, jM.len_fR]; omega) | (simp [jM.len_nw, jM.len_sI, jM.len_sL, jM.len_sR, jM.len_fI, jM.len_fL, jM.len_fR, *]; omega)) (by first | omega | (exact R.r _ _) | (simp only [jM.len_sI, jM.len_sL, jM.len_sR, jM.len_fI, jM.len_fL, jM.len_fR]; omega) | (simp [jM.len_nw, jM.len_sI, jM.len_sL, jM.len_sR, jM.len_fI, jM.len_fL, jM.len_fR, *]; omega)) ?_
    exact z
theorem wr_layers {a1 : Int} {f mc ms : Nat} {Q R : Option Value → jM → Prop} {X : String → jM → Prop} (tx : h.tag x = 15) (hC : CT γ mX11_layers f mc ms [.ref x, .int (jI a1)] h Q X) (hQ : ∀ r h', Q r h' → ∃ v, r = some (.int (jI v)) ∧ h'.tag o = 38 ∧ h'.len o = 1 ∧ R (some (.int (jI 0))) (h'.sL 38 o 0 (jI v).toInt)) (hX : ∀ E h', X E h' → (E = eIAE ∧ R (some (.int (jI 1))) h')) : CT γ mL_layers (f + 1) mc ms [.ref x, .int (jI a1), .ref o] h R X0 := by
  refine CT.ofW ML_layers (Nat.le_of_ble_eq_true rfl) ?_
  show J γ mL_layers (f + 1) mc ms 0 0 h 0 [(0, .ref x), (1, .int (jI a1)), (2, .ref o)] [] _ _
  first | refine J.aload_n (pc' := 1) rfl rfl rfl ?_ | refine J.aload_nN (pc' := 1) rfl rfl rfl ?_
  refine J.iconst (pc' := 2) rfl rfl ?_
  first | refine J.aload_n (pc' := 3) rfl rfl rfl ?_ | refine J.aload_nN (pc' := 3) rfl rfl rfl ?_
  refine J.iload_n (pc' := 4) rfl rfl rfl ?_
  refine J.callT (pc' := 7) (t := 15) rfl MX11_layers ml_L_43 iv_X11_layers (by decide) ⟨_, rfl, rfl⟩ tx hC rfl rfl (Nat.le_of_ble_eq_true rfl) (Nat.le_refl _) (by omega) (by omega) rfl ?_ ?_
  · intro E k hx
    rcases hX E k hx with ⟨rfl, z⟩
    · refine ⟨12, ⟨[], (0, 9, 12, 15), [], eIAE, rfl, fun _ w => (nomatch w), by decide, by decide, cl_I, ca_I, rfl⟩, fun q => ?_⟩
      first | refine J.astore_n (pc' := 13) rfl rfl (by decide) ?_ | refine J.astore_nN (pc' := 13) rfl rfl (by decide) ?_
      refine J.iconst (pc' := 14) rfl rfl ?_
      refine J.iret rfl rfl (by first | omega | (exact R.r _ _) | (simp only [jM.len_sI, jM.len_sL, jM.len_sR, jM.len_fI, jM.len_fL, jM.len_fR]; omega) | (simp [jM.len_nw, jM.len_sI, jM.len_sL, jM.len_sR, jM.len_fI, jM.len_fL, jM.len_fR, *]; omega)) (by first | omega | (exact R.r _ _) | (simp only [jM.len_sI, jM.len_sL, jM.len_sR, jM.len_fI, jM.len_fL, jM.len_fR]; omega) | (simp [jM.len_nw, jM.len_sI, jM.len_sL, jM.len_sR, jM.len_fI, jM.len_fL, jM.len_fR, *]; omega)) ?_
      exact z
  · intro r k hq
    obtain ⟨v, rfl, t1, t2, z⟩ := hQ r k hq
    refine J.i2lT (pc' := 8) rfl rfl ?_
    refine J.last (pc' := 9) rfl (by first | assumption | (simp only [jM.tag_sI, jM.tag_sL, jM.tag_sR, jM.tag_fI, jM.tag_fL, jM.tag_fR]; assumption) | (simp [jM.tag_nw, jM.tag_sI, jM.tag_sL, jM.tag_sR, jM.tag_fI, jM.tag_fL, jM.tag_fR, *]; done)) (by decide) rfl (by first | omega | (exact R.r _ _) | (simp only [jM.len_sI, jM.len_sL, jM.len_sR, jM.len_fI, jM.len_fL, jM.len_fR]; omega) | (simp [jM.len_nw, jM.len_sI, jM.len_sL, jM.len_sR, jM.len_fI, jM.len_fL, jM.len_fR, *]; omega)) (by first | omega | (exact R.r _ _) | (simp only [jM.len_sI, jM.len_sL, jM.len_sR, jM.len_fI, jM.len_fL, jM.len_fR]; omega) | (simp [jM.len_nw, jM.len_sI, jM.len_sL, jM.len_sR, jM.len_fI, jM.len_fL, jM.len_fR, *]; omega)) (by first | omega | (exact R.r _ _) | (simp only [jM.len_sI, jM.len_sL, jM.len_sR, jM.len_fI, jM.len_fL, jM.len_fR]; omega) | (simp [jM.len_nw, jM.len_sI, jM.len_sL, jM.len_sR, jM.len_fI, jM.len_fL, jM.len_fR, *]; omega)) (Or.inl rfl) rfl ?_
    refine J.goto (tgt := 15) rfl rfl ?_
    refine J.iconst (pc' := 16) rfl rfl ?_
    refine J.iret rfl rfl (by first | omega | (exact R.r _ _) | (simp only [jM.len_sI, jM.len_sL, jM.len_sR, jM.len_fI, jM.len_fL, jM.len_fR]; omega) | (simp [jM.len_nw, jM.len_sI, jM.len_sL, jM.len_sR, jM.len_fI, jM.len_fL, jM.len_fR, *]; omega)) (by first | omega | (exact R.r _ _) | (simp only [jM.len_sI, jM.len_sL, jM.len_sR, jM.len_fI, jM.len_fL, jM.len_fR]; omega) | (simp [jM.len_nw, jM.len_sI, jM.len_sL, jM.len_sR, jM.len_fI, jM.len_fL, jM.len_fR, *]; omega)) ?_
    exact z
theorem wr_layer {a1 a2 a3 : Int} {f mc ms : Nat} {Q R : Option Value → jM → Prop} {X : String → jM → Prop} (tx : h.tag x = 15) (hC : CT γ mX11_layer f mc ms [.ref x, .int (jI a1), .int (jI a2), .int (jI a3)] h Q X) (hQ : ∀ r h', Q r h' → ∃ v, r = some (.int (jI v)) ∧ h'.tag o = 38 ∧ h'.len o = 1 ∧ R (some (.int (jI 0))) (h'.sL 38 o 0 (jI v).toInt)) (hX : ∀ E h', X E h' → (E = eIAE ∧ R (some (.int (jI 1))) h') ∨ (E = eNSE ∧ R (some (.int (jI 2))) h')) : CT γ mL_layer (f + 1) mc ms [.ref x, .int (jI a1), .int (jI a2), .int (jI a3), .ref o] h R X0 := by
  refine CT.ofW ML_layer (Nat.le_of_ble_eq_true rfl) ?_
  show J γ mL_layer (f + 1) mc ms 0 0 h 0 [(0, .ref x), (1, .int (jI a1)), (2, .int (jI a2)), (3, .int (jI a3)), (4, .ref o)] [] _ _
  first | refine J.aload (pc' := 2) rfl rfl rfl ?_ | refine J.aloadN (pc' := 2) rfl rfl rfl ?_
  refine J.iconst (pc' := 3) rfl rfl ?_
  first | refine J.aload_n (pc' := 4) rfl rfl rfl ?_ | refine J.aload_nN (pc' := 4) rfl rfl rfl ?_
  refine J.iload_n (pc' := 5) rfl rfl rfl ?_
  refine J.iload_n (pc' := 6) rfl rfl rfl ?_
  refine J.iload_n (pc' := 7) rfl rfl rfl ?_
  refine J.callT (pc' := 10) (t := 15) rfl MX11_layer ml_L_46 iv_X11_layer (by decide) ⟨_, rfl, rfl⟩ tx hC rfl rfl (Nat.le_of_ble_eq_true rfl) (Nat.le_refl _) (by omega) (by omega) rfl ?_ ?_
  · intro E k hx
    rcases hX E k hx with ⟨rfl, z⟩ | ⟨rfl, z⟩
    · refine ⟨15, ⟨[], (0, 12, 15, 15), [(0, 12, 19, 13)], eIAE, rfl, fun _ w => (nomatch w), by decide, by decide, cl_I, ca_I, rfl⟩, fun q => ?_⟩
      first | refine J.astore (pc' := 17) rfl rfl (by decide) ?_ | refine J.astoreN (pc' := 17) rfl rfl (by decide) ?_
      refine J.iconst (pc' := 18) rfl rfl ?_
      refine J.iret rfl rfl (by first | omega | (exact R.r _ _) | (simp only [jM.len_sI, jM.len_sL, jM.len_sR, jM.len_fI, jM.len_fL, jM.len_fR]; omega) | (simp [jM.len_nw, jM.len_sI, jM.len_sL, jM.len_sR, jM.len_fI, jM.len_fL, jM.len_fR, *]; omega)) (by first | omega | (exact R.r _ _) | (simp only [jM.len_sI, jM.len_sL, jM.len_sR, jM.len_fI, jM.len_fL, jM.len_fR]; omega) | (simp [jM.len_nw, jM.len_sI, jM.len_sL, jM.len_sR, jM.len_fI, jM.len_fL, jM.len_fR, *]; omega)) ?_
      exact z
    · refine ⟨19, ⟨[(0, 12, 15, 15)], (0, 12, 19, 13), [], eNSE, rfl, fun y w => by rw [List.mem_singleton.mp w]; exact ⟨by decide, eIAE, cl_I, nc_NI⟩, by decide, by decide, cl_N, ca_N, rfl⟩, fun q => ?_⟩
      first | refine J.astore (pc' := 21) rfl rfl (by decide) ?_ | refine J.astoreN (pc' := 21) rfl rfl (by decide) ?_
      refine J.iconst (pc' := 22) rfl rfl ?_
      refine J.iret rfl rfl (by first | omega | (exact R.r _ _) | (simp only [jM.len_sI, jM.len_sL, jM.len_sR, jM.len_fI, jM.len_fL, jM.len_fR]; omega) | (simp [jM.len_nw, jM.len_sI, jM.len_sL, jM.len_sR, jM.len_fI, jM.len_fL, jM.len_fR, *]; omega)) (by first | omega | (exact R.r _ _) | (simp only [jM.len_sI, jM.len_sL, jM.len_sR, jM.len_fI, jM.len_fL, jM.len_fR]; omega) | (simp [jM.len_nw, jM.len_sI, jM.len_sL, jM.len_sR, jM.len_fI, jM.len_fL, jM.len_fR, *]; omega)) ?_
      exact z
  · intro r k hq
    obtain ⟨v, rfl, t1, t2, z⟩ := hQ r k hq
    refine J.i2lT (pc' := 11) rfl rfl ?_
    refine J.last (pc' := 12) rfl (by first | assumption | (simp only [jM.tag_sI, jM.tag_sL, jM.tag_sR, jM.tag_fI, jM.tag_fL, jM.tag_fR]; assumption) | (simp [jM.tag_nw, jM.tag_sI, jM.tag_sL, jM.tag_sR, jM.tag_fI, jM.tag_fL, jM.tag_fR, *]; done)) (by decide) rfl (by first | omega | (exact R.r _ _) | (simp only [jM.len_sI, jM.len_sL, jM.len_sR, jM.len_fI, jM.len_fL, jM.len_fR]; omega) | (simp [jM.len_nw, jM.len_sI, jM.len_sL, jM.len_sR, jM.len_fI, jM.len_fL, jM.len_fR, *]; omega)) (by first | omega | (exact R.r _ _) | (simp only [jM.len_sI, jM.len_sL, jM.len_sR, jM.len_fI, jM.len_fL, jM.len_fR]; omega) | (simp [jM.len_nw, jM.len_sI, jM.len_sL, jM.len_sR, jM.len_fI, jM.len_fL, jM.len_fR, *]; omega)) (by first | omega | (exact R.r _ _) | (simp only [jM.len_sI, jM.len_sL, jM.len_sR, jM.len_fI, jM.len_fL, jM.len_fR]; omega) | (simp [jM.len_nw, jM.len_sI, jM.len_sL, jM.len_sR, jM.len_fI, jM.len_fL, jM.len_fR, *]; omega)) (Or.inl rfl) rfl ?_
    refine J.goto (tgt := 23) rfl rfl ?_
    refine J.iconst (pc' := 24) rfl rfl ?_
    refine J.iret rfl rfl (by first | omega | (exact R.r _ _) | (simp only [jM.len_sI, jM.len_sL, jM.len_sR, jM.len_fI, jM.len_fL, jM.len_fR]; omega) | (simp [jM.len_nw, jM.len_sI, jM.len_sL, jM.len_sR, jM.len_fI, jM.len_fL, jM.len_fR, *]; omega)) (by first | omega | (exact R.r _ _) | (simp only [jM.len_sI, jM.len_sL, jM.len_sR, jM.len_fI, jM.len_fL, jM.len_fR]; omega) | (simp [jM.len_nw, jM.len_sI, jM.len_sL, jM.len_sR, jM.len_fI, jM.len_fL, jM.len_fR, *]; omega)) ?_
    exact z
theorem wr_move {a1 a2 a3 : Int} {f mc ms : Nat} {Q R : Option Value → jM → Prop} {X : String → jM → Prop} (tx : h.tag x = 15) (hC : CT γ mX11_move f mc ms [.ref x, .int (jI a1), .int (jI a2), .int (jI a3)] h Q X) (hQ : ∀ r h', Q r h' → ∃ v, r = some (.int (jI v)) ∧ h'.tag o = 38 ∧ h'.len o = 1 ∧ R (some (.int (jI 0))) (h'.sL 38 o 0 (jI v).toInt)) (hX : ∀ E h', X E h' → (E = eIAE ∧ R (some (.int (jI 1))) h')) : CT γ mL_move (f + 1) mc ms [.ref x, .int (jI a1), .int (jI a2), .int (jI a3), .ref o] h R X0 := by
  refine CT.ofW ML_move (Nat.le_of_ble_eq_true rfl) ?_
  show J γ mL_move (f + 1) mc ms 0 0 h 0 [(0, .ref x), (1, .int (jI a1)), (2, .int (jI a2)), (3, .int (jI a3)), (4, .ref o)] [] _ _
  first | refine J.aload (pc' := 2) rfl rfl rfl ?_ | refine J.aloadN (pc' := 2) rfl rfl rfl ?_
  refine J.iconst (pc' := 3) rfl rfl ?_
  first | refine J.aload_n (pc' := 4) rfl rfl rfl ?_ | refine J.aload_nN (pc' := 4) rfl rfl rfl ?_
  refine J.iload_n (pc' := 5) rfl rfl rfl ?_
  refine J.iload_n (pc' := 6) rfl rfl rfl ?_
  refine J.iload_n (pc' := 7) rfl rfl rfl ?_
  refine J.callT (pc' := 10) (t := 15) rfl MX11_move ml_L_49 iv_X11_move (by decide) ⟨_, rfl, rfl⟩ tx hC rfl rfl (Nat.le_of_ble_eq_true rfl) (Nat.le_refl _) (by omega) (by omega) rfl ?_ ?_
  · intro E k hx
    rcases hX E k hx with ⟨rfl, z⟩
    · refine ⟨15, ⟨[], (0, 12, 15, 15), [], eIAE, rfl, fun _ w => (nomatch w), by decide, by decide, cl_I, ca_I, rfl⟩, fun q => ?_⟩
      first | refine J.astore (pc' := 17) rfl rfl (by decide) ?_ | refine J.astoreN (pc' := 17) rfl rfl (by decide) ?_
      refine J.iconst (pc' := 18) rfl rfl ?_
      refine J.iret rfl rfl (by first | omega | (exact R.r _ _) | (simp only [jM.len_sI, jM.len_sL, jM.len_sR, jM.len_fI, jM.len_fL, jM.len_fR]; omega) | (simp [jM.len_nw, jM.len_sI, jM.len_sL, jM.len_sR, jM.len_fI, jM.len_fL, jM.len_fR, *]; omega)) (by first | omega | (exact R.r _ _) | (simp only [jM.len_sI, jM.len_sL, jM.len_sR, jM.len_fI, jM.len_fL, jM.len_fR]; omega) | (simp [jM.len_nw, jM.len_sI, jM.len_sL, jM.len_sR, jM.len_fI, jM.len_fL, jM.len_fR, *]; omega)) ?_
      exact z
  · intro r k hq
    obtain ⟨v, rfl, t1, t2, z⟩ := hQ r k hq
    refine J.i2lT (pc' := 11) rfl rfl ?_
    refine J.last (pc' := 12) rfl (by first | assumption | (simp only [jM.tag_sI, jM.tag_sL, jM.tag_sR, jM.tag_fI, jM.tag_fL, jM.tag_fR]; assumption) | (simp [jM.tag_nw, jM.tag_sI, jM.tag_sL, jM.tag_sR, jM.tag_fI, jM.tag_fL, jM.tag_fR, *]; done)) (by decide) rfl (by first | omega | (exact R.r _ _) | (simp only [jM.len_sI, jM.len_sL, jM.len_sR, jM.len_fI, jM.len_fL, jM.len_fR]; omega) | (simp [jM.len_nw, jM.len_sI, jM.len_sL, jM.len_sR, jM.len_fI, jM.len_fL, jM.len_fR, *]; omega)) (by first | omega | (exact R.r _ _) | (simp only [jM.len_sI, jM.len_sL, jM.len_sR, jM.len_fI, jM.len_fL, jM.len_fR]; omega) | (simp [jM.len_nw, jM.len_sI, jM.len_sL, jM.len_sR, jM.len_fI, jM.len_fL, jM.len_fR, *]; omega)) (by first | omega | (exact R.r _ _) | (simp only [jM.len_sI, jM.len_sL, jM.len_sR, jM.len_fI, jM.len_fL, jM.len_fR]; omega) | (simp [jM.len_nw, jM.len_sI, jM.len_sL, jM.len_sR, jM.len_fI, jM.len_fL, jM.len_fR, *]; omega)) (Or.inl rfl) rfl ?_
    refine J.goto (tgt := 19) rfl rfl ?_
    refine J.iconst (pc' := 20) rfl rfl ?_
    refine J.iret rfl rfl (by first | omega | (exact R.r _ _) | (simp only [jM.len_sI, jM.len_sL, jM.len_sR, jM.len_fI, jM.len_fL, jM.len_fR]; omega) | (simp [jM.len_nw, jM.len_sI, jM.len_sL, jM.len_sR, jM.len_fI, jM.len_fL, jM.len_fR, *]; omega)) (by first | omega | (exact R.r _ _) | (simp only [jM.len_sI, jM.len_sL, jM.len_sR, jM.len_fI, jM.len_fL, jM.len_fR]; omega) | (simp [jM.len_nw, jM.len_sI, jM.len_sL, jM.len_sR, jM.len_fI, jM.len_fL, jM.len_fR, *]; omega)) ?_
    exact z
theorem wr_mix {a1 : Int} {f mc ms : Nat} {Q R : Option Value → jM → Prop} {X : String → jM → Prop} (tx : h.tag x = 15) (hC : CT γ mX11_mix f mc ms [.ref x, .int (jI a1)] h Q X) (hQ : ∀ r h', Q r h' → ∃ v, r = some (.int (jI v)) ∧ h'.tag o = 38 ∧ h'.len o = 1 ∧ R (some (.int (jI 0))) (h'.sL 38 o 0 (jI v).toInt)) (hX : ∀ E h', X E h' → (E = eIAE ∧ R (some (.int (jI 1))) h')) : CT γ mL_mix (f + 1) mc ms [.ref x, .int (jI a1), .ref o] h R X0 := by
  refine CT.ofW ML_mix (Nat.le_of_ble_eq_true rfl) ?_
  show J γ mL_mix (f + 1) mc ms 0 0 h 0 [(0, .ref x), (1, .int (jI a1)), (2, .ref o)] [] _ _
  first | refine J.aload_n (pc' := 1) rfl rfl rfl ?_ | refine J.aload_nN (pc' := 1) rfl rfl rfl ?_
  refine J.iconst (pc' := 2) rfl rfl ?_
  first | refine J.aload_n (pc' := 3) rfl rfl rfl ?_ | refine J.aload_nN (pc' := 3) rfl rfl rfl ?_
  refine J.iload_n (pc' := 4) rfl rfl rfl ?_
  refine J.callT (pc' := 7) (t := 15) rfl MX11_mix ml_L_52 iv_X11_mix (by decide) ⟨_, rfl, rfl⟩ tx hC rfl rfl (Nat.le_of_ble_eq_true rfl) (Nat.le_refl _) (by omega) (by omega) rfl ?_ ?_
  · intro E k hx
    rcases hX E k hx with ⟨rfl, z⟩
    · refine ⟨12, ⟨[], (0, 9, 12, 15), [], eIAE, rfl, fun _ w => (nomatch w), by decide, by decide, cl_I, ca_I, rfl⟩, fun q => ?_⟩
      first | refine J.astore_n (pc' := 13) rfl rfl (by decide) ?_ | refine J.astore_nN (pc' := 13) rfl rfl (by decide) ?_
      refine J.iconst (pc' := 14) rfl rfl ?_
      refine J.iret rfl rfl (by first | omega | (exact R.r _ _) | (simp only [jM.len_sI, jM.len_sL, jM.len_sR, jM.len_fI, jM.len_fL, jM.len_fR]; omega) | (simp [jM.len_nw, jM.len_sI, jM.len_sL, jM.len_sR, jM.len_fI, jM.len_fL, jM.len_fR, *]; omega)) (by first | omega | (exact R.r _ _) | (simp only [jM.len_sI, jM.len_sL, jM.len_sR, jM.len_fI, jM.len_fL, jM.len_fR]; omega) | (simp [jM.len_nw, jM.len_sI, jM.len_sL, jM.len_sR, jM.len_fI, jM.len_fL, jM.len_fR, *]; omega)) ?_
      exact z
  · intro r k hq
    obtain ⟨v, rfl, t1, t2, z⟩ := hQ r k hq
    refine J.i2lT (pc' := 8) rfl rfl ?_
    refine J.last (pc' := 9) rfl (by first | assumption | (simp only [jM.tag_sI, jM.tag_sL, jM.tag_sR, jM.tag_fI, jM.tag_fL, jM.tag_fR]; assumption) | (simp [jM.tag_nw, jM.tag_sI, jM.tag_sL, jM.tag_sR, jM.tag_fI, jM.tag_fL, jM.tag_fR, *]; done)) (by decide) rfl (by first | omega | (exact R.r _ _) | (simp only [jM.len_sI, jM.len_sL, jM.len_sR, jM.len_fI, jM.len_fL, jM.len_fR]; omega) | (simp [jM.len_nw, jM.len_sI, jM.len_sL, jM.len_sR, jM.len_fI, jM.len_fL, jM.len_fR, *]; omega)) (by first | omega | (exact R.r _ _) | (simp only [jM.len_sI, jM.len_sL, jM.len_sR, jM.len_fI, jM.len_fL, jM.len_fR]; omega) | (simp [jM.len_nw, jM.len_sI, jM.len_sL, jM.len_sR, jM.len_fI, jM.len_fL, jM.len_fR, *]; omega)) (by first | omega | (exact R.r _ _) | (simp only [jM.len_sI, jM.len_sL, jM.len_sR, jM.len_fI, jM.len_fL, jM.len_fR]; omega) | (simp [jM.len_nw, jM.len_sI, jM.len_sL, jM.len_sR, jM.len_fI, jM.len_fL, jM.len_fR, *]; omega)) (Or.inl rfl) rfl ?_
    refine J.goto (tgt := 15) rfl rfl ?_
    refine J.iconst (pc' := 16) rfl rfl ?_
    refine J.iret rfl rfl (by first | omega | (exact R.r _ _) | (simp only [jM.len_sI, jM.len_sL, jM.len_sR, jM.len_fI, jM.len_fL, jM.len_fR]; omega) | (simp [jM.len_nw, jM.len_sI, jM.len_sL, jM.len_sR, jM.len_fI, jM.len_fL, jM.len_fR, *]; omega)) (by first | omega | (exact R.r _ _) | (simp only [jM.len_sI, jM.len_sL, jM.len_sR, jM.len_fI, jM.len_fL, jM.len_fR]; omega) | (simp [jM.len_nw, jM.len_sI, jM.len_sL, jM.len_sR, jM.len_fI, jM.len_fL, jM.len_fR, *]; omega)) ?_
    exact z
theorem wr_asked {a1 a2 a3 : Int} {f mc ms : Nat} {Q R : Option Value → jM → Prop} {X : String → jM → Prop} (tx : h.tag x = 15) (hC : CT γ mX11_asked f mc ms [.ref x, .int (jI a1), .int (jI a2), .int (jI a3)] h Q X) (hQ : ∀ r h', Q r h' → ∃ v, r = some (.int (jI v)) ∧ h'.tag o = 38 ∧ h'.len o = 1 ∧ R (some (.int (jI 0))) (h'.sL 38 o 0 (jI v).toInt)) (hX : ∀ E h', X E h' → (E = eIAE ∧ R (some (.int (jI 1))) h')) : CT γ mL_asked (f + 1) mc ms [.ref x, .int (jI a1), .int (jI a2), .int (jI a3), .ref o] h R X0 := by
  refine CT.ofW ML_asked (Nat.le_of_ble_eq_true rfl) ?_
  show J γ mL_asked (f + 1) mc ms 0 0 h 0 [(0, .ref x), (1, .int (jI a1)), (2, .int (jI a2)), (3, .int (jI a3)), (4, .ref o)] [] _ _
  first | refine J.aload (pc' := 2) rfl rfl rfl ?_ | refine J.aloadN (pc' := 2) rfl rfl rfl ?_
  refine J.iconst (pc' := 3) rfl rfl ?_
  first | refine J.aload_n (pc' := 4) rfl rfl rfl ?_ | refine J.aload_nN (pc' := 4) rfl rfl rfl ?_
  refine J.iload_n (pc' := 5) rfl rfl rfl ?_
  refine J.iload_n (pc' := 6) rfl rfl rfl ?_
  refine J.iload_n (pc' := 7) rfl rfl rfl ?_
  refine J.callT (pc' := 10) (t := 15) rfl MX11_asked ml_L_55 iv_X11_asked (by decide) ⟨_, rfl, rfl⟩ tx hC rfl rfl (Nat.le_of_ble_eq_true rfl) (Nat.le_refl _) (by omega) (by omega) rfl ?_ ?_
  · intro E k hx
    rcases hX E k hx with ⟨rfl, z⟩
    · refine ⟨15, ⟨[], (0, 12, 15, 15), [], eIAE, rfl, fun _ w => (nomatch w), by decide, by decide, cl_I, ca_I, rfl⟩, fun q => ?_⟩
      first | refine J.astore (pc' := 17) rfl rfl (by decide) ?_ | refine J.astoreN (pc' := 17) rfl rfl (by decide) ?_
      refine J.iconst (pc' := 18) rfl rfl ?_
      refine J.iret rfl rfl (by first | omega | (exact R.r _ _) | (simp only [jM.len_sI, jM.len_sL, jM.len_sR, jM.len_fI, jM.len_fL, jM.len_fR]; omega) | (simp [jM.len_nw, jM.len_sI, jM.len_sL, jM.len_sR, jM.len_fI, jM.len_fL, jM.len_fR, *]; omega)) (by first | omega | (exact R.r _ _) | (simp only [jM.len_sI, jM.len_sL, jM.len_sR, jM.len_fI, jM.len_fL, jM.len_fR]; omega) | (simp [jM.len_nw, jM.len_sI, jM.len_sL, jM.len_sR, jM.len_fI, jM.len_fL, jM.len_fR, *]; omega)) ?_
      exact z
  · intro r k hq
    obtain ⟨v, rfl, t1, t2, z⟩ := hQ r k hq
    refine J.i2lT (pc' := 11) rfl rfl ?_
    refine J.last (pc' := 12) rfl (by first | assumption | (simp only [jM.tag_sI, jM.tag_sL, jM.tag_sR, jM.tag_fI, jM.tag_fL, jM.tag_fR]; assumption) | (simp [jM.tag_nw, jM.tag_sI, jM.tag_sL, jM.tag_sR, jM.tag_fI, jM.tag_fL, jM.tag_fR, *]; done)) (by decide) rfl (by first | omega | (exact R.r _ _) | (simp only [jM.len_sI, jM.len_sL, jM.len_sR, jM.len_fI, jM.len_fL, jM.len_fR]; omega) | (simp [jM.len_nw, jM.len_sI, jM.len_sL, jM.len_sR, jM.len_fI, jM.len_fL, jM.len_fR, *]; omega)) (by first | omega | (exact R.r _ _) | (simp only [jM.len_sI, jM.len_sL, jM.len_sR, jM.len_fI, jM.len_fL, jM.len_fR]; omega) | (simp [jM.len_nw, jM.len_sI, jM.len_sL, jM.len_sR, jM.len_fI, jM.len_fL, jM.len_fR, *]; omega)) (by first | omega | (exact R.r _ _) | (simp only [jM.len_sI, jM.len_sL, jM.len_sR, jM.len_fI, jM.len_fL, jM.len_fR]; omega) | (simp [jM.len_nw, jM.len_sI, jM.len_sL, jM.len_sR, jM.len_fI, jM.len_fL, jM.len_fR, *]; omega)) (Or.inl rfl) rfl ?_
    refine J.goto (tgt := 19) rfl rfl ?_
    refine J.iconst (pc' := 20) rfl rfl ?_
    refine J.iret rfl rfl (by first | omega | (exact R.r _ _) | (simp only [jM.len_sI, jM.len_sL, jM.len_sR, jM.len_fI, jM.len_fL, jM.len_fR]; omega) | (simp [jM.len_nw, jM.len_sI, jM.len_sL, jM.len_sR, jM.len_fI, jM.len_fL, jM.len_fR, *]; omega)) (by first | omega | (exact R.r _ _) | (simp only [jM.len_sI, jM.len_sL, jM.len_sR, jM.len_fI, jM.len_fL, jM.len_fR]; omega) | (simp [jM.len_nw, jM.len_sI, jM.len_sL, jM.len_sR, jM.len_fI, jM.len_fL, jM.len_fR, *]; omega)) ?_
    exact z
theorem wr_best {a1 : Int} {f mc ms : Nat} {Q R : Option Value → jM → Prop} {X : String → jM → Prop} (tx : h.tag x = 15) (hC : CT γ mX11_best f mc ms [.ref x, .int (jI a1)] h Q X) (hQ : ∀ r h', Q r h' → ∃ v, r = some (.int (jI v)) ∧ h'.tag o = 38 ∧ h'.len o = 1 ∧ R (some (.int (jI 0))) (h'.sL 38 o 0 (jI v).toInt)) (hX : ∀ E h', X E h' → (E = eIAE ∧ R (some (.int (jI 1))) h')) : CT γ mL_best (f + 1) mc ms [.ref x, .int (jI a1), .ref o] h R X0 := by
  refine CT.ofW ML_best (Nat.le_of_ble_eq_true rfl) ?_
  show J γ mL_best (f + 1) mc ms 0 0 h 0 [(0, .ref x), (1, .int (jI a1)), (2, .ref o)] [] _ _
  first | refine J.aload_n (pc' := 1) rfl rfl rfl ?_ | refine J.aload_nN (pc' := 1) rfl rfl rfl ?_
  refine J.iconst (pc' := 2) rfl rfl ?_
  first | refine J.aload_n (pc' := 3) rfl rfl rfl ?_ | refine J.aload_nN (pc' := 3) rfl rfl rfl ?_
  refine J.iload_n (pc' := 4) rfl rfl rfl ?_
  refine J.callT (pc' := 7) (t := 15) rfl MX11_best ml_L_58 iv_X11_best (by decide) ⟨_, rfl, rfl⟩ tx hC rfl rfl (Nat.le_of_ble_eq_true rfl) (Nat.le_refl _) (by omega) (by omega) rfl ?_ ?_
  · intro E k hx
    rcases hX E k hx with ⟨rfl, z⟩
    · refine ⟨12, ⟨[], (0, 9, 12, 15), [], eIAE, rfl, fun _ w => (nomatch w), by decide, by decide, cl_I, ca_I, rfl⟩, fun q => ?_⟩
      first | refine J.astore_n (pc' := 13) rfl rfl (by decide) ?_ | refine J.astore_nN (pc' := 13) rfl rfl (by decide) ?_
      refine J.iconst (pc' := 14) rfl rfl ?_
      refine J.iret rfl rfl (by first | omega | (exact R.r _ _) | (simp only [jM.len_sI, jM.len_sL, jM.len_sR, jM.len_fI, jM.len_fL, jM.len_fR]; omega) | (simp [jM.len_nw, jM.len_sI, jM.len_sL, jM.len_sR, jM.len_fI, jM.len_fL, jM.len_fR, *]; omega)) (by first | omega | (exact R.r _ _) | (simp only [jM.len_sI, jM.len_sL, jM.len_sR, jM.len_fI, jM.len_fL, jM.len_fR]; omega) | (simp [jM.len_nw, jM.len_sI, jM.len_sL, jM.len_sR, jM.len_fI, jM.len_fL, jM.len_fR, *]; omega)) ?_
      exact z
  · intro r k hq
    obtain ⟨v, rfl, t1, t2, z⟩ := hQ r k hq
    refine J.i2lT (pc' := 8) rfl rfl ?_
    refine J.last (pc' := 9) rfl (by first | assumption | (simp only [jM.tag_sI, jM.tag_sL, jM.tag_sR, jM.tag_fI, jM.tag_fL, jM.tag_fR]; assumption) | (simp [jM.tag_nw, jM.tag_sI, jM.tag_sL, jM.tag_sR, jM.tag_fI, jM.tag_fL, jM.tag_fR, *]; done)) (by decide) rfl (by first | omega | (exact R.r _ _) | (simp only [jM.len_sI, jM.len_sL, jM.len_sR, jM.len_fI, jM.len_fL, jM.len_fR]; omega) | (simp [jM.len_nw, jM.len_sI, jM.len_sL, jM.len_sR, jM.len_fI, jM.len_fL, jM.len_fR, *]; omega)) (by first | omega | (exact R.r _ _) | (simp only [jM.len_sI, jM.len_sL, jM.len_sR, jM.len_fI, jM.len_fL, jM.len_fR]; omega) | (simp [jM.len_nw, jM.len_sI, jM.len_sL, jM.len_sR, jM.len_fI, jM.len_fL, jM.len_fR, *]; omega)) (by first | omega | (exact R.r _ _) | (simp only [jM.len_sI, jM.len_sL, jM.len_sR, jM.len_fI, jM.len_fL, jM.len_fR]; omega) | (simp [jM.len_nw, jM.len_sI, jM.len_sL, jM.len_sR, jM.len_fI, jM.len_fL, jM.len_fR, *]; omega)) (Or.inl rfl) rfl ?_
    refine J.goto (tgt := 15) rfl rfl ?_
    refine J.iconst (pc' := 16) rfl rfl ?_
    refine J.iret rfl rfl (by first | omega | (exact R.r _ _) | (simp only [jM.len_sI, jM.len_sL, jM.len_sR, jM.len_fI, jM.len_fL, jM.len_fR]; omega) | (simp [jM.len_nw, jM.len_sI, jM.len_sL, jM.len_sR, jM.len_fI, jM.len_fL, jM.len_fR, *]; omega)) (by first | omega | (exact R.r _ _) | (simp only [jM.len_sI, jM.len_sL, jM.len_sR, jM.len_fI, jM.len_fL, jM.len_fR]; omega) | (simp [jM.len_nw, jM.len_sI, jM.len_sL, jM.len_sR, jM.len_fI, jM.len_fL, jM.len_fR, *]; omega)) ?_
    exact z
theorem wr_charge {a1 a2 : Int} {f mc ms : Nat} {Q R : Option Value → jM → Prop} {X : String → jM → Prop} (tx : h.tag x = 15) (hC : CT γ mX11_charge f mc ms [.ref x, .int (jI a1), .int (jI a2)] h Q X) (hQ : ∀ r h', Q r h' → ∃ v, r = some (.int (jI v)) ∧ h'.tag o = 38 ∧ h'.len o = 1 ∧ R (some (.int (jI 0))) (h'.sL 38 o 0 (jI v).toInt)) (hX : ∀ E h', X E h' → (E = eIAE ∧ R (some (.int (jI 1))) h')) : CT γ mL_charge (f + 1) mc ms [.ref x, .int (jI a1), .int (jI a2), .ref o] h R X0 := by
  refine CT.ofW ML_charge (Nat.le_of_ble_eq_true rfl) ?_
  show J γ mL_charge (f + 1) mc ms 0 0 h 0 [(0, .ref x), (1, .int (jI a1)), (2, .int (jI a2)), (3, .ref o)] [] _ _
  first | refine J.aload_n (pc' := 1) rfl rfl rfl ?_ | refine J.aload_nN (pc' := 1) rfl rfl rfl ?_
  refine J.iconst (pc' := 2) rfl rfl ?_
  first | refine J.aload_n (pc' := 3) rfl rfl rfl ?_ | refine J.aload_nN (pc' := 3) rfl rfl rfl ?_
  refine J.iload_n (pc' := 4) rfl rfl rfl ?_
  refine J.iload_n (pc' := 5) rfl rfl rfl ?_
  refine J.callT (pc' := 8) (t := 15) rfl MX11_charge ml_L_61 iv_X11_charge (by decide) ⟨_, rfl, rfl⟩ tx hC rfl rfl (Nat.le_of_ble_eq_true rfl) (Nat.le_refl _) (by omega) (by omega) rfl ?_ ?_
  · intro E k hx
    rcases hX E k hx with ⟨rfl, z⟩
    · refine ⟨13, ⟨[], (0, 10, 13, 15), [], eIAE, rfl, fun _ w => (nomatch w), by decide, by decide, cl_I, ca_I, rfl⟩, fun q => ?_⟩
      first | refine J.astore (pc' := 15) rfl rfl (by decide) ?_ | refine J.astoreN (pc' := 15) rfl rfl (by decide) ?_
      refine J.iconst (pc' := 16) rfl rfl ?_
      refine J.iret rfl rfl (by first | omega | (exact R.r _ _) | (simp only [jM.len_sI, jM.len_sL, jM.len_sR, jM.len_fI, jM.len_fL, jM.len_fR]; omega) | (simp [jM.len_nw, jM.len_sI, jM.len_sL, jM.len_sR, jM.len_fI, jM.len_fL, jM.len_fR, *]; omega)) (by first | omega | (exact R.r _ _) | (simp only [jM.len_sI, jM.len_sL, jM.len_sR, jM.len_fI, jM.len_fL, jM.len_fR]; omega) | (simp [jM.len_nw, jM.len_sI, jM.len_sL, jM.len_sR, jM.len_fI, jM.len_fL, jM.len_fR, *]; omega)) ?_
      exact z
  · intro r k hq
    obtain ⟨v, rfl, t1, t2, z⟩ := hQ r k hq
    refine J.i2lT (pc' := 9) rfl rfl ?_
    refine J.last (pc' := 10) rfl (by first | assumption | (simp only [jM.tag_sI, jM.tag_sL, jM.tag_sR, jM.tag_fI, jM.tag_fL, jM.tag_fR]; assumption) | (simp [jM.tag_nw, jM.tag_sI, jM.tag_sL, jM.tag_sR, jM.tag_fI, jM.tag_fL, jM.tag_fR, *]; done)) (by decide) rfl (by first | omega | (exact R.r _ _) | (simp only [jM.len_sI, jM.len_sL, jM.len_sR, jM.len_fI, jM.len_fL, jM.len_fR]; omega) | (simp [jM.len_nw, jM.len_sI, jM.len_sL, jM.len_sR, jM.len_fI, jM.len_fL, jM.len_fR, *]; omega)) (by first | omega | (exact R.r _ _) | (simp only [jM.len_sI, jM.len_sL, jM.len_sR, jM.len_fI, jM.len_fL, jM.len_fR]; omega) | (simp [jM.len_nw, jM.len_sI, jM.len_sL, jM.len_sR, jM.len_fI, jM.len_fL, jM.len_fR, *]; omega)) (by first | omega | (exact R.r _ _) | (simp only [jM.len_sI, jM.len_sL, jM.len_sR, jM.len_fI, jM.len_fL, jM.len_fR]; omega) | (simp [jM.len_nw, jM.len_sI, jM.len_sL, jM.len_sR, jM.len_fI, jM.len_fL, jM.len_fR, *]; omega)) (Or.inl rfl) rfl ?_
    refine J.goto (tgt := 17) rfl rfl ?_
    refine J.iconst (pc' := 18) rfl rfl ?_
    refine J.iret rfl rfl (by first | omega | (exact R.r _ _) | (simp only [jM.len_sI, jM.len_sL, jM.len_sR, jM.len_fI, jM.len_fL, jM.len_fR]; omega) | (simp [jM.len_nw, jM.len_sI, jM.len_sL, jM.len_sR, jM.len_fI, jM.len_fL, jM.len_fR, *]; omega)) (by first | omega | (exact R.r _ _) | (simp only [jM.len_sI, jM.len_sL, jM.len_sR, jM.len_fI, jM.len_fL, jM.len_fR]; omega) | (simp [jM.len_nw, jM.len_sI, jM.len_sL, jM.len_sR, jM.len_fI, jM.len_fL, jM.len_fR, *]; omega)) ?_
    exact z
theorem wr_melt {a1 : Int} {f mc ms : Nat} {Q R : Option Value → jM → Prop} {X : String → jM → Prop} (tx : h.tag x = 15) (hC : CT γ mX11_melt f mc ms [.ref x, .int (jI a1)] h Q X) (hQ : ∀ r h', Q r h' → ∃ v, r = some (.int (jI v)) ∧ h'.tag o = 38 ∧ h'.len o = 1 ∧ R (some (.int (jI 0))) (h'.sL 38 o 0 (jI v).toInt)) (hX : ∀ E h', X E h' → (E = eIAE ∧ R (some (.int (jI 1))) h')) : CT γ mL_melt (f + 1) mc ms [.ref x, .int (jI a1), .ref o] h R X0 := by
  refine CT.ofW ML_melt (Nat.le_of_ble_eq_true rfl) ?_
  show J γ mL_melt (f + 1) mc ms 0 0 h 0 [(0, .ref x), (1, .int (jI a1)), (2, .ref o)] [] _ _
  first | refine J.aload_n (pc' := 1) rfl rfl rfl ?_ | refine J.aload_nN (pc' := 1) rfl rfl rfl ?_
  refine J.iconst (pc' := 2) rfl rfl ?_
  first | refine J.aload_n (pc' := 3) rfl rfl rfl ?_ | refine J.aload_nN (pc' := 3) rfl rfl rfl ?_
  refine J.iload_n (pc' := 4) rfl rfl rfl ?_
  refine J.callT (pc' := 7) (t := 15) rfl MX11_melt ml_L_64 iv_X11_melt (by decide) ⟨_, rfl, rfl⟩ tx hC rfl rfl (Nat.le_of_ble_eq_true rfl) (Nat.le_refl _) (by omega) (by omega) rfl ?_ ?_
  · intro E k hx
    rcases hX E k hx with ⟨rfl, z⟩
    · refine ⟨12, ⟨[], (0, 9, 12, 15), [], eIAE, rfl, fun _ w => (nomatch w), by decide, by decide, cl_I, ca_I, rfl⟩, fun q => ?_⟩
      first | refine J.astore_n (pc' := 13) rfl rfl (by decide) ?_ | refine J.astore_nN (pc' := 13) rfl rfl (by decide) ?_
      refine J.iconst (pc' := 14) rfl rfl ?_
      refine J.iret rfl rfl (by first | omega | (exact R.r _ _) | (simp only [jM.len_sI, jM.len_sL, jM.len_sR, jM.len_fI, jM.len_fL, jM.len_fR]; omega) | (simp [jM.len_nw, jM.len_sI, jM.len_sL, jM.len_sR, jM.len_fI, jM.len_fL, jM.len_fR, *]; omega)) (by first | omega | (exact R.r _ _) | (simp only [jM.len_sI, jM.len_sL, jM.len_sR, jM.len_fI, jM.len_fL, jM.len_fR]; omega) | (simp [jM.len_nw, jM.len_sI, jM.len_sL, jM.len_sR, jM.len_fI, jM.len_fL, jM.len_fR, *]; omega)) ?_
      exact z
  · intro r k hq
    obtain ⟨v, rfl, t1, t2, z⟩ := hQ r k hq
    refine J.i2lT (pc' := 8) rfl rfl ?_
    refine J.last (pc' := 9) rfl (by first | assumption | (simp only [jM.tag_sI, jM.tag_sL, jM.tag_sR, jM.tag_fI, jM.tag_fL, jM.tag_fR]; assumption) | (simp [jM.tag_nw, jM.tag_sI, jM.tag_sL, jM.tag_sR, jM.tag_fI, jM.tag_fL, jM.tag_fR, *]; done)) (by decide) rfl (by first | omega | (exact R.r _ _) | (simp only [jM.len_sI, jM.len_sL, jM.len_sR, jM.len_fI, jM.len_fL, jM.len_fR]; omega) | (simp [jM.len_nw, jM.len_sI, jM.len_sL, jM.len_sR, jM.len_fI, jM.len_fL, jM.len_fR, *]; omega)) (by first | omega | (exact R.r _ _) | (simp only [jM.len_sI, jM.len_sL, jM.len_sR, jM.len_fI, jM.len_fL, jM.len_fR]; omega) | (simp [jM.len_nw, jM.len_sI, jM.len_sL, jM.len_sR, jM.len_fI, jM.len_fL, jM.len_fR, *]; omega)) (by first | omega | (exact R.r _ _) | (simp only [jM.len_sI, jM.len_sL, jM.len_sR, jM.len_fI, jM.len_fL, jM.len_fR]; omega) | (simp [jM.len_nw, jM.len_sI, jM.len_sL, jM.len_sR, jM.len_fI, jM.len_fL, jM.len_fR, *]; omega)) (Or.inl rfl) rfl ?_
    refine J.goto (tgt := 15) rfl rfl ?_
    refine J.iconst (pc' := 16) rfl rfl ?_
    refine J.iret rfl rfl (by first | omega | (exact R.r _ _) | (simp only [jM.len_sI, jM.len_sL, jM.len_sR, jM.len_fI, jM.len_fL, jM.len_fR]; omega) | (simp [jM.len_nw, jM.len_sI, jM.len_sL, jM.len_sR, jM.len_fI, jM.len_fL, jM.len_fR, *]; omega)) (by first | omega | (exact R.r _ _) | (simp only [jM.len_sI, jM.len_sL, jM.len_sR, jM.len_fI, jM.len_fL, jM.len_fR]; omega) | (simp [jM.len_nw, jM.len_sI, jM.len_sL, jM.len_sR, jM.len_fI, jM.len_fL, jM.len_fR, *]; omega)) ?_
    exact z
theorem wr_portions {a1 : Int} {f mc ms : Nat} {Q R : Option Value → jM → Prop} {X : String → jM → Prop} (tx : h.tag x = 15) (hC : CT γ mX11_portions f mc ms [.ref x, .int (jI a1)] h Q X) (hQ : ∀ r h', Q r h' → ∃ v, r = some (.int (jI v)) ∧ h'.tag o = 38 ∧ h'.len o = 1 ∧ R (some (.int (jI 0))) (h'.sL 38 o 0 (jI v).toInt)) (hX : ∀ E h', X E h' → (E = eNSE ∧ R (some (.int (jI 1))) h')) : CT γ mL_portions (f + 1) mc ms [.ref x, .int (jI a1), .ref o] h R X0 := by
  refine CT.ofW ML_portions (Nat.le_of_ble_eq_true rfl) ?_
  show J γ mL_portions (f + 1) mc ms 0 0 h 0 [(0, .ref x), (1, .int (jI a1)), (2, .ref o)] [] _ _
  first | refine J.aload_n (pc' := 1) rfl rfl rfl ?_ | refine J.aload_nN (pc' := 1) rfl rfl rfl ?_
  refine J.iconst (pc' := 2) rfl rfl ?_
  first | refine J.aload_n (pc' := 3) rfl rfl rfl ?_ | refine J.aload_nN (pc' := 3) rfl rfl rfl ?_
  refine J.iload_n (pc' := 4) rfl rfl rfl ?_
  refine J.callT (pc' := 7) (t := 15) rfl MX11_portions ml_L_67 iv_X11_portions (by decide) ⟨_, rfl, rfl⟩ tx hC rfl rfl (Nat.le_of_ble_eq_true rfl) (Nat.le_refl _) (by omega) (by omega) rfl ?_ ?_
  · intro E k hx
    rcases hX E k hx with ⟨rfl, z⟩
    · refine ⟨12, ⟨[], (0, 9, 12, 13), [], eNSE, rfl, fun _ w => (nomatch w), by decide, by decide, cl_N, ca_N, rfl⟩, fun q => ?_⟩
      first | refine J.astore_n (pc' := 13) rfl rfl (by decide) ?_ | refine J.astore_nN (pc' := 13) rfl rfl (by decide) ?_
      refine J.iconst (pc' := 14) rfl rfl ?_
      refine J.iret rfl rfl (by first | omega | (exact R.r _ _) | (simp only [jM.len_sI, jM.len_sL, jM.len_sR, jM.len_fI, jM.len_fL, jM.len_fR]; omega) | (simp [jM.len_nw, jM.len_sI, jM.len_sL, jM.len_sR, jM.len_fI, jM.len_fL, jM.len_fR, *]; omega)) (by first | omega | (exact R.r _ _) | (simp only [jM.len_sI, jM.len_sL, jM.len_sR, jM.len_fI, jM.len_fL, jM.len_fR]; omega) | (simp [jM.len_nw, jM.len_sI, jM.len_sL, jM.len_sR, jM.len_fI, jM.len_fL, jM.len_fR, *]; omega)) ?_
      exact z
  · intro r k hq
    obtain ⟨v, rfl, t1, t2, z⟩ := hQ r k hq
    refine J.i2lT (pc' := 8) rfl rfl ?_
    refine J.last (pc' := 9) rfl (by first | assumption | (simp only [jM.tag_sI, jM.tag_sL, jM.tag_sR, jM.tag_fI, jM.tag_fL, jM.tag_fR]; assumption) | (simp [jM.tag_nw, jM.tag_sI, jM.tag_sL, jM.tag_sR, jM.tag_fI, jM.tag_fL, jM.tag_fR, *]; done)) (by decide) rfl (by first | omega | (exact R.r _ _) | (simp only [jM.len_sI, jM.len_sL, jM.len_sR, jM.len_fI, jM.len_fL, jM.len_fR]; omega) | (simp [jM.len_nw, jM.len_sI, jM.len_sL, jM.len_sR, jM.len_fI, jM.len_fL, jM.len_fR, *]; omega)) (by first | omega | (exact R.r _ _) | (simp only [jM.len_sI, jM.len_sL, jM.len_sR, jM.len_fI, jM.len_fL, jM.len_fR]; omega) | (simp [jM.len_nw, jM.len_sI, jM.len_sL, jM.len_sR, jM.len_fI, jM.len_fL, jM.len_fR, *]; omega)) (by first | omega | (exact R.r _ _) | (simp only [jM.len_sI, jM.len_sL, jM.len_sR, jM.len_fI, jM.len_fL, jM.len_fR]; omega) | (simp [jM.len_nw, jM.len_sI, jM.len_sL, jM.len_sR, jM.len_fI, jM.len_fL, jM.len_fR, *]; omega)) (Or.inl rfl) rfl ?_
    refine J.goto (tgt := 15) rfl rfl ?_
    refine J.iconst (pc' := 16) rfl rfl ?_
    refine J.iret rfl rfl (by first | omega | (exact R.r _ _) | (simp only [jM.len_sI, jM.len_sL, jM.len_sR, jM.len_fI, jM.len_fL, jM.len_fR]; omega) | (simp [jM.len_nw, jM.len_sI, jM.len_sL, jM.len_sR, jM.len_fI, jM.len_fL, jM.len_fR, *]; omega)) (by first | omega | (exact R.r _ _) | (simp only [jM.len_sI, jM.len_sL, jM.len_sR, jM.len_fI, jM.len_fL, jM.len_fR]; omega) | (simp [jM.len_nw, jM.len_sI, jM.len_sL, jM.len_sR, jM.len_fI, jM.len_fL, jM.len_fR, *]; omega)) ?_
    exact z
theorem wr_portion {a1 a2 a3 : Int} {f mc ms : Nat} {Q R : Option Value → jM → Prop} {X : String → jM → Prop} (tx : h.tag x = 15) (hC : CT γ mX11_portion f mc ms [.ref x, .int (jI a1), .int (jI a2), .int (jI a3)] h Q X) (hQ : ∀ r h', Q r h' → ∃ v, r = some (.int (jI v)) ∧ h'.tag o = 38 ∧ h'.len o = 1 ∧ R (some (.int (jI 0))) (h'.sL 38 o 0 (jI v).toInt)) (hX : ∀ E h', X E h' → (E = eNSE ∧ R (some (.int (jI 1))) h') ∨ (E = eIAE ∧ R (some (.int (jI 2))) h')) : CT γ mL_portion (f + 1) mc ms [.ref x, .int (jI a1), .int (jI a2), .int (jI a3), .ref o] h R X0 := by
  refine CT.ofW ML_portion (Nat.le_of_ble_eq_true rfl) ?_
  show J γ mL_portion (f + 1) mc ms 0 0 h 0 [(0, .ref x), (1, .int (jI a1)), (2, .int (jI a2)), (3, .int (jI a3)), (4, .ref o)] [] _ _
  first | refine J.aload (pc' := 2) rfl rfl rfl ?_ | refine J.aloadN (pc' := 2) rfl rfl rfl ?_
  refine J.iconst (pc' := 3) rfl rfl ?_
  first | refine J.aload_n (pc' := 4) rfl rfl rfl ?_ | refine J.aload_nN (pc' := 4) rfl rfl rfl ?_
  refine J.iload_n (pc' := 5) rfl rfl rfl ?_
  refine J.iload_n (pc' := 6) rfl rfl rfl ?_
  refine J.iload_n (pc' := 7) rfl rfl rfl ?_
  refine J.callT (pc' := 10) (t := 15) rfl MX11_portion ml_L_70 iv_X11_portion (by decide) ⟨_, rfl, rfl⟩ tx hC rfl rfl (Nat.le_of_ble_eq_true rfl) (Nat.le_refl _) (by omega) (by omega) rfl ?_ ?_
  · intro E k hx
    rcases hX E k hx with ⟨rfl, z⟩ | ⟨rfl, z⟩
    · refine ⟨15, ⟨[], (0, 12, 15, 13), [(0, 12, 19, 15)], eNSE, rfl, fun _ w => (nomatch w), by decide, by decide, cl_N, ca_N, rfl⟩, fun q => ?_⟩
      first | refine J.astore (pc' := 17) rfl rfl (by decide) ?_ | refine J.astoreN (pc' := 17) rfl rfl (by decide) ?_
      refine J.iconst (pc' := 18) rfl rfl ?_
      refine J.iret rfl rfl (by first | omega | (exact R.r _ _) | (simp only [jM.len_sI, jM.len_sL, jM.len_sR, jM.len_fI, jM.len_fL, jM.len_fR]; omega) | (simp [jM.len_nw, jM.len_sI, jM.len_sL, jM.len_sR, jM.len_fI, jM.len_fL, jM.len_fR, *]; omega)) (by first | omega | (exact R.r _ _) | (simp only [jM.len_sI, jM.len_sL, jM.len_sR, jM.len_fI, jM.len_fL, jM.len_fR]; omega) | (simp [jM.len_nw, jM.len_sI, jM.len_sL, jM.len_sR, jM.len_fI, jM.len_fL, jM.len_fR, *]; omega)) ?_
      exact z
    · refine ⟨19, ⟨[(0, 12, 15, 13)], (0, 12, 19, 15), [], eIAE, rfl, fun y w => by rw [List.mem_singleton.mp w]; exact ⟨by decide, eNSE, cl_N, nc_IN⟩, by decide, by decide, cl_I, ca_I, rfl⟩, fun q => ?_⟩
      first | refine J.astore (pc' := 21) rfl rfl (by decide) ?_ | refine J.astoreN (pc' := 21) rfl rfl (by decide) ?_
      refine J.iconst (pc' := 22) rfl rfl ?_
      refine J.iret rfl rfl (by first | omega | (exact R.r _ _) | (simp only [jM.len_sI, jM.len_sL, jM.len_sR, jM.len_fI, jM.len_fL, jM.len_fR]; omega) | (simp [jM.len_nw, jM.len_sI, jM.len_sL, jM.len_sR, jM.len_fI, jM.len_fL, jM.len_fR, *]; omega)) (by first | omega | (exact R.r _ _) | (simp only [jM.len_sI, jM.len_sL, jM.len_sR, jM.len_fI, jM.len_fL, jM.len_fR]; omega) | (simp [jM.len_nw, jM.len_sI, jM.len_sL, jM.len_sR, jM.len_fI, jM.len_fL, jM.len_fR, *]; omega)) ?_
      exact z
  · intro r k hq
    obtain ⟨v, rfl, t1, t2, z⟩ := hQ r k hq
    refine J.i2lT (pc' := 11) rfl rfl ?_
    refine J.last (pc' := 12) rfl (by first | assumption | (simp only [jM.tag_sI, jM.tag_sL, jM.tag_sR, jM.tag_fI, jM.tag_fL, jM.tag_fR]; assumption) | (simp [jM.tag_nw, jM.tag_sI, jM.tag_sL, jM.tag_sR, jM.tag_fI, jM.tag_fL, jM.tag_fR, *]; done)) (by decide) rfl (by first | omega | (exact R.r _ _) | (simp only [jM.len_sI, jM.len_sL, jM.len_sR, jM.len_fI, jM.len_fL, jM.len_fR]; omega) | (simp [jM.len_nw, jM.len_sI, jM.len_sL, jM.len_sR, jM.len_fI, jM.len_fL, jM.len_fR, *]; omega)) (by first | omega | (exact R.r _ _) | (simp only [jM.len_sI, jM.len_sL, jM.len_sR, jM.len_fI, jM.len_fL, jM.len_fR]; omega) | (simp [jM.len_nw, jM.len_sI, jM.len_sL, jM.len_sR, jM.len_fI, jM.len_fL, jM.len_fR, *]; omega)) (by first | omega | (exact R.r _ _) | (simp only [jM.len_sI, jM.len_sL, jM.len_sR, jM.len_fI, jM.len_fL, jM.len_fR]; omega) | (simp [jM.len_nw, jM.len_sI, jM.len_sL, jM.len_sR, jM.len_fI, jM.len_fL, jM.len_fR, *]; omega)) (Or.inl rfl) rfl ?_
    refine J.goto (tgt := 23) rfl rfl ?_
    refine J.iconst (pc' := 24) rfl rfl ?_
    refine J.iret rfl rfl (by first | omega | (exact R.r _ _) | (simp only [jM.len_sI, jM.len_sL, jM.len_sR, jM.len_fI, jM.len_fL, jM.len_fR]; omega) | (simp [jM.len_nw, jM.len_sI, jM.len_sL, jM.len_sR, jM.len_fI, jM.len_fL, jM.len_fR, *]; omega)) (by first | omega | (exact R.r _ _) | (simp only [jM.len_sI, jM.len_sL, jM.len_sR, jM.len_fI, jM.len_fL, jM.len_fR]; omega) | (simp [jM.len_nw, jM.len_sI, jM.len_sL, jM.len_sR, jM.len_fI, jM.len_fL, jM.len_fR, *]; omega)) ?_
    exact z
theorem wr_prove {a1 a2 a3 a4 : Int} {f mc ms : Nat} {Q R : Option Value → jM → Prop} {X : String → jM → Prop} (tx : h.tag x = 15) (hC : CT γ mX11_prove f mc ms [.ref x, .int (jI a1), .int (jI a2), .int (jI a3), .int (jI a4)] h Q X) (hQ : ∀ r h', Q r h' → ∃ v, r = some (.int (jI v)) ∧ h'.tag o = 38 ∧ h'.len o = 1 ∧ R (some (.int (jI 0))) (h'.sL 38 o 0 (jI v).toInt)) (hX : ∀ E h', X E h' → (E = eNSE ∧ R (some (.int (jI 1))) h') ∨ (E = eIAE ∧ R (some (.int (jI 2))) h')) : CT γ mL_prove (f + 1) mc ms [.ref x, .int (jI a1), .int (jI a2), .int (jI a3), .int (jI a4), .ref o] h R X0 := by
  refine CT.ofW ML_prove (Nat.le_of_ble_eq_true rfl) ?_
  show J γ mL_prove (f + 1) mc ms 0 0 h 0 [(0, .ref x), (1, .int (jI a1)), (2, .int (jI a2)), (3, .int (jI a3)), (4, .int (jI a4)), (5, .ref o)] [] _ _
  first | refine J.aload (pc' := 2) rfl rfl rfl ?_ | refine J.aloadN (pc' := 2) rfl rfl rfl ?_
  refine J.iconst (pc' := 3) rfl rfl ?_
  first | refine J.aload_n (pc' := 4) rfl rfl rfl ?_ | refine J.aload_nN (pc' := 4) rfl rfl rfl ?_
  refine J.iload_n (pc' := 5) rfl rfl rfl ?_
  refine J.iload_n (pc' := 6) rfl rfl rfl ?_
  refine J.iload_n (pc' := 7) rfl rfl rfl ?_
  refine J.iload (pc' := 9) rfl rfl rfl ?_
  refine J.callT (pc' := 12) (t := 15) rfl MX11_prove ml_L_73 iv_X11_prove (by decide) ⟨_, rfl, rfl⟩ tx hC rfl rfl (Nat.le_of_ble_eq_true rfl) (Nat.le_refl _) (by omega) (by omega) rfl ?_ ?_
  · intro E k hx
    rcases hX E k hx with ⟨rfl, z⟩ | ⟨rfl, z⟩
    · refine ⟨17, ⟨[], (0, 14, 17, 13), [(0, 14, 21, 15)], eNSE, rfl, fun _ w => (nomatch w), by decide, by decide, cl_N, ca_N, rfl⟩, fun q => ?_⟩
      first | refine J.astore (pc' := 19) rfl rfl (by decide) ?_ | refine J.astoreN (pc' := 19) rfl rfl (by decide) ?_
      refine J.iconst (pc' := 20) rfl rfl ?_
      refine J.iret rfl rfl (by first | omega | (exact R.r _ _) | (simp only [jM.len_sI, jM.len_sL, jM.len_sR, jM.len_fI, jM.len_fL, jM.len_fR]; omega) | (simp [jM.len_nw, jM.len_sI, jM.len_sL, jM.len_sR, jM.len_fI, jM.len_fL, jM.len_fR, *]; omega)) (by first | omega | (exact R.r _ _) | (simp only [jM.len_sI, jM.len_sL, jM.len_sR, jM.len_fI, jM.len_fL, jM.len_fR]; omega) | (simp [jM.len_nw, jM.len_sI, jM.len_sL, jM.len_sR, jM.len_fI, jM.len_fL, jM.len_fR, *]; omega)) ?_
      exact z
    · refine ⟨21, ⟨[(0, 14, 17, 13)], (0, 14, 21, 15), [], eIAE, rfl, fun y w => by rw [List.mem_singleton.mp w]; exact ⟨by decide, eNSE, cl_N, nc_IN⟩, by decide, by decide, cl_I, ca_I, rfl⟩, fun q => ?_⟩
      first | refine J.astore (pc' := 23) rfl rfl (by decide) ?_ | refine J.astoreN (pc' := 23) rfl rfl (by decide) ?_
      refine J.iconst (pc' := 24) rfl rfl ?_
      refine J.iret rfl rfl (by first | omega | (exact R.r _ _) | (simp only [jM.len_sI, jM.len_sL, jM.len_sR, jM.len_fI, jM.len_fL, jM.len_fR]; omega) | (simp [jM.len_nw, jM.len_sI, jM.len_sL, jM.len_sR, jM.len_fI, jM.len_fL, jM.len_fR, *]; omega)) (by first | omega | (exact R.r _ _) | (simp only [jM.len_sI, jM.len_sL, jM.len_sR, jM.len_fI, jM.len_fL, jM.len_fR]; omega) | (simp [jM.len_nw, jM.len_sI, jM.len_sL, jM.len_sR, jM.len_fI, jM.len_fL, jM.len_fR, *]; omega)) ?_
      exact z
  · intro r k hq
    obtain ⟨v, rfl, t1, t2, z⟩ := hQ r k hq
    refine J.i2lT (pc' := 13) rfl rfl ?_
    refine J.last (pc' := 14) rfl (by first | assumption | (simp only [jM.tag_sI, jM.tag_sL, jM.tag_sR, jM.tag_fI, jM.tag_fL, jM.tag_fR]; assumption) | (simp [jM.tag_nw, jM.tag_sI, jM.tag_sL, jM.tag_sR, jM.tag_fI, jM.tag_fL, jM.tag_fR, *]; done)) (by decide) rfl (by first | omega | (exact R.r _ _) | (simp only [jM.len_sI, jM.len_sL, jM.len_sR, jM.len_fI, jM.len_fL, jM.len_fR]; omega) | (simp [jM.len_nw, jM.len_sI, jM.len_sL, jM.len_sR, jM.len_fI, jM.len_fL, jM.len_fR, *]; omega)) (by first | omega | (exact R.r _ _) | (simp only [jM.len_sI, jM.len_sL, jM.len_sR, jM.len_fI, jM.len_fL, jM.len_fR]; omega) | (simp [jM.len_nw, jM.len_sI, jM.len_sL, jM.len_sR, jM.len_fI, jM.len_fL, jM.len_fR, *]; omega)) (by first | omega | (exact R.r _ _) | (simp only [jM.len_sI, jM.len_sL, jM.len_sR, jM.len_fI, jM.len_fL, jM.len_fR]; omega) | (simp [jM.len_nw, jM.len_sI, jM.len_sL, jM.len_sR, jM.len_fI, jM.len_fL, jM.len_fR, *]; omega)) (Or.inl rfl) rfl ?_
    refine J.goto (tgt := 25) rfl rfl ?_
    refine J.iconst (pc' := 26) rfl rfl ?_
    refine J.iret rfl rfl (by first | omega | (exact R.r _ _) | (simp only [jM.len_sI, jM.len_sL, jM.len_sR, jM.len_fI, jM.len_fL, jM.len_fR]; omega) | (simp [jM.len_nw, jM.len_sI, jM.len_sL, jM.len_sR, jM.len_fI, jM.len_fL, jM.len_fR, *]; omega)) (by first | omega | (exact R.r _ _) | (simp only [jM.len_sI, jM.len_sL, jM.len_sR, jM.len_fI, jM.len_fL, jM.len_fR]; omega) | (simp [jM.len_nw, jM.len_sI, jM.len_sL, jM.len_sR, jM.len_fI, jM.len_fL, jM.len_fR, *]; omega)) ?_
    exact z
theorem wr_money {a1 : Int} {f mc ms : Nat} {Q R : Option Value → jM → Prop} {X : String → jM → Prop} (tx : h.tag x = 15) (hC : CT γ mX11_money f mc ms [.ref x, .int (jI a1)] h Q X) (hQ : ∀ r h', Q r h' → ∃ v, r = some (.long (jL v)) ∧ h'.tag o = 38 ∧ h'.len o = 1 ∧ R (some (.int (jI 0))) (h'.sL 38 o 0 v)) (hX : ∀ E h', X E h' → (E = eNSE ∧ R (some (.int (jI 1))) h')) : CT γ mL_money (f + 1) mc ms [.ref x, .int (jI a1), .ref o] h R X0 := by
  refine CT.ofW ML_money (Nat.le_of_ble_eq_true rfl) ?_
  show J γ mL_money (f + 1) mc ms 0 0 h 0 [(0, .ref x), (1, .int (jI a1)), (2, .ref o)] [] _ _
  first | refine J.aload_n (pc' := 1) rfl rfl rfl ?_ | refine J.aload_nN (pc' := 1) rfl rfl rfl ?_
  refine J.iconst (pc' := 2) rfl rfl ?_
  first | refine J.aload_n (pc' := 3) rfl rfl rfl ?_ | refine J.aload_nN (pc' := 3) rfl rfl rfl ?_
  refine J.iload_n (pc' := 4) rfl rfl rfl ?_
  refine J.callT (pc' := 7) (t := 15) rfl MX11_money ml_L_76 iv_X11_money (by decide) ⟨_, rfl, rfl⟩ tx hC rfl rfl (Nat.le_of_ble_eq_true rfl) (Nat.le_refl _) (by omega) (by omega) rfl ?_ ?_
  · intro E k hx
    rcases hX E k hx with ⟨rfl, z⟩
    · refine ⟨11, ⟨[], (0, 8, 11, 13), [], eNSE, rfl, fun _ w => (nomatch w), by decide, by decide, cl_N, ca_N, rfl⟩, fun q => ?_⟩
      first | refine J.astore_n (pc' := 12) rfl rfl (by decide) ?_ | refine J.astore_nN (pc' := 12) rfl rfl (by decide) ?_
      refine J.iconst (pc' := 13) rfl rfl ?_
      refine J.iret rfl rfl (by first | omega | (exact R.r _ _) | (simp only [jM.len_sI, jM.len_sL, jM.len_sR, jM.len_fI, jM.len_fL, jM.len_fR]; omega) | (simp [jM.len_nw, jM.len_sI, jM.len_sL, jM.len_sR, jM.len_fI, jM.len_fL, jM.len_fR, *]; omega)) (by first | omega | (exact R.r _ _) | (simp only [jM.len_sI, jM.len_sL, jM.len_sR, jM.len_fI, jM.len_fL, jM.len_fR]; omega) | (simp [jM.len_nw, jM.len_sI, jM.len_sL, jM.len_sR, jM.len_fI, jM.len_fL, jM.len_fR, *]; omega)) ?_
      exact z
  · intro r k hq
    obtain ⟨v, rfl, t1, t2, z⟩ := hQ r k hq
    refine J.last (pc' := 8) rfl (by first | assumption | (simp only [jM.tag_sI, jM.tag_sL, jM.tag_sR, jM.tag_fI, jM.tag_fL, jM.tag_fR]; assumption) | (simp [jM.tag_nw, jM.tag_sI, jM.tag_sL, jM.tag_sR, jM.tag_fI, jM.tag_fL, jM.tag_fR, *]; done)) (by decide) rfl (by first | omega | (exact R.r _ _) | (simp only [jM.len_sI, jM.len_sL, jM.len_sR, jM.len_fI, jM.len_fL, jM.len_fR]; omega) | (simp [jM.len_nw, jM.len_sI, jM.len_sL, jM.len_sR, jM.len_fI, jM.len_fL, jM.len_fR, *]; omega)) (by first | omega | (exact R.r _ _) | (simp only [jM.len_sI, jM.len_sL, jM.len_sR, jM.len_fI, jM.len_fL, jM.len_fR]; omega) | (simp [jM.len_nw, jM.len_sI, jM.len_sL, jM.len_sR, jM.len_fI, jM.len_fL, jM.len_fR, *]; omega)) (by first | omega | (exact R.r _ _) | (simp only [jM.len_sI, jM.len_sL, jM.len_sR, jM.len_fI, jM.len_fL, jM.len_fR]; omega) | (simp [jM.len_nw, jM.len_sI, jM.len_sL, jM.len_sR, jM.len_fI, jM.len_fL, jM.len_fR, *]; omega)) (Or.inl rfl) rfl ?_
    refine J.goto (tgt := 14) rfl rfl ?_
    refine J.iconst (pc' := 15) rfl rfl ?_
    refine J.iret rfl rfl (by first | omega | (exact R.r _ _) | (simp only [jM.len_sI, jM.len_sL, jM.len_sR, jM.len_fI, jM.len_fL, jM.len_fR]; omega) | (simp [jM.len_nw, jM.len_sI, jM.len_sL, jM.len_sR, jM.len_fI, jM.len_fL, jM.len_fR, *]; omega)) (by first | omega | (exact R.r _ _) | (simp only [jM.len_sI, jM.len_sL, jM.len_sR, jM.len_fI, jM.len_fL, jM.len_fR]; omega) | (simp [jM.len_nw, jM.len_sI, jM.len_sL, jM.len_sR, jM.len_fI, jM.len_fL, jM.len_fR, *]; omega)) ?_
    exact z
theorem wr_day {a1 : Int} {f mc ms : Nat} {Q R : Option Value → jM → Prop} {X : String → jM → Prop} (tx : h.tag x = 15) (hC : CT γ mX11_day f mc ms [.ref x, .int (jI a1)] h Q X) (hQ : ∀ r h', Q r h' → ∃ v, r = some (.int (jI v)) ∧ h'.tag o = 38 ∧ h'.len o = 1 ∧ R (some (.int (jI 0))) (h'.sL 38 o 0 (jI v).toInt)) (hX : ∀ E h', X E h' → (E = eIAE ∧ R (some (.int (jI 1))) h')) : CT γ mL_day (f + 1) mc ms [.ref x, .int (jI a1), .ref o] h R X0 := by
  refine CT.ofW ML_day (Nat.le_of_ble_eq_true rfl) ?_
  show J γ mL_day (f + 1) mc ms 0 0 h 0 [(0, .ref x), (1, .int (jI a1)), (2, .ref o)] [] _ _
  first | refine J.aload_n (pc' := 1) rfl rfl rfl ?_ | refine J.aload_nN (pc' := 1) rfl rfl rfl ?_
  refine J.iconst (pc' := 2) rfl rfl ?_
  first | refine J.aload_n (pc' := 3) rfl rfl rfl ?_ | refine J.aload_nN (pc' := 3) rfl rfl rfl ?_
  refine J.iload_n (pc' := 4) rfl rfl rfl ?_
  refine J.callT (pc' := 7) (t := 15) rfl MX11_day ml_L_80 iv_X11_day (by decide) ⟨_, rfl, rfl⟩ tx hC rfl rfl (Nat.le_of_ble_eq_true rfl) (Nat.le_refl _) (by omega) (by omega) rfl ?_ ?_
  · intro E k hx
    rcases hX E k hx with ⟨rfl, z⟩
    · refine ⟨12, ⟨[], (0, 9, 12, 15), [], eIAE, rfl, fun _ w => (nomatch w), by decide, by decide, cl_I, ca_I, rfl⟩, fun q => ?_⟩
      first | refine J.astore_n (pc' := 13) rfl rfl (by decide) ?_ | refine J.astore_nN (pc' := 13) rfl rfl (by decide) ?_
      refine J.iconst (pc' := 14) rfl rfl ?_
      refine J.iret rfl rfl (by first | omega | (exact R.r _ _) | (simp only [jM.len_sI, jM.len_sL, jM.len_sR, jM.len_fI, jM.len_fL, jM.len_fR]; omega) | (simp [jM.len_nw, jM.len_sI, jM.len_sL, jM.len_sR, jM.len_fI, jM.len_fL, jM.len_fR, *]; omega)) (by first | omega | (exact R.r _ _) | (simp only [jM.len_sI, jM.len_sL, jM.len_sR, jM.len_fI, jM.len_fL, jM.len_fR]; omega) | (simp [jM.len_nw, jM.len_sI, jM.len_sL, jM.len_sR, jM.len_fI, jM.len_fL, jM.len_fR, *]; omega)) ?_
      exact z
  · intro r k hq
    obtain ⟨v, rfl, t1, t2, z⟩ := hQ r k hq
    refine J.i2lT (pc' := 8) rfl rfl ?_
    refine J.last (pc' := 9) rfl (by first | assumption | (simp only [jM.tag_sI, jM.tag_sL, jM.tag_sR, jM.tag_fI, jM.tag_fL, jM.tag_fR]; assumption) | (simp [jM.tag_nw, jM.tag_sI, jM.tag_sL, jM.tag_sR, jM.tag_fI, jM.tag_fL, jM.tag_fR, *]; done)) (by decide) rfl (by first | omega | (exact R.r _ _) | (simp only [jM.len_sI, jM.len_sL, jM.len_sR, jM.len_fI, jM.len_fL, jM.len_fR]; omega) | (simp [jM.len_nw, jM.len_sI, jM.len_sL, jM.len_sR, jM.len_fI, jM.len_fL, jM.len_fR, *]; omega)) (by first | omega | (exact R.r _ _) | (simp only [jM.len_sI, jM.len_sL, jM.len_sR, jM.len_fI, jM.len_fL, jM.len_fR]; omega) | (simp [jM.len_nw, jM.len_sI, jM.len_sL, jM.len_sR, jM.len_fI, jM.len_fL, jM.len_fR, *]; omega)) (by first | omega | (exact R.r _ _) | (simp only [jM.len_sI, jM.len_sL, jM.len_sR, jM.len_fI, jM.len_fL, jM.len_fR]; omega) | (simp [jM.len_nw, jM.len_sI, jM.len_sL, jM.len_sR, jM.len_fI, jM.len_fL, jM.len_fR, *]; omega)) (Or.inl rfl) rfl ?_
    refine J.goto (tgt := 15) rfl rfl ?_
    refine J.iconst (pc' := 16) rfl rfl ?_
    refine J.iret rfl rfl (by first | omega | (exact R.r _ _) | (simp only [jM.len_sI, jM.len_sL, jM.len_sR, jM.len_fI, jM.len_fL, jM.len_fR]; omega) | (simp [jM.len_nw, jM.len_sI, jM.len_sL, jM.len_sR, jM.len_fI, jM.len_fL, jM.len_fR, *]; omega)) (by first | omega | (exact R.r _ _) | (simp only [jM.len_sI, jM.len_sL, jM.len_sR, jM.len_fI, jM.len_fL, jM.len_fR]; omega) | (simp [jM.len_nw, jM.len_sI, jM.len_sL, jM.len_sR, jM.len_fI, jM.len_fL, jM.len_fR, *]; omega)) ?_
    exact z
end WR

