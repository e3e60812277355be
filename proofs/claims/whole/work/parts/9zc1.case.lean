section LC0
variable {γ : jG} {mc ms cells slots : Nat} {V : VV} {h : jM} {b : Nat → Nat} {x o sc n : Nat} {S : Int → Int} {i : Int} {Q : Option Value → jM → Prop} {X : String → jM → Prop}
theorem case_kind (hS : ∀ j, r32 (S j)) (hi : 0 ≤ i ∧ i + 6 ≤ n) (hm : cells + 1150 ≤ mc) (hs : slots + 12000 ≤ ms) (hL : lwS γ V h b x o sc n S) (fin : ∀ W k, lwS γ W k b x o sc n S → ∀ lv, hasL lv [(0, .ref sc), (1, .ref x), (2, .ref (b 16)), (3, .ref o), (4, .int (jI i))] → J γ mL_law 13 mc ms (cells + 1150) (slots + 12000) k 1791 lv [] Q X) : ∀ lv, hasL lv [(0, .ref sc), (1, .ref x), (2, .ref (b 16)), (3, .ref o), (4, .int (jI i))] → J γ mL_law 13 mc ms cells slots h 156 lv [] Q X := by
  intro lv hl
  refine J.lc hl ?_
  obtain ⟨M, hR, I, Z, to, lo⟩ := hL
  have I0 := I.er (c := 0) (by omega)
  have h0 : jU V 16 0 0 16 0 = 0 := jU_same _ _ _ _
  have R0 : RepC γ (jU V 16 0 0) h x := hR.cg (sameR.t 0 (by decide))
  obtain ⟨ρ, σ, ks, ss, cs, ls, ms', hB⟩ := R0
  first | refine J.aload_n (pc' := 157) rfl rfl rfl ?_ | refine J.aload_nN (pc' := 157) rfl rfl rfl ?_
  refine J.callV (pc' := 160) (t := 15) rfl MX11_kind ml_L_87 iv_X11_kind (by decide) ⟨_, rfl, rfl⟩ hB.1.1 (cf_kind h0 I0 hB) rfl rfl (Nat.le_of_ble_eq_true rfl) (by omega) (by omega) (by omega) rfl rfl ?_ ?_
  · exact fun _ _ z => z.elim
  rintro _ k ⟨rfl, q2, q3, q4⟩
  have F : FrO o h k := q4.toT.mono (fun b _ z => Or.inl z)
  have M1 := M.fr to F
  have Z1 := Z.fr to F
  have to1 : k.tag o = 38 := F.tag to (by decide)
  have lo1 : k.len o = 1 := by rw [F.len (by omega)]; exact lo
  refine M1.sw ?_
  first | refine J.aload_n (pc' := 161) rfl rfl rfl ?_ | refine J.aload_nN (pc' := 161) rfl rfl rfl ?_
  refine J.callV (pc' := 164) (t := 16) rfl MX12_kind ml_L_91 iv_X12_kind (by decide) ⟨_, rfl, rfl⟩ M1.1.1 (cm_kind M1.1 I.1 ) rfl rfl (Nat.le_of_ble_eq_true rfl) (by omega) (by omega) (by omega) rfl rfl ?_ ?_
  · exact fun _ _ z => z.elim
  rintro _ _ ⟨rfl, rfl⟩
  refine J.widen (cells' := cells + 1150) (slots' := slots + 12000) (by omega) (by omega) ?_
  refine J.icmpE (pc' := 1791) rfl rfl ?_
  exact fin _ _ (lwS.nx (P := fun W => W = _) M1 (fun V p => by rw [p]; exact q3) rfl (inv_kind I0) Z1 to1 lo1) _ (by repeat' (first | exact trivial | refine ⟨rfl, ?_⟩))
theorem case_span (hS : ∀ j, r32 (S j)) (hi : 0 ≤ i ∧ i + 6 ≤ n) (hm : cells + 1150 ≤ mc) (hs : slots + 12000 ≤ ms) (hL : lwS γ V h b x o sc n S) (fin : ∀ W k, lwS γ W k b x o sc n S → ∀ lv, hasL lv [(0, .ref sc), (1, .ref x), (2, .ref (b 16)), (3, .ref o), (4, .int (jI i))] → J γ mL_law 13 mc ms (cells + 1150) (slots + 12000) k 1791 lv [] Q X) : ∀ lv, hasL lv [(0, .ref sc), (1, .ref x), (2, .ref (b 16)), (3, .ref o), (4, .int (jI i))] → J γ mL_law 13 mc ms cells slots h 169 lv [] Q X := by
  intro lv hl
  refine J.lc hl ?_
  obtain ⟨M, hR, I, Z, to, lo⟩ := hL
  obtain ⟨c, v, P, hc, hP, hC, hMd⟩ := op_span (hS (i + 1)) (hS (i + 2)) (hS (i + 3)) (hS (i + 4)) hR I to lo
  first | refine J.aload_n (pc' := 170) rfl rfl rfl ?_ | refine J.aload_nN (pc' := 170) rfl rfl rfl ?_
  refine J.rdS (p' := 176) rfl rfl rfl rfl rfl rfl Z rfl rfl hi (by decide) ?_
  refine J.rdS (p' := 182) rfl rfl rfl rfl rfl rfl Z rfl rfl hi (by decide) ?_
  refine J.rdS (p' := 188) rfl rfl rfl rfl rfl rfl Z rfl rfl hi (by decide) ?_
  refine J.rdS (p' := 194) rfl rfl rfl rfl rfl rfl Z rfl rfl hi (by decide) ?_
  first | refine J.aload_n (pc' := 195) rfl rfl rfl ?_ | refine J.aload_nN (pc' := 195) rfl rfl rfl ?_
  refine J.callSW (pc' := 198) rfl ML_span ml_L_92 is_L_span hC rfl rfl (Nat.le_of_ble_eq_true rfl) (by omega) (by omega) (by omega) rfl ?_
  rintro _ k ⟨rfl, F, u, hR1⟩
  have M1 := M.fr to F
  have Z1 := Z.fr to F
  have to1 : k.tag o = 38 := F.tag to (by decide)
  have lo1 : k.len o = 1 := by rw [F.len (by omega)]; exact lo
  refine J.istore (pc' := 200) rfl rfl (by decide) ?_
  refine J.lc (lv' := [(0, .ref sc), (1, .ref x), (2, .ref (b 16)), (3, .ref o), (4, .int (jI i)), (5, .int (jI c))]) (by repeat' (first | exact trivial | refine ⟨rfl, ?_⟩)) ?_
  refine M1.sw ?_
  first | refine J.aload_n (pc' := 201) rfl rfl rfl ?_ | refine J.aload_nN (pc' := 201) rfl rfl rfl ?_
  refine J.rdS (p' := 207) rfl rfl rfl rfl rfl rfl Z1.nxt rfl rfl hi (by decide) ?_
  refine J.rdS (p' := 213) rfl rfl rfl rfl rfl rfl Z1.nxt rfl rfl hi (by decide) ?_
  refine J.rdS (p' := 219) rfl rfl rfl rfl rfl rfl Z1.nxt rfl rfl hi (by decide) ?_
  refine J.rdS (p' := 225) rfl rfl rfl rfl rfl rfl Z1.nxt rfl rfl hi (by decide) ?_
  refine J.callV (pc' := 228) (t := 16) rfl MX12_span ml_L_97 iv_X12_span (by decide) ⟨_, rfl, rfl⟩ M1.1.1 (hMd (k, b) M1.1) rfl rfl (Nat.le_of_ble_eq_true rfl) (by omega) (by omega) (by omega) rfl rfl ?_ ?_
  · exact fun _ _ z => z.elim
  rintro _ _ ⟨W, p, rfl, rfl⟩
  refine J.widen (cells' := cells + 1150) (slots' := slots + 12000) (by omega) (by omega) ?_
  exact law_tail (p := 228) rfl rfl rfl rfl rfl rfl rfl rfl rfl rfl rfl rfl rfl rfl rfl rfl (by decide) hm hs M1.1 (hP W p).2 hc to1 lo1 u rfl (fun lv hl => fin W _ (lwS.nx M1 hR1 p (hP W p).1 Z1 to1 lo1) lv hl)
theorem case_seller (hS : ∀ j, r32 (S j)) (hi : 0 ≤ i ∧ i + 6 ≤ n) (hm : cells + 1150 ≤ mc) (hs : slots + 12000 ≤ ms) (hL : lwS γ V h b x o sc n S) (fin : ∀ W k, lwS γ W k b x o sc n S → ∀ lv, hasL lv [(0, .ref sc), (1, .ref x), (2, .ref (b 16)), (3, .ref o), (4, .int (jI i))] → J γ mL_law 13 mc ms (cells + 1150) (slots + 12000) k 1791 lv [] Q X) : ∀ lv, hasL lv [(0, .ref sc), (1, .ref x), (2, .ref (b 16)), (3, .ref o), (4, .int (jI i))] → J γ mL_law 13 mc ms cells slots h 261 lv [] Q X := by
  intro lv hl
  refine J.lc hl ?_
  obtain ⟨M, hR, I, Z, to, lo⟩ := hL
  have I0 := I.er (c := 0) (by omega)
  have h0 : jU V 16 0 0 16 0 = 0 := jU_same _ _ _ _
  have R0 : RepC γ (jU V 16 0 0) h x := hR.cg (sameR.t 0 (by decide))
  obtain ⟨ρ, σ, ks, ss, cs, ls, ms', hB⟩ := R0
  first | refine J.aload_n (pc' := 262) rfl rfl rfl ?_ | refine J.aload_nN (pc' := 262) rfl rfl rfl ?_
  refine J.callV (pc' := 265) (t := 15) rfl MX11_seller ml_L_101 iv_X11_seller (by decide) ⟨_, rfl, rfl⟩ hB.1.1 (cf_seller h0 I0 hB) rfl rfl (Nat.le_of_ble_eq_true rfl) (by omega) (by omega) (by omega) rfl rfl ?_ ?_
  · exact fun _ _ z => z.elim
  rintro _ k ⟨rfl, q2, q3, q4⟩
  have F : FrO o h k := q4.toT.mono (fun b _ z => Or.inl z)
  have M1 := M.fr to F
  have Z1 := Z.fr to F
  have to1 : k.tag o = 38 := F.tag to (by decide)
  have lo1 : k.len o = 1 := by rw [F.len (by omega)]; exact lo
  refine M1.sw ?_
  first | refine J.aload_n (pc' := 266) rfl rfl rfl ?_ | refine J.aload_nN (pc' := 266) rfl rfl rfl ?_
  refine J.callV (pc' := 269) (t := 16) rfl MX12_seller ml_L_104 iv_X12_seller (by decide) ⟨_, rfl, rfl⟩ M1.1.1 (cm_seller M1.1 I.1 ) rfl rfl (Nat.le_of_ble_eq_true rfl) (by omega) (by omega) (by omega) rfl rfl ?_ ?_
  · exact fun _ _ z => z.elim
  rintro _ _ ⟨rfl, rfl⟩
  refine J.widen (cells' := cells + 1150) (slots' := slots + 12000) (by omega) (by omega) ?_
  refine J.icmpE (pc' := 1791) rfl rfl ?_
  exact fin _ _ (lwS.nx (P := fun W => W = _) M1 (fun V p => by rw [p]; exact q3) rfl (inv_seller I0) Z1 to1 lo1) _ (by repeat' (first | exact trivial | refine ⟨rfl, ?_⟩))
theorem case_feed (hS : ∀ j, r32 (S j)) (hi : 0 ≤ i ∧ i + 6 ≤ n) (hm : cells + 1150 ≤ mc) (hs : slots + 12000 ≤ ms) (hL : lwS γ V h b x o sc n S) (fin : ∀ W k, lwS γ W k b x o sc n S → ∀ lv, hasL lv [(0, .ref sc), (1, .ref x), (2, .ref (b 16)), (3, .ref o), (4, .int (jI i))] → J γ mL_law 13 mc ms (cells + 1150) (slots + 12000) k 1791 lv [] Q X) : ∀ lv, hasL lv [(0, .ref sc), (1, .ref x), (2, .ref (b 16)), (3, .ref o), (4, .int (jI i))] → J γ mL_law 13 mc ms cells slots h 274 lv [] Q X := by
  intro lv hl
  refine J.lc hl ?_
  obtain ⟨M, hR, I, Z, to, lo⟩ := hL
  have I0 := I.er (c := 0) (by omega)
  have h0 : jU V 16 0 0 16 0 = 0 := jU_same _ _ _ _
  have R0 : RepC γ (jU V 16 0 0) h x := hR.cg (sameR.t 0 (by decide))
  obtain ⟨ρ, σ, ks, ss, cs, ls, ms', hB⟩ := R0
  first | refine J.aload_n (pc' := 275) rfl rfl rfl ?_ | refine J.aload_nN (pc' := 275) rfl rfl rfl ?_
  refine J.rdS (p' := 281) rfl rfl rfl rfl rfl rfl Z rfl rfl hi (by decide) ?_
  refine J.rdS (p' := 287) rfl rfl rfl rfl rfl rfl Z rfl rfl hi (by decide) ?_
  refine J.rdS (p' := 293) rfl rfl rfl rfl rfl rfl Z rfl rfl hi (by decide) ?_
  refine J.rdS (p' := 299) rfl rfl rfl rfl rfl rfl Z rfl rfl hi (by decide) ?_
  refine J.rdS (p' := 305) rfl rfl rfl rfl rfl rfl Z rfl rfl hi (by decide) ?_
  refine J.callV (pc' := 308) (t := 15) rfl MX11_feed ml_L_105 iv_X11_feed (by decide) ⟨_, rfl, rfl⟩ hB.1.1 (cf_feed (hS (i + 1)) (hS (i + 2)) (hS (i + 3)) (hS (i + 4)) (hS (i + 5)) h0 I0 hB) rfl rfl (Nat.le_of_ble_eq_true rfl) (by omega) (by omega) (by omega) rfl rfl ?_ ?_
  · exact fun _ _ z => z.elim
  rintro _ k ⟨rfl, q2, q3, q4⟩
  have F : FrO o h k := q4.toT.mono (fun b _ z => Or.inl z)
  have M1 := M.fr to F
  have Z1 := Z.fr to F
  have to1 : k.tag o = 38 := F.tag to (by decide)
  have lo1 : k.len o = 1 := by rw [F.len (by omega)]; exact lo
  refine M1.sw ?_
  first | refine J.aload_n (pc' := 309) rfl rfl rfl ?_ | refine J.aload_nN (pc' := 309) rfl rfl rfl ?_
  refine J.rdS (p' := 315) rfl rfl rfl rfl rfl rfl Z1.nxt rfl rfl hi (by decide) ?_
  refine J.rdS (p' := 321) rfl rfl rfl rfl rfl rfl Z1.nxt rfl rfl hi (by decide) ?_
  refine J.rdS (p' := 327) rfl rfl rfl rfl rfl rfl Z1.nxt rfl rfl hi (by decide) ?_
  refine J.rdS (p' := 333) rfl rfl rfl rfl rfl rfl Z1.nxt rfl rfl hi (by decide) ?_
  refine J.rdS (p' := 339) rfl rfl rfl rfl rfl rfl Z1.nxt rfl rfl hi (by decide) ?_
  refine J.callV (pc' := 342) (t := 16) rfl MX12_feed ml_L_109 iv_X12_feed (by decide) ⟨_, rfl, rfl⟩ M1.1.1 (cm_feed M1.1 I.1 (hS (i + 1)) (hS (i + 2)) (hS (i + 3)) (hS (i + 4)) (hS (i + 5))) rfl rfl (Nat.le_of_ble_eq_true rfl) (by omega) (by omega) (by omega) rfl rfl ?_ ?_
  · exact fun _ _ z => z.elim
  rintro _ _ ⟨rfl, rfl⟩
  refine J.widen (cells' := cells + 1150) (slots' := slots + 12000) (by omega) (by omega) ?_
  refine J.icmpE (pc' := 1791) rfl rfl ?_
  exact fin _ _ (lwS.nx (P := fun W => W = _) M1 (fun V p => by rw [p]; exact q3) rfl (inv_feed I0) Z1 to1 lo1) _ (by repeat' (first | exact trivial | refine ⟨rfl, ?_⟩))
theorem case_contract (hS : ∀ j, r32 (S j)) (hi : 0 ≤ i ∧ i + 6 ≤ n) (hm : cells + 1150 ≤ mc) (hs : slots + 12000 ≤ ms) (hL : lwS γ V h b x o sc n S) (fin : ∀ W k, lwS γ W k b x o sc n S → ∀ lv, hasL lv [(0, .ref sc), (1, .ref x), (2, .ref (b 16)), (3, .ref o), (4, .int (jI i))] → J γ mL_law 13 mc ms (cells + 1150) (slots + 12000) k 1791 lv [] Q X) : ∀ lv, hasL lv [(0, .ref sc), (1, .ref x), (2, .ref (b 16)), (3, .ref o), (4, .int (jI i))] → J γ mL_law 13 mc ms cells slots h 347 lv [] Q X := by
  intro lv hl
  refine J.lc hl ?_
  obtain ⟨M, hR, I, Z, to, lo⟩ := hL
  obtain ⟨c, v, P, hc, hP, hC, hMd⟩ := op_contract (hS (i + 1)) (hS (i + 2)) (hS (i + 3)) hR I to lo
  first | refine J.aload_n (pc' := 348) rfl rfl rfl ?_ | refine J.aload_nN (pc' := 348) rfl rfl rfl ?_
  refine J.rdS (p' := 354) rfl rfl rfl rfl rfl rfl Z rfl rfl hi (by decide) ?_
  refine J.rdS (p' := 360) rfl rfl rfl rfl rfl rfl Z rfl rfl hi (by decide) ?_
  refine J.rdS (p' := 366) rfl rfl rfl rfl rfl rfl Z rfl rfl hi (by decide) ?_
  first | refine J.aload_n (pc' := 367) rfl rfl rfl ?_ | refine J.aload_nN (pc' := 367) rfl rfl rfl ?_
  refine J.callSW (pc' := 370) rfl ML_contract ml_L_110 is_L_contract hC rfl rfl (Nat.le_of_ble_eq_true rfl) (by omega) (by omega) (by omega) rfl ?_
  rintro _ k ⟨rfl, F, u, hR1⟩
  have M1 := M.fr to F
  have Z1 := Z.fr to F
  have to1 : k.tag o = 38 := F.tag to (by decide)
  have lo1 : k.len o = 1 := by rw [F.len (by omega)]; exact lo
  refine J.istore (pc' := 372) rfl rfl (by decide) ?_
  refine J.lc (lv' := [(0, .ref sc), (1, .ref x), (2, .ref (b 16)), (3, .ref o), (4, .int (jI i)), (5, .int (jI c))]) (by repeat' (first | exact trivial | refine ⟨rfl, ?_⟩)) ?_
  refine M1.sw ?_
  first | refine J.aload_n (pc' := 373) rfl rfl rfl ?_ | refine J.aload_nN (pc' := 373) rfl rfl rfl ?_
  refine J.rdS (p' := 379) rfl rfl rfl rfl rfl rfl Z1.nxt rfl rfl hi (by decide) ?_
  refine J.rdS (p' := 385) rfl rfl rfl rfl rfl rfl Z1.nxt rfl rfl hi (by decide) ?_
  refine J.rdS (p' := 391) rfl rfl rfl rfl rfl rfl Z1.nxt rfl rfl hi (by decide) ?_
  refine J.callV (pc' := 394) (t := 16) rfl MX12_contract ml_L_113 iv_X12_contract (by decide) ⟨_, rfl, rfl⟩ M1.1.1 (hMd (k, b) M1.1) rfl rfl (Nat.le_of_ble_eq_true rfl) (by omega) (by omega) (by omega) rfl rfl ?_ ?_
  · exact fun _ _ z => z.elim
  rintro _ _ ⟨W, p, rfl, rfl⟩
  refine J.widen (cells' := cells + 1150) (slots' := slots + 12000) (by omega) (by omega) ?_
  exact law_tail (p := 394) rfl rfl rfl rfl rfl rfl rfl rfl rfl rfl rfl rfl rfl rfl rfl rfl (by decide) hm hs M1.1 (hP W p).2 hc to1 lo1 u rfl (fun lv hl => fin W _ (lwS.nx M1 hR1 p (hP W p).1 Z1 to1 lo1) lv hl)
theorem case_force (hS : ∀ j, r32 (S j)) (hi : 0 ≤ i ∧ i + 6 ≤ n) (hm : cells + 1150 ≤ mc) (hs : slots + 12000 ≤ ms) (hL : lwS γ V h b x o sc n S) (fin : ∀ W k, lwS γ W k b x o sc n S → ∀ lv, hasL lv [(0, .ref sc), (1, .ref x), (2, .ref (b 16)), (3, .ref o), (4, .int (jI i))] → J γ mL_law 13 mc ms (cells + 1150) (slots + 12000) k 1791 lv [] Q X) : ∀ lv, hasL lv [(0, .ref sc), (1, .ref x), (2, .ref (b 16)), (3, .ref o), (4, .int (jI i))] → J γ mL_law 13 mc ms cells slots h 427 lv [] Q X := by
  intro lv hl
  refine J.lc hl ?_
  obtain ⟨M, hR, I, Z, to, lo⟩ := hL
  obtain ⟨c, v, P, hc, hP, hC, hMd⟩ := op_force (hS (i + 1)) (hS (i + 2)) hR I to lo
  first | refine J.aload_n (pc' := 428) rfl rfl rfl ?_ | refine J.aload_nN (pc' := 428) rfl rfl rfl ?_
  refine J.rdS (p' := 434) rfl rfl rfl rfl rfl rfl Z rfl rfl hi (by decide) ?_
  refine J.rdS (p' := 440) rfl rfl rfl rfl rfl rfl Z rfl rfl hi (by decide) ?_
  first | refine J.aload_n (pc' := 441) rfl rfl rfl ?_ | refine J.aload_nN (pc' := 441) rfl rfl rfl ?_
  refine J.callSW (pc' := 444) rfl ML_force ml_L_114 is_L_force hC rfl rfl (Nat.le_of_ble_eq_true rfl) (by omega) (by omega) (by omega) rfl ?_
  rintro _ k ⟨rfl, F, u, hR1⟩
  have M1 := M.fr to F
  have Z1 := Z.fr to F
  have to1 : k.tag o = 38 := F.tag to (by decide)
  have lo1 : k.len o = 1 := by rw [F.len (by omega)]; exact lo
  refine J.istore (pc' := 446) rfl rfl (by decide) ?_
  refine J.lc (lv' := [(0, .ref sc), (1, .ref x), (2, .ref (b 16)), (3, .ref o), (4, .int (jI i)), (5, .int (jI c))]) (by repeat' (first | exact trivial | refine ⟨rfl, ?_⟩)) ?_
  refine M1.sw ?_
  first | refine J.aload_n (pc' := 447) rfl rfl rfl ?_ | refine J.aload_nN (pc' := 447) rfl rfl rfl ?_
  refine J.rdS (p' := 453) rfl rfl rfl rfl rfl rfl Z1.nxt rfl rfl hi (by decide) ?_
  refine J.rdS (p' := 459) rfl rfl rfl rfl rfl rfl Z1.nxt rfl rfl hi (by decide) ?_
  refine J.callV (pc' := 462) (t := 16) rfl MX12_force ml_L_117 iv_X12_force (by decide) ⟨_, rfl, rfl⟩ M1.1.1 (hMd (k, b) M1.1) rfl rfl (Nat.le_of_ble_eq_true rfl) (by omega) (by omega) (by omega) rfl rfl ?_ ?_
  · exact fun _ _ z => z.elim
  rintro _ _ ⟨W, p, rfl, rfl⟩
  refine J.widen (cells' := cells + 1150) (slots' := slots + 12000) (by omega) (by omega) ?_
  exact law_tail (p := 462) rfl rfl rfl rfl rfl rfl rfl rfl rfl rfl rfl rfl rfl rfl rfl rfl (by decide) hm hs M1.1 (hP W p).2 hc to1 lo1 u rfl (fun lv hl => fin W _ (lwS.nx M1 hR1 p (hP W p).1 Z1 to1 lo1) lv hl)
theorem case_usual (hS : ∀ j, r32 (S j)) (hi : 0 ≤ i ∧ i + 6 ≤ n) (hm : cells + 1150 ≤ mc) (hs : slots + 12000 ≤ ms) (hL : lwS γ V h b x o sc n S) (fin : ∀ W k, lwS γ W k b x o sc n S → ∀ lv, hasL lv [(0, .ref sc), (1, .ref x), (2, .ref (b 16)), (3, .ref o), (4, .int (jI i))] → J γ mL_law 13 mc ms (cells + 1150) (slots + 12000) k 1791 lv [] Q X) : ∀ lv, hasL lv [(0, .ref sc), (1, .ref x), (2, .ref (b 16)), (3, .ref o), (4, .int (jI i))] → J γ mL_law 13 mc ms cells slots h 495 lv [] Q X := by
  intro lv hl
  refine J.lc hl ?_
  obtain ⟨M, hR, I, Z, to, lo⟩ := hL
  obtain ⟨c, v, P, hc, hP, hC, hMd⟩ := op_usual (hS (i + 1)) (hS (i + 2)) (hS (i + 3)) (hS (i + 4)) hR I to lo
  first | refine J.aload_n (pc' := 496) rfl rfl rfl ?_ | refine J.aload_nN (pc' := 496) rfl rfl rfl ?_
  refine J.rdS (p' := 502) rfl rfl rfl rfl rfl rfl Z rfl rfl hi (by decide) ?_
  refine J.rdS (p' := 508) rfl rfl rfl rfl rfl rfl Z rfl rfl hi (by decide) ?_
  refine J.rdS (p' := 514) rfl rfl rfl rfl rfl rfl Z rfl rfl hi (by decide) ?_
  refine J.rdS (p' := 520) rfl rfl rfl rfl rfl rfl Z rfl rfl hi (by decide) ?_
  first | refine J.aload_n (pc' := 521) rfl rfl rfl ?_ | refine J.aload_nN (pc' := 521) rfl rfl rfl ?_
  refine J.callSW (pc' := 524) rfl ML_usual ml_L_118 is_L_usual hC rfl rfl (Nat.le_of_ble_eq_true rfl) (by omega) (by omega) (by omega) rfl ?_
  rintro _ k ⟨rfl, F, u, hR1⟩
  have M1 := M.fr to F
  have Z1 := Z.fr to F
  have to1 : k.tag o = 38 := F.tag to (by decide)
  have lo1 : k.len o = 1 := by rw [F.len (by omega)]; exact lo
  refine J.istore (pc' := 526) rfl rfl (by decide) ?_
  refine J.lc (lv' := [(0, .ref sc), (1, .ref x), (2, .ref (b 16)), (3, .ref o), (4, .int (jI i)), (5, .int (jI c))]) (by repeat' (first | exact trivial | refine ⟨rfl, ?_⟩)) ?_
  refine M1.sw ?_
  first | refine J.aload_n (pc' := 527) rfl rfl rfl ?_ | refine J.aload_nN (pc' := 527) rfl rfl rfl ?_
  refine J.rdS (p' := 533) rfl rfl rfl rfl rfl rfl Z1.nxt rfl rfl hi (by decide) ?_
  refine J.rdS (p' := 539) rfl rfl rfl rfl rfl rfl Z1.nxt rfl rfl hi (by decide) ?_
  refine J.rdS (p' := 545) rfl rfl rfl rfl rfl rfl Z1.nxt rfl rfl hi (by decide) ?_
  refine J.rdS (p' := 551) rfl rfl rfl rfl rfl rfl Z1.nxt rfl rfl hi (by decide) ?_
  refine J.callV (pc' := 554) (t := 16) rfl MX12_usual ml_L_120 iv_X12_usual (by decide) ⟨_, rfl, rfl⟩ M1.1.1 (hMd (k, b) M1.1) rfl rfl (Nat.le_of_ble_eq_true rfl) (by omega) (by omega) (by omega) rfl rfl ?_ ?_
  · exact fun _ _ z => z.elim
  rintro _ _ ⟨W, p, rfl, rfl⟩
  refine J.widen (cells' := cells + 1150) (slots' := slots + 12000) (by omega) (by omega) ?_
  exact law_tail (p := 554) rfl rfl rfl rfl rfl rfl rfl rfl rfl rfl rfl rfl rfl rfl rfl rfl (by decide) hm hs M1.1 (hP W p).2 hc to1 lo1 u rfl (fun lv hl => fin W _ (lwS.nx M1 hR1 p (hP W p).1 Z1 to1 lo1) lv hl)
theorem case_load (hS : ∀ j, r32 (S j)) (hi : 0 ≤ i ∧ i + 6 ≤ n) (hm : cells + 1150 ≤ mc) (hs : slots + 12000 ≤ ms) (hL : lwS γ V h b x o sc n S) (fin : ∀ W k, lwS γ W k b x o sc n S → ∀ lv, hasL lv [(0, .ref sc), (1, .ref x), (2, .ref (b 16)), (3, .ref o), (4, .int (jI i))] → J γ mL_law 13 mc ms (cells + 1150) (slots + 12000) k 1791 lv [] Q X) : ∀ lv, hasL lv [(0, .ref sc), (1, .ref x), (2, .ref (b 16)), (3, .ref o), (4, .int (jI i))] → J γ mL_law 13 mc ms cells slots h 587 lv [] Q X := by
  intro lv hl
  refine J.lc hl ?_
  obtain ⟨M, hR, I, Z, to, lo⟩ := hL
  obtain ⟨c, v, P, hc, hP, hC, hMd⟩ := op_load (hS (i + 1)) (hS (i + 2)) (hS (i + 3)) (hS (i + 4)) hR I to lo
  first | refine J.aload_n (pc' := 588) rfl rfl rfl ?_ | refine J.aload_nN (pc' := 588) rfl rfl rfl ?_
  refine J.rdS (p' := 594) rfl rfl rfl rfl rfl rfl Z rfl rfl hi (by decide) ?_
  refine J.rdS (p' := 600) rfl rfl rfl rfl rfl rfl Z rfl rfl hi (by decide) ?_
  refine J.rdS (p' := 606) rfl rfl rfl rfl rfl rfl Z rfl rfl hi (by decide) ?_
  refine J.rdS (p' := 612) rfl rfl rfl rfl rfl rfl Z rfl rfl hi (by decide) ?_
  first | refine J.aload_n (pc' := 613) rfl rfl rfl ?_ | refine J.aload_nN (pc' := 613) rfl rfl rfl ?_
  refine J.callSW (pc' := 616) rfl ML_load ml_L_121 is_L_load hC rfl rfl (Nat.le_of_ble_eq_true rfl) (by omega) (by omega) (by omega) rfl ?_
  rintro _ k ⟨rfl, F, u, hR1⟩
  have M1 := M.fr to F
  have Z1 := Z.fr to F
  have to1 : k.tag o = 38 := F.tag to (by decide)
  have lo1 : k.len o = 1 := by rw [F.len (by omega)]; exact lo
  refine J.istore (pc' := 618) rfl rfl (by decide) ?_
  refine J.lc (lv' := [(0, .ref sc), (1, .ref x), (2, .ref (b 16)), (3, .ref o), (4, .int (jI i)), (5, .int (jI c))]) (by repeat' (first | exact trivial | refine ⟨rfl, ?_⟩)) ?_
  refine M1.sw ?_
  first | refine J.aload_n (pc' := 619) rfl rfl rfl ?_ | refine J.aload_nN (pc' := 619) rfl rfl rfl ?_
  refine J.rdS (p' := 625) rfl rfl rfl rfl rfl rfl Z1.nxt rfl rfl hi (by decide) ?_
  refine J.rdS (p' := 631) rfl rfl rfl rfl rfl rfl Z1.nxt rfl rfl hi (by decide) ?_
  refine J.rdS (p' := 637) rfl rfl rfl rfl rfl rfl Z1.nxt rfl rfl hi (by decide) ?_
  refine J.rdS (p' := 643) rfl rfl rfl rfl rfl rfl Z1.nxt rfl rfl hi (by decide) ?_
  refine J.callV (pc' := 646) (t := 16) rfl MX12_load ml_L_123 iv_X12_load (by decide) ⟨_, rfl, rfl⟩ M1.1.1 (hMd (k, b) M1.1) rfl rfl (Nat.le_of_ble_eq_true rfl) (by omega) (by omega) (by omega) rfl rfl ?_ ?_
  · exact fun _ _ z => z.elim
  rintro _ _ ⟨W, p, rfl, rfl⟩
  refine J.widen (cells' := cells + 1150) (slots' := slots + 12000) (by omega) (by omega) ?_
  exact law_tail (p := 646) rfl rfl rfl rfl rfl rfl rfl rfl rfl rfl rfl rfl rfl rfl rfl rfl (by decide) hm hs M1.1 (hP W p).2 hc to1 lo1 u rfl (fun lv hl => fin W _ (lwS.nx M1 hR1 p (hP W p).1 Z1 to1 lo1) lv hl)
theorem case_told (hS : ∀ j, r32 (S j)) (hi : 0 ≤ i ∧ i + 6 ≤ n) (hm : cells + 1150 ≤ mc) (hs : slots + 12000 ≤ ms) (hL : lwS γ V h b x o sc n S) (fin : ∀ W k, lwS γ W k b x o sc n S → ∀ lv, hasL lv [(0, .ref sc), (1, .ref x), (2, .ref (b 16)), (3, .ref o), (4, .int (jI i))] → J γ mL_law 13 mc ms (cells + 1150) (slots + 12000) k 1791 lv [] Q X) : ∀ lv, hasL lv [(0, .ref sc), (1, .ref x), (2, .ref (b 16)), (3, .ref o), (4, .int (jI i))] → J γ mL_law 13 mc ms cells slots h 679 lv [] Q X := by
  intro lv hl
  refine J.lc hl ?_
  obtain ⟨M, hR, I, Z, to, lo⟩ := hL
  obtain ⟨c, v, P, hc, hP, hC, hMd⟩ := op_told (hS (i + 1)) (hS (i + 2)) hR I to lo
  first | refine J.aload_n (pc' := 680) rfl rfl rfl ?_ | refine J.aload_nN (pc' := 680) rfl rfl rfl ?_
  refine J.rdS (p' := 686) rfl rfl rfl rfl rfl rfl Z rfl rfl hi (by decide) ?_
  refine J.rdS (p' := 692) rfl rfl rfl rfl rfl rfl Z rfl rfl hi (by decide) ?_
  first | refine J.aload_n (pc' := 693) rfl rfl rfl ?_ | refine J.aload_nN (pc' := 693) rfl rfl rfl ?_
  refine J.callSW (pc' := 696) rfl ML_told ml_L_124 is_L_told hC rfl rfl (Nat.le_of_ble_eq_true rfl) (by omega) (by omega) (by omega) rfl ?_
  rintro _ k ⟨rfl, F, u, hR1⟩
  have M1 := M.fr to F
  have Z1 := Z.fr to F
  have to1 : k.tag o = 38 := F.tag to (by decide)
  have lo1 : k.len o = 1 := by rw [F.len (by omega)]; exact lo
  refine J.istore (pc' := 698) rfl rfl (by decide) ?_
  refine J.lc (lv' := [(0, .ref sc), (1, .ref x), (2, .ref (b 16)), (3, .ref o), (4, .int (jI i)), (5, .int (jI c))]) (by repeat' (first | exact trivial | refine ⟨rfl, ?_⟩)) ?_
  refine M1.sw ?_
  first | refine J.aload_n (pc' := 699) rfl rfl rfl ?_ | refine J.aload_nN (pc' := 699) rfl rfl rfl ?_
  refine J.rdS (p' := 705) rfl rfl rfl rfl rfl rfl Z1.nxt rfl rfl hi (by decide) ?_
  refine J.rdS (p' := 711) rfl rfl rfl rfl rfl rfl Z1.nxt rfl rfl hi (by decide) ?_
  refine J.callV (pc' := 714) (t := 16) rfl MX12_told ml_L_126 iv_X12_told (by decide) ⟨_, rfl, rfl⟩ M1.1.1 (hMd (k, b) M1.1) rfl rfl (Nat.le_of_ble_eq_true rfl) (by omega) (by omega) (by omega) rfl rfl ?_ ?_
  · exact fun _ _ z => z.elim
  rintro _ _ ⟨W, p, rfl, rfl⟩
  refine J.widen (cells' := cells + 1150) (slots' := slots + 12000) (by omega) (by omega) ?_
  exact law_tail (p := 714) rfl rfl rfl rfl rfl rfl rfl rfl rfl rfl rfl rfl rfl rfl rfl rfl (by decide) hm hs M1.1 (hP W p).2 hc to1 lo1 u rfl (fun lv hl => fin W _ (lwS.nx M1 hR1 p (hP W p).1 Z1 to1 lo1) lv hl)
end LC0

