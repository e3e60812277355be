section LC1
variable {γ : jG} {mc ms cells slots : Nat} {V : VV} {h : jM} {b : Nat → Nat} {x o sc n : Nat} {S : Int → Int} {i : Int} {Q : Option Value → jM → Prop} {X : String → jM → Prop}
theorem case_sample (hS : ∀ j, r32 (S j)) (hi : 0 ≤ i ∧ i + 6 ≤ n) (hm : cells + 1150 ≤ mc) (hs : slots + 12000 ≤ ms) (hL : lwS γ V h b x o sc n S) (fin : ∀ W k, lwS γ W k b x o sc n S → ∀ lv, hasL lv [(0, .ref sc), (1, .ref x), (2, .ref (b 16)), (3, .ref o), (4, .int (jI i))] → J γ mL_law 13 mc ms (cells + 1150) (slots + 12000) k 1791 lv [] Q X) : ∀ lv, hasL lv [(0, .ref sc), (1, .ref x), (2, .ref (b 16)), (3, .ref o), (4, .int (jI i))] → J γ mL_law 13 mc ms cells slots h 747 lv [] Q X := by
  intro lv hl
  refine J.lc hl ?_
  obtain ⟨M, hR, I, Z, to, lo⟩ := hL
  obtain ⟨c, v, P, hc, hP, hC, hMd⟩ := op_sample (hS (i + 1)) (hS (i + 2)) (hS (i + 3)) (hS (i + 4)) hR I to lo
  first | refine J.aload_n (pc' := 748) rfl rfl rfl ?_ | refine J.aload_nN (pc' := 748) rfl rfl rfl ?_
  refine J.rdS (p' := 754) rfl rfl rfl rfl rfl rfl Z rfl rfl hi (by decide) ?_
  refine J.rdS (p' := 760) rfl rfl rfl rfl rfl rfl Z rfl rfl hi (by decide) ?_
  refine J.rdS (p' := 766) rfl rfl rfl rfl rfl rfl Z rfl rfl hi (by decide) ?_
  refine J.rdS (p' := 772) rfl rfl rfl rfl rfl rfl Z rfl rfl hi (by decide) ?_
  first | refine J.aload_n (pc' := 773) rfl rfl rfl ?_ | refine J.aload_nN (pc' := 773) rfl rfl rfl ?_
  refine J.callSW (pc' := 776) rfl ML_sample ml_L_127 is_L_sample hC rfl rfl (Nat.le_of_ble_eq_true rfl) (by omega) (by omega) (by omega) rfl ?_
  rintro _ k ⟨rfl, F, u, hR1⟩
  have M1 := M.fr to F
  have Z1 := Z.fr to F
  have to1 : k.tag o = 38 := F.tag to (by decide)
  have lo1 : k.len o = 1 := by rw [F.len (by omega)]; exact lo
  refine J.istore (pc' := 778) rfl rfl (by decide) ?_
  refine J.lc (lv' := [(0, .ref sc), (1, .ref x), (2, .ref (b 16)), (3, .ref o), (4, .int (jI i)), (5, .int (jI c))]) (by repeat' (first | exact trivial | refine ⟨rfl, ?_⟩)) ?_
  refine M1.sw ?_
  first | refine J.aload_n (pc' := 779) rfl rfl rfl ?_ | refine J.aload_nN (pc' := 779) rfl rfl rfl ?_
  refine J.rdS (p' := 785) rfl rfl rfl rfl rfl rfl Z1.nxt rfl rfl hi (by decide) ?_
  refine J.rdS (p' := 791) rfl rfl rfl rfl rfl rfl Z1.nxt rfl rfl hi (by decide) ?_
  refine J.rdS (p' := 797) rfl rfl rfl rfl rfl rfl Z1.nxt rfl rfl hi (by decide) ?_
  refine J.rdS (p' := 803) rfl rfl rfl rfl rfl rfl Z1.nxt rfl rfl hi (by decide) ?_
  refine J.callV (pc' := 806) (t := 16) rfl MX12_sample ml_L_129 iv_X12_sample (by decide) ⟨_, rfl, rfl⟩ M1.1.1 (hMd (k, b) M1.1) rfl rfl (Nat.le_of_ble_eq_true rfl) (by omega) (by omega) (by omega) rfl rfl ?_ ?_
  · exact fun _ _ z => z.elim
  rintro _ _ ⟨W, p, rfl, rfl⟩
  refine J.widen (cells' := cells + 1150) (slots' := slots + 12000) (by omega) (by omega) ?_
  exact law_tail (p := 806) rfl rfl rfl rfl rfl rfl rfl rfl rfl rfl rfl rfl rfl rfl rfl rfl (by decide) hm hs M1.1 (hP W p).2 hc to1 lo1 u rfl (fun lv hl => fin W _ (lwS.nx M1 hR1 p (hP W p).1 Z1 to1 lo1) lv hl)
theorem case_tons (hS : ∀ j, r32 (S j)) (hi : 0 ≤ i ∧ i + 6 ≤ n) (hm : cells + 1150 ≤ mc) (hs : slots + 12000 ≤ ms) (hL : lwS γ V h b x o sc n S) (fin : ∀ W k, lwS γ W k b x o sc n S → ∀ lv, hasL lv [(0, .ref sc), (1, .ref x), (2, .ref (b 16)), (3, .ref o), (4, .int (jI i))] → J γ mL_law 13 mc ms (cells + 1150) (slots + 12000) k 1791 lv [] Q X) : ∀ lv, hasL lv [(0, .ref sc), (1, .ref x), (2, .ref (b 16)), (3, .ref o), (4, .int (jI i))] → J γ mL_law 13 mc ms cells slots h 839 lv [] Q X := by
  intro lv hl
  refine J.lc hl ?_
  obtain ⟨M, hR, I, Z, to, lo⟩ := hL
  obtain ⟨c, v, P, hc, hP, hC, hMd⟩ := op_tons (hS (i + 1)) hR I to lo
  first | refine J.aload_n (pc' := 840) rfl rfl rfl ?_ | refine J.aload_nN (pc' := 840) rfl rfl rfl ?_
  refine J.rdS (p' := 846) rfl rfl rfl rfl rfl rfl Z rfl rfl hi (by decide) ?_
  first | refine J.aload_n (pc' := 847) rfl rfl rfl ?_ | refine J.aload_nN (pc' := 847) rfl rfl rfl ?_
  refine J.callSW (pc' := 850) rfl ML_tons ml_L_130 is_L_tons hC rfl rfl (Nat.le_of_ble_eq_true rfl) (by omega) (by omega) (by omega) rfl ?_
  rintro _ k ⟨rfl, F, u, hR1⟩
  have M1 := M.fr to F
  have Z1 := Z.fr to F
  have to1 : k.tag o = 38 := F.tag to (by decide)
  have lo1 : k.len o = 1 := by rw [F.len (by omega)]; exact lo
  refine J.istore (pc' := 852) rfl rfl (by decide) ?_
  refine J.lc (lv' := [(0, .ref sc), (1, .ref x), (2, .ref (b 16)), (3, .ref o), (4, .int (jI i)), (5, .int (jI c))]) (by repeat' (first | exact trivial | refine ⟨rfl, ?_⟩)) ?_
  refine M1.sw ?_
  first | refine J.aload_n (pc' := 853) rfl rfl rfl ?_ | refine J.aload_nN (pc' := 853) rfl rfl rfl ?_
  refine J.rdS (p' := 859) rfl rfl rfl rfl rfl rfl Z1.nxt rfl rfl hi (by decide) ?_
  refine J.callV (pc' := 862) (t := 16) rfl MX12_tons ml_L_133 iv_X12_tons (by decide) ⟨_, rfl, rfl⟩ M1.1.1 (hMd (k, b) M1.1) rfl rfl (Nat.le_of_ble_eq_true rfl) (by omega) (by omega) (by omega) rfl rfl ?_ ?_
  · exact fun _ _ z => z.elim
  rintro _ _ ⟨W, p, rfl, rfl⟩
  refine J.widen (cells' := cells + 1150) (slots' := slots + 12000) (by omega) (by omega) ?_
  exact law_tail (p := 862) rfl rfl rfl rfl rfl rfl rfl rfl rfl rfl rfl rfl rfl rfl rfl rfl (by decide) hm hs M1.1 (hP W p).2 hc to1 lo1 u rfl (fun lv hl => fin W _ (lwS.nx M1 hR1 p (hP W p).1 Z1 to1 lo1) lv hl)
theorem case_layers (hS : ∀ j, r32 (S j)) (hi : 0 ≤ i ∧ i + 6 ≤ n) (hm : cells + 1150 ≤ mc) (hs : slots + 12000 ≤ ms) (hL : lwS γ V h b x o sc n S) (fin : ∀ W k, lwS γ W k b x o sc n S → ∀ lv, hasL lv [(0, .ref sc), (1, .ref x), (2, .ref (b 16)), (3, .ref o), (4, .int (jI i))] → J γ mL_law 13 mc ms (cells + 1150) (slots + 12000) k 1791 lv [] Q X) : ∀ lv, hasL lv [(0, .ref sc), (1, .ref x), (2, .ref (b 16)), (3, .ref o), (4, .int (jI i))] → J γ mL_law 13 mc ms cells slots h 895 lv [] Q X := by
  intro lv hl
  refine J.lc hl ?_
  obtain ⟨M, hR, I, Z, to, lo⟩ := hL
  obtain ⟨c, v, P, hc, hP, hC, hMd⟩ := op_layers (hS (i + 1)) hR I to lo
  first | refine J.aload_n (pc' := 896) rfl rfl rfl ?_ | refine J.aload_nN (pc' := 896) rfl rfl rfl ?_
  refine J.rdS (p' := 902) rfl rfl rfl rfl rfl rfl Z rfl rfl hi (by decide) ?_
  first | refine J.aload_n (pc' := 903) rfl rfl rfl ?_ | refine J.aload_nN (pc' := 903) rfl rfl rfl ?_
  refine J.callSW (pc' := 906) rfl ML_layers ml_L_134 is_L_layers hC rfl rfl (Nat.le_of_ble_eq_true rfl) (by omega) (by omega) (by omega) rfl ?_
  rintro _ k ⟨rfl, F, u, hR1⟩
  have M1 := M.fr to F
  have Z1 := Z.fr to F
  have to1 : k.tag o = 38 := F.tag to (by decide)
  have lo1 : k.len o = 1 := by rw [F.len (by omega)]; exact lo
  refine J.istore (pc' := 908) rfl rfl (by decide) ?_
  refine J.lc (lv' := [(0, .ref sc), (1, .ref x), (2, .ref (b 16)), (3, .ref o), (4, .int (jI i)), (5, .int (jI c))]) (by repeat' (first | exact trivial | refine ⟨rfl, ?_⟩)) ?_
  refine M1.sw ?_
  first | refine J.aload_n (pc' := 909) rfl rfl rfl ?_ | refine J.aload_nN (pc' := 909) rfl rfl rfl ?_
  refine J.rdS (p' := 915) rfl rfl rfl rfl rfl rfl Z1.nxt rfl rfl hi (by decide) ?_
  refine J.callV (pc' := 918) (t := 16) rfl MX12_layers ml_L_136 iv_X12_layers (by decide) ⟨_, rfl, rfl⟩ M1.1.1 (hMd (k, b) M1.1) rfl rfl (Nat.le_of_ble_eq_true rfl) (by omega) (by omega) (by omega) rfl rfl ?_ ?_
  · exact fun _ _ z => z.elim
  rintro _ _ ⟨W, p, rfl, rfl⟩
  refine J.widen (cells' := cells + 1150) (slots' := slots + 12000) (by omega) (by omega) ?_
  exact law_tail (p := 918) rfl rfl rfl rfl rfl rfl rfl rfl rfl rfl rfl rfl rfl rfl rfl rfl (by decide) hm hs M1.1 (hP W p).2 hc to1 lo1 u rfl (fun lv hl => fin W _ (lwS.nx M1 hR1 p (hP W p).1 Z1 to1 lo1) lv hl)
theorem case_layer (hS : ∀ j, r32 (S j)) (hi : 0 ≤ i ∧ i + 6 ≤ n) (hm : cells + 1150 ≤ mc) (hs : slots + 12000 ≤ ms) (hL : lwS γ V h b x o sc n S) (fin : ∀ W k, lwS γ W k b x o sc n S → ∀ lv, hasL lv [(0, .ref sc), (1, .ref x), (2, .ref (b 16)), (3, .ref o), (4, .int (jI i))] → J γ mL_law 13 mc ms (cells + 1150) (slots + 12000) k 1791 lv [] Q X) : ∀ lv, hasL lv [(0, .ref sc), (1, .ref x), (2, .ref (b 16)), (3, .ref o), (4, .int (jI i))] → J γ mL_law 13 mc ms cells slots h 951 lv [] Q X := by
  intro lv hl
  refine J.lc hl ?_
  obtain ⟨M, hR, I, Z, to, lo⟩ := hL
  obtain ⟨c, v, P, hc, hP, hC, hMd⟩ := op_layer (hS (i + 1)) (hS (i + 2)) (hS (i + 3)) hR I to lo
  first | refine J.aload_n (pc' := 952) rfl rfl rfl ?_ | refine J.aload_nN (pc' := 952) rfl rfl rfl ?_
  refine J.rdS (p' := 958) rfl rfl rfl rfl rfl rfl Z rfl rfl hi (by decide) ?_
  refine J.rdS (p' := 964) rfl rfl rfl rfl rfl rfl Z rfl rfl hi (by decide) ?_
  refine J.rdS (p' := 970) rfl rfl rfl rfl rfl rfl Z rfl rfl hi (by decide) ?_
  first | refine J.aload_n (pc' := 971) rfl rfl rfl ?_ | refine J.aload_nN (pc' := 971) rfl rfl rfl ?_
  refine J.callSW (pc' := 974) rfl ML_layer ml_L_137 is_L_layer hC rfl rfl (Nat.le_of_ble_eq_true rfl) (by omega) (by omega) (by omega) rfl ?_
  rintro _ k ⟨rfl, F, u, hR1⟩
  have M1 := M.fr to F
  have Z1 := Z.fr to F
  have to1 : k.tag o = 38 := F.tag to (by decide)
  have lo1 : k.len o = 1 := by rw [F.len (by omega)]; exact lo
  refine J.istore (pc' := 976) rfl rfl (by decide) ?_
  refine J.lc (lv' := [(0, .ref sc), (1, .ref x), (2, .ref (b 16)), (3, .ref o), (4, .int (jI i)), (5, .int (jI c))]) (by repeat' (first | exact trivial | refine ⟨rfl, ?_⟩)) ?_
  refine M1.sw ?_
  first | refine J.aload_n (pc' := 977) rfl rfl rfl ?_ | refine J.aload_nN (pc' := 977) rfl rfl rfl ?_
  refine J.rdS (p' := 983) rfl rfl rfl rfl rfl rfl Z1.nxt rfl rfl hi (by decide) ?_
  refine J.rdS (p' := 989) rfl rfl rfl rfl rfl rfl Z1.nxt rfl rfl hi (by decide) ?_
  refine J.rdS (p' := 995) rfl rfl rfl rfl rfl rfl Z1.nxt rfl rfl hi (by decide) ?_
  refine J.callV (pc' := 998) (t := 16) rfl MX12_layer ml_L_139 iv_X12_layer (by decide) ⟨_, rfl, rfl⟩ M1.1.1 (hMd (k, b) M1.1) rfl rfl (Nat.le_of_ble_eq_true rfl) (by omega) (by omega) (by omega) rfl rfl ?_ ?_
  · exact fun _ _ z => z.elim
  rintro _ _ ⟨W, p, rfl, rfl⟩
  refine J.widen (cells' := cells + 1150) (slots' := slots + 12000) (by omega) (by omega) ?_
  exact law_tail (p := 998) rfl rfl rfl rfl rfl rfl rfl rfl rfl rfl rfl rfl rfl rfl rfl rfl (by decide) hm hs M1.1 (hP W p).2 hc to1 lo1 u rfl (fun lv hl => fin W _ (lwS.nx M1 hR1 p (hP W p).1 Z1 to1 lo1) lv hl)
theorem case_move (hS : ∀ j, r32 (S j)) (hi : 0 ≤ i ∧ i + 6 ≤ n) (hm : cells + 1150 ≤ mc) (hs : slots + 12000 ≤ ms) (hL : lwS γ V h b x o sc n S) (fin : ∀ W k, lwS γ W k b x o sc n S → ∀ lv, hasL lv [(0, .ref sc), (1, .ref x), (2, .ref (b 16)), (3, .ref o), (4, .int (jI i))] → J γ mL_law 13 mc ms (cells + 1150) (slots + 12000) k 1791 lv [] Q X) : ∀ lv, hasL lv [(0, .ref sc), (1, .ref x), (2, .ref (b 16)), (3, .ref o), (4, .int (jI i))] → J γ mL_law 13 mc ms cells slots h 1031 lv [] Q X := by
  intro lv hl
  refine J.lc hl ?_
  obtain ⟨M, hR, I, Z, to, lo⟩ := hL
  obtain ⟨c, v, P, hc, hP, hC, hMd⟩ := op_move (hS (i + 1)) (hS (i + 2)) (hS (i + 3)) hR I to lo
  first | refine J.aload_n (pc' := 1032) rfl rfl rfl ?_ | refine J.aload_nN (pc' := 1032) rfl rfl rfl ?_
  refine J.rdS (p' := 1038) rfl rfl rfl rfl rfl rfl Z rfl rfl hi (by decide) ?_
  refine J.rdS (p' := 1044) rfl rfl rfl rfl rfl rfl Z rfl rfl hi (by decide) ?_
  refine J.rdS (p' := 1050) rfl rfl rfl rfl rfl rfl Z rfl rfl hi (by decide) ?_
  first | refine J.aload_n (pc' := 1051) rfl rfl rfl ?_ | refine J.aload_nN (pc' := 1051) rfl rfl rfl ?_
  refine J.callSW (pc' := 1054) rfl ML_move ml_L_140 is_L_move hC rfl rfl (Nat.le_of_ble_eq_true rfl) (by omega) (by omega) (by omega) rfl ?_
  rintro _ k ⟨rfl, F, u, hR1⟩
  have M1 := M.fr to F
  have Z1 := Z.fr to F
  have to1 : k.tag o = 38 := F.tag to (by decide)
  have lo1 : k.len o = 1 := by rw [F.len (by omega)]; exact lo
  refine J.istore (pc' := 1056) rfl rfl (by decide) ?_
  refine J.lc (lv' := [(0, .ref sc), (1, .ref x), (2, .ref (b 16)), (3, .ref o), (4, .int (jI i)), (5, .int (jI c))]) (by repeat' (first | exact trivial | refine ⟨rfl, ?_⟩)) ?_
  refine M1.sw ?_
  first | refine J.aload_n (pc' := 1057) rfl rfl rfl ?_ | refine J.aload_nN (pc' := 1057) rfl rfl rfl ?_
  refine J.rdS (p' := 1063) rfl rfl rfl rfl rfl rfl Z1.nxt rfl rfl hi (by decide) ?_
  refine J.rdS (p' := 1069) rfl rfl rfl rfl rfl rfl Z1.nxt rfl rfl hi (by decide) ?_
  refine J.rdS (p' := 1075) rfl rfl rfl rfl rfl rfl Z1.nxt rfl rfl hi (by decide) ?_
  refine J.callV (pc' := 1078) (t := 16) rfl MX12_move ml_L_142 iv_X12_move (by decide) ⟨_, rfl, rfl⟩ M1.1.1 (hMd (k, b) M1.1) rfl rfl (Nat.le_of_ble_eq_true rfl) (by omega) (by omega) (by omega) rfl rfl ?_ ?_
  · exact fun _ _ z => z.elim
  rintro _ _ ⟨W, p, rfl, rfl⟩
  refine J.widen (cells' := cells + 1150) (slots' := slots + 12000) (by omega) (by omega) ?_
  exact law_tail (p := 1078) rfl rfl rfl rfl rfl rfl rfl rfl rfl rfl rfl rfl rfl rfl rfl rfl (by decide) hm hs M1.1 (hP W p).2 hc to1 lo1 u rfl (fun lv hl => fin W _ (lwS.nx M1 hR1 p (hP W p).1 Z1 to1 lo1) lv hl)
theorem case_mix (hS : ∀ j, r32 (S j)) (hi : 0 ≤ i ∧ i + 6 ≤ n) (hm : cells + 1150 ≤ mc) (hs : slots + 12000 ≤ ms) (hL : lwS γ V h b x o sc n S) (fin : ∀ W k, lwS γ W k b x o sc n S → ∀ lv, hasL lv [(0, .ref sc), (1, .ref x), (2, .ref (b 16)), (3, .ref o), (4, .int (jI i))] → J γ mL_law 13 mc ms (cells + 1150) (slots + 12000) k 1791 lv [] Q X) : ∀ lv, hasL lv [(0, .ref sc), (1, .ref x), (2, .ref (b 16)), (3, .ref o), (4, .int (jI i))] → J γ mL_law 13 mc ms cells slots h 1111 lv [] Q X := by
  intro lv hl
  refine J.lc hl ?_
  obtain ⟨M, hR, I, Z, to, lo⟩ := hL
  obtain ⟨c, v, P, hc, hP, hC, hMd⟩ := op_mix (hS (i + 1)) hR I to lo
  first | refine J.aload_n (pc' := 1112) rfl rfl rfl ?_ | refine J.aload_nN (pc' := 1112) rfl rfl rfl ?_
  refine J.rdS (p' := 1118) rfl rfl rfl rfl rfl rfl Z rfl rfl hi (by decide) ?_
  first | refine J.aload_n (pc' := 1119) rfl rfl rfl ?_ | refine J.aload_nN (pc' := 1119) rfl rfl rfl ?_
  refine J.callSW (pc' := 1122) rfl ML_mix ml_L_143 is_L_mix hC rfl rfl (Nat.le_of_ble_eq_true rfl) (by omega) (by omega) (by omega) rfl ?_
  rintro _ k ⟨rfl, F, u, hR1⟩
  have M1 := M.fr to F
  have Z1 := Z.fr to F
  have to1 : k.tag o = 38 := F.tag to (by decide)
  have lo1 : k.len o = 1 := by rw [F.len (by omega)]; exact lo
  refine J.istore (pc' := 1124) rfl rfl (by decide) ?_
  refine J.lc (lv' := [(0, .ref sc), (1, .ref x), (2, .ref (b 16)), (3, .ref o), (4, .int (jI i)), (5, .int (jI c))]) (by repeat' (first | exact trivial | refine ⟨rfl, ?_⟩)) ?_
  refine M1.sw ?_
  first | refine J.aload_n (pc' := 1125) rfl rfl rfl ?_ | refine J.aload_nN (pc' := 1125) rfl rfl rfl ?_
  refine J.rdS (p' := 1131) rfl rfl rfl rfl rfl rfl Z1.nxt rfl rfl hi (by decide) ?_
  refine J.callV (pc' := 1134) (t := 16) rfl MX12_mix ml_L_145 iv_X12_mix (by decide) ⟨_, rfl, rfl⟩ M1.1.1 (hMd (k, b) M1.1) rfl rfl (Nat.le_of_ble_eq_true rfl) (by omega) (by omega) (by omega) rfl rfl ?_ ?_
  · exact fun _ _ z => z.elim
  rintro _ _ ⟨W, p, rfl, rfl⟩
  refine J.widen (cells' := cells + 1150) (slots' := slots + 12000) (by omega) (by omega) ?_
  exact law_tail (p := 1134) rfl rfl rfl rfl rfl rfl rfl rfl rfl rfl rfl rfl rfl rfl rfl rfl (by decide) hm hs M1.1 (hP W p).2 hc to1 lo1 u rfl (fun lv hl => fin W _ (lwS.nx M1 hR1 p (hP W p).1 Z1 to1 lo1) lv hl)
theorem case_asked (hS : ∀ j, r32 (S j)) (hi : 0 ≤ i ∧ i + 6 ≤ n) (hm : cells + 1150 ≤ mc) (hs : slots + 12000 ≤ ms) (hL : lwS γ V h b x o sc n S) (fin : ∀ W k, lwS γ W k b x o sc n S → ∀ lv, hasL lv [(0, .ref sc), (1, .ref x), (2, .ref (b 16)), (3, .ref o), (4, .int (jI i))] → J γ mL_law 13 mc ms (cells + 1150) (slots + 12000) k 1791 lv [] Q X) : ∀ lv, hasL lv [(0, .ref sc), (1, .ref x), (2, .ref (b 16)), (3, .ref o), (4, .int (jI i))] → J γ mL_law 13 mc ms cells slots h 1167 lv [] Q X := by
  intro lv hl
  refine J.lc hl ?_
  obtain ⟨M, hR, I, Z, to, lo⟩ := hL
  obtain ⟨c, v, P, hc, hP, hC, hMd⟩ := op_asked (hS (i + 1)) (hS (i + 2)) (hS (i + 3)) hR I to lo
  first | refine J.aload_n (pc' := 1168) rfl rfl rfl ?_ | refine J.aload_nN (pc' := 1168) rfl rfl rfl ?_
  refine J.rdS (p' := 1174) rfl rfl rfl rfl rfl rfl Z rfl rfl hi (by decide) ?_
  refine J.rdS (p' := 1180) rfl rfl rfl rfl rfl rfl Z rfl rfl hi (by decide) ?_
  refine J.rdS (p' := 1186) rfl rfl rfl rfl rfl rfl Z rfl rfl hi (by decide) ?_
  first | refine J.aload_n (pc' := 1187) rfl rfl rfl ?_ | refine J.aload_nN (pc' := 1187) rfl rfl rfl ?_
  refine J.callSW (pc' := 1190) rfl ML_asked ml_L_146 is_L_asked hC rfl rfl (Nat.le_of_ble_eq_true rfl) (by omega) (by omega) (by omega) rfl ?_
  rintro _ k ⟨rfl, F, u, hR1⟩
  have M1 := M.fr to F
  have Z1 := Z.fr to F
  have to1 : k.tag o = 38 := F.tag to (by decide)
  have lo1 : k.len o = 1 := by rw [F.len (by omega)]; exact lo
  refine J.istore (pc' := 1192) rfl rfl (by decide) ?_
  refine J.lc (lv' := [(0, .ref sc), (1, .ref x), (2, .ref (b 16)), (3, .ref o), (4, .int (jI i)), (5, .int (jI c))]) (by repeat' (first | exact trivial | refine ⟨rfl, ?_⟩)) ?_
  refine M1.sw ?_
  first | refine J.aload_n (pc' := 1193) rfl rfl rfl ?_ | refine J.aload_nN (pc' := 1193) rfl rfl rfl ?_
  refine J.rdS (p' := 1199) rfl rfl rfl rfl rfl rfl Z1.nxt rfl rfl hi (by decide) ?_
  refine J.rdS (p' := 1205) rfl rfl rfl rfl rfl rfl Z1.nxt rfl rfl hi (by decide) ?_
  refine J.rdS (p' := 1211) rfl rfl rfl rfl rfl rfl Z1.nxt rfl rfl hi (by decide) ?_
  refine J.callV (pc' := 1214) (t := 16) rfl MX12_asked ml_L_148 iv_X12_asked (by decide) ⟨_, rfl, rfl⟩ M1.1.1 (hMd (k, b) M1.1) rfl rfl (Nat.le_of_ble_eq_true rfl) (by omega) (by omega) (by omega) rfl rfl ?_ ?_
  · exact fun _ _ z => z.elim
  rintro _ _ ⟨W, p, rfl, rfl⟩
  refine J.widen (cells' := cells + 1150) (slots' := slots + 12000) (by omega) (by omega) ?_
  exact law_tail (p := 1214) rfl rfl rfl rfl rfl rfl rfl rfl rfl rfl rfl rfl rfl rfl rfl rfl (by decide) hm hs M1.1 (hP W p).2 hc to1 lo1 u rfl (fun lv hl => fin W _ (lwS.nx M1 hR1 p (hP W p).1 Z1 to1 lo1) lv hl)
theorem case_best (hS : ∀ j, r32 (S j)) (hi : 0 ≤ i ∧ i + 6 ≤ n) (hm : cells + 1150 ≤ mc) (hs : slots + 12000 ≤ ms) (hL : lwS γ V h b x o sc n S) (fin : ∀ W k, lwS γ W k b x o sc n S → ∀ lv, hasL lv [(0, .ref sc), (1, .ref x), (2, .ref (b 16)), (3, .ref o), (4, .int (jI i))] → J γ mL_law 13 mc ms (cells + 1150) (slots + 12000) k 1791 lv [] Q X) : ∀ lv, hasL lv [(0, .ref sc), (1, .ref x), (2, .ref (b 16)), (3, .ref o), (4, .int (jI i))] → J γ mL_law 13 mc ms cells slots h 1247 lv [] Q X := by
  intro lv hl
  refine J.lc hl ?_
  obtain ⟨M, hR, I, Z, to, lo⟩ := hL
  obtain ⟨c, v, P, hc, hP, hC, hMd⟩ := op_best (hS (i + 1)) hR I to lo
  first | refine J.aload_n (pc' := 1248) rfl rfl rfl ?_ | refine J.aload_nN (pc' := 1248) rfl rfl rfl ?_
  refine J.rdS (p' := 1254) rfl rfl rfl rfl rfl rfl Z rfl rfl hi (by decide) ?_
  first | refine J.aload_n (pc' := 1255) rfl rfl rfl ?_ | refine J.aload_nN (pc' := 1255) rfl rfl rfl ?_
  refine J.callSW (pc' := 1258) rfl ML_best ml_L_149 is_L_best hC rfl rfl (Nat.le_of_ble_eq_true rfl) (by omega) (by omega) (by omega) rfl ?_
  rintro _ k ⟨rfl, F, u, hR1⟩
  have M1 := M.fr to F
  have Z1 := Z.fr to F
  have to1 : k.tag o = 38 := F.tag to (by decide)
  have lo1 : k.len o = 1 := by rw [F.len (by omega)]; exact lo
  refine J.istore (pc' := 1260) rfl rfl (by decide) ?_
  refine J.lc (lv' := [(0, .ref sc), (1, .ref x), (2, .ref (b 16)), (3, .ref o), (4, .int (jI i)), (5, .int (jI c))]) (by repeat' (first | exact trivial | refine ⟨rfl, ?_⟩)) ?_
  refine M1.sw ?_
  first | refine J.aload_n (pc' := 1261) rfl rfl rfl ?_ | refine J.aload_nN (pc' := 1261) rfl rfl rfl ?_
  refine J.rdS (p' := 1267) rfl rfl rfl rfl rfl rfl Z1.nxt rfl rfl hi (by decide) ?_
  refine J.callV (pc' := 1270) (t := 16) rfl MX12_best ml_L_151 iv_X12_best (by decide) ⟨_, rfl, rfl⟩ M1.1.1 (hMd (k, b) M1.1) rfl rfl (Nat.le_of_ble_eq_true rfl) (by omega) (by omega) (by omega) rfl rfl ?_ ?_
  · exact fun _ _ z => z.elim
  rintro _ _ ⟨W, p, rfl, rfl⟩
  refine J.widen (cells' := cells + 1150) (slots' := slots + 12000) (by omega) (by omega) ?_
  exact law_tail (p := 1270) rfl rfl rfl rfl rfl rfl rfl rfl rfl rfl rfl rfl rfl rfl rfl rfl (by decide) hm hs M1.1 (hP W p).2 hc to1 lo1 u rfl (fun lv hl => fin W _ (lwS.nx M1 hR1 p (hP W p).1 Z1 to1 lo1) lv hl)
end LC1

