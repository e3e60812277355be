section LC2
variable {γ : jG} {mc ms cells slots : Nat} {V : VV} {h : jM} {b : Nat → Nat} {x o sc n : Nat} {S : Int → Int} {i : Int} {Q : Option Value → jM → Prop} {X : String → jM → Prop}
theorem case_charge (hS : ∀ j, r32 (S j)) (hi : 0 ≤ i ∧ i + 6 ≤ n) (hm : cells + 1150 ≤ mc) (hs : slots + 12000 ≤ ms) (hL : lwS γ V h b x o sc n S) (fin : ∀ W k, lwS γ W k b x o sc n S → ∀ lv, hasL lv [(0, .ref sc), (1, .ref x), (2, .ref (b 16)), (3, .ref o), (4, .int (jI i))] → J γ mL_law 13 mc ms (cells + 1150) (slots + 12000) k 1791 lv [] Q X) : ∀ lv, hasL lv [(0, .ref sc), (1, .ref x), (2, .ref (b 16)), (3, .ref o), (4, .int (jI i))] → J γ mL_law 13 mc ms cells slots h 1303 lv [] Q X := by
  intro lv hl
  refine J.lc hl ?_
  obtain ⟨M, hR, I, Z, to, lo⟩ := hL
  obtain ⟨c, v, P, hc, hP, hC, hMd⟩ := op_charge (hS (i + 1)) (hS (i + 2)) hR I to lo
  first | refine J.aload_n (pc' := 1304) rfl rfl rfl ?_ | refine J.aload_nN (pc' := 1304) rfl rfl rfl ?_
  refine J.rdS (p' := 1310) rfl rfl rfl rfl rfl rfl Z rfl rfl hi (by decide) ?_
  refine J.rdS (p' := 1316) rfl rfl rfl rfl rfl rfl Z rfl rfl hi (by decide) ?_
  first | refine J.aload_n (pc' := 1317) rfl rfl rfl ?_ | refine J.aload_nN (pc' := 1317) rfl rfl rfl ?_
  refine J.callSW (pc' := 1320) rfl ML_charge ml_L_152 is_L_charge hC rfl rfl (Nat.le_of_ble_eq_true rfl) (by omega) (by omega) (by omega) rfl ?_
  rintro _ k ⟨rfl, F, u, hR1⟩
  have M1 := M.fr to F
  have Z1 := Z.fr to F
  have to1 : k.tag o = 38 := F.tag to (by decide)
  have lo1 : k.len o = 1 := by rw [F.len (by omega)]; exact lo
  refine J.istore (pc' := 1322) rfl rfl (by decide) ?_
  refine J.lc (lv' := [(0, .ref sc), (1, .ref x), (2, .ref (b 16)), (3, .ref o), (4, .int (jI i)), (5, .int (jI c))]) (by repeat' (first | exact trivial | refine ⟨rfl, ?_⟩)) ?_
  refine M1.sw ?_
  first | refine J.aload_n (pc' := 1323) rfl rfl rfl ?_ | refine J.aload_nN (pc' := 1323) rfl rfl rfl ?_
  refine J.rdS (p' := 1329) rfl rfl rfl rfl rfl rfl Z1.nxt rfl rfl hi (by decide) ?_
  refine J.rdS (p' := 1335) rfl rfl rfl rfl rfl rfl Z1.nxt rfl rfl hi (by decide) ?_
  refine J.callV (pc' := 1338) (t := 16) rfl MX12_charge ml_L_154 iv_X12_charge (by decide) ⟨_, rfl, rfl⟩ M1.1.1 (hMd (k, b) M1.1) rfl rfl (Nat.le_of_ble_eq_true rfl) (by omega) (by omega) (by omega) rfl rfl ?_ ?_
  · exact fun _ _ z => z.elim
  rintro _ _ ⟨W, p, rfl, rfl⟩
  refine J.widen (cells' := cells + 1150) (slots' := slots + 12000) (by omega) (by omega) ?_
  exact law_tail (p := 1338) rfl rfl rfl rfl rfl rfl rfl rfl rfl rfl rfl rfl rfl rfl rfl rfl (by decide) hm hs M1.1 (hP W p).2 hc to1 lo1 u rfl (fun lv hl => fin W _ (lwS.nx M1 hR1 p (hP W p).1 Z1 to1 lo1) lv hl)
theorem case_melt (hS : ∀ j, r32 (S j)) (hi : 0 ≤ i ∧ i + 6 ≤ n) (hm : cells + 1150 ≤ mc) (hs : slots + 12000 ≤ ms) (hL : lwS γ V h b x o sc n S) (fin : ∀ W k, lwS γ W k b x o sc n S → ∀ lv, hasL lv [(0, .ref sc), (1, .ref x), (2, .ref (b 16)), (3, .ref o), (4, .int (jI i))] → J γ mL_law 13 mc ms (cells + 1150) (slots + 12000) k 1791 lv [] Q X) : ∀ lv, hasL lv [(0, .ref sc), (1, .ref x), (2, .ref (b 16)), (3, .ref o), (4, .int (jI i))] → J γ mL_law 13 mc ms cells slots h 1371 lv [] Q X := by
  intro lv hl
  refine J.lc hl ?_
  obtain ⟨M, hR, I, Z, to, lo⟩ := hL
  obtain ⟨c, v, P, hc, hP, hC, hMd⟩ := op_melt (hS (i + 1)) hR I to lo
  first | refine J.aload_n (pc' := 1372) rfl rfl rfl ?_ | refine J.aload_nN (pc' := 1372) rfl rfl rfl ?_
  refine J.rdS (p' := 1378) rfl rfl rfl rfl rfl rfl Z rfl rfl hi (by decide) ?_
  first | refine J.aload_n (pc' := 1379) rfl rfl rfl ?_ | refine J.aload_nN (pc' := 1379) rfl rfl rfl ?_
  refine J.callSW (pc' := 1382) rfl ML_melt ml_L_155 is_L_melt hC rfl rfl (Nat.le_of_ble_eq_true rfl) (by omega) (by omega) (by omega) rfl ?_
  rintro _ k ⟨rfl, F, u, hR1⟩
  have M1 := M.fr to F
  have Z1 := Z.fr to F
  have to1 : k.tag o = 38 := F.tag to (by decide)
  have lo1 : k.len o = 1 := by rw [F.len (by omega)]; exact lo
  refine J.istore (pc' := 1384) rfl rfl (by decide) ?_
  refine J.lc (lv' := [(0, .ref sc), (1, .ref x), (2, .ref (b 16)), (3, .ref o), (4, .int (jI i)), (5, .int (jI c))]) (by repeat' (first | exact trivial | refine ⟨rfl, ?_⟩)) ?_
  refine M1.sw ?_
  first | refine J.aload_n (pc' := 1385) rfl rfl rfl ?_ | refine J.aload_nN (pc' := 1385) rfl rfl rfl ?_
  refine J.rdS (p' := 1391) rfl rfl rfl rfl rfl rfl Z1.nxt rfl rfl hi (by decide) ?_
  refine J.callV (pc' := 1394) (t := 16) rfl MX12_melt ml_L_157 iv_X12_melt (by decide) ⟨_, rfl, rfl⟩ M1.1.1 (hMd (k, b) M1.1) rfl rfl (Nat.le_of_ble_eq_true rfl) (by omega) (by omega) (by omega) rfl rfl ?_ ?_
  · exact fun _ _ z => z.elim
  rintro _ _ ⟨W, p, rfl, rfl⟩
  refine J.widen (cells' := cells + 1150) (slots' := slots + 12000) (by omega) (by omega) ?_
  exact law_tail (p := 1394) rfl rfl rfl rfl rfl rfl rfl rfl rfl rfl rfl rfl rfl rfl rfl rfl (by decide) hm hs M1.1 (hP W p).2 hc to1 lo1 u rfl (fun lv hl => fin W _ (lwS.nx M1 hR1 p (hP W p).1 Z1 to1 lo1) lv hl)
theorem case_portions (hS : ∀ j, r32 (S j)) (hi : 0 ≤ i ∧ i + 6 ≤ n) (hm : cells + 1150 ≤ mc) (hs : slots + 12000 ≤ ms) (hL : lwS γ V h b x o sc n S) (fin : ∀ W k, lwS γ W k b x o sc n S → ∀ lv, hasL lv [(0, .ref sc), (1, .ref x), (2, .ref (b 16)), (3, .ref o), (4, .int (jI i))] → J γ mL_law 13 mc ms (cells + 1150) (slots + 12000) k 1791 lv [] Q X) : ∀ lv, hasL lv [(0, .ref sc), (1, .ref x), (2, .ref (b 16)), (3, .ref o), (4, .int (jI i))] → J γ mL_law 13 mc ms cells slots h 1427 lv [] Q X := by
  intro lv hl
  refine J.lc hl ?_
  obtain ⟨M, hR, I, Z, to, lo⟩ := hL
  obtain ⟨c, v, P, hc, hP, hC, hMd⟩ := op_portions (hS (i + 1)) hR I to lo
  first | refine J.aload_n (pc' := 1428) rfl rfl rfl ?_ | refine J.aload_nN (pc' := 1428) rfl rfl rfl ?_
  refine J.rdS (p' := 1434) rfl rfl rfl rfl rfl rfl Z rfl rfl hi (by decide) ?_
  first | refine J.aload_n (pc' := 1435) rfl rfl rfl ?_ | refine J.aload_nN (pc' := 1435) rfl rfl rfl ?_
  refine J.callSW (pc' := 1438) rfl ML_portions ml_L_158 is_L_portions hC rfl rfl (Nat.le_of_ble_eq_true rfl) (by omega) (by omega) (by omega) rfl ?_
  rintro _ k ⟨rfl, F, u, hR1⟩
  have M1 := M.fr to F
  have Z1 := Z.fr to F
  have to1 : k.tag o = 38 := F.tag to (by decide)
  have lo1 : k.len o = 1 := by rw [F.len (by omega)]; exact lo
  refine J.istore (pc' := 1440) rfl rfl (by decide) ?_
  refine J.lc (lv' := [(0, .ref sc), (1, .ref x), (2, .ref (b 16)), (3, .ref o), (4, .int (jI i)), (5, .int (jI c))]) (by repeat' (first | exact trivial | refine ⟨rfl, ?_⟩)) ?_
  refine M1.sw ?_
  first | refine J.aload_n (pc' := 1441) rfl rfl rfl ?_ | refine J.aload_nN (pc' := 1441) rfl rfl rfl ?_
  refine J.rdS (p' := 1447) rfl rfl rfl rfl rfl rfl Z1.nxt rfl rfl hi (by decide) ?_
  refine J.callV (pc' := 1450) (t := 16) rfl MX12_portions ml_L_160 iv_X12_portions (by decide) ⟨_, rfl, rfl⟩ M1.1.1 (hMd (k, b) M1.1) rfl rfl (Nat.le_of_ble_eq_true rfl) (by omega) (by omega) (by omega) rfl rfl ?_ ?_
  · exact fun _ _ z => z.elim
  rintro _ _ ⟨W, p, rfl, rfl⟩
  refine J.widen (cells' := cells + 1150) (slots' := slots + 12000) (by omega) (by omega) ?_
  exact law_tail (p := 1450) rfl rfl rfl rfl rfl rfl rfl rfl rfl rfl rfl rfl rfl rfl rfl rfl (by decide) hm hs M1.1 (hP W p).2 hc to1 lo1 u rfl (fun lv hl => fin W _ (lwS.nx M1 hR1 p (hP W p).1 Z1 to1 lo1) lv hl)
theorem case_portion (hS : ∀ j, r32 (S j)) (hi : 0 ≤ i ∧ i + 6 ≤ n) (hm : cells + 1150 ≤ mc) (hs : slots + 12000 ≤ ms) (hL : lwS γ V h b x o sc n S) (fin : ∀ W k, lwS γ W k b x o sc n S → ∀ lv, hasL lv [(0, .ref sc), (1, .ref x), (2, .ref (b 16)), (3, .ref o), (4, .int (jI i))] → J γ mL_law 13 mc ms (cells + 1150) (slots + 12000) k 1791 lv [] Q X) : ∀ lv, hasL lv [(0, .ref sc), (1, .ref x), (2, .ref (b 16)), (3, .ref o), (4, .int (jI i))] → J γ mL_law 13 mc ms cells slots h 1483 lv [] Q X := by
  intro lv hl
  refine J.lc hl ?_
  obtain ⟨M, hR, I, Z, to, lo⟩ := hL
  obtain ⟨c, v, P, hc, hP, hC, hMd⟩ := op_portion (hS (i + 1)) (hS (i + 2)) (hS (i + 3)) hR I to lo
  first | refine J.aload_n (pc' := 1484) rfl rfl rfl ?_ | refine J.aload_nN (pc' := 1484) rfl rfl rfl ?_
  refine J.rdS (p' := 1490) rfl rfl rfl rfl rfl rfl Z rfl rfl hi (by decide) ?_
  refine J.rdS (p' := 1496) rfl rfl rfl rfl rfl rfl Z rfl rfl hi (by decide) ?_
  refine J.rdS (p' := 1502) rfl rfl rfl rfl rfl rfl Z rfl rfl hi (by decide) ?_
  first | refine J.aload_n (pc' := 1503) rfl rfl rfl ?_ | refine J.aload_nN (pc' := 1503) rfl rfl rfl ?_
  refine J.callSW (pc' := 1506) rfl ML_portion ml_L_161 is_L_portion hC rfl rfl (Nat.le_of_ble_eq_true rfl) (by omega) (by omega) (by omega) rfl ?_
  rintro _ k ⟨rfl, F, u, hR1⟩
  have M1 := M.fr to F
  have Z1 := Z.fr to F
  have to1 : k.tag o = 38 := F.tag to (by decide)
  have lo1 : k.len o = 1 := by rw [F.len (by omega)]; exact lo
  refine J.istore (pc' := 1508) rfl rfl (by decide) ?_
  refine J.lc (lv' := [(0, .ref sc), (1, .ref x), (2, .ref (b 16)), (3, .ref o), (4, .int (jI i)), (5, .int (jI c))]) (by repeat' (first | exact trivial | refine ⟨rfl, ?_⟩)) ?_
  refine M1.sw ?_
  first | refine J.aload_n (pc' := 1509) rfl rfl rfl ?_ | refine J.aload_nN (pc' := 1509) rfl rfl rfl ?_
  refine J.rdS (p' := 1515) rfl rfl rfl rfl rfl rfl Z1.nxt rfl rfl hi (by decide) ?_
  refine J.rdS (p' := 1521) rfl rfl rfl rfl rfl rfl Z1.nxt rfl rfl hi (by decide) ?_
  refine J.rdS (p' := 1527) rfl rfl rfl rfl rfl rfl Z1.nxt rfl rfl hi (by decide) ?_
  refine J.callV (pc' := 1530) (t := 16) rfl MX12_portion ml_L_163 iv_X12_portion (by decide) ⟨_, rfl, rfl⟩ M1.1.1 (hMd (k, b) M1.1) rfl rfl (Nat.le_of_ble_eq_true rfl) (by omega) (by omega) (by omega) rfl rfl ?_ ?_
  · exact fun _ _ z => z.elim
  rintro _ _ ⟨W, p, rfl, rfl⟩
  refine J.widen (cells' := cells + 1150) (slots' := slots + 12000) (by omega) (by omega) ?_
  exact law_tail (p := 1530) rfl rfl rfl rfl rfl rfl rfl rfl rfl rfl rfl rfl rfl rfl rfl rfl (by decide) hm hs M1.1 (hP W p).2 hc to1 lo1 u rfl (fun lv hl => fin W _ (lwS.nx M1 hR1 p (hP W p).1 Z1 to1 lo1) lv hl)
theorem case_prove (hS : ∀ j, r32 (S j)) (hi : 0 ≤ i ∧ i + 6 ≤ n) (hm : cells + 1150 ≤ mc) (hs : slots + 12000 ≤ ms) (hL : lwS γ V h b x o sc n S) (fin : ∀ W k, lwS γ W k b x o sc n S → ∀ lv, hasL lv [(0, .ref sc), (1, .ref x), (2, .ref (b 16)), (3, .ref o), (4, .int (jI i))] → J γ mL_law 13 mc ms (cells + 1150) (slots + 12000) k 1791 lv [] Q X) : ∀ lv, hasL lv [(0, .ref sc), (1, .ref x), (2, .ref (b 16)), (3, .ref o), (4, .int (jI i))] → J γ mL_law 13 mc ms cells slots h 1563 lv [] Q X := by
  intro lv hl
  refine J.lc hl ?_
  obtain ⟨M, hR, I, Z, to, lo⟩ := hL
  obtain ⟨c, v, P, hc, hP, hC, hMd⟩ := op_prove (hS (i + 1)) (hS (i + 2)) (hS (i + 3)) (hS (i + 4)) hR I to lo
  first | refine J.aload_n (pc' := 1564) rfl rfl rfl ?_ | refine J.aload_nN (pc' := 1564) rfl rfl rfl ?_
  refine J.rdS (p' := 1570) rfl rfl rfl rfl rfl rfl Z rfl rfl hi (by decide) ?_
  refine J.rdS (p' := 1576) rfl rfl rfl rfl rfl rfl Z rfl rfl hi (by decide) ?_
  refine J.rdS (p' := 1582) rfl rfl rfl rfl rfl rfl Z rfl rfl hi (by decide) ?_
  refine J.rdS (p' := 1588) rfl rfl rfl rfl rfl rfl Z rfl rfl hi (by decide) ?_
  first | refine J.aload_n (pc' := 1589) rfl rfl rfl ?_ | refine J.aload_nN (pc' := 1589) rfl rfl rfl ?_
  refine J.callSW (pc' := 1592) rfl ML_prove ml_L_164 is_L_prove hC rfl rfl (Nat.le_of_ble_eq_true rfl) (by omega) (by omega) (by omega) rfl ?_
  rintro _ k ⟨rfl, F, u, hR1⟩
  have M1 := M.fr to F
  have Z1 := Z.fr to F
  have to1 : k.tag o = 38 := F.tag to (by decide)
  have lo1 : k.len o = 1 := by rw [F.len (by omega)]; exact lo
  refine J.istore (pc' := 1594) rfl rfl (by decide) ?_
  refine J.lc (lv' := [(0, .ref sc), (1, .ref x), (2, .ref (b 16)), (3, .ref o), (4, .int (jI i)), (5, .int (jI c))]) (by repeat' (first | exact trivial | refine ⟨rfl, ?_⟩)) ?_
  refine M1.sw ?_
  first | refine J.aload_n (pc' := 1595) rfl rfl rfl ?_ | refine J.aload_nN (pc' := 1595) rfl rfl rfl ?_
  refine J.rdS (p' := 1601) rfl rfl rfl rfl rfl rfl Z1.nxt rfl rfl hi (by decide) ?_
  refine J.rdS (p' := 1607) rfl rfl rfl rfl rfl rfl Z1.nxt rfl rfl hi (by decide) ?_
  refine J.rdS (p' := 1613) rfl rfl rfl rfl rfl rfl Z1.nxt rfl rfl hi (by decide) ?_
  refine J.rdS (p' := 1619) rfl rfl rfl rfl rfl rfl Z1.nxt rfl rfl hi (by decide) ?_
  refine J.callV (pc' := 1622) (t := 16) rfl MX12_prove ml_L_166 iv_X12_prove (by decide) ⟨_, rfl, rfl⟩ M1.1.1 (hMd (k, b) M1.1) rfl rfl (Nat.le_of_ble_eq_true rfl) (by omega) (by omega) (by omega) rfl rfl ?_ ?_
  · exact fun _ _ z => z.elim
  rintro _ _ ⟨W, p, rfl, rfl⟩
  refine J.widen (cells' := cells + 1150) (slots' := slots + 12000) (by omega) (by omega) ?_
  exact law_tail (p := 1622) rfl rfl rfl rfl rfl rfl rfl rfl rfl rfl rfl rfl rfl rfl rfl rfl (by decide) hm hs M1.1 (hP W p).2 hc to1 lo1 u rfl (fun lv hl => fin W _ (lwS.nx M1 hR1 p (hP W p).1 Z1 to1 lo1) lv hl)
theorem case_money (hS : ∀ j, r32 (S j)) (hi : 0 ≤ i ∧ i + 6 ≤ n) (hm : cells + 1150 ≤ mc) (hs : slots + 12000 ≤ ms) (hL : lwS γ V h b x o sc n S) (fin : ∀ W k, lwS γ W k b x o sc n S → ∀ lv, hasL lv [(0, .ref sc), (1, .ref x), (2, .ref (b 16)), (3, .ref o), (4, .int (jI i))] → J γ mL_law 13 mc ms (cells + 1150) (slots + 12000) k 1791 lv [] Q X) : ∀ lv, hasL lv [(0, .ref sc), (1, .ref x), (2, .ref (b 16)), (3, .ref o), (4, .int (jI i))] → J γ mL_law 13 mc ms cells slots h 1655 lv [] Q X := by
  intro lv hl
  refine J.lc hl ?_
  obtain ⟨M, hR, I, Z, to, lo⟩ := hL
  obtain ⟨c, v, P, hc, hP, hC, hMd⟩ := op_money (hS (i + 1)) hR I to lo
  first | refine J.aload_n (pc' := 1656) rfl rfl rfl ?_ | refine J.aload_nN (pc' := 1656) rfl rfl rfl ?_
  refine J.rdS (p' := 1662) rfl rfl rfl rfl rfl rfl Z rfl rfl hi (by decide) ?_
  first | refine J.aload_n (pc' := 1663) rfl rfl rfl ?_ | refine J.aload_nN (pc' := 1663) rfl rfl rfl ?_
  refine J.callSW (pc' := 1666) rfl ML_money ml_L_167 is_L_money hC rfl rfl (Nat.le_of_ble_eq_true rfl) (by omega) (by omega) (by omega) rfl ?_
  rintro _ k ⟨rfl, F, u, hR1⟩
  have M1 := M.fr to F
  have Z1 := Z.fr to F
  have to1 : k.tag o = 38 := F.tag to (by decide)
  have lo1 : k.len o = 1 := by rw [F.len (by omega)]; exact lo
  refine J.istore (pc' := 1668) rfl rfl (by decide) ?_
  refine J.lc (lv' := [(0, .ref sc), (1, .ref x), (2, .ref (b 16)), (3, .ref o), (4, .int (jI i)), (5, .int (jI c))]) (by repeat' (first | exact trivial | refine ⟨rfl, ?_⟩)) ?_
  refine M1.sw ?_
  first | refine J.aload_n (pc' := 1669) rfl rfl rfl ?_ | refine J.aload_nN (pc' := 1669) rfl rfl rfl ?_
  refine J.rdS (p' := 1675) rfl rfl rfl rfl rfl rfl Z1.nxt rfl rfl hi (by decide) ?_
  refine J.callV (pc' := 1678) (t := 16) rfl MX12_money ml_L_169 iv_X12_money (by decide) ⟨_, rfl, rfl⟩ M1.1.1 (hMd (k, b) M1.1) rfl rfl (Nat.le_of_ble_eq_true rfl) (by omega) (by omega) (by omega) rfl rfl ?_ ?_
  · exact fun _ _ z => z.elim
  rintro _ _ ⟨W, p, rfl, rfl⟩
  refine J.widen (cells' := cells + 1150) (slots' := slots + 12000) (by omega) (by omega) ?_
  refine J.lstore (pc' := 1680) rfl rfl (by decide) ?_
  refine J.lc (lv' := [(0, .ref sc), (1, .ref x), (2, .ref (b 16)), (3, .ref o), (4, .int (jI i)), (5, .int (jI c)), (6, .long (jL v))]) (by repeat' (first | exact trivial | refine ⟨rfl, ?_⟩)) ?_
  first | refine J.aload_n (pc' := 1681) rfl rfl rfl ?_ | refine J.aload_nN (pc' := 1681) rfl rfl rfl ?_
  refine J.callV (pc' := 1684) (t := 16) rfl MX12_thrown ml_L_98 iv_X12_thrown (by decide) ⟨_, rfl, rfl⟩ M1.1.1 (cm_thrown M1.1) rfl rfl (Nat.le_of_ble_eq_true rfl) (by omega) (by omega) (by omega) rfl rfl ?_ ?_
  · exact fun _ _ z => z.elim
  rintro _ _ ⟨rfl, rfl⟩
  rw [(hP W p).2]
  refine J.iload (pc' := 1686) rfl rfl rfl ?_
  refine J.icmpE (pc' := 1691) rfl rfl ?_
  refine J.iload (pc' := 1693) rfl rfl rfl ?_
  refine J.if_ne (tgt := 1707) (pc' := 1696) rfl rfl rfl hc (fun z => ?_) (fun z => ?_)
  · refine J.goto (tgt := 1791) rfl rfl ?_
    exact fin W _ (lwS.nx M1 hR1 p (hP W p).1 Z1 to1 lo1) _ (by repeat' (first | exact trivial | refine ⟨rfl, ?_⟩))
  · first | refine J.aload_n (pc' := 1697) rfl rfl rfl ?_ | refine J.aload_nN (pc' := 1697) rfl rfl rfl ?_
    refine J.iconst (pc' := 1698) rfl rfl ?_
    refine J.lald (pc' := 1699) (t := 38) rfl to1 (by decide) rfl (by decide) (by show (0 : Int) < ((k.len o : Nat) : Int); omega) (by decide) rfl ?_
    refine J.lload (pc' := 1701) rfl rfl rfl ?_
    have e : (jP (k, b) W).L 38 o (Int.toNat 0) = v := jP_38.trans (u z)
    rw [e]
    refine J.lcmpE (pc' := 1702) rfl rfl ?_
    refine J.if_eq (tgt := 1707) (pc' := 1705) rfl rfl rfl (by decide) (fun _ => ?_) (fun z => absurd rfl z)
    refine J.goto (tgt := 1791) rfl rfl ?_
    exact fin W _ (lwS.nx M1 hR1 p (hP W p).1 Z1 to1 lo1) _ (by repeat' (first | exact trivial | refine ⟨rfl, ?_⟩))
theorem case_day (hS : ∀ j, r32 (S j)) (hi : 0 ≤ i ∧ i + 6 ≤ n) (hm : cells + 1150 ≤ mc) (hs : slots + 12000 ≤ ms) (hL : lwS γ V h b x o sc n S) (fin : ∀ W k, lwS γ W k b x o sc n S → ∀ lv, hasL lv [(0, .ref sc), (1, .ref x), (2, .ref (b 16)), (3, .ref o), (4, .int (jI i))] → J γ mL_law 13 mc ms (cells + 1150) (slots + 12000) k 1791 lv [] Q X) : ∀ lv, hasL lv [(0, .ref sc), (1, .ref x), (2, .ref (b 16)), (3, .ref o), (4, .int (jI i))] → J γ mL_law 13 mc ms cells slots h 1710 lv [] Q X := by
  intro lv hl
  refine J.lc hl ?_
  obtain ⟨M, hR, I, Z, to, lo⟩ := hL
  obtain ⟨c, v, P, hc, hP, hC, hMd⟩ := op_day (hS (i + 1)) hR I to lo
  first | refine J.aload_n (pc' := 1711) rfl rfl rfl ?_ | refine J.aload_nN (pc' := 1711) rfl rfl rfl ?_
  refine J.rdS (p' := 1717) rfl rfl rfl rfl rfl rfl Z rfl rfl hi (by decide) ?_
  first | refine J.aload_n (pc' := 1718) rfl rfl rfl ?_ | refine J.aload_nN (pc' := 1718) rfl rfl rfl ?_
  refine J.callSW (pc' := 1721) rfl ML_day ml_L_170 is_L_day hC rfl rfl (Nat.le_of_ble_eq_true rfl) (by omega) (by omega) (by omega) rfl ?_
  rintro _ k ⟨rfl, F, u, hR1⟩
  have M1 := M.fr to F
  have Z1 := Z.fr to F
  have to1 : k.tag o = 38 := F.tag to (by decide)
  have lo1 : k.len o = 1 := by rw [F.len (by omega)]; exact lo
  refine J.istore (pc' := 1723) rfl rfl (by decide) ?_
  refine J.lc (lv' := [(0, .ref sc), (1, .ref x), (2, .ref (b 16)), (3, .ref o), (4, .int (jI i)), (5, .int (jI c))]) (by repeat' (first | exact trivial | refine ⟨rfl, ?_⟩)) ?_
  refine M1.sw ?_
  first | refine J.aload_n (pc' := 1724) rfl rfl rfl ?_ | refine J.aload_nN (pc' := 1724) rfl rfl rfl ?_
  refine J.rdS (p' := 1730) rfl rfl rfl rfl rfl rfl Z1.nxt rfl rfl hi (by decide) ?_
  refine J.callV (pc' := 1733) (t := 16) rfl MX12_day ml_L_172 iv_X12_day (by decide) ⟨_, rfl, rfl⟩ M1.1.1 (hMd (k, b) M1.1) rfl rfl (Nat.le_of_ble_eq_true rfl) (by omega) (by omega) (by omega) rfl rfl ?_ ?_
  · exact fun _ _ z => z.elim
  rintro _ _ ⟨W, p, rfl, rfl⟩
  refine J.widen (cells' := cells + 1150) (slots' := slots + 12000) (by omega) (by omega) ?_
  exact law_tail (p := 1733) rfl rfl rfl rfl rfl rfl rfl rfl rfl rfl rfl rfl rfl rfl rfl rfl (by decide) hm hs M1.1 (hP W p).2 hc to1 lo1 u rfl (fun lv hl => fin W _ (lwS.nx M1 hR1 p (hP W p).1 Z1 to1 lo1) lv hl)
theorem case_count (hS : ∀ j, r32 (S j)) (hi : 0 ≤ i ∧ i + 6 ≤ n) (hm : cells + 1150 ≤ mc) (hs : slots + 12000 ≤ ms) (hL : lwS γ V h b x o sc n S) (fin : ∀ W k, lwS γ W k b x o sc n S → ∀ lv, hasL lv [(0, .ref sc), (1, .ref x), (2, .ref (b 16)), (3, .ref o), (4, .int (jI i))] → J γ mL_law 13 mc ms (cells + 1150) (slots + 12000) k 1791 lv [] Q X) : ∀ lv, hasL lv [(0, .ref sc), (1, .ref x), (2, .ref (b 16)), (3, .ref o), (4, .int (jI i))] → J γ mL_law 13 mc ms cells slots h 1766 lv [] Q X := by
  intro lv hl
  refine J.lc hl ?_
  obtain ⟨M, hR, I, Z, to, lo⟩ := hL
  have I0 := I.er (c := 0) (by omega)
  have h0 : jU V 16 0 0 16 0 = 0 := jU_same _ _ _ _
  have R0 : RepC γ (jU V 16 0 0) h x := hR.cg (sameR.t 0 (by decide))
  obtain ⟨ρ, σ, ks, ss, cs, ls, ms', hB⟩ := R0
  first | refine J.aload_n (pc' := 1767) rfl rfl rfl ?_ | refine J.aload_nN (pc' := 1767) rfl rfl rfl ?_
  refine J.rdS (p' := 1773) rfl rfl rfl rfl rfl rfl Z rfl rfl hi (by decide) ?_
  refine J.callV (pc' := 1776) (t := 15) rfl MX11_count ml_L_173 iv_X11_count (by decide) ⟨_, rfl, rfl⟩ hB.1.1 (cf_count (hS (i + 1)) h0 hB) rfl rfl (Nat.le_of_ble_eq_true rfl) (by omega) (by omega) (by omega) rfl rfl ?_ ?_
  · exact fun _ _ z => z.elim
  rintro _ k ⟨rfl, q2, q3, q4⟩
  have F : FrO o h k := q4.toT.mono (fun b _ z => Or.inl z)
  have M1 := M.fr to F
  have Z1 := Z.fr to F
  have to1 : k.tag o = 38 := F.tag to (by decide)
  have lo1 : k.len o = 1 := by rw [F.len (by omega)]; exact lo
  refine M1.sw ?_
  first | refine J.aload_n (pc' := 1777) rfl rfl rfl ?_ | refine J.aload_nN (pc' := 1777) rfl rfl rfl ?_
  refine J.rdS (p' := 1783) rfl rfl rfl rfl rfl rfl Z1.nxt rfl rfl hi (by decide) ?_
  refine J.callV (pc' := 1786) (t := 16) rfl MX12_count ml_L_176 iv_X12_count (by decide) ⟨_, rfl, rfl⟩ M1.1.1 (cm_count M1.1 I.1 (hS (i + 1))) rfl rfl (Nat.le_of_ble_eq_true rfl) (by omega) (by omega) (by omega) rfl rfl ?_ ?_
  · exact fun _ _ z => z.elim
  rintro _ _ ⟨rfl, rfl⟩
  refine J.widen (cells' := cells + 1150) (slots' := slots + 12000) (by omega) (by omega) ?_
  refine J.icmpE (pc' := 1791) rfl rfl ?_
  exact fin _ _ (lwS.nx (P := fun W => W = _) M1 (fun V p => by rw [p]; exact q3) rfl (I0) Z1 to1 lo1) _ (by repeat' (first | exact trivial | refine ⟨rfl, ?_⟩))
end LC2

