section LP
variable {γ : jG} {mc ms cells slots : Nat} {V : VV} {h : jM} {b : Nat → Nat} {x o sc n : Nat} {S : Int → Int} {i : Int} {Q : Option Value → jM → Prop} {X : String → jM → Prop}
theorem law_sw (hS : ∀ j, r32 (S j)) (hi : 0 ≤ i ∧ i + 6 ≤ n) (hm : cells + 1150 ≤ mc) (hs : slots + 12000 ≤ ms) (hL : lwS γ V h b x o sc n S) (fin : ∀ W k, lwS γ W k b x o sc n S → ∀ lv, hasL lv [(0, .ref sc), (1, .ref x), (2, .ref (b 16)), (3, .ref o), (4, .int (jI i))] → J γ mL_law 13 mc ms (cells + 1150) (slots + 12000) k 1791 lv [] Q X) : ∀ lv, hasL lv [(0, .ref sc), (1, .ref x), (2, .ref (b 16)), (3, .ref o), (4, .int (jI i))] → J γ mL_law 13 mc ms cells slots h 33 lv [] Q X := by
  intro lv hl
  have hl0 := hl
  refine J.lc hl ?_
  have Z := hL.2.2.2.1
  first | refine J.aload_n (pc' := 34) rfl rfl rfl ?_ | refine J.aload_nN (pc' := 34) rfl rfl rfl ?_
  refine J.iload (pc' := 36) rfl rfl rfl ?_
  refine J.iald (pc' := 37) (t := 37) rfl Z.1 (by decide) rfl (by omega) (by rw [Z.2.1]; omega) (by have := Z.2.2.1; unfold r32; omega) rfl ?_
  rw [Z.2.2.2 i (by omega)]
  refine J.bipush (pc' := 39) rfl rfl (by decide) ?_
  obtain ⟨z, hz, e⟩ := jI_of (jI (S i) &&& jI 31)
  refine J.iand z (pc' := 40) rfl rfl e ?_
  refine J.tsw (tgt := 1791) (n := 25) (T := jNth [156, 169, 261, 274, 347, 427, 495, 587, 679, 747, 839, 895, 951, 1031, 1111, 1167, 1247, 1303, 1371, 1427, 1483, 1563, 1655, 1710, 1766]) rfl hz rfl rfl (fun k hk => by rcases k with _ | _ | _ | _ | _ | _ | _ | _ | _ | _ | _ | _ | _ | _ | _ | _ | _ | _ | _ | _ | _ | _ | _ | _ | _ | k <;> first | exact ⟨_, rfl, rfl⟩ | omega) (fun c40 => ?_) (fun k hk c40 => ?_)
  · refine J.widen (cells' := cells + 1150) (slots' := slots + 12000) (by omega) (by omega) ?_
    exact fin _ _ hL _ (by repeat' (first | exact trivial | refine ⟨rfl, ?_⟩))
  · rcases k with _ | _ | _ | _ | _ | _ | _ | _ | _ | _ | _ | _ | _ | _ | _ | _ | _ | _ | _ | _ | _ | _ | _ | _ | _ | k
    · exact case_kind hS hi hm hs hL fin _ (by repeat' (first | exact trivial | refine ⟨rfl, ?_⟩))
    · exact case_span hS hi hm hs hL fin _ (by repeat' (first | exact trivial | refine ⟨rfl, ?_⟩))
    · exact case_seller hS hi hm hs hL fin _ (by repeat' (first | exact trivial | refine ⟨rfl, ?_⟩))
    · exact case_feed hS hi hm hs hL fin _ (by repeat' (first | exact trivial | refine ⟨rfl, ?_⟩))
    · exact case_contract hS hi hm hs hL fin _ (by repeat' (first | exact trivial | refine ⟨rfl, ?_⟩))
    · exact case_force hS hi hm hs hL fin _ (by repeat' (first | exact trivial | refine ⟨rfl, ?_⟩))
    · exact case_usual hS hi hm hs hL fin _ (by repeat' (first | exact trivial | refine ⟨rfl, ?_⟩))
    · exact case_load hS hi hm hs hL fin _ (by repeat' (first | exact trivial | refine ⟨rfl, ?_⟩))
    · exact case_told hS hi hm hs hL fin _ (by repeat' (first | exact trivial | refine ⟨rfl, ?_⟩))
    · exact case_sample hS hi hm hs hL fin _ (by repeat' (first | exact trivial | refine ⟨rfl, ?_⟩))
    · exact case_tons hS hi hm hs hL fin _ (by repeat' (first | exact trivial | refine ⟨rfl, ?_⟩))
    · exact case_layers hS hi hm hs hL fin _ (by repeat' (first | exact trivial | refine ⟨rfl, ?_⟩))
    · exact case_layer hS hi hm hs hL fin _ (by repeat' (first | exact trivial | refine ⟨rfl, ?_⟩))
    · exact case_move hS hi hm hs hL fin _ (by repeat' (first | exact trivial | refine ⟨rfl, ?_⟩))
    · exact case_mix hS hi hm hs hL fin _ (by repeat' (first | exact trivial | refine ⟨rfl, ?_⟩))
    · exact case_asked hS hi hm hs hL fin _ (by repeat' (first | exact trivial | refine ⟨rfl, ?_⟩))
    · exact case_best hS hi hm hs hL fin _ (by repeat' (first | exact trivial | refine ⟨rfl, ?_⟩))
    · exact case_charge hS hi hm hs hL fin _ (by repeat' (first | exact trivial | refine ⟨rfl, ?_⟩))
    · exact case_melt hS hi hm hs hL fin _ (by repeat' (first | exact trivial | refine ⟨rfl, ?_⟩))
    · exact case_portions hS hi hm hs hL fin _ (by repeat' (first | exact trivial | refine ⟨rfl, ?_⟩))
    · exact case_portion hS hi hm hs hL fin _ (by repeat' (first | exact trivial | refine ⟨rfl, ?_⟩))
    · exact case_prove hS hi hm hs hL fin _ (by repeat' (first | exact trivial | refine ⟨rfl, ?_⟩))
    · exact case_money hS hi hm hs hL fin _ (by repeat' (first | exact trivial | refine ⟨rfl, ?_⟩))
    · exact case_day hS hi hm hs hL fin _ (by repeat' (first | exact trivial | refine ⟨rfl, ?_⟩))
    · exact case_count hS hi hm hs hL fin _ (by repeat' (first | exact trivial | refine ⟨rfl, ?_⟩))
    · omega
end LP

