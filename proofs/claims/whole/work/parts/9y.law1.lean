/-- the model's object and its arrays hold V in the memory h -/
def mdl (h : jM) (b : Nat → Nat) (V : VV) : Prop := isB (h, b) ∧ (∀ t, t ≠ 16 → jLn t = 0 → b t = b 16) ∧ (∀ t k : Nat, jMi t = true → t = 16 ∨ jLn t ≠ 0 → h.I t (b t) k = V t (k : Int)) ∧ ∀ t k : Nat, jMl t = true → h.L t (b t) k = V t (k : Int)
/-- the script -/
def isSc (h : jM) (sc n : Nat) (S : Int → Int) : Prop := h.tag sc = 37 ∧ h.len sc = n ∧ n ≤ 100000 ∧ ∀ i : Int, 0 ≤ i → h.I 37 sc i.toNat = S i
def lwS (γ : jG) (V : VV) (h : jM) (b : Nat → Nat) (x o sc n : Nat) (S : Int → Int) : Prop := mdl h b V ∧ RepC γ V h x ∧ Inv V ∧ isSc h sc n S ∧ h.tag o = 38 ∧ h.len o = 1
abbrev FrO (o : Nat) (h h' : jM) : Prop := Fr h h' (fun b => (h.tag b ≠ 16 ∧ h.tag b < 36) ∨ b = o)
theorem jMl_ln {t : Nat} (h : jMl t = true) : jLn t ≠ 0 := by
  have : t = 109 ∨ t = 151 := by
    unfold jMl at h
    cases e : Nat.beq t 109 with
    | true => exact Or.inl (Nat.eq_of_beq_eq_true e)
    | false =>
      cases e2 : Nat.beq t 151 with
      | true => exact Or.inr (Nat.eq_of_beq_eq_true e2)
      | false =>
        rw [e, e2] at h
        exact absurd h (by decide)
  rcases this with rfl | rfl <;> decide
theorem jP_37 {β : jB} {V : VV} {a k : Nat} : (jP β V).I 37 a k = β.1.I 37 a k := if_neg (t := V 37 (k : Int)) (fun z : jMi 37 = true ∧ a = β.2 37 => absurd z.1 (by decide))
theorem jP_38 {β : jB} {V : VV} {a k : Nat} : (jP β V).L 38 a k = β.1.L 38 a k := if_neg (t := V 38 (k : Int)) (fun z : jMl 38 = true ∧ a = β.2 38 => absurd z.1 (by decide))
section LW
variable {γ : jG} {V W : VV} {h h' : jM} {b : Nat → Nat} {x o sc n : Nat} {S : Int → Int}
theorem mdl.fr (M : mdl h b V) (to : h.tag o = 38) (F : FrO o h h') : mdl h' b V := by
  obtain ⟨B, c, i, l⟩ := M
  have n16 : ¬ ((h.tag (b 16) ≠ 16 ∧ h.tag (b 16) < 36) ∨ b 16 = o) := fun z => by
    rcases z with z | z
    · exact z.1 B.1
    · have := B.1
      have e : h.tag (b 16) = 16 := this
      rw [z] at e
      omega
  have nt : ∀ t, jLn t ≠ 0 → ¬ ((h.tag (b t) ≠ 16 ∧ h.tag (b t) < 36) ∨ b t = o) := fun t ht z => by
    have e : h.tag (b t) = t := (B.2 t ht).1
    have g := jLn_ge ht
    rcases z with z | z
    · omega
    · rw [z] at e
      omega
  refine ⟨⟨F.tag (show h.tag (b 16) = 16 from B.1) (by decide), fun t ht => ?_⟩, c, fun t k h1 h2 => ?_, fun t k h1 => ?_⟩
  · obtain ⟨p1, p2, p3⟩ := B.2 t ht
    have p1 : h.tag (b t) = t := p1
    have p2 : h.len (b t) = jLn t := p2
    have p3 : h.R 16 (b 16) (t - 100) = some (b t) := p3
    have g := jLn_ge ht
    refine ⟨F.tag p1 (by omega), ?_, ?_⟩
    · show h'.len (b t) = jLn t
      rw [F.len (by omega)]; exact p2
    · show h'.R 16 (b 16) (t - 100) = some (b t)
      rw [F.R (show h.tag (b 16) = 16 from B.1) (by decide) n16]; exact p3
  · rw [← i t k h1 h2]
    rcases h2 with z | z
    · subst z
      exact F.I (show h.tag (b 16) = 16 from B.1) (by decide) n16 k
    · have g := jLn_ge z
      exact F.I (show h.tag (b t) = t from (B.2 t z).1) (by omega) (nt t z) k
  · rw [← l t k h1]
    have z := jMl_ln h1
    have g := jLn_ge z
    exact F.L (show h.tag (b t) = t from (B.2 t z).1) (by omega) (nt t z) k
theorem J.same {μ : jMth} {f mc ms cells slots : Nat} {h2 : jM} {pc : Nat} {lv : List (Nat × Value)} {st : List Value} {Q : Option Value → jM → Prop} {X : String → jM → Prop} (e1 : h2.tag = h.tag) (e2 : h2.len = h.len) (e3 : h2.R = h.R) (e4 : ∀ a k, h2.I (h.tag a) a k = h.I (h.tag a) a k) (e5 : ∀ a k, h2.L (h.tag a) a k = h.L (h.tag a) a k) (kk : J γ μ f mc ms cells slots h2 pc lv st Q X) : J γ μ f mc ms cells slots h pc lv st Q X := by
  intro p e s m args below meth c C H locs ls hR hz hlo hl
  refine kk p e s m args below meth c C H locs ls ⟨hR.1, hR.2.1, fun a ha => ?_⟩ hz hlo hl
  rw [e1] at ha
  refine (hR.2.2 a ha).kept rfl (congrFun e1 a) (congrFun e2 a) ?_
  funext j
  unfold jV
  rw [e3, e4, e5]
theorem mdl.sw {μ : jMth} {f mc ms cells slots : Nat} {pc : Nat} {lv : List (Nat × Value)} {st : List Value} {Q : Option Value → jM → Prop} {X : String → jM → Prop} (M : mdl h b V) (kk : J γ μ f mc ms cells slots (jP (h, b) V) pc lv st Q X) : J γ μ f mc ms cells slots h pc lv st Q X := by
  obtain ⟨B, c, i, l⟩ := M
  refine J.same (h2 := jP (h, b) V) rfl rfl rfl (fun a k => ?_) (fun a k => ?_) kk
  · show (if jMi (h.tag a) = true ∧ a = b (h.tag a) then V (h.tag a) (k : Int) else h.I (h.tag a) a k) = _
    split
    · rename_i z
      by_cases y : h.tag a = 16 ∨ jLn (h.tag a) ≠ 0
      · have := i (h.tag a) k z.1 y
        rw [← z.2] at this
        exact this.symm
      · exfalso
        have y1 : h.tag a ≠ 16 := fun w => y (Or.inl w)
        have y2 : jLn (h.tag a) = 0 := Decidable.byContradiction fun w => y (Or.inr w)
        have e := c _ y1 y2
        rw [← z.2] at e
        apply y1
        rw [e]
        exact B.1
    · rfl
  · show (if jMl (h.tag a) = true ∧ a = b (h.tag a) then V (h.tag a) (k : Int) else h.L (h.tag a) a k) = _
    split
    · rename_i z
      have := l (h.tag a) k z.1
      rw [← z.2] at this
      exact this.symm
    · rfl
theorem mdl.nxt (M : mdl h b V) : mdl (jP (h, b) W) b W := ⟨M.1, M.2.1, fun t k h1 _ => if_pos ⟨h1, rfl⟩, fun t k h1 => if_pos ⟨h1, rfl⟩⟩
theorem kc_36 {a : Nat} (ht : 36 ≤ h.tag a) : kc h a = 9000 + h.tag a := by
  unfold kc
  rw [if_neg (by omega), if_neg (by omega), if_neg (by omega), if_pos (by omega)]
theorem jMi_16 {t : Nat} (h : jMi t = true ∨ jMl t = true) : t = 16 ∨ 100 ≤ t := by
  rcases h with h | h
  · unfold jMi at h
    cases e : Nat.beq t 16 with
    | true => exact Or.inl (Nat.eq_of_beq_eq_true e)
    | false =>
      cases e2 : Nat.ble 100 t with
      | true => exact Or.inr (Nat.le_of_ble_eq_true e2)
      | false =>
        rw [e, e2] at h
        exact absurd h (by simp)
  · exact Or.inr (jLn_ge (jMl_ln h))
theorem mdl_rp (hR : RepC γ W h x) : RepC γ W (jP (h, b) V) x := by
  have F : FrC h (jP (h, b) V) (fun c => c = 16 ∨ 9000 ≤ c) := fun a ha => ⟨rfl, rfl, rfl, fun hw => ⟨fun k => by
    show (if jMi (h.tag a) = true ∧ a = b (h.tag a) then V (h.tag a) (k : Int) else h.I (h.tag a) a k) = h.I (h.tag a) a k
    split
    · rename_i z
      exfalso
      apply hw
      rcases jMi_16 (Or.inl z.1) with y | y
      · left; exact kc_o y (by decide)
      · right; have := kc_36 (h := h) (a := a) (by omega); omega
    · rfl, fun k => by
    show (if jMl (h.tag a) = true ∧ a = b (h.tag a) then V (h.tag a) (k : Int) else h.L (h.tag a) a k) = h.L (h.tag a) a k
    split
    · rename_i z
      exfalso
      apply hw
      rcases jMi_16 (Or.inr z.1) with y | y
      · left; exact kc_o y (by decide)
      · right; have := kc_36 (h := h) (a := a) (by omega); omega
    · rfl, fun _ => rfl, rfl⟩⟩
  exact RepC.c F (fun c z => z) hR
theorem isSc.fr (Z : isSc h sc n S) (to : h.tag o = 38) (F : FrO o h h') : isSc h' sc n S := by
  obtain ⟨a1, a2, a3, a4⟩ := Z
  refine ⟨F.tag a1 (by decide), by rw [F.len (by omega)]; exact a2, a3, fun i hi => ?_⟩
  rw [F.I a1 (by decide) (fun z => ?_)]
  · exact a4 i hi
  · rcases z with z | z
    · omega
    · rw [z] at a1; omega
theorem isSc.nxt (Z : isSc h sc n S) : isSc (jP (h, b) V) sc n S := ⟨Z.1, Z.2.1, Z.2.2.1, fun i hi => jP_37.trans (Z.2.2.2 i hi)⟩
/-- what a wrapper answers: c, and u in the box; P: the states that may be -/
def WQ (γ : jG) (x o : Nat) (h : jM) (c u : Int) (P : VV → Prop) : Option Value → jM → Prop := fun r h' => r = some (.int (jI c)) ∧ FrO o h h' ∧ (c = 0 → h'.L 38 o 0 = u) ∧ ∀ V, P V → RepC γ V h' x
/-- what the model answers -/
def mdQ (β : jB) (v : Int) (P : VV → Prop) : Option Value → jM → Prop := fun r h' => ∃ V, P V ∧ r = some (.int (jI v)) ∧ h' = jP β V
theorem lwS.nx {P : VV → Prop} (M : mdl h b V) (hR : ∀ V, P V → RepC γ V h x) (p : P W) (I : Inv W) (Z : isSc h sc n S) (to : h.tag o = 38) (lo : h.len o = 1) : lwS γ W (jP (h, b) W) b x o sc n S := ⟨M.nxt, mdl_rp (hR W p), I, Z.nxt, to, lo⟩
theorem wq_st {u : Int} {P : VV → Prop} (F : FrT h h') (to : h.tag o = 38) (hR : ∀ V, P V → RepC γ V h' x) : WQ γ x o h 0 u P (some (.int (jI 0))) (h'.sL 38 o 0 u) := by
  refine ⟨rfl, Fr.trans F Fr.sL (fun b hb z => z), fun _ => ?_, fun V p => ?_⟩
  · rw [jM.L_sL, if_pos ⟨rfl, rfl, rfl⟩]
  · refine RepC.c (S := fun c => c = 16 ∨ 9000 ≤ c) (Fr.mono Fr.sL (fun a ha z => ?_)) (fun c z => z) (hR V p)
    right
    have t : h'.tag a = 38 := by rw [z]; exact F.tag to (by decide)
    have := kc_36 (h := h') (a := a) (by omega)
    omega
theorem wq_ok {w : RV} {r : Option Value} (to : h.tag o = 38) (lo : h.len o = 1) (hq : opQ γ x h w r h') : ∃ v, r = some (.int (jI v)) ∧ h'.tag o = 38 ∧ h'.len o = 1 ∧ WQ γ x o h (w.2 16 0) (jI w.1).toInt (fun V => V = w.2) (some (.int (jI 0))) (h'.sL 38 o 0 (jI v).toInt) := by
  obtain ⟨q1, q2, q3, q4⟩ := hq
  refine ⟨w.1, q1, q4.tag to (by decide), by rw [q4.len (by omega)]; exact lo, ?_⟩
  rw [q2]
  exact wq_st q4.toT to (fun V p => by rw [p]; exact q3)
theorem wq_ex {w : RV} {c u : Int} (hR : RepC γ V h x) (hw : w = (0, jU V 16 0 c)) (hc : c ≠ 0) : WQ γ x o h (w.2 16 0) u (fun V => V = w.2) (some (.int (jI c))) h := by
  subst hw
  have e : jU V 16 0 c 16 0 = c := jU_same _ _ _ _
  refine ⟨by show some (Value.int (jI c)) = some (Value.int (jI (jU V 16 0 c 16 0))); rw [e], Fr.rf, fun z => absurd (e.symm.trans z) hc, fun V' p => ?_⟩
  rw [p]
  exact hR.cg (sameR.t 0 (by decide))
end LW
section LR
variable {γ : jG} {f mc ms cells slots : Nat} {h : jM} {lv : List (Nat × Value)} {st : List Value} {Q : Option Value → jM → Prop} {X : String → jM → Prop} {sc n : Nat} {S : Int → Int} {i : Int}
/-- an argument read out of the script -/
theorem J.rdS {p p' : Nat} {k : Int} (hc1 : mL_law.cm p = some (.aload_n 0, 1)) (hc2 : mL_law.cm (p + 1) = some (.iload 4, 2)) (hc3 : mL_law.cm (p + 3) = some (.iconst k, 1)) (hc4 : mL_law.cm (p + 4) = some (.iadd, 1)) (hc5 : mL_law.cm (p + 5) = some (.iaload, 1)) (hp : p + 6 = p') (Z : isSc h sc n S) (g0 : jGet lv 0 = some (.ref sc)) (g4 : jGet lv 4 = some (.int (jI i))) (hi : 0 ≤ i ∧ i + 6 ≤ n) (hk : 0 ≤ k ∧ k ≤ 5) (kk : J γ mL_law f mc ms cells slots h p' lv (.int (jI (S (i + k))) :: st) Q X) : J γ mL_law f mc ms cells slots h p lv st Q X := by
  obtain ⟨a1, a2, a3, a4⟩ := Z
  refine J.aload_n (pc' := p + 1) hc1 rfl g0 ?_
  refine J.iload (pc' := p + 3) hc2 rfl g4 ?_
  refine J.iconst (pc' := p + 4) hc3 rfl ?_
  refine J.iadd (pc' := p + 5) hc4 rfl ?_
  refine J.iald (pc' := p') (t := 37) hc5 a1 (by decide) rfl (by omega) (by omega) (by unfold r32; omega) (by omega) ?_
  rw [a4 (i + k) (by omega)]
  exact kk
/-- the end of a case -/
theorem law_tail {p : Nat} {D c v u : Int} {β : jB} {W : VV} {x o : Nat} (hc1 : mL_law.cm p = some (.istore 6, 2)) (hc2 : mL_law.cm (p + 2) = some (.aload_n 2, 1)) (hc3 : mL_law.cm (p + 3) = some (.invokevirtual 98, 3)) (hc4 : mL_law.cm (p + 6) = some (.iload 5, 2)) (hc5 : mL_law.cm (p + 8) = some (.if_icmp .eq 5, 3)) (hc6 : mL_law.cm (p + 13) = some (.iload 5, 2)) (hc7 : mL_law.cm (p + 15) = some (.ifCond .ne 15, 3)) (hc8 : mL_law.cm (p + 18) = some (.aload_n 3, 1)) (hc9 : mL_law.cm (p + 19) = some (.iconst 0, 1)) (hc10 : mL_law.cm (p + 20) = some (.laload, 1)) (hc11 : mL_law.cm (p + 21) = some (.iload 6, 2)) (hc12 : mL_law.cm (p + 23) = some (.i2l, 1)) (hc13 : mL_law.cm (p + 24) = some (.lcmp, 1)) (hc14 : mL_law.cm (p + 25) = some (.ifCond .eq 5, 3)) (hc15 : mL_law.cm (p + 30) = some (.goto D, 3)) (hD : ((p + 30 : Nat) : Int) + D = ((1791 : Nat) : Int)) (hf : 1 ≤ f) (hm : cells ≤ mc) (hs : slots ≤ ms)
    (B : isB β) (hV : W 16 0 = c) (hcr : r32 c) (to : β.1.tag o = 38) (lo : β.1.len o = 1) (hu : c = 0 → β.1.L 38 o 0 = u) (hvu : u = (jI v).toInt)
    (fin : ∀ lv, hasL lv [(0, .ref sc), (1, .ref x), (2, .ref (β.2 16)), (3, .ref o), (4, .int (jI i))] → J γ mL_law f mc ms cells slots (jP β W) 1791 lv [] Q X) :
    J γ mL_law f mc ms cells slots (jP β W) p [(0, .ref sc), (1, .ref x), (2, .ref (β.2 16)), (3, .ref o), (4, .int (jI i)), (5, .int (jI c))] [.int (jI v)] Q X := by
  refine J.istore (pc' := p + 2) hc1 rfl (by decide) ?_
  refine J.lc (lv' := [(0, .ref sc), (1, .ref x), (2, .ref (β.2 16)), (3, .ref o), (4, .int (jI i)), (5, .int (jI c)), (6, .int (jI v))]) (by repeat' (first | exact trivial | refine ⟨rfl, ?_⟩)) ?_
  refine J.aload_n (pc' := p + 3) hc2 rfl rfl ?_
  refine J.callV (pc' := p + 6) (t := 16) hc3 MX12_thrown ml_L_98 iv_X12_thrown (by decide) ⟨_, rfl, rfl⟩ B.1 (cm_thrown B) rfl rfl (Nat.le_of_ble_eq_true rfl) (by omega) (by omega) (by omega) rfl rfl ?_ ?_
  · exact fun _ _ z => z.elim
  rintro _ _ ⟨rfl, rfl⟩
  rw [hV]
  refine J.iload (pc' := p + 8) hc4 rfl rfl ?_
  refine J.icmpE (pc' := p + 13) hc5 (by omega) ?_
  refine J.iload (pc' := p + 15) hc6 rfl rfl ?_
  refine J.if_ne (tgt := p + 30) (pc' := p + 18) hc7 (by omega) rfl hcr (fun z => ?_) (fun z => ?_)
  · refine J.goto (tgt := 1791) hc15 hD ?_
    exact fin _ (by repeat' (first | exact trivial | refine ⟨rfl, ?_⟩))
  · refine J.aload_n (pc' := p + 19) hc8 rfl rfl ?_
    refine J.iconst (pc' := p + 20) hc9 rfl ?_
    refine J.lald (pc' := p + 21) (t := 38) hc10 to (by decide) rfl (by decide) (by show (0 : Int) < ((β.1.len o : Nat) : Int); omega) (by decide) rfl ?_
    refine J.iload (pc' := p + 23) hc11 rfl rfl ?_
    refine J.i2lT (pc' := p + 24) hc12 rfl ?_
    have e : (jP β W).L 38 o (Int.toNat 0) = (jI v).toInt := (jP_38.trans (hu z)).trans hvu
    rw [e]
    refine J.lcmpE (pc' := p + 25) hc13 rfl ?_
    refine J.if_eq (tgt := p + 30) (pc' := p + 28) hc14 (by omega) rfl (by decide) (fun _ => ?_) (fun z => absurd rfl z)
    refine J.goto (tgt := 1791) hc15 hD ?_
    exact fin _ (by repeat' (first | exact trivial | refine ⟨rfl, ?_⟩))
end LR

