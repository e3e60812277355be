section FS
variable {h h1 h2 : jM} {W : Nat → Prop} {t a k q n : Nat}
theorem Fr.stI {v : Int} (F : Fr h h1 W) (hw : W a ∨ h.tag a = 0) : Fr h (h1.sI t a k v) W := F.trans Fr.sI (fun b hb q => by
  rcases q with q | q
  · exact q
  · subst q
    rcases hw with hw | hw
    · exact hw
    · exact absurd hw hb)
theorem Fr.stL {v : Int} (F : Fr h h1 W) (hw : W a ∨ h.tag a = 0) : Fr h (h1.sL t a k v) W := F.trans Fr.sL (fun b hb q => by
  rcases q with q | q
  · exact q
  · subst q
    rcases hw with hw | hw
    · exact hw
    · exact absurd hw hb)
theorem Fr.stR {v : Option Nat} (F : Fr h h1 W) (hw : W a ∨ h.tag a = 0) (ht : t ≠ 0 := by decide) : Fr h (h1.sR t a k v) W := F.trans (Fr.sR ht) (fun b hb q => by
  rcases q with q | q
  · exact q
  · subst q
    rcases hw with hw | hw
    · exact hw
    · exact absurd hw hb)
theorem Fr.stFI {v : Nat → Int} (F : Fr h h1 W) (hw : W a ∨ h.tag a = 0) : Fr h (h1.fI t a v) W := F.trans Fr.fI (fun b hb q => by
  rcases q with q | q
  · exact q
  · subst q
    rcases hw with hw | hw
    · exact hw
    · exact absurd hw hb)
theorem Fr.stN (F : Fr h h1 W) (hq : h1.tag q = 0) (ht : t ≠ 0 := by decide) : Fr h (h1.nw q t n) W := F.trans (Fr.nw ht hq) (fun b hb q => by
  rcases q with q | q
  · exact q
  · exact q.elim)
theorem Fr.free (F : Fr h h1 W) (hq : h1.tag q = 0) : h.tag q = 0 := by
  rcases Nat.eq_zero_or_pos (h.tag q) with e | e
  · exact e
  · rw [(F q (by omega)).1] at hq
    exact hq
/-- a new cell gets its owner -/
theorem Fr.stO {v : Option Nat} (F : Fr h h1 W) (ha : h.tag a = 0) : Fr h (h1.sR 0 a k v) W := fun b hb => by
  have hn : ¬ b = a := fun e => by rw [e] at hb; exact hb ha
  obtain ⟨a1, a2, a3, a4⟩ := F b hb
  refine ⟨a1, a2, ?_, fun hw => ?_⟩
  · show (h1.sR 0 a k v).R 0 b 0 = _
    rw [jM.R_sR, if_neg (fun q => hn q.2.1)]
    exact a3
  · obtain ⟨b1, b2, b3, b4⟩ := a4 hw
    refine ⟨b1, b2, fun j => ?_, ?_⟩
    · rw [jM.R_sR, if_neg (fun q => hn q.2.1)]
      exact b3 j
    · show (h1.sR 0 a k v).R 0 b 1 = _
      rw [jM.R_sR, if_neg (fun q => hn q.2.1)]
      exact b4
/-- a cell gets another holder -/
theorem Fr.stH {v : Option Nat} (F : Fr h h1 W) (hw : W a ∨ h.tag a = 0) : Fr h (h1.sR 0 a 1 v) W := fun b hb => by
  obtain ⟨a1, a2, a3, a4⟩ := F b hb
  refine ⟨a1, a2, ?_, fun hn => ?_⟩
  · show (h1.sR 0 a 1 v).R 0 b 0 = _
    rw [jM.R_sR, if_neg (fun q => by omega)]
    exact a3
  · have hba : ¬ b = a := fun e => by
      subst e
      rcases hw with q | q
      · exact hn q
      · exact hb q
    obtain ⟨b1, b2, b3, b4⟩ := a4 hn
    refine ⟨b1, b2, fun j => ?_, ?_⟩
    · rw [jM.R_sR, if_neg (fun q => hba q.2.1)]
      exact b3 j
    · show (h1.sR 0 a 1 v).R 0 b 1 = _
      rw [jM.R_sR, if_neg (fun q => hba q.2.1)]
      exact b4
/-- only cells of these kinds are new -/
def Nt (h h' : jM) (T : List Nat) : Prop := ∀ b, h.tag b = 0 → h'.tag b = 0 ∨ h'.tag b ∈ T
theorem Nt.rf {T : List Nat} : Nt h h T := fun _ hb => Or.inl hb
theorem Nt.stN {T : List Nat} (F : Nt h h1 T) (ht : t ∈ T) : Nt h (h1.nw q t n) T := fun b hb => by
  rw [jM.tag_nw]
  by_cases e : b = q
  · rw [if_pos e]; exact Or.inr ht
  · rw [if_neg e]; exact F b hb
theorem Nt.st {T : List Nat} (F : Nt h h1 T) (e : h2.tag = h1.tag) : Nt h h2 T := fun b hb => by rw [e]; exact F b hb
theorem Nt.trans {T T1 : List Nat} (F : Nt h h1 T) (F1 : Nt h1 h2 T1) (hr : Fr h1 h2 W) (hT : ∀ x ∈ T1, x ∈ T) : Nt h h2 T := fun b hb => by
  rcases F b hb with q | q
  · rcases F1 b q with r | r
    · exact Or.inl r
    · exact Or.inr (hT _ r)
  · rcases Nat.eq_zero_or_pos (h1.tag b) with e | e
    · rcases F1 b e with r | r
      · exact Or.inl r
      · exact Or.inr (hT _ r)
    · rw [(hr b (by omega)).1]
      exact Or.inr q
end FS
theorem CT.gh {γ : jG} {μ : jMth} {f mc ms : Nat} {a : List Value} {h : jM} {Q Q' : Option Value → jM → Prop} {X : String → jM → Prop} (H : CT γ μ f mc ms a h Q X) (hQ : ∀ r h', Q r h' → ∃ h'', Q' r h'' ∧ ∀ H, jRH γ h' H → jRH γ h'' H) : CT γ μ f mc ms a h Q' X := by
  intro p e h1 h2 h3 s m args below h4 h5 h6 h7
  obtain ⟨n, o, q1, q2, q3, q4⟩ := H p e h1 h2 h3 s m args below h4 h5 h6 h7
  refine ⟨n, o, q1, q2, q3, ?_⟩
  rcases q4 with ⟨⟨r, h', e1, e2, e3⟩, L⟩ | q4
  · obtain ⟨h'', g1, g2⟩ := hQ r h' e2
    exact Or.inl ⟨⟨r, h'', e1, g1, g2 _ e3⟩, L⟩
  · exact Or.inr q4
/-- both parts of a METAL -/
def upS (P : Nat → Int) (m x y : Int) : Nat → Int := fun k => if (k : Int) = 2 * m + 1 then y else if (k : Int) = 2 * m then x else P k
def spD : Nat → Int := fun j => if j < 10 ∧ j % 2 = 1 then 10000 else 0
/-- the spans s now hold P; nothing else has changed -/
def spW (h h' : jM) (s : Nat) (P : Nat → Int) : Prop := h'.tag = h.tag ∧ h'.len = h.len ∧ h'.L = h.L ∧ h'.R = h.R ∧ (∀ t, t ≠ 20 → h'.I t = h.I t) ∧ Fr h h' (fun b => b = pa h s) ∧ isSp h' s ∧ sv h' s = P
section SQ
variable {γ : jG} {h : jM} {s o : Nat}
theorem cs_low {m : Int} (hS : isSp h s) (h0 : 0 ≤ m) (h1 : m < 5) : CT γ mX10_low 0 0 0 [.ref s, .int (jI m)] h (fun r h' => r = some (.int (jI (sv h s (2 * m).toNat))) ∧ h' = h) X0 := ct_low hS.1 hS.2.1 hS.2.2.1 hS.2.2.2.1 h0 h1
theorem cs_high {m : Int} (hS : isSp h s) (h0 : 0 ≤ m) (h1 : m < 5) : CT γ mX10_high 0 0 0 [.ref s, .int (jI m)] h (fun r h' => r = some (.int (jI (sv h s (2 * m + 1).toNat))) ∧ h' = h) X0 := ct_high hS.1 hS.2.1 hS.2.2.1 hS.2.2.2.1 h0 h1
theorem spW_of {m x y : Int} (hS : isSp h s) (h0 : 0 ≤ m) (h1 : m < 5) : spW h ((h.sI 20 (pa h s) (2 * m).toNat x).sI 20 (pa h s) (2 * m + 1).toNat y) s (upS (sv h s) m x y) := by
  refine ⟨rfl, rfl, rfl, rfl, fun t ht => ?_, (by refine Fr.stI (Fr.stI Fr.rf ?_) ?_ <;> exact Or.inl rfl), hS, ?_⟩
  · funext b k
    rw [jM.I_sI, if_neg (fun q => ht q.1), jM.I_sI, if_neg (fun q => ht q.1)]
  · funext k
    show ((h.sI 20 (pa h s) (2 * m).toNat x).sI 20 (pa h s) (2 * m + 1).toNat y).I 20 (pa h s) k = _
    rw [jM.I_sI, jM.I_sI]
    unfold upS sv
    by_cases e1 : (k : Int) = 2 * m + 1
    · rw [if_pos ⟨rfl, rfl, by omega⟩, if_pos e1]
    · rw [if_neg (by omega), if_neg e1]
      by_cases e2 : (k : Int) = 2 * m
      · rw [if_pos ⟨rfl, rfl, by omega⟩, if_pos e2]
      · rw [if_neg (by omega), if_neg e2]
theorem cs_put {m x y : Int} (hS : isSp h s) (h0 : 0 ≤ m) (h1 : m < 5) : CT γ mX10_put 0 0 0 [.ref s, .int (jI m), .int (jI x), .int (jI y)] h (fun r h' => r = none ∧ spW h h' s (upS (sv h s) m x y)) X0 :=
  (ct_put hS.1 hS.2.1 hS.2.2.1 hS.2.2.2.1 h0 h1).mono (fun r h' q => ⟨q.1, by rw [q.2]; exact spW_of hS h0 h1⟩) (fun _ _ q => q)
theorem cs_hasCommon {m x y : Int} (hS : isSp h s) (h0 : 0 ≤ m) (h1 : m < 5) (hx : r32 x) (hy : r32 y) (hr : ∀ i, i < 10 → r32 (sv h s i)) : CT γ mX10_hasCommon 1 0 0 [.ref s, .int (jI m), .int (jI x), .int (jI y)] h (fun r h' => r = some (.int (jI (if max x (sv h s (2 * m).toNat) ≤ min y (sv h s (2 * m + 1).toNat) then 1 else 0))) ∧ h' = h) X0 := ct_hasCommon hS.1 hS.2.1 hS.2.2.1 hS.2.2.2.1 h0 h1 hx hy (hr _ (by omega)) (hr _ (by omega))
theorem cs_narrow {m x y : Int} (hS : isSp h s) (h0 : 0 ≤ m) (h1 : m < 5) (hx : r32 x) (hy : r32 y) (hr : ∀ i, i < 10 → r32 (sv h s i)) : CT γ mX10_narrow 1 0 0 [.ref s, .int (jI m), .int (jI x), .int (jI y)] h (fun r h' => r = none ∧ spW h h' s (upS (sv h s) m (max x (sv h s (2 * m).toNat)) (min y (sv h s (2 * m + 1).toNat)))) X0 :=
  (ct_narrow hS.1 hS.2.1 hS.2.2.1 hS.2.2.2.1 h0 h1 hx hy (hr _ (by omega)) (hr _ (by omega))).mono (fun r h' q => ⟨q.1, by rw [q.2]; exact spW_of hS h0 h1⟩) (fun _ _ q => q)
theorem cs_part {w k : Int} (hS : isSp h s) (hw : r32 w) (hk : 0 ≤ k) (hk2 : k ≤ 10) : CT γ mX10_partOrThrow 6 1 6 [.ref s, .int (jI w), .int (jI k)] h (fun r h' => (k ≤ w ∧ w < k + 10) ∧ r = some (.int (jI (sv h s (w - k).toNat))) ∧ h' = h) (fun E h' => ¬ (k ≤ w ∧ w < k + 10) ∧ E = "java/lang/IllegalArgumentException" ∧ h' = h) := ct_partOrThrow hS.1 hS.2.1 hS.2.2.1 hS.2.2.2.1 hw hk hk2
theorem jSp_l : Cond.methodLink RX10 35 arraycopyName ∈ lw_tbl := by decide +kernel
theorem cs_copyFrom (hS : isSp h s) (hO : isSp h o) : CT γ mX10_copyFrom 1 0 0 [.ref s, .ref o] h (fun r h' => r = none ∧ spW h h' s (fun k => if k < 10 then sv h o k else sv h s k)) X0 := by
  have hS0 := hS
  have hO0 := hO
  obtain ⟨a1, a2, a3, a4, a5⟩ := hS0
  obtain ⟨b1, b2, b3, b4, b5⟩ := hO0
  refine CT.of MX10_copyFrom (Nat.le_of_ble_eq_true rfl) ?_
  show J γ mX10_copyFrom 1 0 0 0 0 h 0 [(0, .ref s), (1, .ref o)] [] _ _
  first | refine J.aload_n (pc' := 1) rfl rfl rfl ?_ | refine J.aload_nN (pc' := 1) rfl rfl rfl ?_
  first | refine J.getR (pc' := 4) rfl fl_X10_9 rfl (by first | assumption | (simp only [jM.tag_sI, jM.tag_sL, jM.tag_sR, jM.tag_fI, jM.tag_fL, jM.tag_fR]; assumption) | (simp [jM.tag_nw, jM.tag_sI, jM.tag_sL, jM.tag_sR, jM.tag_fI, jM.tag_fL, jM.tag_fR, *]; done)) (by first | assumption | (simp only [jM.R_sI, jM.R_sL, jM.R_fI, jM.R_fL]; assumption) | (simp [jM.R_nw, jM.R_sR, jM.R_fR, jM.R_sI, jM.R_sL, jM.R_fI, jM.R_fL, *]; done)) rfl ?_ | refine J.getRN (pc' := 4) rfl fl_X10_9 rfl (by first | assumption | (simp only [jM.tag_sI, jM.tag_sL, jM.tag_sR, jM.tag_fI, jM.tag_fL, jM.tag_fR]; assumption) | (simp [jM.tag_nw, jM.tag_sI, jM.tag_sL, jM.tag_sR, jM.tag_fI, jM.tag_fL, jM.tag_fR, *]; done)) (by first | assumption | (simp only [jM.R_sI, jM.R_sL, jM.R_fI, jM.R_fL]; assumption) | (simp [jM.R_nw, jM.R_sR, jM.R_fR, jM.R_sI, jM.R_sL, jM.R_fI, jM.R_fL, *]; done)) rfl ?_
  refine J.iconst (pc' := 5) rfl rfl ?_
  first | refine J.aload_n (pc' := 6) rfl rfl rfl ?_ | refine J.aload_nN (pc' := 6) rfl rfl rfl ?_
  first | refine J.getR (pc' := 9) rfl fl_X10_9 rfl (by first | assumption | (simp only [jM.tag_sI, jM.tag_sL, jM.tag_sR, jM.tag_fI, jM.tag_fL, jM.tag_fR]; assumption) | (simp [jM.tag_nw, jM.tag_sI, jM.tag_sL, jM.tag_sR, jM.tag_fI, jM.tag_fL, jM.tag_fR, *]; done)) (by first | assumption | (simp only [jM.R_sI, jM.R_sL, jM.R_fI, jM.R_fL]; assumption) | (simp [jM.R_nw, jM.R_sR, jM.R_fR, jM.R_sI, jM.R_sL, jM.R_fI, jM.R_fL, *]; done)) rfl ?_ | refine J.getRN (pc' := 9) rfl fl_X10_9 rfl (by first | assumption | (simp only [jM.tag_sI, jM.tag_sL, jM.tag_sR, jM.tag_fI, jM.tag_fL, jM.tag_fR]; assumption) | (simp [jM.tag_nw, jM.tag_sI, jM.tag_sL, jM.tag_sR, jM.tag_fI, jM.tag_fL, jM.tag_fR, *]; done)) (by first | assumption | (simp only [jM.R_sI, jM.R_sL, jM.R_fI, jM.R_fL]; assumption) | (simp [jM.R_nw, jM.R_sR, jM.R_fR, jM.R_sI, jM.R_sL, jM.R_fI, jM.R_fL, *]; done)) rfl ?_
  refine J.iconst (pc' := 10) rfl rfl ?_
  refine J.bipush (pc' := 12) rfl rfl (by decide) ?_
  refine J.acopyI (pc' := 15) (t0 := 20) (t := 20) rfl jSp_l b3 a3 (by decide) (by decide) rfl (by decide) rfl (by omega) (by omega) (by omega) (by omega) (by omega) (by omega) (by omega) (by omega) (fun i _ => rfl) (Or.inl ⟨rfl, by omega⟩) (by omega) (Nat.le_of_ble_eq_true rfl) rfl ?_
  refine J.vret rfl rfl (by first | omega | (simp only [jM.len_sI, jM.len_sL, jM.len_sR, jM.len_fI, jM.len_fL, jM.len_fR]; omega) | (simp [jM.len_nw, jM.len_sI, jM.len_sL, jM.len_sR, jM.len_fI, jM.len_fL, jM.len_fR, *]; omega)) (by first | omega | (simp only [jM.len_sI, jM.len_sL, jM.len_sR, jM.len_fI, jM.len_fL, jM.len_fR]; omega) | (simp [jM.len_nw, jM.len_sI, jM.len_sL, jM.len_sR, jM.len_fI, jM.len_fL, jM.len_fR, *]; omega)) ?_
  refine ⟨rfl, rfl, rfl, rfl, rfl, fun t ht => ?_, Fr.fI, hS, ?_⟩
  · funext b k
    rw [jM.I_fI, if_neg (fun q => ht q.1)]
  · funext k
    show (h.fI 20 (pa h s) _).I 20 (pa h s) k = _
    rw [jM.I_fI, if_pos ⟨rfl, rfl⟩]
    unfold va_cpy sv
    by_cases hk : k < 10
    · rw [if_pos (by simp; omega), if_pos hk]
      simp
    · rw [if_neg (by simp; omega), if_neg hk]
theorem cs_init (hs : h.tag s = 14) : CT γ mX10_init 1 1 10 [.ref s] h (fun r h' => r = none ∧ isSp h' s ∧ sv h' s = spD ∧ Fr h h' (fun b => b = s) ∧ Nt h h' [20] ∧ h.tag (pa h' s) = 0) X0 := by
  refine (ct_Spans_init hs).gh (fun r h' q => ?_)
  obtain ⟨rfl, q, qf, qb, rfl⟩ := q
  have hne : ¬ s = q := fun e1 => by rw [e1] at hs; omega
  have tq : (((h.nw q 20 10).sR 14 s 0 (some q)).fI 20 q spD).tag q = 20 := by simp [jM.tag_fI, jM.tag_sR, jM.tag_nw]
  refine ⟨(((h.nw q 20 10).sR 14 s 0 (some q)).fI 20 q spD).sR 20 q 0 (some s), ⟨rfl, ?_⟩, fun H hH => jGh_ok (by decide) tq hH⟩
  have hp : pa ((((h.nw q 20 10).sR 14 s 0 (some q)).fI 20 q spD).sR 20 q 0 (some s)) s = q := by
    unfold pa
    rw [jM.R_sR, if_neg (by omega), jM.R_fI, jM.R_sR, if_pos ⟨rfl, rfl, rfl⟩]
    rfl
  refine ⟨⟨?_, ?_, ?_, ?_, ?_⟩, ?_, ?_, ?_, ?_⟩
  · simp [jM.tag_fI, jM.tag_sR, jM.tag_nw, hne, hs]
  · rw [hp, jM.R_sR, if_neg (by omega), jM.R_fI, jM.R_sR, if_pos ⟨rfl, rfl, rfl⟩]
  · rw [hp]; exact tq
  · rw [hp]; simp [jM.len_fI, jM.len_sR, jM.len_nw]
  · rw [hp, jM.R_sR, if_pos ⟨rfl, rfl, rfl⟩]
  · funext k
    unfold sv
    rw [hp, jM.I_sR, jM.I_fI, if_pos ⟨rfl, rfl⟩]
  · refine Fr.stR (Fr.stFI (Fr.stR (Fr.stN Fr.rf qf) ?_) ?_) ?_ <;> first | exact Or.inl rfl | exact Or.inr qf
  · exact (Nt.stN (n := 10) Nt.rf (by simp)).st rfl
  · rw [hp]; exact qf
end SQ

