section SI
section
variable {γ : jG} {μ : jMth} {f mc ms cells slots : Nat} {h : jM} {pc : Nat} {lv : List (Nat × Value)} {st : List Value} {Q : Option Value → jM → Prop} {X : String → jM → Prop}
theorem J.mnaL {idx t u N K c' s' : Nat} {pc' : Nat} (hc : μ.cm pc = some (.multianewarray idx 2, 4)) (ht : jE t = .array .int) (h20 : 20 ≤ t) (hu : jE u = .int) (u20 : 20 ≤ u) (hw : Cond.classLink μ.y.cls idx "[[I" ∈ lw_tbl) (h0 : N ≤ 1000) (h1 : K ≤ 1000) (hm : cells + (1 + N) ≤ mc) (hs : slots + (N + N * K) ≤ ms) (hp : pc + 4 = pc') (e1 : cells + 1 + N ≤ c') (e2 : slots + N + N * K ≤ s')
    (kk : ∀ q, (∀ j, q ≤ j → h.tag j = 0) → γ.base ≤ q → J γ μ f mc ms c' s' (h.mna q t u N K) pc' lv (.ref q :: st) Q X) : J γ μ f mc ms cells slots h pc lv (.int (jI (K : Int)) :: .int (jI (N : Int)) :: st) Q X := by
  refine J.mna hc ht h20 hu u20 hw (by omega) (by omega) (by rw [Int.toNat_natCast]; exact hm) (by rw [Int.toNat_natCast, Int.toNat_natCast]; exact hs) hp (fun q q1 q2 => ?_)
  rw [Int.toNat_natCast, Int.toNat_natCast]
  exact J.widen e1 e2 (kk q q1 q2)
theorem J.newaL {atype : ArrayType} {t N c' s' : Nat} {pc' : Nat} (hc : μ.cm pc = some (.newarray atype, 2)) (h20 : 20 ≤ t) (hty : jE t = newarray.typeOf atype) (hin : jE t ∈ jTys) (hw : Cond.arrayClass (newarray.typeOf atype) ∈ lw_tbl) (hn : N ≤ 1000) (hm : cells + 1 ≤ mc) (hs : slots + N ≤ ms) (hp : pc + 2 = pc') (e1 : cells + 1 ≤ c') (e2 : slots + N ≤ s')
    (kk : ∀ q, h.tag q = 0 → γ.base ≤ q → J γ μ f mc ms c' s' (h.nw q t N) pc' lv (.ref q :: st) Q X) : J γ μ f mc ms cells slots h pc lv (.int (jI (N : Int)) :: st) Q X := by
  refine J.newa hc h20 hty hin hw (by omega) (by omega) hm (by rw [Int.toNat_natCast]; exact hs) hp (fun q q1 q2 => ?_)
  rw [Int.toNat_natCast]
  exact J.widen e1 e2 (kk q q1 q2)
end
variable {γ : jG} {h : jM}
/-- an array in a field of the search -/
def ar (k : jM) (a f q t n : Nat) : Prop := k.R 4 a f = some q ∧ k.tag q = t ∧ k.len q = n ∧ ∀ i, k.I t q i = 0
def rws (k : jM) (q o r K : Nat) : Prop := ∀ s : Nat, s < 11 → k.R o q s = some (q + 1 + s) ∧ k.tag (q + 1 + s) = r ∧ k.len (q + 1 + s) = K ∧ ∀ i, k.I r (q + 1 + s) i = 0
theorem si_new {k : jM} {q t n a f : Nat} (qf : k.tag q = 0) (ha : k.tag a = 4) (ht : t ≠ 0) : ((k.nw q t n).sR 4 a f (some q)).tag a = 4 ∧ ar ((k.nw q t n).sR 4 a f (some q)) a f q t n ∧ Fr k ((k.nw q t n).sR 4 a f (some q)) (fun b => b = a) ∧ Nt k ((k.nw q t n).sR 4 a f (some q)) [t] ∧ ∀ f', f' ≠ f → ((k.nw q t n).sR 4 a f (some q)).R 4 a f' = k.R 4 a f' := by
  have hne : ¬ a = q := fun z => by rw [z, qf] at ha; omega
  refine ⟨?_, ⟨?_, ?_, ?_, fun i => ?_⟩, ?_, ?_, fun f' hf => ?_⟩
  · rw [jM.tag_sR, jM.tag_nw, if_neg hne]; exact ha
  · rw [jM.R_sR, if_pos ⟨rfl, rfl, rfl⟩]
  · rw [jM.tag_sR, jM.tag_nw, if_pos rfl]
  · rw [jM.len_sR, jM.len_nw, if_pos rfl]
  · rw [jM.I_sR, jM.I_nw, if_pos ⟨rfl, rfl⟩]
  · exact Fr.stR (Fr.stN Fr.rf qf ht) (Or.inl rfl)
  · exact (Nt.stN (q := q) (t := t) (n := n) Nt.rf (by simp)).st rfl
  · rw [jM.R_sR, if_neg (fun z => hf z.2.2), jM.R_nw, if_neg (fun z => hne z.2)]
theorem Fr.mna {k : jM} {q t u N K : Nat} (qf : ∀ j, q ≤ j → k.tag j = 0) : Fr k (k.mna q t u N K) (fun _ => False) := fun b hb => by
  have hlt : b < q := by
    rcases Nat.lt_or_ge b q with z | z
    · exact z
    · exact absurd (qf b z) hb
  refine ⟨?_, ?_, ?_, fun _ => ⟨fun i => ?_, fun i => ?_, fun i => ?_, ?_⟩⟩
  · rw [jM.tag_mna, if_neg (by omega), if_neg (by omega)]
  · rw [jM.len_mna, if_neg (by omega), if_neg (by omega)]
  · show (k.mna q t u N K).R 0 b 0 = _
    rw [jM.R_mna, if_neg (by omega)]
  · rw [jM.I_mna, if_neg (by omega)]
  · rw [jM.L_mna, if_neg (by omega)]
  · rw [jM.R_mna, if_neg (by omega)]
  · show (k.mna q t u N K).R 0 b 1 = _
    rw [jM.R_mna, if_neg (by omega)]
theorem si_mna {k : jM} {q t u K a f : Nat} (qf : ∀ j, q ≤ j → k.tag j = 0) (ha : k.tag a = 4) (ht : t ≠ 0) (hu : u ≠ 0) : ((k.mna q t u 11 K).sR 4 a f (some q)).tag a = 4 ∧ (((k.mna q t u 11 K).sR 4 a f (some q)).R 4 a f = some q ∧ ((k.mna q t u 11 K).sR 4 a f (some q)).tag q = t ∧ ((k.mna q t u 11 K).sR 4 a f (some q)).len q = 11) ∧ (t ≠ 4 → rws ((k.mna q t u 11 K).sR 4 a f (some q)) q t u K) ∧ Fr k ((k.mna q t u 11 K).sR 4 a f (some q)) (fun b => b = a) ∧ Nt k ((k.mna q t u 11 K).sR 4 a f (some q)) [t, u] ∧ ∀ f', f' ≠ f → ((k.mna q t u 11 K).sR 4 a f (some q)).R 4 a f' = k.R 4 a f' := by
  have hlt : a < q := by
    rcases Nat.lt_or_ge a q with z | z
    · exact z
    · rw [qf a z] at ha; omega
  have F := Fr.mna (t := t) (u := u) (N := 11) (K := K) qf
  refine ⟨?_, ⟨?_, ?_, ?_⟩, fun ht4 s hs => ⟨?_, ?_, ?_, fun i => ?_⟩, ?_, fun b hb => ?_, fun f' hf => ?_⟩
  · exact F.tag ha (by omega)
  · rw [jM.R_sR, if_pos ⟨rfl, rfl, rfl⟩]
  · rw [jM.tag_sR, jM.tag_mna, if_pos rfl]
  · rw [jM.len_sR, jM.len_mna, if_pos rfl]
  · rw [jM.R_sR, if_neg (fun z => ht4 z.1), jM.R_mna, if_pos (by omega), if_neg ht, if_pos ⟨rfl, rfl, hs⟩]
  · rw [jM.tag_sR, jM.tag_mna, if_neg (by omega), if_pos (by omega)]
  · rw [jM.len_sR, jM.len_mna, if_neg (by omega), if_pos (by omega)]
  · rw [jM.I_sR, jM.I_mna, if_pos (by omega), if_neg hu]
  · exact (F.mono (fun _ _ z => z.elim)).stR (Or.inl rfl)
  · rw [jM.tag_sR, jM.tag_mna]
    split
    · exact Or.inr (by simp)
    · split
      · exact Or.inr (by simp)
      · exact Or.inl hb
  · rw [jM.R_sR, if_neg (fun z => hf z.2.2), F.R ha (by omega) id]
theorem ar.kept {k k' : jM} {a f q t n : Nat} (h1 : ar k a f q t n) (F : Fr k k' (fun b => b = a)) (ha : k.tag a = 4) (ht : t ≠ 0 ∧ t ≠ 4) (hr : k'.R 4 a f = k.R 4 a f) : ar k' a f q t n := by
  obtain ⟨b1, b2, b3, b4⟩ := h1
  exact ⟨hr.trans b1, F.tag b2 ht.1, by rw [F.len (by omega)]; exact b3, fun i => by rw [F.I b2 ht.1 (fun z => by rw [z, ha] at b2; omega)]; exact b4 i⟩
theorem rws.kept {k k' : jM} {a q o r K : Nat} (h1 : rws k q o r K) (ho : k.tag q = o) (F : Fr k k' (fun b => b = a)) (ha : k.tag a = 4) (ht : (o ≠ 0 ∧ o ≠ 4) ∧ r ≠ 0 ∧ r ≠ 4) : rws k' q o r K := fun s hs => by
  obtain ⟨b1, b2, b3, b4⟩ := h1 s hs
  exact ⟨by rw [F.R ho ht.1.1 (fun z => by rw [z, ha] at ho; omega)]; exact b1, F.tag b2 ht.2.1, by rw [F.len (by omega)]; exact b3, fun i => by rw [F.I b2 ht.2.1 (fun z => by rw [z, ha] at b2; omega)]; exact b4 i⟩
def siQ (h : jM) (a : Nat) : Option Value → jM → Prop := fun r h' => r = none ∧ ∃ σ, srOk h' σ ∧ σ 0 = a ∧ Fr h h' (fun b => b = a) ∧ Nt h h' [24, 25, 26, 27, 28, 29, 30, 31, 32]
/-- what stands after each step -/
def st3 (h k : jM) (a q1 q2 q3 : Nat) : Prop := k.tag a = 4 ∧ ar k a 0 q1 24 6 ∧ ar k a 1 q2 25 6 ∧ ar k a 2 q3 26 6 ∧ Fr h k (fun b => b = a) ∧ Nt h k [24, 25, 26, 27, 28, 29, 30, 31, 32]
def oa (k : jM) (a f q o r K : Nat) : Prop := k.R 4 a f = some q ∧ k.tag q = o ∧ k.len q = 11 ∧ rws k q o r K
theorem oa.kept {k k' : jM} {a f q o r K : Nat} (h1 : oa k a f q o r K) (F : Fr k k' (fun b => b = a)) (ha : k.tag a = 4) (ht : (o ≠ 0 ∧ o ≠ 4) ∧ r ≠ 0 ∧ r ≠ 4) (hr : k'.R 4 a f = k.R 4 a f) : oa k' a f q o r K :=
  ⟨hr.trans h1.1, F.tag h1.2.1 ht.1.1, by rw [F.len (by rw [h1.2.1]; exact ht.1.1)]; exact h1.2.2.1, h1.2.2.2.kept h1.2.1 F ha ht⟩
theorem cz_i5 {k : jM} {a q1 q2 q3 q4 q5 : Nat} (S : st3 h k a q1 q2 q3) (O4 : oa k a 3 q4 31 27 126) (O5 : oa k a 4 q5 32 28 147) : ∀ lv, hasL lv [(0, .ref a)] → J γ mX0_init 1 30 3100 27 3050 k 53 lv [] (siQ h a) X0 := by
  intro lv hlv
  obtain ⟨u5, E1, E2, E3, F5, N5⟩ := S
  refine J.lc hlv ?_
  first | refine J.aload_n (pc' := 54) rfl rfl rfl ?_ | refine J.aload_nN (pc' := 54) rfl rfl rfl ?_
  refine J.bipush (pc' := 56) rfl rfl (by decide) ?_
  refine J.newaL (pc' := 58) (t := 29) (N := 11) (c' := 28) (s' := 3061) rfl (by decide) rfl (by decide) (List.mem_of_getElem? (i := 147) (by decide +kernel)) (by decide) (by decide) (by decide) rfl (by decide) (by decide) (fun q6 q6f q6b => ?_)
  obtain ⟨u6, A6, f6, n6, o6⟩ := si_new (n := 11) (f := 5) q6f u5 (show (29 : Nat) ≠ 0 by decide)
  have x6 : (k.nw q6 29 11).tag a = 4 := u6
  first | refine J.putR (pc' := 61) rfl fl_X0_29 rfl (Or.inr ⟨rfl, rfl, rfl⟩) (by first | assumption | (simp only [jM.tag_sI, jM.tag_sL, jM.tag_sR, jM.tag_fI, jM.tag_fL, jM.tag_fR]; assumption) | (simp [jM.tag_nw, jM.tag_sI, jM.tag_sL, jM.tag_sR, jM.tag_fI, jM.tag_fL, jM.tag_fR, *]; done)) (Or.inl rfl) rfl ?_ | refine J.putRN (pc' := 61) rfl fl_X0_29 rfl (Or.inr ⟨rfl, rfl, rfl⟩) (by first | assumption | (simp only [jM.tag_sI, jM.tag_sL, jM.tag_sR, jM.tag_fI, jM.tag_fL, jM.tag_fR]; assumption) | (simp [jM.tag_nw, jM.tag_sI, jM.tag_sL, jM.tag_sR, jM.tag_fI, jM.tag_fL, jM.tag_fR, *]; done)) (Or.inl rfl) rfl ?_
  have H1 := E1.kept f6 u5 (by decide) (o6 0 (by decide))
  have H2 := E2.kept f6 u5 (by decide) (o6 1 (by decide))
  have H3 := E3.kept f6 u5 (by decide) (o6 2 (by decide))
  have H4 := O4.kept f6 u5 (by decide) (o6 3 (by decide))
  have H5 := O5.kept f6 u5 (by decide) (o6 4 (by decide))
  have F6 := F5.trans f6 (W := fun b => b = a) (fun _ _ z => z.elim id id)
  have N6 : Nt h ((k.nw q6 29 11).sR 4 a 5 (some q6)) [24, 25, 26, 27, 28, 29, 30, 31, 32] := N5.trans n6 f6 (by simp)
  generalize (k.nw q6 29 11).sR 4 a 5 (some q6) = k6 at u6 A6 H1 H2 H3 H4 H5 F6 N6 ⊢
  clear f6 n6 o6 x6
  first | refine J.aload_n (pc' := 62) rfl rfl rfl ?_ | refine J.aload_nN (pc' := 62) rfl rfl rfl ?_
  refine J.bipush (pc' := 64) rfl rfl (by decide) ?_
  refine J.newaL (pc' := 66) (t := 30) (N := 11) (c' := 29) (s' := 3072) rfl (by decide) rfl (by decide) (List.mem_of_getElem? (i := 147) (by decide +kernel)) (by decide) (by decide) (by decide) rfl (by decide) (by decide) (fun q7 q7f q7b => ?_)
  obtain ⟨u7, A7, f7, n7, o7⟩ := si_new (n := 11) (f := 6) q7f u6 (show (30 : Nat) ≠ 0 by decide)
  have x7 : (k6.nw q7 30 11).tag a = 4 := u7
  first | refine J.putR (pc' := 69) rfl fl_X0_32 rfl (Or.inr ⟨rfl, rfl, rfl⟩) (by first | assumption | (simp only [jM.tag_sI, jM.tag_sL, jM.tag_sR, jM.tag_fI, jM.tag_fL, jM.tag_fR]; assumption) | (simp [jM.tag_nw, jM.tag_sI, jM.tag_sL, jM.tag_sR, jM.tag_fI, jM.tag_fL, jM.tag_fR, *]; done)) (Or.inl rfl) rfl ?_ | refine J.putRN (pc' := 69) rfl fl_X0_32 rfl (Or.inr ⟨rfl, rfl, rfl⟩) (by first | assumption | (simp only [jM.tag_sI, jM.tag_sL, jM.tag_sR, jM.tag_fI, jM.tag_fL, jM.tag_fR]; assumption) | (simp [jM.tag_nw, jM.tag_sI, jM.tag_sL, jM.tag_sR, jM.tag_fI, jM.tag_fL, jM.tag_fR, *]; done)) (Or.inl rfl) rfl ?_
  have I1 := H1.kept f7 u6 (by decide) (o7 0 (by decide))
  have I2 := H2.kept f7 u6 (by decide) (o7 1 (by decide))
  have I3 := H3.kept f7 u6 (by decide) (o7 2 (by decide))
  have I4 := H4.kept f7 u6 (by decide) (o7 3 (by decide))
  have I5 := H5.kept f7 u6 (by decide) (o7 4 (by decide))
  have I6 := A6.kept f7 u6 (by decide) (o7 5 (by decide))
  have F7 := F6.trans f7 (W := fun b => b = a) (fun _ _ z => z.elim id id)
  have N7 : Nt h ((k6.nw q7 30 11).sR 4 a 6 (some q7)) [24, 25, 26, 27, 28, 29, 30, 31, 32] := N6.trans n7 f7 (by simp)
  generalize (k6.nw q7 30 11).sR 4 a 6 (some q7) = k7 at u7 A7 I1 I2 I3 I4 I5 I6 F7 N7 ⊢
  refine J.vret rfl rfl (by first | omega | (exact R.r _ _) | (simp only [jM.len_sI, jM.len_sL, jM.len_sR, jM.len_fI, jM.len_fL, jM.len_fR]; omega) | (simp [jM.len_nw, jM.len_sI, jM.len_sL, jM.len_sR, jM.len_fI, jM.len_fL, jM.len_fR, *]; omega)) (by first | omega | (exact R.r _ _) | (simp only [jM.len_sI, jM.len_sL, jM.len_sR, jM.len_fI, jM.len_fL, jM.len_fR]; omega) | (simp [jM.len_nw, jM.len_sI, jM.len_sL, jM.len_sR, jM.len_fI, jM.len_fL, jM.len_fR, *]; omega)) ?_
  refine ⟨rfl, fun i => if i = 0 then a else if i = 24 then q1 else if i = 25 then q2 else if i = 26 then q3 else if i = 31 then q4 else if i = 32 then q5 else if i = 29 then q6 else q7, ⟨⟨u7, ⟨I1.1, I1.2.1, I1.2.2.1⟩, ⟨I2.1, I2.2.1, I2.2.2.1⟩, ⟨I3.1, I3.2.1, I3.2.2.1⟩, ⟨I4.1, I4.2.1, I4.2.2.1⟩, ⟨I5.1, I5.2.1, I5.2.2.1⟩, ⟨I6.1, I6.2.1, I6.2.2.1⟩, ⟨A7.1, A7.2.1, A7.2.2.1⟩, fun s hs => ⟨(I4.2.2.2 s hs).1, (I4.2.2.2 s hs).2.1, (I4.2.2.2 s hs).2.2.1⟩, fun s hs => ⟨(I5.2.2.2 s hs).1, (I5.2.2.2 s hs).2.1, (I5.2.2.2 s hs).2.2.1⟩⟩, fun s hs => ⟨A7.2.2.2 _, (I5.2.2.2 s hs).2.2.2 _, fun g _ _ => (I4.2.2.2 s hs).2.2.2 _⟩⟩, rfl, F7, N7⟩
theorem cz_i4 {k : jM} {a q1 q2 q3 q4 : Nat} (S : st3 h k a q1 q2 q3) (O4 : oa k a 3 q4 31 27 126) : ∀ lv, hasL lv [(0, .ref a)] → J γ mX0_init 1 30 3100 15 1420 k 40 lv [] (siQ h a) X0 := by
  intro lv hlv
  obtain ⟨u4, D1, D2, D3, F4, N4⟩ := S
  refine J.lc hlv ?_
  first | refine J.aload_n (pc' := 41) rfl rfl rfl ?_ | refine J.aload_nN (pc' := 41) rfl rfl rfl ?_
  refine J.bipush (pc' := 43) rfl rfl (by decide) ?_
  refine J.sipush (pc' := 46) rfl rfl (by decide) ?_
  refine J.mnaL (pc' := 50) (t := 32) (u := 28) (N := 11) (K := 147) (c' := 27) (s' := 3050) rfl rfl (by decide) rfl (by decide) (List.mem_of_getElem? (i := 154) (by decide +kernel)) (by decide) (by decide) (by decide) (by decide) rfl (by decide) (by decide) (fun q5 q5f q5b => ?_)
  obtain ⟨u5, A5, G5, f5, n5, o5⟩ := si_mna (t := 32) (u := 28) (K := 147) (f := 4) q5f u4 (by decide) (by decide)
  have x5 : (k.mna q5 32 28 11 147).tag a = 4 := u5
  first | refine J.putR (pc' := 53) rfl fl_X0_26 rfl (Or.inr ⟨rfl, rfl, rfl⟩) (by first | assumption | (simp only [jM.tag_sI, jM.tag_sL, jM.tag_sR, jM.tag_fI, jM.tag_fL, jM.tag_fR]; assumption) | (simp [jM.tag_nw, jM.tag_sI, jM.tag_sL, jM.tag_sR, jM.tag_fI, jM.tag_fL, jM.tag_fR, *]; done)) (Or.inl rfl) rfl ?_ | refine J.putRN (pc' := 53) rfl fl_X0_26 rfl (Or.inr ⟨rfl, rfl, rfl⟩) (by first | assumption | (simp only [jM.tag_sI, jM.tag_sL, jM.tag_sR, jM.tag_fI, jM.tag_fL, jM.tag_fR]; assumption) | (simp [jM.tag_nw, jM.tag_sI, jM.tag_sL, jM.tag_sR, jM.tag_fI, jM.tag_fL, jM.tag_fR, *]; done)) (Or.inl rfl) rfl ?_
  exact cz_i5 ⟨u5, D1.kept f5 u4 (by decide) (o5 0 (by decide)), D2.kept f5 u4 (by decide) (o5 1 (by decide)), D3.kept f5 u4 (by decide) (o5 2 (by decide)), F4.trans f5 (fun _ _ z => z.elim id id), N4.trans n5 f5 (by simp)⟩ (O4.kept f5 u4 (by decide) (o5 3 (by decide))) ⟨A5.1, A5.2.1, A5.2.2, G5 (by decide)⟩ _ ⟨rfl, trivial⟩
theorem cz_i3 {k : jM} {a q1 q2 q3 : Nat} (S : st3 h k a q1 q2 q3) : ∀ lv, hasL lv [(0, .ref a)] → J γ mX0_init 1 30 3100 3 18 k 28 lv [] (siQ h a) X0 := by
  intro lv hlv
  obtain ⟨u4, D1, D2, D3, F4, N4⟩ := S
  refine J.lc hlv ?_
  first | refine J.aload_n (pc' := 29) rfl rfl rfl ?_ | refine J.aload_nN (pc' := 29) rfl rfl rfl ?_
  refine J.bipush (pc' := 31) rfl rfl (by decide) ?_
  refine J.bipush (pc' := 33) rfl rfl (by decide) ?_
  refine J.mnaL (pc' := 37) (t := 31) (u := 27) (N := 11) (K := 126) (c' := 15) (s' := 1420) rfl rfl (by decide) rfl (by decide) (List.mem_of_getElem? (i := 154) (by decide +kernel)) (by decide) (by decide) (by decide) (by decide) rfl (by decide) (by decide) (fun q5 q5f q5b => ?_)
  obtain ⟨u5, A5, G5, f5, n5, o5⟩ := si_mna (t := 31) (u := 27) (K := 126) (f := 3) q5f u4 (by decide) (by decide)
  have x5 : (k.mna q5 31 27 11 126).tag a = 4 := u5
  first | refine J.putR (pc' := 40) rfl fl_X0_23 rfl (Or.inr ⟨rfl, rfl, rfl⟩) (by first | assumption | (simp only [jM.tag_sI, jM.tag_sL, jM.tag_sR, jM.tag_fI, jM.tag_fL, jM.tag_fR]; assumption) | (simp [jM.tag_nw, jM.tag_sI, jM.tag_sL, jM.tag_sR, jM.tag_fI, jM.tag_fL, jM.tag_fR, *]; done)) (Or.inl rfl) rfl ?_ | refine J.putRN (pc' := 40) rfl fl_X0_23 rfl (Or.inr ⟨rfl, rfl, rfl⟩) (by first | assumption | (simp only [jM.tag_sI, jM.tag_sL, jM.tag_sR, jM.tag_fI, jM.tag_fL, jM.tag_fR]; assumption) | (simp [jM.tag_nw, jM.tag_sI, jM.tag_sL, jM.tag_sR, jM.tag_fI, jM.tag_fL, jM.tag_fR, *]; done)) (Or.inl rfl) rfl ?_
  exact cz_i4 ⟨u5, D1.kept f5 u4 (by decide) (o5 0 (by decide)), D2.kept f5 u4 (by decide) (o5 1 (by decide)), D3.kept f5 u4 (by decide) (o5 2 (by decide)), F4.trans f5 (fun _ _ z => z.elim id id), N4.trans n5 f5 (by simp)⟩ ⟨A5.1, A5.2.1, A5.2.2, G5 (by decide)⟩ _ ⟨rfl, trivial⟩
theorem cz_i2 {k : jM} {a q1 q2 : Nat} (u2 : k.tag a = 4) (B1 : ar k a 0 q1 24 6) (A2 : ar k a 1 q2 25 6) (F2 : Fr h k (fun b => b = a)) (N2 : Nt h k [24, 25, 26, 27, 28, 29, 30, 31, 32]) : ∀ lv, hasL lv [(0, .ref a)] → J γ mX0_init 1 30 3100 2 12 k 20 lv [] (siQ h a) X0 := by
  intro lv hlv
  refine J.lc hlv ?_
  first | refine J.aload_n (pc' := 21) rfl rfl rfl ?_ | refine J.aload_nN (pc' := 21) rfl rfl rfl ?_
  refine J.bipush (pc' := 23) rfl rfl (by decide) ?_
  refine J.newaL (pc' := 25) (t := 26) (N := 6) (c' := 3) (s' := 18) rfl (by decide) rfl (by decide) (List.mem_of_getElem? (i := 147) (by decide +kernel)) (by decide) (by decide) (by decide) rfl (by decide) (by decide) (fun q3 q3f q3b => ?_)
  obtain ⟨u3, A3, f3, n3, o3⟩ := si_new (n := 6) (f := 2) q3f u2 (show (26 : Nat) ≠ 0 by decide)
  have x3 : (k.nw q3 26 6).tag a = 4 := u3
  first | refine J.putR (pc' := 28) rfl fl_X0_18 rfl (Or.inr ⟨rfl, rfl, rfl⟩) (by first | assumption | (simp only [jM.tag_sI, jM.tag_sL, jM.tag_sR, jM.tag_fI, jM.tag_fL, jM.tag_fR]; assumption) | (simp [jM.tag_nw, jM.tag_sI, jM.tag_sL, jM.tag_sR, jM.tag_fI, jM.tag_fL, jM.tag_fR, *]; done)) (Or.inl rfl) rfl ?_ | refine J.putRN (pc' := 28) rfl fl_X0_18 rfl (Or.inr ⟨rfl, rfl, rfl⟩) (by first | assumption | (simp only [jM.tag_sI, jM.tag_sL, jM.tag_sR, jM.tag_fI, jM.tag_fL, jM.tag_fR]; assumption) | (simp [jM.tag_nw, jM.tag_sI, jM.tag_sL, jM.tag_sR, jM.tag_fI, jM.tag_fL, jM.tag_fR, *]; done)) (Or.inl rfl) rfl ?_
  exact cz_i3 ⟨u3, B1.kept f3 u2 (by decide) (o3 0 (by decide)), A2.kept f3 u2 (by decide) (o3 1 (by decide)), A3, F2.trans f3 (fun _ _ z => z.elim id id), N2.trans n3 f3 (by simp)⟩ _ ⟨rfl, trivial⟩
theorem cz_i1 {k : jM} {a q1 : Nat} (u1 : k.tag a = 4) (A1 : ar k a 0 q1 24 6) (F1 : Fr h k (fun b => b = a)) (N1 : Nt h k [24, 25, 26, 27, 28, 29, 30, 31, 32]) : ∀ lv, hasL lv [(0, .ref a)] → J γ mX0_init 1 30 3100 1 6 k 12 lv [] (siQ h a) X0 := by
  intro lv hlv
  refine J.lc hlv ?_
  first | refine J.aload_n (pc' := 13) rfl rfl rfl ?_ | refine J.aload_nN (pc' := 13) rfl rfl rfl ?_
  refine J.bipush (pc' := 15) rfl rfl (by decide) ?_
  refine J.newaL (pc' := 17) (t := 25) (N := 6) (c' := 2) (s' := 12) rfl (by decide) rfl (by decide) (List.mem_of_getElem? (i := 147) (by decide +kernel)) (by decide) (by decide) (by decide) rfl (by decide) (by decide) (fun q2 q2f q2b => ?_)
  obtain ⟨u2, A2, f2, n2, o2⟩ := si_new (n := 6) (f := 1) q2f u1 (show (25 : Nat) ≠ 0 by decide)
  have x2 : (k.nw q2 25 6).tag a = 4 := u2
  first | refine J.putR (pc' := 20) rfl fl_X0_15 rfl (Or.inr ⟨rfl, rfl, rfl⟩) (by first | assumption | (simp only [jM.tag_sI, jM.tag_sL, jM.tag_sR, jM.tag_fI, jM.tag_fL, jM.tag_fR]; assumption) | (simp [jM.tag_nw, jM.tag_sI, jM.tag_sL, jM.tag_sR, jM.tag_fI, jM.tag_fL, jM.tag_fR, *]; done)) (Or.inl rfl) rfl ?_ | refine J.putRN (pc' := 20) rfl fl_X0_15 rfl (Or.inr ⟨rfl, rfl, rfl⟩) (by first | assumption | (simp only [jM.tag_sI, jM.tag_sL, jM.tag_sR, jM.tag_fI, jM.tag_fL, jM.tag_fR]; assumption) | (simp [jM.tag_nw, jM.tag_sI, jM.tag_sL, jM.tag_sR, jM.tag_fI, jM.tag_fL, jM.tag_fR, *]; done)) (Or.inl rfl) rfl ?_
  exact cz_i2 u2 (A1.kept f2 u1 (by decide) (o2 0 (by decide))) A2 (F1.trans f2 (fun _ _ z => z.elim id id)) (N1.trans n2 f2 (by simp)) _ ⟨rfl, trivial⟩
theorem cz_i0 {a : Nat} (ha : h.tag a = 4) : ∀ lv, hasL lv [(0, .ref a)] → J γ mX0_init 1 30 3100 0 0 h 4 lv [] (siQ h a) X0 := by
  intro lv hlv
  refine J.lc hlv ?_
  first | refine J.aload_n (pc' := 5) rfl rfl rfl ?_ | refine J.aload_nN (pc' := 5) rfl rfl rfl ?_
  refine J.bipush (pc' := 7) rfl rfl (by decide) ?_
  refine J.newaL (pc' := 9) (t := 24) (N := 6) (c' := 1) (s' := 6) rfl (by decide) rfl (by decide) (List.mem_of_getElem? (i := 147) (by decide +kernel)) (by decide) (by decide) (by decide) rfl (by decide) (by decide) (fun q1 q1f q1b => ?_)
  obtain ⟨u1, A1, f1, n1, o1⟩ := si_new (n := 6) (f := 0) q1f ha (show (24 : Nat) ≠ 0 by decide)
  have x1 : (h.nw q1 24 6).tag a = 4 := u1
  first | refine J.putR (pc' := 12) rfl fl_X0_9 rfl (Or.inr ⟨rfl, rfl, rfl⟩) (by first | assumption | (simp only [jM.tag_sI, jM.tag_sL, jM.tag_sR, jM.tag_fI, jM.tag_fL, jM.tag_fR]; assumption) | (simp [jM.tag_nw, jM.tag_sI, jM.tag_sL, jM.tag_sR, jM.tag_fI, jM.tag_fL, jM.tag_fR, *]; done)) (Or.inl rfl) rfl ?_ | refine J.putRN (pc' := 12) rfl fl_X0_9 rfl (Or.inr ⟨rfl, rfl, rfl⟩) (by first | assumption | (simp only [jM.tag_sI, jM.tag_sL, jM.tag_sR, jM.tag_fI, jM.tag_fL, jM.tag_fR]; assumption) | (simp [jM.tag_nw, jM.tag_sI, jM.tag_sL, jM.tag_sR, jM.tag_fI, jM.tag_fL, jM.tag_fR, *]; done)) (Or.inl rfl) rfl ?_
  exact cz_i1 u1 A1 f1 (n1.sub (by simp)) _ ⟨rfl, trivial⟩
theorem cz_init {a : Nat} (ha : h.tag a = 4) : CT γ mX0_init 1 30 3100 [.ref a] h (siQ h a) X0 := by
  refine CT.of MX0_init (Nat.le_of_ble_eq_true rfl) ?_
  show J γ mX0_init 1 30 3100 0 0 h 0 [(0, .ref a)] [] _ _
  first | refine J.aload_n (pc' := 1) rfl rfl rfl ?_ | refine J.aload_nN (pc' := 1) rfl rfl rfl ?_
  refine J.objI (pc' := 4) rfl (List.mem_of_getElem? (i := 153) (by decide +kernel)) jObj_i jObj_c (by omega) (Nat.le_of_ble_eq_true rfl) rfl ?_
  exact cz_i0 ha _ ⟨rfl, trivial⟩
end SI

