section GT
variable {γ : jG} {h : jM}
/-- a new array that knows its owner -/
theorem nwB {k : jM} {q t n a : Nat} (qf : k.tag q = 0) (ht : t ≠ 0) : Fr k ((k.nw q t n).sR t q 0 (some a)) (fun _ => False) ∧ ((k.nw q t n).sR t q 0 (some a)).tag q = t ∧ ((k.nw q t n).sR t q 0 (some a)).len q = n ∧ ((k.nw q t n).sR t q 0 (some a)).R t q 0 = some a ∧ Nt k ((k.nw q t n).sR t q 0 (some a)) [t] := by
  refine ⟨Fr.stR (Fr.stN Fr.rf qf ht) (Or.inr qf) ht, ?_, ?_, ?_, ?_⟩
  · rw [jM.tag_sR, jM.tag_nw, if_pos rfl]
  · rw [jM.len_sR, jM.len_nw, if_pos rfl]
  · rw [jM.R_sR, if_pos ⟨rfl, rfl, rfl⟩]
  · exact (Nt.stN (q := q) (t := t) (n := n) Nt.rf (by simp)).st rfl
/-- a new list -/
theorem nwL {k : jM} {q n : Nat} (qf : k.tag q = 0) (hK : k.tag (γ.K 0) = 34 ∧ k.len (γ.K 0) = 0) : isL γ (((k.nw q 3 n).sI 3 q 0 0).sR 3 q 1 (some (γ.K 0))) q (γ.K 0) [] ∧ Fr k (((k.nw q 3 n).sI 3 q 0 0).sR 3 q 1 (some (γ.K 0))) (fun _ => False) ∧ Nt k (((k.nw q 3 n).sI 3 q 0 0).sR 3 q 1 (some (γ.K 0))) [3] := by
  have hne : ¬ γ.K 0 = q := fun e => by rw [e, qf] at hK; omega
  have l0 : (((k.nw q 3 n).sI 3 q 0 0).sR 3 q 1 (some (γ.K 0))).len (γ.K 0) = 0 := by rw [jM.len_sR, jM.len_sI, jM.len_nw, if_neg hne]; exact hK.2
  refine ⟨⟨?_, ?_, ?_, ?_, ?_, ?_, ?_, ?_, ?_⟩, ?_, ?_⟩
  · rw [jM.tag_sR, jM.tag_sI, jM.tag_nw, if_pos rfl]
  · rw [jM.R_sR, if_pos ⟨rfl, rfl, rfl⟩]
  · rw [jM.tag_sR, jM.tag_sI, jM.tag_nw, if_neg hne]; exact hK.1
  · rw [jM.I_sR, jM.I_sI, if_neg (by omega), jM.I_nw, if_pos ⟨rfl, rfl⟩]; rfl
  · exact Nat.zero_le _
  · rw [l0]; omega
  · rw [l0]; exact ⟨fun _ => rfl, fun _ => rfl⟩
  · intro i hi; exact absurd hi (Nat.not_lt_zero _)
  · intro z; exact absurd l0 z
  · refine Fr.stR (Fr.stI (Fr.stN Fr.rf qf) ?_) ?_ <;> exact Or.inr qf
  · exact (Nt.stN (q := q) (t := 3) (n := n) Nt.rf (by simp)).st rfl
def grQ (h : jM) (a : Nat) : Option Value → jM → Prop := fun r h' => r = none ∧ ∃ p1 p2, isG h' a p1 p2 (fun _ => 10001) (fun _ => -1) 0 ∧ h.tag p1 = 0 ∧ h.tag p2 = 0 ∧ Fr h h' (fun b => b = a) ∧ Nt h h' [22, 23]
theorem cx_Grade2 {a q q2 : Nat} {k : jM} (qf : h.tag q = 0) (q20 : h.tag q2 = 0) (b1 : k.tag a = 7) (b2 : k.R 7 a 0 = some q) (b3 : k.tag q = 22) (b4 : k.len q = 5) (b5 : k.R 22 q 0 = some a) (b7 : k.tag q2 = 23) (b8 : k.len q2 = 5) (b9 : k.R 23 q2 0 = some a) (F : Fr h k (fun b => b = a)) (N : Nt h k [22, 23]) : J γ mX3_init 1 2 10 2 10 k 15 [(0, .ref a)] [.ref q2, .ref a] (grQ h a) X0 := by
  first | refine J.putR (pc' := 18) rfl fl_X3_15 rfl (Or.inr ⟨rfl, rfl, rfl⟩) (by first | assumption | (simp only [jM.tag_sI, jM.tag_sL, jM.tag_sR, jM.tag_fI, jM.tag_fL, jM.tag_fR]; assumption) | (simp [jM.tag_nw, jM.tag_sI, jM.tag_sL, jM.tag_sR, jM.tag_fI, jM.tag_fL, jM.tag_fR, *]; done)) (Or.inl rfl) rfl ?_ | refine J.putRN (pc' := 18) rfl fl_X3_15 rfl (Or.inr ⟨rfl, rfl, rfl⟩) (by first | assumption | (simp only [jM.tag_sI, jM.tag_sL, jM.tag_sR, jM.tag_fI, jM.tag_fL, jM.tag_fR]; assumption) | (simp [jM.tag_nw, jM.tag_sI, jM.tag_sL, jM.tag_sR, jM.tag_fI, jM.tag_fL, jM.tag_fR, *]; done)) (Or.inl rfl) rfl ?_
  first | refine J.aload_n (pc' := 19) rfl rfl rfl ?_ | refine J.aload_nN (pc' := 19) rfl rfl rfl ?_
  refine J.iconst (pc' := 20) rfl rfl ?_
  refine J.putI (pc' := 23) rfl fl_X3_18 rfl (Or.inl rfl) (by first | assumption | (simp only [jM.tag_sI, jM.tag_sL, jM.tag_sR, jM.tag_fI, jM.tag_fL, jM.tag_fR]; assumption) | (simp [jM.tag_nw, jM.tag_sI, jM.tag_sL, jM.tag_sR, jM.tag_fI, jM.tag_fL, jM.tag_fR, *]; done)) (Or.inl rfl) rfl ?_
  refine J.iconst (pc' := 24) rfl rfl ?_
  refine J.istore_n (pc' := 25) rfl rfl (by decide) ?_
  unfold grQ
  refine cx_GradeL qf q20 5 0 (by omega) ((k.sR 7 a 1 (some q2)).sI 7 a 2 0) b1 ?_ b3 b4 ?_ ?_ b7 b8 ?_ ?_ (fun j hj => by omega) ?_ (N.st rfl) _ ⟨rfl, rfl, trivial⟩
  · rw [jM.R_sI, jM.R_sR, if_neg (by omega)]; exact b2
  · rw [jM.R_sI, jM.R_sR, if_neg (by omega)]; exact b5
  · rw [jM.R_sI, jM.R_sR, if_pos ⟨rfl, rfl, rfl⟩]
  · rw [jM.R_sI, jM.R_sR, if_neg (by omega)]; exact b9
  · rw [jM.I_sI, if_pos ⟨rfl, rfl, rfl⟩]
  · refine Fr.stI (Fr.stR F ?_) ?_ <;> exact Or.inl rfl
theorem cx_Grade1 {a q : Nat} {k : jM} (qf : h.tag q = 0) (b1 : k.tag a = 7) (b3 : k.tag q = 22) (b4 : k.len q = 5) (b5 : k.R 22 q 0 = some a) (F : Fr h k (fun b => b = a)) (N : Nt h k [22, 23]) : J γ mX3_init 1 2 10 1 5 k 8 [(0, .ref a)] [.ref q, .ref a] (grQ h a) X0 := by
  first | refine J.putR (pc' := 11) rfl fl_X3_9 rfl (Or.inr ⟨rfl, rfl, rfl⟩) (by first | assumption | (simp only [jM.tag_sI, jM.tag_sL, jM.tag_sR, jM.tag_fI, jM.tag_fL, jM.tag_fR]; assumption) | (simp [jM.tag_nw, jM.tag_sI, jM.tag_sL, jM.tag_sR, jM.tag_fI, jM.tag_fL, jM.tag_fR, *]; done)) (Or.inl rfl) rfl ?_ | refine J.putRN (pc' := 11) rfl fl_X3_9 rfl (Or.inr ⟨rfl, rfl, rfl⟩) (by first | assumption | (simp only [jM.tag_sI, jM.tag_sL, jM.tag_sR, jM.tag_fI, jM.tag_fL, jM.tag_fR]; assumption) | (simp [jM.tag_nw, jM.tag_sI, jM.tag_sL, jM.tag_sR, jM.tag_fI, jM.tag_fL, jM.tag_fR, *]; done)) (Or.inl rfl) rfl ?_
  have F1 : Fr h (k.sR 7 a 0 (some q)) (fun b => b = a) := F.stR (Or.inl rfl)
  have N1 : Nt h (k.sR 7 a 0 (some q)) [22, 23] := N.st rfl
  have c2 : (k.sR 7 a 0 (some q)).R 7 a 0 = some q := by rw [jM.R_sR, if_pos ⟨rfl, rfl, rfl⟩]
  have c5 : (k.sR 7 a 0 (some q)).R 22 q 0 = some a := by rw [jM.R_sR, if_neg (by omega)]; exact b5
  have c1 : (k.sR 7 a 0 (some q)).tag a = 7 := b1
  have c3 : (k.sR 7 a 0 (some q)).tag q = 22 := b3
  have c4 : (k.sR 7 a 0 (some q)).len q = 5 := b4
  generalize k.sR 7 a 0 (some q) = k1 at F1 N1 c1 c2 c3 c4 c5 ⊢
  first | refine J.aload_n (pc' := 12) rfl rfl rfl ?_ | refine J.aload_nN (pc' := 12) rfl rfl rfl ?_
  refine J.iconst (pc' := 13) rfl rfl ?_
  refine J.newa (pc' := 15) (t := 23) rfl (by decide) rfl (by decide) (List.mem_of_getElem? (i := 147) (by decide +kernel)) (by first | omega | (exact R.r _ _) | (simp only [jM.len_sI, jM.len_sL, jM.len_sR, jM.len_fI, jM.len_fL, jM.len_fR]; omega) | (simp [jM.len_nw, jM.len_sI, jM.len_sL, jM.len_sR, jM.len_fI, jM.len_fL, jM.len_fR, *]; omega)) (by first | omega | (exact R.r _ _) | (simp only [jM.len_sI, jM.len_sL, jM.len_sR, jM.len_fI, jM.len_fL, jM.len_fR]; omega) | (simp [jM.len_nw, jM.len_sI, jM.len_sL, jM.len_sR, jM.len_fI, jM.len_fL, jM.len_fR, *]; omega)) (by first | omega | (exact R.r _ _) | (simp only [jM.len_sI, jM.len_sL, jM.len_sR, jM.len_fI, jM.len_fL, jM.len_fR]; omega) | (simp [jM.len_nw, jM.len_sI, jM.len_sL, jM.len_sR, jM.len_fI, jM.len_fL, jM.len_fR, *]; omega)) (by first | omega | (exact R.r _ _) | (simp only [jM.len_sI, jM.len_sL, jM.len_sR, jM.len_fI, jM.len_fL, jM.len_fR]; omega) | (simp [jM.len_nw, jM.len_sI, jM.len_sL, jM.len_sR, jM.len_fI, jM.len_fL, jM.len_fR, *]; omega)) rfl (fun q2 q2f q2b => ?_)
  refine J.gh (t := 23) (a := q2) (k := 0) (v := some a) (by decide) (by rw [jM.tag_nw, if_pos rfl]) ?_
  obtain ⟨f1, f2, f3, f4, f5⟩ := nwB (a := a) (n := Int.toNat 5) q2f (show (23 : Nat) ≠ 0 by decide)
  exact cx_Grade2 qf (F1.free q2f) (f1.tag c1 (by omega)) (by rw [f1.R c1 (by omega) id]; exact c2) (f1.tag c3 (by omega)) (by rw [f1.len (by omega)]; exact c4) (by rw [f1.R c3 (by omega) id]; exact c5) f2 f3 f4 (F1.trans f1 (fun b _ z => z.elim id False.elim)) (N1.trans f5 f1 (by simp))
theorem cx_Grade {a : Nat} (ha : h.tag a = 7) : CT γ mX3_init 1 2 10 [.ref a] h (grQ h a) X0 := by
  refine CT.of MX3_init (Nat.le_of_ble_eq_true rfl) ?_
  show J γ mX3_init 1 2 10 0 0 h 0 [(0, .ref a)] [] _ _
  first | refine J.aload_n (pc' := 1) rfl rfl rfl ?_ | refine J.aload_nN (pc' := 1) rfl rfl rfl ?_
  refine J.objI (pc' := 4) rfl (List.mem_of_getElem? (i := 921) (by decide +kernel)) jObj_i jObj_c (by omega) (Nat.le_of_ble_eq_true rfl) rfl ?_
  first | refine J.aload_n (pc' := 5) rfl rfl rfl ?_ | refine J.aload_nN (pc' := 5) rfl rfl rfl ?_
  refine J.iconst (pc' := 6) rfl rfl ?_
  refine J.newa (pc' := 8) (t := 22) rfl (by decide) rfl (by decide) (List.mem_of_getElem? (i := 147) (by decide +kernel)) (by first | omega | (exact R.r _ _) | (simp only [jM.len_sI, jM.len_sL, jM.len_sR, jM.len_fI, jM.len_fL, jM.len_fR]; omega) | (simp [jM.len_nw, jM.len_sI, jM.len_sL, jM.len_sR, jM.len_fI, jM.len_fL, jM.len_fR, *]; omega)) (by first | omega | (exact R.r _ _) | (simp only [jM.len_sI, jM.len_sL, jM.len_sR, jM.len_fI, jM.len_fL, jM.len_fR]; omega) | (simp [jM.len_nw, jM.len_sI, jM.len_sL, jM.len_sR, jM.len_fI, jM.len_fL, jM.len_fR, *]; omega)) (by first | omega | (exact R.r _ _) | (simp only [jM.len_sI, jM.len_sL, jM.len_sR, jM.len_fI, jM.len_fL, jM.len_fR]; omega) | (simp [jM.len_nw, jM.len_sI, jM.len_sL, jM.len_sR, jM.len_fI, jM.len_fL, jM.len_fR, *]; omega)) (by first | omega | (exact R.r _ _) | (simp only [jM.len_sI, jM.len_sL, jM.len_sR, jM.len_fI, jM.len_fL, jM.len_fR]; omega) | (simp [jM.len_nw, jM.len_sI, jM.len_sL, jM.len_sR, jM.len_fI, jM.len_fL, jM.len_fR, *]; omega)) rfl (fun q qf qb => ?_)
  refine J.gh (t := 22) (a := q) (k := 0) (v := some a) (by decide) (by rw [jM.tag_nw, if_pos rfl]) ?_
  obtain ⟨f1, f2, f3, f4, f5⟩ := nwB (a := a) (n := Int.toNat 5) qf (show (22 : Nat) ≠ 0 by decide)
  exact cx_Grade1 qf (f1.tag ha (by omega)) f2 f3 f4 (f1.mono (fun b _ z => z.elim)) (fun b hb => (f5 b hb).imp id (fun z => by simp at z ⊢; exact Or.inl z))
theorem isG.ne2 {g p1 p2 : Nat} {B A : Int → Int} {pay : Int} (hG : isG h g p1 p2 B A pay) : p1 ≠ p2 ∧ p1 ≠ g ∧ p2 ≠ g := by
  obtain ⟨a1, a2, a3, a4, a5, a6, a7, a8, a9, a10, a11⟩ := hG
  exact ⟨fun e => by rw [e] at a3; omega, fun e => by rw [e] at a3; omega, fun e => by rw [e] at a7; omega⟩
theorem cx_addB {g p1 p2 : Nat} {B A : Int → Int} {pay m n : Int} (hG : isG h g p1 p2 B A pay) (hm : 0 ≤ m ∧ m < 5) (hb : r32 (B m)) (hn : r32 n) : CT γ mX3_addTest 1 0 0 [.ref g, .int (jI m), .int (jI 1), .int (jI n)] h (fun r h' => r = none ∧ isG h' g p1 p2 (upF B m (min (B m) n)) A pay ∧ Fr h h' (fun b => b = p1) ∧ h'.tag = h.tag) X0 := by
  have hn2 := hG.ne2
  obtain ⟨a1, a2, a3, a4, a5, a6, a7, a8, a9, a10, a11⟩ := hG
  have em : h.I 22 p1 m.toNat = B m := by
    have := (a11 m.toNat (by omega)).1
    rw [show ((m.toNat : Nat) : Int) = m by omega] at this
    exact this
  refine CT.of MX3_addTest (Nat.le_of_ble_eq_true rfl) ?_
  show J γ mX3_addTest 1 0 0 0 0 h 0 [(0, .ref g), (1, .int (jI m)), (2, .int (jI 1)), (3, .int (jI n))] [] _ _
  refine J.iload_n (pc' := 1) rfl rfl rfl ?_
  refine J.if_eq (tgt := 23) (pc' := 4) rfl rfl rfl (by first | omega | (exact R.r _ _) | (simp only [jM.len_sI, jM.len_sL, jM.len_sR, jM.len_fI, jM.len_fL, jM.len_fR]; omega) | (simp [jM.len_nw, jM.len_sI, jM.len_sL, jM.len_sR, jM.len_fI, jM.len_fL, jM.len_fR, *]; omega)) (fun c1 => ?_) (fun c1 => ?_)
  · omega
  · first | refine J.aload_n (pc' := 5) rfl rfl rfl ?_ | refine J.aload_nN (pc' := 5) rfl rfl rfl ?_
    first | refine J.getR (pc' := 8) rfl fl_X3_9 rfl (by first | assumption | (simp only [jM.tag_sI, jM.tag_sL, jM.tag_sR, jM.tag_fI, jM.tag_fL, jM.tag_fR]; assumption) | (simp [jM.tag_nw, jM.tag_sI, jM.tag_sL, jM.tag_sR, jM.tag_fI, jM.tag_fL, jM.tag_fR, *]; done)) (by first | assumption | (simp only [jM.R_sI, jM.R_sL, jM.R_fI, jM.R_fL]; assumption) | (simp [jM.R_nw, jM.R_sR, jM.R_fR, jM.R_sI, jM.R_sL, jM.R_fI, jM.R_fL, *]; done)) rfl ?_ | refine J.getRN (pc' := 8) rfl fl_X3_9 rfl (by first | assumption | (simp only [jM.tag_sI, jM.tag_sL, jM.tag_sR, jM.tag_fI, jM.tag_fL, jM.tag_fR]; assumption) | (simp [jM.tag_nw, jM.tag_sI, jM.tag_sL, jM.tag_sR, jM.tag_fI, jM.tag_fL, jM.tag_fR, *]; done)) (by first | assumption | (simp only [jM.R_sI, jM.R_sL, jM.R_fI, jM.R_fL]; assumption) | (simp [jM.R_nw, jM.R_sR, jM.R_fR, jM.R_sI, jM.R_sL, jM.R_fI, jM.R_fL, *]; done)) rfl ?_
    refine J.iload_n (pc' := 9) rfl rfl rfl ?_
    first | refine J.aload_n (pc' := 10) rfl rfl rfl ?_ | refine J.aload_nN (pc' := 10) rfl rfl rfl ?_
    first | refine J.getR (pc' := 13) rfl fl_X3_9 rfl (by first | assumption | (simp only [jM.tag_sI, jM.tag_sL, jM.tag_sR, jM.tag_fI, jM.tag_fL, jM.tag_fR]; assumption) | (simp [jM.tag_nw, jM.tag_sI, jM.tag_sL, jM.tag_sR, jM.tag_fI, jM.tag_fL, jM.tag_fR, *]; done)) (by first | assumption | (simp only [jM.R_sI, jM.R_sL, jM.R_fI, jM.R_fL]; assumption) | (simp [jM.R_nw, jM.R_sR, jM.R_fR, jM.R_sI, jM.R_sL, jM.R_fI, jM.R_fL, *]; done)) rfl ?_ | refine J.getRN (pc' := 13) rfl fl_X3_9 rfl (by first | assumption | (simp only [jM.tag_sI, jM.tag_sL, jM.tag_sR, jM.tag_fI, jM.tag_fL, jM.tag_fR]; assumption) | (simp [jM.tag_nw, jM.tag_sI, jM.tag_sL, jM.tag_sR, jM.tag_fI, jM.tag_fL, jM.tag_fR, *]; done)) (by first | assumption | (simp only [jM.R_sI, jM.R_sL, jM.R_fI, jM.R_fL]; assumption) | (simp [jM.R_nw, jM.R_sR, jM.R_fR, jM.R_sI, jM.R_sL, jM.R_fI, jM.R_fL, *]; done)) rfl ?_
    refine J.iload_n (pc' := 14) rfl rfl rfl ?_
    refine J.iald (pc' := 15) rfl (by first | assumption | (simp only [jM.tag_sI, jM.tag_sL, jM.tag_sR, jM.tag_fI, jM.tag_fL, jM.tag_fR]; assumption) | (simp [jM.tag_nw, jM.tag_sI, jM.tag_sL, jM.tag_sR, jM.tag_fI, jM.tag_fL, jM.tag_fR, *]; done)) (by decide) rfl (by first | omega | (exact R.r _ _) | (simp only [jM.len_sI, jM.len_sL, jM.len_sR, jM.len_fI, jM.len_fL, jM.len_fR]; omega) | (simp [jM.len_nw, jM.len_sI, jM.len_sL, jM.len_sR, jM.len_fI, jM.len_fL, jM.len_fR, *]; omega)) (by first | omega | (exact R.r _ _) | (simp only [jM.len_sI, jM.len_sL, jM.len_sR, jM.len_fI, jM.len_fL, jM.len_fR]; omega) | (simp [jM.len_nw, jM.len_sI, jM.len_sL, jM.len_sR, jM.len_fI, jM.len_fL, jM.len_fR, *]; omega)) (by first | omega | (exact R.r _ _) | (simp only [jM.len_sI, jM.len_sL, jM.len_sR, jM.len_fI, jM.len_fL, jM.len_fR]; omega) | (simp [jM.len_nw, jM.len_sI, jM.len_sL, jM.len_sR, jM.len_fI, jM.len_fL, jM.len_fR, *]; omega)) rfl ?_
    rw [em]
    refine J.iload_n (pc' := 16) rfl rfl rfl ?_
    refine J.callS (pc' := 19) rfl MJ9_min_7cf53 ml_X3_22 is_J9_min_7cf53 (ct_min hb hn) rfl rfl (Nat.le_of_ble_eq_true rfl) (by first | omega | (exact R.r _ _) | (simp only [jM.len_sI, jM.len_sL, jM.len_sR, jM.len_fI, jM.len_fL, jM.len_fR]; omega) | (simp [jM.len_nw, jM.len_sI, jM.len_sL, jM.len_sR, jM.len_fI, jM.len_fL, jM.len_fR, *]; omega)) (by first | omega | (exact R.r _ _) | (simp only [jM.len_sI, jM.len_sL, jM.len_sR, jM.len_fI, jM.len_fL, jM.len_fR]; omega) | (simp [jM.len_nw, jM.len_sI, jM.len_sL, jM.len_sR, jM.len_fI, jM.len_fL, jM.len_fR, *]; omega)) (by first | omega | (exact R.r _ _) | (simp only [jM.len_sI, jM.len_sL, jM.len_sR, jM.len_fI, jM.len_fL, jM.len_fR]; omega) | (simp [jM.len_nw, jM.len_sI, jM.len_sL, jM.len_sR, jM.len_fI, jM.len_fL, jM.len_fR, *]; omega)) rfl rfl ?_ ?_
    · exact fun _ _ h => h
    rintro _ h ⟨rfl, rfl⟩
    refine J.iast (pc' := 20) rfl (by first | assumption | (simp only [jM.tag_sI, jM.tag_sL, jM.tag_sR, jM.tag_fI, jM.tag_fL, jM.tag_fR]; assumption) | (simp [jM.tag_nw, jM.tag_sI, jM.tag_sL, jM.tag_sR, jM.tag_fI, jM.tag_fL, jM.tag_fR, *]; done)) (by decide) rfl (by first | omega | (exact R.r _ _) | (simp only [jM.len_sI, jM.len_sL, jM.len_sR, jM.len_fI, jM.len_fL, jM.len_fR]; omega) | (simp [jM.len_nw, jM.len_sI, jM.len_sL, jM.len_sR, jM.len_fI, jM.len_fL, jM.len_fR, *]; omega)) (by first | omega | (exact R.r _ _) | (simp only [jM.len_sI, jM.len_sL, jM.len_sR, jM.len_fI, jM.len_fL, jM.len_fR]; omega) | (simp [jM.len_nw, jM.len_sI, jM.len_sL, jM.len_sR, jM.len_fI, jM.len_fL, jM.len_fR, *]; omega)) (by first | omega | (exact R.r _ _) | (simp only [jM.len_sI, jM.len_sL, jM.len_sR, jM.len_fI, jM.len_fL, jM.len_fR]; omega) | (simp [jM.len_nw, jM.len_sI, jM.len_sL, jM.len_sR, jM.len_fI, jM.len_fL, jM.len_fR, *]; omega)) (Or.inl rfl) rfl ?_
    refine J.goto (tgt := 39) rfl rfl ?_
    refine J.vret rfl rfl (by first | omega | (exact R.r _ _) | (simp only [jM.len_sI, jM.len_sL, jM.len_sR, jM.len_fI, jM.len_fL, jM.len_fR]; omega) | (simp [jM.len_nw, jM.len_sI, jM.len_sL, jM.len_sR, jM.len_fI, jM.len_fL, jM.len_fR, *]; omega)) (by first | omega | (exact R.r _ _) | (simp only [jM.len_sI, jM.len_sL, jM.len_sR, jM.len_fI, jM.len_fL, jM.len_fR]; omega) | (simp [jM.len_nw, jM.len_sI, jM.len_sL, jM.len_sR, jM.len_fI, jM.len_fL, jM.len_fR, *]; omega)) ?_
    refine ⟨rfl, ⟨a1, a2, a3, a4, a5, a6, a7, a8, a9, ?_, fun j hj => ⟨?_, ?_⟩⟩, Fr.sI, rfl⟩
    · rw [jM.I_sI, if_neg (by omega)]; exact a10
    · rw [jM.I_sI]
      unfold upF
      by_cases z : (j : Int) = m
      · rw [if_pos ⟨rfl, rfl, by omega⟩, if_pos z]
      · rw [if_neg (by omega), if_neg z]; exact (a11 j hj).1
    · rw [jM.I_sI, if_neg (by omega)]; exact (a11 j hj).2
theorem cx_addA {g p1 p2 : Nat} {B A : Int → Int} {pay m n : Int} (hG : isG h g p1 p2 B A pay) (hm : 0 ≤ m ∧ m < 5) (hb : r32 (A m)) (hn : r32 n) : CT γ mX3_addTest 1 0 0 [.ref g, .int (jI m), .int (jI 0), .int (jI n)] h (fun r h' => r = none ∧ isG h' g p1 p2 B (upF A m (max (A m) n)) pay ∧ Fr h h' (fun b => b = p2) ∧ h'.tag = h.tag) X0 := by
  have hn2 := hG.ne2
  obtain ⟨a1, a2, a3, a4, a5, a6, a7, a8, a9, a10, a11⟩ := hG
  have em : h.I 23 p2 m.toNat = A m := by
    have := (a11 m.toNat (by omega)).2
    rw [show ((m.toNat : Nat) : Int) = m by omega] at this
    exact this
  refine CT.of MX3_addTest (Nat.le_of_ble_eq_true rfl) ?_
  show J γ mX3_addTest 1 0 0 0 0 h 0 [(0, .ref g), (1, .int (jI m)), (2, .int (jI 0)), (3, .int (jI n))] [] _ _
  refine J.iload_n (pc' := 1) rfl rfl rfl ?_
  refine J.if_eq (tgt := 23) (pc' := 4) rfl rfl rfl (by first | omega | (exact R.r _ _) | (simp only [jM.len_sI, jM.len_sL, jM.len_sR, jM.len_fI, jM.len_fL, jM.len_fR]; omega) | (simp [jM.len_nw, jM.len_sI, jM.len_sL, jM.len_sR, jM.len_fI, jM.len_fL, jM.len_fR, *]; omega)) (fun c1 => ?_) (fun c1 => ?_)
  · first | refine J.aload_n (pc' := 24) rfl rfl rfl ?_ | refine J.aload_nN (pc' := 24) rfl rfl rfl ?_
    first | refine J.getR (pc' := 27) rfl fl_X3_15 rfl (by first | assumption | (simp only [jM.tag_sI, jM.tag_sL, jM.tag_sR, jM.tag_fI, jM.tag_fL, jM.tag_fR]; assumption) | (simp [jM.tag_nw, jM.tag_sI, jM.tag_sL, jM.tag_sR, jM.tag_fI, jM.tag_fL, jM.tag_fR, *]; done)) (by first | assumption | (simp only [jM.R_sI, jM.R_sL, jM.R_fI, jM.R_fL]; assumption) | (simp [jM.R_nw, jM.R_sR, jM.R_fR, jM.R_sI, jM.R_sL, jM.R_fI, jM.R_fL, *]; done)) rfl ?_ | refine J.getRN (pc' := 27) rfl fl_X3_15 rfl (by first | assumption | (simp only [jM.tag_sI, jM.tag_sL, jM.tag_sR, jM.tag_fI, jM.tag_fL, jM.tag_fR]; assumption) | (simp [jM.tag_nw, jM.tag_sI, jM.tag_sL, jM.tag_sR, jM.tag_fI, jM.tag_fL, jM.tag_fR, *]; done)) (by first | assumption | (simp only [jM.R_sI, jM.R_sL, jM.R_fI, jM.R_fL]; assumption) | (simp [jM.R_nw, jM.R_sR, jM.R_fR, jM.R_sI, jM.R_sL, jM.R_fI, jM.R_fL, *]; done)) rfl ?_
    refine J.iload_n (pc' := 28) rfl rfl rfl ?_
    first | refine J.aload_n (pc' := 29) rfl rfl rfl ?_ | refine J.aload_nN (pc' := 29) rfl rfl rfl ?_
    first | refine J.getR (pc' := 32) rfl fl_X3_15 rfl (by first | assumption | (simp only [jM.tag_sI, jM.tag_sL, jM.tag_sR, jM.tag_fI, jM.tag_fL, jM.tag_fR]; assumption) | (simp [jM.tag_nw, jM.tag_sI, jM.tag_sL, jM.tag_sR, jM.tag_fI, jM.tag_fL, jM.tag_fR, *]; done)) (by first | assumption | (simp only [jM.R_sI, jM.R_sL, jM.R_fI, jM.R_fL]; assumption) | (simp [jM.R_nw, jM.R_sR, jM.R_fR, jM.R_sI, jM.R_sL, jM.R_fI, jM.R_fL, *]; done)) rfl ?_ | refine J.getRN (pc' := 32) rfl fl_X3_15 rfl (by first | assumption | (simp only [jM.tag_sI, jM.tag_sL, jM.tag_sR, jM.tag_fI, jM.tag_fL, jM.tag_fR]; assumption) | (simp [jM.tag_nw, jM.tag_sI, jM.tag_sL, jM.tag_sR, jM.tag_fI, jM.tag_fL, jM.tag_fR, *]; done)) (by first | assumption | (simp only [jM.R_sI, jM.R_sL, jM.R_fI, jM.R_fL]; assumption) | (simp [jM.R_nw, jM.R_sR, jM.R_fR, jM.R_sI, jM.R_sL, jM.R_fI, jM.R_fL, *]; done)) rfl ?_
    refine J.iload_n (pc' := 33) rfl rfl rfl ?_
    refine J.iald (pc' := 34) rfl (by first | assumption | (simp only [jM.tag_sI, jM.tag_sL, jM.tag_sR, jM.tag_fI, jM.tag_fL, jM.tag_fR]; assumption) | (simp [jM.tag_nw, jM.tag_sI, jM.tag_sL, jM.tag_sR, jM.tag_fI, jM.tag_fL, jM.tag_fR, *]; done)) (by decide) rfl (by first | omega | (exact R.r _ _) | (simp only [jM.len_sI, jM.len_sL, jM.len_sR, jM.len_fI, jM.len_fL, jM.len_fR]; omega) | (simp [jM.len_nw, jM.len_sI, jM.len_sL, jM.len_sR, jM.len_fI, jM.len_fL, jM.len_fR, *]; omega)) (by first | omega | (exact R.r _ _) | (simp only [jM.len_sI, jM.len_sL, jM.len_sR, jM.len_fI, jM.len_fL, jM.len_fR]; omega) | (simp [jM.len_nw, jM.len_sI, jM.len_sL, jM.len_sR, jM.len_fI, jM.len_fL, jM.len_fR, *]; omega)) (by first | omega | (exact R.r _ _) | (simp only [jM.len_sI, jM.len_sL, jM.len_sR, jM.len_fI, jM.len_fL, jM.len_fR]; omega) | (simp [jM.len_nw, jM.len_sI, jM.len_sL, jM.len_sR, jM.len_fI, jM.len_fL, jM.len_fR, *]; omega)) rfl ?_
    rw [em]
    refine J.iload_n (pc' := 35) rfl rfl rfl ?_
    refine J.callS (pc' := 38) rfl MJ9_max_7cf53 ml_X3_28 is_J9_max_7cf53 (ct_max hb hn) rfl rfl (Nat.le_of_ble_eq_true rfl) (by first | omega | (exact R.r _ _) | (simp only [jM.len_sI, jM.len_sL, jM.len_sR, jM.len_fI, jM.len_fL, jM.len_fR]; omega) | (simp [jM.len_nw, jM.len_sI, jM.len_sL, jM.len_sR, jM.len_fI, jM.len_fL, jM.len_fR, *]; omega)) (by first | omega | (exact R.r _ _) | (simp only [jM.len_sI, jM.len_sL, jM.len_sR, jM.len_fI, jM.len_fL, jM.len_fR]; omega) | (simp [jM.len_nw, jM.len_sI, jM.len_sL, jM.len_sR, jM.len_fI, jM.len_fL, jM.len_fR, *]; omega)) (by first | omega | (exact R.r _ _) | (simp only [jM.len_sI, jM.len_sL, jM.len_sR, jM.len_fI, jM.len_fL, jM.len_fR]; omega) | (simp [jM.len_nw, jM.len_sI, jM.len_sL, jM.len_sR, jM.len_fI, jM.len_fL, jM.len_fR, *]; omega)) rfl rfl ?_ ?_
    · exact fun _ _ h => h
    rintro _ h ⟨rfl, rfl⟩
    refine J.iast (pc' := 39) rfl (by first | assumption | (simp only [jM.tag_sI, jM.tag_sL, jM.tag_sR, jM.tag_fI, jM.tag_fL, jM.tag_fR]; assumption) | (simp [jM.tag_nw, jM.tag_sI, jM.tag_sL, jM.tag_sR, jM.tag_fI, jM.tag_fL, jM.tag_fR, *]; done)) (by decide) rfl (by first | omega | (exact R.r _ _) | (simp only [jM.len_sI, jM.len_sL, jM.len_sR, jM.len_fI, jM.len_fL, jM.len_fR]; omega) | (simp [jM.len_nw, jM.len_sI, jM.len_sL, jM.len_sR, jM.len_fI, jM.len_fL, jM.len_fR, *]; omega)) (by first | omega | (exact R.r _ _) | (simp only [jM.len_sI, jM.len_sL, jM.len_sR, jM.len_fI, jM.len_fL, jM.len_fR]; omega) | (simp [jM.len_nw, jM.len_sI, jM.len_sL, jM.len_sR, jM.len_fI, jM.len_fL, jM.len_fR, *]; omega)) (by first | omega | (exact R.r _ _) | (simp only [jM.len_sI, jM.len_sL, jM.len_sR, jM.len_fI, jM.len_fL, jM.len_fR]; omega) | (simp [jM.len_nw, jM.len_sI, jM.len_sL, jM.len_sR, jM.len_fI, jM.len_fL, jM.len_fR, *]; omega)) (Or.inl rfl) rfl ?_
    refine J.vret rfl rfl (by first | omega | (exact R.r _ _) | (simp only [jM.len_sI, jM.len_sL, jM.len_sR, jM.len_fI, jM.len_fL, jM.len_fR]; omega) | (simp [jM.len_nw, jM.len_sI, jM.len_sL, jM.len_sR, jM.len_fI, jM.len_fL, jM.len_fR, *]; omega)) (by first | omega | (exact R.r _ _) | (simp only [jM.len_sI, jM.len_sL, jM.len_sR, jM.len_fI, jM.len_fL, jM.len_fR]; omega) | (simp [jM.len_nw, jM.len_sI, jM.len_sL, jM.len_sR, jM.len_fI, jM.len_fL, jM.len_fR, *]; omega)) ?_
    refine ⟨rfl, ⟨a1, a2, a3, a4, a5, a6, a7, a8, a9, ?_, fun j hj => ⟨?_, ?_⟩⟩, Fr.sI, rfl⟩
    · rw [jM.I_sI, if_neg (by omega)]; exact a10
    · rw [jM.I_sI, if_neg (by omega)]; exact (a11 j hj).1
    · rw [jM.I_sI]
      unfold upF
      by_cases z : (j : Int) = m
      · rw [if_pos ⟨rfl, rfl, by omega⟩, if_pos z]
      · rw [if_neg (by omega), if_neg z]; exact (a11 j hj).2
  · omega
end GT

