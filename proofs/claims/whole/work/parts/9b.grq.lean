theorem allB_iff {f : Int → Bool} {a : Int} : ∀ n : Nat, allB f a n = true ↔ ∀ i : Nat, i < n → f (a + i) = true := fun n => by
  induction n with
  | zero => exact ⟨fun _ i hi => absurd hi (Nat.not_lt_zero _), fun _ => rfl⟩
  | succ n ih =>
    rw [allB, Bool.and_eq_true, ih]
    constructor
    · rintro ⟨h1, h2⟩ i hi
      by_cases z : i = n
      · rw [z]; exact h2
      · exact h1 i (by omega)
    · exact fun h => ⟨fun i hi => h i (by omega), h n (by omega)⟩
theorem lt_gB {x m : Int} : ∀ (l : List Tst) (b : Int), x < l.foldl (fun b t => if t.1 = m ∧ t.2.1 = 60 then min b t.2.2 else b) b ↔ x < b ∧ ∀ y ∈ l, y.1 = m → y.2.1 = 60 → x < y.2.2 := fun l => by
  induction l with
  | nil => intro b; simp
  | cons y l ih =>
    intro b
    rw [List.foldl_cons, ih]
    constructor
    · rintro ⟨h1, h2⟩
      refine ⟨?_, fun z hz z1 z2 => ?_⟩
      · split at h1 <;> omega
      · rcases List.mem_cons.mp hz with hz | hz
        · subst hz
          rw [if_pos ⟨z1, z2⟩] at h1
          omega
        · exact h2 z hz z1 z2
    · rintro ⟨h1, h2⟩
      refine ⟨?_, fun z hz => h2 z (List.mem_cons_of_mem _ hz)⟩
      split
      · rename_i c
        have := h2 y (List.mem_cons_self) c.1 c.2
        omega
      · exact h1
theorem gA_lt {x m : Int} : ∀ (l : List Tst) (b : Int), l.foldl (fun b t => if t.1 = m ∧ t.2.1 ≠ 60 then max b t.2.2 else b) b < x ↔ b < x ∧ ∀ y ∈ l, y.1 = m → y.2.1 ≠ 60 → y.2.2 < x := fun l => by
  induction l with
  | nil => intro b; simp
  | cons y l ih =>
    intro b
    rw [List.foldl_cons, ih]
    constructor
    · rintro ⟨h1, h2⟩
      refine ⟨?_, fun z hz z1 z2 => ?_⟩
      · split at h1 <;> omega
      · rcases List.mem_cons.mp hz with hz | hz
        · subst hz
          rw [if_pos ⟨z1, z2⟩] at h1
          omega
        · exact h2 z hz z1 z2
    · rintro ⟨h1, h2⟩
      refine ⟨?_, fun z hz => h2 z (List.mem_cons_of_mem _ hz)⟩
      split
      · rename_i c
        have := h2 y (List.mem_cons_self) c.1 c.2
        omega
      · exact h1
def tstB (P : Nat → Int) (y : Tst) : Bool := if y.2.1 = 60 then decide (P (2 * y.1 + 1).toNat < y.2.2) else decide (y.2.2 < P (2 * y.1).toNat)
theorem sureG_iff {l : List Tst} {P : Nat → Int} (hP : ∀ j, j < 10 → 0 ≤ P j ∧ P j ≤ 10000) (hl : ∀ y ∈ l, 0 ≤ y.1 ∧ y.1 ≤ 4) : sureG (gB l) (gA l) P = true ↔ ∀ y ∈ l, tstB P y = true := by
  unfold sureG
  rw [allB_iff]
  have e : ∀ m : Nat, m < 5 → (sureM (gB l) (gA l) P (0 + (m : Int)) = true ↔ (∀ y ∈ l, y.1 = (m : Int) → y.2.1 = 60 → P (2 * (m : Int) + 1).toNat < y.2.2) ∧ ∀ y ∈ l, y.1 = (m : Int) → y.2.1 ≠ 60 → y.2.2 < P (2 * (m : Int)).toNat) := fun m hm => by
    rw [Int.zero_add]
    unfold sureM
    rw [Bool.and_eq_true, decide_eq_true_eq, decide_eq_true_eq]
    have p1 := hP (2 * (m : Int) + 1).toNat (by omega)
    have p2 := hP (2 * (m : Int)).toNat (by omega)
    unfold gB gA
    rw [lt_gB, gA_lt]
    constructor
    · exact fun h => ⟨h.1.2, h.2.2⟩
    · exact fun h => ⟨⟨by omega, h.1⟩, by omega, h.2⟩
  constructor
  · intro h y hy
    have hy1 := hl y hy
    have := (e y.1.toNat (by omega)).mp (h y.1.toNat (by omega))
    rw [show ((y.1.toNat : Nat) : Int) = y.1 by omega] at this
    unfold tstB
    by_cases c : y.2.1 = 60
    · rw [if_pos c, decide_eq_true_eq]; exact this.1 y hy rfl c
    · rw [if_neg c, decide_eq_true_eq]; exact this.2 y hy rfl c
  · intro h m hm
    refine (e m hm).mpr ⟨fun y hy h1 h2 => ?_, fun y hy h1 h2 => ?_⟩
    · have := h y hy
      unfold tstB at this
      rw [if_pos h2, decide_eq_true_eq, h1] at this
      exact this
    · have := h y hy
      unfold tstB at this
      rw [if_neg h2, decide_eq_true_eq, h1] at this
      exact this
section GQ
variable {V : VV}
theorem gradeB_eq (R : isR V) {c l : Int} {G : List Grd} {K : Int} {P : Nat → Int} (hG : gRep V c G K) (hP : ∀ j, j < 10 → P j = lP V l j) {g : Nat} (hg : g < G.length) : gradeB V c l g = sureG (gBl G g) (gAl G g) P := by
  obtain ⟨x, hx⟩ : ∃ x, G[g]? = some x := ⟨_, List.getElem?_eq_getElem hg⟩
  obtain ⟨b1, b2, b3, b4, b5⟩ := hG.2.2 g x hx
  have ex : grd G g = x := by unfold grd; rw [Int.toNat_natCast, hx]; rfl
  have h34 : ∀ i, 0 ≤ V 134 i ∧ V 134 i ≤ 10000 := fun i => R 134 i rfl
  have h35 : ∀ i, 0 ≤ V 135 i ∧ V 135 i ≤ 10000 := fun i => R 135 i rfl
  have h23 : ∀ i, 0 ≤ V 123 i ∧ V 123 i ≤ 4 := fun i => R 123 i rfl
  have hl : ∀ y ∈ x.1, 0 ≤ y.1 ∧ y.1 ≤ 4 := fun y hy => by
    obtain ⟨i, hi, ei⟩ := List.getElem_of_mem hy
    have := (b5 i y (by rw [List.getElem?_eq_getElem hi, ei])).1
    rw [← this]
    exact h23 _
  have pb : ∀ j, j < 10 → 0 ≤ P j ∧ P j ≤ 10000 := fun j hj => by
    rw [hP j hj]
    unfold lP
    split
    · exact h34 _
    · exact h35 _
  unfold gBl gAl
  rw [ex]
  refine Bool.eq_iff_iff.mpr ?_
  rw [sureG_iff pb hl]
  unfold gradeB
  rw [b1, show V 122 (13 * c + (g : Int)) + (x.1.length : Int) - V 122 (13 * c + (g : Int)) = (x.1.length : Int) by omega, Int.toNat_natCast, allB_iff]
  have key : ∀ (i : Nat) (y : Tst), x.1[i]? = some y → sureB V c (V 122 (13 * c + (g : Int)) + (i : Int)) l = tstB P y := fun i y hy => by
    obtain ⟨d1, d2, d3⟩ := b5 i y hy
    have hy1 := hl y (List.mem_of_getElem? hy)
    have p1 : P (2 * y.1 + 1).toNat = V 135 (5 * l + y.1) := by
      rw [hP _ (by omega)]
      unfold lP
      rw [if_neg (by omega), show (((2 * y.1 + 1).toNat / 2 : Nat) : Int) = y.1 by omega]
    have p2 : P (2 * y.1).toNat = V 134 (5 * l + y.1) := by
      rw [hP _ (by omega)]
      unfold lP
      rw [if_pos (by omega), show (((2 * y.1).toNat / 2 : Nat) : Int) = y.1 by omega]
    unfold sureB tstB
    rw [d1, d2, d3, p1, p2]
  constructor
  · intro h y hy
    obtain ⟨i, hi, ei⟩ := List.getElem_of_mem hy
    rw [← key i y (by rw [List.getElem?_eq_getElem hi, ei])]
    exact h i hi
  · intro h i hi
    rw [key i _ (List.getElem?_eq_getElem hi)]
    exact h _ (List.getElem_mem hi)
theorem grF_eq (R : isR V) {c l : Int} {G : List Grd} {K : Int} {P : Nat → Int} (hG : gRep V c G K) (hP : ∀ j, j < 10 → P j = lP V l j) : gradeR (fun i => sureG (gBl G i) (gAl G i) P) G.length (V 120 c) = grF V c l ∧ payR (gPl G) G.length (V 120 c) (grF V c l) = payF V c l := by
  have en : (V 119 c).toNat = G.length := by have := hG.1; omega
  have eg : gF V c l G.length = gFb (fun i => sureG (gBl G i) (gAl G i) P) G.length := by
    have : ∀ n : Nat, n ≤ G.length → gF V c l n = gFb (fun i => sureG (gBl G i) (gAl G i) P) n := fun n => by
      induction n with
      | zero => exact fun _ => rfl
      | succ n ih => exact fun hn => by rw [gF, gFb, ih (by omega), gradeB_eq R hG hP (by omega)]
    exact this _ (Nat.le_refl _)
  have hb := gFb_b (fun i => sureG (gBl G i) (gAl G i) P) G.length
  have ep := R 120 c rfl
  simp [jLo, jHi] at ep
  have q : gF V c l (V 119 c).toNat = gFb (fun i => sureG (gBl G i) (gAl G i) P) G.length := by rw [en]; exact eg
  generalize hw : gFb (fun i => sureG (gBl G i) (gAl G i) P) G.length = w at hb q
  by_cases z : w = -1
  · by_cases z2 : V 120 c = -1
    · have e1 : grF V c l = -1 := by unfold grF; rw [if_neg (fun r => r.2 z2), q, z]
      have e2 : payF V c l = 0 := by unfold payF; rw [if_neg (fun r => r.2 z2), q, z]; rfl
      rw [e1, e2]
      refine ⟨?_, ?_⟩
      · unfold gradeR; rw [hw, if_pos z, if_pos z2]
      · unfold payR; rw [if_pos (show (-1 : Int) < 0 by decide)]
    · have e1 : grF V c l = (G.length : Int) := by unfold grF; rw [if_pos ⟨q.trans z, z2⟩]; exact hG.1
      have e2 : payF V c l = V 120 c := by unfold payF; rw [if_pos ⟨q.trans z, z2⟩]
      rw [e1, e2]
      refine ⟨?_, ?_⟩
      · unfold gradeR; rw [hw, if_pos z, if_neg z2]
      · unfold payR; rw [if_neg (by omega), if_neg (by omega)]
  · have e1 : grF V c l = w := by unfold grF; rw [if_neg (fun r => z (q.symm.trans r.1)), q]
    have e2 : payF V c l = V 121 (12 * c + w) := by unfold payF; rw [if_neg (fun r => z (q.symm.trans r.1)), q]; unfold pF; rw [if_neg z]
    rw [e1, e2]
    refine ⟨?_, ?_⟩
    · unfold gradeR; rw [hw, if_neg z]
    · unfold payR
      rw [if_neg (by omega), if_pos (by omega)]
      obtain ⟨x, hx⟩ : ∃ x, G[w.toNat]? = some x := ⟨_, List.getElem?_eq_getElem (by omega)⟩
      have b4 := (hG.2.2 w.toNat x hx).2.2.2.1
      unfold gPl grd
      rw [hx]
      show x.2 = _
      rw [← b4, show ((w.toNat : Nat) : Int) = w by omega]
end GQ

