/-- the finer class of a cell: the parts of layers go by the list that holds them -/
def kd (h : jM) (b : Nat) : Nat := if (h.tag b = 10 ∨ h.tag b = 14 ∨ h.tag b = 20) ∧ h.tag ((ow h b).getD 0) = 10 then 7000 + (ow h ((ho h ((ow h b).getD 0)).getD 0)).getD 0 else kc h b
abbrev FrD (h h' : jM) (S : Nat → Prop) : Prop := Fr h h' (fun b => S (kd h b))
theorem kd_y {h : jM} {b y a i : Nat} (hb : h.tag b = 10 ∨ h.tag b = 14 ∨ h.tag b = 20) (hy : ow h b = some y) (ty : h.tag y = 10) (ha : ho h y = some a) (hi : ow h a = some i) : kd h b = 7000 + i := by
  have e1 : (ow h b).getD 0 = y := by rw [hy]; rfl
  have e2 : (ho h y).getD 0 = a := by rw [ha]; rfl
  have e3 : (ow h a).getD 0 = i := by rw [hi]; rfl
  unfold kd
  rw [e1, if_pos ⟨hb, ty⟩, e2, e3]
theorem kd_n {h : jM} {b : Nat} (hb : ¬ (h.tag b = 10 ∨ h.tag b = 14 ∨ h.tag b = 20)) : kd h b = kc h b := by
  unfold kd
  rw [if_neg (fun z => hb z.1)]
theorem kd_w {h : jM} {b y t : Nat} (hy : ow h b = some y) (ty : h.tag y = t) (h0 : t ≠ 10) : kd h b = kc h b := by
  have e1 : (ow h b).getD 0 = y := by rw [hy]; rfl
  unfold kd
  rw [e1, if_neg (fun z => h0 (ty.symm.trans z.2))]
theorem kd_t {h : jM} {b t : Nat} (ht : h.tag b = t) (h1 : t ≠ 3 ∧ t ≠ 34 ∧ t ≠ 14 ∧ t ≠ 20 ∧ t < 36 ∧ t ≠ 10) : kd h b = t := by
  rw [kd_n (by omega), kc_o ht ⟨h1.1, h1.2.1, h1.2.2.1, h1.2.2.2.1, h1.2.2.2.2.1⟩]
theorem FrD.toC {h h' : jM} {S S' : Nat → Prop} (F : FrD h h' S) (hS : ∀ c, S c → S' c) (h10 : S' 10) (h110 : S' 110) : FrC h h' S' := F.mono (fun b hb w => by
  by_cases z : (h.tag b = 10 ∨ h.tag b = 14 ∨ h.tag b = 20) ∧ h.tag ((ow h b).getD 0) = 10
  · by_cases t : h.tag b = 10
    · rw [kc_o t (by decide)]; exact h10
    · have : kc h b = 110 := by unfold kc; rw [if_neg (by omega), if_neg (by omega), if_pos (by omega), z.2]
      rw [this]; exact h110
  · have e : kd h b = kc h b := if_neg z
    rw [e] at w
    exact hS _ w)
section FD
variable {γ : jG} {h h' : jM} {S : Nat → Prop} {ρ σ : Nat → Nat} {x : Nat} {ks ss cs ls ms : List Nat} {V V' : VV}
theorem isLs.d {a e i : Nat} {ys : List Nat} {N C : Int → Int} {D : Int → Option Nat} {P : Int → Nat → Int} (F : FrD h h' S) (hL : isLs γ h a e ys) (hY : lays h ys N D C P) (hi : ow h a = some i) (h1 : ¬ S (5000 + i)) (h2 : ¬ S (7000 + i)) : isLs γ h' a e ys ∧ lays h' ys N D C P ∧ ow h' a = some i := by
  have ta := hL.1.1
  have te := hL.1.2.2.1
  have ky : ∀ y ∈ ys, ∀ b, (h.tag b = 10 ∨ h.tag b = 14 ∨ h.tag b = 20) → ow h b = some y → ¬ S (kd h b) := fun y hy b hb ho => by
    rw [kd_y hb ho (hY.tag hy) (hL.2.2 y hy) hi]; exact h2
  refine ⟨hL.kept F ?_ ?_ (fun y hy => ⟨by have := hY.tag hy; omega, ky y hy y (Or.inl (hY.tag hy)) (hY.ow hy)⟩), hY.kept F ky, by rw [F.ow (by omega)]; exact hi⟩
  · rw [kd_n (by omega), kc_l ta hi]; exact h1
  · by_cases l0 : h.len e = 0
    · exact Or.inr l0
    · refine Or.inl ?_
      rw [kd_n (by omega), kc_e hL.1 hi l0]; exact h1
theorem hepE.d {g p a e : Nat} {ys : List Nat} (F : FrD h h' S) (hE : hepE γ h ls V g p a e ys) (n : ¬ S 8 ∧ ¬ S (5010 + g) ∧ ¬ S (7010 + g)) : hepE γ h' ls V g p a e ys := by
  obtain ⟨a1, a2, a3, a4, a5, a6⟩ := hE
  obtain ⟨b1, b2, b3⟩ := a3.d F a6 a4 (by rw [← Nat.add_assoc]; exact n.2.1) (by rw [← Nat.add_assoc]; exact n.2.2)
  exact ⟨F.tag a1 (by decide), by rw [F.R a1 (by decide) (by rw [kd_t a1 (by decide)]; exact n.1)]; exact a2, b1, b3, a5, b2⟩
theorem melE.d {i z a e : Nat} {ys : List Nat} {C : Int → Int} (F : FrD h h' S) (hE : melE γ h ls V i z a e ys C) (n : ¬ S 12 ∧ ¬ S (5100 + i) ∧ ¬ S (7100 + i)) : melE γ h' ls V i z a e ys C := by
  obtain ⟨a1, a0, a2, a3, a4, a5, a6⟩ := hE
  obtain ⟨b1, b2, b3⟩ := a3.d F a6 a4 (by rw [← Nat.add_assoc]; exact n.2.1) (by rw [← Nat.add_assoc]; exact n.2.2)
  have hw : ¬ S (kd h z) := by rw [kd_t a1 (by decide)]; exact n.1
  exact ⟨F.tag a1 (by decide), by rw [F.I a1 (by decide) hw]; exact a0, by rw [F.R a1 (by decide) hw]; exact a2, b1, b3, a5, b2⟩
theorem isLi.d {i l : Nat} {xs : List Nat} (F : FrD h h' S) (hL : isLi γ h i l xs) (hs : ¬ S (5000 + i)) : isLi γ h' i l xs := by
  obtain ⟨⟨e, h1⟩, h2⟩ := hL
  have ta := h1.1
  have te := h1.2.2.1
  refine ⟨⟨e, h1.keptW F (fun z => hs (by rw [← kc_l h1.1 h2, ← kd_n (by omega)]; exact z)) ?_⟩, by rw [F.ow (by omega)]; exact h2⟩
  by_cases l0 : h.len e = 0
  · exact Or.inr l0
  · exact Or.inl (fun z => hs (by rw [← kc_e h1 h2 l0, ← kd_n (by omega)]; exact z))
theorem repF.d (F : FrD h h' S) (hF : repF γ h ρ ms ls V) (n : ¬ S 5004 ∧ ¬ S 12) (ni : ∀ i : Nat, i < ms.length → ¬ S (5100 + i) ∧ ¬ S (7100 + i)) : repF γ h' ρ ms ls V := ⟨hF.1.d F n.1, hF.2.1, fun i z hz => by
  obtain ⟨a, e, ys, C, b⟩ := hF.2.2 i z hz
  exact ⟨a, e, ys, C, b.d F ⟨n.2, ni i (List.getElem?_eq_some_iff.mp hz).1⟩⟩⟩
theorem repF.dk {T : Nat → Prop} {L : Int → Prop} (F : FrD h h' S) (e : ∀ t, t ≠ 16 → ¬ T t → V' t = V t) (es : ∀ i, ¬ L i → V' 16 i = V 16 i) (hA : repF γ h ρ ms ls V) (n : ¬ S 5004 ∧ ¬ S 12) (ni : ∀ i : Nat, i < ms.length → ¬ S (5100 + i) ∧ ¬ S (7100 + i)) (m : ¬ L 52 ∧ (∀ t, 153 ≤ t → t ≤ 157 → ¬ T t)) : repF γ h' ρ ms ls V' := (hA.d F n ni).cg (es 52 m.1) (e 153 (by decide) (m.2 _ (by decide) (by decide))) (e 154 (by decide) (m.2 _ (by decide) (by decide))) (e 155 (by decide) (m.2 _ (by decide) (by decide))) (e 156 (by decide) (m.2 _ (by decide) (by decide))) (e 157 (by decide) (m.2 _ (by decide) (by decide)))
/-- the heaps by name -/
theorem repE.fn (hE : repE γ h ρ ls V) : ∃ q : Nat → Nat × Nat × Nat × List Nat, ∀ g : Nat, g < 6 → h.R 33 (ρ 5) g = some (q g).1 ∧ hepE γ h ls V g (q g).1 (q g).2.1 (q g).2.2.1 (q g).2.2.2 := by
  have : ∀ g : Nat, ∃ q : Nat × Nat × Nat × List Nat, g < 6 → h.R 33 (ρ 5) g = some q.1 ∧ hepE γ h ls V g q.1 q.2.1 q.2.2.1 q.2.2.2 := fun g => by
    by_cases hg : g < 6
    · obtain ⟨p, a, e, ys, b1, b2⟩ := hE.2.2 g hg
      exact ⟨(p, a, e, ys), fun _ => ⟨b1, b2⟩⟩
    · exact ⟨(0, 0, 0, []), fun z => absurd z hg⟩
  exact Classical.axiomOfChoice this
theorem spW_kd {s : Nat} {Q : Nat → Int} (hW : spW h h' s Q) (b : Nat) : kd h' b = kd h b := by
  obtain ⟨w1, w2, w3, w4, w5, w6, w7, w8⟩ := hW
  unfold kd kc ow ho
  rw [w1, w4, w5 34 (by decide)]
theorem ls_inj (hD : repD γ h ρ ls ss ks cs V) {i j z : Nat} (h1 : ls[i]? = some z) (h2 : ls[j]? = some z) : i = j := by
  obtain ⟨_, _, _, _, a, _⟩ := hD.2.2 i z h1
  obtain ⟨_, _, _, _, b, _⟩ := hD.2.2 j z h2
  have e1 := a.2.1
  have e2 := b.2.1
  omega
theorem ldR_iff (hD : repD γ h ρ ls ss ks cs V) {v l : Int} {z : Nat} (hv : -1 ≤ v) (al : at' ls l z) : ldR ls v = some z ↔ v = l := by
  have h0 := al.1
  unfold ldR
  constructor
  · intro q
    by_cases w : v = -1
    · rw [if_pos w] at q; cases q
    · rw [if_neg w] at q
      have := ls_inj hD q al.2
      omega
  · intro q
    rw [if_neg (by omega), q]
    exact al.2
variable {l m lo hi : Int}
theorem smW_o {t : Nat} (h1 : t ≠ 134) (h2 : t ≠ 135) : smW V l m lo hi t = V t := by
  unfold smW
  rw [jU_f _ h2, jU_f _ h1]
theorem smW_4 (i : Int) : smW V l m lo hi 134 i = (if i = 5 * l + m then max (V 134 (5 * l + m)) lo else V 134 i) ∧ smW V l m lo hi 135 i = (if i = 5 * l + m then min (V 135 (5 * l + m)) hi else V 135 i) := by
  unfold smW
  constructor
  · rw [jU_f _ (by decide), jU_at]
  · rw [jU_at, jU_f _ (by decide)]
theorem nrP_ev {f g f' g' : Int → Int} {b : Int} (hm : 0 ≤ m ∧ m < 5) (hf : ∀ j, f' j = if j = b + m then max (f (b + m)) lo else f j) (hg : ∀ j, g' j = if j = b + m then min (g (b + m)) hi else g j) (i : Nat) : nrP (evP f g b) m lo hi i = evP f' g' b i := by
  unfold nrP
  have e1 : evP f g b (2 * m).toNat = f (b + m) := by unfold evP; rw [if_pos (by omega), show (((2 * m).toNat / 2 : Nat) : Int) = m by omega]
  have e2 : evP f g b (2 * m + 1).toNat = g (b + m) := by unfold evP; rw [if_neg (by omega), show (((2 * m + 1).toNat / 2 : Nat) : Int) = m by omega]
  rw [e1, e2, Int.max_comm, Int.min_comm]
  exact upS_ev hf hg i
theorem lP_sm (hm : 0 ≤ m ∧ m < 5) (i : Nat) : nrP (lP V l) m lo hi i = lP (smW V l m lo hi) l i := by
  rw [lP_ev, lP_ev]
  exact nrP_ev hm (fun j => (smW_4 j).1) (fun j => (smW_4 j).2) i
theorem lP_sm' {k : Int} (hm : 0 ≤ m ∧ m < 5) (hk : k ≠ l) (i : Nat) (hi' : i < 10) : lP V k i = lP (smW V l m lo hi) k i := by
  unfold lP
  rw [(smW_4 _).1, (smW_4 _).2, if_neg (show ¬ 5 * k + ((i / 2 : Nat) : Int) = 5 * l + m by omega), if_neg (show ¬ 5 * k + ((i / 2 : Nat) : Int) = 5 * l + m by omega)]
theorem yP_eq {y : Int} (hy : V 140 y ≠ -1) : yP V y = lP V (V 140 y) := by
  unfold yP lP lowL highL
  simp only [if_neg hy]
theorem yP_eq' {y : Int} (hy : V 140 y = -1) : yP V y = evP (V 142) (V 143) (5 * y) := by
  unfold yP evP lowL highL
  simp only [if_pos hy]
/-- what a heap's layers are, made narrower -/
theorem yP_sm (hm : 0 ≤ m ∧ m < 5) (hl : 0 ≤ l) {y : Int} (i : Nat) (h10 : i < 10) : (if V 140 y = l then nrP (yP V y) m lo hi else yP V y) i = yP (smW V l m lo hi) y i := by
  have e0 : smW V l m lo hi 140 = V 140 := smW_o (by decide) (by decide)
  by_cases z : V 140 y = l
  · rw [if_pos z, yP_eq (by omega), yP_eq (by rw [e0]; omega), e0, z]
    exact lP_sm hm i
  · rw [if_neg z]
    by_cases w : V 140 y = -1
    · rw [yP_eq' w, yP_eq' (by rw [e0]; exact w), smW_o (t := 142) (by decide) (by decide), smW_o (t := 143) (by decide) (by decide)]
    · rw [yP_eq w, yP_eq (by rw [e0]; exact w), e0]
      exact lP_sm' hm z i h10
end FD

