/-- v moved right by s bits -/
def shB (v s : Int) : Int := if s = 24 then v / 16777216 else if s = 16 then v / 65536 else if s = 8 then v / 256 else v
theorem jI_bv (z : Int) : (jI z).toBitVec = BitVec.ofInt 32 z := rfl
theorem jI_and255 (z : Int) : jI z &&& jI 255 = jI (z % 256) := by
  apply Int32.toBitVec_inj.mp
  rw [Int32.toBitVec_and, jI_bv, jI_bv, jI_bv]
  apply BitVec.eq_of_toNat_eq
  rw [BitVec.toNat_and, BitVec.toNat_ofInt, BitVec.toNat_ofInt, BitVec.toNat_ofInt]
  have e1 : ((255 : Int) % ((2 ^ 32 : Nat) : Int)).toNat = 2 ^ 8 - 1 := by decide
  rw [e1, Nat.and_two_pow_sub_one_eq_mod]
  show (z % 4294967296).toNat % 256 = (z % 256 % 4294967296).toNat
  omega
theorem jI_shr {v s : Int} (hv : r32 v) (hs : s = 24 ∨ s = 16 ∨ s = 8 ∨ s = 0) : jI v >>> (jI s &&& 31) = jI (shB v s) := by
  have key : ∀ (n : Nat) (k : Int32), (k.toBitVec.smod 32).toNat = n → (jI v >>> k).toInt = v / ((2 ^ n : Nat) : Int) := fun n k hk => by
    show (jI v >>> k).toBitVec.toInt = _
    rw [Int32.toBitVec_shiftRight, BitVec.sshiftRight', hk, BitVec.toInt_sshiftRight, show (jI v).toBitVec.toInt = v from jI_toInt hv, Int.shiftRight_eq_div_pow]
  have fin : ∀ z : Int, r32 z → (jI v >>> (jI s &&& 31)).toInt = z → jI v >>> (jI s &&& 31) = jI z := fun z hz e => by
    rw [← Int32.toInt_inj, e, jI_toInt hz]
  unfold shB
  rcases hs with rfl | rfl | rfl | rfl
  · rw [if_pos rfl]
    exact fin _ (by constructor <;> omega) (key 24 _ (by decide))
  · rw [if_neg (by decide), if_pos rfl]
    exact fin _ (by constructor <;> omega) (key 16 _ (by decide))
  · rw [if_neg (by decide), if_neg (by decide), if_pos rfl]
    exact fin _ (by constructor <;> omega) (key 8 _ (by decide))
  · rw [if_neg (by decide), if_neg (by decide), if_neg (by decide)]
    refine fin _ hv ((key 0 _ (by decide)).trans ?_)
    simp
/-- byte k of five ints -/
def fdB (a b c d e k : Int) : Int := shB (if k < 4 then a else if k < 8 then b else if k < 12 then c else if k < 16 then d else e) (24 - 8 * (k % 4)) % 256
def fdV (V : VV) (a b c d e n : Int) : VV := fun t i => if t = 116 ∧ V 16 10 ≤ i ∧ i < V 16 10 + n then fdB a b c d e (i - V 16 10) else if t = 16 ∧ i = 10 then V 16 10 + n else V t i
def sp_feed (V : VV) (a b c d e : Int) : RV := if V 16 10 + 20 ≤ 400 then (V 16 10 + 20, fdV V a b c d e 20) else (-1, V)
def ldV (V : VV) (s k l m : Int) : VV := fun t i => if (t = 134 ∨ t = 135) ∧ 5 * l ≤ i ∧ i < 5 * l + m then (if t = 134 then lowOf V s k (i - 5 * l) else highOf V s k (i - 5 * l)) else V t i
def ldA (V : VV) (s k n d l c g p : Int) : VV := jU (jU (jU (jU (jU (jU (jU (jU (jU V 127 l s) 128 l k) 129 l n) 130 l d) 131 l c) 132 l g) 133 l p) 109 s (V 109 s + n * p)) 16 26 (l + 1)
def ldF (V : VV) (s k : Int) : VV := ldV V s k (V 16 26) 5
def ldC (V : VV) (s : Int) : Int := inF V s (V 16 3) (V 16 11).toNat
def sp_load (V : VV) (s k g n : Int) : RV := if 0 ≤ s ∧ s < V 16 2 then (if 0 ≤ k ∧ k < V 16 1 then (if 0 ≤ g ∧ g < 6 ∧ 1 ≤ n ∧ n ≤ 50 then (if V 16 26 = 100 then (-2, V) else if layAll V = 40 then (-3, V) else if ldC V s = -1 then (-4, V) else if grF (ldF V s k) (ldC V s) (V 16 26) = -1 then (-1, fgV (ldF V s k) (grF (ldF V s k) (ldC V s) (V 16 26)) (payF (ldF V s k) (ldC V s) (V 16 26))) else (V 16 26, putV (ldA (fgV (ldF V s k) (grF (ldF V s k) (ldC V s) (V 16 26)) (payF (ldF V s k) (ldC V s) (V 16 26))) s k n (V 16 3) (V 16 26) (ldC V s) (grF (ldF V s k) (ldC V s) (V 16 26)) (payF (ldF V s k) (ldC V s) (V 16 26))) g n (V 16 26) (payF (ldF V s k) (ldC V s) (V 16 26)) (-1))) else (0, jU V 16 0 2)) else (0, jU V 16 0 1)) else (0, jU V 16 0 1)
def smW (V : VV) (l m lo hi : Int) : VV := jU (jU V 134 (5 * l + m) (max (V 134 (5 * l + m)) lo)) 135 (5 * l + m) (min (V 135 (5 * l + m)) hi)
def smV (V W : VV) (l : Int) : VV := jU (jU (jU (fgV W (grF W (V 131 l) l) (payF W (V 131 l) l)) 109 (V 127 l) (V 109 (V 127 l) + V 129 l * (payF W (V 131 l) l - V 133 l))) 132 l (grF W (V 131 l) l)) 133 l (payF W (V 131 l) l)
def sp_sample (V : VV) (l m lo hi : Int) : RV := if 0 ≤ l ∧ l < V 16 26 then (if (0 ≤ m ∧ m < 5) ∧ 0 ≤ lo ∧ lo ≤ hi ∧ hi ≤ 10000 then (if max (V 134 (5 * l + m)) lo ≤ min (V 135 (5 * l + m)) hi then (1, smV V (smW V l m lo hi) l) else (0, V)) else (0, jU V 16 0 2)) else (0, jU V 16 0 1)
def prV (V : VV) (s k m lo hi : Int) : VV := jU (jU (jU V 106 (ua s k m) ((3 * lowOf V s k m + lo) / 4)) 107 (ua s k m) ((3 * highOf V s k m + hi + 3) / 4)) 108 (ua s k m) 1
section M5
variable {γ : jG} {β : jB} {V : VV}
theorem cm_feed {a b c d e : Int} (B : isB β) (R : isR V) (ha : r32 a) (hb : r32 b) (hc : r32 c) (hd : r32 d) (he : r32 e) : CT γ mX12_feed 0 0 0 [.ref (β.2 16), .int (jI a), .int (jI b), .int (jI c), .int (jI d), .int (jI e)] (jP β V) (mQ β (sp_feed (jU V 16 0 0) a b c d e)) X0 := by
  refine CT.of MX12_feed (Nat.le_of_ble_eq_true rfl) ?_
  show J γ mX12_feed 0 0 0 0 0 (jP β V) 0 [(0, .ref (β.2 16)), (1, .int (jI a)), (2, .int (jI b)), (3, .int (jI c)), (4, .int (jI d)), (5, .int (jI e))] [] _ _
  first | refine J.aload_n (pc' := 1) rfl rfl rfl ?_ | refine J.aload_nN (pc' := 1) rfl rfl rfl ?_
  refine J.iconst (pc' := 2) rfl rfl ?_
  refine J.mpI (pc' := 5) (j := 0) B rfl fl_X12_1 rfl rfl rfl rfl ?_
  have h0 := jU_same V 16 0 0
  replace R : isR (jU V 16 0 0) := R.up (fun _ => by decide)
  generalize jU V 16 0 0 = V at h0 R ⊢
  have hf := R.f
  have key : V 16 10 + 20 ≤ 400 → ∀ (n i : Nat), i + n = 20 → J γ mX12_feed 0 0 0 0 0 (jP β (fdV V a b c d e i)) 23 [(0, .ref (β.2 16)), (1, .int (jI a)), (2, .int (jI b)), (3, .int (jI c)), (4, .int (jI d)), (5, .int (jI e)), (6, .int (jI (i : Int)))] [] (mQ β (sp_feed V a b c d e)) X0 := by
    intro ht n
    induction n with
    | zero =>
      intro i hi
      have e1 : (fdV V a b c d e i) 16 10 = V 16 10 + i := by unfold fdV; rw [if_neg (by omega), if_pos ⟨rfl, rfl⟩]
      refine J.iload (pc' := 25) rfl rfl rfl ?_
      refine J.bipush (pc' := 27) rfl rfl (by decide) ?_
      refine J.icmp_ge (tgt := 120) (pc' := 30) rfl rfl rfl (by first | omega | (exact R.r _ _) | (simp only [jM.len_sI, jM.len_sL, jM.len_sR, jM.len_fI, jM.len_fL, jM.len_fR]; omega) | (simp [jM.len_nw, jM.len_sI, jM.len_sL, jM.len_sR, jM.len_fI, jM.len_fL, jM.len_fR, *]; omega)) (by first | omega | (exact R.r _ _) | (simp only [jM.len_sI, jM.len_sL, jM.len_sR, jM.len_fI, jM.len_fL, jM.len_fR]; omega) | (simp [jM.len_nw, jM.len_sI, jM.len_sL, jM.len_sR, jM.len_fI, jM.len_fL, jM.len_fR, *]; omega)) (fun c1 => ?_) (fun c1 => ?_)
      · first | refine J.aload_n (pc' := 121) rfl rfl rfl ?_ | refine J.aload_nN (pc' := 121) rfl rfl rfl ?_
        refine J.mgI (pc' := 124) (j := 10) B rfl fl_X12_185 rfl rfl rfl ?_
        rw [e1]
        refine J.iret rfl rfl (by first | omega | (exact R.r _ _) | (simp only [jM.len_sI, jM.len_sL, jM.len_sR, jM.len_fI, jM.len_fL, jM.len_fR]; omega) | (simp [jM.len_nw, jM.len_sI, jM.len_sL, jM.len_sR, jM.len_fI, jM.len_fL, jM.len_fR, *]; omega)) (by first | omega | (exact R.r _ _) | (simp only [jM.len_sI, jM.len_sL, jM.len_sR, jM.len_fI, jM.len_fL, jM.len_fR]; omega) | (simp [jM.len_nw, jM.len_sI, jM.len_sL, jM.len_sR, jM.len_fI, jM.len_fL, jM.len_fR, *]; omega)) ?_
        exact mQ.of (by unfold sp_feed; rw [if_pos ht, show i = 20 by omega]; rfl)
      · omega
    | succ n ih =>
      intro i hi
      have e1 : (fdV V a b c d e i) 16 10 = V 16 10 + i := by unfold fdV; rw [if_neg (by omega), if_pos ⟨rfl, rfl⟩]
      have h9 := ih (i + 1) (by omega)
      rw [show ((i + 1 : Nat) : Int) = (i : Int) + 1 by omega] at h9
      have rest : ∀ v : Int, r32 v → v = (if (i : Int) < 4 then a else if (i : Int) < 8 then b else if (i : Int) < 12 then c else if (i : Int) < 16 then d else e) → J γ mX12_feed 0 0 0 0 0 (jP β (fdV V a b c d e i)) 76 [(0, .ref (β.2 16)), (1, .int (jI a)), (2, .int (jI b)), (3, .int (jI c)), (4, .int (jI d)), (5, .int (jI e)), (6, .int (jI (i : Int)))] [.int (jI v)] (mQ β (sp_feed V a b c d e)) X0 := by
        intro v hv ev
        refine J.istore (pc' := 78) rfl rfl (by decide) ?_
        first | refine J.aload_n (pc' := 79) rfl rfl rfl ?_ | refine J.aload_nN (pc' := 79) rfl rfl rfl ?_
        refine J.mgR (pc' := 82) (t := 116) B rfl fl_X12_34 rfl rfl (by decide) rfl ?_
        first | refine J.aload_n (pc' := 83) rfl rfl rfl ?_ | refine J.aload_nN (pc' := 83) rfl rfl rfl ?_
        refine J.mgI (pc' := 86) (j := 10) B rfl fl_X12_185 rfl rfl rfl ?_
        refine J.iload (pc' := 88) rfl rfl rfl ?_
        refine J.bipush (pc' := 90) rfl rfl (by decide) ?_
        refine J.bipush (pc' := 92) rfl rfl (by decide) ?_
        refine J.iload (pc' := 94) rfl rfl rfl ?_
        refine J.iconst (pc' := 95) rfl rfl ?_
        refine J.irem (pc' := 96) rfl rfl (by first | omega | (exact R.r _ _) | (simp only [jM.len_sI, jM.len_sL, jM.len_sR, jM.len_fI, jM.len_fL, jM.len_fR]; omega) | (simp [jM.len_nw, jM.len_sI, jM.len_sL, jM.len_sR, jM.len_fI, jM.len_fL, jM.len_fR, *]; omega)) (by first | omega | (exact R.r _ _) | (simp only [jM.len_sI, jM.len_sL, jM.len_sR, jM.len_fI, jM.len_fL, jM.len_fR]; omega) | (simp [jM.len_nw, jM.len_sI, jM.len_sL, jM.len_sR, jM.len_fI, jM.len_fL, jM.len_fR, *]; omega)) (by first | omega | (exact R.r _ _) | (simp only [jM.len_sI, jM.len_sL, jM.len_sR, jM.len_fI, jM.len_fL, jM.len_fR]; omega) | (simp [jM.len_nw, jM.len_sI, jM.len_sL, jM.len_sR, jM.len_fI, jM.len_fL, jM.len_fR, *]; omega)) ?_
        refine J.imul (pc' := 97) rfl rfl ?_
        refine J.isub (pc' := 98) rfl rfl ?_
        rw [e1, Int.tmod_eq_emod_of_nonneg (by omega)]
        refine J.ishr (shB v (24 - 8 * ((i : Int) % 4))) (pc' := 99) rfl rfl (jI_shr hv (by omega)) ?_
        refine J.sipush (pc' := 102) rfl rfl (by decide) ?_
        refine J.iand (shB v (24 - 8 * ((i : Int) % 4)) % 256) (pc' := 103) rfl rfl (jI_and255 _) ?_
        refine J.mast (pc' := 104) B rfl rfl rfl rfl (by omega) (by simp only [jLn]; omega) rfl ?_
        first | refine J.aload_n (pc' := 105) rfl rfl rfl ?_ | refine J.aload_nN (pc' := 105) rfl rfl rfl ?_
        refine J.dup (pc' := 106) rfl rfl rfl ?_
        refine J.mgI (pc' := 109) (j := 10) B rfl fl_X12_185 rfl rfl rfl ?_
        rw [jU_o _ (by decide), e1]
        refine J.iconst (pc' := 110) rfl rfl ?_
        refine J.iadd (pc' := 111) rfl rfl ?_
        refine J.mpI (pc' := 114) (j := 10) B rfl fl_X12_185 rfl rfl rfl rfl ?_
        refine J.iinc (pc' := 117) rfl rfl rfl (by decide) ?_
        refine J.goto (tgt := 23) rfl rfl ?_
        refine (congrArg (fun W => J γ mX12_feed 0 0 0 0 0 (jP β W) 23 [(0, .ref (β.2 16)), (1, .int (jI a)), (2, .int (jI b)), (3, .int (jI c)), (4, .int (jI d)), (5, .int (jI e)), (6, .int (jI ((i : Int) + 1))), (7, .int (jI v))] [] (mQ β (sp_feed V a b c d e)) X0) ?_).mpr (J.locs (fun q hq => by simp only [List.mem_cons, List.not_mem_nil, or_false] at hq; rcases hq with rfl | rfl | rfl | rfl | rfl | rfl | rfl <;> rfl) h9)
        funext t j
        unfold jU fdV
        by_cases t1 : t = 16 ∧ j = 10
        · rw [if_pos t1, if_neg (by omega), if_pos t1]; omega
        · rw [if_neg t1, if_neg t1, if_neg t1]
          by_cases t2 : t = 116 ∧ j = V 16 10 + i
          · rw [if_pos t2, if_pos (by omega), t2.2, show V 16 10 + (i : Int) - V 16 10 = i by omega, fdB, ← ev]
          · rw [if_neg t2]
            by_cases t3 : t = 116 ∧ V 16 10 ≤ j ∧ j < V 16 10 + (i : Int)
            · rw [if_pos t3, if_pos (by omega)]
            · rw [if_neg t3, if_neg (by omega)]
      refine J.iload (pc' := 25) rfl rfl rfl ?_
      refine J.bipush (pc' := 27) rfl rfl (by decide) ?_
      refine J.icmp_ge (tgt := 120) (pc' := 30) rfl rfl rfl (by first | omega | (exact R.r _ _) | (simp only [jM.len_sI, jM.len_sL, jM.len_sR, jM.len_fI, jM.len_fL, jM.len_fR]; omega) | (simp [jM.len_nw, jM.len_sI, jM.len_sL, jM.len_sR, jM.len_fI, jM.len_fL, jM.len_fR, *]; omega)) (by first | omega | (exact R.r _ _) | (simp only [jM.len_sI, jM.len_sL, jM.len_sR, jM.len_fI, jM.len_fL, jM.len_fR]; omega) | (simp [jM.len_nw, jM.len_sI, jM.len_sL, jM.len_sR, jM.len_fI, jM.len_fL, jM.len_fR, *]; omega)) (fun c27 => ?_) (fun c27 => ?_)
      · first
        | (exfalso; omega)
        | (first | refine J.aload_n (pc' := 121) rfl rfl rfl ?_ | refine J.aload_nN (pc' := 121) rfl rfl rfl ?_
           refine J.mgI (pc' := 124) (j := 10) B rfl fl_X12_185 rfl rfl rfl ?_
           refine J.iret rfl rfl (by first | omega | (exact R.r _ _) | (simp only [jM.len_sI, jM.len_sL, jM.len_sR, jM.len_fI, jM.len_fL, jM.len_fR]; omega) | (simp [jM.len_nw, jM.len_sI, jM.len_sL, jM.len_sR, jM.len_fI, jM.len_fL, jM.len_fR, *]; omega)) (by first | omega | (exact R.r _ _) | (simp only [jM.len_sI, jM.len_sL, jM.len_sR, jM.len_fI, jM.len_fL, jM.len_fR]; omega) | (simp [jM.len_nw, jM.len_sI, jM.len_sL, jM.len_sR, jM.len_fI, jM.len_fL, jM.len_fR, *]; omega)) ?_
           exact ⟨rfl, rfl⟩)
      · first
        | (exfalso; omega)
        | (refine J.iload (pc' := 32) rfl rfl rfl ?_
           refine J.iconst (pc' := 33) rfl rfl ?_
           refine J.icmp_ge (tgt := 40) (pc' := 36) rfl rfl rfl (by first | omega | (exact R.r _ _) | (simp only [jM.len_sI, jM.len_sL, jM.len_sR, jM.len_fI, jM.len_fL, jM.len_fR]; omega) | (simp [jM.len_nw, jM.len_sI, jM.len_sL, jM.len_sR, jM.len_fI, jM.len_fL, jM.len_fR, *]; omega)) (by first | omega | (exact R.r _ _) | (simp only [jM.len_sI, jM.len_sL, jM.len_sR, jM.len_fI, jM.len_fL, jM.len_fR]; omega) | (simp [jM.len_nw, jM.len_sI, jM.len_sL, jM.len_sR, jM.len_fI, jM.len_fL, jM.len_fR, *]; omega)) (fun c33 => ?_) (fun c33 => ?_)
           · first
             | (exfalso; omega)
             | (refine J.iload (pc' := 42) rfl rfl rfl ?_
                refine J.bipush (pc' := 44) rfl rfl (by decide) ?_
                refine J.icmp_ge (tgt := 51) (pc' := 47) rfl rfl rfl (by first | omega | (exact R.r _ _) | (simp only [jM.len_sI, jM.len_sL, jM.len_sR, jM.len_fI, jM.len_fL, jM.len_fR]; omega) | (simp [jM.len_nw, jM.len_sI, jM.len_sL, jM.len_sR, jM.len_fI, jM.len_fL, jM.len_fR, *]; omega)) (by first | omega | (exact R.r _ _) | (simp only [jM.len_sI, jM.len_sL, jM.len_sR, jM.len_fI, jM.len_fL, jM.len_fR]; omega) | (simp [jM.len_nw, jM.len_sI, jM.len_sL, jM.len_sR, jM.len_fI, jM.len_fL, jM.len_fR, *]; omega)) (fun c44 => ?_) (fun c44 => ?_)
                · first
                  | (exfalso; omega)
                  | (refine J.iload (pc' := 53) rfl rfl rfl ?_
                     refine J.bipush (pc' := 55) rfl rfl (by decide) ?_
                     refine J.icmp_ge (tgt := 62) (pc' := 58) rfl rfl rfl (by first | omega | (exact R.r _ _) | (simp only [jM.len_sI, jM.len_sL, jM.len_sR, jM.len_fI, jM.len_fL, jM.len_fR]; omega) | (simp [jM.len_nw, jM.len_sI, jM.len_sL, jM.len_sR, jM.len_fI, jM.len_fL, jM.len_fR, *]; omega)) (by first | omega | (exact R.r _ _) | (simp only [jM.len_sI, jM.len_sL, jM.len_sR, jM.len_fI, jM.len_fL, jM.len_fR]; omega) | (simp [jM.len_nw, jM.len_sI, jM.len_sL, jM.len_sR, jM.len_fI, jM.len_fL, jM.len_fR, *]; omega)) (fun c55 => ?_) (fun c55 => ?_)
                     · first
                       | (exfalso; omega)
                       | (refine J.iload (pc' := 64) rfl rfl rfl ?_
                          refine J.bipush (pc' := 66) rfl rfl (by decide) ?_
                          refine J.icmp_ge (tgt := 74) (pc' := 69) rfl rfl rfl (by first | omega | (exact R.r _ _) | (simp only [jM.len_sI, jM.len_sL, jM.len_sR, jM.len_fI, jM.len_fL, jM.len_fR]; omega) | (simp [jM.len_nw, jM.len_sI, jM.len_sL, jM.len_sR, jM.len_fI, jM.len_fL, jM.len_fR, *]; omega)) (by first | omega | (exact R.r _ _) | (simp only [jM.len_sI, jM.len_sL, jM.len_sR, jM.len_fI, jM.len_fL, jM.len_fR]; omega) | (simp [jM.len_nw, jM.len_sI, jM.len_sL, jM.len_sR, jM.len_fI, jM.len_fL, jM.len_fR, *]; omega)) (fun c66 => ?_) (fun c66 => ?_)
                          · first
                            | (exfalso; omega)
                            | (refine J.iload (pc' := 76) rfl rfl rfl ?_
                               exact rest _ (by assumption) (by (repeat (first | rw [if_pos (by omega)] | rw [if_neg (by omega)]))))
                          · first
                            | (exfalso; omega)
                            | (refine J.iload (pc' := 71) rfl rfl rfl ?_
                               refine J.goto (tgt := 76) rfl rfl ?_
                               exact rest _ (by assumption) (by (repeat (first | rw [if_pos (by omega)] | rw [if_neg (by omega)])))))
                     · first
                       | (exfalso; omega)
                       | (refine J.iload_n (pc' := 59) rfl rfl rfl ?_
                          refine J.goto (tgt := 76) rfl rfl ?_
                          exact rest _ (by assumption) (by (repeat (first | rw [if_pos (by omega)] | rw [if_neg (by omega)])))))
                · first
                  | (exfalso; omega)
                  | (refine J.iload_n (pc' := 48) rfl rfl rfl ?_
                     refine J.goto (tgt := 76) rfl rfl ?_
                     exact rest _ (by assumption) (by (repeat (first | rw [if_pos (by omega)] | rw [if_neg (by omega)])))))
           · first
             | (exfalso; omega)
             | (refine J.iload_n (pc' := 37) rfl rfl rfl ?_
                refine J.goto (tgt := 76) rfl rfl ?_
                exact rest _ (by assumption) (by (repeat (first | rw [if_pos (by omega)] | rw [if_neg (by omega)])))))
  first | refine J.aload_n (pc' := 6) rfl rfl rfl ?_ | refine J.aload_nN (pc' := 6) rfl rfl rfl ?_
  refine J.mgI (pc' := 9) (j := 10) B rfl fl_X12_185 rfl rfl rfl ?_
  refine J.bipush (pc' := 11) rfl rfl (by decide) ?_
  refine J.iadd (pc' := 12) rfl rfl ?_
  refine J.sipush (pc' := 15) rfl rfl (by decide) ?_
  refine J.icmp_le (tgt := 20) (pc' := 18) rfl rfl rfl (by first | omega | (exact R.r _ _) | (simp only [jM.len_sI, jM.len_sL, jM.len_sR, jM.len_fI, jM.len_fL, jM.len_fR]; omega) | (simp [jM.len_nw, jM.len_sI, jM.len_sL, jM.len_sR, jM.len_fI, jM.len_fL, jM.len_fR, *]; omega)) (by first | omega | (exact R.r _ _) | (simp only [jM.len_sI, jM.len_sL, jM.len_sR, jM.len_fI, jM.len_fL, jM.len_fR]; omega) | (simp [jM.len_nw, jM.len_sI, jM.len_sL, jM.len_sR, jM.len_fI, jM.len_fL, jM.len_fR, *]; omega)) (fun c15 => ?_) (fun c15 => ?_)
  · first
    | (exfalso; omega)
    | (refine J.iconst (pc' := 21) rfl rfl ?_
       refine J.istore (pc' := 23) rfl rfl (by decide) ?_
       have h9 := key (by omega) 20 0 (by omega)
       rw [show fdV V a b c d e ((0 : Nat) : Int) = V by funext t i; unfold fdV; rw [if_neg (by omega)]; split; rename_i q; rw [q.1, q.2]; simp; rfl] at h9
       exact h9)
  · first
    | (exfalso; omega)
    | (refine J.iconst (pc' := 19) rfl rfl ?_
       refine J.iret rfl rfl (by first | omega | (exact R.r _ _) | (simp only [jM.len_sI, jM.len_sL, jM.len_sR, jM.len_fI, jM.len_fL, jM.len_fR]; omega) | (simp [jM.len_nw, jM.len_sI, jM.len_sL, jM.len_sR, jM.len_fI, jM.len_fL, jM.len_fR, *]; omega)) (by first | omega | (exact R.r _ _) | (simp only [jM.len_sI, jM.len_sL, jM.len_sR, jM.len_fI, jM.len_fL, jM.len_fR]; omega) | (simp [jM.len_nw, jM.len_sI, jM.len_sL, jM.len_sR, jM.len_fI, jM.len_fL, jM.len_fR, *]; omega)) ?_
       exact mQ.of (by unfold sp_feed; (repeat (first | rw [if_pos (by omega)] | rw [if_neg (by omega)]))))
theorem putA_o {g n l c : Int} {t : Nat} {i : Int} (h : t ≠ 139) (h2 : t ≠ 140) (h3 : t ≠ 141) : putA V g n l c t i = V t i := by
  unfold putA
  rw [jU_o _ h3, jU_o _ h2, jU_o _ h]
theorem cm_put {g n l c like : Int} (B : isB β) (R : isR V) (hg : 0 ≤ g ∧ g < 6) (hl : like = -1 ∨ 0 ≤ like ∧ like < 246) : CT γ mX12_put 0 0 0 [.ref (β.2 16), .int (jI g), .int (jI n), .int (jI l), .int (jI c), .int (jI like)] (jP β V) (fun r h' => r = none ∧ h' = jP β (putV V g n l c like)) X0 := by
  have hm := R 138 g rfl
  simp [jLo, jHi] at hm
  refine CT.of MX12_put (Nat.le_of_ble_eq_true rfl) ?_
  show J γ mX12_put 0 0 0 0 0 (jP β V) 0 [(0, .ref (β.2 16)), (1, .int (jI g)), (2, .int (jI n)), (3, .int (jI l)), (4, .int (jI c)), (5, .int (jI like))] [] _ _
  refine J.bipush (pc' := 2) rfl rfl (by decide) ?_
  refine J.iload_n (pc' := 3) rfl rfl rfl ?_
  refine J.imul (pc' := 4) rfl rfl ?_
  first | refine J.aload_n (pc' := 5) rfl rfl rfl ?_ | refine J.aload_nN (pc' := 5) rfl rfl rfl ?_
  refine J.mgR (pc' := 8) (t := 138) B rfl fl_X12_91 rfl rfl (by decide) rfl ?_
  refine J.iload_n (pc' := 9) rfl rfl rfl ?_
  refine J.mald (pc' := 10) B rfl rfl rfl (by omega) (by simp only [jLn]; omega) rfl ?_
  refine J.iadd (pc' := 11) rfl rfl ?_
  refine J.istore (pc' := 13) rfl rfl (by decide) ?_
  first | refine J.aload_n (pc' := 14) rfl rfl rfl ?_ | refine J.aload_nN (pc' := 14) rfl rfl rfl ?_
  refine J.mgR (pc' := 17) (t := 139) B rfl fl_X12_94 rfl rfl (by decide) rfl ?_
  refine J.iload (pc' := 19) rfl rfl rfl ?_
  refine J.iload_n (pc' := 20) rfl rfl rfl ?_
  refine J.mast (pc' := 21) B rfl rfl rfl rfl (by omega) (by simp only [jLn]; omega) rfl ?_
  first | refine J.aload_n (pc' := 22) rfl rfl rfl ?_ | refine J.aload_nN (pc' := 22) rfl rfl rfl ?_
  refine J.mgR (pc' := 25) (t := 140) B rfl fl_X12_97 rfl rfl (by decide) rfl ?_
  refine J.iload (pc' := 27) rfl rfl rfl ?_
  refine J.iload_n (pc' := 28) rfl rfl rfl ?_
  refine J.mast (pc' := 29) B rfl rfl rfl rfl (by omega) (by simp only [jLn]; omega) rfl ?_
  first | refine J.aload_n (pc' := 30) rfl rfl rfl ?_ | refine J.aload_nN (pc' := 30) rfl rfl rfl ?_
  refine J.mgR (pc' := 33) (t := 141) B rfl fl_X12_100 rfl rfl (by decide) rfl ?_
  refine J.iload (pc' := 35) rfl rfl rfl ?_
  refine J.iload (pc' := 37) rfl rfl rfl ?_
  refine J.mast (pc' := 38) B rfl rfl rfl rfl (by omega) (by simp only [jLn]; omega) rfl ?_
  refine J.iconst (pc' := 39) rfl rfl ?_
  refine J.istore (pc' := 41) rfl rfl (by decide) ?_
  show J γ mX12_put 0 0 0 0 0 (jP β (putA V g n l c)) 41 [(0, .ref (β.2 16)), (1, .int (jI g)), (2, .int (jI n)), (3, .int (jI l)), (4, .int (jI c)), (5, .int (jI like)), (6, .int (jI (41 * g + V 138 g))), (7, .int (jI 0))] [] _ _
  have fin : ∀ W : VV, W 138 g = V 138 g → jU W 138 g (V 138 g + 1) = putV V g n l c like → ∀ i : Int, J γ mX12_put 0 0 0 0 0 (jP β W) 107 [(0, .ref (β.2 16)), (1, .int (jI g)), (2, .int (jI n)), (3, .int (jI l)), (4, .int (jI c)), (5, .int (jI like)), (6, .int (jI (41 * g + V 138 g))), (7, .int (jI i))] [] (fun r h' => r = none ∧ h' = jP β (putV V g n l c like)) X0 := by
    intro W e1 e2 i
    first | refine J.aload_n (pc' := 108) rfl rfl rfl ?_ | refine J.aload_nN (pc' := 108) rfl rfl rfl ?_
    refine J.mgR (pc' := 111) (t := 138) B rfl fl_X12_91 rfl rfl (by decide) rfl ?_
    refine J.iload_n (pc' := 112) rfl rfl rfl ?_
    first | refine J.dup2 (pc' := 113) rfl rfl rfl rfl ?_ | refine J.dup2L (pc' := 113) rfl rfl rfl ?_
    refine J.mald (pc' := 114) B rfl rfl rfl (by omega) (by simp only [jLn]; omega) rfl ?_
    rw [e1]
    refine J.iconst (pc' := 115) rfl rfl ?_
    refine J.iadd (pc' := 116) rfl rfl ?_
    refine J.mast (pc' := 117) B rfl rfl rfl rfl (by omega) (by simp only [jLn]; omega) rfl ?_
    refine J.vret rfl rfl (by first | omega | (exact R.r _ _) | (simp only [jM.len_sI, jM.len_sL, jM.len_sR, jM.len_fI, jM.len_fL, jM.len_fR]; omega) | (simp [jM.len_nw, jM.len_sI, jM.len_sL, jM.len_sR, jM.len_fI, jM.len_fL, jM.len_fR, *]; omega)) (by first | omega | (exact R.r _ _) | (simp only [jM.len_sI, jM.len_sL, jM.len_sR, jM.len_fI, jM.len_fL, jM.len_fR]; omega) | (simp [jM.len_nw, jM.len_sI, jM.len_sL, jM.len_sR, jM.len_fI, jM.len_fL, jM.len_fR, *]; omega)) ?_
    rw [e2]
    exact ⟨rfl, rfl⟩
  rcases hl with rfl | hl
  · refine J.iload (pc' := 43) rfl rfl rfl ?_
    refine J.iconst (pc' := 44) rfl rfl ?_
    refine J.icmp_ge (tgt := 107) (pc' := 47) rfl rfl rfl (by first | omega | (exact R.r _ _) | (simp only [jM.len_sI, jM.len_sL, jM.len_sR, jM.len_fI, jM.len_fL, jM.len_fR]; omega) | (simp [jM.len_nw, jM.len_sI, jM.len_sL, jM.len_sR, jM.len_fI, jM.len_fL, jM.len_fR, *]; omega)) (by first | omega | (exact R.r _ _) | (simp only [jM.len_sI, jM.len_sL, jM.len_sR, jM.len_fI, jM.len_fL, jM.len_fR]; omega) | (simp [jM.len_nw, jM.len_sI, jM.len_sL, jM.len_sR, jM.len_fI, jM.len_fL, jM.len_fR, *]; omega)) (fun c1 => ?_) (fun c1 => ?_)
    · omega
    · refine J.iload (pc' := 49) rfl rfl rfl ?_
      refine J.iconst (pc' := 50) rfl rfl ?_
      refine J.icmp_eq (tgt := 107) (pc' := 53) rfl rfl rfl (by first | omega | (exact R.r _ _) | (simp only [jM.len_sI, jM.len_sL, jM.len_sR, jM.len_fI, jM.len_fL, jM.len_fR]; omega) | (simp [jM.len_nw, jM.len_sI, jM.len_sL, jM.len_sR, jM.len_fI, jM.len_fL, jM.len_fR, *]; omega)) (by first | omega | (exact R.r _ _) | (simp only [jM.len_sI, jM.len_sL, jM.len_sR, jM.len_fI, jM.len_fL, jM.len_fR]; omega) | (simp [jM.len_nw, jM.len_sI, jM.len_sL, jM.len_sR, jM.len_fI, jM.len_fL, jM.len_fR, *]; omega)) (fun c2 => ?_) (fun c2 => ?_)
      · exact fin _ (putA_o (by decide) (by decide) (by decide)) (by unfold putV; rw [if_pos rfl]) _
      · omega
  · have key : ∀ (m i : Nat), i + m = 5 → J γ mX12_put 0 0 0 0 0 (jP β (putC (putA V g n l c) (41 * g + V 138 g) like i)) 41 [(0, .ref (β.2 16)), (1, .int (jI g)), (2, .int (jI n)), (3, .int (jI l)), (4, .int (jI c)), (5, .int (jI like)), (6, .int (jI (41 * g + V 138 g))), (7, .int (jI (i : Int)))] [] (fun r h' => r = none ∧ h' = jP β (putV V g n l c like)) X0 := by
      intro m
      induction m with
      | zero =>
        intro i hi
        refine J.iload (pc' := 43) rfl rfl rfl ?_
        refine J.iconst (pc' := 44) rfl rfl ?_
        refine J.icmp_ge (tgt := 107) (pc' := 47) rfl rfl rfl (by first | omega | (exact R.r _ _) | (simp only [jM.len_sI, jM.len_sL, jM.len_sR, jM.len_fI, jM.len_fL, jM.len_fR]; omega) | (simp [jM.len_nw, jM.len_sI, jM.len_sL, jM.len_sR, jM.len_fI, jM.len_fL, jM.len_fR, *]; omega)) (by first | omega | (exact R.r _ _) | (simp only [jM.len_sI, jM.len_sL, jM.len_sR, jM.len_fI, jM.len_fL, jM.len_fR]; omega) | (simp [jM.len_nw, jM.len_sI, jM.len_sL, jM.len_sR, jM.len_fI, jM.len_fL, jM.len_fR, *]; omega)) (fun c1 => ?_) (fun c1 => ?_)
        · refine fin _ ?_ ?_ _
          · unfold putC
            rw [if_neg (by omega)]
            exact putA_o (by decide) (by decide) (by decide)
          · unfold putV
            rw [if_neg (by omega), show i = 5 by omega]
            rfl
        · omega
      | succ m ih =>
        intro i hi
        have h9 := ih (i + 1) (by omega)
        rw [show ((i + 1 : Nat) : Int) = (i : Int) + 1 by omega] at h9
        refine J.iload (pc' := 43) rfl rfl rfl ?_
        refine J.iconst (pc' := 44) rfl rfl ?_
        refine J.icmp_ge (tgt := 107) (pc' := 47) rfl rfl rfl (by first | omega | (exact R.r _ _) | (simp only [jM.len_sI, jM.len_sL, jM.len_sR, jM.len_fI, jM.len_fL, jM.len_fR]; omega) | (simp [jM.len_nw, jM.len_sI, jM.len_sL, jM.len_sR, jM.len_fI, jM.len_fL, jM.len_fR, *]; omega)) (by first | omega | (exact R.r _ _) | (simp only [jM.len_sI, jM.len_sL, jM.len_sR, jM.len_fI, jM.len_fL, jM.len_fR]; omega) | (simp [jM.len_nw, jM.len_sI, jM.len_sL, jM.len_sR, jM.len_fI, jM.len_fL, jM.len_fR, *]; omega)) (fun c1 => ?_) (fun c1 => ?_)
        · omega
        · refine J.iload (pc' := 49) rfl rfl rfl ?_
          refine J.iconst (pc' := 50) rfl rfl ?_
          refine J.icmp_eq (tgt := 107) (pc' := 53) rfl rfl rfl (by first | omega | (exact R.r _ _) | (simp only [jM.len_sI, jM.len_sL, jM.len_sR, jM.len_fI, jM.len_fL, jM.len_fR]; omega) | (simp [jM.len_nw, jM.len_sI, jM.len_sL, jM.len_sR, jM.len_fI, jM.len_fL, jM.len_fR, *]; omega)) (by first | omega | (exact R.r _ _) | (simp only [jM.len_sI, jM.len_sL, jM.len_sR, jM.len_fI, jM.len_fL, jM.len_fR]; omega) | (simp [jM.len_nw, jM.len_sI, jM.len_sL, jM.len_sR, jM.len_fI, jM.len_fL, jM.len_fR, *]; omega)) (fun c2 => ?_) (fun c2 => ?_)
          · omega
          · first | refine J.aload_n (pc' := 54) rfl rfl rfl ?_ | refine J.aload_nN (pc' := 54) rfl rfl rfl ?_
            refine J.mgR (pc' := 57) (t := 142) B rfl fl_X12_103 rfl rfl (by decide) rfl ?_
            refine J.iconst (pc' := 58) rfl rfl ?_
            refine J.iload (pc' := 60) rfl rfl rfl ?_
            refine J.imul (pc' := 61) rfl rfl ?_
            refine J.iload (pc' := 63) rfl rfl rfl ?_
            refine J.iadd (pc' := 64) rfl rfl ?_
            first | refine J.aload_n (pc' := 65) rfl rfl rfl ?_ | refine J.aload_nN (pc' := 65) rfl rfl rfl ?_
            refine J.mgR (pc' := 68) (t := 142) B rfl fl_X12_103 rfl rfl (by decide) rfl ?_
            refine J.iconst (pc' := 69) rfl rfl ?_
            refine J.iload (pc' := 71) rfl rfl rfl ?_
            refine J.imul (pc' := 72) rfl rfl ?_
            refine J.iload (pc' := 74) rfl rfl rfl ?_
            refine J.iadd (pc' := 75) rfl rfl ?_
            refine J.mald (pc' := 76) B rfl rfl rfl (by omega) (by simp only [jLn]; omega) rfl ?_
            refine J.mast (pc' := 77) B rfl rfl rfl rfl (by omega) (by simp only [jLn]; omega) rfl ?_
            first | refine J.aload_n (pc' := 78) rfl rfl rfl ?_ | refine J.aload_nN (pc' := 78) rfl rfl rfl ?_
            refine J.mgR (pc' := 81) (t := 143) B rfl fl_X12_106 rfl rfl (by decide) rfl ?_
            refine J.iconst (pc' := 82) rfl rfl ?_
            refine J.iload (pc' := 84) rfl rfl rfl ?_
            refine J.imul (pc' := 85) rfl rfl ?_
            refine J.iload (pc' := 87) rfl rfl rfl ?_
            refine J.iadd (pc' := 88) rfl rfl ?_
            first | refine J.aload_n (pc' := 89) rfl rfl rfl ?_ | refine J.aload_nN (pc' := 89) rfl rfl rfl ?_
            refine J.mgR (pc' := 92) (t := 143) B rfl fl_X12_106 rfl rfl (by decide) rfl ?_
            refine J.iconst (pc' := 93) rfl rfl ?_
            refine J.iload (pc' := 95) rfl rfl rfl ?_
            refine J.imul (pc' := 96) rfl rfl ?_
            refine J.iload (pc' := 98) rfl rfl rfl ?_
            refine J.iadd (pc' := 99) rfl rfl ?_
            refine J.mald (pc' := 100) B rfl rfl rfl (by omega) (by simp only [jLn]; omega) rfl ?_
            refine J.mast (pc' := 101) B rfl rfl rfl rfl (by omega) (by simp only [jLn]; omega) rfl ?_
            refine J.iinc (pc' := 104) rfl rfl rfl (by decide) ?_
            refine J.goto (tgt := 41) rfl rfl ?_
            refine (congrArg (fun W => J γ mX12_put 0 0 0 0 0 (jP β W) 41 [(0, .ref (β.2 16)), (1, .int (jI g)), (2, .int (jI n)), (3, .int (jI l)), (4, .int (jI c)), (5, .int (jI like)), (6, .int (jI (41 * g + V 138 g))), (7, .int (jI ((i : Int) + 1)))] [] (fun r h' => r = none ∧ h' = jP β (putV V g n l c like)) X0) ?_).mpr h9
            generalize putA V g n l c = W
            have q1 : putC W (41 * g + V 138 g) like i 142 (5 * like + i) = W 142 (5 * like + i) := by unfold putC; rw [if_neg (by omega)]
            have q2 : putC W (41 * g + V 138 g) like i 143 (5 * like + i) = W 143 (5 * like + i) := by unfold putC; rw [if_neg (by omega)]
            rw [jU_o _ (by decide), q1, q2]
            funext t j
            unfold jU putC
            by_cases t1 : t = 143 ∧ j = 5 * (41 * g + V 138 g) + i
            · rw [if_pos t1, if_pos (by omega), t1.1, show j - 5 * (41 * g + V 138 g) + 5 * like = 5 * like + i by omega]
            · rw [if_neg t1]
              by_cases t2 : t = 142 ∧ j = 5 * (41 * g + V 138 g) + i
              · rw [if_pos t2, if_pos (by omega), t2.1, show j - 5 * (41 * g + V 138 g) + 5 * like = 5 * like + i by omega]
              · rw [if_neg t2]
                by_cases t3 : (t = 142 ∨ t = 143) ∧ 5 * (41 * g + V 138 g) ≤ j ∧ j < 5 * (41 * g + V 138 g) + (i : Int)
                · rw [if_pos t3, if_pos (by omega)]
                · rw [if_neg t3, if_neg (by omega)]
    have h9 := key 5 0 (by omega)
    rw [show putC (putA V g n l c) (41 * g + V 138 g) like ((0 : Nat) : Int) = putA V g n l c by funext t i; unfold putC; rw [if_neg (by omega)]] at h9
    exact h9
theorem low_b {s k m : Int} (R : isR V) : (0 ≤ lowOf V s k m ∧ lowOf V s k m ≤ 10000) ∧ (0 ≤ highOf V s k m ∧ highOf V s k m ≤ 10000) := by
  have h1 := R 104 (5 * k + m) rfl
  have h2 := R 105 (5 * k + m) rfl
  have h3 := R 106 (ua s k m) rfl
  have h4 := R 107 (ua s k m) rfl
  simp [jLo, jHi] at h1 h2 h3 h4
  unfold lowOf highOf
  split <;> omega
theorem cm_putRight {s k m lo hi : Int} (B : isB β) (R : isR V) (hs : 0 ≤ s ∧ s < 8) (hk : 0 ≤ k ∧ k < 10) (hm : 0 ≤ m ∧ m < 5) (h1 : 0 ≤ lo ∧ lo ≤ 10000) (h2 : 0 ≤ hi ∧ hi ≤ 10000) : CT γ mX12_putRight 2 0 0 [.ref (β.2 16), .int (jI s), .int (jI k), .int (jI m), .int (jI lo), .int (jI hi)] (jP β V) (fun r h' => r = none ∧ h' = jP β (prV V s k m lo hi)) X0 := by
  have hu : 0 ≤ ua s k m ∧ ua s k m < 400 := by unfold ua; omega
  have hb := low_b (s := s) (k := k) (m := m) R
  refine CT.of MX12_putRight (Nat.le_of_ble_eq_true rfl) ?_
  show J γ mX12_putRight 2 0 0 0 0 (jP β V) 0 [(0, .ref (β.2 16)), (1, .int (jI s)), (2, .int (jI k)), (3, .int (jI m)), (4, .int (jI lo)), (5, .int (jI hi))] [] _ _
  refine J.iload_n (pc' := 1) rfl rfl rfl ?_
  refine J.iload_n (pc' := 2) rfl rfl rfl ?_
  refine J.iload_n (pc' := 3) rfl rfl rfl ?_
  refine J.callS (pc' := 6) rfl MX12_usualAt ml_X12_172 is_X12_usualAt cm_usualAt rfl rfl (Nat.le_of_ble_eq_true rfl) (by first | omega | (exact R.r _ _) | (simp only [jM.len_sI, jM.len_sL, jM.len_sR, jM.len_fI, jM.len_fL, jM.len_fR]; omega) | (simp [jM.len_nw, jM.len_sI, jM.len_sL, jM.len_sR, jM.len_fI, jM.len_fL, jM.len_fR, *]; omega)) (by first | omega | (exact R.r _ _) | (simp only [jM.len_sI, jM.len_sL, jM.len_sR, jM.len_fI, jM.len_fL, jM.len_fR]; omega) | (simp [jM.len_nw, jM.len_sI, jM.len_sL, jM.len_sR, jM.len_fI, jM.len_fL, jM.len_fR, *]; omega)) (by first | omega | (exact R.r _ _) | (simp only [jM.len_sI, jM.len_sL, jM.len_sR, jM.len_fI, jM.len_fL, jM.len_fR]; omega) | (simp [jM.len_nw, jM.len_sI, jM.len_sL, jM.len_sR, jM.len_fI, jM.len_fL, jM.len_fR, *]; omega)) rfl rfl ?_ ?_
  · exact fun _ _ h => h
  rintro _ _ ⟨rfl, rfl⟩
  refine J.istore (pc' := 8) rfl rfl (by decide) ?_
  first | refine J.aload_n (pc' := 9) rfl rfl rfl ?_ | refine J.aload_nN (pc' := 9) rfl rfl rfl ?_
  refine J.iload_n (pc' := 10) rfl rfl rfl ?_
  refine J.iload_n (pc' := 11) rfl rfl rfl ?_
  refine J.iload_n (pc' := 12) rfl rfl rfl ?_
  refine J.callV (pc' := 15) (t := 16) rfl MX12_lowOf ml_X12_179 iv_X12_lowOf (by decide) ⟨_, rfl, rfl⟩ B.1 (cm_lowOf B R hs hk hm) rfl rfl (Nat.le_of_ble_eq_true rfl) (by first | omega | (exact R.r _ _) | (simp only [jM.len_sI, jM.len_sL, jM.len_sR, jM.len_fI, jM.len_fL, jM.len_fR]; omega) | (simp [jM.len_nw, jM.len_sI, jM.len_sL, jM.len_sR, jM.len_fI, jM.len_fL, jM.len_fR, *]; omega)) (by first | omega | (exact R.r _ _) | (simp only [jM.len_sI, jM.len_sL, jM.len_sR, jM.len_fI, jM.len_fL, jM.len_fR]; omega) | (simp [jM.len_nw, jM.len_sI, jM.len_sL, jM.len_sR, jM.len_fI, jM.len_fL, jM.len_fR, *]; omega)) (by first | omega | (exact R.r _ _) | (simp only [jM.len_sI, jM.len_sL, jM.len_sR, jM.len_fI, jM.len_fL, jM.len_fR]; omega) | (simp [jM.len_nw, jM.len_sI, jM.len_sL, jM.len_sR, jM.len_fI, jM.len_fL, jM.len_fR, *]; omega)) rfl rfl ?_ ?_
  · exact fun _ _ h => h
  rintro _ _ ⟨rfl, rfl⟩
  refine J.istore (pc' := 17) rfl rfl (by decide) ?_
  first | refine J.aload_n (pc' := 18) rfl rfl rfl ?_ | refine J.aload_nN (pc' := 18) rfl rfl rfl ?_
  refine J.iload_n (pc' := 19) rfl rfl rfl ?_
  refine J.iload_n (pc' := 20) rfl rfl rfl ?_
  refine J.iload_n (pc' := 21) rfl rfl rfl ?_
  refine J.callV (pc' := 24) (t := 16) rfl MX12_highOf ml_X12_182 iv_X12_highOf (by decide) ⟨_, rfl, rfl⟩ B.1 (cm_highOf B R hs hk hm) rfl rfl (Nat.le_of_ble_eq_true rfl) (by first | omega | (exact R.r _ _) | (simp only [jM.len_sI, jM.len_sL, jM.len_sR, jM.len_fI, jM.len_fL, jM.len_fR]; omega) | (simp [jM.len_nw, jM.len_sI, jM.len_sL, jM.len_sR, jM.len_fI, jM.len_fL, jM.len_fR, *]; omega)) (by first | omega | (exact R.r _ _) | (simp only [jM.len_sI, jM.len_sL, jM.len_sR, jM.len_fI, jM.len_fL, jM.len_fR]; omega) | (simp [jM.len_nw, jM.len_sI, jM.len_sL, jM.len_sR, jM.len_fI, jM.len_fL, jM.len_fR, *]; omega)) (by first | omega | (exact R.r _ _) | (simp only [jM.len_sI, jM.len_sL, jM.len_sR, jM.len_fI, jM.len_fL, jM.len_fR]; omega) | (simp [jM.len_nw, jM.len_sI, jM.len_sL, jM.len_sR, jM.len_fI, jM.len_fL, jM.len_fR, *]; omega)) rfl rfl ?_ ?_
  · exact fun _ _ h => h
  rintro _ _ ⟨rfl, rfl⟩
  refine J.istore (pc' := 26) rfl rfl (by decide) ?_
  first | refine J.aload_n (pc' := 27) rfl rfl rfl ?_ | refine J.aload_nN (pc' := 27) rfl rfl rfl ?_
  refine J.mgR (pc' := 30) (t := 106) B rfl fl_X12_20 rfl rfl (by decide) rfl ?_
  refine J.iload (pc' := 32) rfl rfl rfl ?_
  refine J.iconst (pc' := 33) rfl rfl ?_
  refine J.iload (pc' := 35) rfl rfl rfl ?_
  refine J.imul (pc' := 36) rfl rfl ?_
  refine J.iload (pc' := 38) rfl rfl rfl ?_
  refine J.iadd (pc' := 39) rfl rfl ?_
  refine J.iconst (pc' := 40) rfl rfl ?_
  refine J.idiv (pc' := 41) rfl rfl (by first | omega | (exact R.r _ _) | (simp only [jM.len_sI, jM.len_sL, jM.len_sR, jM.len_fI, jM.len_fL, jM.len_fR]; omega) | (simp [jM.len_nw, jM.len_sI, jM.len_sL, jM.len_sR, jM.len_fI, jM.len_fL, jM.len_fR, *]; omega)) (by first | omega | (exact R.r _ _) | (simp only [jM.len_sI, jM.len_sL, jM.len_sR, jM.len_fI, jM.len_fL, jM.len_fR]; omega) | (simp [jM.len_nw, jM.len_sI, jM.len_sL, jM.len_sR, jM.len_fI, jM.len_fL, jM.len_fR, *]; omega)) (by first | omega | (exact R.r _ _) | (simp only [jM.len_sI, jM.len_sL, jM.len_sR, jM.len_fI, jM.len_fL, jM.len_fR]; omega) | (simp [jM.len_nw, jM.len_sI, jM.len_sL, jM.len_sR, jM.len_fI, jM.len_fL, jM.len_fR, *]; omega)) ?_
  rw [Int.tdiv_eq_ediv_of_nonneg (by omega)]
  refine J.mast (pc' := 42) B rfl rfl rfl rfl (by omega) (by simp only [jLn]; omega) rfl ?_
  first | refine J.aload_n (pc' := 43) rfl rfl rfl ?_ | refine J.aload_nN (pc' := 43) rfl rfl rfl ?_
  refine J.mgR (pc' := 46) (t := 107) B rfl fl_X12_23 rfl rfl (by decide) rfl ?_
  refine J.iload (pc' := 48) rfl rfl rfl ?_
  refine J.iconst (pc' := 49) rfl rfl ?_
  refine J.iload (pc' := 51) rfl rfl rfl ?_
  refine J.imul (pc' := 52) rfl rfl ?_
  refine J.iload (pc' := 54) rfl rfl rfl ?_
  refine J.iadd (pc' := 55) rfl rfl ?_
  refine J.iconst (pc' := 56) rfl rfl ?_
  refine J.iadd (pc' := 57) rfl rfl ?_
  refine J.iconst (pc' := 58) rfl rfl ?_
  refine J.idiv (pc' := 59) rfl rfl (by first | omega | (exact R.r _ _) | (simp only [jM.len_sI, jM.len_sL, jM.len_sR, jM.len_fI, jM.len_fL, jM.len_fR]; omega) | (simp [jM.len_nw, jM.len_sI, jM.len_sL, jM.len_sR, jM.len_fI, jM.len_fL, jM.len_fR, *]; omega)) (by first | omega | (exact R.r _ _) | (simp only [jM.len_sI, jM.len_sL, jM.len_sR, jM.len_fI, jM.len_fL, jM.len_fR]; omega) | (simp [jM.len_nw, jM.len_sI, jM.len_sL, jM.len_sR, jM.len_fI, jM.len_fL, jM.len_fR, *]; omega)) (by first | omega | (exact R.r _ _) | (simp only [jM.len_sI, jM.len_sL, jM.len_sR, jM.len_fI, jM.len_fL, jM.len_fR]; omega) | (simp [jM.len_nw, jM.len_sI, jM.len_sL, jM.len_sR, jM.len_fI, jM.len_fL, jM.len_fR, *]; omega)) ?_
  rw [Int.tdiv_eq_ediv_of_nonneg (by omega)]
  refine J.mast (pc' := 60) B rfl rfl rfl rfl (by omega) (by simp only [jLn]; omega) rfl ?_
  first | refine J.aload_n (pc' := 61) rfl rfl rfl ?_ | refine J.aload_nN (pc' := 61) rfl rfl rfl ?_
  refine J.mgR (pc' := 64) (t := 108) B rfl fl_X12_26 rfl rfl (by decide) rfl ?_
  refine J.iload (pc' := 66) rfl rfl rfl ?_
  refine J.iconst (pc' := 67) rfl rfl ?_
  refine J.mzast (pc' := 68) B rfl rfl rfl (by decide) rfl (by omega) (by simp only [jLn]; omega) rfl ?_
  refine J.vret rfl rfl (by first | omega | (exact R.r _ _) | (simp only [jM.len_sI, jM.len_sL, jM.len_sR, jM.len_fI, jM.len_fL, jM.len_fR]; omega) | (simp [jM.len_nw, jM.len_sI, jM.len_sL, jM.len_sR, jM.len_fI, jM.len_fL, jM.len_fR, *]; omega)) (by first | omega | (exact R.r _ _) | (simp only [jM.len_sI, jM.len_sL, jM.len_sR, jM.len_fI, jM.len_fL, jM.len_fR]; omega) | (simp [jM.len_nw, jM.len_sI, jM.len_sL, jM.len_sR, jM.len_fI, jM.len_fL, jM.len_fR, *]; omega)) ?_
  exact ⟨rfl, rfl⟩
end M5

