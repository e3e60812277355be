section JKX
variable {γ : jG} {μ μ' μx : jMth} {f mc ms cells slots f' mc' ms' idx : Nat} {h : jM} {pc pc' : Nat} {lv : List (Nat × Value)} {st stk As : List Value} {Q Q' : Option Value → jM → Prop} {X : String → jM → Prop}
/-- a call of a method x that class C has overridden by y -/
theorem J.callVX {t b : Nat} {C : String} (hc : μ.cm pc = some (.invokevirtual idx, 3)) (M : jMeth μ') (Mx : jMeth μx) (hl : Cond.methodLink μ.y.cls idx μx.y ∈ lw_tbl) (hsm : Cond.sameMethod μx.y.cls μx.y.cls μx.y.name μx.y.desc ∈ lw_tbl) (hix : Cond.instanceMethod μx.y ∈ lw_tbl) (hV : Cond.instanceMethod μ'.y ∈ lw_tbl) (hS : Cond.selects C μx.y μ'.y ∈ lw_tbl) (hd : μx.np = μ'.np) (ht0 : 0 < t ∧ t < 20) (hq : ∃ q : vw_C, vwCl[t - 1]? = some q ∧ q.1 = C) (hb : h.tag b = t) (hCT : CT γ μ' f' mc' ms' (.ref b :: As) h Q' (fun _ _ => False)) (hst : stk = As.reverse ++ .ref b :: st) (hn : As.length = μ'.np) (hW : (st.map fun v => v.category).sum ≤ 8) (hf : f' + 1 ≤ f) (hm : cells + mc' ≤ mc) (hs : slots + ms' ≤ ms) (hp : pc + 3 = pc')
    (kk : ∀ r h', Q' r h' → J γ μ f mc ms (cells + mc') (slots + ms') h' pc' lv (r.toList ++ st) Q X) : J γ μ f mc ms cells slots h pc lv stk Q X := by
  subst hp
  subst hst
  intro p e s m args below meth c C' H locs ls hH hz hlo hl9
  have hm9 := M.2.2.2.2.2.1
  refine jAfter hz hlo (va_runU (x := μx.y) (owner := μx.y.cls) (jFix C') hCT.met ⟨⟨rfl, rfl, hf, ?_, jHw C' M, ?_⟩, C'.w M.2.1 rfl, C'.w M.2.2.1 rfl, Mx.2.2.2.1, fun sig h1 => ?_, C'.w hl rfl, C'.w hsm rfl, va_Decl.of (args := args) (C'.w hix rfl) (C'.w Mx.2.1 rfl), C'.w hS rfl, C'.w hV rfl⟩ ⟨jBlind, jRecv C' hH ht0.1 ht0.2 hq hb, jPre C' hH⟩ rfl hn hl9.1 rfl (lv_room hW) (C'.dec hc) ⟨hm, hs⟩) ?_
  · show 8 + (μ'.mL + 11) + f' * 64 ≤ f * 64
    omega
  · rw [jWord_nil M.1]
    exact List.mem_singleton.mpr rfl
  · have h2 := Mx.2.2.2.2.2.2.1
    rw [h1] at h2
    rw [← hd]
    exact (Option.some.inj h2).symm
  · intro r h' H' locs' hq' hR hz' hlo'
    exact kk r h' hq' p e s m args below meth c C' H' locs' ls hR hz' hlo' hl9
end JKX
theorem jLen_s : Cond.selects "java/lang/StringBuilder" yJ5_length_8abf5 yJ4_length_8abf5 ∈ lw_tbl := by decide +kernel
section TS
variable {γ : jG} {h : jM} {a e s : Nat} {n : Int} {T : Int → Int}
theorem cb_getValue (hS : isSB γ h a e n T) : CT γ mJ5_getValue_6d5f1 0 0 0 [.ref a] h (fun r h' => r = some (.ref e) ∧ h' = h) X0 := by
  have a1 := hS.1
  have a2 := hS.2.1
  refine CT.of MJ5_getValue_6d5f1 (Nat.le_of_ble_eq_true rfl) ?_
  show J γ mJ5_getValue_6d5f1 0 0 0 0 0 h 0 [(0, .ref a)] [] _ _
  first | refine J.aload_n (pc' := 1) rfl rfl rfl ?_ | refine J.aload_nN (pc' := 1) rfl rfl rfl ?_
  first | refine J.getR (pc' := 4) rfl fl_J5_15 rfl (by first | assumption | (simp only [jM.tag_sI, jM.tag_sL, jM.tag_sR, jM.tag_fI, jM.tag_fL, jM.tag_fR]; assumption) | (simp [jM.tag_nw, jM.tag_sI, jM.tag_sL, jM.tag_sR, jM.tag_fI, jM.tag_fL, jM.tag_fR, *]; done)) (by first | assumption | (simp only [jM.R_sI, jM.R_sL, jM.R_fI, jM.R_fL]; assumption) | (simp [jM.R_nw, jM.R_sR, jM.R_fR, jM.R_sI, jM.R_sL, jM.R_fI, jM.R_fL, *]; done)) rfl ?_ | refine J.getRN (pc' := 4) rfl fl_J5_15 rfl (by first | assumption | (simp only [jM.tag_sI, jM.tag_sL, jM.tag_sR, jM.tag_fI, jM.tag_fL, jM.tag_fR]; assumption) | (simp [jM.tag_nw, jM.tag_sI, jM.tag_sL, jM.tag_sR, jM.tag_fI, jM.tag_fL, jM.tag_fR, *]; done)) (by first | assumption | (simp only [jM.R_sI, jM.R_sL, jM.R_fI, jM.R_fL]; assumption) | (simp [jM.R_nw, jM.R_sR, jM.R_fR, jM.R_sI, jM.R_sL, jM.R_fI, jM.R_fL, *]; done)) rfl ?_
  first | refine J.aret rfl rfl rfl (by first | omega | (exact R.r _ _) | (simp only [jM.len_sI, jM.len_sL, jM.len_sR, jM.len_fI, jM.len_fL, jM.len_fR]; omega) | (simp [jM.len_nw, jM.len_sI, jM.len_sL, jM.len_sR, jM.len_fI, jM.len_fL, jM.len_fR, *]; omega)) (by first | omega | (exact R.r _ _) | (simp only [jM.len_sI, jM.len_sL, jM.len_sR, jM.len_fI, jM.len_fL, jM.len_fR]; omega) | (simp [jM.len_nw, jM.len_sI, jM.len_sL, jM.len_sR, jM.len_fI, jM.len_fL, jM.len_fR, *]; omega)) ?_ | refine J.aretN rfl rfl rfl (by first | omega | (exact R.r _ _) | (simp only [jM.len_sI, jM.len_sL, jM.len_sR, jM.len_fI, jM.len_fL, jM.len_fR]; omega) | (simp [jM.len_nw, jM.len_sI, jM.len_sL, jM.len_sR, jM.len_fI, jM.len_fL, jM.len_fR, *]; omega)) (by first | omega | (exact R.r _ _) | (simp only [jM.len_sI, jM.len_sL, jM.len_sR, jM.len_fI, jM.len_fL, jM.len_fR]; omega) | (simp [jM.len_nw, jM.len_sI, jM.len_sL, jM.len_sR, jM.len_fI, jM.len_fL, jM.len_fR, *]; omega)) ?_
  exact ⟨rfl, rfl⟩
/-- new String(builder) -/
def tsQ (h : jM) (s : Nat) (n : Int) (T : Int → Int) : Option Value → jM → Prop := fun r h' => r = none ∧ ∃ q, isSt h' s q n T ∧ Fr h h' (fun b => b = s) ∧ Nt h h' [35]
theorem cb_strB (hS : isSB γ h a e n T) (hn : n % 20 = 0) (hs : h.tag s = 1) (hb : γ.base ≤ s) : CT γ mJ0_init_db425 3 1 574 [.ref s, .ref a, .null] h (tsQ h s n T) X0 := by
  have hS0 := hS
  obtain ⟨a1, a2, a3, a4, a5, a6, a7, a8, a9, a10, a11⟩ := hS0
  refine CT.of MJ0_init_db425 (Nat.le_of_ble_eq_true rfl) ?_
  show J γ mJ0_init_db425 3 1 574 0 0 h 0 [(0, .ref s), (1, .ref a), (2, .null)] [] _ _
  first | refine J.aload_n (pc' := 1) rfl rfl rfl ?_ | refine J.aload_nN (pc' := 1) rfl rfl rfl ?_
  refine J.objI (pc' := 4) rfl (List.mem_of_getElem? (i := 680) (by decide +kernel)) jObj_i jObj_c (by omega) (Nat.le_of_ble_eq_true rfl) rfl ?_
  first | refine J.aload_n (pc' := 5) rfl rfl rfl ?_ | refine J.aload_nN (pc' := 5) rfl rfl rfl ?_
  refine J.callVU (pc' := 8) (t := 2) (C := "java/lang/StringBuilder") rfl MJ5_getValue_6d5f1 ml_J0_552 iq_J5_getValue_6d5f1 (by decide) ⟨_, rfl, rfl⟩ (by first | assumption | (simp only [jM.tag_sI, jM.tag_sL, jM.tag_sR, jM.tag_fI, jM.tag_fL, jM.tag_fR]; assumption) | (simp [jM.tag_nw, jM.tag_sI, jM.tag_sL, jM.tag_sR, jM.tag_fI, jM.tag_fL, jM.tag_fR, *]; done)) (cb_getValue hS) rfl rfl (Nat.le_of_ble_eq_true rfl) (by first | omega | (exact R.r _ _) | (simp only [jM.len_sI, jM.len_sL, jM.len_sR, jM.len_fI, jM.len_fL, jM.len_fR]; omega) | (simp [jM.len_nw, jM.len_sI, jM.len_sL, jM.len_sR, jM.len_fI, jM.len_fL, jM.len_fR, *]; omega)) (by first | omega | (exact R.r _ _) | (simp only [jM.len_sI, jM.len_sL, jM.len_sR, jM.len_fI, jM.len_fL, jM.len_fR]; omega) | (simp [jM.len_nw, jM.len_sI, jM.len_sL, jM.len_sR, jM.len_fI, jM.len_fL, jM.len_fR, *]; omega)) (by first | omega | (exact R.r _ _) | (simp only [jM.len_sI, jM.len_sL, jM.len_sR, jM.len_fI, jM.len_fL, jM.len_fR]; omega) | (simp [jM.len_nw, jM.len_sI, jM.len_sL, jM.len_sR, jM.len_fI, jM.len_fL, jM.len_fR, *]; omega)) rfl rfl ?_ ?_
  · exact fun _ _ h => h
  rintro _ h ⟨rfl, rfl⟩
  first | refine J.astore_n (pc' := 9) rfl rfl (by decide) ?_ | refine J.astore_nN (pc' := 9) rfl rfl (by decide) ?_
  first | refine J.aload_n (pc' := 10) rfl rfl rfl ?_ | refine J.aload_nN (pc' := 10) rfl rfl rfl ?_
  refine J.callVX (pc' := 13) (t := 2) (C := "java/lang/StringBuilder") rfl MJ4_length_8abf5 MJ5_length_8abf5 ml_J0_549 iu_J5_length_8abf5.2 iu_J5_length_8abf5.1 iv_J4_length_8abf5.1 jLen_s rfl (by decide) ⟨_, rfl, rfl⟩ a1 (cb_len hS) rfl rfl (Nat.le_of_ble_eq_true rfl) (by omega) (by omega) (by omega) rfl ?_
  rintro _ h ⟨rfl, rfl⟩
  refine J.istore (pc' := 15) rfl rfl (by decide) ?_
  first | refine J.aload_n (pc' := 16) rfl rfl rfl ?_ | refine J.aload_nN (pc' := 16) rfl rfl rfl ?_
  refine J.lc (lv' := [(0, .ref s), (1, .ref a), (3, .ref e), (4, .int (jI n))]) (by repeat' (first | exact trivial | refine ⟨rfl, ?_⟩)) ?_
  refine J.callVU (pc' := 19) (t := 2) (C := "java/lang/StringBuilder") rfl MJ5_isLatin1_aae02 ml_J0_1047 iq_J5_isLatin1_aae02 (by decide) ⟨_, rfl, rfl⟩ (by first | assumption | (simp only [jM.tag_sI, jM.tag_sL, jM.tag_sR, jM.tag_fI, jM.tag_fL, jM.tag_fR]; assumption) | (simp [jM.tag_nw, jM.tag_sI, jM.tag_sL, jM.tag_sR, jM.tag_fI, jM.tag_fL, jM.tag_fR, *]; done)) (cb_isLatin1 hS) rfl rfl (Nat.le_of_ble_eq_true rfl) (by first | omega | (exact R.r _ _) | (simp only [jM.len_sI, jM.len_sL, jM.len_sR, jM.len_fI, jM.len_fL, jM.len_fR]; omega) | (simp [jM.len_nw, jM.len_sI, jM.len_sL, jM.len_sR, jM.len_fI, jM.len_fL, jM.len_fR, *]; omega)) (by first | omega | (exact R.r _ _) | (simp only [jM.len_sI, jM.len_sL, jM.len_sR, jM.len_fI, jM.len_fL, jM.len_fR]; omega) | (simp [jM.len_nw, jM.len_sI, jM.len_sL, jM.len_sR, jM.len_fI, jM.len_fL, jM.len_fR, *]; omega)) (by first | omega | (exact R.r _ _) | (simp only [jM.len_sI, jM.len_sL, jM.len_sR, jM.len_fI, jM.len_fL, jM.len_fR]; omega) | (simp [jM.len_nw, jM.len_sI, jM.len_sL, jM.len_sR, jM.len_fI, jM.len_fL, jM.len_fR, *]; omega)) rfl rfl ?_ ?_
  · exact fun _ _ h => h
  rintro _ h ⟨rfl, rfl⟩
  refine J.if_eq (tgt := 41) (pc' := 22) rfl rfl rfl (by first | omega | (exact R.r _ _) | (simp only [jM.len_sI, jM.len_sL, jM.len_sR, jM.len_fI, jM.len_fL, jM.len_fR]; omega) | (simp [jM.len_nw, jM.len_sI, jM.len_sL, jM.len_sR, jM.len_fI, jM.len_fL, jM.len_fR, *]; omega)) (fun c1 => ?_) (fun c1 => ?_)
  · omega
  · first | refine J.aload_n (pc' := 23) rfl rfl rfl ?_ | refine J.aload_nN (pc' := 23) rfl rfl rfl ?_
    refine J.iconst (pc' := 24) rfl rfl ?_
    refine J.putZ (pc' := 27) (t := 1) (k := 1) rfl fl_J0_15 rfl rfl rfl (Or.inr ⟨rfl, rfl, rfl⟩) hs (Or.inr hb) rfl ?_
    have F0 : Fr h (h.sI 1 s 1 0) (fun b => b = s) := Fr.sI
    have hse : ¬ e = s := fun z => by rw [z] at a3; omega
    have t1 : (h.sI 1 s 1 0).tag e = 35 := a3
    have i1 : ∀ j, (h.sI 1 s 1 0).I 35 e j = h.I 35 e j := fun j => by rw [jM.I_sI, if_neg (by omega)]
    have l1 : (h.sI 1 s 1 0).len e = h.len e := rfl
    have ts : (h.sI 1 s 1 0).tag s = 1 := hs
    have is : (h.sI 1 s 1 0).I 1 s 1 = 0 := by rw [jM.I_sI, if_pos ⟨rfl, rfl, rfl⟩]
    have N0 : Nt h (h.sI 1 s 1 0) [35] := Nt.rf.st rfl
    generalize h.sI 1 s 1 0 = k1 at F0 t1 i1 l1 ts is N0 ⊢
    first | refine J.aload_n (pc' := 28) rfl rfl rfl ?_ | refine J.aload_nN (pc' := 28) rfl rfl rfl ?_
    first | refine J.aload_n (pc' := 29) rfl rfl rfl ?_ | refine J.aload_nN (pc' := 29) rfl rfl rfl ?_
    refine J.iconst (pc' := 30) rfl rfl ?_
    refine J.iload (pc' := 32) rfl rfl rfl ?_
    refine J.widen (cells' := 0) (slots' := 574 - n.toNat) (by omega) (by omega) ?_
    have c9 : ¬ ((0 : Int) = 0 ∧ n = (k1.len e : Int)) := by rw [l1]; omega
    have h9 := cj_copyR (γ := γ) (h := k1) (e := e) (x := 0) (y := n) t1 (fun i hi => by rw [i1]; rw [l1] at hi; exact a10 i hi) (by omega) a6 (by rw [l1]; exact a7) (by rw [l1]; omega) c9
    rw [show (n - 0).toNat = n.toNat by omega] at h9
    refine J.callS (pc' := 35) rfl MJ7_copyOfRange_39247 ml_J0_54 is_J7_copyOfRange_39247 h9 rfl rfl (Nat.le_of_ble_eq_true rfl) (by first | omega | (exact R.r _ _) | (simp only [jM.len_sI, jM.len_sL, jM.len_sR, jM.len_fI, jM.len_fL, jM.len_fR]; omega) | (simp [jM.len_nw, jM.len_sI, jM.len_sL, jM.len_sR, jM.len_fI, jM.len_fL, jM.len_fR, *]; omega)) (by first | omega | (exact R.r _ _) | (simp only [jM.len_sI, jM.len_sL, jM.len_sR, jM.len_fI, jM.len_fL, jM.len_fR]; omega) | (simp [jM.len_nw, jM.len_sI, jM.len_sL, jM.len_sR, jM.len_fI, jM.len_fL, jM.len_fR, *]; omega)) (by first | omega | (exact R.r _ _) | (simp only [jM.len_sI, jM.len_sL, jM.len_sR, jM.len_fI, jM.len_fL, jM.len_fR]; omega) | (simp [jM.len_nw, jM.len_sI, jM.len_sL, jM.len_sR, jM.len_fI, jM.len_fL, jM.len_fR, *]; omega)) rfl rfl ?_ ?_
    · exact fun _ _ h => h
    rintro _ _ ⟨q, qf, qb, rfl, rfl⟩
    have hsq : ¬ s = q := fun z => by rw [z, qf] at ts; cases ts
    have F1 : Fr h (cpyB k1 q e 0 n) (fun b => b = s) := F0.trans (cpyB_Fr (W := fun _ => False) qf) (fun b _ z => z.elim id (fun z => z.elim))
    have N1 : Nt h (cpyB k1 q e 0 n) [35] := fun b hb => by
      rw [cpyB_t]
      by_cases z : b = q
      · rw [if_pos z]; exact Or.inr (by simp)
      · rw [if_neg z]; exact N0 b hb
    have ts2 : (cpyB k1 q e 0 n).tag s = 1 := by rw [cpyB_t, if_neg hsq]; exact ts
    have tq2 : (cpyB k1 q e 0 n).tag q = 35 := by rw [cpyB_t, if_pos rfl]
    have lq2 : ((cpyB k1 q e 0 n).len q : Int) = n := by rw [cpyB_l, if_pos rfl]; omega
    have is2 : (cpyB k1 q e 0 n).I 1 s 1 = 0 := by rw [(cpyB_o (by omega)).1]; exact is
    have iq2 : ∀ j : Nat, (j : Int) < n → (cpyB k1 q e 0 n).I 35 q j = h.I 35 e j := fun j hj => by rw [cpyB_q (by omega), i1]; congr 1; simp
    generalize cpyB k1 q e 0 n = k2 at F1 N1 ts2 tq2 lq2 is2 iq2 ⊢
    refine J.putR (pc' := 38) (t := 1) (k := 0) rfl fl_J0_9 rfl (Or.inr ⟨rfl, rfl, rfl⟩) ts2 (Or.inr hb) rfl ?_
    refine J.goto (tgt := 97) rfl rfl ?_
    refine J.vret rfl rfl (by first | omega | (exact R.r _ _) | (simp only [jM.len_sI, jM.len_sL, jM.len_sR, jM.len_fI, jM.len_fL, jM.len_fR]; omega) | (simp [jM.len_nw, jM.len_sI, jM.len_sL, jM.len_sR, jM.len_fI, jM.len_fL, jM.len_fR, *]; omega)) (by first | omega | (exact R.r _ _) | (simp only [jM.len_sI, jM.len_sL, jM.len_sR, jM.len_fI, jM.len_fL, jM.len_fR]; omega) | (simp [jM.len_nw, jM.len_sI, jM.len_sL, jM.len_sR, jM.len_fI, jM.len_fL, jM.len_fR, *]; omega)) ?_
    refine ⟨rfl, q, ⟨ts2, ?_, tq2, is2, lq2, by omega, fun i hi => ?_⟩, F1.stR (Or.inl rfl), N1.st rfl⟩
    · rw [jM.R_sR, if_pos ⟨rfl, rfl, rfl⟩]
    · show k2.I 35 q i = _ ∧ _
      rw [iq2 i hi]
      exact a11 i hi
theorem cb_strB1 (hS : isSB γ h a e n T) (hn : n % 20 = 0) (hs : h.tag s = 1) (hb : γ.base ≤ s) : CT γ mJ0_init_81219 4 1 574 [.ref s, .ref a] h (tsQ h s n T) X0 := by
  refine CT.of MJ0_init_81219 (Nat.le_of_ble_eq_true rfl) ?_
  show J γ mJ0_init_81219 4 1 574 0 0 h 0 [(0, .ref s), (1, .ref a)] [] _ _
  first | refine J.aload_n (pc' := 1) rfl rfl rfl ?_ | refine J.aload_nN (pc' := 1) rfl rfl rfl ?_
  first | refine J.aload_n (pc' := 2) rfl rfl rfl ?_ | refine J.aload_nN (pc' := 2) rfl rfl rfl ?_
  refine J.null (pc' := 3) rfl rfl ?_
  refine J.callI (pc' := 6) rfl MJ0_init_db425 ml_J0_489 iv_J0_init_db425 ⟨rfl, rfl⟩ (cb_strB hS hn hs hb) rfl rfl (Nat.le_of_ble_eq_true rfl) (by first | omega | (exact R.r _ _) | (simp only [jM.len_sI, jM.len_sL, jM.len_sR, jM.len_fI, jM.len_fL, jM.len_fR]; omega) | (simp [jM.len_nw, jM.len_sI, jM.len_sL, jM.len_sR, jM.len_fI, jM.len_fL, jM.len_fR, *]; omega)) (by first | omega | (exact R.r _ _) | (simp only [jM.len_sI, jM.len_sL, jM.len_sR, jM.len_fI, jM.len_fL, jM.len_fR]; omega) | (simp [jM.len_nw, jM.len_sI, jM.len_sL, jM.len_sR, jM.len_fI, jM.len_fL, jM.len_fR, *]; omega)) (by first | omega | (exact R.r _ _) | (simp only [jM.len_sI, jM.len_sL, jM.len_sR, jM.len_fI, jM.len_fL, jM.len_fR]; omega) | (simp [jM.len_nw, jM.len_sI, jM.len_sL, jM.len_sR, jM.len_fI, jM.len_fL, jM.len_fR, *]; omega)) rfl ?_
  rintro _ k1 ⟨rfl, hq⟩
  refine J.vret rfl rfl (by first | omega | (exact R.r _ _) | (simp only [jM.len_sI, jM.len_sL, jM.len_sR, jM.len_fI, jM.len_fL, jM.len_fR]; omega) | (simp [jM.len_nw, jM.len_sI, jM.len_sL, jM.len_sR, jM.len_fI, jM.len_fL, jM.len_fR, *]; omega)) (by first | omega | (exact R.r _ _) | (simp only [jM.len_sI, jM.len_sL, jM.len_sR, jM.len_fI, jM.len_fL, jM.len_fR]; omega) | (simp [jM.len_nw, jM.len_sI, jM.len_sL, jM.len_sR, jM.len_fI, jM.len_fL, jM.len_fR, *]; omega)) ?_
  exact ⟨rfl, hq⟩
theorem cb_toString (hS : isSB γ h a e n T) (hn : n % 20 = 0) : CT γ mJ4_toString_0e30d 5 2 578 [.ref a] h (subQ h n T) X0 := by
  have a1 := hS.1
  refine CT.of MJ4_toString_0e30d (Nat.le_of_ble_eq_true rfl) ?_
  show J γ mJ4_toString_0e30d 5 2 578 0 0 h 0 [(0, .ref a)] [] _ _
  refine J.new (pc' := 3) (t := 1) (N := 2) (n := 4) rfl ⟨by decide, by decide, _, rfl, rfl, List.mem_of_getElem? (i := 672) (by decide +kernel), List.mem_of_getElem? (i := 673) (by decide +kernel), List.mem_of_getElem? (i := 72) (by decide +kernel)⟩ (by first | omega | (exact R.r _ _) | (simp only [jM.len_sI, jM.len_sL, jM.len_sR, jM.len_fI, jM.len_fL, jM.len_fR]; omega) | (simp [jM.len_nw, jM.len_sI, jM.len_sL, jM.len_sR, jM.len_fI, jM.len_fL, jM.len_fR, *]; omega)) (by first | omega | (exact R.r _ _) | (simp only [jM.len_sI, jM.len_sL, jM.len_sR, jM.len_fI, jM.len_fL, jM.len_fR]; omega) | (simp [jM.len_nw, jM.len_sI, jM.len_sL, jM.len_sR, jM.len_fI, jM.len_fL, jM.len_fR, *]; omega)) rfl (fun s sf sb => ?_)
  have F0 : Fr h (h.nw s 1 2) (fun _ => False) := Fr.stN Fr.rf sf
  have N0 : Nt h (h.nw s 1 2) [1, 35] := Nt.stN Nt.rf (by simp)
  have hS1 := hS.kept F0 (fun z => z) (fun z => z)
  have ts : (h.nw s 1 2).tag s = 1 := by rw [jM.tag_nw, if_pos rfl]
  generalize h.nw s 1 2 = k1 at F0 N0 hS1 ts ⊢
  refine J.dup (pc' := 4) rfl rfl rfl ?_
  first | refine J.aload_n (pc' := 5) rfl rfl rfl ?_ | refine J.aload_nN (pc' := 5) rfl rfl rfl ?_
  refine J.callI (pc' := 8) rfl MJ0_init_81219 ml_J4_137 iv_J0_init_81219 ⟨rfl, rfl⟩ (cb_strB1 hS1 hn ts sb) rfl rfl (Nat.le_of_ble_eq_true rfl) (by first | omega | (exact R.r _ _) | (simp only [jM.len_sI, jM.len_sL, jM.len_sR, jM.len_fI, jM.len_fL, jM.len_fR]; omega) | (simp [jM.len_nw, jM.len_sI, jM.len_sL, jM.len_sR, jM.len_fI, jM.len_fL, jM.len_fR, *]; omega)) (by first | omega | (exact R.r _ _) | (simp only [jM.len_sI, jM.len_sL, jM.len_sR, jM.len_fI, jM.len_fL, jM.len_fR]; omega) | (simp [jM.len_nw, jM.len_sI, jM.len_sL, jM.len_sR, jM.len_fI, jM.len_fL, jM.len_fR, *]; omega)) (by first | omega | (exact R.r _ _) | (simp only [jM.len_sI, jM.len_sL, jM.len_sR, jM.len_fI, jM.len_fL, jM.len_fR]; omega) | (simp [jM.len_nw, jM.len_sI, jM.len_sL, jM.len_sR, jM.len_fI, jM.len_fL, jM.len_fR, *]; omega)) rfl ?_
  rintro _ k2 ⟨rfl, q, g1, g2, g3⟩
  first | refine J.aret rfl rfl rfl (by first | omega | (exact R.r _ _) | (simp only [jM.len_sI, jM.len_sL, jM.len_sR, jM.len_fI, jM.len_fL, jM.len_fR]; omega) | (simp [jM.len_nw, jM.len_sI, jM.len_sL, jM.len_sR, jM.len_fI, jM.len_fL, jM.len_fR, *]; omega)) (by first | omega | (exact R.r _ _) | (simp only [jM.len_sI, jM.len_sL, jM.len_sR, jM.len_fI, jM.len_fL, jM.len_fR]; omega) | (simp [jM.len_nw, jM.len_sI, jM.len_sL, jM.len_sR, jM.len_fI, jM.len_fL, jM.len_fR, *]; omega)) ?_ | refine J.aretN rfl rfl rfl (by first | omega | (exact R.r _ _) | (simp only [jM.len_sI, jM.len_sL, jM.len_sR, jM.len_fI, jM.len_fL, jM.len_fR]; omega) | (simp [jM.len_nw, jM.len_sI, jM.len_sL, jM.len_sR, jM.len_fI, jM.len_fL, jM.len_fR, *]; omega)) (by first | omega | (exact R.r _ _) | (simp only [jM.len_sI, jM.len_sL, jM.len_sR, jM.len_fI, jM.len_fL, jM.len_fR]; omega) | (simp [jM.len_nw, jM.len_sI, jM.len_sL, jM.len_sR, jM.len_fI, jM.len_fL, jM.len_fR, *]; omega)) ?_
  refine ⟨s, q, rfl, g1, F0.trans g2 (fun b hb z => ?_), N0.trans g3 g2 (by simp)⟩
  rcases z with z | z
  · exact z
  · rw [z] at hb; exact absurd sf hb
end TS

