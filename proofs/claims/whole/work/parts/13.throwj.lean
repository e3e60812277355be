
def jgw (w : Cond) : Bool := match w with
  | .castable _ _ => true
  | .declares _ => true
  | w => goodWord w
theorem jC.w3 {γ : jG} {μ : jMth} {p : Program} {s : State} {m : MethodId} {meth : Method} {c : Code} (C : jC γ μ p s m meth c) {w : Cond} (hw : w ∈ lw_tbl) (hg : jgw w = true) {args : Array Value} : w.before args s = true := by
  obtain ⟨A, h, -⟩ := C.F.2.1
  have h0 := h w hw
  cases w <;> first | exact (va_Nw.warmC C.warm (va_Nw.of rfl h0)).use rfl | exact (va_Nw.warmD C.warm (va_Nw.of rfl h0)).use rfl | exact C.w hw hg
theorem jC.str {γ : jG} {μ : jMth} {p : Program} {s : State} {m : MethodId} {meth : Method} {c : Code} (C : jC γ μ p s m meth c) {own text : String} {k : Nat} (hw : Cond.stringRef own k text ∈ lw_tbl) : ∃ a, vk_R own k text a s := by
  obtain ⟨A, h, -⟩ := C.F.2.1
  have h0 := h _ hw
  cases hc : γ.s.vm.findClass own with
  | none => simp [Cond.before, Cond.holds, Cond.value, hc] at h0
  | some cur =>
    obtain ⟨k', cf, i, a, -, -, -, -, -, he⟩ := Cond.stringRef_spec hc h0
    exact ⟨a, vk_R.warm C.warm (vk_R.of h0 he)⟩
theorem jC.vS {γ : jG} {μ : jMth} {p : Program} {s : State} {m : MethodId} {meth : Method} {c : Code} {h : jM} (C : jC γ μ p s m meth c) {H : Heap} {locs : List Loc} (hH : jRH γ h H) (hz : s.heap.size ≤ H.size) (hlo : ∀ q ∈ locs, γ.base ≤ q.base) : va_S (jFree γ) s.heap H locs := ⟨hz, fun q _ h2 => (hH.1 q (Nat.not_le.mp h2)).trans (C.old q (Nat.not_le.mp h2)).symm, hlo⟩
theorem jC.zq {γ : jG} {μ : jMth} {p : Program} {s : State} {m : MethodId} {meth : Method} {c : Code} (C : jC γ μ p s m meth c) {cn n d : String} (w1 : Cond.laysStatic cn n d ∈ lw_tbl) (w2 : Cond.initialized cn ∈ lw_tbl) (w3 : Cond.isRef (.static cn n d) ∈ flatC (Jvm.Cond.and given_1 narrow_1)) : vx_Zq cn n d (jFree γ) s s.heap := by
  obtain ⟨A, h, hg⟩ := C.F.2.1
  have h0 : vx_Zq cn n d (jFree γ) γ.s γ.s.heap := vx_Zqof (h _ w1) (h _ w2) (flat_of_before _ hg.1 _ w3) (fun a ha hb => absurd hb (Nat.not_le.mpr ha))
  exact (vx_Zq.moved C.warm.alike h0).kept (fun a ha _ => C.old a ha)
theorem jZ_U1 : Cond.laysStatic Bundle.tN "UNASSIGNED_STACK" Bundle.steD ∈ lw_tbl := by decide +kernel
theorem jZ_U2 : Cond.isRef (.static Bundle.tN "UNASSIGNED_STACK" Bundle.steD) ∈ flatC (Jvm.Cond.and given_1 narrow_1) := by decide +kernel
theorem jZ_N1 : Cond.laysStatic Bundle.tN "SUPPRESSED_SENTINEL" Bundle.listD ∈ lw_tbl := by decide +kernel
theorem jZ_N2 : Cond.isRef (.static Bundle.tN "SUPPRESSED_SENTINEL" Bundle.listD) ∈ flatC (Jvm.Cond.and given_1 narrow_1) := by decide +kernel
theorem jZ_T : Cond.initialized Bundle.tN ∈ lw_tbl := by decide +kernel
def jThr (own : String) (ic : Nat) (cls : String) (i1 : Nat) (b1 : ByteArray) : Prop := Bundle.fit cls = true ∧ (decode b1 0 = .ok (.aload_n 0, 1) ∧ decode b1 1 = .ok (.aload_n 1, 1) ∧ decode b1 2 = .ok (.invokespecial i1, 3) ∧ decode b1 5 = .ok (.return_, 1)) ∧ (∀ w ∈ (jAtS own ic cls "java/lang/RuntimeException" i1 b1 ["java/lang/Exception"]).filter vx_no, (w ∈ lw_tbl ∧ jgw w = true) ∧ vx_ot w = true) ∧ Cond.initialized cls ∈ lw_tbl
theorem jThr_of {own : String} {ic : Nat} {cls : String} {i1 : Nat} {b1 : ByteArray} (h1 : Bundle.fit cls = true) (h2 : decode b1 0 = .ok (.aload_n 0, 1) ∧ decode b1 1 = .ok (.aload_n 1, 1) ∧ decode b1 2 = .ok (.invokespecial i1, 3) ∧ decode b1 5 = .ok (.return_, 1)) (h3 : ((jAtS own ic cls "java/lang/RuntimeException" i1 b1 ["java/lang/Exception"]).filter vx_no).all (fun w => (decide (w ∈ lw_tbl) && jgw w) && vx_ot w) = true) (h4 : Cond.initialized cls ∈ lw_tbl) : jThr own ic cls i1 b1 :=
  ⟨h1, h2, fun w hw => by
    have := List.all_eq_true.mp h3 w hw
    simp only [Bool.and_eq_true, decide_eq_true_eq] at this
    exact this, h4⟩
theorem jThr_IAE : jThr "ScrapYard" 108 "java/lang/IllegalArgumentException" 7 Bundle.six := jThr_of (by decide) (by decide) (by decide +kernel) (by decide +kernel)
theorem jThr_ISE : jThr "ScrapYard" 117 "java/lang/IllegalStateException" 7 Bundle.six := jThr_of (by decide) (by decide) (by decide +kernel) (by decide +kernel)
theorem jThr_NSE : jThr "ScrapYard" 241 "java/util/NoSuchElementException" 13 prog_37_method_4_code := jThr_of (by decide) (by decide +kernel) (by decide +kernel) (by decide +kernel)
theorem jThr_IAS : jThr "ScrapYard$Spans" 45 "java/lang/IllegalArgumentException" 7 Bundle.six := jThr_of (by decide) (by decide) (by decide +kernel) (by decide +kernel)

theorem J.throwL {γ : jG} {μ : jMth} {f mc ms cells slots : Nat} {h : jM} {pc : Nat} {lv : List (Nat × Value)} {st : List Value} {Q : Option Value → jM → Prop} {X : String → jM → Prop} {ik is ic i1 : Nat} {cls text : String} {b1 : ByteArray} (d0 : μ.cm pc = some (.new ik, 3)) (d3 : μ.cm (pc + 3) = some (.dup, 1)) (d4 : μ.cm (pc + 4) = some (.ldc is, 2)) (d6 : μ.cm (pc + 6) = some (.invokespecial ic, 3)) (d9 : μ.cm (pc + 9) = some (.athrow, 1))
    (ht : jThr μ.y.cls ic cls i1 b1) (hk : Cond.classLink μ.y.cls ik cls ∈ lw_tbl) (hstr : Cond.stringRef μ.y.cls is text ∈ lw_tbl) (hh : μ.hh = []) (hf : 6 ≤ f) (hW : (st.map fun v => v.category).sum ≤ 8) (hm : cells + 1 ≤ mc) (hs : slots + 6 ≤ ms) (hX : X cls h) : J γ μ f mc ms cells slots h pc lv st Q X := by
  intro p e s m args below meth c C H locs ls hH hz hlo hl
  obtain ⟨sa, hsa⟩ := C.str hstr
  obtain ⟨t1, ⟨k0, k1, k2, k5⟩, t3, t4⟩ := ht
  refine jThrowL (names := ["java/lang/Exception"]) (Y1 := "java/lang/RuntimeException") (A := jFree γ) C.hx C.hb C.F.1 C.hown t1 (by decide) (by decide) k0 k1 k2 k5 (C.w hk rfl) (C.w t4 rfl) hsa (fun w hw => C.w3 (t3 w hw).1.1 (t3 w hw).1.2) (fun w hw => ?_) (C.zq jZ_U1 jZ_T jZ_U2) (C.zq jZ_N1 jZ_T jZ_N2) (C.vS hH hz hlo) (by rw [C.hml]; exact hl.1) (C.dec d0) (C.dec d3) (C.dec d4) (C.dec d6) (C.dec d9) (fun x hx => ?_) ?_ ?_ hm hs C.locks (fun t _ h1 h2 => ⟨h, hX, hH.moved h1 h2⟩) hlo hm hs
  · rcases List.mem_cons.mp hw with rfl | hw
    · rfl
    · rcases List.mem_cons.mp hw with rfl | hw
      · rfl
      · exact (t3 w hw).2
  · rw [C.tab, hh] at hx
    cases hx
  · show 1 + 4 < f
    omega
  · show _ + (13 * (1 + 2) + 43) ≤ f * 64
    omega
theorem J.throwW {γ : jG} {μ : jMth} {f mc ms cells slots : Nat} {h : jM} {pc : Nat} {lv : List (Nat × Value)} {st : List Value} {Q : Option Value → jM → Prop} {X : String → jM → Prop} {ik is ic i1 : Nat} {cls text : String} {b1 : ByteArray} (d0 : μ.cm pc = some (.new ik, 3)) (d3 : μ.cm (pc + 3) = some (.dup, 1)) (d4 : μ.cm (pc + 4) = some (.ldc_w is, 3)) (d6 : μ.cm (pc + 7) = some (.invokespecial ic, 3)) (d9 : μ.cm (pc + 10) = some (.athrow, 1))
    (ht : jThr μ.y.cls ic cls i1 b1) (hk : Cond.classLink μ.y.cls ik cls ∈ lw_tbl) (hstr : Cond.stringRef μ.y.cls is text ∈ lw_tbl) (hh : μ.hh = []) (hf : 6 ≤ f) (hW : (st.map fun v => v.category).sum ≤ 8) (hm : cells + 1 ≤ mc) (hs : slots + 6 ≤ ms) (hX : X cls h) : J γ μ f mc ms cells slots h pc lv st Q X := by
  intro p e s m args below meth c C H locs ls hH hz hlo hl
  obtain ⟨sa, hsa⟩ := C.str hstr
  obtain ⟨t1, ⟨k0, k1, k2, k5⟩, t3, t4⟩ := ht
  refine jThrowW (names := ["java/lang/Exception"]) (Y1 := "java/lang/RuntimeException") (A := jFree γ) C.hx C.hb C.F.1 C.hown t1 (by decide) (by decide) k0 k1 k2 k5 (C.w hk rfl) (C.w t4 rfl) hsa (fun w hw => C.w3 (t3 w hw).1.1 (t3 w hw).1.2) (fun w hw => ?_) (C.zq jZ_U1 jZ_T jZ_U2) (C.zq jZ_N1 jZ_T jZ_N2) (C.vS hH hz hlo) (by rw [C.hml]; exact hl.1) (C.dec d0) (C.dec d3) (C.dec d4) (C.dec d6) (C.dec d9) (fun x hx => ?_) ?_ ?_ hm hs C.locks (fun t _ h1 h2 => ⟨h, hX, hH.moved h1 h2⟩) hlo hm hs
  · rcases List.mem_cons.mp hw with rfl | hw
    · rfl
    · rcases List.mem_cons.mp hw with rfl | hw
      · rfl
      · exact (t3 w hw).2
  · rw [C.tab, hh] at hx
    cases hx
  · show 1 + 4 < f
    omega
  · show _ + (13 * (1 + 2) + 43) ≤ f * 64
    omega
