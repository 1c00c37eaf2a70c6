/-! the law from its entry; the claim -/
theorem lw_at {w : Cond} (i : Nat) (h : tables_1[i]? = some w) : w ∈ lw_tbl := List.mem_append_right _ (List.mem_of_getElem? h)
theorem ls_0 : Cond.laysStatic "DayCubes" "POWERS_OF_TEN" "[I" ∈ lw_tbl := lw_at 327 (by decide +kernel)
theorem ls_1 : Cond.laysStatic "DayCubes" "POWERS_OF_SIX" "[I" ∈ lw_tbl := lw_at 575 (by decide +kernel)
theorem ls_2 : Cond.laysStatic "DayCubes" "KIND_ABOVE" "[I" ∈ lw_tbl := lw_at 635 (by decide +kernel)
theorem ls_3 : Cond.laysStatic "DayCubes" "KIND_TRACE" "[I" ∈ lw_tbl := lw_at 633 (by decide +kernel)
theorem ls_4 : Cond.laysStatic "DayCubes$Tellers" "SETS_WITHOUT" "[I" ∈ lw_tbl := lw_at 390 (by decide +kernel)
theorem nf_0 : Cond.fieldLinkNest "DayCubes$Told" 32 "DayCubes" "POWERS_OF_TEN" "[I" "DayCubes" ∈ lw_tbl := lw_at 326 (by decide +kernel)
theorem nf_1 : Cond.fieldLinkNest "DayCubes$Tellers" 51 "DayCubes" "POWERS_OF_TEN" "[I" "DayCubes" ∈ lw_tbl := lw_at 478 (by decide +kernel)
theorem nf_2 : Cond.fieldLinkNest "DayCubes$Fall" 45 "DayCubes" "POWERS_OF_SIX" "[I" "DayCubes" ∈ lw_tbl := lw_at 574 (by decide +kernel)
theorem nq_0 : Cond.methodLinkNest "DayCubes" 9 ⟨"DayCubes$Reader", "<init>", "()V"⟩ "DayCubes" ∈ lw_tbl := lw_at 24 (by decide +kernel)
theorem nq_1 : Cond.methodLinkNest "DayCubes" 18 ⟨"DayCubes$Told", "<init>", "()V"⟩ "DayCubes" ∈ lw_tbl := lw_at 51 (by decide +kernel)
theorem nq_2 : Cond.methodLinkNest "DayCubes" 28 ⟨"DayCubes$Stand", "<init>", "()V"⟩ "DayCubes" ∈ lw_tbl := lw_at 94 (by decide +kernel)
theorem nq_3 : Cond.methodLinkNest "DayCubes" 43 ⟨"DayCubes$Seen", "<init>", "()V"⟩ "DayCubes" ∈ lw_tbl := lw_at 130 (by decide +kernel)
theorem nq_4 : Cond.methodLinkNest "DayCubes" 50 ⟨"DayCubes$Tellers", "<init>", "()V"⟩ "DayCubes" ∈ lw_tbl := lw_at 148 (by decide +kernel)
theorem nq_5 : Cond.methodLinkNest "DayCubes" 57 ⟨"DayCubes$Walk", "<init>", "()V"⟩ "DayCubes" ∈ lw_tbl := lw_at 161 (by decide +kernel)
theorem nq_6 : Cond.methodLinkNest "DayCubes" 64 ⟨"DayCubes$Fall", "<init>", "()V"⟩ "DayCubes" ∈ lw_tbl := lw_at 201 (by decide +kernel)
theorem ao_0 : Cond.arrayOver (.object "DayCubes$Stand") ∈ lw_tbl := lw_at 127 (by decide +kernel)
set_option maxRecDepth 100000 in
theorem tb_0 {args : Array Value} {s : State} {A : Nat → Prop} (hgv : (Jvm.Cond.and given_1 narrow_1).before args s = true) (hl : (Cond.laysStatic "DayCubes" "POWERS_OF_TEN" "[I").before args s = true) (hini : (Cond.initialized "DayCubes").before args s = true) (hA : ∀ a : Nat, a < s.heap.size → ¬ A a) : ∃ t : Nat, va_Z "DayCubes" "POWERS_OF_TEN" "[I" (.ref t) A s s.heap ∧ va_T .int t 5 (fun j => .int ((mTab 0).getD j 0)) A s s.heap := by
  have hs := flat_of_before _ hgv
  obtain ⟨t, e, hT⟩ := va_Tof (tm := (.static "DayCubes" "POWERS_OF_TEN" "[I")) (ty := .int) (N := 5) (f := fun j => .int ((mTab 0).getD j 0)) (A := A) (by decide) (hs _ (by decide +kernel)) (va_eqt (z := 5) (hs _ (by decide +kernel))) (fun j hj => by
    rcases (show j = 0 ∨ j = 1 ∨ j = 2 ∨ j = 3 ∨ j = 4 by omega) with rfl | rfl | rfl | rfl | rfl
    · exact va_eqt (t := .elem (.static "DayCubes" "POWERS_OF_TEN" "[I") (.int 0)) (z := 1) (hs _ (by decide +kernel))
    · exact va_eqt (t := .elem (.static "DayCubes" "POWERS_OF_TEN" "[I") (.int 1)) (z := 10) (hs _ (by decide +kernel))
    · exact va_eqt (t := .elem (.static "DayCubes" "POWERS_OF_TEN" "[I") (.int 2)) (z := 100) (hs _ (by decide +kernel))
    · exact va_eqt (t := .elem (.static "DayCubes" "POWERS_OF_TEN" "[I") (.int 3)) (z := 1000) (hs _ (by decide +kernel))
    · exact va_eqt (t := .elem (.static "DayCubes" "POWERS_OF_TEN" "[I") (.int 4)) (z := 10000) (hs _ (by decide +kernel))) hA
  exact ⟨t, va_Zof hl hini e hA, hT⟩
set_option maxRecDepth 100000 in
theorem tb_1 {args : Array Value} {s : State} {A : Nat → Prop} (hgv : (Jvm.Cond.and given_1 narrow_1).before args s = true) (hl : (Cond.laysStatic "DayCubes" "POWERS_OF_SIX" "[I").before args s = true) (hini : (Cond.initialized "DayCubes").before args s = true) (hA : ∀ a : Nat, a < s.heap.size → ¬ A a) : ∃ t : Nat, va_Z "DayCubes" "POWERS_OF_SIX" "[I" (.ref t) A s s.heap ∧ va_T .int t 5 (fun j => .int ((mTab 1).getD j 0)) A s s.heap := by
  have hs := flat_of_before _ hgv
  obtain ⟨t, e, hT⟩ := va_Tof (tm := (.static "DayCubes" "POWERS_OF_SIX" "[I")) (ty := .int) (N := 5) (f := fun j => .int ((mTab 1).getD j 0)) (A := A) (by decide) (hs _ (by decide +kernel)) (va_eqt (z := 5) (hs _ (by decide +kernel))) (fun j hj => by
    rcases (show j = 0 ∨ j = 1 ∨ j = 2 ∨ j = 3 ∨ j = 4 by omega) with rfl | rfl | rfl | rfl | rfl
    · exact va_eqt (t := .elem (.static "DayCubes" "POWERS_OF_SIX" "[I") (.int 0)) (z := 1) (hs _ (by decide +kernel))
    · exact va_eqt (t := .elem (.static "DayCubes" "POWERS_OF_SIX" "[I") (.int 1)) (z := 6) (hs _ (by decide +kernel))
    · exact va_eqt (t := .elem (.static "DayCubes" "POWERS_OF_SIX" "[I") (.int 2)) (z := 36) (hs _ (by decide +kernel))
    · exact va_eqt (t := .elem (.static "DayCubes" "POWERS_OF_SIX" "[I") (.int 3)) (z := 216) (hs _ (by decide +kernel))
    · exact va_eqt (t := .elem (.static "DayCubes" "POWERS_OF_SIX" "[I") (.int 4)) (z := 1296) (hs _ (by decide +kernel))) hA
  exact ⟨t, va_Zof hl hini e hA, hT⟩
set_option maxRecDepth 100000 in
theorem tb_2 {args : Array Value} {s : State} {A : Nat → Prop} (hgv : (Jvm.Cond.and given_1 narrow_1).before args s = true) (hl : (Cond.laysStatic "DayCubes" "KIND_ABOVE" "[I").before args s = true) (hini : (Cond.initialized "DayCubes").before args s = true) (hA : ∀ a : Nat, a < s.heap.size → ¬ A a) : ∃ t : Nat, va_Z "DayCubes" "KIND_ABOVE" "[I" (.ref t) A s s.heap ∧ va_T .int t 6 (fun j => .int ((mTab 2).getD j 0)) A s s.heap := by
  have hs := flat_of_before _ hgv
  obtain ⟨t, e, hT⟩ := va_Tof (tm := (.static "DayCubes" "KIND_ABOVE" "[I")) (ty := .int) (N := 6) (f := fun j => .int ((mTab 2).getD j 0)) (A := A) (by decide) (hs _ (by decide +kernel)) (va_eqt (z := 6) (hs _ (by decide +kernel))) (fun j hj => by
    rcases (show j = 0 ∨ j = 1 ∨ j = 2 ∨ j = 3 ∨ j = 4 ∨ j = 5 by omega) with rfl | rfl | rfl | rfl | rfl | rfl
    · exact va_eqt (t := .elem (.static "DayCubes" "KIND_ABOVE" "[I") (.int 0)) (z := 0) (hs _ (by decide +kernel))
    · exact va_eqt (t := .elem (.static "DayCubes" "KIND_ABOVE" "[I") (.int 1)) (z := 0) (hs _ (by decide +kernel))
    · exact va_eqt (t := .elem (.static "DayCubes" "KIND_ABOVE" "[I") (.int 2)) (z := 0) (hs _ (by decide +kernel))
    · exact va_eqt (t := .elem (.static "DayCubes" "KIND_ABOVE" "[I") (.int 3)) (z := 1) (hs _ (by decide +kernel))
    · exact va_eqt (t := .elem (.static "DayCubes" "KIND_ABOVE" "[I") (.int 4)) (z := 2) (hs _ (by decide +kernel))
    · exact va_eqt (t := .elem (.static "DayCubes" "KIND_ABOVE" "[I") (.int 5)) (z := 0) (hs _ (by decide +kernel))) hA
  exact ⟨t, va_Zof hl hini e hA, hT⟩
set_option maxRecDepth 100000 in
theorem tb_3 {args : Array Value} {s : State} {A : Nat → Prop} (hgv : (Jvm.Cond.and given_1 narrow_1).before args s = true) (hl : (Cond.laysStatic "DayCubes" "KIND_TRACE" "[I").before args s = true) (hini : (Cond.initialized "DayCubes").before args s = true) (hA : ∀ a : Nat, a < s.heap.size → ¬ A a) : ∃ t : Nat, va_Z "DayCubes" "KIND_TRACE" "[I" (.ref t) A s s.heap ∧ va_T .int t 6 (fun j => .int ((mTab 3).getD j 0)) A s s.heap := by
  have hs := flat_of_before _ hgv
  obtain ⟨t, e, hT⟩ := va_Tof (tm := (.static "DayCubes" "KIND_TRACE" "[I")) (ty := .int) (N := 6) (f := fun j => .int ((mTab 3).getD j 0)) (A := A) (by decide) (hs _ (by decide +kernel)) (va_eqt (z := 6) (hs _ (by decide +kernel))) (fun j hj => by
    rcases (show j = 0 ∨ j = 1 ∨ j = 2 ∨ j = 3 ∨ j = 4 ∨ j = 5 by omega) with rfl | rfl | rfl | rfl | rfl | rfl
    · exact va_eqt (t := .elem (.static "DayCubes" "KIND_TRACE" "[I") (.int 0)) (z := 1) (hs _ (by decide +kernel))
    · exact va_eqt (t := .elem (.static "DayCubes" "KIND_TRACE" "[I") (.int 1)) (z := 10) (hs _ (by decide +kernel))
    · exact va_eqt (t := .elem (.static "DayCubes" "KIND_TRACE" "[I") (.int 2)) (z := 100) (hs _ (by decide +kernel))
    · exact va_eqt (t := .elem (.static "DayCubes" "KIND_TRACE" "[I") (.int 3)) (z := 1000) (hs _ (by decide +kernel))
    · exact va_eqt (t := .elem (.static "DayCubes" "KIND_TRACE" "[I") (.int 4)) (z := 10000) (hs _ (by decide +kernel))
    · exact va_eqt (t := .elem (.static "DayCubes" "KIND_TRACE" "[I") (.int 5)) (z := 100000) (hs _ (by decide +kernel))) hA
  exact ⟨t, va_Zof hl hini e hA, hT⟩
set_option maxRecDepth 100000 in
theorem tb_4 {args : Array Value} {s : State} {A : Nat → Prop} (hgv : (Jvm.Cond.and given_1 narrow_1).before args s = true) (hl : (Cond.laysStatic "DayCubes$Tellers" "SETS_WITHOUT" "[I").before args s = true) (hini : (Cond.initialized "DayCubes$Tellers").before args s = true) (hA : ∀ a : Nat, a < s.heap.size → ¬ A a) : ∃ t : Nat, va_Z "DayCubes$Tellers" "SETS_WITHOUT" "[I" (.ref t) A s s.heap ∧ va_T .int t 4 (fun j => .int ((mTab 4).getD j 0)) A s s.heap := by
  have hs := flat_of_before _ hgv
  obtain ⟨t, e, hT⟩ := va_Tof (tm := (.static "DayCubes$Tellers" "SETS_WITHOUT" "[I")) (ty := .int) (N := 4) (f := fun j => .int ((mTab 4).getD j 0)) (A := A) (by decide) (hs _ (by decide +kernel)) (va_eqt (z := 4) (hs _ (by decide +kernel))) (fun j hj => by
    rcases (show j = 0 ∨ j = 1 ∨ j = 2 ∨ j = 3 by omega) with rfl | rfl | rfl | rfl
    · exact va_eqt (t := .elem (.static "DayCubes$Tellers" "SETS_WITHOUT" "[I") (.int 0)) (z := 21845) (hs _ (by decide +kernel))
    · exact va_eqt (t := .elem (.static "DayCubes$Tellers" "SETS_WITHOUT" "[I") (.int 1)) (z := 13107) (hs _ (by decide +kernel))
    · exact va_eqt (t := .elem (.static "DayCubes$Tellers" "SETS_WITHOUT" "[I") (.int 2)) (z := 3855) (hs _ (by decide +kernel))
    · exact va_eqt (t := .elem (.static "DayCubes$Tellers" "SETS_WITHOUT" "[I") (.int 3)) (z := 255) (hs _ (by decide +kernel))) hA
  exact ⟨t, va_Zof hl hini e hA, hT⟩
theorem arr_of {args : Array Value} {s : State} {ty : FieldType} (h : (Cond.arrayClass ty).before args s = true) : ∃ cA, ArrOfT s cA ty ∧ s.vm.findClass ("[" ++ ty.toString) = some cA := by
  obtain ⟨c, k, comp, h1, h2, h3⟩ := Cond.arrayClass_spec h
  exact ⟨c, fun n z => ⟨fun k h => (by cases h), k, h2, comp, h3⟩, h1⟩
theorem arr_ov {args : Array Value} {s : State} {C : String} (h : (Cond.arrayOver (.object C)).before args s = true) : ∃ cA, ArrOfT s cA (.object C) ∧ va_RA s cA (.object C) := by
  obtain ⟨comp, c, k, h1, h2, h3, h4, h5⟩ := Cond.arrayOver_spec h
  exact ⟨c, fun n z => ⟨fun k h => (by cases h), k, h3, comp, h4⟩, k, comp, h3, h4, h1, h5⟩
set_option maxHeartbeats 4000000 in
set_option maxRecDepth 100000 in
/-- from the entry, for every script of at most 2048 ints, the law comes to its end with true -/
theorem whole_start {p : Program} {e : Env} {s : State} {m : MethodId} {below : List Frame} {meth : Method} {c : Code} (l : Launch) (hflags : l.flags = flags0) {b L : Nat} {xs : Nat → Int32} (hL : L ≤ 2048) (C0 : lw_At p s m meth c b L xs) : W p l e room_1 s m #[Value.ref b] below meth c s.heap [] 0 0 (lw_Z below #[Value.ref b] s) (entryFrame m ([Value.ref b] : List Value).toArray 4) := by
  obtain ⟨hx, hb, hr, hml, hown, hts, hX, hbl, hlocks, hgv⟩ := id C0
  have hmw : ∀ w ∈ mw, w.before #[Value.ref b] s = true := fun w hw => hts w (List.mem_filter.mp hw).1
  have hA : ∀ a : Nat, a < s.heap.size → ¬ (fun q : Nat => s.heap.size ≤ q) a := fun a h => Nat.not_le.mpr h
  obtain ⟨c0, i0, k0⟩ := u_known (C := RX0) (T := TX0) (N := 5) (n := 5) hmw wi_X0 (hmw _ w_inst_X0)
  obtain ⟨c1, i1, k1⟩ := u_known (C := RX1) (T := TX1) (N := 6) (n := 6) hmw wi_X1 (hmw _ w_inst_X1)
  obtain ⟨c2, i2, k2⟩ := u_known (C := RX2) (T := TX2) (N := 3) (n := 3) hmw wi_X2 (hmw _ w_inst_X2)
  obtain ⟨c3, i3, k3⟩ := u_known (C := RX3) (T := TX3) (N := 6) (n := 6) hmw wi_X3 (hmw _ w_inst_X3)
  obtain ⟨c4, i4, k4⟩ := u_known (C := RX4) (T := TX4) (N := 2) (n := 2) hmw wi_X4 (hmw _ w_inst_X4)
  obtain ⟨c5, i5, k5⟩ := u_known (C := RX5) (T := TX5) (N := 6) (n := 6) hmw wi_X5 (hmw _ w_inst_X5)
  obtain ⟨c6, i6, k6⟩ := u_known (C := RX6) (T := TX6) (N := 11) (n := 11) hmw wi_X6 (hmw _ w_inst_X6)
  obtain ⟨c7, i7, k7⟩ := u_known (C := RX7) (T := TX7) (N := 11) (n := 11) hmw wi_X7 (hmw _ w_inst_X7)
  obtain ⟨c8, i8, k8⟩ := u_known (C := RX8) (T := TX8) (N := 25) (n := 25) hmw wi_X8 (hmw _ w_inst_X8)
  obtain ⟨a0, p0, q0⟩ := arr_of (hmw _ w_arr_int)
  obtain ⟨a1, p1, q1⟩ := arr_of (hmw _ w_arr_byte)
  obtain ⟨a2, p2, q2⟩ := arr_of (hmw _ w_arr_boolean)
  obtain ⟨a3, p3, q3⟩ := arr_ov (hts _ ao_0)
  obtain ⟨t0, z0, y0⟩ := tb_0 (A := fun q : Nat => s.heap.size ≤ q) hgv (hts _ ls_0) (hmw _ w_init_X7) hA
  obtain ⟨t1, z1, y1⟩ := tb_1 (A := fun q : Nat => s.heap.size ≤ q) hgv (hts _ ls_1) (hmw _ w_init_X7) hA
  obtain ⟨t2, z2, y2⟩ := tb_2 (A := fun q : Nat => s.heap.size ≤ q) hgv (hts _ ls_2) (hmw _ w_init_X7) hA
  obtain ⟨t3, z3, y3⟩ := tb_3 (A := fun q : Nat => s.heap.size ≤ q) hgv (hts _ ls_3) (hmw _ w_init_X7) hA
  obtain ⟨t4, z4, y4⟩ := tb_4 (A := fun q : Nat => s.heap.size ≤ q) hgv (hts _ ls_4) (hmw _ w_init_X4) hA
  have y5 : va_T .int b L (fun j => .int (xs j)) (fun q : Nat => s.heap.size ≤ q) s s.heap := by
    obtain ⟨scr, h1, h2, h3, h4, h5⟩ := hX
    exact ⟨scr, h1, h2, h3, Nat.le_of_eq h4.symm, by rw [h4], h5, hA b hbl⟩
  obtain ⟨E, hE⟩ : ∃ E : mE, E = (l, (fun k => [c0, c1, c2, c3, c4, c5, c6, c7, c8].getD k c0, fun k => [i0, i1, i2, i3, i4, i5, i6, i7, i8].getD k i0), fun k => [a0, a1, a2, a3].getD k a0, s.heap.size, fun k => [t0, t1, t2, t3, t4, b].getD k b, (L, xs), false) := ⟨_, rfl⟩
  have hKn : mKn E s := by
    subst hE
    refine ⟨⟨fun k q hq => ?_, fun k q hq => ?_⟩, va_AO.of (hts _ ao_0), fun q hq => ?_, fun q hq => ?_⟩
    · match k, hq with
      | 0, hq => cases hq; exact k0
      | 1, hq => cases hq; exact k1
      | 2, hq => cases hq; exact k2
      | 3, hq => cases hq; exact k3
      | 4, hq => cases hq; exact k4
      | 5, hq => cases hq; exact k5
      | 6, hq => cases hq; exact k6
      | 7, hq => cases hq; exact k7
      | 8, hq => cases hq; exact k8
      | k + 9, hq => simp [mCl] at hq
    · match k, hq with
      | 0, hq => cases hq; exact ⟨p0, q0⟩
      | 1, hq => cases hq; exact ⟨p1, q1⟩
      | 2, hq => cases hq; exact ⟨p2, q2⟩
      | 3, hq => cases hq; exact ⟨p3, q3⟩
      | k + 4, hq => simp [mTys] at hq
    · simp only [mNf, List.mem_cons, List.not_mem_nil, or_false] at hq
      rcases hq with rfl | rfl | rfl
      · exact va_Nw.of rfl (hts _ nf_0)
      · exact va_Nw.of rfl (hts _ nf_1)
      · exact va_Nw.of rfl (hts _ nf_2)
    · simp only [mNm, List.mem_cons, List.not_mem_nil, or_false] at hq
      rcases hq with rfl | rfl | rfl | rfl | rfl | rfl | rfl
      · exact va_Nw.of rfl (hts _ nq_0)
      · exact va_Nw.of rfl (hts _ nq_1)
      · exact va_Nw.of rfl (hts _ nq_2)
      · exact va_Nw.of rfl (hts _ nq_3)
      · exact va_Nw.of rfl (hts _ nq_4)
      · exact va_Nw.of rfl (hts _ nq_5)
      · exact va_Nw.of rfl (hts _ nq_6)
  have hSt : mSt E s s.heap := by
    subst hE
    refine ⟨fun i hi => ?_, fun i hi => ?_⟩
    · rcases (show i = 0 ∨ i = 1 ∨ i = 2 ∨ i = 3 ∨ i = 4 by omega) with rfl | rfl | rfl | rfl | rfl
      · exact z0
      · exact z1
      · exact z2
      · exact z3
      · exact z4
    · rcases (show i = 0 ∨ i = 1 ∨ i = 2 ∨ i = 3 ∨ i = 4 ∨ i = 5 by omega) with rfl | rfl | rfl | rfl | rfl | rfl
      · exact y0
      · exact y1
      · exact y2
      · exact y3
      · exact y4
      · exact y5
  have f1 : E.1 = l := by rw [hE]
  have f2 : E.2.2.2.1 = s.heap.size := by rw [hE]
  have f3 : E.2.2.2.2.2.1.1 = L := by rw [hE]
  have f4 : E.2.2.2.2.2.2 = false := by rw [hE]
  have f5 : mrv E (.ref 1005) = .ref b := by rw [hE]; rfl
  have hl0 := lv_entry ([Value.ref b]) (n := 4) (Nat.le_of_ble_eq_true rfl)
  rw [lg_entry_eq]
  generalize (lg_sl ([Value.ref b]) ++ List.replicate (4 - (lg_sl ([Value.ref b])).length) Slot.unset).toArray = ls at hl0 ⊢
  have hl1 : lv_has ls 4 (mPr E ([Value.ref 1005].map some ++ List.replicate 3 none)) := mPr_args E [.ref 1005] (fun v hv => by rw [List.mem_singleton.mp hv]; rfl) 3 (by
    show lv_has ls 4 (lv_args 0 [mrv E (.ref 1005)])
    rw [f5]
    exact hl0)
  have q := law_start (E := E) (nm := meth.name) (h := fun _ => mOb 0 []) f4 (by rw [f3]; exact hL) p e s m #[Value.ref b] below meth c s.heap [] ls ⟨hx, hb, hml, hr, hlocks, hown, rfl, hmw, hKn, hSt, by rw [f2]; exact Nat.le_refl _⟩ ⟨by rw [f2], Nat.zero_le _, fun k q hq => by simp [mWs] at hq⟩ va_S.rf hl1
  rw [f1] at q
  exact q
