/-! THE LAW -/
/-! THE CLAIM OUT OF ONE WALK OF THE LAW'S BODY. Your part is whole_start (and what it stands on); all else here is the same for every law, but numbers. -/
def R_law : String := "DayCubesLaw"
def lw_P (b : Addr) (xs : List Int32) (args : Array Value) (s : State) : Prop := args = #[.ref b] ∧ s.IntsAt b xs ∧ xs.length ≤ 2048 ∧ (Jvm.Cond.and given_1 narrow_1).before args s = true
def lw_Q (_ : Array Value) (s : State) (o : Outcome) (t : State) : Prop := o = .returned (some (.int 1)) ∧ Framed s o t [] 600000 7302250
def lw_Z (below : List Frame) (a : Array Value) (s : State) : State → Prop := fun t => ∃ o, t.status = .running ∧ Ended t below o ∧ lw_Q a s o t
/-- the law's own end, with 1 on the stack, nothing written that was there before, its room as the claim has it -/
theorem lw_ret {p : Program} {l : Launch} {e : Env} {s : State} {m : MethodId} {below : List Frame} {meth : Method} {c : Code} {b : Nat} (hx : p.tables.exec = Jvm.exec) (hb : c.code = code) (hr : meth.sig.returnType = ret) (hlocks : meth.locks = false) {pc : Nat} {H : Heap} {ls : Array Slot} (hdg : decode code pc = .ok (.ireturn, 1)) : W p l e room_1 s m #[Value.ref b] below meth c H [] 600000 7302250 (lw_Z below #[Value.ref b] s) (F0 m pc ls [.int 1]) := by
  intro T hT X
  obtain ⟨fs, hret, hrun, hended, hW, hframe⟩ := X.leave (v := some (.int 1)) (hlocks := hlocks) (fun h => by rw [hr] at h; cases h)
  have hmeth' : T.vm.method? m = some meth := X.method'
  refine ⟨T.setFrames fs, ?_, .returned (some (.int 1)), hrun, hended, rfl, ⟨_, rfl⟩, hW, hframe⟩
  jvm_step X.here [X.here.top, hx, hb, hdg, hmeth', hr, ret, narrow_b1]
  (try refine ⟨rfl, ?_⟩); (try refine ⟨rfl, ?_⟩)
  first | (intro acts; rw [hret _ acts rfl rfl rfl]) | rw [hret _ _ rfl rfl rfl]
  exact Steps.refl _
/-- what holds at the law's entry: the machine, the code, the tables' words (any of lw_tbl by 'hts w (by decide +kernel)'), the script of L ints xs at the cell b, what the Statement gives of the start (any of its parts by flat_of_before) -/
def lw_At (p : Program) (s : State) (m : MethodId) (meth : Method) (c : Code) (b L : Nat) (xs : Nat → Int32) : Prop :=
  p.tables.exec = Jvm.exec ∧ c.code = code ∧ meth.sig.returnType = ret ∧ c.maxLocals = 4 ∧ s.vm.findClass R_law = some m.cls ∧ (∀ w ∈ lw_tbl, w.before #[Value.ref b] s = true) ∧ va_X b L xs s s.heap ∧ b < s.heap.size ∧ meth.locks = false ∧ (Jvm.Cond.and given_1 narrow_1).before #[Value.ref b] s = true
abbrev mL (nm : String) : mM := (room_1, ⟨RL, nm, "([I)Z"⟩, cL_law, 4, some .boolean)
def mKL : mKt := fun below args s => lw_Z below args s
abbrev aL : Nat × Nat × Nat := (56, 56, 2485)
abbrev LL (i : Nat) : List (Option Value) := [some (.ref 1005), some (.ref 0), some (.ref 40), some (vN i)]
theorem lw_retA {p : Program} {l : Launch} {e : Env} {s : State} {m : MethodId} {args : Array Value} {below : List Frame} {meth : Method} {c : Code} (hx : p.tables.exec = Jvm.exec) (hb : c.code = code) (hr : meth.sig.returnType = ret) (hlocks : meth.locks = false) {pc : Nat} {H : Heap} {ls : Array Slot} (hdg : decode code pc = .ok (.ireturn, 1)) : W p l e room_1 s m args below meth c H [] 600000 7302250 (lw_Z below args s) (F0 m pc ls [.int 1]) := by
  intro T hT X
  obtain ⟨fs, hret, hrun, hended, hW, hframe⟩ := X.leave (v := some (.int 1)) (hlocks := hlocks) (fun h => by rw [hr] at h; cases h)
  have hmeth' : T.vm.method? m = some meth := X.method'
  refine ⟨T.setFrames fs, ?_, .returned (some (.int 1)), hrun, hended, rfl, ⟨_, rfl⟩, hW, hframe⟩
  jvm_step X.here [X.here.top, hx, hb, hdg, hmeth', hr, ret, narrow_b1]
  (try refine ⟨rfl, ?_⟩); (try refine ⟨rfl, ?_⟩)
  first | (intro acts; rw [hret _ acts rfl rfl rfl]) | rw [hret _ _ rfl rfl rfl]
  exact Steps.refl _
theorem mG_end {E : mE} {nm : String} {L : List (Option Value)} {h : mH} {pc pc' : Nat} (hd : mD cL_law pc .ireturn 1 pc') : mG E (mL nm) mKL pc L [.int 1] aL h := by
  obtain ⟨hd, rfl⟩ := hd
  intro p e s m args below meth c H locs ls C R S V
  have hz : s.heap.size = E.2.2.2.1 := by
    have h1 : s.heap.size + 56 = E.2.2.2.1 + 56 := R.1
    omega
  exact W.widen (show 56 ≤ 600000 from Nat.le_of_ble_eq_true rfl) (show 2485 ≤ 7302250 from Nat.le_of_ble_eq_true rfl) (va_forget (fun q hq => by rw [hz]; exact S.2.2 q hq) (lw_retA C.1 C.2.1 C.2.2.2.1 C.2.2.2.2.1 hd))
theorem mG_du {E : mE} {nm : String} {L : List (Option Value)} {st : List Value} {h : mH} {pc pc' b ci : Nat} {Y : mY} {na i d : Nat} {av fs : List Value} {Q : Option Value → mH → Prop} (hc : mCv RL i Y na ci) (hd : mD cL_law pc (.invokevirtual i) 3 pc') (hd1 : d ≤ 50) (hnL : Y.2.2.1 ≤ 40) (hcat : (st.map fun v => v.category).sum ≤ 8) (hh : h b = mOb ci fs) (hb : b < 56) (hna : av.length = na) (hM : mOk E d Y (.ref b :: av) h Q) (k : ∀ r h', Q r h' → mG E (mL nm) mKL pc' L (r.toList ++ st) aL h') : mG E (mL nm) mKL pc L (av.reverse ++ .ref b :: st) aL h :=
  mG_callV (M := mL nm) (R' := mR d) hc hd ⟨by show d + 1 ≤ 2048; omega, by show 8 + (Y.2.2.1 + 11) + 60 * d ≤ 84000; omega⟩ hcat ⟨Nat.le_of_ble_eq_true rfl, Nat.le_of_ble_eq_true rfl⟩ hh hb hna rfl (fun _ => by decide) hM k
theorem INV_0 {h : mH} (I : INV h) : ∃ fs, h 0 = mOb 7 fs := by
  obtain ⟨n, tx, cu, dc, bo, td, dn, wk, nf, ca, fr, ds, x0, x1, kp, sn, sf, st, tr, cb, db, bb, dg, nw, kn, bf, sr, ik, mo, od, H, R, S⟩ := I
  exact ⟨_, H.1⟩
theorem sc_at {E : mE} {i j : Nat} (hi : i + 4 ≤ E.2.2.2.2.2.1.1) (hL : E.2.2.2.2.2.1.1 ≤ 2048) (hj : j < 4) : mTL E 5 < 2 ^ 31 ∧ i + j < mTL E 5 := by
  have e : mTL E 5 = E.2.2.2.2.2.1.1 := rfl
  rw [e]
  omega
theorem lg_cmp_self (v : Int64) : lg_cmp v v = 0 := by
  unfold lg_cmp
  simp
set_option maxRecDepth 100000 in
set_option maxHeartbeats 4000000 in
theorem law_type {E : mE} {nm : String} {h : mH} {i : Nat} (hi : i + 4 ≤ E.2.2.2.2.2.1.1) (hL : E.2.2.2.2.2.1.1 ≤ 2048) (I : INV h) (kc : ∀ (E1 : mE) (h1 : mH), E1.2.2.2.2.2.1 = E.2.2.2.2.2.1 → INV h1 → mG E1 (mL nm) mKL 737 (LL i) [] aL h1) : mG E (mL nm) mKL 144 (LL i) [] aL h := by
  refine mG_aload_n dL_law_144 rfl ?_
  refine mG_aload_n dL_law_145 rfl ?_
  refine mG_iload_n dL_law_146 rfl ?_
  refine mG_iconst (v := nI 1) dL_law_147 (by decide) ?_
  refine mG_iaddN dL_law_148 ?_
  refine mG_tald (t := 5) dL_law_149 (by decide) (sc_at (j := 1) hi hL (by decide)).1 (sc_at (j := 1) hi hL (by decide)).2 ?_
  obtain ⟨gs, e0⟩ := INV_0 I
  obtain ⟨d1, d2, Q, h1, h2, C, R⟩ := du_type (E := E) I (mTF E 5 (i + 1))
  refine mG_du (av := [.int (mTF E 5 (i + 1))]) vL_13 dL_law_150 h1 (by decide) (Nat.le_of_ble_eq_true rfl) e0 (by decide) rfl C (fun r h1 q => ?_)
  obtain ⟨v, rfl, q⟩ := q
  obtain ⟨⟨fs, e40⟩, R2⟩ := R v h1 q
  show mG E (mL nm) mKL 153 (LL i) [.int v] aL h1
  refine mG_aload_n dL_law_153 rfl ?_
  refine mG_aload_n dL_law_154 rfl ?_
  refine mG_iload_n dL_law_155 rfl ?_
  refine mG_iconst (v := nI 1) dL_law_156 (by decide) ?_
  refine mG_iaddN dL_law_157 ?_
  refine mG_tald (t := 5) dL_law_158 (by decide) (sc_at (j := 1) hi hL (by decide)).1 (sc_at (j := 1) hi hL (by decide)).2 ?_
  refine mG_du (av := [.int (mTF E 5 (i + 1))]) vL_17 dL_law_159 h2 (by decide) (Nat.le_of_ble_eq_true rfl) e40 (by decide) rfl R2 (fun r h2 q => ?_)
  obtain ⟨rfl, I2⟩ := q
  show mG E (mL nm) mKL 162 (LL i) [.int v, .int v] aL h2
  exact mG_icmp_eq dL_law_162 (fun _ => kc E h2 rfl I2) (fun z => absurd rfl z)
set_option maxRecDepth 100000 in
set_option maxHeartbeats 4000000 in
theorem law_clear {E : mE} {nm : String} {h : mH} {i : Nat} (hi : i + 4 ≤ E.2.2.2.2.2.1.1) (hL : E.2.2.2.2.2.1.1 ≤ 2048) (I : INV h) (kc : ∀ (E1 : mE) (h1 : mH), E1.2.2.2.2.2.1 = E.2.2.2.2.2.1 → INV h1 → mG E1 (mL nm) mKL 737 (LL i) [] aL h1) : mG E (mL nm) mKL 167 (LL i) [] aL h := by
  refine mG_aload_n dL_law_167 rfl ?_
  obtain ⟨gs, e0⟩ := INV_0 I
  obtain ⟨d1, d2, Q, h1, h2, C, R⟩ := du_clear (E := E) I
  refine mG_du (av := []) vL_18 dL_law_168 h1 (by decide) (Nat.le_of_ble_eq_true rfl) e0 (by decide) rfl C (fun r h1 q => ?_)
  obtain ⟨v, rfl, q⟩ := q
  obtain ⟨⟨fs, e40⟩, R2⟩ := R v h1 q
  show mG E (mL nm) mKL 171 (LL i) [.int v] aL h1
  refine mG_aload_n dL_law_171 rfl ?_
  refine mG_du (av := []) vL_22 dL_law_172 h2 (by decide) (Nat.le_of_ble_eq_true rfl) e40 (by decide) rfl R2 (fun r h2 q => ?_)
  obtain ⟨rfl, I2⟩ := q
  show mG E (mL nm) mKL 175 (LL i) [.int v, .int v] aL h2
  exact mG_icmp_eq dL_law_175 (fun _ => kc E h2 rfl I2) (fun z => absurd rfl z)
set_option maxRecDepth 100000 in
set_option maxHeartbeats 4000000 in
theorem law_desk {E : mE} {nm : String} {h : mH} {i : Nat} (hi : i + 4 ≤ E.2.2.2.2.2.1.1) (hL : E.2.2.2.2.2.1.1 ≤ 2048) (I : INV h) (kc : ∀ (E1 : mE) (h1 : mH), E1.2.2.2.2.2.1 = E.2.2.2.2.2.1 → INV h1 → mG E1 (mL nm) mKL 737 (LL i) [] aL h1) : mG E (mL nm) mKL 180 (LL i) [] aL h := by
  refine mG_aload_n dL_law_180 rfl ?_
  obtain ⟨gs, e0⟩ := INV_0 I
  rcases du_desk (E := E) I with ⟨d1, d2, Q, h1, h2, C, R⟩ | ⟨d1, d2, Q, h1, h2, C, R⟩
  · refine mG_du (av := []) vL_23 dL_law_181 h1 (by decide) (Nat.le_of_ble_eq_true rfl) e0 (by decide) rfl C (fun r h1 q => ?_)
    obtain ⟨v, rfl, q⟩ := q
    obtain ⟨⟨fs, e40⟩, R2⟩ := R v h1 q
    show mG E (mL nm) mKL 184 (LL i) [.int v] aL h1
    refine mG_aload_n dL_law_184 rfl ?_
    refine mG_du (av := []) vL_26 dL_law_185 h2 (by decide) (Nat.le_of_ble_eq_true rfl) e40 (by decide) rfl R2 (fun r h2 q => ?_)
    obtain ⟨rfl, I2⟩ := q
    show mG E (mL nm) mKL 188 (LL i) [.int v, .int v] aL h2
    exact mG_icmp_eq dL_law_188 (fun _ => kc E h2 rfl I2) (fun z => absurd rfl z)
  · refine mG_du (av := []) vL_23 dL_law_181 h1 (by decide) (Nat.le_of_ble_eq_true rfl) e0 (by decide) rfl C (fun r h1 q => ?_)
    obtain ⟨v, rfl, q⟩ := q
    obtain ⟨⟨fs, e40⟩, R2⟩ := R v (rl h1) q
    refine mG_swap (by decide) ?_
    show mG (flipE E) (mL nm) mKL 184 (LL i) [.int v] aL (rl h1)
    refine mG_aload_n dL_law_184 rfl ?_
    refine mG_du (av := []) vL_26 dL_law_185 h2 (by decide) (Nat.le_of_ble_eq_true rfl) e40 (by decide) rfl R2 (fun r h2 q => ?_)
    obtain ⟨rfl, I2⟩ := q
    show mG (flipE E) (mL nm) mKL 188 (LL i) [.int v, .int v] aL h2
    exact mG_icmp_eq dL_law_188 (fun _ => kc (flipE E) h2 rfl I2) (fun z => absurd rfl z)
set_option maxRecDepth 100000 in
set_option maxHeartbeats 4000000 in
theorem law_side {E : mE} {nm : String} {h : mH} {i : Nat} (hi : i + 4 ≤ E.2.2.2.2.2.1.1) (hL : E.2.2.2.2.2.1.1 ≤ 2048) (I : INV h) (kc : ∀ (E1 : mE) (h1 : mH), E1.2.2.2.2.2.1 = E.2.2.2.2.2.1 → INV h1 → mG E1 (mL nm) mKL 737 (LL i) [] aL h1) : mG E (mL nm) mKL 193 (LL i) [] aL h := by
  refine mG_aload_n dL_law_193 rfl ?_
  refine mG_aload_n dL_law_194 rfl ?_
  refine mG_iload_n dL_law_195 rfl ?_
  refine mG_iconst (v := nI 1) dL_law_196 (by decide) ?_
  refine mG_iaddN dL_law_197 ?_
  refine mG_tald (t := 5) dL_law_198 (by decide) (sc_at (j := 1) hi hL (by decide)).1 (sc_at (j := 1) hi hL (by decide)).2 ?_
  refine mG_aload_n dL_law_199 rfl ?_
  refine mG_iload_n dL_law_200 rfl ?_
  refine mG_iconst (v := nI 2) dL_law_201 (by decide) ?_
  refine mG_iaddN dL_law_202 ?_
  refine mG_tald (t := 5) dL_law_203 (by decide) (sc_at (j := 2) hi hL (by decide)).1 (sc_at (j := 2) hi hL (by decide)).2 ?_
  obtain ⟨gs, e0⟩ := INV_0 I
  obtain ⟨d1, d2, Q, h1, h2, C, R⟩ := du_side (E := E) I (mTF E 5 (i + 1)) (mTF E 5 (i + 2))
  refine mG_du (av := [.int (mTF E 5 (i + 1)), .int (mTF E 5 (i + 2))]) vL_27 dL_law_204 h1 (by decide) (Nat.le_of_ble_eq_true rfl) e0 (by decide) rfl C (fun r h1 q => ?_)
  obtain ⟨v, rfl, q⟩ := q
  obtain ⟨⟨fs, e40⟩, R2⟩ := R v h1 q
  show mG E (mL nm) mKL 207 (LL i) [.int v] aL h1
  refine mG_aload_n dL_law_207 rfl ?_
  refine mG_aload_n dL_law_208 rfl ?_
  refine mG_iload_n dL_law_209 rfl ?_
  refine mG_iconst (v := nI 1) dL_law_210 (by decide) ?_
  refine mG_iaddN dL_law_211 ?_
  refine mG_tald (t := 5) dL_law_212 (by decide) (sc_at (j := 1) hi hL (by decide)).1 (sc_at (j := 1) hi hL (by decide)).2 ?_
  refine mG_aload_n dL_law_213 rfl ?_
  refine mG_iload_n dL_law_214 rfl ?_
  refine mG_iconst (v := nI 2) dL_law_215 (by decide) ?_
  refine mG_iaddN dL_law_216 ?_
  refine mG_tald (t := 5) dL_law_217 (by decide) (sc_at (j := 2) hi hL (by decide)).1 (sc_at (j := 2) hi hL (by decide)).2 ?_
  refine mG_du (av := [.int (mTF E 5 (i + 1)), .int (mTF E 5 (i + 2))]) vL_31 dL_law_218 h2 (by decide) (Nat.le_of_ble_eq_true rfl) e40 (by decide) rfl R2 (fun r h2 q => ?_)
  obtain ⟨rfl, I2⟩ := q
  show mG E (mL nm) mKL 221 (LL i) [.int v, .int v] aL h2
  exact mG_icmp_eq dL_law_221 (fun _ => kc E h2 rfl I2) (fun z => absurd rfl z)
set_option maxRecDepth 100000 in
set_option maxHeartbeats 4000000 in
theorem law_cube {E : mE} {nm : String} {h : mH} {i : Nat} (hi : i + 4 ≤ E.2.2.2.2.2.1.1) (hL : E.2.2.2.2.2.1.1 ≤ 2048) (I : INV h) (kc : ∀ (E1 : mE) (h1 : mH), E1.2.2.2.2.2.1 = E.2.2.2.2.2.1 → INV h1 → mG E1 (mL nm) mKL 737 (LL i) [] aL h1) : mG E (mL nm) mKL 226 (LL i) [] aL h := by
  refine mG_aload_n dL_law_226 rfl ?_
  refine mG_aload_n dL_law_227 rfl ?_
  refine mG_iload_n dL_law_228 rfl ?_
  refine mG_iconst (v := nI 1) dL_law_229 (by decide) ?_
  refine mG_iaddN dL_law_230 ?_
  refine mG_tald (t := 5) dL_law_231 (by decide) (sc_at (j := 1) hi hL (by decide)).1 (sc_at (j := 1) hi hL (by decide)).2 ?_
  refine mG_aload_n dL_law_232 rfl ?_
  refine mG_iload_n dL_law_233 rfl ?_
  refine mG_iconst (v := nI 2) dL_law_234 (by decide) ?_
  refine mG_iaddN dL_law_235 ?_
  refine mG_tald (t := 5) dL_law_236 (by decide) (sc_at (j := 2) hi hL (by decide)).1 (sc_at (j := 2) hi hL (by decide)).2 ?_
  obtain ⟨gs, e0⟩ := INV_0 I
  obtain ⟨d1, d2, Q, h1, h2, C, R⟩ := du_cube (E := E) I (mTF E 5 (i + 1)) (mTF E 5 (i + 2))
  refine mG_du (av := [.int (mTF E 5 (i + 1)), .int (mTF E 5 (i + 2))]) vL_32 dL_law_237 h1 (by decide) (Nat.le_of_ble_eq_true rfl) e0 (by decide) rfl C (fun r h1 q => ?_)
  obtain ⟨v, rfl, q⟩ := q
  obtain ⟨⟨fs, e40⟩, R2⟩ := R v h1 q
  show mG E (mL nm) mKL 240 (LL i) [.int v] aL h1
  refine mG_aload_n dL_law_240 rfl ?_
  refine mG_aload_n dL_law_241 rfl ?_
  refine mG_iload_n dL_law_242 rfl ?_
  refine mG_iconst (v := nI 1) dL_law_243 (by decide) ?_
  refine mG_iaddN dL_law_244 ?_
  refine mG_tald (t := 5) dL_law_245 (by decide) (sc_at (j := 1) hi hL (by decide)).1 (sc_at (j := 1) hi hL (by decide)).2 ?_
  refine mG_aload_n dL_law_246 rfl ?_
  refine mG_iload_n dL_law_247 rfl ?_
  refine mG_iconst (v := nI 2) dL_law_248 (by decide) ?_
  refine mG_iaddN dL_law_249 ?_
  refine mG_tald (t := 5) dL_law_250 (by decide) (sc_at (j := 2) hi hL (by decide)).1 (sc_at (j := 2) hi hL (by decide)).2 ?_
  refine mG_du (av := [.int (mTF E 5 (i + 1)), .int (mTF E 5 (i + 2))]) vL_35 dL_law_251 h2 (by decide) (Nat.le_of_ble_eq_true rfl) e40 (by decide) rfl R2 (fun r h2 q => ?_)
  obtain ⟨rfl, I2⟩ := q
  show mG E (mL nm) mKL 254 (LL i) [.int v, .int v] aL h2
  exact mG_icmp_eq dL_law_254 (fun _ => kc E h2 rfl I2) (fun z => absurd rfl z)
set_option maxRecDepth 100000 in
set_option maxHeartbeats 4000000 in
theorem law_place {E : mE} {nm : String} {h : mH} {i : Nat} (hi : i + 4 ≤ E.2.2.2.2.2.1.1) (hL : E.2.2.2.2.2.1.1 ≤ 2048) (I : INV h) (kc : ∀ (E1 : mE) (h1 : mH), E1.2.2.2.2.2.1 = E.2.2.2.2.2.1 → INV h1 → mG E1 (mL nm) mKL 737 (LL i) [] aL h1) : mG E (mL nm) mKL 259 (LL i) [] aL h := by
  refine mG_aload_n dL_law_259 rfl ?_
  refine mG_aload_n dL_law_260 rfl ?_
  refine mG_iload_n dL_law_261 rfl ?_
  refine mG_iconst (v := nI 1) dL_law_262 (by decide) ?_
  refine mG_iaddN dL_law_263 ?_
  refine mG_tald (t := 5) dL_law_264 (by decide) (sc_at (j := 1) hi hL (by decide)).1 (sc_at (j := 1) hi hL (by decide)).2 ?_
  obtain ⟨gs, e0⟩ := INV_0 I
  obtain ⟨d1, d2, Q, h1, h2, C, R⟩ := du_place (E := E) I (mTF E 5 (i + 1))
  refine mG_du (av := [.int (mTF E 5 (i + 1))]) vL_36 dL_law_265 h1 (by decide) (Nat.le_of_ble_eq_true rfl) e0 (by decide) rfl C (fun r h1 q => ?_)
  obtain ⟨v, rfl, q⟩ := q
  obtain ⟨⟨fs, e40⟩, R2⟩ := R v h1 q
  show mG E (mL nm) mKL 268 (LL i) [.int v] aL h1
  refine mG_aload_n dL_law_268 rfl ?_
  refine mG_aload_n dL_law_269 rfl ?_
  refine mG_iload_n dL_law_270 rfl ?_
  refine mG_iconst (v := nI 1) dL_law_271 (by decide) ?_
  refine mG_iaddN dL_law_272 ?_
  refine mG_tald (t := 5) dL_law_273 (by decide) (sc_at (j := 1) hi hL (by decide)).1 (sc_at (j := 1) hi hL (by decide)).2 ?_
  refine mG_du (av := [.int (mTF E 5 (i + 1))]) vL_39 dL_law_274 h2 (by decide) (Nat.le_of_ble_eq_true rfl) e40 (by decide) rfl R2 (fun r h2 q => ?_)
  obtain ⟨rfl, I2⟩ := q
  show mG E (mL nm) mKL 277 (LL i) [.int v, .int v] aL h2
  exact mG_icmp_eq dL_law_277 (fun _ => kc E h2 rfl I2) (fun z => absurd rfl z)
set_option maxRecDepth 100000 in
set_option maxHeartbeats 4000000 in
theorem law_day {E : mE} {nm : String} {h : mH} {i : Nat} (hi : i + 4 ≤ E.2.2.2.2.2.1.1) (hL : E.2.2.2.2.2.1.1 ≤ 2048) (I : INV h) (kc : ∀ (E1 : mE) (h1 : mH), E1.2.2.2.2.2.1 = E.2.2.2.2.2.1 → INV h1 → mG E1 (mL nm) mKL 737 (LL i) [] aL h1) : mG E (mL nm) mKL 282 (LL i) [] aL h := by
  refine mG_aload_n dL_law_282 rfl ?_
  refine mG_aload_n dL_law_283 rfl ?_
  refine mG_iload_n dL_law_284 rfl ?_
  refine mG_iconst (v := nI 1) dL_law_285 (by decide) ?_
  refine mG_iaddN dL_law_286 ?_
  refine mG_tald (t := 5) dL_law_287 (by decide) (sc_at (j := 1) hi hL (by decide)).1 (sc_at (j := 1) hi hL (by decide)).2 ?_
  obtain ⟨gs, e0⟩ := INV_0 I
  obtain ⟨d1, d2, Q, h1, h2, C, R⟩ := du_day (E := E) I (mTF E 5 (i + 1))
  refine mG_du (av := [.int (mTF E 5 (i + 1))]) vL_40 dL_law_288 h1 (by decide) (Nat.le_of_ble_eq_true rfl) e0 (by decide) rfl C (fun r h1 q => ?_)
  obtain ⟨v, rfl, q⟩ := q
  obtain ⟨⟨fs, e40⟩, R2⟩ := R v h1 q
  show mG E (mL nm) mKL 291 (LL i) [.int v] aL h1
  refine mG_aload_n dL_law_291 rfl ?_
  refine mG_aload_n dL_law_292 rfl ?_
  refine mG_iload_n dL_law_293 rfl ?_
  refine mG_iconst (v := nI 1) dL_law_294 (by decide) ?_
  refine mG_iaddN dL_law_295 ?_
  refine mG_tald (t := 5) dL_law_296 (by decide) (sc_at (j := 1) hi hL (by decide)).1 (sc_at (j := 1) hi hL (by decide)).2 ?_
  refine mG_du (av := [.int (mTF E 5 (i + 1))]) vL_43 dL_law_297 h2 (by decide) (Nat.le_of_ble_eq_true rfl) e40 (by decide) rfl R2 (fun r h2 q => ?_)
  obtain ⟨rfl, I2⟩ := q
  show mG E (mL nm) mKL 300 (LL i) [.int v, .int v] aL h2
  exact mG_icmp_eq dL_law_300 (fun _ => kc E h2 rfl I2) (fun z => absurd rfl z)
set_option maxRecDepth 100000 in
set_option maxHeartbeats 4000000 in
theorem law_turn {E : mE} {nm : String} {h : mH} {i : Nat} (hi : i + 4 ≤ E.2.2.2.2.2.1.1) (hL : E.2.2.2.2.2.1.1 ≤ 2048) (I : INV h) (kc : ∀ (E1 : mE) (h1 : mH), E1.2.2.2.2.2.1 = E.2.2.2.2.2.1 → INV h1 → mG E1 (mL nm) mKL 737 (LL i) [] aL h1) : mG E (mL nm) mKL 305 (LL i) [] aL h := by
  refine mG_aload_n dL_law_305 rfl ?_
  refine mG_aload_n dL_law_306 rfl ?_
  refine mG_iload_n dL_law_307 rfl ?_
  refine mG_iconst (v := nI 1) dL_law_308 (by decide) ?_
  refine mG_iaddN dL_law_309 ?_
  refine mG_tald (t := 5) dL_law_310 (by decide) (sc_at (j := 1) hi hL (by decide)).1 (sc_at (j := 1) hi hL (by decide)).2 ?_
  refine mG_aload_n dL_law_311 rfl ?_
  refine mG_iload_n dL_law_312 rfl ?_
  refine mG_iconst (v := nI 2) dL_law_313 (by decide) ?_
  refine mG_iaddN dL_law_314 ?_
  refine mG_tald (t := 5) dL_law_315 (by decide) (sc_at (j := 2) hi hL (by decide)).1 (sc_at (j := 2) hi hL (by decide)).2 ?_
  obtain ⟨gs, e0⟩ := INV_0 I
  obtain ⟨d1, d2, Q, h1, h2, C, R⟩ := du_turn (E := E) I (mTF E 5 (i + 1)) (mTF E 5 (i + 2))
  refine mG_du (av := [.int (mTF E 5 (i + 1)), .int (mTF E 5 (i + 2))]) vL_44 dL_law_316 h1 (by decide) (Nat.le_of_ble_eq_true rfl) e0 (by decide) rfl C (fun r h1 q => ?_)
  obtain ⟨v, rfl, q⟩ := q
  obtain ⟨⟨fs, e40⟩, R2⟩ := R v h1 q
  show mG E (mL nm) mKL 319 (LL i) [.int v] aL h1
  refine mG_aload_n dL_law_319 rfl ?_
  refine mG_aload_n dL_law_320 rfl ?_
  refine mG_iload_n dL_law_321 rfl ?_
  refine mG_iconst (v := nI 1) dL_law_322 (by decide) ?_
  refine mG_iaddN dL_law_323 ?_
  refine mG_tald (t := 5) dL_law_324 (by decide) (sc_at (j := 1) hi hL (by decide)).1 (sc_at (j := 1) hi hL (by decide)).2 ?_
  refine mG_aload_n dL_law_325 rfl ?_
  refine mG_iload_n dL_law_326 rfl ?_
  refine mG_iconst (v := nI 2) dL_law_327 (by decide) ?_
  refine mG_iaddN dL_law_328 ?_
  refine mG_tald (t := 5) dL_law_329 (by decide) (sc_at (j := 2) hi hL (by decide)).1 (sc_at (j := 2) hi hL (by decide)).2 ?_
  refine mG_du (av := [.int (mTF E 5 (i + 1)), .int (mTF E 5 (i + 2))]) vL_47 dL_law_330 h2 (by decide) (Nat.le_of_ble_eq_true rfl) e40 (by decide) rfl R2 (fun r h2 q => ?_)
  obtain ⟨rfl, I2⟩ := q
  show mG E (mL nm) mKL 333 (LL i) [.int v, .int v] aL h2
  exact mG_icmp_eq dL_law_333 (fun _ => kc E h2 rfl I2) (fun z => absurd rfl z)
set_option maxRecDepth 100000 in
set_option maxHeartbeats 4000000 in
theorem law_changes {E : mE} {nm : String} {h : mH} {i : Nat} (hi : i + 4 ≤ E.2.2.2.2.2.1.1) (hL : E.2.2.2.2.2.1.1 ≤ 2048) (I : INV h) (kc : ∀ (E1 : mE) (h1 : mH), E1.2.2.2.2.2.1 = E.2.2.2.2.2.1 → INV h1 → mG E1 (mL nm) mKL 737 (LL i) [] aL h1) : mG E (mL nm) mKL 338 (LL i) [] aL h := by
  refine mG_aload_n dL_law_338 rfl ?_
  refine mG_aload_n dL_law_339 rfl ?_
  refine mG_iload_n dL_law_340 rfl ?_
  refine mG_iconst (v := nI 1) dL_law_341 (by decide) ?_
  refine mG_iaddN dL_law_342 ?_
  refine mG_tald (t := 5) dL_law_343 (by decide) (sc_at (j := 1) hi hL (by decide)).1 (sc_at (j := 1) hi hL (by decide)).2 ?_
  refine mG_aload_n dL_law_344 rfl ?_
  refine mG_iload_n dL_law_345 rfl ?_
  refine mG_iconst (v := nI 2) dL_law_346 (by decide) ?_
  refine mG_iaddN dL_law_347 ?_
  refine mG_tald (t := 5) dL_law_348 (by decide) (sc_at (j := 2) hi hL (by decide)).1 (sc_at (j := 2) hi hL (by decide)).2 ?_
  obtain ⟨gs, e0⟩ := INV_0 I
  obtain ⟨d1, d2, Q, h1, h2, C, R⟩ := du_changes (E := E) I (mTF E 5 (i + 1)) (mTF E 5 (i + 2))
  refine mG_du (av := [.int (mTF E 5 (i + 1)), .int (mTF E 5 (i + 2))]) vL_48 dL_law_349 h1 (by decide) (Nat.le_of_ble_eq_true rfl) e0 (by decide) rfl C (fun r h1 q => ?_)
  obtain ⟨v, rfl, q⟩ := q
  obtain ⟨⟨fs, e40⟩, R2⟩ := R v h1 q
  show mG E (mL nm) mKL 352 (LL i) [.int v] aL h1
  refine mG_aload_n dL_law_352 rfl ?_
  refine mG_aload_n dL_law_353 rfl ?_
  refine mG_iload_n dL_law_354 rfl ?_
  refine mG_iconst (v := nI 1) dL_law_355 (by decide) ?_
  refine mG_iaddN dL_law_356 ?_
  refine mG_tald (t := 5) dL_law_357 (by decide) (sc_at (j := 1) hi hL (by decide)).1 (sc_at (j := 1) hi hL (by decide)).2 ?_
  refine mG_aload_n dL_law_358 rfl ?_
  refine mG_iload_n dL_law_359 rfl ?_
  refine mG_iconst (v := nI 2) dL_law_360 (by decide) ?_
  refine mG_iaddN dL_law_361 ?_
  refine mG_tald (t := 5) dL_law_362 (by decide) (sc_at (j := 2) hi hL (by decide)).1 (sc_at (j := 2) hi hL (by decide)).2 ?_
  refine mG_du (av := [.int (mTF E 5 (i + 1)), .int (mTF E 5 (i + 2))]) vL_51 dL_law_363 h2 (by decide) (Nat.le_of_ble_eq_true rfl) e40 (by decide) rfl R2 (fun r h2 q => ?_)
  obtain ⟨rfl, I2⟩ := q
  show mG E (mL nm) mKL 366 (LL i) [.int v, .int v] aL h2
  exact mG_icmp_eq dL_law_366 (fun _ => kc E h2 rfl I2) (fun z => absurd rfl z)
set_option maxRecDepth 100000 in
set_option maxHeartbeats 4000000 in
theorem law_pastes {E : mE} {nm : String} {h : mH} {i : Nat} (hi : i + 4 ≤ E.2.2.2.2.2.1.1) (hL : E.2.2.2.2.2.1.1 ≤ 2048) (I : INV h) (kc : ∀ (E1 : mE) (h1 : mH), E1.2.2.2.2.2.1 = E.2.2.2.2.2.1 → INV h1 → mG E1 (mL nm) mKL 737 (LL i) [] aL h1) : mG E (mL nm) mKL 371 (LL i) [] aL h := by
  refine mG_aload_n dL_law_371 rfl ?_
  refine mG_aload_n dL_law_372 rfl ?_
  refine mG_iload_n dL_law_373 rfl ?_
  refine mG_iconst (v := nI 1) dL_law_374 (by decide) ?_
  refine mG_iaddN dL_law_375 ?_
  refine mG_tald (t := 5) dL_law_376 (by decide) (sc_at (j := 1) hi hL (by decide)).1 (sc_at (j := 1) hi hL (by decide)).2 ?_
  refine mG_aload_n dL_law_377 rfl ?_
  refine mG_iload_n dL_law_378 rfl ?_
  refine mG_iconst (v := nI 2) dL_law_379 (by decide) ?_
  refine mG_iaddN dL_law_380 ?_
  refine mG_tald (t := 5) dL_law_381 (by decide) (sc_at (j := 2) hi hL (by decide)).1 (sc_at (j := 2) hi hL (by decide)).2 ?_
  refine mG_aload_n dL_law_382 rfl ?_
  refine mG_iload_n dL_law_383 rfl ?_
  refine mG_iconst (v := nI 3) dL_law_384 (by decide) ?_
  refine mG_iaddN dL_law_385 ?_
  refine mG_tald (t := 5) dL_law_386 (by decide) (sc_at (j := 3) hi hL (by decide)).1 (sc_at (j := 3) hi hL (by decide)).2 ?_
  obtain ⟨gs, e0⟩ := INV_0 I
  obtain ⟨d1, d2, Q, h1, h2, C, R⟩ := du_pastes (E := E) I (mTF E 5 (i + 1)) (mTF E 5 (i + 2)) (mTF E 5 (i + 3))
  refine mG_du (av := [.int (mTF E 5 (i + 1)), .int (mTF E 5 (i + 2)), .int (mTF E 5 (i + 3))]) vL_52 dL_law_387 h1 (by decide) (Nat.le_of_ble_eq_true rfl) e0 (by decide) rfl C (fun r h1 q => ?_)
  obtain ⟨v, rfl, q⟩ := q
  obtain ⟨⟨fs, e40⟩, R2⟩ := R v h1 q
  show mG E (mL nm) mKL 390 (LL i) [.int v] aL h1
  refine mG_aload_n dL_law_390 rfl ?_
  refine mG_aload_n dL_law_391 rfl ?_
  refine mG_iload_n dL_law_392 rfl ?_
  refine mG_iconst (v := nI 1) dL_law_393 (by decide) ?_
  refine mG_iaddN dL_law_394 ?_
  refine mG_tald (t := 5) dL_law_395 (by decide) (sc_at (j := 1) hi hL (by decide)).1 (sc_at (j := 1) hi hL (by decide)).2 ?_
  refine mG_aload_n dL_law_396 rfl ?_
  refine mG_iload_n dL_law_397 rfl ?_
  refine mG_iconst (v := nI 2) dL_law_398 (by decide) ?_
  refine mG_iaddN dL_law_399 ?_
  refine mG_tald (t := 5) dL_law_400 (by decide) (sc_at (j := 2) hi hL (by decide)).1 (sc_at (j := 2) hi hL (by decide)).2 ?_
  refine mG_aload_n dL_law_401 rfl ?_
  refine mG_iload_n dL_law_402 rfl ?_
  refine mG_iconst (v := nI 3) dL_law_403 (by decide) ?_
  refine mG_iaddN dL_law_404 ?_
  refine mG_tald (t := 5) dL_law_405 (by decide) (sc_at (j := 3) hi hL (by decide)).1 (sc_at (j := 3) hi hL (by decide)).2 ?_
  refine mG_du (av := [.int (mTF E 5 (i + 1)), .int (mTF E 5 (i + 2)), .int (mTF E 5 (i + 3))]) vL_56 dL_law_406 h2 (by decide) (Nat.le_of_ble_eq_true rfl) e40 (by decide) rfl R2 (fun r h2 q => ?_)
  obtain ⟨rfl, I2⟩ := q
  show mG E (mL nm) mKL 409 (LL i) [.int v, .int v] aL h2
  exact mG_icmp_eq dL_law_409 (fun _ => kc E h2 rfl I2) (fun z => absurd rfl z)
set_option maxRecDepth 100000 in
set_option maxHeartbeats 4000000 in
theorem law_undo {E : mE} {nm : String} {h : mH} {i : Nat} (hi : i + 4 ≤ E.2.2.2.2.2.1.1) (hL : E.2.2.2.2.2.1.1 ≤ 2048) (I : INV h) (kc : ∀ (E1 : mE) (h1 : mH), E1.2.2.2.2.2.1 = E.2.2.2.2.2.1 → INV h1 → mG E1 (mL nm) mKL 737 (LL i) [] aL h1) : mG E (mL nm) mKL 414 (LL i) [] aL h := by
  refine mG_aload_n dL_law_414 rfl ?_
  obtain ⟨gs, e0⟩ := INV_0 I
  obtain ⟨d1, d2, Q, h1, h2, C, R⟩ := du_undo (E := E) I
  refine mG_du (av := []) vL_57 dL_law_415 h1 (by decide) (Nat.le_of_ble_eq_true rfl) e0 (by decide) rfl C (fun r h1 q => ?_)
  obtain ⟨v, rfl, q⟩ := q
  obtain ⟨⟨fs, e40⟩, R2⟩ := R v h1 q
  show mG E (mL nm) mKL 418 (LL i) [.int v] aL h1
  refine mG_aload_n dL_law_418 rfl ?_
  refine mG_du (av := []) vL_60 dL_law_419 h2 (by decide) (Nat.le_of_ble_eq_true rfl) e40 (by decide) rfl R2 (fun r h2 q => ?_)
  obtain ⟨rfl, I2⟩ := q
  show mG E (mL nm) mKL 422 (LL i) [.int v, .int v] aL h2
  exact mG_icmp_eq dL_law_422 (fun _ => kc E h2 rfl I2) (fun z => absurd rfl z)
set_option maxRecDepth 100000 in
set_option maxHeartbeats 4000000 in
theorem law_now {E : mE} {nm : String} {h : mH} {i : Nat} (hi : i + 4 ≤ E.2.2.2.2.2.1.1) (hL : E.2.2.2.2.2.1.1 ≤ 2048) (I : INV h) (kc : ∀ (E1 : mE) (h1 : mH), E1.2.2.2.2.2.1 = E.2.2.2.2.2.1 → INV h1 → mG E1 (mL nm) mKL 737 (LL i) [] aL h1) : mG E (mL nm) mKL 427 (LL i) [] aL h := by
  refine mG_aload_n dL_law_427 rfl ?_
  refine mG_aload_n dL_law_428 rfl ?_
  refine mG_iload_n dL_law_429 rfl ?_
  refine mG_iconst (v := nI 1) dL_law_430 (by decide) ?_
  refine mG_iaddN dL_law_431 ?_
  refine mG_tald (t := 5) dL_law_432 (by decide) (sc_at (j := 1) hi hL (by decide)).1 (sc_at (j := 1) hi hL (by decide)).2 ?_
  obtain ⟨gs, e0⟩ := INV_0 I
  obtain ⟨d1, d2, Q, h1, h2, C, R⟩ := du_now (E := E) I (mTF E 5 (i + 1))
  refine mG_du (av := [.int (mTF E 5 (i + 1))]) vL_61 dL_law_433 h1 (by decide) (Nat.le_of_ble_eq_true rfl) e0 (by decide) rfl C (fun r h1 q => ?_)
  obtain ⟨v, rfl, q⟩ := q
  obtain ⟨⟨fs, e40⟩, R2⟩ := R v h1 q
  show mG E (mL nm) mKL 436 (LL i) [.int v] aL h1
  refine mG_aload_n dL_law_436 rfl ?_
  refine mG_aload_n dL_law_437 rfl ?_
  refine mG_iload_n dL_law_438 rfl ?_
  refine mG_iconst (v := nI 1) dL_law_439 (by decide) ?_
  refine mG_iaddN dL_law_440 ?_
  refine mG_tald (t := 5) dL_law_441 (by decide) (sc_at (j := 1) hi hL (by decide)).1 (sc_at (j := 1) hi hL (by decide)).2 ?_
  refine mG_du (av := [.int (mTF E 5 (i + 1))]) vL_64 dL_law_442 h2 (by decide) (Nat.le_of_ble_eq_true rfl) e40 (by decide) rfl R2 (fun r h2 q => ?_)
  obtain ⟨rfl, I2⟩ := q
  show mG E (mL nm) mKL 445 (LL i) [.int v, .int v] aL h2
  exact mG_icmp_eq dL_law_445 (fun _ => kc E h2 rfl I2) (fun z => absurd rfl z)
set_option maxRecDepth 100000 in
set_option maxHeartbeats 4000000 in
theorem law_number {E : mE} {nm : String} {h : mH} {i : Nat} (hi : i + 4 ≤ E.2.2.2.2.2.1.1) (hL : E.2.2.2.2.2.1.1 ≤ 2048) (I : INV h) (kc : ∀ (E1 : mE) (h1 : mH), E1.2.2.2.2.2.1 = E.2.2.2.2.2.1 → INV h1 → mG E1 (mL nm) mKL 737 (LL i) [] aL h1) : mG E (mL nm) mKL 450 (LL i) [] aL h := by
  refine mG_aload_n dL_law_450 rfl ?_
  refine mG_aload_n dL_law_451 rfl ?_
  refine mG_iload_n dL_law_452 rfl ?_
  refine mG_iconst (v := nI 1) dL_law_453 (by decide) ?_
  refine mG_iaddN dL_law_454 ?_
  refine mG_tald (t := 5) dL_law_455 (by decide) (sc_at (j := 1) hi hL (by decide)).1 (sc_at (j := 1) hi hL (by decide)).2 ?_
  refine mG_aload_n dL_law_456 rfl ?_
  refine mG_iload_n dL_law_457 rfl ?_
  refine mG_iconst (v := nI 2) dL_law_458 (by decide) ?_
  refine mG_iaddN dL_law_459 ?_
  refine mG_tald (t := 5) dL_law_460 (by decide) (sc_at (j := 2) hi hL (by decide)).1 (sc_at (j := 2) hi hL (by decide)).2 ?_
  obtain ⟨gs, e0⟩ := INV_0 I
  obtain ⟨d1, d2, Q, h1, h2, C, R⟩ := du_number (E := E) I (mTF E 5 (i + 1)) (mTF E 5 (i + 2))
  refine mG_du (av := [.int (mTF E 5 (i + 1)), .int (mTF E 5 (i + 2))]) vL_65 dL_law_461 h1 (by decide) (Nat.le_of_ble_eq_true rfl) e0 (by decide) rfl C (fun r h1 q => ?_)
  obtain ⟨v, rfl, q⟩ := q
  obtain ⟨⟨fs, e40⟩, R2⟩ := R v h1 q
  show mG E (mL nm) mKL 464 (LL i) [.int v] aL h1
  refine mG_aload_n dL_law_464 rfl ?_
  refine mG_aload_n dL_law_465 rfl ?_
  refine mG_iload_n dL_law_466 rfl ?_
  refine mG_iconst (v := nI 1) dL_law_467 (by decide) ?_
  refine mG_iaddN dL_law_468 ?_
  refine mG_tald (t := 5) dL_law_469 (by decide) (sc_at (j := 1) hi hL (by decide)).1 (sc_at (j := 1) hi hL (by decide)).2 ?_
  refine mG_aload_n dL_law_470 rfl ?_
  refine mG_iload_n dL_law_471 rfl ?_
  refine mG_iconst (v := nI 2) dL_law_472 (by decide) ?_
  refine mG_iaddN dL_law_473 ?_
  refine mG_tald (t := 5) dL_law_474 (by decide) (sc_at (j := 2) hi hL (by decide)).1 (sc_at (j := 2) hi hL (by decide)).2 ?_
  refine mG_du (av := [.int (mTF E 5 (i + 1)), .int (mTF E 5 (i + 2))]) vL_68 dL_law_475 h2 (by decide) (Nat.le_of_ble_eq_true rfl) e40 (by decide) rfl R2 (fun r h2 q => ?_)
  obtain ⟨rfl, I2⟩ := q
  show mG E (mL nm) mKL 478 (LL i) [.int v, .int v] aL h2
  exact mG_icmp_eq dL_law_478 (fun _ => kc E h2 rfl I2) (fun z => absurd rfl z)
set_option maxRecDepth 100000 in
set_option maxHeartbeats 4000000 in
theorem law_through {E : mE} {nm : String} {h : mH} {i : Nat} (hi : i + 4 ≤ E.2.2.2.2.2.1.1) (hL : E.2.2.2.2.2.1.1 ≤ 2048) (I : INV h) (kc : ∀ (E1 : mE) (h1 : mH), E1.2.2.2.2.2.1 = E.2.2.2.2.2.1 → INV h1 → mG E1 (mL nm) mKL 737 (LL i) [] aL h1) : mG E (mL nm) mKL 483 (LL i) [] aL h := by
  refine mG_aload_n dL_law_483 rfl ?_
  refine mG_aload_n dL_law_484 rfl ?_
  refine mG_iload_n dL_law_485 rfl ?_
  refine mG_iconst (v := nI 1) dL_law_486 (by decide) ?_
  refine mG_iaddN dL_law_487 ?_
  refine mG_tald (t := 5) dL_law_488 (by decide) (sc_at (j := 1) hi hL (by decide)).1 (sc_at (j := 1) hi hL (by decide)).2 ?_
  refine mG_aload_n dL_law_489 rfl ?_
  refine mG_iload_n dL_law_490 rfl ?_
  refine mG_iconst (v := nI 2) dL_law_491 (by decide) ?_
  refine mG_iaddN dL_law_492 ?_
  refine mG_tald (t := 5) dL_law_493 (by decide) (sc_at (j := 2) hi hL (by decide)).1 (sc_at (j := 2) hi hL (by decide)).2 ?_
  obtain ⟨gs, e0⟩ := INV_0 I
  obtain ⟨d1, d2, Q, h1, h2, C, R⟩ := du_through (E := E) I (mTF E 5 (i + 1)) (mTF E 5 (i + 2))
  refine mG_du (av := [.int (mTF E 5 (i + 1)), .int (mTF E 5 (i + 2))]) vL_69 dL_law_494 h1 (by decide) (Nat.le_of_ble_eq_true rfl) e0 (by decide) rfl C (fun r h1 q => ?_)
  obtain ⟨v, rfl, q⟩ := q
  obtain ⟨⟨fs, e40⟩, R2⟩ := R v h1 q
  show mG E (mL nm) mKL 497 (LL i) [.int v] aL h1
  refine mG_aload_n dL_law_497 rfl ?_
  refine mG_aload_n dL_law_498 rfl ?_
  refine mG_iload_n dL_law_499 rfl ?_
  refine mG_iconst (v := nI 1) dL_law_500 (by decide) ?_
  refine mG_iaddN dL_law_501 ?_
  refine mG_tald (t := 5) dL_law_502 (by decide) (sc_at (j := 1) hi hL (by decide)).1 (sc_at (j := 1) hi hL (by decide)).2 ?_
  refine mG_aload_n dL_law_503 rfl ?_
  refine mG_iload_n dL_law_504 rfl ?_
  refine mG_iconst (v := nI 2) dL_law_505 (by decide) ?_
  refine mG_iaddN dL_law_506 ?_
  refine mG_tald (t := 5) dL_law_507 (by decide) (sc_at (j := 2) hi hL (by decide)).1 (sc_at (j := 2) hi hL (by decide)).2 ?_
  refine mG_du (av := [.int (mTF E 5 (i + 1)), .int (mTF E 5 (i + 2))]) vL_72 dL_law_508 h2 (by decide) (Nat.le_of_ble_eq_true rfl) e40 (by decide) rfl R2 (fun r h2 q => ?_)
  obtain ⟨rfl, I2⟩ := q
  show mG E (mL nm) mKL 511 (LL i) [.int v, .int v] aL h2
  exact mG_icmp_eq dL_law_511 (fun _ => kc E h2 rfl I2) (fun z => absurd rfl z)
set_option maxRecDepth 100000 in
set_option maxHeartbeats 4000000 in
theorem law_odds {E : mE} {nm : String} {h : mH} {i : Nat} (hi : i + 4 ≤ E.2.2.2.2.2.1.1) (hL : E.2.2.2.2.2.1.1 ≤ 2048) (I : INV h) (kc : ∀ (E1 : mE) (h1 : mH), E1.2.2.2.2.2.1 = E.2.2.2.2.2.1 → INV h1 → mG E1 (mL nm) mKL 737 (LL i) [] aL h1) : mG E (mL nm) mKL 516 (LL i) [] aL h := by
  refine mG_aload_n dL_law_516 rfl ?_
  refine mG_aload_n dL_law_517 rfl ?_
  refine mG_iload_n dL_law_518 rfl ?_
  refine mG_iconst (v := nI 1) dL_law_519 (by decide) ?_
  refine mG_iaddN dL_law_520 ?_
  refine mG_tald (t := 5) dL_law_521 (by decide) (sc_at (j := 1) hi hL (by decide)).1 (sc_at (j := 1) hi hL (by decide)).2 ?_
  refine mG_aload_n dL_law_522 rfl ?_
  refine mG_iload_n dL_law_523 rfl ?_
  refine mG_iconst (v := nI 2) dL_law_524 (by decide) ?_
  refine mG_iaddN dL_law_525 ?_
  refine mG_tald (t := 5) dL_law_526 (by decide) (sc_at (j := 2) hi hL (by decide)).1 (sc_at (j := 2) hi hL (by decide)).2 ?_
  obtain ⟨gs, e0⟩ := INV_0 I
  obtain ⟨d1, d2, Q, h1, h2, C, R⟩ := du_odds (E := E) I (mTF E 5 (i + 1)) (mTF E 5 (i + 2))
  refine mG_du (av := [.int (mTF E 5 (i + 1)), .int (mTF E 5 (i + 2))]) vL_73 dL_law_527 h1 (by decide) (Nat.le_of_ble_eq_true rfl) e0 (by decide) rfl C (fun r h1 q => ?_)
  obtain ⟨v, rfl, q⟩ := q
  obtain ⟨⟨fs, e40⟩, R2⟩ := R v h1 q
  show mG E (mL nm) mKL 530 (LL i) [.int v] aL h1
  refine mG_aload_n dL_law_530 rfl ?_
  refine mG_aload_n dL_law_531 rfl ?_
  refine mG_iload_n dL_law_532 rfl ?_
  refine mG_iconst (v := nI 1) dL_law_533 (by decide) ?_
  refine mG_iaddN dL_law_534 ?_
  refine mG_tald (t := 5) dL_law_535 (by decide) (sc_at (j := 1) hi hL (by decide)).1 (sc_at (j := 1) hi hL (by decide)).2 ?_
  refine mG_aload_n dL_law_536 rfl ?_
  refine mG_iload_n dL_law_537 rfl ?_
  refine mG_iconst (v := nI 2) dL_law_538 (by decide) ?_
  refine mG_iaddN dL_law_539 ?_
  refine mG_tald (t := 5) dL_law_540 (by decide) (sc_at (j := 2) hi hL (by decide)).1 (sc_at (j := 2) hi hL (by decide)).2 ?_
  refine mG_du (av := [.int (mTF E 5 (i + 1)), .int (mTF E 5 (i + 2))]) vL_76 dL_law_541 h2 (by decide) (Nat.le_of_ble_eq_true rfl) e40 (by decide) rfl R2 (fun r h2 q => ?_)
  obtain ⟨rfl, I2⟩ := q
  show mG E (mL nm) mKL 544 (LL i) [.int v, .int v] aL h2
  exact mG_icmp_eq dL_law_544 (fun _ => kc E h2 rfl I2) (fun z => absurd rfl z)
set_option maxRecDepth 100000 in
set_option maxHeartbeats 4000000 in
theorem law_sees {E : mE} {nm : String} {h : mH} {i : Nat} (hi : i + 4 ≤ E.2.2.2.2.2.1.1) (hL : E.2.2.2.2.2.1.1 ≤ 2048) (I : INV h) (kc : ∀ (E1 : mE) (h1 : mH), E1.2.2.2.2.2.1 = E.2.2.2.2.2.1 → INV h1 → mG E1 (mL nm) mKL 737 (LL i) [] aL h1) : mG E (mL nm) mKL 549 (LL i) [] aL h := by
  refine mG_aload_n dL_law_549 rfl ?_
  refine mG_aload_n dL_law_550 rfl ?_
  refine mG_iload_n dL_law_551 rfl ?_
  refine mG_iconst (v := nI 1) dL_law_552 (by decide) ?_
  refine mG_iaddN dL_law_553 ?_
  refine mG_tald (t := 5) dL_law_554 (by decide) (sc_at (j := 1) hi hL (by decide)).1 (sc_at (j := 1) hi hL (by decide)).2 ?_
  refine mG_aload_n dL_law_555 rfl ?_
  refine mG_iload_n dL_law_556 rfl ?_
  refine mG_iconst (v := nI 2) dL_law_557 (by decide) ?_
  refine mG_iaddN dL_law_558 ?_
  refine mG_tald (t := 5) dL_law_559 (by decide) (sc_at (j := 2) hi hL (by decide)).1 (sc_at (j := 2) hi hL (by decide)).2 ?_
  obtain ⟨gs, e0⟩ := INV_0 I
  obtain ⟨d1, d2, Q, h1, h2, C, R⟩ := du_sees (E := E) I (mTF E 5 (i + 1)) (mTF E 5 (i + 2))
  refine mG_du (av := [.int (mTF E 5 (i + 1)), .int (mTF E 5 (i + 2))]) vL_77 dL_law_560 h1 (by decide) (Nat.le_of_ble_eq_true rfl) e0 (by decide) rfl C (fun r h1 q => ?_)
  obtain ⟨v, rfl, q⟩ := q
  obtain ⟨⟨fs, e40⟩, R2⟩ := R v h1 q
  show mG E (mL nm) mKL 563 (LL i) [.int v] aL h1
  refine mG_aload_n dL_law_563 rfl ?_
  refine mG_aload_n dL_law_564 rfl ?_
  refine mG_iload_n dL_law_565 rfl ?_
  refine mG_iconst (v := nI 1) dL_law_566 (by decide) ?_
  refine mG_iaddN dL_law_567 ?_
  refine mG_tald (t := 5) dL_law_568 (by decide) (sc_at (j := 1) hi hL (by decide)).1 (sc_at (j := 1) hi hL (by decide)).2 ?_
  refine mG_aload_n dL_law_569 rfl ?_
  refine mG_iload_n dL_law_570 rfl ?_
  refine mG_iconst (v := nI 2) dL_law_571 (by decide) ?_
  refine mG_iaddN dL_law_572 ?_
  refine mG_tald (t := 5) dL_law_573 (by decide) (sc_at (j := 2) hi hL (by decide)).1 (sc_at (j := 2) hi hL (by decide)).2 ?_
  refine mG_du (av := [.int (mTF E 5 (i + 1)), .int (mTF E 5 (i + 2))]) vL_80 dL_law_574 h2 (by decide) (Nat.le_of_ble_eq_true rfl) e40 (by decide) rfl R2 (fun r h2 q => ?_)
  obtain ⟨rfl, I2⟩ := q
  show mG E (mL nm) mKL 577 (LL i) [.int v, .int v] aL h2
  exact mG_icmp_eq dL_law_577 (fun _ => kc E h2 rfl I2) (fun z => absurd rfl z)
set_option maxRecDepth 100000 in
set_option maxHeartbeats 4000000 in
theorem law_forget {E : mE} {nm : String} {h : mH} {i : Nat} (hi : i + 4 ≤ E.2.2.2.2.2.1.1) (hL : E.2.2.2.2.2.1.1 ≤ 2048) (I : INV h) (kc : ∀ (E1 : mE) (h1 : mH), E1.2.2.2.2.2.1 = E.2.2.2.2.2.1 → INV h1 → mG E1 (mL nm) mKL 737 (LL i) [] aL h1) : mG E (mL nm) mKL 582 (LL i) [] aL h := by
  refine mG_aload_n dL_law_582 rfl ?_
  obtain ⟨gs, e0⟩ := INV_0 I
  obtain ⟨d1, d2, Q, h1, h2, C, R⟩ := du_forget (E := E) I
  refine mG_du (av := []) vL_81 dL_law_583 h1 (by decide) (Nat.le_of_ble_eq_true rfl) e0 (by decide) rfl C (fun r h1 q => ?_)
  obtain ⟨v, rfl, q⟩ := q
  obtain ⟨⟨fs, e40⟩, R2⟩ := R v h1 q
  show mG E (mL nm) mKL 586 (LL i) [.int v] aL h1
  refine mG_aload_n dL_law_586 rfl ?_
  refine mG_du (av := []) vL_84 dL_law_587 h2 (by decide) (Nat.le_of_ble_eq_true rfl) e40 (by decide) rfl R2 (fun r h2 q => ?_)
  obtain ⟨rfl, I2⟩ := q
  show mG E (mL nm) mKL 590 (LL i) [.int v, .int v] aL h2
  exact mG_icmp_eq dL_law_590 (fun _ => kc E h2 rfl I2) (fun z => absurd rfl z)
set_option maxRecDepth 100000 in
set_option maxHeartbeats 4000000 in
theorem law_which {E : mE} {nm : String} {h : mH} {i : Nat} (hi : i + 4 ≤ E.2.2.2.2.2.1.1) (hL : E.2.2.2.2.2.1.1 ≤ 2048) (I : INV h) (kc : ∀ (E1 : mE) (h1 : mH), E1.2.2.2.2.2.1 = E.2.2.2.2.2.1 → INV h1 → mG E1 (mL nm) mKL 737 (LL i) [] aL h1) : mG E (mL nm) mKL 595 (LL i) [] aL h := by
  refine mG_aload_n dL_law_595 rfl ?_
  obtain ⟨gs, e0⟩ := INV_0 I
  obtain ⟨d1, d2, Q, h1, h2, C, R⟩ := du_which (E := E) I
  refine mG_du (av := []) vL_85 dL_law_596 h1 (by decide) (Nat.le_of_ble_eq_true rfl) e0 (by decide) rfl C (fun r h1 q => ?_)
  obtain ⟨v, rfl, q⟩ := q
  obtain ⟨⟨fs, e40⟩, R2⟩ := R v h1 q
  show mG E (mL nm) mKL 599 (LL i) [.int v] aL h1
  refine mG_aload_n dL_law_599 rfl ?_
  refine mG_du (av := []) vL_88 dL_law_600 h2 (by decide) (Nat.le_of_ble_eq_true rfl) e40 (by decide) rfl R2 (fun r h2 q => ?_)
  obtain ⟨rfl, I2⟩ := q
  show mG E (mL nm) mKL 603 (LL i) [.int v, .int v] aL h2
  exact mG_icmp_eq dL_law_603 (fun _ => kc E h2 rfl I2) (fun z => absurd rfl z)
set_option maxRecDepth 100000 in
set_option maxHeartbeats 4000000 in
theorem law_look {E : mE} {nm : String} {h : mH} {i : Nat} (hi : i + 4 ≤ E.2.2.2.2.2.1.1) (hL : E.2.2.2.2.2.1.1 ≤ 2048) (I : INV h) (kc : ∀ (E1 : mE) (h1 : mH), E1.2.2.2.2.2.1 = E.2.2.2.2.2.1 → INV h1 → mG E1 (mL nm) mKL 737 (LL i) [] aL h1) : mG E (mL nm) mKL 608 (LL i) [] aL h := by
  refine mG_aload_n dL_law_608 rfl ?_
  obtain ⟨gs, e0⟩ := INV_0 I
  obtain ⟨d1, d2, Q, h1, h2, C, R⟩ := du_look (E := E) I
  refine mG_du (av := []) vL_89 dL_law_609 h1 (by decide) (Nat.le_of_ble_eq_true rfl) e0 (by decide) rfl C (fun r h1 q => ?_)
  obtain ⟨v, rfl, q⟩ := q
  obtain ⟨⟨fs, e40⟩, R2⟩ := R v h1 q
  show mG E (mL nm) mKL 612 (LL i) [.int v] aL h1
  refine mG_aload_n dL_law_612 rfl ?_
  refine mG_du (av := []) vL_92 dL_law_613 h2 (by decide) (Nat.le_of_ble_eq_true rfl) e40 (by decide) rfl R2 (fun r h2 q => ?_)
  obtain ⟨rfl, I2⟩ := q
  show mG E (mL nm) mKL 616 (LL i) [.int v, .int v] aL h2
  exact mG_icmp_eq dL_law_616 (fun _ => kc E h2 rfl I2) (fun z => absurd rfl z)
set_option maxRecDepth 100000 in
set_option maxHeartbeats 4000000 in
theorem law_mark {E : mE} {nm : String} {h : mH} {i : Nat} (hi : i + 4 ≤ E.2.2.2.2.2.1.1) (hL : E.2.2.2.2.2.1.1 ≤ 2048) (I : INV h) (kc : ∀ (E1 : mE) (h1 : mH), E1.2.2.2.2.2.1 = E.2.2.2.2.2.1 → INV h1 → mG E1 (mL nm) mKL 737 (LL i) [] aL h1) : mG E (mL nm) mKL 621 (LL i) [] aL h := by
  refine mG_aload_n dL_law_621 rfl ?_
  refine mG_aload_n dL_law_622 rfl ?_
  refine mG_iload_n dL_law_623 rfl ?_
  refine mG_iconst (v := nI 1) dL_law_624 (by decide) ?_
  refine mG_iaddN dL_law_625 ?_
  refine mG_tald (t := 5) dL_law_626 (by decide) (sc_at (j := 1) hi hL (by decide)).1 (sc_at (j := 1) hi hL (by decide)).2 ?_
  refine mG_aload_n dL_law_627 rfl ?_
  refine mG_iload_n dL_law_628 rfl ?_
  refine mG_iconst (v := nI 2) dL_law_629 (by decide) ?_
  refine mG_iaddN dL_law_630 ?_
  refine mG_tald (t := 5) dL_law_631 (by decide) (sc_at (j := 2) hi hL (by decide)).1 (sc_at (j := 2) hi hL (by decide)).2 ?_
  obtain ⟨gs, e0⟩ := INV_0 I
  obtain ⟨d1, d2, Q, h1, h2, C, R⟩ := du_mark (E := E) I (mTF E 5 (i + 1)) (mTF E 5 (i + 2))
  refine mG_du (av := [.int (mTF E 5 (i + 1)), .int (mTF E 5 (i + 2))]) vL_93 dL_law_632 h1 (by decide) (Nat.le_of_ble_eq_true rfl) e0 (by decide) rfl C (fun r h1 q => ?_)
  obtain ⟨v, rfl, q⟩ := q
  obtain ⟨⟨fs, e40⟩, R2⟩ := R v h1 q
  show mG E (mL nm) mKL 635 (LL i) [.int v] aL h1
  refine mG_aload_n dL_law_635 rfl ?_
  refine mG_aload_n dL_law_636 rfl ?_
  refine mG_iload_n dL_law_637 rfl ?_
  refine mG_iconst (v := nI 1) dL_law_638 (by decide) ?_
  refine mG_iaddN dL_law_639 ?_
  refine mG_tald (t := 5) dL_law_640 (by decide) (sc_at (j := 1) hi hL (by decide)).1 (sc_at (j := 1) hi hL (by decide)).2 ?_
  refine mG_aload_n dL_law_641 rfl ?_
  refine mG_iload_n dL_law_642 rfl ?_
  refine mG_iconst (v := nI 2) dL_law_643 (by decide) ?_
  refine mG_iaddN dL_law_644 ?_
  refine mG_tald (t := 5) dL_law_645 (by decide) (sc_at (j := 2) hi hL (by decide)).1 (sc_at (j := 2) hi hL (by decide)).2 ?_
  refine mG_du (av := [.int (mTF E 5 (i + 1)), .int (mTF E 5 (i + 2))]) vL_96 dL_law_646 h2 (by decide) (Nat.le_of_ble_eq_true rfl) e40 (by decide) rfl R2 (fun r h2 q => ?_)
  obtain ⟨rfl, I2⟩ := q
  show mG E (mL nm) mKL 649 (LL i) [.int v, .int v] aL h2
  exact mG_icmp_eq dL_law_649 (fun _ => kc E h2 rfl I2) (fun z => absurd rfl z)
set_option maxRecDepth 100000 in
set_option maxHeartbeats 4000000 in
theorem law_keep {E : mE} {nm : String} {h : mH} {i : Nat} (hi : i + 4 ≤ E.2.2.2.2.2.1.1) (hL : E.2.2.2.2.2.1.1 ≤ 2048) (I : INV h) (kc : ∀ (E1 : mE) (h1 : mH), E1.2.2.2.2.2.1 = E.2.2.2.2.2.1 → INV h1 → mG E1 (mL nm) mKL 737 (LL i) [] aL h1) : mG E (mL nm) mKL 654 (LL i) [] aL h := by
  refine mG_aload_n dL_law_654 rfl ?_
  refine mG_aload_n dL_law_655 rfl ?_
  refine mG_iload_n dL_law_656 rfl ?_
  refine mG_iconst (v := nI 1) dL_law_657 (by decide) ?_
  refine mG_iaddN dL_law_658 ?_
  refine mG_tald (t := 5) dL_law_659 (by decide) (sc_at (j := 1) hi hL (by decide)).1 (sc_at (j := 1) hi hL (by decide)).2 ?_
  obtain ⟨gs, e0⟩ := INV_0 I
  obtain ⟨d1, d2, Q, h1, h2, C, R⟩ := du_keep (E := E) I (mTF E 5 (i + 1))
  refine mG_du (av := [.int (mTF E 5 (i + 1))]) vL_97 dL_law_660 h1 (by decide) (Nat.le_of_ble_eq_true rfl) e0 (by decide) rfl C (fun r h1 q => ?_)
  obtain ⟨v, rfl, q⟩ := q
  obtain ⟨⟨fs, e40⟩, R2⟩ := R v h1 q
  show mG E (mL nm) mKL 663 (LL i) [.int v] aL h1
  refine mG_aload_n dL_law_663 rfl ?_
  refine mG_aload_n dL_law_664 rfl ?_
  refine mG_iload_n dL_law_665 rfl ?_
  refine mG_iconst (v := nI 1) dL_law_666 (by decide) ?_
  refine mG_iaddN dL_law_667 ?_
  refine mG_tald (t := 5) dL_law_668 (by decide) (sc_at (j := 1) hi hL (by decide)).1 (sc_at (j := 1) hi hL (by decide)).2 ?_
  refine mG_du (av := [.int (mTF E 5 (i + 1))]) vL_100 dL_law_669 h2 (by decide) (Nat.le_of_ble_eq_true rfl) e40 (by decide) rfl R2 (fun r h2 q => ?_)
  obtain ⟨rfl, I2⟩ := q
  show mG E (mL nm) mKL 672 (LL i) [.int v, .int v] aL h2
  exact mG_icmp_eq dL_law_672 (fun _ => kc E h2 rfl I2) (fun z => absurd rfl z)
set_option maxRecDepth 100000 in
set_option maxHeartbeats 4000000 in
theorem law_back {E : mE} {nm : String} {h : mH} {i : Nat} (hi : i + 4 ≤ E.2.2.2.2.2.1.1) (hL : E.2.2.2.2.2.1.1 ≤ 2048) (I : INV h) (kc : ∀ (E1 : mE) (h1 : mH), E1.2.2.2.2.2.1 = E.2.2.2.2.2.1 → INV h1 → mG E1 (mL nm) mKL 737 (LL i) [] aL h1) : mG E (mL nm) mKL 677 (LL i) [] aL h := by
  refine mG_aload_n dL_law_677 rfl ?_
  refine mG_aload_n dL_law_678 rfl ?_
  refine mG_iload_n dL_law_679 rfl ?_
  refine mG_iconst (v := nI 1) dL_law_680 (by decide) ?_
  refine mG_iaddN dL_law_681 ?_
  refine mG_tald (t := 5) dL_law_682 (by decide) (sc_at (j := 1) hi hL (by decide)).1 (sc_at (j := 1) hi hL (by decide)).2 ?_
  obtain ⟨gs, e0⟩ := INV_0 I
  obtain ⟨d1, d2, Q, h1, h2, C, R⟩ := du_back (E := E) I (mTF E 5 (i + 1))
  refine mG_du (av := [.int (mTF E 5 (i + 1))]) vL_101 dL_law_683 h1 (by decide) (Nat.le_of_ble_eq_true rfl) e0 (by decide) rfl C (fun r h1 q => ?_)
  obtain ⟨v, rfl, q⟩ := q
  obtain ⟨⟨fs, e40⟩, R2⟩ := R v h1 q
  show mG E (mL nm) mKL 686 (LL i) [.int v] aL h1
  refine mG_aload_n dL_law_686 rfl ?_
  refine mG_aload_n dL_law_687 rfl ?_
  refine mG_iload_n dL_law_688 rfl ?_
  refine mG_iconst (v := nI 1) dL_law_689 (by decide) ?_
  refine mG_iaddN dL_law_690 ?_
  refine mG_tald (t := 5) dL_law_691 (by decide) (sc_at (j := 1) hi hL (by decide)).1 (sc_at (j := 1) hi hL (by decide)).2 ?_
  refine mG_du (av := [.int (mTF E 5 (i + 1))]) vL_104 dL_law_692 h2 (by decide) (Nat.le_of_ble_eq_true rfl) e40 (by decide) rfl R2 (fun r h2 q => ?_)
  obtain ⟨rfl, I2⟩ := q
  show mG E (mL nm) mKL 695 (LL i) [.int v, .int v] aL h2
  exact mG_icmp_eq dL_law_695 (fun _ => kc E h2 rfl I2) (fun z => absurd rfl z)
set_option maxRecDepth 100000 in
set_option maxHeartbeats 4000000 in
theorem law_count {E : mE} {nm : String} {h : mH} {i : Nat} (hi : i + 4 ≤ E.2.2.2.2.2.1.1) (hL : E.2.2.2.2.2.1.1 ≤ 2048) (I : INV h) (kc : ∀ (E1 : mE) (h1 : mH), E1.2.2.2.2.2.1 = E.2.2.2.2.2.1 → INV h1 → mG E1 (mL nm) mKL 737 (LL i) [] aL h1) : mG E (mL nm) mKL 700 (LL i) [] aL h := by
  refine mG_aload_n dL_law_700 rfl ?_
  refine mG_aload_n dL_law_701 rfl ?_
  refine mG_iload_n dL_law_702 rfl ?_
  refine mG_iconst (v := nI 1) dL_law_703 (by decide) ?_
  refine mG_iaddN dL_law_704 ?_
  refine mG_tald (t := 5) dL_law_705 (by decide) (sc_at (j := 1) hi hL (by decide)).1 (sc_at (j := 1) hi hL (by decide)).2 ?_
  obtain ⟨gs, e0⟩ := INV_0 I
  obtain ⟨d1, d2, Q, h1, h2, C, R⟩ := du_count (E := E) I (mTF E 5 (i + 1))
  refine mG_du (av := [.int (mTF E 5 (i + 1))]) vL_105 dL_law_706 h1 (by decide) (Nat.le_of_ble_eq_true rfl) e0 (by decide) rfl C (fun r h1 q => ?_)
  obtain ⟨v, rfl, q⟩ := q
  obtain ⟨⟨fs, e40⟩, R2⟩ := R v h1 q
  show mG E (mL nm) mKL 709 (LL i) [.int v] aL h1
  refine mG_aload_n dL_law_709 rfl ?_
  refine mG_aload_n dL_law_710 rfl ?_
  refine mG_iload_n dL_law_711 rfl ?_
  refine mG_iconst (v := nI 1) dL_law_712 (by decide) ?_
  refine mG_iaddN dL_law_713 ?_
  refine mG_tald (t := 5) dL_law_714 (by decide) (sc_at (j := 1) hi hL (by decide)).1 (sc_at (j := 1) hi hL (by decide)).2 ?_
  refine mG_du (av := [.int (mTF E 5 (i + 1))]) vL_108 dL_law_715 h2 (by decide) (Nat.le_of_ble_eq_true rfl) e40 (by decide) rfl R2 (fun r h2 q => ?_)
  obtain ⟨rfl, I2⟩ := q
  show mG E (mL nm) mKL 718 (LL i) [.int v, .int v] aL h2
  exact mG_icmp_eq dL_law_718 (fun _ => kc E h2 rfl I2) (fun z => absurd rfl z)
set_option maxRecDepth 100000 in
set_option maxHeartbeats 4000000 in
theorem law_trace {E : mE} {nm : String} {h : mH} {i : Nat} (hi : i + 4 ≤ E.2.2.2.2.2.1.1) (hL : E.2.2.2.2.2.1.1 ≤ 2048) (I : INV h) (kc : ∀ (E1 : mE) (h1 : mH), E1.2.2.2.2.2.1 = E.2.2.2.2.2.1 → INV h1 → mG E1 (mL nm) mKL 737 (LL i) [] aL h1) : mG E (mL nm) mKL 723 (LL i) [] aL h := by
  refine mG_aload_n dL_law_723 rfl ?_
  obtain ⟨gs, e0⟩ := INV_0 I
  obtain ⟨d1, d2, Q, h1, h2, C, R⟩ := du_trace (E := E) I
  refine mG_du (av := []) vL_109 dL_law_724 h1 (by decide) (Nat.le_of_ble_eq_true rfl) e0 (by decide) rfl C (fun r h1 q => ?_)
  obtain ⟨v, rfl, q⟩ := q
  obtain ⟨⟨fs, e40⟩, R2⟩ := R v h1 q
  show mG E (mL nm) mKL 727 (LL i) [.long v] aL h1
  refine mG_aload_n dL_law_727 rfl ?_
  refine mG_du (av := []) vL_113 dL_law_728 h2 (by decide) (Nat.le_of_ble_eq_true rfl) e40 (by decide) rfl R2 (fun r h2 q => ?_)
  obtain ⟨rfl, I2⟩ := q
  show mG E (mL nm) mKL 731 (LL i) [.long v, .long v] aL h2
  refine mG_lcmp dL_law_731 ?_
  rw [show lg_cmp v v = 0 from lg_cmp_self v]
  exact mG_if_eq dL_law_732 (fun _ => kc E h2 rfl I2) (fun z => absurd rfl z)
