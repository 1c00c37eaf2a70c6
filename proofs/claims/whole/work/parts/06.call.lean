section MCa
variable {E : mE} {M : mM} {K : mKt} {pc pc' : Nat} {L L' : List (Option Value)} {st : List Value} {a : Nat × Nat × Nat} {h h' : mH}
/-! ends -/
theorem mEnd {E : mE} {s t : State} {args : Array Value} {H : Heap} {locs : List Loc} {n' : Nat} {Q : Option Value → mH → Prop} {r : Option Value} {h : mH} (S : va_S (mA E) s.heap H locs) (R : mRep E n' h H) (hq : Q r h) (ht : t.heap = H) : mQc E n' Q args s (.returned (r.map (mrv E))) t := ⟨⟨r, h, rfl, hq, by rw [ht]; exact R⟩, S.F ht⟩
theorem mG_iret {n' : Nat} {Q : Option Value → mH → Prop} {x : Int32} (hd : mD M.2.2.1 pc .ireturn 1 pc') (hr : M.2.2.2.2 = some .int) (hq : Q (some (.int x)) h) (h0 : a.1 = n' := by rfl) (h1 : a.2.1 ≤ M.1.cells := by first | exact Nat.zero_le _ | decide) (h2 : a.2.2 ≤ M.1.slots := by first | exact Nat.zero_le _ | decide) : mG E M (mKq E M.1 n' Q) pc L [.int x] a h := by
  obtain ⟨hd, rfl⟩ := hd
  subst h0
  intro p e s m args below meth c H locs ls C R S V
  refine W.widen h1 h2 (W.iret (Qc := mQc E a.1 Q) C.1 C.2.1 (C.2.2.2.1.trans hr) (fun t ht _ => mEnd S R.2 hq ht) S.2.2 hd C.2.2.2.2.1)
theorem mG_zret {n' : Nat} {Q : Option Value → mH → Prop} {x : Bool} (hd : mD M.2.2.1 pc .ireturn 1 pc') (hr : M.2.2.2.2 = some .boolean) (hq : Q (some (.int (mb x))) h) (h0 : a.1 = n' := by rfl) (h1 : a.2.1 ≤ M.1.cells := by first | exact Nat.zero_le _ | decide) (h2 : a.2.2 ≤ M.1.slots := by first | exact Nat.zero_le _ | decide) : mG E M (mKq E M.1 n' Q) pc L [.int (mb x)] a h := by
  obtain ⟨hd, rfl⟩ := hd
  subst h0
  intro p e s m args below meth c H locs ls C R S V
  refine W.widen h1 h2 (W.zret (Qc := mQc E a.1 Q) C.1 C.2.1 (C.2.2.2.1.trans hr) (mb_nar x).1 (fun t ht _ => mEnd S R.2 hq ht) S.2.2 hd C.2.2.2.2.1)
theorem mG_lret {n' : Nat} {Q : Option Value → mH → Prop} {x : Int64} (hd : mD M.2.2.1 pc .lreturn 1 pc') (hr : M.2.2.2.2 = some .long) (hq : Q (some (.long x)) h) (h0 : a.1 = n' := by rfl) (h1 : a.2.1 ≤ M.1.cells := by first | exact Nat.zero_le _ | decide) (h2 : a.2.2 ≤ M.1.slots := by first | exact Nat.zero_le _ | decide) : mG E M (mKq E M.1 n' Q) pc L [.long x] a h := by
  obtain ⟨hd, rfl⟩ := hd
  subst h0
  intro p e s m args below meth c H locs ls C R S V
  refine W.widen h1 h2 (W.lret (Qc := mQc E a.1 Q) C.1 C.2.1 (C.2.2.2.1.trans hr) (fun t ht _ => mEnd S R.2 hq ht) S.2.2 hd C.2.2.2.2.1)
theorem mG_vret {n' : Nat} {Q : Option Value → mH → Prop} (hd : mD M.2.2.1 pc .return_ 1 pc') (hr : M.2.2.2.2 = none) (hq : Q none h) (h0 : a.1 = n' := by rfl) (h1 : a.2.1 ≤ M.1.cells := by first | exact Nat.zero_le _ | decide) (h2 : a.2.2 ≤ M.1.slots := by first | exact Nat.zero_le _ | decide) : mG E M (mKq E M.1 n' Q) pc L [] a h := by
  obtain ⟨hd, rfl⟩ := hd
  subst h0
  intro p e s m args below meth c H locs ls C R S V
  refine W.widen h1 h2 (W.vret (Qc := mQc E a.1 Q) C.1 C.2.1 (C.2.2.2.1.trans hr) (fun t ht _ => mEnd (r := none) S R.2 hq ht) S.2.2 hd C.2.2.2.2.1)
theorem mG_aret {n' q : Nat} {Q : Option Value → mH → Prop} {D : String} (hd : mD M.2.2.1 pc .areturn 1 pc') (hr : M.2.2.2.2 = some (.object D)) (hq : Q (some (.ref q)) h) (h0 : a.1 = n' := by rfl) (h1 : a.2.1 ≤ M.1.cells := by first | exact Nat.zero_le _ | decide) (h2 : a.2.2 ≤ M.1.slots := by first | exact Nat.zero_le _ | decide) : mG E M (mKq E M.1 n' Q) pc L [.ref q] a h := by
  obtain ⟨hd, rfl⟩ := hd
  subst h0
  intro p e s m args below meth c H locs ls C R S V
  refine W.widen h1 h2 (W.aret (Qc := mQc E a.1 Q) (v := mrv E (.ref q)) C.1 C.2.1 (C.2.2.2.1.trans hr) (Or.inl ⟨_, rfl⟩) (Or.inr ⟨_, rfl⟩) (fun t ht _ => mEnd (r := some (.ref q)) S R.2 hq ht) S.2.2 hd C.2.2.2.2.1)
/-! a method's contract out of its walk -/
theorem mOkR_of {R : Room} {Y : mY} {av : List Value} {n n' : Nat} {Q : Option Value → mH → Prop} (hp : plainName Y.1.cls = true) (hc : ∀ v ∈ av, v.category = 1) (hl : av.length ≤ Y.2.2.1) (k : mG E (R, Y) (mKq E R n' Q) 0 (av.map some ++ List.replicate (Y.2.2.1 - av.length) none) [] (n, 0, 0) h) : mOkR E R Y av n n' h Q := by
  refine Met.ofW (cc := Y.2.1) (maxL := Y.2.2.1) (ret := Y.2.2.2) hp rfl ?_
  intro p e s m args below meth c s₁ B hml hv
  obtain ⟨rfl, hR, hK, hT, hz⟩ := hv
  have hts := atoms_spec (ws := Cond.code Y.1 Y.2.1 Y.2.2.1 Y.2.2.2 :: mw) B.pre
  have hslots : (lg_sl (av.map (mrv E))).length = av.length := by
    have : ∀ l : List Value, (∀ v ∈ l, v.category = 1) → (lg_sl (l.map (mrv E))).length = l.length := by
      intro l
      induction l with
      | nil => intro _; rfl
      | cons x t ih =>
        intro hx
        have h1 : (mrv E x).category = 1 := by rw [mrv_cat]; exact hx x List.mem_cons_self
        have h2 := ih (fun v hv => hx v (List.mem_cons_of_mem _ hv))
        simp only [lg_sl, List.map_cons, List.flatMap_cons, h1, List.length_append] at h2 ⊢
        simp [h2]
        omega
    exact this av hc
  have hl0 := lv_entry (av.map (mrv E)) (n := Y.2.2.1) (by rw [hslots]; exact hl)
  rw [lg_entry_eq]
  generalize (lg_sl (av.map (mrv E)) ++ List.replicate (Y.2.2.1 - (lg_sl (av.map (mrv E))).length) Slot.unset).toArray = ls at hl0 ⊢
  exact k p e s m _ below meth c s.heap [] ls ⟨B.exec, B.bytes, hml, B.returns, B.notSynchronized, findClass_of_methodNamed B.named, (name_of_methodNamed B.named B.method).1, fun w hw => hts w (List.mem_cons_of_mem _ hw), hK, hT, by omega⟩ ⟨by show s.heap.size + 0 = _; omega, hR⟩ va_S.rf (mPr_args E av hc _ hl0)
/-! calls -/
theorem mW_size {p : Program} {l : Launch} {e : Env} {R : Room} {s : State} {m : MethodId} {args : Array Value} {below : List Frame} {meth : Method} {c : Code} {H : Heap} {locs : List Loc} {cells slots : Nat} {Q : State → Prop} {g : JFrame} (k : H.size ≤ s.heap.size + cells → W p l e R s m args below meth c H locs cells slots Q g) : W p l e R s m args below meth c H locs cells slots Q g := fun T hT X => k (by rw [← hT]; exact X.heapSize) T hT X
theorem mPc_blind (E : mE) (av : List Value) (n : Nat) (h : mH) : FrameBlind (mPc E av n h) := fun a U g mk q => ⟨q.1, q.2.1, mKn.same (s := U) (U := U.calling g mk a) rfl q.2.2.1, mSt.kept (u := U) (U := U.calling g mk a) (Vm.Alike.refl U.vm) q.2.2.2.1 (fun _ _ _ => rfl), q.2.2.2.2⟩
theorem mPc_now {s U : State} {H : Heap} {locs : List Loc} {n cells : Nat} {av : List Value} (hW : s.WarmedH U.vm) (hU : U.heap = H) (hK : mKn E s) (hT : mSt E s s.heap) (S : va_S (mA E) s.heap H locs) (R : mRep E n h H) (hz : s.heap.size + cells = E.2.2.2.1 + n) (hz2 : H.size ≤ s.heap.size + cells) (hz3 : E.2.2.2.1 + n ≤ H.size) : mPc E av n h (av.map (mrv E)).toArray U :=
  ⟨rfl, by rw [hU]; exact R, hK.warm hW, by rw [hU]; exact hT.kept hW.alike S.2.1, by rw [hU]; omega⟩
/-- the words of a call -/
def mCy (Y : mY) (na : Nat) : Prop := Cond.code Y.1 Y.2.1 Y.2.2.1 Y.2.2.2 ∈ mw ∧ Cond.initialized Y.1.cls ∈ mw ∧ Y.1.cls ≠ "java/lang/invoke/MethodHandle" ∧ Y.1.cls ≠ "java/lang/invoke/VarHandle" ∧ (parseMethodDescriptor Y.1.desc).map (fun d => d.parameters.length) = some na
def mCv (own : String) (idx : Nat) (Y : mY) (na ci : Nat) : Prop := mCy Y na ∧ Cond.methodLink own idx Y.1 ∈ mw ∧ Cond.instanceMethod Y.1 ∈ mw ∧ Cond.selects Y.1.cls Y.1 Y.1 ∈ mw ∧ ∃ (T : u_T) (N : Nat), mCl[ci]? = some (Y.1.cls, T, N)
def mCs (own : String) (idx : Nat) (Y : mY) (na : Nat) : Prop := mCy Y na ∧ Cond.methodLink own idx Y.1 ∈ mw ∧ Cond.static Y.1 ∈ mw
def mLe (R' : Room) (nL : Nat) (R : Room) : Prop := R'.frames + 1 ≤ R.frames ∧ 8 + (nL + 11) + R'.locals ≤ R.locals
theorem mCallB {R' R : Room} {Y : mY} {na i : Nat} {own : String} {s : State} {args : Array Value} (hts : ∀ w ∈ mw, w.before args s = true) (hy : mCy Y na) (hl : Cond.methodLink own i Y.1 ∈ mw) (hR : mLe R' Y.2.2.1 R) : CallB R s args own i Y.1 Y.2.1 Y.2.2.1 Y.2.2.2 (Cond.code Y.1 Y.2.1 Y.2.2.1 Y.2.2.2 :: mw) R' R'.cells R'.slots na :=
  callB_of na hts (mGood hy.1) rfl rfl rfl (hts _ hy.2.1) (hts _ hl) hy.2.2 hR
theorem mCat (E : mE) (st : List Value) : ((st.map (mrv E)).map fun v => v.category) = st.map fun v => v.category := by rw [List.map_map]; exact List.map_congr_left (fun v _ => mrv_cat E v)
/-- behind a call -/
theorem mG_after {n n' cells slots : Nat} {R' : Room} {Q' : Option Value → mH → Prop} {st0 : List Value} {p : Program} {e : Env} {s : State} {m : MethodId} {args : Array Value} {below : List Frame} {meth : Method} {c : Code} {H : Heap} {locs : List Loc} {ls : Array Slot} {av : Array Value} (hn' : n' = n + R'.cells)
    (C : mCx E M p s m args meth c) (Rz : s.heap.size + cells = E.2.2.2.1 + n) (S : va_S (mA E) s.heap H locs) (V : lv_has ls M.2.2.2.1 (mPr E L))
    (hr : va_Run p E.1 e M.1 s m args below meth c H locs cells slots R'.cells R'.slots (F0 m pc ls st0) (st.map (mrv E)) (mQc E n' Q' av) (mA E))
    (k : ∀ r h', Q' r h' → mG E M K (pc + 3) L (r.toList ++ st) (n', cells + R'.cells, slots + R'.slots) h') : W p E.1 e M.1 s m args below meth c H locs cells slots (K below args s) (F0 m pc ls st0) := by
  intro T hT X
  obtain ⟨v, st₀, t, T', L2, h0, X', hL, e1, e2, ⟨⟨r, h', hv, hq, hrep⟩, hz, hk⟩, stp⟩ := hr T hT X
  cases hv
  rw [h0] at hz hk
  obtain ⟨t2, a1, b1⟩ := k r h' hq p e s m args below meth c T'.heap (locs ++ L2) ls C ⟨by show s.heap.size + (cells + R'.cells) = _ + n'; omega, by rw [e1]; exact hrep⟩
    ⟨Nat.le_trans S.1 (by rw [e1]; exact hz), fun q g1 g2 => by rw [e1, hk q (Nat.lt_of_lt_of_le g1 S.1) g2]; exact S.2.1 q g1 g2, fun q hq => by
      rcases List.mem_append.mp hq with g | g
      · exact S.2.2 q g
      · exact hL q g⟩ V T' rfl X'
  refine ⟨t2, stp t2 ?_, b1⟩
  have e3 : (r.toList ++ st).map (mrv E) = (r.map (mrv E)).toList ++ st.map (mrv E) := by cases r <;> simp
  rw [e3] at a1
  exact a1
theorem mG_callV {R' : Room} {Y : mY} {na i ci b n n' cells slots : Nat} {av fs : List Value} {Q' : Option Value → mH → Prop} (hc : mCv M.2.1.cls i Y na ci) (hd : mD M.2.2.1 pc (.invokevirtual i) 3 pc') (hR : mLe R' Y.2.2.1 M.1) (hcat : (st.map fun v => v.category).sum ≤ 8) (hf : cells + R'.cells ≤ M.1.cells ∧ slots + R'.slots ≤ M.1.slots) (hh : h b = .inr (.inr (ci, fs))) (hn : b < n) (hna : av.length = na) (hn' : n' = n + R'.cells) (hE : E.2.2.2.2.2.2 = true → 9 ≤ n)
    (hM : mOkR E R' Y (.ref b :: av) n n' h Q') (k : ∀ r h', Q' r h' → mG E M K pc' L (r.toList ++ st) (n', cells + R'.cells, slots + R'.slots) h') : mG E M K pc L (av.reverse ++ .ref b :: st) (n, cells, slots) h := by
  obtain ⟨hd, rfl⟩ := hd
  obtain ⟨hy, hl, hin, hse, T, N, hcl⟩ := hc
  intro p e s m args below meth c H locs ls C R S V
  obtain ⟨hx, hb, hml, hr, hlk, hown, hnm, hts, hK, hT, hB⟩ := id C
  refine mW_size (fun hz2 => ?_)
  have hz3 : E.2.2.2.1 + n ≤ H.size := (R.2.size hE).resolve_left (by omega)
  have hb1 : mra E b = E.2.2.2.1 + mSw E.2.2.2.2.2.2 b := mra_lt (Nat.lt_of_lt_of_le hn R.2.1)
  refine mG_after hn' C R.1 S V (va_runV (As := av.map (mrv E)) (b := mra E b) (rest := st.map (mrv E)) (C := Y.1.cls) ⟨hx, hb, rfl, hown, hts⟩ hM ⟨mCallB hts hy hl hR, hts _ hin, hts _ hse⟩ ⟨mPc_blind E _ n h, ?_, fun U hU hW => mPc_now hW hU hK hT S R.2 R.1 hz2 hz3⟩ rfl (by rw [List.length_map]; exact hna) (by rw [hml]; exact V.1) (by simp [mrv]) (lv_room (by rw [mCat]; exact hcat)) hd hf) k
  rw [hb1]
  exact va_recv hK.1 R.2.2 hcl (mWs_get hn hh)
theorem mG_callS {R' : Room} {Y : mY} {na i n n' cells slots : Nat} {av : List Value} {Q' : Option Value → mH → Prop} (hc : mCs M.2.1.cls i Y na) (hd : mD M.2.2.1 pc (.invokestatic i) 3 pc') (hR : mLe R' Y.2.2.1 M.1) (hcat : (st.map fun v => v.category).sum ≤ 8) (hf : cells + R'.cells ≤ M.1.cells ∧ slots + R'.slots ≤ M.1.slots) (hna : av.length = na) (hn' : n' = n + R'.cells) (h0 : 0 < n) (hE : E.2.2.2.2.2.2 = true → 9 ≤ n)
    (hM : mOkR E R' Y av n n' h Q') (k : ∀ r h', Q' r h' → mG E M K pc' L (r.toList ++ st) (n', cells + R'.cells, slots + R'.slots) h') : mG E M K pc L (av.reverse ++ st) (n, cells, slots) h := by
  obtain ⟨hd, rfl⟩ := hd
  obtain ⟨hy, hl, hst⟩ := hc
  intro p e s m args below meth c H locs ls C R S V
  obtain ⟨hx, hb, hml, hr, hlk, hown, hnm, hts, hK, hT, hB⟩ := id C
  refine mW_size (fun hz2 => ?_)
  have hz3 : E.2.2.2.1 + n ≤ H.size := (R.2.size hE).resolve_left (by omega)
  exact mG_after hn' C R.1 S V (va_runS (As := av.map (mrv E)) (rest := st.map (mrv E)) ⟨hx, hb, rfl, hown, hts⟩ hM ⟨mCallB hts hy hl hR, hts _ hst⟩ ⟨mPc_blind E _ n h, fun U hU hW => mPc_now hW hU hK hT S R.2 R.1 hz2 hz3⟩ rfl (by rw [List.length_map]; exact hna) (by rw [hml]; exact V.1) (by simp) (lv_room (by rw [mCat]; exact hcat)) hd hf) k
end MCa
