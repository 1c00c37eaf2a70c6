/-! making cells -/
section MA
variable {E : mE} {M : mM} {K : mKt} {pc pc' : Nat} {L L' : List (Option Value)} {st : List Value} {h h' : mH}
theorem mRep_push {n : Nat} {H H1 : Heap} {c : mC} (hb : E.2.2.2.2.2.2 = false) (hn : n + 1 ≤ 1000) (R : mRep E n h H) (hz : H.size = E.2.2.2.1 + n) (ho : ∀ q, q < H.size → H1[q]? = H[q]?) (hc : va_at E.2.1 mCl (E.2.2.2.1 + n, mEn E c) H1) : mRep E (n + 1) (mU h n c) H1 := by
  refine ⟨hn, fun k q hq => ?_⟩
  have hk : k < n + 1 := by
    have := (List.getElem?_eq_some_iff.mp hq).1
    unfold mWs at this
    simpa using this
  rw [mWs_get hk rfl] at hq
  cases hq
  have e : mSw E.2.2.2.2.2.2 k = k := by rw [hb]; simp [mSw]
  rw [e]
  rcases Nat.eq_or_lt_of_le (Nat.lt_succ_iff.mp hk) with q | q
  · subst q
    rw [show mU h k c k = c from if_pos rfl]
    exact hc
  · rw [show mU h n c k = h k from if_neg (by omega)]
    have h1 := R.2 k _ (mWs_get q rfl)
    rw [e] at h1
    exact h1.kept (ho _ (by show E.2.2.2.1 + k < H.size; omega))
theorem mSize {s : State} {H : Heap} {locs : List Loc} {a : Nat × Nat × Nat} (hb : E.2.2.2.2.2.2 = false) (hB : E.2.2.2.1 ≤ s.heap.size) (R : mRs E s a h H) (S : va_S (mA E) s.heap H locs) (hz2 : H.size ≤ s.heap.size + a.2.1) : H.size = E.2.2.2.1 + a.1 := by
  have h1 := R.1
  rcases R.2.size (fun q => by rw [hb] at q; cases q) with q | q
  · have := S.1
    omega
  · omega
theorem mG_new {i ci n cells slots N : Nat} {fs : List Value} {C : String} {T : u_T} (tf : Nat → FieldType) (hd : mD M.2.2.1 pc (.new i) 3 pc') (hb : E.2.2.2.2.2.2 = false) (hc : mCl[ci]? = some (C, T, N)) (hin : ∀ w ∈ u_ws C T N, w ∈ mw) (htf : ∀ k, k < N → parseFieldDescriptor (T k).2.2.1 = some (tf k)) (hl : Cond.classLink M.2.1.cls i C ∈ mw) (hi : Cond.instantiable C N ∈ mw) (hini : Cond.initialized C ∈ mw) (hfs : ∀ j, j < N → defaultValue (tf j) = vp_V (fs.map (mrv E)) j) (hn : n + 1 ≤ 1000) (h1 : cells + 1 ≤ M.1.cells) (h2 : slots + N ≤ M.1.slots) (kk : mG E M K pc' L (.ref n :: st) (n + 1, cells + 1, slots + N) (mU h n (mOb ci fs))) : mG E M K pc L st (n, cells, slots) h := by
  obtain ⟨hd, rfl⟩ := hd
  intro p e s m args below meth c H locs ls C0 R S V
  obtain ⟨hx, hcb, hml, hr, hlk, hown, hnm, hts, hK, hT, hB⟩ := id C0
  refine mW_size (fun hz2 => ?_)
  have hz := mSize hb hB R S hz2
  have hKn := hK.1.1 ci _ hc
  refine W.newcK hx hcb hown (hts _ hl) (hts _ hi) (hts _ hini) rfl hd h1 h2 hKn.2.1 hz fun H1 kC hkC e1 z1 o1 => ?_
  have hat : va_at E.2.1 mCl (E.2.2.2.1 + n, mEn E (mOb ci fs)) H1 := ⟨_, hc, (u_born tf hts hin hKn hkC e1 htf).to hfs⟩
  have q := kk p e s m args below meth c H1 locs ls C0 ⟨by show s.heap.size + (cells + 1) = _ + (n + 1); have := R.1; dsimp only at this; omega, mRep_push hb hn R.2 hz (fun q hq => o1 q (by rw [hz] at hq; exact hq)) hat⟩ ⟨by have := S.1; omega, fun q g1 g2 => (o1 q (by have := S.1; show q < E.2.2.2.1 + n; dsimp only at hz; omega)).trans (S.2.1 q g1 g2), S.2.2⟩ V
  rw [show (Value.ref n :: st).map (mrv E) = .ref (mra E n) :: st.map (mrv E) from rfl, show mra E n = E.2.2.2.1 + n by rw [mra_lt (by omega), hb]; simp [mSw]] at q
  exact q
theorem mG_newa {n cells slots N t : Nat} {at' : ArrayType} {ty : FieldType} (hd : mD M.2.2.1 pc (.newarray at') 2 pc') (hb : E.2.2.2.2.2.2 = false) (hty : newarray.typeOf at' = ty) (ht : (mTys E)[t]? = some (E.2.2.1 t, ty)) (hdef : defaultValue ty = .int 0) (hra : ∀ U, va_RA U (E.2.2.1 t) ty → U.vm.findClass ("[" ++ ty.toString) = some (E.2.2.1 t)) (hw : Cond.arrayClass ty ∈ mw) (hN : N < 2 ^ 31) (hby : N * componentBytes ty ≤ 536870912) (hn : n + 1 ≤ 1000) (h1 : cells + 1 ≤ M.1.cells) (h2 : slots + N ≤ M.1.slots) (kk : mG E M K pc' L (.ref n :: st) (n + 1, cells + 1, slots + N) (mU h n (.inl (t, N, fun _ => 0)))) : mG E M K pc L (.int (nI N) :: st) (n, cells, slots) h := by
  obtain ⟨hd, rfl⟩ := hd
  subst hty
  intro p e s m args below meth c H locs ls C0 R S V
  obtain ⟨hx, hcb, hml, hr, hlk, hown, hnm, hts, hK, hT, hB⟩ := id C0
  refine mW_size (fun hz2 => ?_)
  have hz := mSize hb hB R S hz2
  refine va_newaK hx hcb (hts _ hw) rfl hd rfl (nI_pos hN) (nI_clamp hN) hby h1 h2 hz fun H1 cA e1 z1 o1 hAr hNm => ?_
  have ecA : cA = E.2.2.1 t := Option.some.inj (hNm.symm.trans (hra s (hK.1.2 t _ ht).2))
  subst ecA
  have hat : va_at E.2.1 mCl (E.2.2.2.1 + n, mEn E (.inl (t, N, fun _ => 0))) H1 := by
    show H1[_]? = some (vp_cell _ _)
    rw [vp_cell_i]
    rw [hdef] at e1
    exact e1
  have q := kk p e s m args below meth c H1 locs ls C0 ⟨by show s.heap.size + (cells + 1) = _ + (n + 1); have := R.1; dsimp only at this; omega, mRep_push hb hn R.2 hz (fun q hq => o1 q (by rw [hz] at hq; exact hq)) hat⟩ ⟨by have := S.1; dsimp only at hz; omega, fun q g1 g2 => (o1 q (by have := S.1; show q < E.2.2.2.1 + n; dsimp only at hz; omega)).trans (S.2.1 q g1 g2), S.2.2⟩ V
  rw [show (Value.ref n :: st).map (mrv E) = .ref (mra E n) :: st.map (mrv E) from rfl, show mra E n = E.2.2.2.1 + n by rw [mra_lt (by omega), hb]; simp [mSw]] at q
  exact q
theorem mG_newI {n cells slots N : Nat} (hd : mD M.2.2.1 pc (.newarray .int) 2 pc') (hb : E.2.2.2.2.2.2 = false) (hN : N < 2 ^ 20) (hn : n + 1 ≤ 1000) (h1 : cells + 1 ≤ M.1.cells) (h2 : slots + N ≤ M.1.slots) (kk : mG E M K pc' L (.ref n :: st) (n + 1, cells + 1, slots + N) (mU h n (mAr N (fun _ => 0)))) : mG E M K pc L (.int (nI N) :: st) (n, cells, slots) h :=
  mG_newa (t := 0) (ty := .int) hd hb rfl rfl rfl (fun _ q => q) w_arr_int (by omega) (by show N * 4 ≤ _; omega) hn h1 h2 kk
theorem mG_newB {n cells slots N : Nat} (hd : mD M.2.2.1 pc (.newarray .byte) 2 pc') (hb : E.2.2.2.2.2.2 = false) (hN : N < 2 ^ 20) (hn : n + 1 ≤ 1000) (h1 : cells + 1 ≤ M.1.cells) (h2 : slots + N ≤ M.1.slots) (kk : mG E M K pc' L (.ref n :: st) (n + 1, cells + 1, slots + N) (mU h n (.inl (1, N, fun _ => 0)))) : mG E M K pc L (.int (nI N) :: st) (n, cells, slots) h :=
  mG_newa (t := 1) (ty := .byte) hd hb rfl rfl rfl (fun _ q => q) w_arr_byte (by omega) (by show N * 1 ≤ _; omega) hn h1 h2 kk
theorem mG_newZ {n cells slots N : Nat} (hd : mD M.2.2.1 pc (.newarray .boolean) 2 pc') (hb : E.2.2.2.2.2.2 = false) (hN : N < 2 ^ 20) (hn : n + 1 ≤ 1000) (h1 : cells + 1 ≤ M.1.cells) (h2 : slots + N ≤ M.1.slots) (kk : mG E M K pc' L (.ref n :: st) (n + 1, cells + 1, slots + N) (mU h n (mZr N (fun _ => false)))) : mG E M K pc L (.int (nI N) :: st) (n, cells, slots) h :=
  mG_newa (t := 2) (ty := .boolean) hd hb rfl rfl rfl (fun _ q => q) w_arr_boolean (by omega) (by show N * 1 ≤ _; omega) hn h1 h2 kk
theorem mG_newS {i n cells slots N : Nat} (hd : mD M.2.2.1 pc (.anewarray i) 3 pc') (hb : E.2.2.2.2.2.2 = false) (hl : Cond.classLink M.2.1.cls i RX3 ∈ mw) (hN : N < 2 ^ 20) (hn : n + 1 ≤ 1000) (h1 : cells + 1 ≤ M.1.cells) (h2 : slots + N ≤ M.1.slots) (kk : mG E M K pc' L (.ref n :: st) (n + 1, cells + 1, slots + N) (mU h n (.inr (.inl (N, fun _ => none))))) : mG E M K pc L (.int (nI N) :: st) (n, cells, slots) h := by
  obtain ⟨hd, rfl⟩ := hd
  intro p e s m args below meth c H locs ls C0 R S V
  obtain ⟨hx, hcb, hml, hr, hlk, hown, hnm, hts, hK, hT, hB⟩ := id C0
  refine mW_size (fun hz2 => ?_)
  have hz := mSize hb hB R S hz2
  have c3 : (nI N).toNatClampNeg = N := nI_clamp (by omega)
  refine W.anew (C := RX3) hx hcb hown (hts _ hl) (va_AO.use hK.2.1) rfl hd rfl (nI_pos (by omega)) (by rw [c3]; omega) h1 (by rw [c3]; exact h2) fun cA kA comp f1 f2 f3 f4 => ?_
  have h3 := (hK.1.2 3 _ rfl).2
  obtain ⟨kA', comp', g1, g2, g3, g4⟩ := h3
  have ecA : cA = E.2.2.1 3 := Option.some.inj (f1.symm.trans g4)
  subst ecA
  generalize hH1 : H.push ({ cls := E.2.2.1 3, slots := Array.replicate (nI N).toNatClampNeg .null, vm := .none } : Cell) = H1
  rw [c3] at hH1
  have z1 : H1.size = H.size + 1 := by rw [← hH1, Array.size_push]
  have e1 : H1[H.size]? = some (arrV (E.2.2.1 3) N (fun _ => .null)) := by rw [← hH1, Array.getElem?_push_size, ← arrV_new]
  have o1 : ∀ q : Nat, q < H.size → H1[q]? = H[q]? := fun q hq => by rw [← hH1, Array.getElem?_push, if_neg (Nat.ne_of_lt hq)]
  have hat : va_at E.2.1 mCl (E.2.2.2.1 + n, mEn E (.inr (.inl (N, fun _ => none)))) H1 := by
    show H1[_]? = some (vp_cell _ _)
    rw [vp_cell_q, ← show H.size = E.2.2.2.1 + n from hz]
    exact e1
  have q := kk p e s m args below meth c H1 locs ls C0 ⟨by show s.heap.size + (cells + 1) = _ + (n + 1); have := R.1; dsimp only at this; omega, mRep_push hb hn R.2 hz o1 hat⟩ ⟨by have := S.1; omega, fun q g1 g2 => (o1 q (by have := S.1; omega)).trans (S.2.1 q g1 g2), S.2.2⟩ V
  rw [show (Value.ref n :: st).map (mrv E) = .ref (mra E n) :: st.map (mrv E) from rfl, show mra E n = H.size by rw [mra_lt (by omega), hb, hz]; simp [mSw]] at q
  rw [c3]
  exact q
theorem mG_oinit {i b : Nat} {a : Nat × Nat × Nat} (hd : mD M.2.2.1 pc (.invokespecial i) 3 pc') (hl : Cond.methodLink M.2.1.cls i objectInit ∈ mw) (hfr : 1 ≤ M.1.frames) (hlo : (st.map fun v => v.category).sum + 12 ≤ M.1.locals) (kk : mG E M K pc' L st a h) : mG E M K pc L (.ref b :: st) a h := by
  obtain ⟨hd, rfl⟩ := hd
  intro p e s m args below meth c H locs ls C0 R S V
  obtain ⟨hx, hcb, hml, hr, hlk, hown, hnm, hts, hK, hT, hB⟩ := id C0
  exact W.objInit hx hcb hown (hts _ hl) (hts _ w_objinit.1) (hts _ w_objinit.2) rfl (by rw [hml]; exact V.1) rfl hd hfr (by rw [mCat]; show 2 * 0 + _ + 12 ≤ _; omega) (kk p e s m args below meth c H locs ls C0 R S V)
theorem mG_ctor {R' : Room} {y : MethodName} {cc : ByteArray} {nL i b n n' cells slots : Nat} {Q' : Option Value → mH → Prop} (hy : mCy (y, cc, nL, none) 0) (hl : Cond.methodLink M.2.1.cls i y ∈ mw) (hin : Cond.instanceMethod y ∈ mw) (hnm : y.name = "<init>") (hd : mD M.2.2.1 pc (.invokespecial i) 3 pc') (hR : mLe R' nL M.1) (hcat : (st.map fun v => v.category).sum ≤ 8) (hf : cells + R'.cells ≤ M.1.cells ∧ slots + R'.slots ≤ M.1.slots) (hn : 0 < n) (hn' : n' = n + R'.cells) (hE : E.2.2.2.2.2.2 = true → 9 ≤ n)
    (hM : mOkR E R' (y, cc, nL, none) [.ref b] n n' h Q') (k : ∀ r h', Q' r h' → mG E M K pc' L (r.toList ++ st) (n', cells + R'.cells, slots + R'.slots) h') : mG E M K pc L (.ref b :: st) (n, cells, slots) h := by
  obtain ⟨hd, rfl⟩ := hd
  intro p e s m args below meth c H locs ls C R S V
  obtain ⟨hx, hb, hml, hr, hlk, hown, hnm2, hts, hK, hT, hB⟩ := id C
  refine mW_size (fun hz2 => ?_)
  have hz3 : E.2.2.2.1 + n ≤ H.size := (R.2.size hE).resolve_left (by omega)
  exact mG_after hn' C R.1 S V (va_runI (As := []) (b := mra E b) (rest := st.map (mrv E)) ⟨hx, hb, rfl, hown, hts⟩ hM ⟨mCallB (Y := (y, cc, nL, none)) hts hy hl hR, hnm, hts _ hin⟩ ⟨mPc_blind E _ n h, fun U hU hW => mPc_now (av := [.ref b]) hW hU hK hT S R.2 R.1 hz2 hz3⟩ rfl rfl (by rw [hml]; exact V.1) rfl (lv_room (by rw [mCat]; exact hcat)) hd hf) k
theorem mG_ctorN {R' : Room} {y : MethodName} {cc : ByteArray} {nL i b n n' cells slots : Nat} {C' : String} {Q' : Option Value → mH → Prop} (hown0 : M.2.1.cls = "DayCubes") (hq : (i, C') ∈ mNm) (hyC : y = ⟨C', "<init>", "()V"⟩) (hy : mCy (y, cc, nL, none) 0) (hin : Cond.instanceMethod y ∈ mw) (hd : mD M.2.2.1 pc (.invokespecial i) 3 pc') (hR : mLe R' nL M.1) (hcat : (st.map fun v => v.category).sum ≤ 8) (hf : cells + R'.cells ≤ M.1.cells ∧ slots + R'.slots ≤ M.1.slots) (hn : 0 < n) (hn' : n' = n + R'.cells) (hE : E.2.2.2.2.2.2 = true → 9 ≤ n)
    (hM : mOkR E R' (y, cc, nL, none) [.ref b] n n' h Q') (k : ∀ r h', Q' r h' → mG E M K pc' L (r.toList ++ st) (n', cells + R'.cells, slots + R'.slots) h') : mG E M K pc L (.ref b :: st) (n, cells, slots) h := by
  obtain ⟨hd, rfl⟩ := hd
  intro p e s m args below meth c H locs ls C R S V
  obtain ⟨hx, hb, hml, hr, hlk, hown, hnm2, hts, hK, hT, hB⟩ := id C
  refine mW_size (fun hz2 => ?_)
  have hz3 : E.2.2.2.1 + n ≤ H.size := (R.2.size hE).resolve_left (by omega)
  have hlink : va_Nw (.methodLinkNest M.2.1.cls i y "DayCubes") s := by
    rw [hown0, hyC]
    exact hK.2.2.2 _ hq
  exact mG_after hn' C R.1 S V (va_runIN (As := []) (b := mra E b) (rest := st.map (mrv E)) ⟨hx, hb, rfl, hown, hts⟩ hM ⟨va_cnB 0 hts (mGood hy.1) rfl rfl rfl hlink (hts _ hy.2.1) hy.2.2 hR, by rw [hyC], hts _ hin⟩ ⟨mPc_blind E _ n h, fun U hU hW => mPc_now (av := [.ref b]) hW hU hK hT S R.2 R.1 hz2 hz3⟩ rfl rfl (by rw [hml]; exact V.1) rfl (lv_room (by rw [mCat]; exact hcat)) hd hf) k
end MA
