section MM
variable {E : mE} {M : mM} {K : mKt} {pc pc' : Nat} {L L' : List (Option Value)} {st : List Value} {a : Nat × Nat × Nat} {h h' : mH}
theorem mra_lt {E : mE} {k : Nat} (hk : k < 1000) : mra E k = E.2.2.2.1 + mSw E.2.2.2.2.2.2 k := if_pos hk
/-! fields -/
def mFd (own : String) (idx ci k : Nat) : Prop := ∃ (C : String) (T : u_T) (N : Nat), mCl[ci]? = some (C, T, N) ∧ (∀ w ∈ u_ws C T N, w ∈ mw) ∧ k < N ∧ Cond.fieldLink own idx (T k).1 (T k).2.1 (T k).2.2.1 ∈ mw
def mPd (own : String) (idx ci k : Nat) (ty : FieldType) (fin : Bool) : Prop := ∃ (C : String) (T : u_T) (N : Nat) (tf : Nat → FieldType), mCl[ci]? = some (C, T, N) ∧ (∀ w ∈ u_ws C T N, w ∈ mw) ∧ k < N ∧ Cond.fieldLink own idx (T k).1 (T k).2.1 (T k).2.2.1 ∈ mw ∧
  (∀ k, k < N → parseFieldDescriptor (T k).2.2.1 = some (tf k)) ∧ (∀ a, a < N → ∀ b, b < N → a ≠ b → (T a).2.1 ≠ (T b).2.1) ∧ (T k).2.2.2 = fin ∧ tf k = ty ∧ (fin = true → (T k).1 = own)
theorem mG_get {i ci k b : Nat} {fs : List Value} {v : Value} (hf : mFd M.2.1.cls i ci k) (hd : mD M.2.2.1 pc (.getfield i) 3 pc') (hh : h b = .inr (.inr (ci, fs))) (hn : b < a.1) (hv : fs[k]? = some v) (kk : mG E M K pc' L (v :: st) a h) : mG E M K pc L (.ref b :: st) a h := by
  obtain ⟨hd, rfl⟩ := hd
  obtain ⟨C0, T, N, hc, hin, hk, hl⟩ := hf
  intro p e s m args below meth c H locs ls C R S V
  obtain ⟨hx, hb, hml, hr, hlk, hown, hnm, hts, hK, hT, hB⟩ := id C
  show W _ _ _ _ _ _ _ _ _ _ _ _ _ _ _ (F0 m pc ls (.ref (mra E b) :: st.map (mrv E)))
  rw [mra_lt (Nat.lt_of_lt_of_le hn R.2.1)]
  exact va_get (C := C0) (T := T) (N := N) hx hb hts hin hown hK.1 R.2.2 b (mWs_get hn hh) hc k hk (hts _ hl) (fun _ q => q) (show (fs.map (mrv E))[k]? = some (mrv E v) by rw [List.getElem?_map, hv]; rfl) hd (kk p e s m args below meth c H locs ls C R S V)
theorem mG_put {i ci k b : Nat} {fs : List Value} {v : Value} {ty : FieldType} (hf : mPd M.2.1.cls i ci k ty false) (hd : mD M.2.2.1 pc (.putfield i) 3 pc') (hh : h b = .inr (.inr (ci, fs))) (hn : b < a.1) (hl : k < fs.length) (hna : narrow ty (mrv E v) = mrv E v) (hfi : fits ty (mrv E v) = true) (kk : mG E M K pc' L st a (mU h b (.inr (.inr (ci, fs.set k v))))) : mG E M K pc L (v :: .ref b :: st) a h := by
  obtain ⟨hd, rfl⟩ := hd
  obtain ⟨C0, T, N, tf, hc, hin, hk, hlk2, htf, hnm2, hfin, hty, -⟩ := hf
  intro p e s m args below meth c H locs ls C R S V
  obtain ⟨hx, hb, hml, hr, hlk, hown, hnm, hts, hK, hT, hB⟩ := id C
  show W _ _ _ _ _ _ _ _ _ _ _ _ _ _ _ (F0 m pc ls (mrv E v :: .ref (mra E b) :: st.map (mrv E)))
  rw [mra_lt (Nat.lt_of_lt_of_le hn R.2.1)]
  refine va_put (C := C0) (T := T) (N := N) hx hb hts hin tf htf hnm2 hown hK.1 R.2.2 (mWs_D E a.1 h) S b (mWs_get hn hh) hc k hk (hts _ hlk2) (fun _ q => q) hfin (hty ▸ htf k hk) hna hfi (by rw [List.length_map]; exact hl) hd (fun H1 locs1 hP hD hS => ?_)
  have e1 : (fs.map (mrv E)).set k (mrv E v) = (fs.set k v).map (mrv E) := by rw [List.map_set]
  rw [e1] at hP
  exact kk p e s m args below meth c H1 locs1 ls C ⟨R.1, R.2.1, by rw [← mWs_set]; exact hP⟩ hS V
theorem mG_putF {i ci k b : Nat} {fs : List Value} {v : Value} {ty : FieldType} (hf : mPd M.2.1.cls i ci k ty true) (hd : mD M.2.2.1 pc (.putfield i) 3 pc') (hi : M.2.1.name = "<init>") (hh : h b = .inr (.inr (ci, fs))) (hn : b < a.1) (hl : k < fs.length) (hna : narrow ty (mrv E v) = mrv E v) (hfi : fits ty (mrv E v) = true) (kk : mG E M K pc' L st a (mU h b (.inr (.inr (ci, fs.set k v))))) : mG E M K pc L (v :: .ref b :: st) a h := by
  obtain ⟨hd, rfl⟩ := hd
  obtain ⟨C0, T, N, tf, hc, hin, hk, hlk2, htf, hnm2, hfin, hty, hown2⟩ := hf
  intro p e s m args below meth c H locs ls C R S V
  obtain ⟨hx, hb, hml, hr, hlk, hown, hnm, hts, hK, hT, hB⟩ := id C
  show W _ _ _ _ _ _ _ _ _ _ _ _ _ _ _ (F0 m pc ls (mrv E v :: .ref (mra E b) :: st.map (mrv E)))
  rw [mra_lt (Nat.lt_of_lt_of_le hn R.2.1)]
  refine va_putF (C := C0) (T := T) (N := N) hx hb hts hin tf htf hnm2 hown hK.1 R.2.2 (mWs_D E a.1 h) S b (mWs_get hn hh) hc k hk (hts _ hlk2) (fun _ q => q) hfin (hnm.trans hi) (hown2 rfl) (hty ▸ htf k hk) hna hfi (by rw [List.length_map]; exact hl) hd (fun H1 locs1 hP hD hS => ?_)
  have e1 : (fs.map (mrv E)).set k (mrv E v) = (fs.set k v).map (mrv E) := by rw [List.map_set]
  rw [e1] at hP
  exact kk p e s m args below meth c H1 locs1 ls C ⟨R.1, R.2.1, by rw [← mWs_set]; exact hP⟩ hS V
theorem mG_putI {i ci k b : Nat} {fs : List Value} {x : Int32} (hf : mPd M.2.1.cls i ci k .int false) (hd : mD M.2.2.1 pc (.putfield i) 3 pc') (hh : h b = .inr (.inr (ci, fs))) (hn : b < a.1) (hl : k < fs.length) (kk : mG E M K pc' L st a (mU h b (.inr (.inr (ci, fs.set k (.int x)))))) : mG E M K pc L (.int x :: .ref b :: st) a h := mG_put hf hd hh hn hl rfl rfl kk
theorem mG_putJ {i ci k b : Nat} {fs : List Value} {x : Int64} (hf : mPd M.2.1.cls i ci k .long false) (hd : mD M.2.2.1 pc (.putfield i) 3 pc') (hh : h b = .inr (.inr (ci, fs))) (hn : b < a.1) (hl : k < fs.length) (kk : mG E M K pc' L st a (mU h b (.inr (.inr (ci, fs.set k (.long x)))))) : mG E M K pc L (.long x :: .ref b :: st) a h := mG_put hf hd hh hn hl rfl rfl kk
theorem mb_nar (x : Bool) : narrow .boolean (.int (mb x)) = .int (mb x) ∧ fits .boolean (.int (mb x)) = true := by cases x <;> decide
theorem mG_putZ {i ci k b : Nat} {fs : List Value} {x : Bool} (hf : mPd M.2.1.cls i ci k .boolean false) (hd : mD M.2.2.1 pc (.putfield i) 3 pc') (hh : h b = .inr (.inr (ci, fs))) (hn : b < a.1) (hl : k < fs.length) (kk : mG E M K pc' L st a (mU h b (.inr (.inr (ci, fs.set k (.int (mb x))))))) : mG E M K pc L (.int (mb x) :: .ref b :: st) a h := mG_put hf hd hh hn hl (mb_nar x).1 (mb_nar x).2 kk
theorem mG_putO {i ci k b q : Nat} {fs : List Value} {D : String} (hf : mPd M.2.1.cls i ci k (.object D) false) (hd : mD M.2.2.1 pc (.putfield i) 3 pc') (hh : h b = .inr (.inr (ci, fs))) (hn : b < a.1) (hl : k < fs.length) (kk : mG E M K pc' L st a (mU h b (.inr (.inr (ci, fs.set k (.ref q)))))) : mG E M K pc L (.ref q :: .ref b :: st) a h := mG_put hf hd hh hn hl rfl rfl kk
theorem mG_putFO {i ci k b q : Nat} {fs : List Value} {D : FieldType} (hf : mPd M.2.1.cls i ci k D true) (hd : mD M.2.2.1 pc (.putfield i) 3 pc') (hi : M.2.1.name = "<init>") (hh : h b = .inr (.inr (ci, fs))) (hn : b < a.1) (hl : k < fs.length) (hna : narrow D (.ref (mra E q)) = .ref (mra E q)) (hfi : fits D (.ref (mra E q)) = true) (kk : mG E M K pc' L st a (mU h b (.inr (.inr (ci, fs.set k (.ref q)))))) : mG E M K pc L (.ref q :: .ref b :: st) a h := mG_putF hf hd hi hh hn hl hna hfi kk
/-! arrays -/
theorem mTys_at (E : mE) : (mTys E)[0]? = some (E.2.2.1 0, .int) ∧ (mTys E)[1]? = some (E.2.2.1 1, .byte) ∧ (mTys E)[2]? = some (E.2.2.1 2, .boolean) ∧ (mTys E)[3]? = some (E.2.2.1 3, .object "DayCubes$Stand") := ⟨rfl, rfl, rfl, rfl⟩
theorem mG_iald {b n : Nat} {f : Nat → Int32} {i : Int32} (hd : mD M.2.2.1 pc .iaload 1 pc') (hh : h b = .inl (0, n, f)) (hn : b < a.1) (hi : vp_in i n) (kk : mG E M K pc' L (.int (f i.toNatClampNeg) :: st) a h) : mG E M K pc L (.int i :: .ref b :: st) a h := by
  obtain ⟨hd, rfl⟩ := hd
  intro p e s m args below meth c H locs ls C R S V
  obtain ⟨hx, hb, hml, hr, hlk, hown, hnm, hts, hK, hT, hB⟩ := id C
  show W _ _ _ _ _ _ _ _ _ _ _ _ _ _ _ (F0 m pc ls (.int i :: .ref (mra E b) :: st.map (mrv E)))
  rw [mra_lt (Nat.lt_of_lt_of_le hn R.2.1)]
  exact va_iald hx hb hK.1 R.2.2 b 0 (mWs_get hn hh) rfl hi hd (kk p e s m args below meth c H locs ls C R S V)
theorem mG_bald {b n : Nat} {f : Nat → Int32} {i : Int32} (hd : mD M.2.2.1 pc .baload 1 pc') (hh : h b = .inl (1, n, f)) (hn : b < a.1) (hi : vp_in i n) (kk : mG E M K pc' L (.int (f i.toNatClampNeg) :: st) a h) : mG E M K pc L (.int i :: .ref b :: st) a h := by
  obtain ⟨hd, rfl⟩ := hd
  intro p e s m args below meth c H locs ls C R S V
  obtain ⟨hx, hb, hml, hr, hlk, hown, hnm, hts, hK, hT, hB⟩ := id C
  show W _ _ _ _ _ _ _ _ _ _ _ _ _ _ _ (F0 m pc ls (.int i :: .ref (mra E b) :: st.map (mrv E)))
  rw [mra_lt (Nat.lt_of_lt_of_le hn R.2.1)]
  exact va_bald hx hb hK.1 R.2.2 b 1 (mWs_get hn hh) rfl hi hd (kk p e s m args below meth c H locs ls C R S V)
theorem mG_zald {b n : Nat} {f : Nat → Int32} {i : Int32} (hd : mD M.2.2.1 pc .baload 1 pc') (hh : h b = .inl (2, n, f)) (hn : b < a.1) (hi : vp_in i n) (kk : mG E M K pc' L (.int (f i.toNatClampNeg) :: st) a h) : mG E M K pc L (.int i :: .ref b :: st) a h := by
  obtain ⟨hd, rfl⟩ := hd
  intro p e s m args below meth c H locs ls C R S V
  obtain ⟨hx, hb, hml, hr, hlk, hown, hnm, hts, hK, hT, hB⟩ := id C
  show W _ _ _ _ _ _ _ _ _ _ _ _ _ _ _ (F0 m pc ls (.int i :: .ref (mra E b) :: st.map (mrv E)))
  rw [mra_lt (Nat.lt_of_lt_of_le hn R.2.1)]
  exact va_zald hx hb hK.1 R.2.2 b 2 (mWs_get hn hh) rfl hi hd (kk p e s m args below meth c H locs ls C R S V)
theorem mIn {i n : Nat} (hi : i < n) (hn : n < 2 ^ 31) : vp_in (nI i) n ∧ (nI i).toNatClampNeg = i := ⟨vp_in_nI hi hn, nI_clamp (Nat.lt_trans hi hn)⟩
theorem mG_ialdN {b n i : Nat} {f : Nat → Int32} (hd : mD M.2.2.1 pc .iaload 1 pc') (hh : h b = .inl (0, n, f)) (hn : b < a.1) (hm : n < 2 ^ 31) (hi : i < n) (kk : mG E M K pc' L (.int (f i) :: st) a h) : mG E M K pc L (.int (nI i) :: .ref b :: st) a h :=
  mG_iald hd hh hn (mIn hi hm).1 (by rw [(mIn hi hm).2]; exact kk)
theorem mG_baldN {b n i : Nat} {f : Nat → Int32} (hd : mD M.2.2.1 pc .baload 1 pc') (hh : h b = .inl (1, n, f)) (hn : b < a.1) (hm : n < 2 ^ 31) (hi : i < n) (kk : mG E M K pc' L (.int (f i) :: st) a h) : mG E M K pc L (.int (nI i) :: .ref b :: st) a h :=
  mG_bald hd hh hn (mIn hi hm).1 (by rw [(mIn hi hm).2]; exact kk)
theorem mG_zaldN {b n i : Nat} {f : Nat → Int32} (hd : mD M.2.2.1 pc .baload 1 pc') (hh : h b = .inl (2, n, f)) (hn : b < a.1) (hm : n < 2 ^ 31) (hi : i < n) (kk : mG E M K pc' L (.int (f i) :: st) a h) : mG E M K pc L (.int (nI i) :: .ref b :: st) a h :=
  mG_zald hd hh hn (mIn hi hm).1 (by rw [(mIn hi hm).2]; exact kk)
theorem mG_iastN {b n i : Nat} {f : Nat → Int32} {x : Int32} (hd : mD M.2.2.1 pc .iastore 1 pc') (hh : h b = .inl (0, n, f)) (hn : b < a.1) (hm : n < 2 ^ 31) (hi : i < n) (kk : mG E M K pc' L st a (mU h b (.inl (0, n, upd f i x)))) : mG E M K pc L (.int x :: .int (nI i) :: .ref b :: st) a h := by
  obtain ⟨hd, rfl⟩ := hd
  intro p e s m args below meth c H locs ls C R S V
  obtain ⟨hx, hb, hml, hr, hlk, hown, hnm, hts, hK, hT, hB⟩ := id C
  show W _ _ _ _ _ _ _ _ _ _ _ _ _ _ _ (F0 m pc ls (.int x :: .int (nI i) :: .ref (mra E b) :: st.map (mrv E)))
  rw [mra_lt (Nat.lt_of_lt_of_le hn R.2.1)]
  refine va_iast hx hb hK.1 R.2.2 (mWs_D E a.1 h) S b 0 (mWs_get hn hh) rfl (mIn hi hm).1 hd (fun H1 locs1 hP hD hS => ?_)
  rw [(mIn hi hm).2] at hP
  exact kk p e s m args below meth c H1 locs1 ls C ⟨R.1, R.2.1, by rw [← mWs_set]; exact hP⟩ hS V
theorem mG_bastN {b n i : Nat} {f : Nat → Int32} {x : Int32} (hd : mD M.2.2.1 pc .bastore 1 pc') (hh : h b = .inl (1, n, f)) (hn : b < a.1) (hm : n < 2 ^ 31) (hi : i < n) (kk : mG E M K pc' L st a (mU h b (.inl (1, n, upd f i (vp_nar .byte x))))) : mG E M K pc L (.int x :: .int (nI i) :: .ref b :: st) a h := by
  obtain ⟨hd, rfl⟩ := hd
  intro p e s m args below meth c H locs ls C R S V
  obtain ⟨hx, hb, hml, hr, hlk, hown, hnm, hts, hK, hT, hB⟩ := id C
  show W _ _ _ _ _ _ _ _ _ _ _ _ _ _ _ (F0 m pc ls (.int x :: .int (nI i) :: .ref (mra E b) :: st.map (mrv E)))
  rw [mra_lt (Nat.lt_of_lt_of_le hn R.2.1)]
  refine va_bast hx hb hK.1 R.2.2 (mWs_D E a.1 h) S b 1 (mWs_get hn hh) rfl (mIn hi hm).1 hd (fun H1 locs1 hP hD hS => ?_)
  rw [(mIn hi hm).2] at hP
  exact kk p e s m args below meth c H1 locs1 ls C ⟨R.1, R.2.1, by rw [← mWs_set]; exact hP⟩ hS V
theorem mb_vp (x : Bool) : vp_nar .boolean (mb x) = mb x := by cases x <;> decide
theorem mG_zastN {b n i : Nat} {f : Nat → Int32} {x : Bool} (hd : mD M.2.2.1 pc .bastore 1 pc') (hh : h b = .inl (2, n, f)) (hn : b < a.1) (hm : n < 2 ^ 31) (hi : i < n) (kk : mG E M K pc' L st a (mU h b (.inl (2, n, upd f i (mb x))))) : mG E M K pc L (.int (mb x) :: .int (nI i) :: .ref b :: st) a h := by
  obtain ⟨hd, rfl⟩ := hd
  intro p e s m args below meth c H locs ls C R S V
  obtain ⟨hx, hb, hml, hr, hlk, hown, hnm, hts, hK, hT, hB⟩ := id C
  show W _ _ _ _ _ _ _ _ _ _ _ _ _ _ _ (F0 m pc ls (.int (mb x) :: .int (nI i) :: .ref (mra E b) :: st.map (mrv E)))
  rw [mra_lt (Nat.lt_of_lt_of_le hn R.2.1)]
  refine va_zast hx hb hK.1 R.2.2 (mWs_D E a.1 h) S b 2 (mWs_get hn hh) rfl (mIn hi hm).1 hd (fun H1 locs1 hP hD hS => ?_)
  rw [(mIn hi hm).2, mb_vp] at hP
  exact kk p e s m args below meth c H1 locs1 ls C ⟨R.1, R.2.1, by rw [← mWs_set]; exact hP⟩ hS V
theorem mG_alen {b t n : Nat} {f : Nat → Int32} (hd : mD M.2.2.1 pc .arraylength 1 pc') (hh : h b = .inl (t, n, f)) (hn : b < a.1) (ht : t < 3) (kk : mG E M K pc' L (.int (nI n) :: st) a h) : mG E M K pc L (.ref b :: st) a h := by
  obtain ⟨hd, rfl⟩ := hd
  intro p e s m args below meth c H locs ls C R S V
  obtain ⟨hx, hb, hml, hr, hlk, hown, hnm, hts, hK, hT, hB⟩ := id C
  show W _ _ _ _ _ _ _ _ _ _ _ _ _ _ _ (F0 m pc ls (.ref (mra E b) :: st.map (mrv E)))
  rw [mra_lt (Nat.lt_of_lt_of_le hn R.2.1)]
  have hty : ∃ ty, (mTys E)[t]? = some (E.2.2.1 t, ty) := by
    rcases (show t = 0 ∨ t = 1 ∨ t = 2 by omega) with rfl | rfl | rfl
    · exact ⟨_, rfl⟩
    · exact ⟨_, rfl⟩
    · exact ⟨_, rfl⟩
  obtain ⟨ty, hty⟩ := hty
  exact va_alen hx hb hK.1 R.2.2 b t (mWs_get hn hh) hty rfl hd (kk p e s m args below meth c H locs ls C R S V)
theorem mG_aaldN {b n i q : Nat} {g : Nat → Option Nat} (hd : mD M.2.2.1 pc .aaload 1 pc') (hh : h b = .inr (.inl (n, g))) (hn : b < a.1) (hm : n < 2 ^ 31) (hi : i < n) (hg : g i = some q) (kk : mG E M K pc' L (.ref q :: st) a h) : mG E M K pc L (.int (nI i) :: .ref b :: st) a h := by
  obtain ⟨hd, rfl⟩ := hd
  intro p e s m args below meth c H locs ls C R S V
  obtain ⟨hx, hb, hml, hr, hlk, hown, hnm, hts, hK, hT, hB⟩ := id C
  show W _ _ _ _ _ _ _ _ _ _ _ _ _ _ _ (F0 m pc ls (.int (nI i) :: .ref (mra E b) :: st.map (mrv E)))
  rw [mra_lt (Nat.lt_of_lt_of_le hn R.2.1)]
  refine va_aldq (C := "DayCubes$Stand") hx hb hK.1 R.2.2 b 3 (mWs_get hn hh) rfl (mIn hi hm).1 hd ?_
  rw [(mIn hi hm).2, show (n, g).snd i = some q from hg]
  exact kk p e s m args below meth c H locs ls C R S V
theorem mG_aastN {b n i q : Nat} {g : Nat → Option Nat} {fs : List Value} (hd : mD M.2.2.1 pc .aastore 1 pc') (hh : h b = .inr (.inl (n, g))) (hn : b < a.1) (hm : n < 2 ^ 31) (hi : i < n) (hq : h q = .inr (.inr (3, fs))) (hqn : q < a.1) (kk : mG E M K pc' L st a (mU h b (.inr (.inl (n, va_up g i (some q)))))) : mG E M K pc L (.ref q :: .int (nI i) :: .ref b :: st) a h := by
  obtain ⟨hd, rfl⟩ := hd
  intro p e s m args below meth c H locs ls C R S V
  obtain ⟨hx, hb, hml, hr, hlk, hown, hnm, hts, hK, hT, hB⟩ := id C
  show W _ _ _ _ _ _ _ _ _ _ _ _ _ _ _ (F0 m pc ls (.ref (mra E q) :: .int (nI i) :: .ref (mra E b) :: st.map (mrv E)))
  rw [mra_lt (Nat.lt_of_lt_of_le hn R.2.1), mra_lt (Nat.lt_of_lt_of_le hqn R.2.1)]
  refine va_astq (r := (RX3, TX3, 6)) hx hb hK.1 R.2.2 (mWs_D E a.1 h) S b 3 q 3 (mWs_get hn hh) rfl (mWs_get hqn hq) rfl (mIn hi hm).1 hd (fun H1 locs1 hP hD hS => ?_)
  rw [(mIn hi hm).2] at hP
  have e1 : va_up (fun j => (g j).map (mra E)) i (some (E.2.2.2.1 + mSw E.2.2.2.2.2.2 q)) = fun j => (va_up g i (some q) j).map (mra E) := by
    funext j
    unfold va_up
    by_cases e : j = i
    · rw [if_pos e, if_pos e]
      show some _ = some (mra E q)
      rw [mra_lt (Nat.lt_of_lt_of_le hqn R.2.1)]
    · rw [if_neg e, if_neg e]
  rw [e1] at hP
  exact kk p e s m args below meth c H1 locs1 ls C ⟨R.1, R.2.1, by rw [← mWs_set]; exact hP⟩ hS V
/-! tables -/
theorem mG_tald {t i : Nat} (hd : mD M.2.2.1 pc .iaload 1 pc') (ht : t < 6) (hm : mTL E t < 2 ^ 31) (hi : i < mTL E t) (kk : mG E M K pc' L (.int (mTF E t i) :: st) a h) : mG E M K pc L (.int (nI i) :: .ref (1000 + t) :: st) a h := by
  obtain ⟨hd, rfl⟩ := hd
  intro p e s m args below meth c H locs ls C R S V
  obtain ⟨hx, hb, hml, hr, hlk, hown, hnm, hts, hK, hT, hB⟩ := id C
  show W _ _ _ _ _ _ _ _ _ _ _ _ _ _ _ (F0 m pc ls (.int (nI i) :: .ref (mra E (1000 + t)) :: st.map (mrv E)))
  rw [show mra E (1000 + t) = E.2.2.2.2.1 t by unfold mra; rw [if_neg (by omega), Nat.add_sub_cancel_left]]
  exact va_ti hx hb (hT.2 t ht) S (mIn hi hm).1 (by rw [(mIn hi hm).2]; rfl) hd (kk p e s m args below meth c H locs ls C R S V)
theorem mG_tlen {t : Nat} (hd : mD M.2.2.1 pc .arraylength 1 pc') (ht : t < 6) (kk : mG E M K pc' L (.int (nI (mTL E t)) :: st) a h) : mG E M K pc L (.ref (1000 + t) :: st) a h := by
  obtain ⟨hd, rfl⟩ := hd
  intro p e s m args below meth c H locs ls C R S V
  obtain ⟨hx, hb, hml, hr, hlk, hown, hnm, hts, hK, hT, hB⟩ := id C
  show W _ _ _ _ _ _ _ _ _ _ _ _ _ _ _ (F0 m pc ls (.ref (mra E (1000 + t)) :: st.map (mrv E)))
  rw [show mra E (1000 + t) = E.2.2.2.2.1 t by unfold mra; rw [if_neg (by omega), Nat.add_sub_cancel_left]]
  exact va_tlen hx hb (hT.2 t ht) S rfl hd (kk p e s m args below meth c H locs ls C R S V)
theorem mG_gets {i t : Nat} (hd : mD M.2.2.1 pc (.getstatic i) 3 pc') (ht : t < 5) (hl : Cond.fieldLink M.2.1.cls i (mSC t) (mSN t) "[I" ∈ mw) (kk : mG E M K pc' L (.ref (1000 + t) :: st) a h) : mG E M K pc L st a h := by
  obtain ⟨hd, rfl⟩ := hd
  intro p e s m args below meth c H locs ls C R S V
  obtain ⟨hx, hb, hml, hr, hlk, hown, hnm, hts, hK, hT, hB⟩ := id C
  refine va_gets hx hb (hT.1 t ht) S hown (hts _ hl) (fun _ q => q) hd ?_
  have := kk p e s m args below meth c H locs ls C R S V
  rw [show (Value.ref (1000 + t) :: st).map (mrv E) = .ref (mra E (1000 + t)) :: st.map (mrv E) from rfl, show mra E (1000 + t) = E.2.2.2.2.1 t by unfold mra; rw [if_neg (by omega), Nat.add_sub_cancel_left]] at this
  exact this
theorem mG_getsN {i t : Nat} (hd : mD M.2.2.1 pc (.getstatic i) 3 pc') (ht : t < 4) (hl : (M.2.1.cls, i, mSN t) ∈ mNf) (kk : mG E M K pc' L (.ref (1000 + t) :: st) a h) : mG E M K pc L st a h := by
  obtain ⟨hd, rfl⟩ := hd
  intro p e s m args below meth c H locs ls C R S V
  obtain ⟨hx, hb, hml, hr, hlk, hown, hnm, hts, hK, hT, hB⟩ := id C
  have hz := hT.1 t (by omega)
  rw [show mSC t = "DayCubes" from if_neg (by omega)] at hz
  refine va_getsN hx hb hz S hown (va_Nw.use rfl (hK.2.2.1 _ hl)) (fun _ q => q) hd ?_
  have := kk p e s m args below meth c H locs ls C R S V
  rw [show (Value.ref (1000 + t) :: st).map (mrv E) = .ref (mra E (1000 + t)) :: st.map (mrv E) from rfl, show mra E (1000 + t) = E.2.2.2.2.1 t by unfold mra; rw [if_neg (by omega), Nat.add_sub_cancel_left]] at this
  exact this
/-! the JDK's own -/
theorem mG_mmin {i : Nat} {x y : Int32} (hd : mD M.2.2.1 pc (.invokestatic i) 3 pc') (hl : Cond.methodLink M.2.1.cls i Lib.Math.min.name ∈ mw) (hs : Cond.static Lib.Math.min.name ∈ mw) (hi : Cond.initialized "java/lang/Math" ∈ mw) (hc : Cond.code Lib.Math.min.name Lib.Math.min.code 2 (some .int) ∈ mw) (hfr : 1 ≤ M.1.frames) (hlo : (st.map fun v => v.category).sum + 13 ≤ M.1.locals) (h1 : a.2.1 ≤ M.1.cells) (h2 : a.2.2 ≤ M.1.slots) (kk : mG E M K pc' L (.int (if y < x then y else x) :: st) a h) : mG E M K pc L (.int y :: .int x :: st) a h := by
  obtain ⟨hd, rfl⟩ := hd
  intro p e s m args below meth c H locs ls C R S V
  obtain ⟨hx, hb, hml, hr, hlk, hown, hnm, hts, hK, hT, hB⟩ := id C
  have e1 : ((st.map (mrv E)).map fun v => v.category) = st.map fun v => v.category := by rw [List.map_map]; exact List.map_congr_left (fun v _ => mrv_cat E v)
  exact va_mmin hx hb (by rw [hml]; exact V.1.symm) hown (hts _ hl) (hts _ hs) (hts _ hi) (hts _ hc) hfr (by rw [e1]; exact hlo) h1 h2 hd (kk p e s m args below meth c H locs ls C R S V)
theorem mG_mmax {i : Nat} {x y : Int32} (hd : mD M.2.2.1 pc (.invokestatic i) 3 pc') (hl : Cond.methodLink M.2.1.cls i Lib.Math.max.name ∈ mw) (hs : Cond.static Lib.Math.max.name ∈ mw) (hi : Cond.initialized "java/lang/Math" ∈ mw) (hc : Cond.code Lib.Math.max.name Lib.Math.max.code 2 (some .int) ∈ mw) (hfr : 1 ≤ M.1.frames) (hlo : (st.map fun v => v.category).sum + 13 ≤ M.1.locals) (h1 : a.2.1 ≤ M.1.cells) (h2 : a.2.2 ≤ M.1.slots) (kk : mG E M K pc' L (.int (if x < y then y else x) :: st) a h) : mG E M K pc L (.int y :: .int x :: st) a h := by
  obtain ⟨hd, rfl⟩ := hd
  intro p e s m args below meth c H locs ls C R S V
  obtain ⟨hx, hb, hml, hr, hlk, hown, hnm, hts, hK, hT, hB⟩ := id C
  have e1 : ((st.map (mrv E)).map fun v => v.category) = st.map fun v => v.category := by rw [List.map_map]; exact List.map_congr_left (fun v _ => mrv_cat E v)
  exact va_mmax hx hb (by rw [hml]; exact V.1.symm) hown (hts _ hl) (hts _ hs) (hts _ hi) (hts _ hc) hfr (by rw [e1]; exact hlo) h1 h2 hd (kk p e s m args below meth c H locs ls C R S V)
theorem mG_copy {i b b0 n0 n1 sp dp n : Nat} {f g : Nat → Int32} (hd : mD M.2.2.1 pc (.invokestatic i) 3 pc') (hl : Cond.methodLink M.2.1.cls i arraycopyName ∈ mw) (hna : Cond.native arraycopyName ∈ mw) (hs : Cond.static arraycopyName ∈ mw) (hi : Cond.initialized "java/lang/System" ∈ mw) (hh0 : h b0 = .inl (0, n0, f)) (hh : h b = .inl (0, n1, g)) (hn0 : b0 < a.1) (hn : b < a.1) (h4 : sp + n ≤ n0) (h5 : dp + n ≤ n1) (hm0 : n0 < 2 ^ 31) (hm1 : n1 < 2 ^ 31) (hfr : 1 ≤ M.1.frames) (hlo : (st.map fun v => v.category).sum + (nativeFrameWords "java/lang/System" "arraycopy" 5 + 11) ≤ M.1.locals)
    (kk : mG E M K pc' L st a (mU h b (.inl (0, n1, va_cpy f g sp dp n)))) : mG E M K pc L (.int (nI n) :: .int (nI dp) :: .ref b :: .int (nI sp) :: .ref b0 :: st) a h := by
  obtain ⟨hd, rfl⟩ := hd
  intro p e s m args below meth c H locs ls C R S V
  obtain ⟨hx, hb, hml, hr, hlk, hown, hnm, hts, hK, hT, hB⟩ := id C
  have e1 : ((st.map (mrv E)).map fun v => v.category) = st.map fun v => v.category := by rw [List.map_map]; exact List.map_congr_left (fun v _ => mrv_cat E v)
  have c1 : (nI sp).toNatClampNeg = sp := nI_clamp (by omega)
  have c2 : (nI dp).toNatClampNeg = dp := nI_clamp (by omega)
  have c3 : (nI n).toNatClampNeg = n := nI_clamp (by omega)
  show W _ _ _ _ _ _ _ _ _ _ _ _ _ _ _ (F0 m pc ls (.int (nI n) :: .int (nI dp) :: .ref (mra E b) :: .int (nI sp) :: .ref (mra E b0) :: st.map (mrv E)))
  rw [mra_lt (Nat.lt_of_lt_of_le hn R.2.1), mra_lt (Nat.lt_of_lt_of_le hn0 R.2.1)]
  refine va_copyi hx hb (by rw [hml]; exact V.1.symm) hown (hts _ hl) (hts _ hna) (hts _ hs) (hts _ hi) hK.1 R.2.2 (mWs_D E a.1 h) S b0 b 0 0 (mWs_get hn0 hh0) (mWs_get hn hh) (ty := .int) rfl rfl rfl (nI_pos (by omega)) (nI_pos (by omega)) (nI_pos (by omega)) (by rw [c1, c3]; exact h4) (by rw [c2, c3]; exact h5) (fun _ _ => rfl) hfr (by rw [e1]; exact hlo) hd (fun H1 locs1 hP hD hS => ?_)
  rw [c1, c2, c3] at hP
  exact kk p e s m args below meth c H1 locs1 ls C ⟨R.1, R.2.1, by rw [← mWs_set]; exact hP⟩ hS V
end MM
