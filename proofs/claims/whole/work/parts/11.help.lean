/-- an array of naturals -/
abbrev mAr (n : Nat) (g : Nat → Nat) : mC := .inl (0, n, fun j => nI (g j))
/-- an object -/
abbrev mOb (ci : Nat) (fs : List Value) : mC := .inr (.inr (ci, fs))
/-- a number, a reference -/
abbrev vN (x : Nat) : Value := .int (nI x)
abbrev vB (x : Bool) : Value := .int (mb x)
def mUp (g : Nat → Nat) (i v : Nat) : Nat → Nat := fun j => if j = i then v else g j
theorem mUp_nI (g : Nat → Nat) (i v : Nat) : upd (fun j => nI (g j)) i (nI v) = fun j => nI (mUp g i v j) := by
  funext j
  unfold upd mUp
  by_cases e : j = i <;> simp [e]
theorem mUp_eq (g : Nat → Nat) (i v : Nat) : mUp g i v i = v := if_pos rfl
theorem mUp_ne (g : Nat → Nat) {i j : Nat} (v : Nat) (h : j ≠ i) : mUp g i v j = g j := if_neg h
def mX (v : Option Value) (h1 : mH) : Option Value → mH → Prop := fun r h' => r = v ∧ h' = h1
theorem mX_rf {v : Option Value} {h1 : mH} : mX v h1 v h1 := ⟨rfl, rfl⟩
theorem mX_of {v v' : Option Value} {h1 h' : mH} (e : v' = v) (e2 : h' = h1) : mX v h1 v' h' := ⟨e, e2⟩
section MH
variable {E : mE} {M : mM} {K : mKt} {pc pc' : Nat} {L L' : List (Option Value)} {st : List Value} {h h' : mH}
theorem mG_heap {a : Nat × Nat × Nat} (e : h = h') (k : mG E M K pc L st a h') : mG E M K pc L st a h := e ▸ k
theorem mG_top {a : Nat × Nat × Nat} {x y : Int32} (e : x = y) (k : mG E M K pc L (.int y :: st) a h) : mG E M K pc L (.int x :: st) a h := e ▸ k
theorem mG_topN {a : Nat × Nat × Nat} {x y : Nat} (e : x = y) (k : mG E M K pc L (.int (nI y) :: st) a h) : mG E M K pc L (.int (nI x) :: st) a h := e ▸ k
theorem mG_locs {a : Nat × Nat × Nat} (e : L = L') (k : mG E M K pc L' st a h) : mG E M K pc L st a h := e ▸ k
theorem mG_ialdA {a : Nat × Nat × Nat} {b n i : Nat} {g : Nat → Nat} (hd : mD M.2.2.1 pc .iaload 1 pc') (hh : h b = mAr n g) (hn : b < a.1) (hm : n < 2 ^ 31) (hi : i < n) (kk : mG E M K pc' L (.int (nI (g i)) :: st) a h) : mG E M K pc L (.int (nI i) :: .ref b :: st) a h := mG_ialdN hd hh hn hm hi kk
theorem mG_iastA {a : Nat × Nat × Nat} {b n i x : Nat} {g : Nat → Nat} (hd : mD M.2.2.1 pc .iastore 1 pc') (hh : h b = mAr n g) (hn : b < a.1) (hm : n < 2 ^ 31) (hi : i < n) (kk : mG E M K pc' L st a (mU h b (mAr n (mUp g i x)))) : mG E M K pc L (.int (nI x) :: .int (nI i) :: .ref b :: st) a h := mG_iastN hd hh hn hm hi (by rw [mUp_nI]; exact kk)
theorem mOk_w {d : Nat} {Y : mY} {av : List Value} {Q : Option Value → mH → Prop} (hp : plainName Y.1.cls = true) (hc : (av.all fun v => v.category == 1) = true) (hl : av.length ≤ Y.2.2.1) (hL : av.map some ++ List.replicate (Y.2.2.1 - av.length) none = L) (k : mG E (mR d, Y) (mKq E (mR d) mN Q) 0 L [] (mN, 0, 0) h) : mOk E d Y av h Q := by
  subst hL
  refine mOkR_of hp (fun v hv => ?_) hl k
  have := List.all_eq_true.mp hc v hv
  simpa using this
theorem mOk_imp {d : Nat} {Y : mY} {av : List Value} {Q Q' : Option Value → mH → Prop} (k : mOk E d Y av h Q) (hq : ∀ r h', Q r h' → Q' r h') : mOk E d Y av h Q' := by
  intro p e ha hc hk s m args below hf hs hP hK
  obtain ⟨n, o, h1, h2, h3, ⟨⟨⟨r, h', e1, q1, e2⟩, hF⟩, hL⟩⟩ := k p e ha hc hk s m args below hf hs hP hK
  exact ⟨n, o, h1, h2, h3, ⟨⟨⟨r, h', e1, hq r h' q1, e2⟩, hF⟩, hL⟩⟩
theorem mG_cv0 {d : Nat} {Y : mY} {i ci b : Nat} {fs : List Value}  {v : Value} {h1 : mH} (hc : mCv M.2.1.cls i Y 0 ci) (hd : mD M.2.2.1 pc (.invokevirtual i) 3 pc') (hR : mLe (mR d) Y.2.2.1 M.1) (hcat : (st.map fun v => v.category).sum ≤ 8) (hh : h b = mOb ci fs) (hn : b < mN) (hM : mOk E d Y (.ref b :: []) h (mX (some v) h1)) (k : mG E M K pc' L (v :: st) (mN, 0, 0) h1) : mG E M K pc L (.ref b :: st) (mN, 0, 0) h :=
  mG_callV (av := []) hc hd hR hcat ⟨Nat.zero_le _, Nat.zero_le _⟩ hh hn rfl rfl (fun _ => by decide) hM (fun r h' q => by obtain ⟨rfl, rfl⟩ := q; exact k)
theorem mG_cw0 {d : Nat} {Y : mY} {i ci b : Nat} {fs : List Value}  {h1 : mH} (hc : mCv M.2.1.cls i Y 0 ci) (hd : mD M.2.2.1 pc (.invokevirtual i) 3 pc') (hR : mLe (mR d) Y.2.2.1 M.1) (hcat : (st.map fun v => v.category).sum ≤ 8) (hh : h b = mOb ci fs) (hn : b < mN) (hM : mOk E d Y (.ref b :: []) h (mX none h1)) (k : mG E M K pc' L st (mN, 0, 0) h1) : mG E M K pc L (.ref b :: st) (mN, 0, 0) h :=
  mG_callV (av := []) hc hd hR hcat ⟨Nat.zero_le _, Nat.zero_le _⟩ hh hn rfl rfl (fun _ => by decide) hM (fun r h' q => by obtain ⟨rfl, rfl⟩ := q; exact k)
theorem mG_cq0 {d : Nat} {Y : mY} {i ci b : Nat} {fs : List Value}  {Q' : Option Value → mH → Prop} (hc : mCv M.2.1.cls i Y 0 ci) (hd : mD M.2.2.1 pc (.invokevirtual i) 3 pc') (hR : mLe (mR d) Y.2.2.1 M.1) (hcat : (st.map fun v => v.category).sum ≤ 8) (hh : h b = mOb ci fs) (hn : b < mN) (hM : mOk E d Y (.ref b :: []) h Q') (k : ∀ r h', Q' r h' → mG E M K pc' L (r.toList ++ st) (mN, 0, 0) h') : mG E M K pc L (.ref b :: st) (mN, 0, 0) h :=
  mG_callV (av := []) hc hd hR hcat ⟨Nat.zero_le _, Nat.zero_le _⟩ hh hn rfl rfl (fun _ => by decide) hM (fun r h' q => k r h' q)
theorem mG_cs0 {d : Nat} {Y : mY} {i : Nat}  {v : Value} {h1 : mH} (hc : mCs M.2.1.cls i Y 0) (hd : mD M.2.2.1 pc (.invokestatic i) 3 pc') (hR : mLe (mR d) Y.2.2.1 M.1) (hcat : (st.map fun v => v.category).sum ≤ 8) (hM : mOk E d Y [] h (mX (some v) h1)) (k : mG E M K pc' L (v :: st) (mN, 0, 0) h1) : mG E M K pc L (st) (mN, 0, 0) h :=
  mG_callS (av := []) hc hd hR hcat ⟨Nat.zero_le _, Nat.zero_le _⟩ rfl rfl (by decide) (fun _ => by decide) hM (fun r h' q => by obtain ⟨rfl, rfl⟩ := q; exact k)
theorem mG_ct0 {d : Nat} {Y : mY} {i : Nat}  {h1 : mH} (hc : mCs M.2.1.cls i Y 0) (hd : mD M.2.2.1 pc (.invokestatic i) 3 pc') (hR : mLe (mR d) Y.2.2.1 M.1) (hcat : (st.map fun v => v.category).sum ≤ 8) (hM : mOk E d Y [] h (mX none h1)) (k : mG E M K pc' L st (mN, 0, 0) h1) : mG E M K pc L (st) (mN, 0, 0) h :=
  mG_callS (av := []) hc hd hR hcat ⟨Nat.zero_le _, Nat.zero_le _⟩ rfl rfl (by decide) (fun _ => by decide) hM (fun r h' q => by obtain ⟨rfl, rfl⟩ := q; exact k)
theorem mG_cv1 {d : Nat} {Y : mY} {i ci b : Nat} {fs : List Value} {x1 : Value} {v : Value} {h1 : mH} (hc : mCv M.2.1.cls i Y 1 ci) (hd : mD M.2.2.1 pc (.invokevirtual i) 3 pc') (hR : mLe (mR d) Y.2.2.1 M.1) (hcat : (st.map fun v => v.category).sum ≤ 8) (hh : h b = mOb ci fs) (hn : b < mN) (hM : mOk E d Y (.ref b :: [x1]) h (mX (some v) h1)) (k : mG E M K pc' L (v :: st) (mN, 0, 0) h1) : mG E M K pc L (x1 :: .ref b :: st) (mN, 0, 0) h :=
  mG_callV (av := [x1]) hc hd hR hcat ⟨Nat.zero_le _, Nat.zero_le _⟩ hh hn rfl rfl (fun _ => by decide) hM (fun r h' q => by obtain ⟨rfl, rfl⟩ := q; exact k)
theorem mG_cw1 {d : Nat} {Y : mY} {i ci b : Nat} {fs : List Value} {x1 : Value} {h1 : mH} (hc : mCv M.2.1.cls i Y 1 ci) (hd : mD M.2.2.1 pc (.invokevirtual i) 3 pc') (hR : mLe (mR d) Y.2.2.1 M.1) (hcat : (st.map fun v => v.category).sum ≤ 8) (hh : h b = mOb ci fs) (hn : b < mN) (hM : mOk E d Y (.ref b :: [x1]) h (mX none h1)) (k : mG E M K pc' L st (mN, 0, 0) h1) : mG E M K pc L (x1 :: .ref b :: st) (mN, 0, 0) h :=
  mG_callV (av := [x1]) hc hd hR hcat ⟨Nat.zero_le _, Nat.zero_le _⟩ hh hn rfl rfl (fun _ => by decide) hM (fun r h' q => by obtain ⟨rfl, rfl⟩ := q; exact k)
theorem mG_cq1 {d : Nat} {Y : mY} {i ci b : Nat} {fs : List Value} {x1 : Value} {Q' : Option Value → mH → Prop} (hc : mCv M.2.1.cls i Y 1 ci) (hd : mD M.2.2.1 pc (.invokevirtual i) 3 pc') (hR : mLe (mR d) Y.2.2.1 M.1) (hcat : (st.map fun v => v.category).sum ≤ 8) (hh : h b = mOb ci fs) (hn : b < mN) (hM : mOk E d Y (.ref b :: [x1]) h Q') (k : ∀ r h', Q' r h' → mG E M K pc' L (r.toList ++ st) (mN, 0, 0) h') : mG E M K pc L (x1 :: .ref b :: st) (mN, 0, 0) h :=
  mG_callV (av := [x1]) hc hd hR hcat ⟨Nat.zero_le _, Nat.zero_le _⟩ hh hn rfl rfl (fun _ => by decide) hM (fun r h' q => k r h' q)
theorem mG_cs1 {d : Nat} {Y : mY} {i : Nat} {x1 : Value} {v : Value} {h1 : mH} (hc : mCs M.2.1.cls i Y 1) (hd : mD M.2.2.1 pc (.invokestatic i) 3 pc') (hR : mLe (mR d) Y.2.2.1 M.1) (hcat : (st.map fun v => v.category).sum ≤ 8) (hM : mOk E d Y [x1] h (mX (some v) h1)) (k : mG E M K pc' L (v :: st) (mN, 0, 0) h1) : mG E M K pc L (x1 :: st) (mN, 0, 0) h :=
  mG_callS (av := [x1]) hc hd hR hcat ⟨Nat.zero_le _, Nat.zero_le _⟩ rfl rfl (by decide) (fun _ => by decide) hM (fun r h' q => by obtain ⟨rfl, rfl⟩ := q; exact k)
theorem mG_ct1 {d : Nat} {Y : mY} {i : Nat} {x1 : Value} {h1 : mH} (hc : mCs M.2.1.cls i Y 1) (hd : mD M.2.2.1 pc (.invokestatic i) 3 pc') (hR : mLe (mR d) Y.2.2.1 M.1) (hcat : (st.map fun v => v.category).sum ≤ 8) (hM : mOk E d Y [x1] h (mX none h1)) (k : mG E M K pc' L st (mN, 0, 0) h1) : mG E M K pc L (x1 :: st) (mN, 0, 0) h :=
  mG_callS (av := [x1]) hc hd hR hcat ⟨Nat.zero_le _, Nat.zero_le _⟩ rfl rfl (by decide) (fun _ => by decide) hM (fun r h' q => by obtain ⟨rfl, rfl⟩ := q; exact k)
theorem mG_cv2 {d : Nat} {Y : mY} {i ci b : Nat} {fs : List Value} {x1 x2 : Value} {v : Value} {h1 : mH} (hc : mCv M.2.1.cls i Y 2 ci) (hd : mD M.2.2.1 pc (.invokevirtual i) 3 pc') (hR : mLe (mR d) Y.2.2.1 M.1) (hcat : (st.map fun v => v.category).sum ≤ 8) (hh : h b = mOb ci fs) (hn : b < mN) (hM : mOk E d Y (.ref b :: [x1, x2]) h (mX (some v) h1)) (k : mG E M K pc' L (v :: st) (mN, 0, 0) h1) : mG E M K pc L (x2 :: x1 :: .ref b :: st) (mN, 0, 0) h :=
  mG_callV (av := [x1, x2]) hc hd hR hcat ⟨Nat.zero_le _, Nat.zero_le _⟩ hh hn rfl rfl (fun _ => by decide) hM (fun r h' q => by obtain ⟨rfl, rfl⟩ := q; exact k)
theorem mG_cw2 {d : Nat} {Y : mY} {i ci b : Nat} {fs : List Value} {x1 x2 : Value} {h1 : mH} (hc : mCv M.2.1.cls i Y 2 ci) (hd : mD M.2.2.1 pc (.invokevirtual i) 3 pc') (hR : mLe (mR d) Y.2.2.1 M.1) (hcat : (st.map fun v => v.category).sum ≤ 8) (hh : h b = mOb ci fs) (hn : b < mN) (hM : mOk E d Y (.ref b :: [x1, x2]) h (mX none h1)) (k : mG E M K pc' L st (mN, 0, 0) h1) : mG E M K pc L (x2 :: x1 :: .ref b :: st) (mN, 0, 0) h :=
  mG_callV (av := [x1, x2]) hc hd hR hcat ⟨Nat.zero_le _, Nat.zero_le _⟩ hh hn rfl rfl (fun _ => by decide) hM (fun r h' q => by obtain ⟨rfl, rfl⟩ := q; exact k)
theorem mG_cq2 {d : Nat} {Y : mY} {i ci b : Nat} {fs : List Value} {x1 x2 : Value} {Q' : Option Value → mH → Prop} (hc : mCv M.2.1.cls i Y 2 ci) (hd : mD M.2.2.1 pc (.invokevirtual i) 3 pc') (hR : mLe (mR d) Y.2.2.1 M.1) (hcat : (st.map fun v => v.category).sum ≤ 8) (hh : h b = mOb ci fs) (hn : b < mN) (hM : mOk E d Y (.ref b :: [x1, x2]) h Q') (k : ∀ r h', Q' r h' → mG E M K pc' L (r.toList ++ st) (mN, 0, 0) h') : mG E M K pc L (x2 :: x1 :: .ref b :: st) (mN, 0, 0) h :=
  mG_callV (av := [x1, x2]) hc hd hR hcat ⟨Nat.zero_le _, Nat.zero_le _⟩ hh hn rfl rfl (fun _ => by decide) hM (fun r h' q => k r h' q)
theorem mG_cs2 {d : Nat} {Y : mY} {i : Nat} {x1 x2 : Value} {v : Value} {h1 : mH} (hc : mCs M.2.1.cls i Y 2) (hd : mD M.2.2.1 pc (.invokestatic i) 3 pc') (hR : mLe (mR d) Y.2.2.1 M.1) (hcat : (st.map fun v => v.category).sum ≤ 8) (hM : mOk E d Y [x1, x2] h (mX (some v) h1)) (k : mG E M K pc' L (v :: st) (mN, 0, 0) h1) : mG E M K pc L (x2 :: x1 :: st) (mN, 0, 0) h :=
  mG_callS (av := [x1, x2]) hc hd hR hcat ⟨Nat.zero_le _, Nat.zero_le _⟩ rfl rfl (by decide) (fun _ => by decide) hM (fun r h' q => by obtain ⟨rfl, rfl⟩ := q; exact k)
theorem mG_ct2 {d : Nat} {Y : mY} {i : Nat} {x1 x2 : Value} {h1 : mH} (hc : mCs M.2.1.cls i Y 2) (hd : mD M.2.2.1 pc (.invokestatic i) 3 pc') (hR : mLe (mR d) Y.2.2.1 M.1) (hcat : (st.map fun v => v.category).sum ≤ 8) (hM : mOk E d Y [x1, x2] h (mX none h1)) (k : mG E M K pc' L st (mN, 0, 0) h1) : mG E M K pc L (x2 :: x1 :: st) (mN, 0, 0) h :=
  mG_callS (av := [x1, x2]) hc hd hR hcat ⟨Nat.zero_le _, Nat.zero_le _⟩ rfl rfl (by decide) (fun _ => by decide) hM (fun r h' q => by obtain ⟨rfl, rfl⟩ := q; exact k)
theorem mG_cv3 {d : Nat} {Y : mY} {i ci b : Nat} {fs : List Value} {x1 x2 x3 : Value} {v : Value} {h1 : mH} (hc : mCv M.2.1.cls i Y 3 ci) (hd : mD M.2.2.1 pc (.invokevirtual i) 3 pc') (hR : mLe (mR d) Y.2.2.1 M.1) (hcat : (st.map fun v => v.category).sum ≤ 8) (hh : h b = mOb ci fs) (hn : b < mN) (hM : mOk E d Y (.ref b :: [x1, x2, x3]) h (mX (some v) h1)) (k : mG E M K pc' L (v :: st) (mN, 0, 0) h1) : mG E M K pc L (x3 :: x2 :: x1 :: .ref b :: st) (mN, 0, 0) h :=
  mG_callV (av := [x1, x2, x3]) hc hd hR hcat ⟨Nat.zero_le _, Nat.zero_le _⟩ hh hn rfl rfl (fun _ => by decide) hM (fun r h' q => by obtain ⟨rfl, rfl⟩ := q; exact k)
theorem mG_cw3 {d : Nat} {Y : mY} {i ci b : Nat} {fs : List Value} {x1 x2 x3 : Value} {h1 : mH} (hc : mCv M.2.1.cls i Y 3 ci) (hd : mD M.2.2.1 pc (.invokevirtual i) 3 pc') (hR : mLe (mR d) Y.2.2.1 M.1) (hcat : (st.map fun v => v.category).sum ≤ 8) (hh : h b = mOb ci fs) (hn : b < mN) (hM : mOk E d Y (.ref b :: [x1, x2, x3]) h (mX none h1)) (k : mG E M K pc' L st (mN, 0, 0) h1) : mG E M K pc L (x3 :: x2 :: x1 :: .ref b :: st) (mN, 0, 0) h :=
  mG_callV (av := [x1, x2, x3]) hc hd hR hcat ⟨Nat.zero_le _, Nat.zero_le _⟩ hh hn rfl rfl (fun _ => by decide) hM (fun r h' q => by obtain ⟨rfl, rfl⟩ := q; exact k)
theorem mG_cq3 {d : Nat} {Y : mY} {i ci b : Nat} {fs : List Value} {x1 x2 x3 : Value} {Q' : Option Value → mH → Prop} (hc : mCv M.2.1.cls i Y 3 ci) (hd : mD M.2.2.1 pc (.invokevirtual i) 3 pc') (hR : mLe (mR d) Y.2.2.1 M.1) (hcat : (st.map fun v => v.category).sum ≤ 8) (hh : h b = mOb ci fs) (hn : b < mN) (hM : mOk E d Y (.ref b :: [x1, x2, x3]) h Q') (k : ∀ r h', Q' r h' → mG E M K pc' L (r.toList ++ st) (mN, 0, 0) h') : mG E M K pc L (x3 :: x2 :: x1 :: .ref b :: st) (mN, 0, 0) h :=
  mG_callV (av := [x1, x2, x3]) hc hd hR hcat ⟨Nat.zero_le _, Nat.zero_le _⟩ hh hn rfl rfl (fun _ => by decide) hM (fun r h' q => k r h' q)
theorem mG_cs3 {d : Nat} {Y : mY} {i : Nat} {x1 x2 x3 : Value} {v : Value} {h1 : mH} (hc : mCs M.2.1.cls i Y 3) (hd : mD M.2.2.1 pc (.invokestatic i) 3 pc') (hR : mLe (mR d) Y.2.2.1 M.1) (hcat : (st.map fun v => v.category).sum ≤ 8) (hM : mOk E d Y [x1, x2, x3] h (mX (some v) h1)) (k : mG E M K pc' L (v :: st) (mN, 0, 0) h1) : mG E M K pc L (x3 :: x2 :: x1 :: st) (mN, 0, 0) h :=
  mG_callS (av := [x1, x2, x3]) hc hd hR hcat ⟨Nat.zero_le _, Nat.zero_le _⟩ rfl rfl (by decide) (fun _ => by decide) hM (fun r h' q => by obtain ⟨rfl, rfl⟩ := q; exact k)
theorem mG_ct3 {d : Nat} {Y : mY} {i : Nat} {x1 x2 x3 : Value} {h1 : mH} (hc : mCs M.2.1.cls i Y 3) (hd : mD M.2.2.1 pc (.invokestatic i) 3 pc') (hR : mLe (mR d) Y.2.2.1 M.1) (hcat : (st.map fun v => v.category).sum ≤ 8) (hM : mOk E d Y [x1, x2, x3] h (mX none h1)) (k : mG E M K pc' L st (mN, 0, 0) h1) : mG E M K pc L (x3 :: x2 :: x1 :: st) (mN, 0, 0) h :=
  mG_callS (av := [x1, x2, x3]) hc hd hR hcat ⟨Nat.zero_le _, Nat.zero_le _⟩ rfl rfl (by decide) (fun _ => by decide) hM (fun r h' q => by obtain ⟨rfl, rfl⟩ := q; exact k)
theorem mG_cv4 {d : Nat} {Y : mY} {i ci b : Nat} {fs : List Value} {x1 x2 x3 x4 : Value} {v : Value} {h1 : mH} (hc : mCv M.2.1.cls i Y 4 ci) (hd : mD M.2.2.1 pc (.invokevirtual i) 3 pc') (hR : mLe (mR d) Y.2.2.1 M.1) (hcat : (st.map fun v => v.category).sum ≤ 8) (hh : h b = mOb ci fs) (hn : b < mN) (hM : mOk E d Y (.ref b :: [x1, x2, x3, x4]) h (mX (some v) h1)) (k : mG E M K pc' L (v :: st) (mN, 0, 0) h1) : mG E M K pc L (x4 :: x3 :: x2 :: x1 :: .ref b :: st) (mN, 0, 0) h :=
  mG_callV (av := [x1, x2, x3, x4]) hc hd hR hcat ⟨Nat.zero_le _, Nat.zero_le _⟩ hh hn rfl rfl (fun _ => by decide) hM (fun r h' q => by obtain ⟨rfl, rfl⟩ := q; exact k)
theorem mG_cw4 {d : Nat} {Y : mY} {i ci b : Nat} {fs : List Value} {x1 x2 x3 x4 : Value} {h1 : mH} (hc : mCv M.2.1.cls i Y 4 ci) (hd : mD M.2.2.1 pc (.invokevirtual i) 3 pc') (hR : mLe (mR d) Y.2.2.1 M.1) (hcat : (st.map fun v => v.category).sum ≤ 8) (hh : h b = mOb ci fs) (hn : b < mN) (hM : mOk E d Y (.ref b :: [x1, x2, x3, x4]) h (mX none h1)) (k : mG E M K pc' L st (mN, 0, 0) h1) : mG E M K pc L (x4 :: x3 :: x2 :: x1 :: .ref b :: st) (mN, 0, 0) h :=
  mG_callV (av := [x1, x2, x3, x4]) hc hd hR hcat ⟨Nat.zero_le _, Nat.zero_le _⟩ hh hn rfl rfl (fun _ => by decide) hM (fun r h' q => by obtain ⟨rfl, rfl⟩ := q; exact k)
theorem mG_cq4 {d : Nat} {Y : mY} {i ci b : Nat} {fs : List Value} {x1 x2 x3 x4 : Value} {Q' : Option Value → mH → Prop} (hc : mCv M.2.1.cls i Y 4 ci) (hd : mD M.2.2.1 pc (.invokevirtual i) 3 pc') (hR : mLe (mR d) Y.2.2.1 M.1) (hcat : (st.map fun v => v.category).sum ≤ 8) (hh : h b = mOb ci fs) (hn : b < mN) (hM : mOk E d Y (.ref b :: [x1, x2, x3, x4]) h Q') (k : ∀ r h', Q' r h' → mG E M K pc' L (r.toList ++ st) (mN, 0, 0) h') : mG E M K pc L (x4 :: x3 :: x2 :: x1 :: .ref b :: st) (mN, 0, 0) h :=
  mG_callV (av := [x1, x2, x3, x4]) hc hd hR hcat ⟨Nat.zero_le _, Nat.zero_le _⟩ hh hn rfl rfl (fun _ => by decide) hM (fun r h' q => k r h' q)
theorem mG_cs4 {d : Nat} {Y : mY} {i : Nat} {x1 x2 x3 x4 : Value} {v : Value} {h1 : mH} (hc : mCs M.2.1.cls i Y 4) (hd : mD M.2.2.1 pc (.invokestatic i) 3 pc') (hR : mLe (mR d) Y.2.2.1 M.1) (hcat : (st.map fun v => v.category).sum ≤ 8) (hM : mOk E d Y [x1, x2, x3, x4] h (mX (some v) h1)) (k : mG E M K pc' L (v :: st) (mN, 0, 0) h1) : mG E M K pc L (x4 :: x3 :: x2 :: x1 :: st) (mN, 0, 0) h :=
  mG_callS (av := [x1, x2, x3, x4]) hc hd hR hcat ⟨Nat.zero_le _, Nat.zero_le _⟩ rfl rfl (by decide) (fun _ => by decide) hM (fun r h' q => by obtain ⟨rfl, rfl⟩ := q; exact k)
theorem mG_ct4 {d : Nat} {Y : mY} {i : Nat} {x1 x2 x3 x4 : Value} {h1 : mH} (hc : mCs M.2.1.cls i Y 4) (hd : mD M.2.2.1 pc (.invokestatic i) 3 pc') (hR : mLe (mR d) Y.2.2.1 M.1) (hcat : (st.map fun v => v.category).sum ≤ 8) (hM : mOk E d Y [x1, x2, x3, x4] h (mX none h1)) (k : mG E M K pc' L st (mN, 0, 0) h1) : mG E M K pc L (x4 :: x3 :: x2 :: x1 :: st) (mN, 0, 0) h :=
  mG_callS (av := [x1, x2, x3, x4]) hc hd hR hcat ⟨Nat.zero_le _, Nat.zero_le _⟩ rfl rfl (by decide) (fun _ => by decide) hM (fun r h' q => by obtain ⟨rfl, rfl⟩ := q; exact k)
theorem mG_cv5 {d : Nat} {Y : mY} {i ci b : Nat} {fs : List Value} {x1 x2 x3 x4 x5 : Value} {v : Value} {h1 : mH} (hc : mCv M.2.1.cls i Y 5 ci) (hd : mD M.2.2.1 pc (.invokevirtual i) 3 pc') (hR : mLe (mR d) Y.2.2.1 M.1) (hcat : (st.map fun v => v.category).sum ≤ 8) (hh : h b = mOb ci fs) (hn : b < mN) (hM : mOk E d Y (.ref b :: [x1, x2, x3, x4, x5]) h (mX (some v) h1)) (k : mG E M K pc' L (v :: st) (mN, 0, 0) h1) : mG E M K pc L (x5 :: x4 :: x3 :: x2 :: x1 :: .ref b :: st) (mN, 0, 0) h :=
  mG_callV (av := [x1, x2, x3, x4, x5]) hc hd hR hcat ⟨Nat.zero_le _, Nat.zero_le _⟩ hh hn rfl rfl (fun _ => by decide) hM (fun r h' q => by obtain ⟨rfl, rfl⟩ := q; exact k)
theorem mG_cw5 {d : Nat} {Y : mY} {i ci b : Nat} {fs : List Value} {x1 x2 x3 x4 x5 : Value} {h1 : mH} (hc : mCv M.2.1.cls i Y 5 ci) (hd : mD M.2.2.1 pc (.invokevirtual i) 3 pc') (hR : mLe (mR d) Y.2.2.1 M.1) (hcat : (st.map fun v => v.category).sum ≤ 8) (hh : h b = mOb ci fs) (hn : b < mN) (hM : mOk E d Y (.ref b :: [x1, x2, x3, x4, x5]) h (mX none h1)) (k : mG E M K pc' L st (mN, 0, 0) h1) : mG E M K pc L (x5 :: x4 :: x3 :: x2 :: x1 :: .ref b :: st) (mN, 0, 0) h :=
  mG_callV (av := [x1, x2, x3, x4, x5]) hc hd hR hcat ⟨Nat.zero_le _, Nat.zero_le _⟩ hh hn rfl rfl (fun _ => by decide) hM (fun r h' q => by obtain ⟨rfl, rfl⟩ := q; exact k)
theorem mG_cq5 {d : Nat} {Y : mY} {i ci b : Nat} {fs : List Value} {x1 x2 x3 x4 x5 : Value} {Q' : Option Value → mH → Prop} (hc : mCv M.2.1.cls i Y 5 ci) (hd : mD M.2.2.1 pc (.invokevirtual i) 3 pc') (hR : mLe (mR d) Y.2.2.1 M.1) (hcat : (st.map fun v => v.category).sum ≤ 8) (hh : h b = mOb ci fs) (hn : b < mN) (hM : mOk E d Y (.ref b :: [x1, x2, x3, x4, x5]) h Q') (k : ∀ r h', Q' r h' → mG E M K pc' L (r.toList ++ st) (mN, 0, 0) h') : mG E M K pc L (x5 :: x4 :: x3 :: x2 :: x1 :: .ref b :: st) (mN, 0, 0) h :=
  mG_callV (av := [x1, x2, x3, x4, x5]) hc hd hR hcat ⟨Nat.zero_le _, Nat.zero_le _⟩ hh hn rfl rfl (fun _ => by decide) hM (fun r h' q => k r h' q)
theorem mG_cs5 {d : Nat} {Y : mY} {i : Nat} {x1 x2 x3 x4 x5 : Value} {v : Value} {h1 : mH} (hc : mCs M.2.1.cls i Y 5) (hd : mD M.2.2.1 pc (.invokestatic i) 3 pc') (hR : mLe (mR d) Y.2.2.1 M.1) (hcat : (st.map fun v => v.category).sum ≤ 8) (hM : mOk E d Y [x1, x2, x3, x4, x5] h (mX (some v) h1)) (k : mG E M K pc' L (v :: st) (mN, 0, 0) h1) : mG E M K pc L (x5 :: x4 :: x3 :: x2 :: x1 :: st) (mN, 0, 0) h :=
  mG_callS (av := [x1, x2, x3, x4, x5]) hc hd hR hcat ⟨Nat.zero_le _, Nat.zero_le _⟩ rfl rfl (by decide) (fun _ => by decide) hM (fun r h' q => by obtain ⟨rfl, rfl⟩ := q; exact k)
theorem mG_ct5 {d : Nat} {Y : mY} {i : Nat} {x1 x2 x3 x4 x5 : Value} {h1 : mH} (hc : mCs M.2.1.cls i Y 5) (hd : mD M.2.2.1 pc (.invokestatic i) 3 pc') (hR : mLe (mR d) Y.2.2.1 M.1) (hcat : (st.map fun v => v.category).sum ≤ 8) (hM : mOk E d Y [x1, x2, x3, x4, x5] h (mX none h1)) (k : mG E M K pc' L st (mN, 0, 0) h1) : mG E M K pc L (x5 :: x4 :: x3 :: x2 :: x1 :: st) (mN, 0, 0) h :=
  mG_callS (av := [x1, x2, x3, x4, x5]) hc hd hR hcat ⟨Nat.zero_le _, Nat.zero_le _⟩ rfl rfl (by decide) (fun _ => by decide) hM (fun r h' q => by obtain ⟨rfl, rfl⟩ := q; exact k)
end MH
theorem mLe_of {d d' nL : Nat} (h : ((d' + 1).ble d && (19 + nL + 60 * d').ble (60 * d)) = true) : mLe (mR d') nL (mR d) := by
  simp only [Bool.and_eq_true, Nat.ble_eq] at h
  exact ⟨h.1, by show 8 + (nL + 11) + 60 * d' ≤ 60 * d; omega⟩
theorem pn_X0 : plainName RX0 = true := by decide +kernel
theorem pn_X1 : plainName RX1 = true := by decide +kernel
theorem pn_X2 : plainName RX2 = true := by decide +kernel
theorem pn_X3 : plainName RX3 = true := by decide +kernel
theorem pn_X4 : plainName RX4 = true := by decide +kernel
theorem pn_X5 : plainName RX5 = true := by decide +kernel
theorem pn_X6 : plainName RX6 = true := by decide +kernel
theorem pn_X7 : plainName RX7 = true := by decide +kernel
theorem pn_X8 : plainName RX8 = true := by decide +kernel
theorem pn_J6 : plainName RJ6 = true := by decide +kernel
theorem pn_J7 : plainName RJ7 = true := by decide +kernel
