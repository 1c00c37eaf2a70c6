/-- an array of naturals -/
abbrev mAr (n : Nat) (g : Nat → Nat) : mC := .inl (0, n, fun j => nI (g j))
/-- an object -/
abbrev mOb (ci : Nat) (fs : List Value) : mC := .inr (.inr (ci, fs))
/-- a number, a reference -/
abbrev vN (x : Nat) : Value := .int (nI x)
abbrev vB (x : Bool) : Value := .int (mb x)
def mUp (g : Nat → Nat) (i v : Nat) : Nat → Nat := fun j => if j = i then v else g j
theorem mUp_nI (g : Nat → Nat) (i v : Nat) : upd (fun j => nI (g j)) i (nI v) = fun j => nI (mUp g i v j) := by
  funext j
  unfold upd mUp
  by_cases e : j = i <;> simp [e]
theorem mUp_eq (g : Nat → Nat) (i v : Nat) : mUp g i v i = v := if_pos rfl
theorem mUp_ne (g : Nat → Nat) {i j : Nat} (v : Nat) (h : j ≠ i) : mUp g i v j = g j := if_neg h
def mX (v : Option Value) (h1 : mH) : Option Value → mH → Prop := fun r h' => r = v ∧ h' = h1
theorem mX_rf {v : Option Value} {h1 : mH} : mX v h1 v h1 := ⟨rfl, rfl⟩
theorem mX_of {v v' : Option Value} {h1 h' : mH} (e : v' = v) (e2 : h' = h1) : mX v h1 v' h' := ⟨e, e2⟩
section MH
variable {E : mE} {M : mM} {K : mKt} {pc pc' : Nat} {L L' : List (Option Value)} {st : List Value} {h h' : mH}
theorem mG_heap {a : Nat × Nat × Nat} (e : h = h') (k : mG E M K pc L st a h') : mG E M K pc L st a h := e ▸ k
theorem mG_top {a : Nat × Nat × Nat} {x y : Int32} (e : x = y) (k : mG E M K pc L (.int y :: st) a h) : mG E M K pc L (.int x :: st) a h := e ▸ k
theorem mG_topN {a : Nat × Nat × Nat} {x y : Nat} (e : x = y) (k : mG E M K pc L (.int (nI y) :: st) a h) : mG E M K pc L (.int (nI x) :: st) a h := e ▸ k
theorem mG_locs {a : Nat × Nat × Nat} (e : L = L') (k : mG E M K pc L' st a h) : mG E M K pc L st a h := e ▸ k
theorem mG_ialdA {a : Nat × Nat × Nat} {b n i : Nat} {g : Nat → Nat} (hd : mD M.2.2.1 pc .iaload 1 pc') (hh : h b = mAr n g) (hn : b < a.1) (hm : n < 2 ^ 31) (hi : i < n) (kk : mG E M K pc' L (.int (nI (g i)) :: st) a h) : mG E M K pc L (.int (nI i) :: .ref b :: st) a h := mG_ialdN hd hh hn hm hi kk
theorem mG_iastA {a : Nat × Nat × Nat} {b n i x : Nat} {g : Nat → Nat} (hd : mD M.2.2.1 pc .iastore 1 pc') (hh : h b = mAr n g) (hn : b < a.1) (hm : n < 2 ^ 31) (hi : i < n) (kk : mG E M K pc' L st a (mU h b (mAr n (mUp g i x)))) : mG E M K pc L (.int (nI x) :: .int (nI i) :: .ref b :: st) a h := mG_iastN hd hh hn hm hi (by rw [mUp_nI]; exact kk)
theorem mOk_w {d : Nat} {Y : mY} {av : List Value} {Q : Option Value → mH → Prop} (hp : plainName Y.1.cls = true) (hc : (av.all fun v => v.category == 1) = true) (hl : av.length ≤ Y.2.2.1) (hL : av.map some ++ List.replicate (Y.2.2.1 - av.length) none = L) (k : mG E (mR d, Y) (mKq E (mR d) mN Q) 0 L [] (mN, 0, 0) h) : mOk E d Y av h Q := by
  subst hL
  refine mOkR_of hp (fun v hv => ?_) hl k
  have := List.all_eq_true.mp hc v hv
  simpa using this
theorem mOk_imp {d : Nat} {Y : mY} {av : List Value} {Q Q' : Option Value → mH → Prop} (k : mOk E d Y av h Q) (hq : ∀ r h', Q r h' → Q' r h') : mOk E d Y av h Q' := by
  intro p e ha hc hk s m args below hf hs hP hK
  obtain ⟨n, o, h1, h2, h3, ⟨⟨⟨r, h', e1, q1, e2⟩, hF⟩, hL⟩⟩ := k p e ha hc hk s m args below hf hs hP hK
  exact ⟨n, o, h1, h2, h3, ⟨⟨⟨r, h', e1, hq r h' q1, e2⟩, hF⟩, hL⟩⟩
theorem mG_cv0 {d : Nat} {Y : mY} {i ci b : Nat} {fs : List Value}  {v : Value} {h1 : mH} (hc : mCv M.2.1.cls i Y 0 ci) (hd : mD M.2.2.1 pc (.invokevirtual i) 3 pc') (hR : mLe (mR d) Y.2.2.1 M.1) (hcat : (st.map fun v => v.category).sum ≤ 8) (hh : h b = mOb ci fs) (hn : b < mN) (hM : mOk E d Y (.ref b :: []) h (mX (some v) h1)) (k : mG E M K pc' L (v :: st) (mN, 0, 0) h1) : mG E M K pc L (.ref b :: st) (mN, 0, 0) h :=
  mG_callV (av := []) hc hd hR hcat ⟨Nat.zero_le _, Nat.zero_le _⟩ hh hn rfl rfl (fun _ => by decide) hM (fun r h' q => by obtain ⟨rfl, rfl⟩ := q; exact k)
theorem mG_cw0 {d : Nat} {Y : mY} {i ci b : Nat} {fs : List Value}  {h1 : mH} (hc : mCv M.2.1.cls i Y 0 ci) (hd : mD M.2.2.1 pc (.invokevirtual i) 3 pc') (hR : mLe (mR d) Y.2.2.1 M.1) (hcat : (st.map fun v => v.category).sum ≤ 8) (hh : h b = mOb ci fs) (hn : b < mN) (hM : mOk E d Y (.ref b :: []) h (mX none h1)) (k : mG E M K pc' L st (mN, 0, 0) h1) : mG E M K pc L (.ref b :: st) (mN, 0, 0) h :=
  mG_callV (av := []) hc hd hR hcat ⟨Nat.zero_le _, Nat.zero_le _⟩ hh hn rfl rfl (fun _ => by decide) hM (fun r h' q => by obtain ⟨rfl, rfl⟩ := q; exact k)
theorem mG_cq0 {d : Nat} {Y : mY} {i ci b : Nat} {fs : List Value}  {Q' : Option Value → mH → Prop} (hc : mCv M.2.1.cls i Y 0 ci) (hd : mD M.2.2.1 pc (.invokevirtual i) 3 pc') (hR : mLe (mR d) Y.2.2.1 M.1) (hcat : (st.map fun v => v.category).sum ≤ 8) (hh : h b = mOb ci fs) (hn : b < mN) (hM : mOk E d Y (.ref b :: []) h Q') (k : ∀ r h', Q' r h' → mG E M K pc' L (r.toList ++ st) (mN, 0, 0) h') : mG E M K pc L (.ref b :: st) (mN, 0, 0) h :=
  mG_callV (av := []) hc hd hR hcat ⟨Nat.zero_le _, Nat.zero_le _⟩ hh hn rfl rfl (fun _ => by decide) hM (fun r h' q => k r h' q)
theorem mG_cs0 {d : Nat} {Y : mY} {i : Nat}  {v : Value} {h1 : mH} (hc : mCs M.2.1.cls i Y 0) (hd : mD M.2.2.1 pc (.invokestatic i) 3 pc') (hR : mLe (mR d) Y.2.2.1 M.1) (hcat : (st.map fun v => v.category).sum ≤ 8) (hM : mOk E d Y [] h (mX (some v) h1)) (k : mG E M K pc' L (v :: st) (mN, 0, 0) h1) : mG E M K pc L (st) (mN, 0, 0) h :=
  mG_callS (av := []) hc hd hR hcat ⟨Nat.zero_le _, Nat.zero_le _⟩ rfl rfl (by decide) (fun _ => by decide) hM (fun r h' q => by obtain ⟨rfl, rfl⟩ := q; exact k)
theorem mG_ct0 {d : Nat} {Y : mY} {i : Nat}  {h1 : mH} (hc : mCs M.2.1.cls i Y 0) (hd : mD M.2.2.1 pc (.invokestatic i) 3 pc') (hR : mLe (mR d) Y.2.2.1 M.1) (hcat : (st.map fun v => v.category).sum ≤ 8) (hM : mOk E d Y [] h (mX none h1)) (k : mG E M K pc' L st (mN, 0, 0) h1) : mG E M K pc L (st) (mN, 0, 0) h :=
  mG_callS (av := []) hc hd hR hcat ⟨Nat.zero_le _, Nat.zero_le _⟩ rfl rfl (by decide) (fun _ => by decide) hM (fun r h' q => by obtain ⟨rfl, rfl⟩ := q; exact k)
theorem mG_cv1 {d : Nat} {Y : mY} {i ci b : Nat} {fs : List Value} {x1 : Value} {v : Value} {h1 : mH} (hc : mCv M.2.1.cls i Y 1 ci) (hd : mD M.2.2.1 pc (.invokevirtual i) 3 pc') (hR : mLe (mR d) Y.2.2.1 M.1) (hcat : (st.map fun v => v.category).sum ≤ 8) (hh : h b = mOb ci fs) (hn : b < mN) (hM : mOk E d Y (.ref b :: [x1]) h (mX (some v) h1)) (k : mG E M K pc' L (v :: st) (mN, 0, 0) h1) : mG E M K pc L (x1 :: .ref b :: st) (mN, 0, 0) h :=
  mG_callV (av := [x1]) hc hd hR hcat ⟨Nat.zero_le _, Nat.zero_le _⟩ hh hn rfl rfl (fun _ => by decide) hM (fun r h' q => by obtain ⟨rfl, rfl⟩ := q; exact k)
theorem mG_cw1 {d : Nat} {Y : mY} {i ci b : Nat} {fs : List Value} {x1 : Value} {h1 : mH} (hc : mCv M.2.1.cls i Y 1 ci) (hd : mD M.2.2.1 pc (.invokevirtual i) 3 pc') (hR : mLe (mR d) Y.2.2.1 M.1) (hcat : (st.map fun v => v.category).sum ≤ 8) (hh : h b = mOb ci fs) (hn : b < mN) (hM : mOk E d Y (.ref b :: [x1]) h (mX none h1)) (k : mG E M K pc' L st (mN, 0, 0) h1) : mG E M K pc L (x1 :: .ref b :: st) (mN, 0, 0) h :=
  mG_callV (av := [x1]) hc hd hR hcat ⟨Nat.zero_le _, Nat.zero_le _⟩ hh hn rfl rfl (fun _ => by decide) hM (fun r h' q => by obtain ⟨rfl, rfl⟩ := q; exact k)
theorem mG_cq1 {d : Nat} {Y : mY} {i ci b : Nat} {fs : List Value} {x1 : Value} {Q' : Option Value → mH → Prop} (hc : mCv M.2.1.cls i Y 1 ci) (hd : mD M.2.2.1 pc (.invokevirtual i) 3 pc') (hR : mLe (mR d) Y.2.2.1 M.1) (hcat : (st.map fun v => v.category).sum ≤ 8) (hh : h b = mOb ci fs) (hn : b < mN) (hM : mOk E d Y (.ref b :: [x1]) h Q') (k : ∀ r h', Q' r h' → mG E M K pc' L (r.toList ++ st) (mN, 0, 0) h') : mG E M K pc L (x1 :: .ref b :: st) (mN, 0, 0) h :=
  mG_callV (av := [x1]) hc hd hR hcat ⟨Nat.zero_le _, Nat.zero_le _⟩ hh hn rfl rfl (fun _ => by decide) hM (fun r h' q => k r h' q)
theorem mG_cs1 {d : Nat} {Y : mY} {i : Nat} {x1 : Value} {v : Value} {h1 : mH} (hc : mCs M.2.1.cls i Y 1) (hd : mD M.2.2.1 pc (.invokestatic i) 3 pc') (hR : mLe (mR d) Y.2.2.1 M.1) (hcat : (st.map fun v => v.category).sum ≤ 8) (hM : mOk E d Y [x1] h (mX (some v) h1)) (k : mG E M K pc' L (v :: st) (mN, 0, 0) h1) : mG E M K pc L (x1 :: st) (mN, 0, 0) h :=
  mG_callS (av := [x1]) hc hd hR hcat ⟨Nat.zero_le _, Nat.zero_le _⟩ rfl rfl (by decide) (fun _ => by decide) hM (fun r h' q => by obtain ⟨rfl, rfl⟩ := q; exact k)
theorem mG_ct1 {d : Nat} {Y : mY} {i : Nat} {x1 : Value} {h1 : mH} (hc : mCs M.2.1.cls i Y 1) (hd : mD M.2.2.1 pc (.invokestatic i) 3 pc') (hR : mLe (mR d) Y.2.2.1 M.1) (hcat : (st.map fun v => v.category).sum ≤ 8) (hM : mOk E d Y [x1] h (mX none h1)) (k : mG E M K pc' L st (mN, 0, 0) h1) : mG E M K pc L (x1 :: st) (mN, 0, 0) h :=
  mG_callS (av := [x1]) hc hd hR hcat ⟨Nat.zero_le _, Nat.zero_le _⟩ rfl rfl (by decide) (fun _ => by decide) hM (fun r h' q => by obtain ⟨rfl, rfl⟩ := q; exact k)
theorem mG_cv2 {d : Nat} {Y : mY} {i ci b : Nat} {fs : List Value} {x1 x2 : Value} {v : Value} {h1 : mH} (hc : mCv M.2.1.cls i Y 2 ci) (hd : mD M.2.2.1 pc (.invokevirtual i) 3 pc') (hR : mLe (mR d) Y.2.2.1 M.1) (hcat : (st.map fun v => v.category).sum ≤ 8) (hh : h b = mOb ci fs) (hn : b < mN) (hM : mOk E d Y (.ref b :: [x1, x2]) h (mX (some v) h1)) (k : mG E M K pc' L (v :: st) (mN, 0, 0) h1) : mG E M K pc L (x2 :: x1 :: .ref b :: st) (mN, 0, 0) h :=
  mG_callV (av := [x1, x2]) hc hd hR hcat ⟨Nat.zero_le _, Nat.zero_le _⟩ hh hn rfl rfl (fun _ => by decide) hM (fun r h' q => by obtain ⟨rfl, rfl⟩ := q; exact k)
theorem mG_cw2 {d : Nat} {Y : mY} {i ci b : Nat} {fs : List Value} {x1 x2 : Value} {h1 : mH} (hc : mCv M.2.1.cls i Y 2 ci) (hd : mD M.2.2.1 pc (.invokevirtual i) 3 pc') (hR : mLe (mR d) Y.2.2.1 M.1) (hcat : (st.map fun v => v.category).sum ≤ 8) (hh : h b = mOb ci fs) (hn : b < mN) (hM : mOk E d Y (.ref b :: [x1, x2]) h (mX none h1)) (k : mG E M K pc' L st (mN, 0, 0) h1) : mG E M K pc L (x2 :: x1 :: .ref b :: st) (mN, 0, 0) h :=
  mG_callV (av := [x1, x2]) hc hd hR hcat ⟨Nat.zero_le _, Nat.zero_le _⟩ hh hn rfl rfl (fun _ => by decide) hM (fun r h' q => by obtain ⟨rfl, rfl⟩ := q; exact k)
theorem mG_cq2 {d : Nat} {Y : mY} {i ci b : Nat} {fs : List Value} {x1 x2 : Value} {Q' : Option Value → mH → Prop} (hc : mCv M.2.1.cls i Y 2 ci) (hd : mD M.2.2.1 pc (.invokevirtual i) 3 pc') (hR : mLe (mR d) Y.2.2.1 M.1) (hcat : (st.map fun v => v.category).sum ≤ 8) (hh : h b = mOb ci fs) (hn : b < mN) (hM : mOk E d Y (.ref b :: [x1, x2]) h Q') (k : ∀ r h', Q' r h' → mG E M K pc' L (r.toList ++ st) (mN, 0, 0) h') : mG E M K pc L (x2 :: x1 :: .ref b :: st) (mN, 0, 0) h :=
  mG_callV (av := [x1, x2]) hc hd hR hcat ⟨Nat.zero_le _, Nat.zero_le _⟩ hh hn rfl rfl (fun _ => by decide) hM (fun r h' q => k r h' q)
theorem mG_cs2 {d : Nat} {Y : mY} {i : Nat} {x1 x2 : Value} {v : Value} {h1 : mH} (hc : mCs M.2.1.cls i Y 2) (hd : mD M.2.2.1 pc (.invokestatic i) 3 pc') (hR : mLe (mR d) Y.2.2.1 M.1) (hcat : (st.map fun v => v.category).sum ≤ 8) (hM : mOk E d Y [x1, x2] h (mX (some v) h1)) (k : mG E M K pc' L (v :: st) (mN, 0, 0) h1) : mG E M K pc L (x2 :: x1 :: st) (mN, 0, 0) h :=
  mG_callS (av := [x1, x2]) hc hd hR hcat ⟨Nat.zero_le _, Nat.zero_le _⟩ rfl rfl (by decide) (fun _ => by decide) hM (fun r h' q => by obtain ⟨rfl, rfl⟩ := q; exact k)
theorem mG_ct2 {d : Nat} {Y : mY} {i : Nat} {x1 x2 : Value} {h1 : mH} (hc : mCs M.2.1.cls i Y 2) (hd : mD M.2.2.1 pc (.invokestatic i) 3 pc') (hR : mLe (mR d) Y.2.2.1 M.1) (hcat : (st.map fun v => v.category).sum ≤ 8) (hM : mOk E d Y [x1, x2] h (mX none h1)) (k : mG E M K pc' L st (mN, 0, 0) h1) : mG E M K pc L (x2 :: x1 :: st) (mN, 0, 0) h :=
  mG_callS (av := [x1, x2]) hc hd hR hcat ⟨Nat.zero_le _, Nat.zero_le _⟩ rfl rfl (by decide) (fun _ => by decide) hM (fun r h' q => by obtain ⟨rfl, rfl⟩ := q; exact k)
theorem mG_cv3 {d : Nat} {Y : mY} {i ci b : Nat} {fs : List Value} {x1 x2 x3 : Value} {v : Value} {h1 : mH} (hc : mCv M.2.1.cls i Y 3 ci) (hd : mD M.2.2.1 pc (.invokevirtual i) 3 pc') (hR : mLe (mR d) Y.2.2.1 M.1) (hcat : (st.map fun v => v.category).sum ≤ 8) (hh : h b = mOb ci fs) (hn : b < mN) (hM : mOk E d Y (.ref b :: [x1, x2, x3]) h (mX (some v) h1)) (k : mG E M K pc' L (v :: st) (mN, 0, 0) h1) : mG E M K pc L (x3 :: x2 :: x1 :: .ref b :: st) (mN, 0, 0) h :=
  mG_callV (av := [x1, x2, x3]) hc hd hR hcat ⟨Nat.zero_le _, Nat.zero_le _⟩ hh hn rfl rfl (fun _ => by decide) hM (fun r h' q => by obtain ⟨rfl, rfl⟩ := q; exact k)
theorem mG_cw3 {d : Nat} {Y : mY} {i ci b : Nat} {fs : List Value} {x1 x2 x3 : Value} {h1 : mH} (hc : mCv M.2.1.cls i Y 3 ci) (hd : mD M.2.2.1 pc (.invokevirtual i) 3 pc') (hR : mLe (mR d) Y.2.2.1 M.1) (hcat : (st.map fun v => v.category).sum ≤ 8) (hh : h b = mOb ci fs) (hn : b < mN) (hM : mOk E d Y (.ref b :: [x1, x2, x3]) h (mX none h1)) (k : mG E M K pc' L st (mN, 0, 0) h1) : mG E M K pc L (x3 :: x2 :: x1 :: .ref b :: st) (mN, 0, 0) h :=
  mG_callV (av := [x1, x2, x3]) hc hd hR hcat ⟨Nat.zero_le _, Nat.zero_le _⟩ hh hn rfl rfl (fun _ => by decide) hM (fun r h' q => by obtain ⟨rfl, rfl⟩ := q; exact k)
theorem mG_cq3 {d : Nat} {Y : mY} {i ci b : Nat} {fs : List Value} {x1 x2 x3 : Value} {Q' : Option Value → mH → Prop} (hc : mCv M.2.1.cls i Y 3 ci) (hd : mD M.2.2.1 pc (.invokevirtual i) 3 pc') (hR : mLe (mR d) Y.2.2.1 M.1) (hcat : (st.map fun v => v.category).sum ≤ 8) (hh : h b = mOb ci fs) (hn : b < mN) (hM : mOk E d Y (.ref b :: [x1, x2, x3]) h Q') (k : ∀ r h', Q' r h' → mG E M K pc' L (r.toList ++ st) (mN, 0, 0) h') : mG E M K pc L (x3 :: x2 :: x1 :: .ref b :: st) (mN, 0, 0) h :=
  mG_callV (av := [x1, x2, x3]) hc hd hR hcat ⟨Nat.zero_le _, Nat.zero_le _⟩ hh hn rfl rfl (fun _ => by decide) hM (fun r h' q => k r h' q)
theorem mG_cs3 {d : Nat} {Y : mY} {i : Nat} {x1 x2 x3 : Value} {v : Value} {h1 : mH} (hc : mCs M.2.1.cls i Y 3) (hd : mD M.2.2.1 pc (.invokestatic i) 3 pc') (hR : mLe (mR d) Y.2.2.1 M.1) (hcat : (st.map fun v => v.category).sum ≤ 8) (hM : mOk E d Y [x1, x2, x3] h (mX (some v) h1)) (k : mG E M K pc' L (v :: st) (mN, 0, 0) h1) : mG E M K pc L (x3 :: x2 :: x1 :: st) (mN, 0, 0) h :=
  mG_callS (av := [x1, x2, x3]) hc hd hR hcat ⟨Nat.zero_le _, Nat.zero_le _⟩ rfl rfl (by decide) (fun _ => by decide) hM (fun r h' q => by obtain ⟨rfl, rfl⟩ := q; exact k)
theorem mG_ct3 {d : Nat} {Y : mY} {i : Nat} {x1 x2 x3 : Value} {h1 : mH} (hc : mCs M.2.1.cls i Y 3) (hd : mD M.2.2.1 pc (.invokestatic i) 3 pc') (hR : mLe (mR d) Y.2.2.1 M.1) (hcat : (st.map fun v => v.category).sum ≤ 8) (hM : mOk E d Y [x1, x2, x3] h (mX none h1)) (k : mG E M K pc' L st (mN, 0, 0) h1) : mG E M K pc L (x3 :: x2 :: x1 :: st) (mN, 0, 0) h :=
  mG_callS (av := [x1, x2, x3]) hc hd hR hcat ⟨Nat.zero_le _, Nat.zero_le _⟩ rfl rfl (by decide) (fun _ => by decide) hM (fun r h' q => by obtain ⟨rfl, rfl⟩ := q; exact k)
theorem mG_cv4 {d : Nat} {Y : mY} {i ci b : Nat} {fs : List Value} {x1 x2 x3 x4 : Value} {v : Value} {h1 : mH} (hc : mCv M.2.1.cls i Y 4 ci) (hd : mD M.2.2.1 pc (.invokevirtual i) 3 pc') (hR : mLe (mR d) Y.2.2.1 M.1) (hcat : (st.map fun v => v.category).sum ≤ 8) (hh : h b = mOb ci fs) (hn : b < mN) (hM : mOk E d Y (.ref b :: [x1, x2, x3, x4]) h (mX (some v) h1)) (k : mG E M K pc' L (v :: st) (mN, 0, 0) h1) : mG E M K pc L (x4 :: x3 :: x2 :: x1 :: .ref b :: st) (mN, 0, 0) h :=
  mG_callV (av := [x1, x2, x3, x4]) hc hd hR hcat ⟨Nat.zero_le _, Nat.zero_le _⟩ hh hn rfl rfl (fun _ => by decide) hM (fun r h' q => by obtain ⟨rfl, rfl⟩ := q; exact k)
theorem mG_cw4 {d : Nat} {Y : mY} {i ci b : Nat} {fs : List Value} {x1 x2 x3 x4 : Value} {h1 : mH} (hc : mCv M.2.1.cls i Y 4 ci) (hd : mD M.2.2.1 pc (.invokevirtual i) 3 pc') (hR : mLe (mR d) Y.2.2.1 M.1) (hcat : (st.map fun v => v.category).sum ≤ 8) (hh : h b = mOb ci fs) (hn : b < mN) (hM : mOk E d Y (.ref b :: [x1, x2, x3, x4]) h (mX none h1)) (k : mG E M K pc' L st (mN, 0, 0) h1) : mG E M K pc L (x4 :: x3 :: x2 :: x1 :: .ref b :: st) (mN, 0, 0) h :=
  mG_callV (av := [x1, x2, x3, x4]) hc hd hR hcat ⟨Nat.zero_le _, Nat.zero_le _⟩ hh hn rfl rfl (fun _ => by decide) hM (fun r h' q => by obtain ⟨rfl, rfl⟩ := q; exact k)
theorem mG_cq4 {d : Nat} {Y : mY} {i ci b : Nat} {fs : List Value} {x1 x2 x3 x4 : Value} {Q' : Option Value → mH → Prop} (hc : mCv M.2.1.cls i Y 4 ci) (hd : mD M.2.2.1 pc (.invokevirtual i) 3 pc') (hR : mLe (mR d) Y.2.2.1 M.1) (hcat : (st.map fun v => v.category).sum ≤ 8) (hh : h b = mOb ci fs) (hn : b < mN) (hM : mOk E d Y (.ref b :: [x1, x2, x3, x4]) h Q') (k : ∀ r h', Q' r h' → mG E M K pc' L (r.toList ++ st) (mN, 0, 0) h') : mG E M K pc L (x4 :: x3 :: x2 :: x1 :: .ref b :: st) (mN, 0, 0) h :=
  mG_callV (av := [x1, x2, x3, x4]) hc hd hR hcat ⟨Nat.zero_le _, Nat.zero_le _⟩ hh hn rfl rfl (fun _ => by decide) hM (fun r h' q => k r h' q)
theorem mG_cs4 {d : Nat} {Y : mY} {i : Nat} {x1 x2 x3 x4 : Value} {v : Value} {h1 : mH} (hc : mCs M.2.1.cls i Y 4) (hd : mD M.2.2.1 pc (.invokestatic i) 3 pc') (hR : mLe (mR d) Y.2.2.1 M.1) (hcat : (st.map fun v => v.category).sum ≤ 8) (hM : mOk E d Y [x1, x2, x3, x4] h (mX (some v) h1)) (k : mG E M K pc' L (v :: st) (mN, 0, 0) h1) : mG E M K pc L (x4 :: x3 :: x2 :: x1 :: st) (mN, 0, 0) h :=
  mG_callS (av := [x1, x2, x3, x4]) hc hd hR hcat ⟨Nat.zero_le _, Nat.zero_le _⟩ rfl rfl (by decide) (fun _ => by decide) hM (fun r h' q => by obtain ⟨rfl, rfl⟩ := q; exact k)
theorem mG_ct4 {d : Nat} {Y : mY} {i : Nat} {x1 x2 x3 x4 : Value} {h1 : mH} (hc : mCs M.2.1.cls i Y 4) (hd : mD M.2.2.1 pc (.invokestatic i) 3 pc') (hR : mLe (mR d) Y.2.2.1 M.1) (hcat : (st.map fun v => v.category).sum ≤ 8) (hM : mOk E d Y [x1, x2, x3, x4] h (mX none h1)) (k : mG E M K pc' L st (mN, 0, 0) h1) : mG E M K pc L (x4 :: x3 :: x2 :: x1 :: st) (mN, 0, 0) h :=
  mG_callS (av := [x1, x2, x3, x4]) hc hd hR hcat ⟨Nat.zero_le _, Nat.zero_le _⟩ rfl rfl (by decide) (fun _ => by decide) hM (fun r h' q => by obtain ⟨rfl, rfl⟩ := q; exact k)
theorem mG_cv5 {d : Nat} {Y : mY} {i ci b : Nat} {fs : List Value} {x1 x2 x3 x4 x5 : Value} {v : Value} {h1 : mH} (hc : mCv M.2.1.cls i Y 5 ci) (hd : mD M.2.2.1 pc (.invokevirtual i) 3 pc') (hR : mLe (mR d) Y.2.2.1 M.1) (hcat : (st.map fun v => v.category).sum ≤ 8) (hh : h b = mOb ci fs) (hn : b < mN) (hM : mOk E d Y (.ref b :: [x1, x2, x3, x4, x5]) h (mX (some v) h1)) (k : mG E M K pc' L (v :: st) (mN, 0, 0) h1) : mG E M K pc L (x5 :: x4 :: x3 :: x2 :: x1 :: .ref b :: st) (mN, 0, 0) h :=
  mG_callV (av := [x1, x2, x3, x4, x5]) hc hd hR hcat ⟨Nat.zero_le _, Nat.zero_le _⟩ hh hn rfl rfl (fun _ => by decide) hM (fun r h' q => by obtain ⟨rfl, rfl⟩ := q; exact k)
theorem mG_cw5 {d : Nat} {Y : mY} {i ci b : Nat} {fs : List Value} {x1 x2 x3 x4 x5 : Value} {h1 : mH} (hc : mCv M.2.1.cls i Y 5 ci) (hd : mD M.2.2.1 pc (.invokevirtual i) 3 pc') (hR : mLe (mR d) Y.2.2.1 M.1) (hcat : (st.map fun v => v.category).sum ≤ 8) (hh : h b = mOb ci fs) (hn : b < mN) (hM : mOk E d Y (.ref b :: [x1, x2, x3, x4, x5]) h (mX none h1)) (k : mG E M K pc' L st (mN, 0, 0) h1) : mG E M K pc L (x5 :: x4 :: x3 :: x2 :: x1 :: .ref b :: st) (mN, 0, 0) h :=
  mG_callV (av := [x1, x2, x3, x4, x5]) hc hd hR hcat ⟨Nat.zero_le _, Nat.zero_le _⟩ hh hn rfl rfl (fun _ => by decide) hM (fun r h' q => by obtain ⟨rfl, rfl⟩ := q; exact k)
theorem mG_cq5 {d : Nat} {Y : mY} {i ci b : Nat} {fs : List Value} {x1 x2 x3 x4 x5 : Value} {Q' : Option Value → mH → Prop} (hc : mCv M.2.1.cls i Y 5 ci) (hd : mD M.2.2.1 pc (.invokevirtual i) 3 pc') (hR : mLe (mR d) Y.2.2.1 M.1) (hcat : (st.map fun v => v.category).sum ≤ 8) (hh : h b = mOb ci fs) (hn : b < mN) (hM : mOk E d Y (.ref b :: [x1, x2, x3, x4, x5]) h Q') (k : ∀ r h', Q' r h' → mG E M K pc' L (r.toList ++ st) (mN, 0, 0) h') : mG E M K pc L (x5 :: x4 :: x3 :: x2 :: x1 :: .ref b :: st) (mN, 0, 0) h :=
  mG_callV (av := [x1, x2, x3, x4, x5]) hc hd hR hcat ⟨Nat.zero_le _, Nat.zero_le _⟩ hh hn rfl rfl (fun _ => by decide) hM (fun r h' q => k r h' q)
theorem mG_cs5 {d : Nat} {Y : mY} {i : Nat} {x1 x2 x3 x4 x5 : Value} {v : Value} {h1 : mH} (hc : mCs M.2.1.cls i Y 5) (hd : mD M.2.2.1 pc (.invokestatic i) 3 pc') (hR : mLe (mR d) Y.2.2.1 M.1) (hcat : (st.map fun v => v.category).sum ≤ 8) (hM : mOk E d Y [x1, x2, x3, x4, x5] h (mX (some v) h1)) (k : mG E M K pc' L (v :: st) (mN, 0, 0) h1) : mG E M K pc L (x5 :: x4 :: x3 :: x2 :: x1 :: st) (mN, 0, 0) h :=
  mG_callS (av := [x1, x2, x3, x4, x5]) hc hd hR hcat ⟨Nat.zero_le _, Nat.zero_le _⟩ rfl rfl (by decide) (fun _ => by decide) hM (fun r h' q => by obtain ⟨rfl, rfl⟩ := q; exact k)
theorem mG_ct5 {d : Nat} {Y : mY} {i : Nat} {x1 x2 x3 x4 x5 : Value} {h1 : mH} (hc : mCs M.2.1.cls i Y 5) (hd : mD M.2.2.1 pc (.invokestatic i) 3 pc') (hR : mLe (mR d) Y.2.2.1 M.1) (hcat : (st.map fun v => v.category).sum ≤ 8) (hM : mOk E d Y [x1, x2, x3, x4, x5] h (mX none h1)) (k : mG E M K pc' L st (mN, 0, 0) h1) : mG E M K pc L (x5 :: x4 :: x3 :: x2 :: x1 :: st) (mN, 0, 0) h :=
  mG_callS (av := [x1, x2, x3, x4, x5]) hc hd hR hcat ⟨Nat.zero_le _, Nat.zero_le _⟩ rfl rfl (by decide) (fun _ => by decide) hM (fun r h' q => by obtain ⟨rfl, rfl⟩ := q; exact k)
end MH
theorem mLe_of {d d' nL : Nat} (h : ((d' + 1).ble d && (19 + nL + 60 * d').ble (60 * d)) = true) : mLe (mR d') nL (mR d) := by
  simp only [Bool.and_eq_true, Nat.ble_eq] at h
  exact ⟨h.1, by show 8 + (nL + 11) + 60 * d' ≤ 60 * d; omega⟩
theorem mLe_s {d d' nL : Nat} (h1 : d' + 1 ≤ d) (h2 : nL ≤ 41) : mLe (mR d') nL (mR d) := ⟨h1, by show 8 + (nL + 11) + 60 * d' ≤ 60 * d; omega⟩
/-- for all from i on, k of them -/
def allF (p : Nat → Bool) : Nat → Nat → Bool
  | _, 0 => true
  | i, k + 1 => p i && allF p (i + 1) k
theorem allF_iff {p : Nat → Bool} : ∀ (k i : Nat), allF p i k = true ↔ ∀ j, i ≤ j → j < i + k → p j = true := by
  intro k
  induction k with
  | zero => intro i; simp [allF]; omega
  | succ k ih =>
    intro i
    simp only [allF, Bool.and_eq_true, ih]
    constructor
    · rintro ⟨h1, h2⟩ j hj hj2
      rcases Nat.eq_or_lt_of_le hj with e | e
      · rw [← e]; exact h1
      · exact h2 j (by omega) (by omega)
    · intro q
      exact ⟨q i (Nat.le_refl _) (by omega), fun j h1 h2 => q j (by omega) (by omega)⟩
def iterF {σ : Type} (f : Nat → σ → σ) : Nat → Nat → σ → σ
  | _, 0, x => x
  | i, k + 1, x => iterF f (i + 1) k (f i x)
def sumF (g : Nat → Nat) : Nat → Nat → Nat
  | _, 0 => 0
  | i, k + 1 => g i + sumF g (i + 1) k
theorem pn_X0 : plainName RX0 = true := by decide +kernel
theorem pn_X1 : plainName RX1 = true := by decide +kernel
theorem pn_X2 : plainName RX2 = true := by decide +kernel
theorem pn_X3 : plainName RX3 = true := by decide +kernel
theorem pn_X4 : plainName RX4 = true := by decide +kernel
theorem pn_X5 : plainName RX5 = true := by decide +kernel
theorem pn_X6 : plainName RX6 = true := by decide +kernel
theorem pn_X7 : plainName RX7 = true := by decide +kernel
theorem pn_X8 : plainName RX8 = true := by decide +kernel
theorem pn_J6 : plainName RJ6 = true := by decide +kernel
theorem pn_J7 : plainName RJ7 = true := by decide +kernel
theorem mb_and (a b : Nat) : nI a &&& nI b = nI (a &&& b) := by
  apply Int32.toBitVec_inj.1
  show BitVec.ofNat 32 a &&& BitVec.ofNat 32 b = BitVec.ofNat 32 (a &&& b)
  apply BitVec.eq_of_getLsbD_eq
  intro i hi
  simp [hi]
theorem mb_or (a b : Nat) : nI a ||| nI b = nI (a ||| b) := by
  apply Int32.toBitVec_inj.1
  show BitVec.ofNat 32 a ||| BitVec.ofNat 32 b = BitVec.ofNat 32 (a ||| b)
  apply BitVec.eq_of_getLsbD_eq
  intro i hi
  simp [hi]
theorem mb_sm : ∀ k : Fin 32, ((nI k.val &&& 31).toBitVec.smod 32).toNat = k.val := by decide +kernel
theorem mb_shl {n k : Nat} (hk : k < 32) (hn : n <<< k < 2 ^ 32) : nI n <<< (nI k &&& 31) = nI (n <<< k) := by
  rw [Nat.shiftLeft_eq] at hn ⊢
  exact pk_shlN _ k (mb_sm ⟨k, hk⟩) hn
theorem mb_shr {n k : Nat} (hk : k < 32) (hn : n < 2 ^ 31) : nI n >>> (nI k &&& 31) = nI (n >>> k) := by
  rw [Nat.shiftRight_eq_div_pow]
  exact pk_shrN hn _ k (mb_sm ⟨k, hk⟩)
section MHb
variable {E : mE} {M : mM} {K : mKt} {pc pc' : Nat} {L L' : List (Option Value)} {st : List Value} {h h' : mH} {a : Nat × Nat × Nat}
theorem mG_iandN {x y : Nat} (hd : mD M.2.2.1 pc .iand 1 pc') (k : mG E M K pc' L (.int (nI (x &&& y)) :: st) a h) : mG E M K pc L (.int (nI y) :: .int (nI x) :: st) a h := mG_iand hd (by rw [mb_and]; exact k)
theorem mG_iorN {x y : Nat} (hd : mD M.2.2.1 pc .ior 1 pc') (k : mG E M K pc' L (.int (nI (x ||| y)) :: st) a h) : mG E M K pc L (.int (nI y) :: .int (nI x) :: st) a h := mG_ior hd (by rw [mb_or]; exact k)
theorem mG_ishlN {x y : Nat} (hd : mD M.2.2.1 pc .ishl 1 pc') (hy : y < 32) (hx : x <<< y < 2 ^ 32) (k : mG E M K pc' L (.int (nI (x <<< y)) :: st) a h) : mG E M K pc L (.int (nI y) :: .int (nI x) :: st) a h := mG_ishl hd (by rw [mb_shl hy hx]; exact k)
theorem mG_ishrN {x y : Nat} (hd : mD M.2.2.1 pc .ishr 1 pc') (hy : y < 32) (hx : x < 2 ^ 31) (k : mG E M K pc' L (.int (nI (x >>> y)) :: st) a h) : mG E M K pc L (.int (nI y) :: .int (nI x) :: st) a h := mG_ishr hd (by rw [mb_shr hy hx]; exact k)
theorem mG_mminN {i x y : Nat} (hd : mD M.2.2.1 pc (.invokestatic i) 3 pc') (hl : Cond.methodLink M.2.1.cls i Lib.Math.min.name ∈ mw) (hs : Cond.static Lib.Math.min.name ∈ mw) (hi : Cond.initialized "java/lang/Math" ∈ mw) (hc : Cond.code Lib.Math.min.name Lib.Math.min.code 2 (some .int) ∈ mw) (hfr : 1 ≤ M.1.frames) (hlo : (st.map fun v => v.category).sum + 13 ≤ M.1.locals) (h1 : a.2.1 ≤ M.1.cells) (h2 : a.2.2 ≤ M.1.slots) (hx : x < 2 ^ 31) (hy : y < 2 ^ 31) (kk : mG E M K pc' L (.int (nI (min x y)) :: st) a h) : mG E M K pc L (.int (nI y) :: .int (nI x) :: st) a h := by
  refine mG_mmin hd hl hs hi hc hfr hlo h1 h2 ?_
  have e : (if nI y < nI x then nI y else nI x) = nI (min x y) := by
    by_cases q : y < x
    · rw [if_pos ((nI_ltI hy hx).mpr q), Nat.min_eq_right (Nat.le_of_lt q)]
    · rw [if_neg (fun z => q ((nI_ltI hy hx).mp z)), Nat.min_eq_left (Nat.not_lt.mp q)]
  rw [e]
  exact kk
theorem mG_mmaxN {i x y : Nat} (hd : mD M.2.2.1 pc (.invokestatic i) 3 pc') (hl : Cond.methodLink M.2.1.cls i Lib.Math.max.name ∈ mw) (hs : Cond.static Lib.Math.max.name ∈ mw) (hi : Cond.initialized "java/lang/Math" ∈ mw) (hc : Cond.code Lib.Math.max.name Lib.Math.max.code 2 (some .int) ∈ mw) (hfr : 1 ≤ M.1.frames) (hlo : (st.map fun v => v.category).sum + 13 ≤ M.1.locals) (h1 : a.2.1 ≤ M.1.cells) (h2 : a.2.2 ≤ M.1.slots) (hx : x < 2 ^ 31) (hy : y < 2 ^ 31) (kk : mG E M K pc' L (.int (nI (max x y)) :: st) a h) : mG E M K pc L (.int (nI y) :: .int (nI x) :: st) a h := by
  refine mG_mmax hd hl hs hi hc hfr hlo h1 h2 ?_
  have e : (if nI x < nI y then nI y else nI x) = nI (max x y) := by
    by_cases q : x < y
    · rw [if_pos ((nI_ltI hx hy).mpr q), Nat.max_eq_right (Nat.le_of_lt q)]
    · rw [if_neg (fun z => q ((nI_ltI hx hy).mp z)), Nat.max_eq_left (Nat.not_lt.mp q)]
  rw [e]
  exact kk
theorem va_cpy_nI (f g : Nat → Nat) (sp dp n : Nat) : va_cpy (fun j => nI (f j)) (fun j => nI (g j)) sp dp n = fun j => nI (va_cpy f g sp dp n j) := by
  funext j
  unfold va_cpy
  by_cases q : dp ≤ j ∧ j < dp + n
  · rw [if_pos q, if_pos q]
  · rw [if_neg q, if_neg q]
theorem mG_copyA {i b b0 n0 n1 sp dp n : Nat} {f g : Nat → Nat} (hd : mD M.2.2.1 pc (.invokestatic i) 3 pc') (hl : Cond.methodLink M.2.1.cls i arraycopyName ∈ mw) (hna : Cond.native arraycopyName ∈ mw) (hs : Cond.static arraycopyName ∈ mw) (hi : Cond.initialized "java/lang/System" ∈ mw) (hh0 : h b0 = mAr n0 f) (hh : h b = mAr n1 g) (hn0 : b0 < a.1) (hn : b < a.1) (h4 : sp + n ≤ n0) (h5 : dp + n ≤ n1) (hm0 : n0 < 2 ^ 31) (hm1 : n1 < 2 ^ 31) (hfr : 1 ≤ M.1.frames) (hlo : (st.map fun v => v.category).sum + (nativeFrameWords "java/lang/System" "arraycopy" 5 + 11) ≤ M.1.locals)
    (kk : mG E M K pc' L st a (mU h b (mAr n1 (va_cpy f g sp dp n)))) : mG E M K pc L (.int (nI n) :: .int (nI dp) :: .ref b :: .int (nI sp) :: .ref b0 :: st) a h :=
  mG_copy hd hl hna hs hi hh0 hh hn0 hn h4 h5 hm0 hm1 hfr hlo (by rw [va_cpy_nI]; exact kk)
end MHb
/-! arrays that agree as far as they go are one -/
def mEq (c c' : mC) : Prop := c = c' ∨ ∃ (t n : Nat) (f f' : Nat → Int32), c = .inl (t, n, f) ∧ c' = .inl (t, n, f') ∧ ∀ j, j < n → f j = f' j
theorem mEq.rf {c : mC} : mEq c c := Or.inl rfl
theorem mEq_ar {n : Nat} {g g' : Nat → Nat} (e : ∀ j, j < n → g j = g' j) : mEq (mAr n g) (mAr n g') := Or.inr ⟨0, n, _, _, rfl, rfl, fun j hj => by rw [e j hj]⟩
theorem arrV_ext {cA : ClassId} {n : Nat} {f f' : Nat → Value} (e : ∀ j, j < n → f j = f' j) : arrV cA n f = arrV cA n f' := by
  unfold arrV
  congr 1
  apply Array.ext
  · simp
  · intro i h1 h2
    simp at h1
    simp [e i h1]
theorem mRep_cong {E : mE} {n : Nat} {h h' : mH} {H : Heap} (e : ∀ b, b < n → mEq (h b) (h' b)) (R : mRep E n h H) : mRep E n h' H := by
  refine ⟨R.1, fun k q hq => ?_⟩
  have hk : k < n := by
    have := (List.getElem?_eq_some_iff.mp hq).1
    unfold mWs at this
    simpa using this
  rw [mWs_get hk rfl] at hq
  cases hq
  have h1 := R.2 k _ (mWs_get hk rfl)
  rcases e k hk with e1 | ⟨t, m, f, f', e1, e2, e3⟩
  · rw [e1] at h1
    exact h1
  · rw [e1] at h1
    rw [e2]
    show H[_]? = some (vp_cell _ _)
    have h2 : H[E.2.2.2.1 + mSw E.2.2.2.2.2.2 k]? = some (vp_cell (E.2.2.1 t) (m, .inl f)) := h1
    rw [h2, vp_cell_i, vp_cell_i]
    congr 1
    exact arrV_ext (fun j hj => by rw [e3 j hj])
theorem mG_cong {E : mE} {M : mM} {K : mKt} {pc : Nat} {L : List (Option Value)} {st : List Value} {h : mH} {a : Nat × Nat × Nat} (h' : mH) (e : ∀ b, b < a.1 → mEq (h b) (h' b)) (k : mG E M K pc L st a h') : mG E M K pc L st a h :=
  fun p e1 s m args below meth c H locs ls C R S V => k p e1 s m args below meth c H locs ls C ⟨R.1, mRep_cong e R.2⟩ S V
theorem mEq_U {h h' : mH} (e : ∀ b, mEq (h b) (h' b)) (x : Nat) {c c' : mC} (ec : mEq c c') : ∀ b, mEq (mU h x c b) (mU h' x c' b) := by
  intro b
  unfold mU
  by_cases q : b = x
  · rw [if_pos q, if_pos q]; exact ec
  · rw [if_neg q, if_neg q]; exact e b
theorem mEq_h {h : mH} : ∀ b, mEq (h b) (h b) := fun _ => mEq.rf
theorem shl1_lt {x : Nat} (hx : x < 31) : 1 <<< x < 2 ^ 31 := by
  rw [Nat.one_shiftLeft]
  exact Nat.pow_lt_pow_right (by decide) hx
theorem shl1_lt2 {x : Nat} (hx : x < 31) : 1 <<< x < 2 ^ 32 := Nat.lt_trans (shl1_lt hx) (by decide)
theorem mCallCong {E : mE} {d : Nat} {Y : mY} {av : List Value} {h : mH} {v : Option Value} {h1 h2 : mH} (k : mOk E d Y av h (mX v h1)) (e : ∀ b, b < mN → mEq (h1 b) (h2 b)) : mOk E d Y av h (mX v h2) := by
  intro p e0 ha hc hk s m args below hf hs hP hK
  obtain ⟨n, o, g1, g2, g3, ⟨⟨⟨r, h', e1, q1, e2⟩, hF⟩, hL⟩⟩ := k p e0 ha hc hk s m args below hf hs hP hK
  obtain ⟨rfl, rfl⟩ := q1
  exact ⟨n, o, g1, g2, g3, ⟨⟨⟨r, h2, e1, ⟨rfl, rfl⟩, mRep_cong e e2⟩, hF⟩, hL⟩⟩
