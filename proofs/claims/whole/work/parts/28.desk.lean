/-! told and draft change places: the same heap under other numbers -/
def rlV : Value → Value
  | .ref k => .ref (mSw true k)
  | v => v
def rlC : mC → mC
  | .inl x => .inl x
  | .inr (.inl x) => .inr (.inl (x.1, fun j => (x.2 j).map (mSw true)))
  | .inr (.inr x) => .inr (.inr (x.1, x.2.map rlV))
def rl (h : mH) : mH := fun k => rlC (h (mSw true k))
def flipE (E : mE) : mE := (E.1, E.2.1, E.2.2.1, E.2.2.2.1, E.2.2.2.2.1, E.2.2.2.2.2.1, !E.2.2.2.2.2.2)
theorem mSw_flip (b : Bool) (k : Nat) : mSw (!b) (mSw true k) = mSw b k := by
  cases b
  · show mSw true (mSw true k) = k
    unfold mSw
    rw [if_pos rfl, if_pos rfl]
    by_cases q1 : 3 ≤ k ∧ k < 6
    · rw [if_pos q1, if_neg (by omega), if_pos (by omega)]; omega
    · rw [if_neg q1]
      by_cases q2 : 6 ≤ k ∧ k < 9
      · rw [if_pos q2, if_pos (by omega)]; omega
      · rw [if_neg q2, if_neg q1, if_neg q2]
  · show mSw false (mSw true k) = mSw true k
    simp [mSw]
theorem mSw_inv (k : Nat) : mSw true (mSw true k) = k := by
  have h := mSw_flip false k
  simpa [mSw] using h
theorem mSw_lt (k : Nat) : mSw true k < 1000 ↔ k < 1000 := by
  unfold mSw
  rw [if_pos rfl]
  split
  · omega
  · split <;> omega
theorem mSw_lt' {k n : Nat} (hn : 9 ≤ n) (hk : k < n) : mSw true k < n := by
  unfold mSw
  rw [if_pos rfl]
  split
  · omega
  · split <;> omega
theorem mra_flip (E : mE) (k : Nat) : mra (flipE E) (mSw true k) = mra E k := by
  unfold mra
  by_cases q : k < 1000
  · rw [if_pos q, if_pos ((mSw_lt k).mpr q)]
    show E.2.2.2.1 + mSw (!E.2.2.2.2.2.2) (mSw true k) = _
    rw [mSw_flip]
  · rw [if_neg q, if_neg (fun z => q ((mSw_lt k).mp z))]
    show E.2.2.2.2.1 (mSw true k - 1000) = _
    have e : mSw true k = k := by
      unfold mSw
      rw [if_pos rfl, if_neg (by omega), if_neg (by omega)]
    rw [e]
theorem mrv_flip (E : mE) (v : Value) : mrv (flipE E) (rlV v) = mrv E v := by
  cases v <;> first | rfl | (show Value.ref _ = Value.ref _; rw [mra_flip])
theorem mEn_flip (E : mE) (c : mC) : mEn (flipE E) (rlC c) = mEn E c := by
  rcases c with x | x | x
  · rfl
  · show Sum.inl _ = Sum.inl _
    congr 7
    funext j
    show ((x.2 j).map (mSw true)).map (mra (flipE E)) = (x.2 j).map (mra E)
    rw [Option.map_map]
    congr 1
    funext k
    exact mra_flip E k
  · show Sum.inr _ = Sum.inr _
    congr 2
    show (x.2.map rlV).map (mrv (flipE E)) = x.2.map (mrv E)
    rw [List.map_map]
    exact List.map_congr_left (fun v _ => mrv_flip E v)
theorem mRep_flip {E : mE} {n : Nat} {h : mH} {H : Heap} (hn : 9 ≤ n) (R : mRep E n h H) : mRep (flipE E) n (rl h) H := by
  refine ⟨R.1, fun k q hq => ?_⟩
  have hk : k < n := by
    have := (List.getElem?_eq_some_iff.mp hq).1
    unfold mWs at this
    simpa using this
  rw [mWs_get hk rfl] at hq
  cases hq
  have h1 := R.2 (mSw true k) _ (mWs_get (mSw_lt' hn hk) rfl)
  have e1 : mEn (flipE E) (rl h k) = mEn E (h (mSw true k)) := mEn_flip E _
  have e2 : mSw (!E.2.2.2.2.2.2) k = mSw E.2.2.2.2.2.2 (mSw true k) := by
    have := mSw_flip E.2.2.2.2.2.2 (mSw true k)
    rw [mSw_inv] at this
    exact this
  rw [e1]
  show va_at _ _ (E.2.2.2.1 + mSw (!E.2.2.2.2.2.2) k, _) H
  rw [e2]
  exact h1
theorem mG_swap {E : mE} {M : mM} {K : mKt} {pc : Nat} {L : List (Option Value)} {st : List Value} {h : mH} {a : Nat × Nat × Nat} (ha : 9 ≤ a.1) (k : mG (flipE E) M K pc (L.map (Option.map rlV)) (st.map rlV) a (rl h)) : mG E M K pc L st a h := by
  intro p e s m args below meth c H locs ls C R S V
  have e1 : (st.map rlV).map (mrv (flipE E)) = st.map (mrv E) := by
    rw [List.map_map]
    exact List.map_congr_left (fun v _ => mrv_flip E v)
  have q := k p e s m args below meth c H locs ls C ⟨R.1, mRep_flip ha R.2⟩ S ⟨V.1, V.2.1, ?_⟩
  · rw [e1] at q
    exact q
  · rintro ⟨i, w⟩ hq
    obtain ⟨v, hv, rfl⟩ := mPr_mem.mp hq
    rw [List.getElem?_map] at hv
    cases hL : L[i]? with
    | none => rw [hL] at hv; cases hv
    | some o =>
      rw [hL] at hv
      cases o with
      | none => cases hv
      | some u =>
        cases hv
        show ls[i]? = some (.val (mrv (flipE E) (rlV u)))
        rw [mrv_flip]
        exact mHas_at V hL
set_option maxRecDepth 100000 in
set_option maxHeartbeats 4000000 in
theorem lp_X7_forgetImages {E : mE} {h0 : mH} {fs : List Value} (e0 : h0 0 = .inr (.inr (7, fs))) (hv : fs[5]? = some (.ref 15)) : ∀ (k i : Nat) (h : mH) (g : Nat → Bool), i + k = 2 → h = mU h0 15 (mZr 2 g) → (∀ j, j < i → g j = false) → mG E (mR 1, zX7_forgetImages) (mKq E (mR 1) mN (mX none (mU h0 15 (mZr 2 (fun _ => false))))) 2 [some (.ref 0), some (vN i)] [] (mN, 0, 0) h := by
  intro k
  induction k with
  | zero =>
    intro i h g hk hh hg
    refine mG_iload_n dX7_forgetImages_2 rfl ?_
    refine mG_iconst (v := nI 2) dX7_forgetImages_3 (by decide) ?_
    refine mG_icmp_geN dX7_forgetImages_4 (by omega) (by omega) (fun c4 => ?_) (fun c4 => absurd c4 (by omega))
    refine mG_cong (mU h0 15 (mZr 2 (fun _ => false))) (fun b _ => by rw [hh]; exact mEq_U mEq_h _ (mEq_zr (fun j hj => hg j (by omega))) b) ?_
    exact mG_vret dX7_forgetImages_20 rfl (mX_of rfl rfl)
  | succ k ih =>
    intro i h g hk hh hg
    refine mG_iload_n dX7_forgetImages_2 rfl ?_
    refine mG_iconst (v := nI 2) dX7_forgetImages_3 (by decide) ?_
    have e0h : h 0 = .inr (.inr (7, fs)) := by rw [hh]; exact e0
    refine mG_icmp_geN dX7_forgetImages_4 (by omega) (by omega) (fun c4 => absurd c4 (by omega)) (fun c4 => ?_)
    refine mG_aload_n dX7_forgetImages_7 rfl ?_
    refine mG_get fX7_37 dX7_forgetImages_8 e0h (Nat.le_of_ble_eq_true rfl) hv ?_
    refine mG_iload_n dX7_forgetImages_11 rfl ?_
    refine mG_iconst (v := mb false) dX7_forgetImages_12 (by decide) ?_
    refine mG_zastA (x := false) dX7_forgetImages_13 (show h 15 = mZr 2 g by rw [hh]; rfl) (Nat.le_of_ble_eq_true rfl) (by decide) (by omega) ?_
    refine mG_iincN dX7_forgetImages_14 rfl (Nat.le_of_ble_eq_true rfl) rfl rfl ?_
    refine mG_goto dX7_forgetImages_17 ?_
    exact ih (i + 1) _ (mUb g i false) (by omega) (by rw [hh, mU_same]) (fun j hj => by
      unfold mUb
      by_cases q : j = i
      · rw [if_pos q]
      · rw [if_neg q]; exact hg j (by omega))
set_option maxRecDepth 100000 in
set_option maxHeartbeats 4000000 in
theorem ok_X7_forgetImages {E : mE} {h : mH} {fs : List Value} {g : Nat → Bool} (e0 : h 0 = .inr (.inr (7, fs))) (hv : fs[5]? = some (.ref 15)) (e15 : h 15 = mZr 2 g) : mOk E 1 zX7_forgetImages [.ref 0] h (mX none (mU h 15 (mZr 2 (fun _ => false)))) := by
  refine mOk_w (L := [some (.ref 0), none]) pn_X7 rfl (Nat.le_of_ble_eq_true rfl) rfl ?_
  refine mG_iconst (v := nI 0) dX7_forgetImages_0 (by decide) ?_
  refine mG_istore_n dX7_forgetImages_1 (Nat.le_of_ble_eq_true rfl) rfl rfl ?_
  exact lp_X7_forgetImages e0 hv 2 0 h g rfl (mU_self h 15 _ e15).symm (fun _ z => absurd z (Nat.not_lt_zero _))
set_option maxRecDepth 100000 in
set_option maxHeartbeats 4000000 in
theorem pc_desk_fault {E : mE} {h : mH} {n : Nat} {tx : Nat → Nat} {cu dc : Nat} {bo : Bool} {td : Nat → Nat} {dn wk : Nat} {nf ca fr ds : Nat → Nat} {x0 x1 : mSd} {kp : Nat → Bool} {sn : Nat} {sf st : Nat → Nat} {tr : Int64} {t : mTk} {df dy : Nat → Nat} {cu6 dc6 it6 : Nat} {bo6 : Bool} (H : CI h n tx cu dc bo td dn wk nf ca fr ds x0 x1 kp sn sf st tr) (e1 : h 1 = oRt n t) (e2 : h 2 = mAr 100 tx) (e6 : h 6 = oDraft cu6 dc6 it6 bo6) (e7 : h 7 = mAr 24 df) (e8 : h 8 = mAr 6 dy) (ht : t.2.1 ≤ 4 ∧ t.2.2.1 ≤ 100 ∧ t.2.2.2 ≤ 10000) (hn : n ≤ 100) (htx : ∀ j, j < n → tx j < 256) (hz : ¬ (rdZ tx n t df dy).1 = -1) : mOk E 7 zX7_desk [.ref 0] h (cQ h (.int ((-10) - (rdZ tx n t df dy).1)) (CI · n tx cu dc bo td dn wk nf ca fr ds x0 x1 kp sn sf st tr)) := by
  obtain ⟨e0, hRd, hTo, hDr, hNo, hI0, hI1, hMi, hSe, hTe, hWk, hFa, hOK, hK0, hK1⟩ := id H
  obtain ⟨it, tf, e3, e4, e5, hcu, hdc, htd⟩ := id hTo
  obtain ⟨e9, e10, e11, e12, e13⟩ := id hNo
  obtain ⟨g14, e14, hg0, hg1, e15⟩ := id hMi
  obtain ⟨e16, e17, e18, hsn, hsf, hst⟩ := id hSe
  obtain ⟨c19, g20, e19, e20⟩ := id hTe
  obtain ⟨w, pl, y, ⟨tv, nv, wc, wla, wbe, e21⟩, e22, e23, e24, e25, e26, e27, hw1, hy1⟩ := id hWk
  obtain ⟨ftv, fnv, fup, flo, g29, e28, e29⟩ := id hFa
  obtain ⟨i30, i31, i32, i33, i34⟩ := id hI0
  obtain ⟨i35, i36, i37, i38, i39⟩ := id hI1
  have hzo := rdF_ok hn htx (n + 1) (0, t.2) 0 ((0, 0, false), (df, dy)) ⟨Nat.zero_le _, ht⟩ (Nat.zero_le _) (Nat.zero_le _)
  refine mOk_w (L := [some (.ref 0), none, none]) pn_X7 rfl (Nat.le_of_ble_eq_true rfl) rfl ?_
  refine mG_aload_n dX7_desk_0 rfl ?_
  refine mG_get fX7_10 dX7_desk_1 e0 (Nat.le_of_ble_eq_true rfl) rfl ?_
  refine mG_aload_n dX7_desk_4 rfl ?_
  refine mG_get fX7_23 dX7_desk_5 e0 (Nat.le_of_ble_eq_true rfl) rfl ?_
  refine mG_cv1 vX7_77 dX7_desk_8 (mLe_of rfl) (Nat.le_of_ble_eq_true rfl) e1 (Nat.le_of_ble_eq_true rfl) (ok_X1_read e1 e2 e6 e7 e8 hn ht htx) ?_
  refine mG_istore_n dX7_desk_11 (Nat.le_of_ble_eq_true rfl) rfl rfl ?_
  refine mG_iload_n dX7_desk_12 rfl ?_
  refine mG_iconst (v := (-1)) dX7_desk_13 (by decide) ?_
  refine mG_icmp_eq dX7_desk_14 (fun c14 => absurd c14 hz) (fun c14 => ?_)
  refine mG_bipush (v := (-10)) dX7_desk_17 (by decide) ?_
  refine mG_iload_n dX7_desk_19 rfl ?_
  refine mG_isub dX7_desk_20 ?_
  exact mG_iret dX7_desk_21 rfl ⟨rfl, ⟨e0, ⟨_, rfl, e2, ⟨hzo.1.2.1, hzo.1.2.2.1, hzo.1.2.2.2⟩, hn, htx⟩, hTo, ⟨_, _, _, _, _, _, rfl, rfl, rfl⟩, hNo, hI0, hI1, hMi, hSe, hTe, hWk, hFa, hOK, hK0, hK1⟩, fun b hb => by simp only [hD, hR, mU, show ¬ b = 1 from by omega, show ¬ b = 6 from by omega, show ¬ b = 7 from by omega, show ¬ b = 8 from by omega, if_false]⟩
set_option maxRecDepth 100000 in
set_option maxHeartbeats 4000000 in
theorem pc_desk_ok {E : mE} {h : mH} {n : Nat} {tx : Nat → Nat} {cu dc : Nat} {bo : Bool} {td : Nat → Nat} {dn wk : Nat} {nf ca fr ds : Nat → Nat} {x0 x1 : mSd} {kp : Nat → Bool} {sn : Nat} {sf st : Nat → Nat} {tr : Int64} {t : mTk} {df dy : Nat → Nat} {cu6 dc6 it6 : Nat} {bo6 : Bool} (H : CI h n tx cu dc bo td dn wk nf ca fr ds x0 x1 kp sn sf st tr) (e1 : h 1 = oRt n t) (e2 : h 2 = mAr 100 tx) (e6 : h 6 = oDraft cu6 dc6 it6 bo6) (e7 : h 7 = mAr 24 df) (e8 : h 8 = mAr 6 dy) (ht : t.2.1 ≤ 4 ∧ t.2.2.1 ≤ 100 ∧ t.2.2.2 ≤ 10000) (hn : n ≤ 100) (htx : ∀ j, j < n → tx j < 256) (hz : (rdZ tx n t df dy).1 = -1) (hz4 : ∀ j, j < (rdZ tx n t df dy).2.2.2.1.2.1 → (rdZ tx n t df dy).2.2.2.2.2 j < 10 ^ (rdZ tx n t df dy).2.2.2.1.1) (hz5 : ∀ j, j < (rdZ tx n t df dy).2.2.2.1.1 * 6 → (rdZ tx n t df dy).2.2.2.2.1 j < 10) : mOk E 7 zX7_desk [.ref 0] h (cQ h (vN (rdZ tx n t df dy).2.2.1) (fun h' => (CI · 0 tx (rdZ tx n t df dy).2.2.2.1.1 (rdZ tx n t df dy).2.2.2.1.2.1 (rdZ tx n t df dy).2.2.2.1.2.2 (rdZ tx n t df dy).2.2.2.2.2 0 0 (rdZ tx n t df dy).2.2.2.2.1 (fun j => j) (fun _ => 0) ds x0 x1 (fun _ => false) 0 sf st tr) (rl h'))) := by
  obtain ⟨e0, hRd, hTo, hDr, hNo, hI0, hI1, hMi, hSe, hTe, hWk, hFa, hOK, hK0, hK1⟩ := id H
  obtain ⟨it, tf, e3, e4, e5, hcu, hdc, htd⟩ := id hTo
  obtain ⟨e9, e10, e11, e12, e13⟩ := id hNo
  obtain ⟨g14, e14, hg0, hg1, e15⟩ := id hMi
  obtain ⟨e16, e17, e18, hsn, hsf, hst⟩ := id hSe
  obtain ⟨c19, g20, e19, e20⟩ := id hTe
  obtain ⟨w, pl, y, ⟨tv, nv, wc, wla, wbe, e21⟩, e22, e23, e24, e25, e26, e27, hw1, hy1⟩ := id hWk
  obtain ⟨ftv, fnv, fup, flo, g29, e28, e29⟩ := id hFa
  obtain ⟨i30, i31, i32, i33, i34⟩ := id hI0
  obtain ⟨i35, i36, i37, i38, i39⟩ := id hI1
  have hzo := rdF_ok hn htx (n + 1) (0, t.2) 0 ((0, 0, false), (df, dy)) ⟨Nat.zero_le _, ht⟩ (Nat.zero_le _) (Nat.zero_le _)
  refine mOk_w (L := [some (.ref 0), none, none]) pn_X7 rfl (Nat.le_of_ble_eq_true rfl) rfl ?_
  refine mG_aload_n dX7_desk_0 rfl ?_
  refine mG_get fX7_10 dX7_desk_1 e0 (Nat.le_of_ble_eq_true rfl) rfl ?_
  refine mG_aload_n dX7_desk_4 rfl ?_
  refine mG_get fX7_23 dX7_desk_5 e0 (Nat.le_of_ble_eq_true rfl) rfl ?_
  refine mG_cv1 vX7_77 dX7_desk_8 (mLe_of rfl) (Nat.le_of_ble_eq_true rfl) e1 (Nat.le_of_ble_eq_true rfl) (ok_X1_read e1 e2 e6 e7 e8 hn ht htx) ?_
  refine mG_istore_n dX7_desk_11 (Nat.le_of_ble_eq_true rfl) rfl rfl ?_
  refine mG_iload_n dX7_desk_12 rfl ?_
  refine mG_iconst (v := (-1)) dX7_desk_13 (by decide) ?_
  refine mG_icmp_eq dX7_desk_14 (fun c14 => ?_) (fun c14 => absurd hz c14)
  refine mG_aload_n dX7_desk_22 rfl ?_
  refine mG_get fX7_19 dX7_desk_23 e0 (Nat.le_of_ble_eq_true rfl) rfl ?_
  refine mG_astore_n dX7_desk_26 (Nat.le_of_ble_eq_true rfl) rfl rfl ?_
  refine mG_aload_n dX7_desk_27 rfl ?_
  refine mG_aload_n dX7_desk_28 rfl ?_
  refine mG_get fX7_23 dX7_desk_29 e0 (Nat.le_of_ble_eq_true rfl) rfl ?_
  refine mG_putO pX7_19 dX7_desk_32 e0 (Nat.le_of_ble_eq_true rfl) (Nat.le_of_ble_eq_true rfl) ?_
  refine mG_aload_n dX7_desk_35 rfl ?_
  refine mG_aload_n dX7_desk_36 rfl ?_
  refine mG_putO pX7_23 dX7_desk_37 rfl (Nat.le_of_ble_eq_true rfl) (Nat.le_of_ble_eq_true rfl) ?_
  refine mG_aload_n dX7_desk_40 rfl ?_
  refine mG_get fX7_10 dX7_desk_41 rfl (Nat.le_of_ble_eq_true rfl) rfl ?_
  refine mG_iconst (v := nI 0) dX7_desk_44 (by decide) ?_
  refine mG_putI pX7_69 dX7_desk_45 rfl (Nat.le_of_ble_eq_true rfl) (Nat.le_of_ble_eq_true rfl) ?_
  refine mG_aload_n dX7_desk_48 rfl ?_
  refine mG_get fX7_29 dX7_desk_49 rfl (Nat.le_of_ble_eq_true rfl) rfl ?_
  refine mG_aload_n dX7_desk_52 rfl ?_
  refine mG_get fX7_19 dX7_desk_53 rfl (Nat.le_of_ble_eq_true rfl) rfl ?_
  refine mG_cw1 vX7_81 dX7_desk_56 (mLe_of rfl) (Nat.le_of_ble_eq_true rfl) e9 (Nat.le_of_ble_eq_true rfl) (ok_X3_begin rfl rfl e9 e10 e11 e12) ?_
  refine mG_aload_n dX7_desk_59 rfl ?_
  refine mG_get fX7_44 dX7_desk_60 rfl (Nat.le_of_ble_eq_true rfl) rfl ?_
  refine mG_iconst (v := nI 0) dX7_desk_63 (by decide) ?_
  refine mG_putI pX7_85 dX7_desk_64 e16 (Nat.le_of_ble_eq_true rfl) (Nat.le_of_ble_eq_true rfl) ?_
  refine mG_aload_n dX7_desk_67 rfl ?_
  refine mG_cw0 vX7_88 dX7_desk_68 (mLe_of rfl) (Nat.le_of_ble_eq_true rfl) rfl (Nat.le_of_ble_eq_true rfl) (ok_X7_forgetImages rfl rfl e15) ?_
  refine mG_aload_n dX7_desk_71 rfl ?_
  refine mG_get fX7_19 dX7_desk_72 rfl (Nat.le_of_ble_eq_true rfl) rfl ?_
  refine mG_get fX7_91 dX7_desk_75 rfl (Nat.le_of_ble_eq_true rfl) rfl ?_
  exact mG_iret dX7_desk_78 rfl ⟨rfl, ⟨rfl, ⟨(rdZ tx n t df dy).2.1, rfl, congrArg rlC e2, ⟨hzo.1.2.1, hzo.1.2.2.1, hzo.1.2.2.2⟩, Nat.zero_le _, fun j hj => absurd hj (Nat.not_lt_zero _)⟩,
      ⟨_, (rdZ tx n t df dy).2.2.2.2.1, rfl, rfl, rfl, hzo.2.1, hzo.2.2, hz4⟩, ⟨cu, dc, it, bo, tf, td, congrArg rlC e3, congrArg rlC e4, congrArg rlC e5⟩, ⟨rfl, rfl, rfl, rfl, congrArg rlC e13⟩,
      ⟨congrArg rlC i30, congrArg rlC i31, congrArg rlC i32, congrArg rlC i33, congrArg rlC i34⟩, ⟨congrArg rlC i35, congrArg rlC i36, congrArg rlC i37, congrArg rlC i38, congrArg rlC i39⟩, ⟨_, congrArg rlC e14, congrArg (Option.map (mSw true)) hg0, congrArg (Option.map (mSw true)) hg1, rfl⟩,
      ⟨rfl, congrArg rlC e17, congrArg rlC e18, Nat.zero_le _, fun j hj => absurd hj (Nat.not_lt_zero _), fun j hj => absurd hj (Nat.not_lt_zero _)⟩, ⟨_, _, congrArg rlC e19, congrArg rlC e20⟩,
      ⟨w, pl, y, ⟨rlV tv, rlV nv, wc, wla, wbe, congrArg rlC e21⟩, congrArg rlC e22, congrArg rlC e23, congrArg rlC e24, congrArg rlC e25, congrArg rlC e26, congrArg rlC e27, hw1, hy1⟩, ⟨rlV ftv, rlV fnv, fup, flo, g29, congrArg rlC e28, congrArg rlC e29⟩,
      ⟨Nat.zero_le _, Nat.zero_le _, hz5, fun j hj => hj, fun i j _ _ q => q, fun j hj => hj, fun j _ => (by decide : (0 : Nat) < 6), fun i hi => absurd hi (Nat.not_lt_zero _)⟩, fun q => Bool.noConfusion q, fun q => Bool.noConfusion q⟩, fun b hb => by simp only [hD, hR, mU, show ¬ b = 0 from by omega, show ¬ b = 1 from by omega, show ¬ b = 6 from by omega, show ¬ b = 7 from by omega, show ¬ b = 8 from by omega, show ¬ b = 9 from by omega, show ¬ b = 10 from by omega, show ¬ b = 11 from by omega, show ¬ b = 12 from by omega, show ¬ b = 15 from by omega, show ¬ b = 16 from by omega, if_false]⟩
