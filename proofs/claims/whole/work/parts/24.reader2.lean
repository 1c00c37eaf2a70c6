/-! Reader: ITEMS -/
def tkOK (n : Nat) (t : mTk) : Prop := t.1 ≤ n ∧ t.2.1 ≤ 4 ∧ t.2.2.1 ≤ 100 ∧ t.2.2.2 ≤ 10000
theorem nxT_ok {tx : Nat → Nat} {n : Nat} {t : mTk} (hn : n ≤ 100) (htx : ∀ j, j < n → tx j < 256) (h : tkOK n t) : tkOK n (nxT tx n t) := by
  obtain ⟨h1, h2, h3, h4⟩ := h
  have hs := skF_le tx (n - t.1) t.1
  unfold nxT tkB
  generalize skF tx (n - t.1) t.1 = b at hs
  split
  · exact ⟨by show b ≤ n; omega, by show (0 : Nat) ≤ 4; decide, by show b ≤ 100; omega, h4⟩
  · rename_i hb
    split
    · have hl := leF_le tx (n - (b + 1)) (b + 1)
      have ht := htx b (by omega)
      refine ⟨by show leF tx _ _ ≤ n; omega, by show (1 : Nat) ≤ 4; decide, by show b ≤ 100; omega, ?_⟩
      show (if _ then _ else _) ≤ _
      split <;> omega
    · split
      · have hl := dgF_le tx (n - b) b 0 (by decide)
        refine ⟨by show (dgF tx _ _ _).1 ≤ n; omega, ?_, by show b ≤ 100; omega, hl.2.2⟩
        show (if _ then _ else _) ≤ 4
        split <;> omega
      · refine ⟨by show b + 1 ≤ n; omega, ?_, by show b ≤ 100; omega, h4⟩
        show (if _ then _ else _) ≤ 4
        split <;> omega
def hR (h : mH) (n : Nat) (t : mTk) (cu dc it : Nat) (bo : Bool) (df dy : Nat → Nat) : mH := mU (mU (mU (mU h 1 (oRt n t)) 6 (oDraft cu dc it bo)) 7 (mAr 24 df)) 8 (mAr 6 dy)
theorem hR_1 (h : mH) (n : Nat) (t t' : mTk) (cu dc it : Nat) (bo : Bool) (df dy : Nat → Nat) : mU (hR h n t cu dc it bo df dy) 1 (oRt n t') = hR h n t' cu dc it bo df dy := by
  funext j
  unfold hR mU
  by_cases q : j = 1
  · simp [q]
  · simp [q]
theorem hR_6 (h : mH) (n : Nat) (t : mTk) (cu dc it cu' dc' it' : Nat) (bo bo' : Bool) (df dy : Nat → Nat) : mU (hR h n t cu dc it bo df dy) 6 (oDraft cu' dc' it' bo') = hR h n t cu' dc' it' bo' df dy := by
  funext j
  unfold hR mU
  by_cases q : j = 6
  · simp [q]
  · simp [q]
theorem hR_7 (h : mH) (n : Nat) (t : mTk) (cu dc it : Nat) (bo : Bool) (df df' dy : Nat → Nat) : mU (hR h n t cu dc it bo df dy) 7 (mAr 24 df') = hR h n t cu dc it bo df' dy := by
  funext j
  unfold hR mU
  by_cases q : j = 7
  · simp [q]
  · simp [q]
theorem hR_8 (h : mH) (n : Nat) (t : mTk) (cu dc it : Nat) (bo : Bool) (df dy dy' : Nat → Nat) : mU (hR h n t cu dc it bo df dy) 8 (mAr 6 dy') = hR h n t cu dc it bo df dy' := by
  funext j
  unfold hR mU
  by_cases q : j = 8
  · simp [q]
  · simp [q]
def isN (t : mTk) (b : Nat) : Bool := decide (t.2.1 = 2 ∧ t.2.2.2 < b)
set_option maxRecDepth 100000 in
set_option maxHeartbeats 4000000 in
theorem ok_X1_below {E : mE} {h : mH} {n b : Nat} {t : mTk} (e1 : h 1 = oRt n t) (ht : tkOK n t) (hb : b < 2 ^ 31) : mOk E 1 zX1_isNumberBelow [.ref 1, vN b] h (mX (some (vB (isN t b))) h) := by
  obtain ⟨h1, h2, h3, h4⟩ := ht
  refine mOk_w (L := [some (.ref 1), some (vN b)]) pn_X1 rfl (Nat.le_of_ble_eq_true rfl) rfl ?_
  refine mG_aload_n dX1_isNumberBelow_0 rfl ?_
  refine mG_get fX1_30 dX1_isNumberBelow_1 e1 (Nat.le_of_ble_eq_true rfl) rfl ?_
  refine mG_iconst (v := nI 2) dX1_isNumberBelow_4 (by decide) ?_
  refine mG_icmp_neN dX1_isNumberBelow_5 (by omega) (by omega) (fun c5 => ?_) (fun c5 => ?_)
  · refine mG_iconst (v := mb false) dX1_isNumberBelow_20 (by decide) ?_
    exact mG_zret dX1_isNumberBelow_21 rfl (mX_of (by unfold isN; congr 3; first | (exact (decide_eq_true (And.intro c5 c13)).symm) | (refine (decide_eq_false ?_).symm; omega)) rfl)
  · refine mG_aload_n dX1_isNumberBelow_8 rfl ?_
    refine mG_get fX1_43 dX1_isNumberBelow_9 e1 (Nat.le_of_ble_eq_true rfl) rfl ?_
    refine mG_iload_n dX1_isNumberBelow_12 rfl ?_
    refine mG_icmp_geN dX1_isNumberBelow_13 (by omega) (by omega) (fun c13 => ?_) (fun c13 => ?_)
    · refine mG_iconst (v := mb false) dX1_isNumberBelow_20 (by decide) ?_
      exact mG_zret dX1_isNumberBelow_21 rfl (mX_of (by unfold isN; congr 3; first | (exact (decide_eq_true (And.intro c5 c13)).symm) | (refine (decide_eq_false ?_).symm; omega)) rfl)
    · refine mG_iconst (v := mb true) dX1_isNumberBelow_16 (by decide) ?_
      refine mG_goto dX1_isNumberBelow_17 ?_
      exact mG_zret dX1_isNumberBelow_21 rfl (mX_of (by unfold isN; congr 3; first | (exact (decide_eq_true (And.intro c5 c13)).symm) | (refine (decide_eq_false ?_).symm; omega)) rfl)
set_option maxRecDepth 100000 in
set_option maxHeartbeats 4000000 in
theorem ok_X1_both {E : mE} {h : mH} {n cu dc it : Nat} {t : mTk} {bo : Bool} {df dy : Nat → Nat}  : mOk E 1 zX1_readBoth [.ref 1, .ref 6] (hR h n t cu dc it bo df dy) (mX (some (vB (!bo))) (hR h n t cu dc it true df dy)) := by
  refine mOk_w (L := [some (.ref 1), some (.ref 6)]) pn_X1 rfl (Nat.le_of_ble_eq_true rfl) rfl ?_
  refine mG_aload_n dX1_readBoth_0 rfl ?_
  refine mG_get fX1_55 dX1_readBoth_1 rfl (Nat.le_of_ble_eq_true rfl) rfl ?_
  refine mG_if_eqB dX1_readBoth_4 (fun c4 => ?_) (fun c4 => ?_)
  · refine mG_aload_n dX1_readBoth_9 rfl ?_
    refine mG_iconst (v := mb true) dX1_readBoth_10 (by decide) ?_
    refine mG_putZ pX1_55 dX1_readBoth_11 rfl (Nat.le_of_ble_eq_true rfl) (Nat.le_of_ble_eq_true rfl) ?_
    refine mG_iconst (v := mb true) dX1_readBoth_14 (by decide) ?_
    exact mG_zret dX1_readBoth_15 rfl (mX_of (by rw [c4]; rfl) (hR_6 _ _ _ _ _ _ _ _ _ _ _ _ _))
  · refine mG_iconst (v := mb false) dX1_readBoth_7 (by decide) ?_
    exact mG_zret dX1_readBoth_8 rfl (mX_of (by rw [c4]; rfl) (by rw [c4]))
def rcF (tx : Nat → Nat) (n cu : Nat) : Nat → Nat → mTk → (Nat → Nat) → Bool × mTk × (Nat → Nat)
  | 0, _, t, df => (true, t, df)
  | k + 1, s, t, df => if isN (nxT tx n t) 10 = true then rcF tx n cu k (s + 1) (nxT tx n t) (mUp df (cu * 6 + s) (nxT tx n t).2.2.2) else (false, nxT tx n t, df)
def rcT (tx : Nat → Nat) (n : Nat) (t : mTk) (cu : Nat) (df : Nat → Nat) : Bool × mTk × Nat × (Nat → Nat) := if cu < 4 then ((rcF tx n cu 6 0 t df).1, (rcF tx n cu 6 0 t df).2.1, if (rcF tx n cu 6 0 t df).1 = true then cu + 1 else cu, (rcF tx n cu 6 0 t df).2.2) else (false, t, cu, df)
def rdT (tx : Nat → Nat) (n : Nat) (t : mTk) (cu dc : Nat) (dy : Nat → Nat) : Bool × mTk × Nat × (Nat → Nat) := if dc < 6 then (if isN (nxT tx n t) (10 ^ cu) = true then (true, nxT tx n t, dc + 1, mUp dy dc (nxT tx n t).2.2.2) else (false, nxT tx n t, dc, dy)) else (false, t, dc, dy)
theorem rcF_ok {tx : Nat → Nat} {n cu : Nat} (hn : n ≤ 100) (htx : ∀ j, j < n → tx j < 256) : ∀ k s t df, tkOK n t → tkOK n (rcF tx n cu k s t df).2.1 := by
  intro k
  induction k with
  | zero => intro s t df h; exact h
  | succ k ih =>
    intro s t df h
    unfold rcF
    split
    · exact ih _ _ _ (nxT_ok hn htx h)
    · exact nxT_ok hn htx h
set_option maxRecDepth 100000 in
set_option maxHeartbeats 4000000 in
theorem lp_X1_cube {E : mE} {h : mH} {n cu dc it : Nat} {bo : Bool} {dy tx : Nat → Nat} {Z : Bool × mTk × (Nat → Nat)} (e2 : h 2 = mAr 100 tx) (hn : n ≤ 100) (htx : ∀ j, j < n → tx j < 256) (hc : cu < 4) : ∀ (k i : Nat) (t : mTk) (df : Nat → Nat), i + k = 6 → tkOK n t → Z = rcF tx n cu k i t df → mG E (mR 4, zX1_readCube) (mKq E (mR 4) mN (mX (some (vB Z.1)) (hR h n Z.2.1 (if Z.1 = true then cu + 1 else cu) dc it bo Z.2.2 dy))) 12 [some (.ref 1), some (.ref 6), some (vN i)] [] (mN, 0, 0) (hR h n t cu dc it bo df dy) := by
  intro k
  induction k with
  | zero =>
    intro i t df hk ht hZ
    refine mG_iload_n dX1_readCube_12 rfl ?_
    refine mG_bipush (v := nI 6) dX1_readCube_13 (by decide) ?_
    refine mG_icmp_geN dX1_readCube_15 (by omega) (by omega) (fun c15 => ?_) (fun c15 => absurd c15 (by omega))
    refine mG_aload_n dX1_readCube_57 rfl ?_
    refine mG_dup dX1_readCube_58 rfl ?_
    refine mG_get fX1_59 dX1_readCube_59 rfl (Nat.le_of_ble_eq_true rfl) rfl ?_
    refine mG_iconst (v := nI 1) dX1_readCube_62 (by decide) ?_
    refine mG_iaddN dX1_readCube_63 ?_
    refine mG_putI pX1_59 dX1_readCube_64 rfl (Nat.le_of_ble_eq_true rfl) (Nat.le_of_ble_eq_true rfl) ?_
    refine mG_iconst (v := mb true) dX1_readCube_67 (by decide) ?_
    exact mG_zret dX1_readCube_68 rfl (mX_of (by rw [hZ]; rfl) (by rw [hZ]; exact hR_6 _ _ _ _ _ _ _ _ _ _ _ _ _))
  | succ k ih =>
    intro i t df hk ht hZ
    refine mG_iload_n dX1_readCube_12 rfl ?_
    refine mG_bipush (v := nI 6) dX1_readCube_13 (by decide) ?_
    refine mG_icmp_geN dX1_readCube_15 (by omega) (by omega) (fun c15 => absurd c15 (by omega)) (fun c15 => ?_)
    refine mG_aload_n dX1_readCube_18 rfl ?_
    refine mG_cw0 vX1_27 dX1_readCube_19 (mLe_of rfl) (Nat.le_of_ble_eq_true rfl) rfl (Nat.le_of_ble_eq_true rfl) (ok_X1_next rfl e2 hn ht.1 htx) ?_
    rw [hR_1]
    have ht2 := nxT_ok hn htx ht
    refine mG_aload_n dX1_readCube_22 rfl ?_
    refine mG_bipush (v := nI 10) dX1_readCube_23 (by decide) ?_
    refine mG_cv1 vX1_62 dX1_readCube_25 (mLe_of rfl) (Nat.le_of_ble_eq_true rfl) rfl (Nat.le_of_ble_eq_true rfl) (ok_X1_below rfl ht2 (by decide)) ?_
    refine mG_if_neB dX1_readCube_28 (fun c28 => ?_) (fun c28 => ?_)
    · refine mG_aload_n dX1_readCube_33 rfl ?_
      refine mG_get fX1_66 dX1_readCube_34 rfl (Nat.le_of_ble_eq_true rfl) rfl ?_
      refine mG_aload_n dX1_readCube_37 rfl ?_
      refine mG_get fX1_59 dX1_readCube_38 rfl (Nat.le_of_ble_eq_true rfl) rfl ?_
      refine mG_bipush (v := nI 6) dX1_readCube_41 (by decide) ?_
      refine mG_imulN dX1_readCube_43 ?_
      refine mG_iload_n dX1_readCube_44 rfl ?_
      refine mG_iaddN dX1_readCube_45 ?_
      refine mG_aload_n dX1_readCube_46 rfl ?_
      refine mG_get fX1_43 dX1_readCube_47 rfl (Nat.le_of_ble_eq_true rfl) rfl ?_
      refine mG_iastA dX1_readCube_50 rfl (Nat.le_of_ble_eq_true rfl) (by decide) (by omega) ?_
      refine mG_iincN dX1_readCube_51 rfl (Nat.le_of_ble_eq_true rfl) rfl rfl ?_
      refine mG_goto dX1_readCube_54 ?_
      rw [hR_7]
      exact ih (i + 1) _ _ (by omega) ht2 (by rw [hZ]; simp only [rcF, c28, if_true])
    · refine mG_iconst (v := mb false) dX1_readCube_31 (by decide) ?_
      exact mG_zret dX1_readCube_32 rfl (mX_of (by rw [hZ]; simp only [rcF, c28, Bool.false_eq_true, if_false]) (by rw [hZ]; simp only [rcF, c28, Bool.false_eq_true, if_false]))
set_option maxRecDepth 100000 in
set_option maxHeartbeats 4000000 in
theorem ok_X1_cube {E : mE} {h : mH} {n cu dc it : Nat} {t : mTk} {bo : Bool} {df dy tx : Nat → Nat} (e2 : h 2 = mAr 100 tx) (hn : n ≤ 100) (ht : tkOK n t) (htx : ∀ j, j < n → tx j < 256) (hc : cu ≤ 4) : mOk E 4 zX1_readCube [.ref 1, .ref 6] (hR h n t cu dc it bo df dy) (mX (some (vB (rcT tx n t cu df).1)) (hR h n (rcT tx n t cu df).2.1 (rcT tx n t cu df).2.2.1 dc it bo (rcT tx n t cu df).2.2.2 dy)) := by
  refine mOk_w (L := [some (.ref 1), some (.ref 6), none]) pn_X1 rfl (Nat.le_of_ble_eq_true rfl) rfl ?_
  refine mG_aload_n dX1_readCube_0 rfl ?_
  refine mG_get fX1_59 dX1_readCube_1 rfl (Nat.le_of_ble_eq_true rfl) rfl ?_
  refine mG_iconst (v := nI 4) dX1_readCube_4 (by decide) ?_
  refine mG_icmp_ltN dX1_readCube_5 (by omega) (by omega) (fun c5 => ?_) (fun c5 => ?_)
  · refine mG_iconst (v := nI 0) dX1_readCube_10 (by decide) ?_
    refine mG_istore_n dX1_readCube_11 (Nat.le_of_ble_eq_true rfl) rfl rfl ?_
    have q := lp_X1_cube (E := E) (h := h) (dc := dc) (it := it) (bo := bo) (dy := dy) (Z := rcF tx n cu 6 0 t df) e2 hn htx c5 6 0 t df rfl ht rfl
    rw [rcT, if_pos c5]
    exact q
  · refine mG_iconst (v := mb false) dX1_readCube_8 (by decide) ?_
    exact mG_zret dX1_readCube_9 rfl (mX_of (by rw [rcT, if_neg (by omega)]) (by rw [rcT, if_neg (by omega)]))
set_option maxRecDepth 100000 in
set_option maxHeartbeats 4000000 in
theorem ok_X1_day {E : mE} {h : mH} {n cu dc it : Nat} {t : mTk} {bo : Bool} {df dy tx : Nat → Nat} (e2 : h 2 = mAr 100 tx) (hn : n ≤ 100) (ht : tkOK n t) (htx : ∀ j, j < n → tx j < 256) (hc : cu ≤ 4) (hdc : dc ≤ 6) : mOk E 4 zX1_readDay [.ref 1, .ref 6] (hR h n t cu dc it bo df dy) (mX (some (vB (rdT tx n t cu dc dy).1)) (hR h n (rdT tx n t cu dc dy).2.1 cu (rdT tx n t cu dc dy).2.2.1 it bo df (rdT tx n t cu dc dy).2.2.2)) := by
  refine mOk_w (L := [some (.ref 1), some (.ref 6)]) pn_X1 rfl (Nat.le_of_ble_eq_true rfl) rfl ?_
  refine mG_aload_n dX1_readDay_0 rfl ?_
  refine mG_get fX1_69 dX1_readDay_1 rfl (Nat.le_of_ble_eq_true rfl) rfl ?_
  refine mG_bipush (v := nI 6) dX1_readDay_4 (by decide) ?_
  refine mG_icmp_ltN dX1_readDay_6 (by omega) (by omega) (fun c6 => ?_) (fun c6 => ?_)
  · refine mG_aload_n dX1_readDay_11 rfl ?_
    refine mG_cw0 vX1_27 dX1_readDay_12 (mLe_of rfl) (Nat.le_of_ble_eq_true rfl) rfl (Nat.le_of_ble_eq_true rfl) (ok_X1_next rfl e2 hn ht.1 htx) ?_
    rw [hR_1]
    have ht2 := nxT_ok hn htx ht
    have h10 := ten_le hc
    refine mG_aload_n dX1_readDay_15 rfl ?_
    refine mG_aload_n dX1_readDay_16 rfl ?_
    refine mG_cv0 vX1_72 dX1_readDay_17 (mLe_of rfl) (Nat.le_of_ble_eq_true rfl) rfl (Nat.le_of_ble_eq_true rfl) (ok_X5_howMany6 rfl hc) ?_
    refine mG_cv1 vX1_62 dX1_readDay_20 (mLe_of rfl) (Nat.le_of_ble_eq_true rfl) rfl (Nat.le_of_ble_eq_true rfl) (ok_X1_below rfl ht2 (by omega)) ?_
    refine mG_if_neB dX1_readDay_23 (fun c23 => ?_) (fun c23 => ?_)
    · refine mG_aload_n dX1_readDay_28 rfl ?_
      refine mG_get fX1_76 dX1_readDay_29 rfl (Nat.le_of_ble_eq_true rfl) rfl ?_
      refine mG_aload_n dX1_readDay_32 rfl ?_
      refine mG_get fX1_69 dX1_readDay_33 rfl (Nat.le_of_ble_eq_true rfl) rfl ?_
      refine mG_aload_n dX1_readDay_36 rfl ?_
      refine mG_get fX1_43 dX1_readDay_37 rfl (Nat.le_of_ble_eq_true rfl) rfl ?_
      refine mG_iastA dX1_readDay_40 rfl (Nat.le_of_ble_eq_true rfl) (by decide) (by omega) ?_
      rw [hR_8]
      refine mG_aload_n dX1_readDay_41 rfl ?_
      refine mG_dup dX1_readDay_42 rfl ?_
      refine mG_get fX1_69 dX1_readDay_43 rfl (Nat.le_of_ble_eq_true rfl) rfl ?_
      refine mG_iconst (v := nI 1) dX1_readDay_46 (by decide) ?_
      refine mG_iaddN dX1_readDay_47 ?_
      refine mG_putI pX1_69 dX1_readDay_48 rfl (Nat.le_of_ble_eq_true rfl) (Nat.le_of_ble_eq_true rfl) ?_
      refine mG_iconst (v := mb true) dX1_readDay_51 (by decide) ?_
      exact mG_zret dX1_readDay_52 rfl (mX_of (by rw [rdT, if_pos c6, if_pos c23]) (by rw [rdT, if_pos c6, if_pos c23]; exact hR_6 _ _ _ _ _ _ _ _ _ _ _ _ _))
    · refine mG_iconst (v := mb false) dX1_readDay_26 (by decide) ?_
      exact mG_zret dX1_readDay_27 rfl (mX_of (by rw [rdT, if_pos c6, if_neg (by rw [c23]; decide)]) (by rw [rdT, if_pos c6, if_neg (by rw [c23]; decide)]))
  · refine mG_iconst (v := mb false) dX1_readDay_9 (by decide) ?_
    exact mG_zret dX1_readDay_10 rfl (mX_of (by rw [rdT, if_neg (by omega)]) (by rw [rdT, if_neg (by omega)]))
/-- cubes, days, both; figures, days of the draft -/
abbrev mDr : Type := (Nat × Nat × Bool) × (Nat → Nat) × (Nat → Nat)
def hD (h : mH) (n : Nat) (t : mTk) (it : Nat) (d : mDr) : mH := hR h n t d.1.1 d.1.2.1 it d.1.2.2 d.2.1 d.2.2
/-- an ITEM till its stop -/
def riA (tx : Nat → Nat) (n : Nat) (t : mTk) (d : mDr) : Bool × mTk × mDr :=
  if t.2.1 = 1 then
    (if t.2.2.2 = 98 then (!d.1.2.2, t, ((d.1.1, d.1.2.1, true), d.2))
    else if t.2.2.2 = 99 then ((rcT tx n t d.1.1 d.2.1).1, (rcT tx n t d.1.1 d.2.1).2.1, (((rcT tx n t d.1.1 d.2.1).2.2.1, d.1.2), ((rcT tx n t d.1.1 d.2.1).2.2.2, d.2.2)))
    else if t.2.2.2 = 100 then ((rdT tx n t d.1.1 d.1.2.1 d.2.2).1, (rdT tx n t d.1.1 d.1.2.1 d.2.2).2.1, ((d.1.1, (rdT tx n t d.1.1 d.1.2.1 d.2.2).2.2.1, d.1.2.2), (d.2.1, (rdT tx n t d.1.1 d.1.2.1 d.2.2).2.2.2)))
    else (false, t, d))
  else (false, t, d)
def riT (tx : Nat → Nat) (n : Nat) (t : mTk) (d : mDr) : Bool × mTk × mDr := if (riA tx n t d).1 = true then (decide ((nxT tx n (riA tx n t d).2.1).2.1 = 3), nxT tx n (riA tx n t d).2.1, (riA tx n t d).2.2) else riA tx n t d
theorem riA_ok {tx : Nat → Nat} {n : Nat} {t : mTk} {d : mDr} (hn : n ≤ 100) (htx : ∀ j, j < n → tx j < 256) (h : tkOK n t) (h1 : d.1.1 ≤ 4) (h2 : d.1.2.1 ≤ 6) : tkOK n (riA tx n t d).2.1 ∧ (riA tx n t d).2.2.1.1 ≤ 4 ∧ (riA tx n t d).2.2.1.2.1 ≤ 6 := by
  unfold riA
  split
  · split
    · exact ⟨h, h1, h2⟩
    · split
      · unfold rcT
        split
        · refine ⟨rcF_ok hn htx _ _ _ _ h, ?_, h2⟩
          show (if (rcF tx n d.1.1 6 0 t d.2.1).1 = true then d.1.1 + 1 else d.1.1) ≤ 4
          split <;> omega
        · exact ⟨h, h1, h2⟩
      · split
        · unfold rdT
          split
          · split
            · exact ⟨nxT_ok hn htx h, h1, by show d.1.2.1 + 1 ≤ 6; omega⟩
            · exact ⟨nxT_ok hn htx h, h1, h2⟩
          · exact ⟨h, h1, h2⟩
        · exact ⟨h, h1, h2⟩
  · exact ⟨h, h1, h2⟩
theorem riT_ok {tx : Nat → Nat} {n : Nat} {t : mTk} {d : mDr} (hn : n ≤ 100) (htx : ∀ j, j < n → tx j < 256) (h : tkOK n t) (h1 : d.1.1 ≤ 4) (h2 : d.1.2.1 ≤ 6) : tkOK n (riT tx n t d).2.1 ∧ (riT tx n t d).2.2.1.1 ≤ 4 ∧ (riT tx n t d).2.2.1.2.1 ≤ 6 := by
  have q := riA_ok hn htx h h1 h2
  unfold riT
  split
  · exact ⟨nxT_ok hn htx q.1, q.2⟩
  · exact q
set_option maxRecDepth 100000 in
set_option maxHeartbeats 4000000 in
theorem le_X1_item {E : mE} {h : mH} {n it : Nat} {t : mTk} {d : mDr} {r : Bool} {tx : Nat → Nat} (e2 : h 2 = mAr 100 tx) (hn : n ≤ 100) (ht : tkOK n t) (htx : ∀ j, j < n → tx j < 256) : mG E (mR 5, zX1_readItem) (mKq E (mR 5) mN (mX (some (vB (if r = true then decide ((nxT tx n t).2.1 = 3) else false))) (hD h n (if r = true then nxT tx n t else t) it d))) 69 [some (.ref 1), some (.ref 6), some (vB r)] [] (mN, 0, 0) (hD h n t it d) := by
  have ht2 := nxT_ok hn htx ht
  have ht3 := ht2.2.1
  refine mG_iload_n dX1_readItem_69 rfl ?_
  refine mG_if_neB dX1_readItem_70 (fun c70 => ?_) (fun c70 => ?_)
  · refine mG_aload_n dX1_readItem_75 rfl ?_
    refine mG_cw0 vX1_27 dX1_readItem_76 (mLe_of rfl) (Nat.le_of_ble_eq_true rfl) rfl (Nat.le_of_ble_eq_true rfl) (ok_X1_next rfl e2 hn ht.1 htx) ?_
    rw [show mU (hD h n t it d) 1 (oRt n (nxT tx n t)) = hD h n (nxT tx n t) it d from hR_1 _ _ _ _ _ _ _ _ _ _]
    refine mG_aload_n dX1_readItem_79 rfl ?_
    refine mG_get fX1_30 dX1_readItem_80 rfl (Nat.le_of_ble_eq_true rfl) rfl ?_
    refine mG_iconst (v := nI 3) dX1_readItem_83 (by decide) ?_
    refine mG_icmp_neN dX1_readItem_84 (by omega) (by omega) (fun c84 => ?_) (fun c84 => ?_)
    · refine mG_iconst (v := mb false) dX1_readItem_91 (by decide) ?_
      exact mG_zret dX1_readItem_92 rfl (mX_of (by rw [c70]; first | (simp only [decide_eq_true c84, if_true]; done) | (simp only [decide_eq_false c84, if_true]; done)) (by rw [c70]; rfl))
    · refine mG_iconst (v := mb true) dX1_readItem_87 (by decide) ?_
      refine mG_goto dX1_readItem_88 ?_
      exact mG_zret dX1_readItem_92 rfl (mX_of (by rw [c70]; first | (simp only [decide_eq_true c84, if_true]; done) | (simp only [decide_eq_false c84, if_true]; done)) (by rw [c70]; rfl))
  · refine mG_iconst (v := mb false) dX1_readItem_73 (by decide) ?_
    exact mG_zret dX1_readItem_74 rfl (mX_of (by rw [c70]; rfl) (by rw [c70]; rfl))
set_option maxRecDepth 100000 in
set_option maxHeartbeats 4000000 in
theorem ok_X1_itemB {E : mE} {h : mH} {n it : Nat} {t : mTk} {d : mDr} {tx : Nat → Nat} (e2 : h 2 = mAr 100 tx) (hn : n ≤ 100) (ht : tkOK n t) (htx : ∀ j, j < n → tx j < 256) (h1 : d.1.1 ≤ 4) (h2 : d.1.2.1 ≤ 6) (hk : t.2.1 = 1) (hv : t.2.2.2 = 98) : mOk E 5 zX1_readItem [.ref 1, .ref 6] (hD h n t it d) (mX (some (vB (riT tx n t d).1)) (hD h n (riT tx n t d).2.1 it (riT tx n t d).2.2)) := by
  have ht4 := ht.2.1
  refine mOk_w (L := [some (.ref 1), some (.ref 6), none]) pn_X1 rfl (Nat.le_of_ble_eq_true rfl) rfl ?_
  refine mG_aload_n dX1_readItem_0 rfl ?_
  refine mG_get fX1_30 dX1_readItem_1 rfl (Nat.le_of_ble_eq_true rfl) rfl ?_
  refine mG_iconst (v := nI 1) dX1_readItem_4 (by decide) ?_
  refine mG_icmp_eqN dX1_readItem_5 (by omega) (by omega) (fun c5 => ?_) (fun c5 => absurd hk c5)
  refine mG_aload_n dX1_readItem_10 rfl ?_
  refine mG_get fX1_43 dX1_readItem_11 rfl (Nat.le_of_ble_eq_true rfl) rfl ?_
  refine mG_topN hv ?_
  refine mG_tableIn (off := 26) (tgt := 40) dX1_readItem_14 (by decide) (by decide) (by decide) (by decide) ?_
  refine mG_aload_n dX1_readItem_40 rfl ?_
  refine mG_aload_n dX1_readItem_41 rfl ?_
  refine mG_cv1 vX1_46 dX1_readItem_42 (mLe_of rfl) (Nat.le_of_ble_eq_true rfl) rfl (Nat.le_of_ble_eq_true rfl) (ok_X1_both) ?_
  refine mG_istore_n dX1_readItem_45 (Nat.le_of_ble_eq_true rfl) rfl rfl ?_
  refine mG_goto dX1_readItem_46 ?_
  have hA : riA tx n t d = (!d.1.2.2, t, ((d.1.1, d.1.2.1, true), d.2)) := by unfold riA; rw [if_pos hk, if_pos hv]
  have hok := riA_ok hn htx ht h1 h2
  have q := le_X1_item (E := E) (h := h) (it := it) (t := (riA tx n t d).2.1) (d := (riA tx n t d).2.2) (r := (riA tx n t d).1) e2 hn hok.1 htx
  have hT : (if (riA tx n t d).1 = true then decide ((nxT tx n (riA tx n t d).2.1).2.1 = 3) else false) = (riT tx n t d).1 ∧ hD h n (if (riA tx n t d).1 = true then nxT tx n (riA tx n t d).2.1 else (riA tx n t d).2.1) it (riA tx n t d).2.2 = hD h n (riT tx n t d).2.1 it (riT tx n t d).2.2 := by
    unfold riT
    split
    · exact ⟨rfl, rfl⟩
    · rename_i z
      exact ⟨((Bool.not_eq_true _).mp z).symm, rfl⟩
  rw [hT.1, hT.2, hA] at q
  exact q
set_option maxRecDepth 100000 in
set_option maxHeartbeats 4000000 in
theorem ok_X1_itemC {E : mE} {h : mH} {n it : Nat} {t : mTk} {d : mDr} {tx : Nat → Nat} (e2 : h 2 = mAr 100 tx) (hn : n ≤ 100) (ht : tkOK n t) (htx : ∀ j, j < n → tx j < 256) (h1 : d.1.1 ≤ 4) (h2 : d.1.2.1 ≤ 6) (hk : t.2.1 = 1) (hv : t.2.2.2 = 99) : mOk E 5 zX1_readItem [.ref 1, .ref 6] (hD h n t it d) (mX (some (vB (riT tx n t d).1)) (hD h n (riT tx n t d).2.1 it (riT tx n t d).2.2)) := by
  have ht4 := ht.2.1
  refine mOk_w (L := [some (.ref 1), some (.ref 6), none]) pn_X1 rfl (Nat.le_of_ble_eq_true rfl) rfl ?_
  refine mG_aload_n dX1_readItem_0 rfl ?_
  refine mG_get fX1_30 dX1_readItem_1 rfl (Nat.le_of_ble_eq_true rfl) rfl ?_
  refine mG_iconst (v := nI 1) dX1_readItem_4 (by decide) ?_
  refine mG_icmp_eqN dX1_readItem_5 (by omega) (by omega) (fun c5 => ?_) (fun c5 => absurd hk c5)
  refine mG_aload_n dX1_readItem_10 rfl ?_
  refine mG_get fX1_43 dX1_readItem_11 rfl (Nat.le_of_ble_eq_true rfl) rfl ?_
  refine mG_topN hv ?_
  refine mG_tableIn (off := 35) (tgt := 49) dX1_readItem_14 (by decide) (by decide) (by decide) (by decide) ?_
  refine mG_aload_n dX1_readItem_49 rfl ?_
  refine mG_aload_n dX1_readItem_50 rfl ?_
  refine mG_cv1 vX1_49 dX1_readItem_51 (mLe_of rfl) (Nat.le_of_ble_eq_true rfl) rfl (Nat.le_of_ble_eq_true rfl) (ok_X1_cube e2 hn ht htx h1) ?_
  refine mG_istore_n dX1_readItem_54 (Nat.le_of_ble_eq_true rfl) rfl rfl ?_
  refine mG_goto dX1_readItem_55 ?_
  have hA : riA tx n t d = ((rcT tx n t d.1.1 d.2.1).1, (rcT tx n t d.1.1 d.2.1).2.1, (((rcT tx n t d.1.1 d.2.1).2.2.1, d.1.2), ((rcT tx n t d.1.1 d.2.1).2.2.2, d.2.2))) := by unfold riA; rw [if_pos hk, if_neg (by omega), if_pos hv]
  have hok := riA_ok hn htx ht h1 h2
  have q := le_X1_item (E := E) (h := h) (it := it) (t := (riA tx n t d).2.1) (d := (riA tx n t d).2.2) (r := (riA tx n t d).1) e2 hn hok.1 htx
  have hT : (if (riA tx n t d).1 = true then decide ((nxT tx n (riA tx n t d).2.1).2.1 = 3) else false) = (riT tx n t d).1 ∧ hD h n (if (riA tx n t d).1 = true then nxT tx n (riA tx n t d).2.1 else (riA tx n t d).2.1) it (riA tx n t d).2.2 = hD h n (riT tx n t d).2.1 it (riT tx n t d).2.2 := by
    unfold riT
    split
    · exact ⟨rfl, rfl⟩
    · rename_i z
      exact ⟨((Bool.not_eq_true _).mp z).symm, rfl⟩
  rw [hT.1, hT.2, hA] at q
  exact q
set_option maxRecDepth 100000 in
set_option maxHeartbeats 4000000 in
theorem ok_X1_itemD {E : mE} {h : mH} {n it : Nat} {t : mTk} {d : mDr} {tx : Nat → Nat} (e2 : h 2 = mAr 100 tx) (hn : n ≤ 100) (ht : tkOK n t) (htx : ∀ j, j < n → tx j < 256) (h1 : d.1.1 ≤ 4) (h2 : d.1.2.1 ≤ 6) (hk : t.2.1 = 1) (hv : t.2.2.2 = 100) : mOk E 5 zX1_readItem [.ref 1, .ref 6] (hD h n t it d) (mX (some (vB (riT tx n t d).1)) (hD h n (riT tx n t d).2.1 it (riT tx n t d).2.2)) := by
  have ht4 := ht.2.1
  refine mOk_w (L := [some (.ref 1), some (.ref 6), none]) pn_X1 rfl (Nat.le_of_ble_eq_true rfl) rfl ?_
  refine mG_aload_n dX1_readItem_0 rfl ?_
  refine mG_get fX1_30 dX1_readItem_1 rfl (Nat.le_of_ble_eq_true rfl) rfl ?_
  refine mG_iconst (v := nI 1) dX1_readItem_4 (by decide) ?_
  refine mG_icmp_eqN dX1_readItem_5 (by omega) (by omega) (fun c5 => ?_) (fun c5 => absurd hk c5)
  refine mG_aload_n dX1_readItem_10 rfl ?_
  refine mG_get fX1_43 dX1_readItem_11 rfl (Nat.le_of_ble_eq_true rfl) rfl ?_
  refine mG_topN hv ?_
  refine mG_tableIn (off := 44) (tgt := 58) dX1_readItem_14 (by decide) (by decide) (by decide) (by decide) ?_
  refine mG_aload_n dX1_readItem_58 rfl ?_
  refine mG_aload_n dX1_readItem_59 rfl ?_
  refine mG_cv1 vX1_52 dX1_readItem_60 (mLe_of rfl) (Nat.le_of_ble_eq_true rfl) rfl (Nat.le_of_ble_eq_true rfl) (ok_X1_day e2 hn ht htx h1 h2) ?_
  refine mG_istore_n dX1_readItem_63 (Nat.le_of_ble_eq_true rfl) rfl rfl ?_
  refine mG_goto dX1_readItem_64 ?_
  have hA : riA tx n t d = ((rdT tx n t d.1.1 d.1.2.1 d.2.2).1, (rdT tx n t d.1.1 d.1.2.1 d.2.2).2.1, ((d.1.1, (rdT tx n t d.1.1 d.1.2.1 d.2.2).2.2.1, d.1.2.2), (d.2.1, (rdT tx n t d.1.1 d.1.2.1 d.2.2).2.2.2))) := by unfold riA; rw [if_pos hk, if_neg (by omega), if_neg (by omega), if_pos hv]
  have hok := riA_ok hn htx ht h1 h2
  have q := le_X1_item (E := E) (h := h) (it := it) (t := (riA tx n t d).2.1) (d := (riA tx n t d).2.2) (r := (riA tx n t d).1) e2 hn hok.1 htx
  have hT : (if (riA tx n t d).1 = true then decide ((nxT tx n (riA tx n t d).2.1).2.1 = 3) else false) = (riT tx n t d).1 ∧ hD h n (if (riA tx n t d).1 = true then nxT tx n (riA tx n t d).2.1 else (riA tx n t d).2.1) it (riA tx n t d).2.2 = hD h n (riT tx n t d).2.1 it (riT tx n t d).2.2 := by
    unfold riT
    split
    · exact ⟨rfl, rfl⟩
    · rename_i z
      exact ⟨((Bool.not_eq_true _).mp z).symm, rfl⟩
  rw [hT.1, hT.2, hA] at q
  exact q
set_option maxRecDepth 100000 in
set_option maxHeartbeats 4000000 in
theorem ok_X1_itemN {E : mE} {h : mH} {n it : Nat} {t : mTk} {d : mDr} {tx : Nat → Nat} (e2 : h 2 = mAr 100 tx) (hn : n ≤ 100) (ht : tkOK n t) (htx : ∀ j, j < n → tx j < 256) (h1 : d.1.1 ≤ 4) (h2 : d.1.2.1 ≤ 6) (hk : t.2.1 = 1) (hv1 : ¬ t.2.2.2 = 98) (hv2 : ¬ t.2.2.2 = 99) (hv3 : ¬ t.2.2.2 = 100) : mOk E 5 zX1_readItem [.ref 1, .ref 6] (hD h n t it d) (mX (some (vB (riT tx n t d).1)) (hD h n (riT tx n t d).2.1 it (riT tx n t d).2.2)) := by
  have ht4 := ht.2.1
  have ht5 := ht.2.2.2
  refine mOk_w (L := [some (.ref 1), some (.ref 6), none]) pn_X1 rfl (Nat.le_of_ble_eq_true rfl) rfl ?_
  refine mG_aload_n dX1_readItem_0 rfl ?_
  refine mG_get fX1_30 dX1_readItem_1 rfl (Nat.le_of_ble_eq_true rfl) rfl ?_
  refine mG_iconst (v := nI 1) dX1_readItem_4 (by decide) ?_
  refine mG_icmp_eqN dX1_readItem_5 (by omega) (by omega) (fun c5 => ?_) (fun c5 => absurd hk c5)
  refine mG_aload_n dX1_readItem_10 rfl ?_
  refine mG_get fX1_43 dX1_readItem_11 rfl (Nat.le_of_ble_eq_true rfl) rfl ?_
  refine mG_tableOut (tgt := 67) dX1_readItem_14 (by rw [nI_toInt (by omega)]; omega) (by decide) ?_
  refine mG_iconst (v := mb false) dX1_readItem_67 (by decide) ?_
  refine mG_istore_n dX1_readItem_68 (Nat.le_of_ble_eq_true rfl) rfl rfl ?_
  have hA : riA tx n t d = (false, t, d) := by unfold riA; rw [if_pos hk, if_neg (by omega), if_neg (by omega), if_neg (by omega)]
  have hok := riA_ok hn htx ht h1 h2
  have q := le_X1_item (E := E) (h := h) (it := it) (t := (riA tx n t d).2.1) (d := (riA tx n t d).2.2) (r := (riA tx n t d).1) e2 hn hok.1 htx
  have hT : (if (riA tx n t d).1 = true then decide ((nxT tx n (riA tx n t d).2.1).2.1 = 3) else false) = (riT tx n t d).1 ∧ hD h n (if (riA tx n t d).1 = true then nxT tx n (riA tx n t d).2.1 else (riA tx n t d).2.1) it (riA tx n t d).2.2 = hD h n (riT tx n t d).2.1 it (riT tx n t d).2.2 := by
    unfold riT
    split
    · exact ⟨rfl, rfl⟩
    · rename_i z
      exact ⟨((Bool.not_eq_true _).mp z).symm, rfl⟩
  rw [hT.1, hT.2, hA] at q
  exact q
set_option maxRecDepth 100000 in
set_option maxHeartbeats 4000000 in
theorem ok_X1_itemO {E : mE} {h : mH} {n it : Nat} {t : mTk} {d : mDr} {tx : Nat → Nat} (e2 : h 2 = mAr 100 tx) (hn : n ≤ 100) (ht : tkOK n t) (htx : ∀ j, j < n → tx j < 256) (h1 : d.1.1 ≤ 4) (h2 : d.1.2.1 ≤ 6) (hk : ¬ t.2.1 = 1) : mOk E 5 zX1_readItem [.ref 1, .ref 6] (hD h n t it d) (mX (some (vB (riT tx n t d).1)) (hD h n (riT tx n t d).2.1 it (riT tx n t d).2.2)) := by
  have ht4 := ht.2.1
  refine mOk_w (L := [some (.ref 1), some (.ref 6), none]) pn_X1 rfl (Nat.le_of_ble_eq_true rfl) rfl ?_
  refine mG_aload_n dX1_readItem_0 rfl ?_
  refine mG_get fX1_30 dX1_readItem_1 rfl (Nat.le_of_ble_eq_true rfl) rfl ?_
  refine mG_iconst (v := nI 1) dX1_readItem_4 (by decide) ?_
  refine mG_icmp_eqN dX1_readItem_5 (by omega) (by omega) (fun c5 => absurd c5 hk) (fun c5 => ?_)
  refine mG_iconst (v := mb false) dX1_readItem_8 (by decide) ?_
  exact mG_zret dX1_readItem_9 rfl (mX_of (by unfold riT riA; rw [if_neg hk]; rfl) (by unfold riT riA; rw [if_neg hk]; rfl))
theorem ok_X1_item {E : mE} {h : mH} {n it : Nat} {t : mTk} {d : mDr} {tx : Nat → Nat} (e2 : h 2 = mAr 100 tx) (hn : n ≤ 100) (ht : tkOK n t) (htx : ∀ j, j < n → tx j < 256) (h1 : d.1.1 ≤ 4) (h2 : d.1.2.1 ≤ 6) : mOk E 5 zX1_readItem [.ref 1, .ref 6] (hD h n t it d) (mX (some (vB (riT tx n t d).1)) (hD h n (riT tx n t d).2.1 it (riT tx n t d).2.2)) := by
  by_cases hk : t.2.1 = 1
  · by_cases q1 : t.2.2.2 = 98
    · exact ok_X1_itemB e2 hn ht htx h1 h2 hk q1
    · by_cases q2 : t.2.2.2 = 99
      · exact ok_X1_itemC e2 hn ht htx h1 h2 hk q2
      · by_cases q3 : t.2.2.2 = 100
        · exact ok_X1_itemD e2 hn ht htx h1 h2 hk q3
        · exact ok_X1_itemN e2 hn ht htx h1 h2 hk q1 q2 q3
  · exact ok_X1_itemO e2 hn ht htx h1 h2 hk
/-- all ITEMS: -1, or the FAULT -/
def rdF (tx : Nat → Nat) (n : Nat) : Nat → mTk → Nat → mDr → Int32 × mTk × Nat × mDr
  | 0, t, it, d => (-1, t, it, d)
  | k + 1, t, it, d => if (nxT tx n t).2.1 = 0 then (-1, nxT tx n t, it, d)
    else if (riT tx n (nxT tx n t) d).1 = true then rdF tx n k (riT tx n (nxT tx n t) d).2.1 (it + 1) (riT tx n (nxT tx n t) d).2.2
    else (nI (riT tx n (nxT tx n t) d).2.1.2.2.1, (riT tx n (nxT tx n t) d).2.1, it, (riT tx n (nxT tx n t) d).2.2)
set_option maxRecDepth 100000 in
set_option maxHeartbeats 4000000 in
theorem lp_X1_read {E : mE} {h : mH} {n : Nat} {tx : Nat → Nat} {Z : Int32 × mTk × Nat × mDr} (e2 : h 2 = mAr 100 tx) (hn : n ≤ 100) (htx : ∀ j, j < n → tx j < 256) : ∀ (k i : Nat) (t : mTk) (it : Nat) (d : mDr), i + k = n + 1 → tkOK n t → d.1.1 ≤ 4 → d.1.2.1 ≤ 6 → Z = rdF tx n k t it d → mG E (mR 6, zX1_read) (mKq E (mR 6) mN (mX (some (.int Z.1)) (hD h n Z.2.1 Z.2.2.1 Z.2.2.2))) 11 [some (.ref 1), some (.ref 6), some (vN i)] [] (mN, 0, 0) (hD h n t it d) := by
  intro k
  induction k with
  | zero =>
    intro i t it d hk ht h1 h2 hZ
    refine mG_iload_n dX1_read_11 rfl ?_
    refine mG_aload_n dX1_read_12 rfl ?_
    refine mG_get fX1_15 dX1_read_13 rfl (Nat.le_of_ble_eq_true rfl) rfl ?_
    refine mG_icmp_gtN dX1_read_16 (by omega) (by omega) (fun c16 => ?_) (fun c16 => absurd c16 (by omega))
    refine mG_iconst (v := (-1)) dX1_read_61 (by decide) ?_
    exact mG_iret dX1_read_62 rfl (mX_of (by rw [hZ]; rfl) (by rw [hZ]; rfl))
  | succ k ih =>
    intro i t it d hk ht h1 h2 hZ
    refine mG_iload_n dX1_read_11 rfl ?_
    refine mG_aload_n dX1_read_12 rfl ?_
    refine mG_get fX1_15 dX1_read_13 rfl (Nat.le_of_ble_eq_true rfl) rfl ?_
    refine mG_icmp_gtN dX1_read_16 (by omega) (by omega) (fun c16 => absurd c16 (by omega)) (fun c16 => ?_)
    refine mG_aload_n dX1_read_19 rfl ?_
    refine mG_cw0 vX1_27 dX1_read_20 (mLe_of rfl) (Nat.le_of_ble_eq_true rfl) rfl (Nat.le_of_ble_eq_true rfl) (ok_X1_next rfl e2 hn ht.1 htx) ?_
    rw [show mU (hD h n t it d) 1 (oRt n (nxT tx n t)) = hD h n (nxT tx n t) it d from hR_1 _ _ _ _ _ _ _ _ _ _]
    have ht2 := nxT_ok hn htx ht
    have ht3 := ht2.2.1
    have hok := riT_ok hn htx ht2 h1 h2
    refine mG_aload_n dX1_read_23 rfl ?_
    refine mG_get fX1_30 dX1_read_24 rfl (Nat.le_of_ble_eq_true rfl) rfl ?_
    refine mG_if_neN dX1_read_27 (by omega) (fun c27 => ?_) (fun c27 => ?_)
    · refine mG_aload_n dX1_read_32 rfl ?_
      refine mG_aload_n dX1_read_33 rfl ?_
      refine mG_cv1 vX1_33 dX1_read_34 (mLe_of rfl) (Nat.le_of_ble_eq_true rfl) rfl (Nat.le_of_ble_eq_true rfl) (ok_X1_item e2 hn ht2 htx h1 h2) ?_
      refine mG_if_neB dX1_read_37 (fun c37 => ?_) (fun c37 => ?_)
      · refine mG_aload_n dX1_read_45 rfl ?_
        refine mG_dup dX1_read_46 rfl ?_
        refine mG_get fX1_40 dX1_read_47 rfl (Nat.le_of_ble_eq_true rfl) rfl ?_
        refine mG_iconst (v := nI 1) dX1_read_50 (by decide) ?_
        refine mG_iaddN dX1_read_51 ?_
        refine mG_putI pX1_40 dX1_read_52 rfl (Nat.le_of_ble_eq_true rfl) (Nat.le_of_ble_eq_true rfl) ?_
        refine mG_iincN dX1_read_55 rfl (Nat.le_of_ble_eq_true rfl) rfl rfl ?_
        refine mG_goto dX1_read_58 ?_
        refine mG_heap (h' := hD h n (riT tx n (nxT tx n t) d).2.1 (it + 1) (riT tx n (nxT tx n t) d).2.2) (hR_6 h n (riT tx n (nxT tx n t) d).2.1 (riT tx n (nxT tx n t) d).2.2.1.1 (riT tx n (nxT tx n t) d).2.2.1.2.1 it (riT tx n (nxT tx n t) d).2.2.1.1 (riT tx n (nxT tx n t) d).2.2.1.2.1 (it + 1) (riT tx n (nxT tx n t) d).2.2.1.2.2 (riT tx n (nxT tx n t) d).2.2.1.2.2 (riT tx n (nxT tx n t) d).2.2.2.1 (riT tx n (nxT tx n t) d).2.2.2.2) ?_
        exact ih (i + 1) _ _ _ (by omega) hok.1 hok.2.1 hok.2.2 (by rw [hZ]; simp only [rdF, if_neg c27, c37, if_true])
      · refine mG_aload_n dX1_read_40 rfl ?_
        refine mG_get fX1_37 dX1_read_41 rfl (Nat.le_of_ble_eq_true rfl) rfl ?_
        exact mG_iret dX1_read_44 rfl (mX_of (by rw [hZ]; simp only [rdF, if_neg c27, c37, Bool.false_eq_true, if_false]) (by rw [hZ]; simp only [rdF, if_neg c27, c37, Bool.false_eq_true, if_false]))
    · refine mG_iconst (v := (-1)) dX1_read_30 (by decide) ?_
      exact mG_iret dX1_read_31 rfl (mX_of (by rw [hZ]; simp only [rdF, if_pos c27]) (by rw [hZ]; simp only [rdF, if_pos c27]))
/-- what read makes of a text -/
def rdZ (tx : Nat → Nat) (n : Nat) (t : mTk) (df dy : Nat → Nat) : Int32 × mTk × Nat × mDr := rdF tx n (n + 1) (0, t.2) 0 ((0, 0, false), (df, dy))
theorem hR_start (h : mH) (n : Nat) (t : mTk) (df dy : Nat → Nat) (e7 : h 7 = mAr 24 df) (e8 : h 8 = mAr 6 dy) : mU (mU h 6 (oDraft 0 0 0 false)) 1 (oRd n 0 t.2.1 t.2.2.1 t.2.2.2) = hD h n (0, t.2) 0 ((0, 0, false), (df, dy)) := by
  funext j
  unfold hD hR mU
  by_cases q1 : j = 8
  · subst q1; simp [e8]
  · by_cases q2 : j = 7
    · subst q2; simp [e7]
    · by_cases q3 : j = 6
      · subst q3; simp
      · by_cases q4 : j = 1
        · subst q4; simp
        · simp [q1, q2, q3, q4]
set_option maxRecDepth 100000 in
set_option maxHeartbeats 4000000 in
theorem ok_X1_read {E : mE} {h : mH} {n cu dc it : Nat} {t : mTk} {bo : Bool} {tx df dy : Nat → Nat} (e1 : h 1 = oRt n t) (e2 : h 2 = mAr 100 tx) (e6 : h 6 = oDraft cu dc it bo) (e7 : h 7 = mAr 24 df) (e8 : h 8 = mAr 6 dy) (hn : n ≤ 100) (ht : t.2.1 ≤ 4 ∧ t.2.2.1 ≤ 100 ∧ t.2.2.2 ≤ 10000) (htx : ∀ j, j < n → tx j < 256) : mOk E 6 zX1_read [.ref 1, .ref 6] h (mX (some (.int (rdZ tx n t df dy).1)) (hD h n (rdZ tx n t df dy).2.1 (rdZ tx n t df dy).2.2.1 (rdZ tx n t df dy).2.2.2)) := by
  refine mOk_w (L := [some (.ref 1), some (.ref 6), none]) pn_X1 rfl (Nat.le_of_ble_eq_true rfl) rfl ?_
  refine mG_aload_n dX1_read_0 rfl ?_
  refine mG_cw0 vX1_19 dX1_read_1 (mLe_of rfl) (Nat.le_of_ble_eq_true rfl) e6 (Nat.le_of_ble_eq_true rfl) (ok_X5_empty e6) ?_
  refine mG_aload_n dX1_read_4 rfl ?_
  refine mG_iconst (v := nI 0) dX1_read_5 (by decide) ?_
  refine mG_putI pX1_24 dX1_read_6 e1 (Nat.le_of_ble_eq_true rfl) (Nat.le_of_ble_eq_true rfl) ?_
  refine mG_iconst (v := nI 0) dX1_read_9 (by decide) ?_
  refine mG_istore_n dX1_read_10 (Nat.le_of_ble_eq_true rfl) rfl rfl ?_
  refine mG_heap (hR_start h n t df dy e7 e8) ?_
  exact lp_X1_read (E := E) (h := h) (Z := rdZ tx n t df dy) e2 hn htx (n + 1) 0 (0, t.2) 0 ((0, 0, false), (df, dy)) (Nat.zero_add _) ⟨Nat.zero_le _, ht⟩ (Nat.zero_le _) (Nat.zero_le _) rfl
theorem rdF_ok {tx : Nat → Nat} {n : Nat} (hn : n ≤ 100) (htx : ∀ j, j < n → tx j < 256) : ∀ k t it d, tkOK n t → d.1.1 ≤ 4 → d.1.2.1 ≤ 6 → tkOK n (rdF tx n k t it d).2.1 ∧ (rdF tx n k t it d).2.2.2.1.1 ≤ 4 ∧ (rdF tx n k t it d).2.2.2.1.2.1 ≤ 6 := by
  intro k
  induction k with
  | zero => intro t it d h h1 h2; exact ⟨h, h1, h2⟩
  | succ k ih =>
    intro t it d h h1 h2
    have q := riT_ok hn htx (nxT_ok hn htx h) h1 h2
    unfold rdF
    split
    · exact ⟨nxT_ok hn htx h, h1, h2⟩
    · split
      · exact ih _ _ _ q.1 q.2.1 q.2.2
      · exact q
