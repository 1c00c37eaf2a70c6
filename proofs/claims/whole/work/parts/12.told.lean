/-! Told -/
abbrev oTold (cu dc it : Nat) (bo : Bool) : mC := mOb 5 [.ref 4, .ref 5, vN cu, vN dc, vN it, vB bo]
abbrev oDraft (cu dc it : Nat) (bo : Bool) : mC := mOb 5 [.ref 7, .ref 8, vN cu, vN dc, vN it, vB bo]
def upr (bo : Bool) (x : Nat) : Nat := if bo = true ∧ x = 9 then 6 else x
theorem upr_le (bo : Bool) (x : Nat) : upr bo x ≤ x := by
  unfold upr
  split <;> omega
/-- FITS, as the class has it -/
def fit (bo : Bool) (x y : Nat) : Bool := decide (upr bo x = upr bo y)
theorem mTF_ten (E : mE) {c : Nat} (hc : c ≤ 4) : mTF E 0 c = nI (10 ^ c) := by
  rcases (show c = 0 ∨ c = 1 ∨ c = 2 ∨ c = 3 ∨ c = 4 by omega) with rfl | rfl | rfl | rfl | rfl <;> rfl
theorem mTF_six (E : mE) {c : Nat} (hc : c ≤ 4) : mTF E 1 c = nI (6 ^ c) := by
  rcases (show c = 0 ∨ c = 1 ∨ c = 2 ∨ c = 3 ∨ c = 4 by omega) with rfl | rfl | rfl | rfl | rfl <;> rfl
set_option maxRecDepth 100000 in
set_option maxHeartbeats 4000000 in
theorem ok_X5_upright {E : mE} {h : mH} {cu dc it x : Nat} {bo : Bool} (e3 : h 3 = oTold cu dc it bo) (hx : x < 2 ^ 31) : mOk E 1 zX5_upright [.ref 3, vN x] h (mX (some (vN (upr bo x))) h) := by
  refine mOk_w (L := [some (.ref 3), some (vN x)]) pn_X5 rfl (Nat.le_of_ble_eq_true rfl) rfl ?_
  refine mG_aload_n dX5_upright_0 rfl ?_
  refine mG_get fX5_28 dX5_upright_1 e3 (Nat.le_of_ble_eq_true rfl) rfl ?_
  refine mG_if_eqB dX5_upright_4 (fun c4 => ?_) (fun c4 => ?_)
  · refine mG_iload_n dX5_upright_18 rfl ?_
    exact mG_iret dX5_upright_19 rfl (mX_of (by simp [upr, *]) rfl)
  · refine mG_iload_n dX5_upright_7 rfl ?_
    refine mG_bipush (v := nI 9) dX5_upright_8 (by decide) ?_
    refine mG_icmp_neN dX5_upright_10 (by omega) (by omega) (fun c10 => ?_) (fun c10 => ?_)
    · refine mG_iload_n dX5_upright_18 rfl ?_
      exact mG_iret dX5_upright_19 rfl (mX_of (by simp [upr, *]) rfl)
    · refine mG_bipush (v := nI 6) dX5_upright_13 (by decide) ?_
      refine mG_goto dX5_upright_15 ?_
      exact mG_iret dX5_upright_19 rfl (mX_of (by simp [upr, *]) rfl)
set_option maxRecDepth 100000 in
set_option maxHeartbeats 4000000 in
theorem ok_X5_fits {E : mE} {h : mH} {cu dc it x y : Nat} {bo : Bool} (e3 : h 3 = oTold cu dc it bo) (hx : x < 2 ^ 31) (hy : y < 2 ^ 31) : mOk E 2 zX5_fits [.ref 3, vN x, vN y] h (mX (some (vB (fit bo x y))) h) := by
  have hx1 := upr_le bo x
  have hy1 := upr_le bo y
  refine mOk_w (L := [some (.ref 3), some (vN x), some (vN y)]) pn_X5 rfl (Nat.le_of_ble_eq_true rfl) rfl ?_
  refine mG_aload_n dX5_fits_0 rfl ?_
  refine mG_iload_n dX5_fits_1 rfl ?_
  refine mG_cv1 vX5_35 dX5_fits_2 (mLe_of rfl) (Nat.le_of_ble_eq_true rfl) e3 (Nat.le_of_ble_eq_true rfl) (ok_X5_upright e3 hx) ?_
  refine mG_aload_n dX5_fits_5 rfl ?_
  refine mG_iload_n dX5_fits_6 rfl ?_
  refine mG_cv1 vX5_35 dX5_fits_7 (mLe_of rfl) (Nat.le_of_ble_eq_true rfl) e3 (Nat.le_of_ble_eq_true rfl) (ok_X5_upright e3 hy) ?_
  refine mG_icmp_neN dX5_fits_10 (by omega) (by omega) (fun c10 => ?_) (fun c10 => ?_)
  · refine mG_iconst (v := mb false) dX5_fits_17 (by decide) ?_
    exact mG_zret dX5_fits_18 rfl (mX_of (by simp [fit, *]) rfl)
  · refine mG_iconst (v := mb true) dX5_fits_13 (by decide) ?_
    refine mG_goto dX5_fits_14 ?_
    exact mG_zret dX5_fits_18 rfl (mX_of (by simp [fit, *]) rfl)
set_option maxRecDepth 100000 in
set_option maxHeartbeats 4000000 in
theorem ok_X5_howMany3 {E : mE} {h : mH} {cu dc it : Nat} {bo : Bool} (e3 : h 3 = oTold cu dc it bo) (hc : cu ≤ 4) : mOk E 1 zX5_howManyNumbers [.ref 3] h (mX (some (vN (10 ^ cu))) h) := by
  refine mOk_w (L := [some (.ref 3)]) pn_X5 rfl (Nat.le_of_ble_eq_true rfl) rfl ?_
  refine mG_getsN (t := 0) dX5_howManyNumbers_0 (by decide) (by decide) ?_
  refine mG_aload_n dX5_howManyNumbers_3 rfl ?_
  refine mG_get fX5_18 dX5_howManyNumbers_4 e3 (Nat.le_of_ble_eq_true rfl) rfl ?_
  refine mG_tald (t := 0) dX5_howManyNumbers_7 (by decide) (Nat.le_of_ble_eq_true rfl) (by show cu < 5; omega) ?_
  rw [mTF_ten E hc]
  exact mG_iret dX5_howManyNumbers_8 rfl (mX_of rfl rfl)
set_option maxRecDepth 100000 in
set_option maxHeartbeats 4000000 in
theorem ok_X5_howMany6 {E : mE} {h : mH} {cu dc it : Nat} {bo : Bool} (e6 : h 6 = oDraft cu dc it bo) (hc : cu ≤ 4) : mOk E 1 zX5_howManyNumbers [.ref 6] h (mX (some (vN (10 ^ cu))) h) := by
  refine mOk_w (L := [some (.ref 6)]) pn_X5 rfl (Nat.le_of_ble_eq_true rfl) rfl ?_
  refine mG_getsN (t := 0) dX5_howManyNumbers_0 (by decide) (by decide) ?_
  refine mG_aload_n dX5_howManyNumbers_3 rfl ?_
  refine mG_get fX5_18 dX5_howManyNumbers_4 e6 (Nat.le_of_ble_eq_true rfl) rfl ?_
  refine mG_tald (t := 0) dX5_howManyNumbers_7 (by decide) (Nat.le_of_ble_eq_true rfl) (by show cu < 5; omega) ?_
  rw [mTF_ten E hc]
  exact mG_iret dX5_howManyNumbers_8 rfl (mX_of rfl rfl)
set_option maxRecDepth 100000 in
set_option maxHeartbeats 4000000 in
theorem ok_X5_empty {E : mE} {h : mH} {cu dc it : Nat} {bo : Bool} (e6 : h 6 = oDraft cu dc it bo) : mOk E 1 zX5_empty [.ref 6] h (mX none (mU h 6 (oDraft 0 0 0 false))) := by
  refine mOk_w (L := [some (.ref 6)]) pn_X5 rfl (Nat.le_of_ble_eq_true rfl) rfl ?_
  refine mG_aload_n dX5_empty_0 rfl ?_
  refine mG_iconst (v := nI 0) dX5_empty_1 (by decide) ?_
  refine mG_putI pX5_18 dX5_empty_2 e6 (Nat.le_of_ble_eq_true rfl) (Nat.le_of_ble_eq_true rfl) ?_
  refine mG_aload_n dX5_empty_5 rfl ?_
  refine mG_iconst (v := nI 0) dX5_empty_6 (by decide) ?_
  refine mG_putI pX5_22 dX5_empty_7 rfl (Nat.le_of_ble_eq_true rfl) (Nat.le_of_ble_eq_true rfl) ?_
  refine mG_aload_n dX5_empty_10 rfl ?_
  refine mG_iconst (v := nI 0) dX5_empty_11 (by decide) ?_
  refine mG_putI pX5_25 dX5_empty_12 rfl (Nat.le_of_ble_eq_true rfl) (Nat.le_of_ble_eq_true rfl) ?_
  refine mG_aload_n dX5_empty_15 rfl ?_
  refine mG_iconst (v := mb false) dX5_empty_16 (by decide) ?_
  refine mG_putZ pX5_28 dX5_empty_17 rfl (Nat.le_of_ble_eq_true rfl) (Nat.le_of_ble_eq_true rfl) ?_
  exact mG_vret dX5_empty_20 rfl (mX_of rfl (by simp only [mU_same]; rfl))
