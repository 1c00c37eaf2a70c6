/-! DayCubes: what the calls share -/
abbrev oDay (tr : Int64) : mC := mOb 7 [.ref 1, .ref 3, .ref 6, .ref 9, .ref 14, .ref 15, .ref 16, .ref 19, .ref 21, .ref 28, .long tr]
/-- a number 0 .. n - 1 -/
def isIx (c : Int32) (n : Nat) : Bool := decide (¬ c < 0 ∧ ¬ nI n ≤ c)
theorem isIx_iff {c : Int32} {n : Nat} (hn : n < 2 ^ 31) : isIx c n = true ↔ ∃ j, j < n ∧ c = nI j := by
  unfold isIx
  rw [decide_eq_true_iff]
  constructor
  · rintro ⟨h1, h2⟩
    obtain ⟨j, hj, e⟩ := nI_of h1
    rw [e] at h2
    exact ⟨j, Nat.not_le.mp (fun q => h2 ((nI_leI hn hj).mpr q)), e⟩
  · rintro ⟨j, hj, rfl⟩
    exact ⟨nI_pos (by omega), fun q => absurd ((nI_leI hn (by omega)).mp q) (by omega)⟩
theorem isIx_nI {j n : Nat} (hn : n < 2 ^ 31) (hj : j < n) : isIx (nI j) n = true := (isIx_iff hn).mpr ⟨j, hj, rfl⟩
set_option maxRecDepth 100000 in
set_option maxHeartbeats 4000000 in
theorem ok_X7_isSide {E : mE} {h : mH} {c : Int32} : mOk E 1 zX7_isSide [.int c] h (mX (some (vB (isIx c 6))) h) := by
  refine mOk_w (L := [some (.int c)]) pn_X7 rfl (Nat.le_of_ble_eq_true rfl) rfl ?_
  refine mG_iload_n dX7_isSide_0 rfl ?_
  refine mG_if_lt dX7_isSide_1 (fun c1 => ?_) (fun c1 => ?_)
  · refine mG_iconst (v := mb false) dX7_isSide_14 (by decide) ?_
    exact mG_zret dX7_isSide_15 rfl (mX_of (by unfold isIx; congr 3; first | (exact (decide_eq_true (And.intro c1 c7)).symm) | (refine (decide_eq_false ?_).symm; intro q; first | exact q.1 c1 | exact q.2 c7)) rfl)
  · refine mG_iload_n dX7_isSide_4 rfl ?_
    refine mG_bipush (v := nI 6) dX7_isSide_5 (by decide) ?_
    refine mG_icmp_ge dX7_isSide_7 (fun c7 => ?_) (fun c7 => ?_)
    · refine mG_iconst (v := mb false) dX7_isSide_14 (by decide) ?_
      exact mG_zret dX7_isSide_15 rfl (mX_of (by unfold isIx; congr 3; first | (exact (decide_eq_true (And.intro c1 c7)).symm) | (refine (decide_eq_false ?_).symm; intro q; first | exact q.1 c1 | exact q.2 c7)) rfl)
    · refine mG_iconst (v := mb true) dX7_isSide_10 (by decide) ?_
      refine mG_goto dX7_isSide_11 ?_
      exact mG_zret dX7_isSide_15 rfl (mX_of (by unfold isIx; congr 3; first | (exact (decide_eq_true (And.intro c1 c7)).symm) | (refine (decide_eq_false ?_).symm; intro q; first | exact q.1 c1 | exact q.2 c7)) rfl)
set_option maxRecDepth 100000 in
set_option maxHeartbeats 4000000 in
theorem ok_X7_isFigure {E : mE} {h : mH} {c : Int32} : mOk E 1 zX7_isFigure [.int c] h (mX (some (vB (isIx c 10))) h) := by
  refine mOk_w (L := [some (.int c)]) pn_X7 rfl (Nat.le_of_ble_eq_true rfl) rfl ?_
  refine mG_iload_n dX7_isFigure_0 rfl ?_
  refine mG_if_lt dX7_isFigure_1 (fun c1 => ?_) (fun c1 => ?_)
  · refine mG_iconst (v := mb false) dX7_isFigure_14 (by decide) ?_
    exact mG_zret dX7_isFigure_15 rfl (mX_of (by unfold isIx; congr 3; first | (exact (decide_eq_true (And.intro c1 c7)).symm) | (refine (decide_eq_false ?_).symm; intro q; first | exact q.1 c1 | exact q.2 c7)) rfl)
  · refine mG_iload_n dX7_isFigure_4 rfl ?_
    refine mG_bipush (v := nI 10) dX7_isFigure_5 (by decide) ?_
    refine mG_icmp_ge dX7_isFigure_7 (fun c7 => ?_) (fun c7 => ?_)
    · refine mG_iconst (v := mb false) dX7_isFigure_14 (by decide) ?_
      exact mG_zret dX7_isFigure_15 rfl (mX_of (by unfold isIx; congr 3; first | (exact (decide_eq_true (And.intro c1 c7)).symm) | (refine (decide_eq_false ?_).symm; intro q; first | exact q.1 c1 | exact q.2 c7)) rfl)
    · refine mG_iconst (v := mb true) dX7_isFigure_10 (by decide) ?_
      refine mG_goto dX7_isFigure_11 ?_
      exact mG_zret dX7_isFigure_15 rfl (mX_of (by unfold isIx; congr 3; first | (exact (decide_eq_true (And.intro c1 c7)).symm) | (refine (decide_eq_false ?_).symm; intro q; first | exact q.1 c1 | exact q.2 c7)) rfl)
set_option maxRecDepth 100000 in
set_option maxHeartbeats 4000000 in
theorem ok_X7_isImage {E : mE} {h : mH} {c : Int32} : mOk E 1 zX7_isImage [.int c] h (mX (some (vB (isIx c 2))) h) := by
  refine mOk_w (L := [some (.int c)]) pn_X7 rfl (Nat.le_of_ble_eq_true rfl) rfl ?_
  refine mG_iload_n dX7_isImage_0 rfl ?_
  refine mG_if_lt dX7_isImage_1 (fun c1 => ?_) (fun c1 => ?_)
  · refine mG_iconst (v := mb false) dX7_isImage_13 (by decide) ?_
    exact mG_zret dX7_isImage_14 rfl (mX_of (by unfold isIx; congr 3; first | (exact (decide_eq_true (And.intro c1 c6)).symm) | (refine (decide_eq_false ?_).symm; intro q; first | exact q.1 c1 | exact q.2 c6)) rfl)
  · refine mG_iload_n dX7_isImage_4 rfl ?_
    refine mG_iconst (v := nI 2) dX7_isImage_5 (by decide) ?_
    refine mG_icmp_ge dX7_isImage_6 (fun c6 => ?_) (fun c6 => ?_)
    · refine mG_iconst (v := mb false) dX7_isImage_13 (by decide) ?_
      exact mG_zret dX7_isImage_14 rfl (mX_of (by unfold isIx; congr 3; first | (exact (decide_eq_true (And.intro c1 c6)).symm) | (refine (decide_eq_false ?_).symm; intro q; first | exact q.1 c1 | exact q.2 c6)) rfl)
    · refine mG_iconst (v := mb true) dX7_isImage_9 (by decide) ?_
      refine mG_goto dX7_isImage_10 ?_
      exact mG_zret dX7_isImage_14 rfl (mX_of (by unfold isIx; congr 3; first | (exact (decide_eq_true (And.intro c1 c6)).symm) | (refine (decide_eq_false ?_).symm; intro q; first | exact q.1 c1 | exact q.2 c6)) rfl)
set_option maxRecDepth 100000 in
set_option maxHeartbeats 4000000 in
theorem ok_X7_isCube {E : mE} {h : mH} {tr : Int64} {cu dc it : Nat} {bo : Bool} {c : Int32} (e0 : h 0 = oDay tr) (e3 : h 3 = oTold cu dc it bo) : mOk E 1 zX7_isCube [.ref 0, .int c] h (mX (some (vB (isIx c cu))) h) := by
  refine mOk_w (L := [some (.ref 0), some (.int c)]) pn_X7 rfl (Nat.le_of_ble_eq_true rfl) rfl ?_
  refine mG_iload_n dX7_isCube_0 rfl ?_
  refine mG_if_lt dX7_isCube_1 (fun c1 => ?_) (fun c1 => ?_)
  · refine mG_iconst (v := mb false) dX7_isCube_19 (by decide) ?_
    exact mG_zret dX7_isCube_20 rfl (mX_of (by unfold isIx; congr 3; first | (exact (decide_eq_true (And.intro c1 c12)).symm) | (refine (decide_eq_false ?_).symm; intro q; first | exact q.1 c1 | exact q.2 c12)) rfl)
  · refine mG_iload_n dX7_isCube_4 rfl ?_
    refine mG_aload_n dX7_isCube_5 rfl ?_
    refine mG_get fX7_19 dX7_isCube_6 e0 (Nat.le_of_ble_eq_true rfl) rfl ?_
    refine mG_get fX7_197 dX7_isCube_9 e3 (Nat.le_of_ble_eq_true rfl) rfl ?_
    refine mG_icmp_ge dX7_isCube_12 (fun c12 => ?_) (fun c12 => ?_)
    · refine mG_iconst (v := mb false) dX7_isCube_19 (by decide) ?_
      exact mG_zret dX7_isCube_20 rfl (mX_of (by unfold isIx; congr 3; first | (exact (decide_eq_true (And.intro c1 c12)).symm) | (refine (decide_eq_false ?_).symm; intro q; first | exact q.1 c1 | exact q.2 c12)) rfl)
    · refine mG_iconst (v := mb true) dX7_isCube_15 (by decide) ?_
      refine mG_goto dX7_isCube_16 ?_
      exact mG_zret dX7_isCube_20 rfl (mX_of (by unfold isIx; congr 3; first | (exact (decide_eq_true (And.intro c1 c12)).symm) | (refine (decide_eq_false ?_).symm; intro q; first | exact q.1 c1 | exact q.2 c12)) rfl)
set_option maxRecDepth 100000 in
set_option maxHeartbeats 4000000 in
theorem ok_X7_isPlace {E : mE} {h : mH} {tr : Int64} {cu dc it : Nat} {bo : Bool} {c : Int32} (e0 : h 0 = oDay tr) (e3 : h 3 = oTold cu dc it bo) : mOk E 1 zX7_isPlace [.ref 0, .int c] h (mX (some (vB (isIx c cu))) h) := by
  refine mOk_w (L := [some (.ref 0), some (.int c)]) pn_X7 rfl (Nat.le_of_ble_eq_true rfl) rfl ?_
  refine mG_iload_n dX7_isPlace_0 rfl ?_
  refine mG_if_lt dX7_isPlace_1 (fun c1 => ?_) (fun c1 => ?_)
  · refine mG_iconst (v := mb false) dX7_isPlace_19 (by decide) ?_
    exact mG_zret dX7_isPlace_20 rfl (mX_of (by unfold isIx; congr 3; first | (exact (decide_eq_true (And.intro c1 c12)).symm) | (refine (decide_eq_false ?_).symm; intro q; first | exact q.1 c1 | exact q.2 c12)) rfl)
  · refine mG_iload_n dX7_isPlace_4 rfl ?_
    refine mG_aload_n dX7_isPlace_5 rfl ?_
    refine mG_get fX7_19 dX7_isPlace_6 e0 (Nat.le_of_ble_eq_true rfl) rfl ?_
    refine mG_get fX7_197 dX7_isPlace_9 e3 (Nat.le_of_ble_eq_true rfl) rfl ?_
    refine mG_icmp_ge dX7_isPlace_12 (fun c12 => ?_) (fun c12 => ?_)
    · refine mG_iconst (v := mb false) dX7_isPlace_19 (by decide) ?_
      exact mG_zret dX7_isPlace_20 rfl (mX_of (by unfold isIx; congr 3; first | (exact (decide_eq_true (And.intro c1 c12)).symm) | (refine (decide_eq_false ?_).symm; intro q; first | exact q.1 c1 | exact q.2 c12)) rfl)
    · refine mG_iconst (v := mb true) dX7_isPlace_15 (by decide) ?_
      refine mG_goto dX7_isPlace_16 ?_
      exact mG_zret dX7_isPlace_20 rfl (mX_of (by unfold isIx; congr 3; first | (exact (decide_eq_true (And.intro c1 c12)).symm) | (refine (decide_eq_false ?_).symm; intro q; first | exact q.1 c1 | exact q.2 c12)) rfl)
set_option maxRecDepth 100000 in
set_option maxHeartbeats 4000000 in
theorem ok_X7_isNumber {E : mE} {h : mH} {tr : Int64} {cu dc it : Nat} {bo : Bool} {c : Int32} (e0 : h 0 = oDay tr) (e3 : h 3 = oTold cu dc it bo) (hc : cu ≤ 4) : mOk E 2 zX7_isNumber [.ref 0, .int c] h (mX (some (vB (isIx c (10 ^ cu)))) h) := by
  refine mOk_w (L := [some (.ref 0), some (.int c)]) pn_X7 rfl (Nat.le_of_ble_eq_true rfl) rfl ?_
  refine mG_iload_n dX7_isNumber_0 rfl ?_
  refine mG_if_lt dX7_isNumber_1 (fun c1 => ?_) (fun c1 => ?_)
  · refine mG_iconst (v := mb false) dX7_isNumber_19 (by decide) ?_
    exact mG_zret dX7_isNumber_20 rfl (mX_of (by unfold isIx; congr 3; first | (exact (decide_eq_true (And.intro c1 c12)).symm) | (refine (decide_eq_false ?_).symm; intro q; first | exact q.1 c1 | exact q.2 c12)) rfl)
  · refine mG_iload_n dX7_isNumber_4 rfl ?_
    refine mG_aload_n dX7_isNumber_5 rfl ?_
    refine mG_get fX7_19 dX7_isNumber_6 e0 (Nat.le_of_ble_eq_true rfl) rfl ?_
    refine mG_cv0 vX7_226 dX7_isNumber_9 (mLe_of rfl) (Nat.le_of_ble_eq_true rfl) e3 (Nat.le_of_ble_eq_true rfl) (ok_X5_howMany3 e3 hc) ?_
    refine mG_icmp_ge dX7_isNumber_12 (fun c12 => ?_) (fun c12 => ?_)
    · refine mG_iconst (v := mb false) dX7_isNumber_19 (by decide) ?_
      exact mG_zret dX7_isNumber_20 rfl (mX_of (by unfold isIx; congr 3; first | (exact (decide_eq_true (And.intro c1 c12)).symm) | (refine (decide_eq_false ?_).symm; intro q; first | exact q.1 c1 | exact q.2 c12)) rfl)
    · refine mG_iconst (v := mb true) dX7_isNumber_15 (by decide) ?_
      refine mG_goto dX7_isNumber_16 ?_
      exact mG_zret dX7_isNumber_20 rfl (mX_of (by unfold isIx; congr 3; first | (exact (decide_eq_true (And.intro c1 c12)).symm) | (refine (decide_eq_false ?_).symm; intro q; first | exact q.1 c1 | exact q.2 c12)) rfl)
def hT (h : mH) (cu : Nat) (g : Nat → Nat) : mH := mU (mU h 19 (oTell cu)) 20 (mAr 10 g)
theorem hT_hT (h : mH) (cu : Nat) (g g' : Nat → Nat) : hT (hT h cu g) cu g' = hT h cu g' := by
  funext j
  unfold hT mU
  by_cases q : j = 20
  · simp [q]
  · by_cases q2 : j = 19 <;> simp [q, q2]
set_option maxRecDepth 100000 in
set_option maxHeartbeats 4000000 in
theorem ok_X7_tellers {E : mE} {h : mH} {tr : Int64} {cu dc it dn wk c19 : Nat} {bo : Bool} {nf g20 : Nat → Nat} {bl : Int32} (e0 : h 0 = oDay tr) (e3 : h 3 = oTold cu dc it bo) (e9 : h 9 = oNow dn wk) (e10 : h 10 = mAr 24 nf) (e19 : h 19 = oTell c19) (e20 : h 20 = mAr 10 g20) (hc : cu ≤ 4) (hf : ∀ j, j < cu * 6 → nf j < 10) : mOk E 3 zX7_tellersBut [.ref 0, .int bl] h (mX (some (.ref 19)) (hT h cu (cwT nf bo bl cu))) := by
  refine mOk_w (L := [some (.ref 0), some (.int bl)]) pn_X7 rfl (Nat.le_of_ble_eq_true rfl) rfl ?_
  refine mG_aload_n dX7_tellersBut_0 rfl ?_
  refine mG_get fX7_51 dX7_tellersBut_1 e0 (Nat.le_of_ble_eq_true rfl) rfl ?_
  refine mG_aload_n dX7_tellersBut_4 rfl ?_
  refine mG_get fX7_19 dX7_tellersBut_5 e0 (Nat.le_of_ble_eq_true rfl) rfl ?_
  refine mG_aload_n dX7_tellersBut_8 rfl ?_
  refine mG_get fX7_29 dX7_tellersBut_9 e0 (Nat.le_of_ble_eq_true rfl) rfl ?_
  refine mG_iload_n dX7_tellersBut_12 rfl ?_
  refine mG_cw3 vX7_229 dX7_tellersBut_13 (mLe_of rfl) (Nat.le_of_ble_eq_true rfl) e19 (Nat.le_of_ble_eq_true rfl) (ok_X4_take e3 e9 e10 e19 e20 hc hf) ?_
  refine mG_aload_n dX7_tellersBut_16 rfl ?_
  refine mG_get fX7_51 dX7_tellersBut_17 e0 (Nat.le_of_ble_eq_true rfl) rfl ?_
  exact mG_aret dX7_tellersBut_20 rfl (mX_of rfl rfl)
/-- the FIGURE in FRONT at a PLACE -/
def fAt (nf ca fr : Nat → Nat) (p : Nat) : Nat := nf (ca p * 6 + fr (ca p))
def nif (nf ca fr : Nat → Nat) : Nat → Nat
  | 0 => 0
  | p + 1 => nif nf ca fr p * 10 + fAt nf ca fr p
set_option maxRecDepth 100000 in
set_option maxHeartbeats 4000000 in
theorem lp_X7_nif {E : mE} {h : mH} {tr : Int64} {cu dc it dn wk : Nat} {bo : Bool} {nf ca fr : Nat → Nat} (e0 : h 0 = oDay tr) (e3 : h 3 = oTold cu dc it bo) (e9 : h 9 = oNow dn wk) (e10 : h 10 = mAr 24 nf) (e11 : h 11 = mAr 4 ca) (e12 : h 12 = mAr 4 fr) (hc : cu ≤ 4) (hca : ∀ j, j < cu → ca j < cu) (hfr : ∀ j, j < cu → fr j < 6) : ∀ (k i : Nat), i + k = cu → mG E (mR 2, zX7_numberInFront) (mKq E (mR 2) mN (mX (some (vN (nif nf ca fr cu))) h)) 4 [some (.ref 0), some (vN (nif nf ca fr i)), some (vN i)] [] (mN, 0, 0) h := by
  intro k
  induction k with
  | zero =>
    intro i hk
    refine mG_iload_n dX7_numberInFront_4 rfl ?_
    refine mG_aload_n dX7_numberInFront_5 rfl ?_
    refine mG_get fX7_19 dX7_numberInFront_6 e0 (Nat.le_of_ble_eq_true rfl) rfl ?_
    refine mG_get fX7_197 dX7_numberInFront_9 e3 (Nat.le_of_ble_eq_true rfl) rfl ?_
    refine mG_icmp_geN dX7_numberInFront_12 (by omega) (by omega) (fun c12 => ?_) (fun c12 => absurd c12 (by omega))
    refine mG_iload_n dX7_numberInFront_43 rfl ?_
    exact mG_iret dX7_numberInFront_44 rfl (mX_of (by rw [show i = cu by omega]) rfl)
  | succ k ih =>
    intro i hk
    refine mG_iload_n dX7_numberInFront_4 rfl ?_
    refine mG_aload_n dX7_numberInFront_5 rfl ?_
    refine mG_get fX7_19 dX7_numberInFront_6 e0 (Nat.le_of_ble_eq_true rfl) rfl ?_
    refine mG_get fX7_197 dX7_numberInFront_9 e3 (Nat.le_of_ble_eq_true rfl) rfl ?_
    have hci := hca i (by omega)
    have hfi := hfr (ca i) hci
    refine mG_icmp_geN dX7_numberInFront_12 (by omega) (by omega) (fun c12 => absurd c12 (by omega)) (fun c12 => ?_)
    refine mG_iload_n dX7_numberInFront_15 rfl ?_
    refine mG_bipush (v := nI 10) dX7_numberInFront_16 (by decide) ?_
    refine mG_imulN dX7_numberInFront_18 ?_
    refine mG_aload_n dX7_numberInFront_19 rfl ?_
    refine mG_get fX7_29 dX7_numberInFront_20 e0 (Nat.le_of_ble_eq_true rfl) rfl ?_
    refine mG_aload_n dX7_numberInFront_23 rfl ?_
    refine mG_get fX7_29 dX7_numberInFront_24 e0 (Nat.le_of_ble_eq_true rfl) rfl ?_
    refine mG_get fX7_121 dX7_numberInFront_27 e9 (Nat.le_of_ble_eq_true rfl) rfl ?_
    refine mG_iload_n dX7_numberInFront_30 rfl ?_
    refine mG_ialdA dX7_numberInFront_31 e11 (Nat.le_of_ble_eq_true rfl) (by decide) (by omega) ?_
    refine mG_cv1 vX7_232 dX7_numberInFront_32 (mLe_of rfl) (Nat.le_of_ble_eq_true rfl) e9 (Nat.le_of_ble_eq_true rfl) (ok_X3_figureInFront e9 e10 e12 (by omega) hfi) ?_
    refine mG_iaddN dX7_numberInFront_35 ?_
    refine mG_istore_n dX7_numberInFront_36 (Nat.le_of_ble_eq_true rfl) rfl rfl ?_
    refine mG_iincN dX7_numberInFront_37 rfl (Nat.le_of_ble_eq_true rfl) rfl rfl ?_
    refine mG_goto dX7_numberInFront_40 ?_
    exact ih (i + 1) (by omega)
set_option maxRecDepth 100000 in
set_option maxHeartbeats 4000000 in
theorem ok_X7_nif {E : mE} {h : mH} {tr : Int64} {cu dc it dn wk : Nat} {bo : Bool} {nf ca fr : Nat → Nat} (e0 : h 0 = oDay tr) (e3 : h 3 = oTold cu dc it bo) (e9 : h 9 = oNow dn wk) (e10 : h 10 = mAr 24 nf) (e11 : h 11 = mAr 4 ca) (e12 : h 12 = mAr 4 fr) (hc : cu ≤ 4) (hca : ∀ j, j < cu → ca j < cu) (hfr : ∀ j, j < cu → fr j < 6) : mOk E 2 zX7_numberInFront [.ref 0] h (mX (some (vN (nif nf ca fr cu))) h) := by
  refine mOk_w (L := [some (.ref 0), none, none]) pn_X7 rfl (Nat.le_of_ble_eq_true rfl) rfl ?_
  refine mG_iconst (v := nI 0) dX7_numberInFront_0 (by decide) ?_
  refine mG_istore_n dX7_numberInFront_1 (Nat.le_of_ble_eq_true rfl) rfl rfl ?_
  refine mG_iconst (v := nI 0) dX7_numberInFront_2 (by decide) ?_
  refine mG_istore_n dX7_numberInFront_3 (Nat.le_of_ble_eq_true rfl) rfl rfl ?_
  exact lp_X7_nif e0 e3 e9 e10 e11 e12 hc hca hfr cu 0 (Nat.zero_add _)
/-- whether a number is TOLD, from its last figure on -/
def itF (nf ca fr : Nat → Nat) (bo : Bool) : Nat → Nat → Bool
  | 0, _ => true
  | q + 1, r => fit bo (fAt nf ca fr q) (r % 10) && itF nf ca fr bo q (r / 10)
set_option maxRecDepth 100000 in
set_option maxHeartbeats 4000000 in
theorem lp_X7_told {E : mE} {h : mH} {n : Nat} {R : Bool} {tr : Int64} {cu dc it dn wk : Nat} {bo : Bool} {nf ca fr : Nat → Nat} (e0 : h 0 = oDay tr) (e3 : h 3 = oTold cu dc it bo) (e9 : h 9 = oNow dn wk) (e10 : h 10 = mAr 24 nf) (e11 : h 11 = mAr 4 ca) (e12 : h 12 = mAr 4 fr) (hc : cu ≤ 4) (hca : ∀ j, j < cu → ca j < cu) (hfr : ∀ j, j < cu → fr j < 6) (hf : ∀ j, j < cu * 6 → nf j < 10) : ∀ (q r : Nat), q ≤ cu → r < 2 ^ 31 → R = itF nf ca fr bo q r → mG E (mR 3, zX7_isTold) (mKq E (mR 3) mN (mX (some (vB R)) h)) 12 [some (.ref 0), some (vN n), some (vN r), some (.int (nI q - nI 1))] [] (mN, 0, 0) h := by
  intro q
  induction q with
  | zero =>
    intro r hq hr hR
    refine mG_iload_n dX7_isTold_12 rfl ?_
    refine mG_if_lt dX7_isTold_13 (fun c13 => ?_) (fun c13 => absurd (by decide) c13)
    refine mG_iconst (v := mb true) dX7_isTold_59 (by decide) ?_
    exact mG_zret dX7_isTold_60 rfl (mX_of (by rw [hR]; rfl) rfl)
  | succ q ih =>
    intro r hq hr hR
    rw [nI_m1]
    refine mG_iload_n dX7_isTold_12 rfl ?_
    refine mG_if_ltN dX7_isTold_13 (by omega) (fun c13 => c13.elim) (fun c13 => ?_)
    refine mG_aload_n dX7_isTold_16 rfl ?_
    refine mG_get fX7_19 dX7_isTold_17 e0 (Nat.le_of_ble_eq_true rfl) rfl ?_
    refine mG_aload_n dX7_isTold_20 rfl ?_
    refine mG_get fX7_29 dX7_isTold_21 e0 (Nat.le_of_ble_eq_true rfl) rfl ?_
    refine mG_aload_n dX7_isTold_24 rfl ?_
    refine mG_get fX7_29 dX7_isTold_25 e0 (Nat.le_of_ble_eq_true rfl) rfl ?_
    refine mG_get fX7_121 dX7_isTold_28 e9 (Nat.le_of_ble_eq_true rfl) rfl ?_
    refine mG_iload_n dX7_isTold_31 rfl ?_
    refine mG_ialdA dX7_isTold_32 e11 (Nat.le_of_ble_eq_true rfl) (by decide) (by omega) ?_
    have hci := hca q (by omega)
    have hfi := hfr (ca q) hci
    have hff := hf (ca q * 6 + fr (ca q)) (by omega)
    refine mG_cv1 vX7_232 dX7_isTold_33 (mLe_of rfl) (Nat.le_of_ble_eq_true rfl) e9 (Nat.le_of_ble_eq_true rfl) (ok_X3_figureInFront e9 e10 e12 (by omega) hfi) ?_
    refine mG_iload_n dX7_isTold_36 rfl ?_
    refine mG_bipush (v := nI 10) dX7_isTold_37 (by decide) ?_
    refine mG_iremN dX7_isTold_39 (by omega) (by omega) (by omega) ?_
    refine mG_cv2 vX7_235 dX7_isTold_40 (mLe_of rfl) (Nat.le_of_ble_eq_true rfl) e3 (Nat.le_of_ble_eq_true rfl) (ok_X5_fits e3 (by omega) (by omega)) ?_
    refine mG_if_neB dX7_isTold_43 (fun c43 => ?_) (fun c43 => ?_)
    · refine mG_iload_n dX7_isTold_48 rfl ?_
      refine mG_bipush (v := nI 10) dX7_isTold_49 (by decide) ?_
      refine mG_idivN dX7_isTold_51 (by omega) (by omega) (by omega) ?_
      refine mG_istore_n dX7_isTold_52 (Nat.le_of_ble_eq_true rfl) rfl rfl ?_
      refine mG_iinc dX7_isTold_53 rfl (mIm _) (Nat.le_of_ble_eq_true rfl) rfl rfl ?_
      refine mG_goto dX7_isTold_56 ?_
      exact ih _ (by omega) (by omega) (by rw [hR]; simp only [itF, fAt, c43, Bool.true_and])
    · refine mG_iconst (v := mb false) dX7_isTold_46 (by decide) ?_
      exact mG_zret dX7_isTold_47 rfl (mX_of (by rw [hR]; simp only [itF, fAt, c43, Bool.false_and]) rfl)
set_option maxRecDepth 100000 in
set_option maxHeartbeats 4000000 in
theorem ok_X7_told {E : mE} {h : mH} {tr : Int64} {n cu dc it dn wk : Nat} {bo : Bool} {nf ca fr : Nat → Nat} (e0 : h 0 = oDay tr) (e3 : h 3 = oTold cu dc it bo) (e9 : h 9 = oNow dn wk) (e10 : h 10 = mAr 24 nf) (e11 : h 11 = mAr 4 ca) (e12 : h 12 = mAr 4 fr) (hc : cu ≤ 4) (hca : ∀ j, j < cu → ca j < cu) (hfr : ∀ j, j < cu → fr j < 6) (hf : ∀ j, j < cu * 6 → nf j < 10) (hn : n < 2 ^ 31) : mOk E 3 zX7_isTold [.ref 0, vN n] h (mX (some (vB (itF nf ca fr bo cu n))) h) := by
  refine mOk_w (L := [some (.ref 0), some (vN n), none, none]) pn_X7 rfl (Nat.le_of_ble_eq_true rfl) rfl ?_
  refine mG_iload_n dX7_isTold_0 rfl ?_
  refine mG_istore_n dX7_isTold_1 (Nat.le_of_ble_eq_true rfl) rfl rfl ?_
  refine mG_aload_n dX7_isTold_2 rfl ?_
  refine mG_get fX7_19 dX7_isTold_3 e0 (Nat.le_of_ble_eq_true rfl) rfl ?_
  refine mG_get fX7_197 dX7_isTold_6 e3 (Nat.le_of_ble_eq_true rfl) rfl ?_
  refine mG_iconst (v := nI 1) dX7_isTold_9 (by decide) ?_
  refine mG_isub dX7_isTold_10 ?_
  refine mG_istore_n dX7_isTold_11 (Nat.le_of_ble_eq_true rfl) rfl rfl ?_
  exact lp_X7_told e0 e3 e9 e10 e11 e12 hc hca hfr hf cu n (Nat.le_refl _) hn rfl
/-- NEEDED -/
def snF (nf td : Nat → Nat) (bo : Bool) (cu dc c done : Nat) : Nat → Nat
  | 0 => 0
  | s + 1 => if dd (cwT nf bo (nI (c * 6 + s)) cu) td cu dc = done then snF nf td bo cu dc c done s else snF nf td bo cu dc c done s ||| 1 <<< s
set_option maxRecDepth 100000 in
set_option maxHeartbeats 4000000 in
theorem lp_X7_need {E : mE} {h : mH} {done : Nat} {tr : Int64} {cu dc it dn wk c : Nat} {bo : Bool} {nf td : Nat → Nat} (e0 : h 0 = oDay tr) (e3 : h 3 = oTold cu dc it bo) (e5 : h 5 = mAr 6 td) (e9 : h 9 = oNow dn wk) (e10 : h 10 = mAr 24 nf) (hc : cu ≤ 4) (hcc : c < cu) (hf : ∀ j, j < cu * 6 → nf j < 10) (hd : dc ≤ 6) (htd : ∀ j, j < dc → td j < 2 ^ 31) (hdn : done < 2 ^ 31) : ∀ (k i : Nat) (g : Nat → Nat), i + k = 6 → mG E (mR 4, zX7_sidesNeeded) (mKq E (mR 4) mN (fun r h' => r = some (vN (snF nf td bo cu dc c done 6)) ∧ ∃ g, h' = hT h cu g)) 18 [some (.ref 0), some (vN c), some (vN done), some (vN (snF nf td bo cu dc c done i)), some (vN i)] [] (mN, 0, 0) (hT h cu g) := by
  intro k
  induction k with
  | zero =>
    intro i g hk
    refine mG_iload dX7_sidesNeeded_18 rfl ?_
    refine mG_bipush (v := nI 6) dX7_sidesNeeded_20 (by decide) ?_
    refine mG_icmp_geN dX7_sidesNeeded_22 (by omega) (by omega) (fun c22 => ?_) (fun c22 => absurd c22 (by omega))
    refine mG_iload_n dX7_sidesNeeded_60 rfl ?_
    exact mG_iret dX7_sidesNeeded_61 rfl ⟨by rw [show i = 6 by omega], g, rfl⟩
  | succ k ih =>
    intro i g hk
    refine mG_iload dX7_sidesNeeded_18 rfl ?_
    refine mG_bipush (v := nI 6) dX7_sidesNeeded_20 (by decide) ?_
    refine mG_icmp_geN dX7_sidesNeeded_22 (by omega) (by omega) (fun c22 => absurd c22 (by omega)) (fun c22 => ?_)
    refine mG_aload_n dX7_sidesNeeded_25 rfl ?_
    refine mG_iload_n dX7_sidesNeeded_26 rfl ?_
    refine mG_bipush (v := nI 6) dX7_sidesNeeded_27 (by decide) ?_
    refine mG_imulN dX7_sidesNeeded_29 ?_
    refine mG_iload dX7_sidesNeeded_30 rfl ?_
    refine mG_iaddN dX7_sidesNeeded_32 ?_
    refine mG_cv1 vX7_156 dX7_sidesNeeded_33 (mLe_of rfl) (Nat.le_of_ble_eq_true rfl) e0 (Nat.le_of_ble_eq_true rfl) (ok_X7_tellers e0 e3 e9 e10 rfl rfl hc hf) ?_
    rw [hT_hT]
    refine mG_aload_n dX7_sidesNeeded_36 rfl ?_
    refine mG_get fX7_19 dX7_sidesNeeded_37 e0 (Nat.le_of_ble_eq_true rfl) rfl ?_
    refine mG_cv1 vX7_166 dX7_sidesNeeded_40 (mLe_of rfl) (Nat.le_of_ble_eq_true rfl) rfl (Nat.le_of_ble_eq_true rfl) (ok_X4_done e3 e5 rfl rfl hc (fun j _ => cwT_lt nf bo _ hc j) hd htd) ?_
    refine mG_iload_n dX7_sidesNeeded_43 rfl ?_
    have hdl := dd_lt (cwT nf bo (nI (c * 6 + i)) cu) td cu dc
    have h26 : 2 ^ dc ≤ 2 ^ 6 := Nat.pow_le_pow_right (by decide) hd
    refine mG_icmp_eqN dX7_sidesNeeded_44 (by omega) (by omega) (fun c44 => ?_) (fun c44 => ?_)
    · refine mG_iincN dX7_sidesNeeded_54 rfl (Nat.le_of_ble_eq_true rfl) rfl rfl ?_
      refine mG_goto dX7_sidesNeeded_57 ?_
      have q := ih (i + 1) (cwT nf bo (nI (c * 6 + i)) cu) (by omega)
      first
        | (simp only [snF, if_pos c44] at q; exact q)
        | (simp only [snF, if_neg c44] at q; exact q)
    · refine mG_iload_n dX7_sidesNeeded_47 rfl ?_
      refine mG_iconst (v := nI 1) dX7_sidesNeeded_48 (by decide) ?_
      refine mG_iload dX7_sidesNeeded_49 rfl ?_
      refine mG_ishlN dX7_sidesNeeded_51 (by omega) (shl1_lt2 (by omega)) ?_
      refine mG_iorN dX7_sidesNeeded_52 ?_
      refine mG_istore_n dX7_sidesNeeded_53 (Nat.le_of_ble_eq_true rfl) rfl rfl ?_
      refine mG_iincN dX7_sidesNeeded_54 rfl (Nat.le_of_ble_eq_true rfl) rfl rfl ?_
      refine mG_goto dX7_sidesNeeded_57 ?_
      have q := ih (i + 1) (cwT nf bo (nI (c * 6 + i)) cu) (by omega)
      first
        | (simp only [snF, if_pos c44] at q; exact q)
        | (simp only [snF, if_neg c44] at q; exact q)
set_option maxRecDepth 100000 in
set_option maxHeartbeats 4000000 in
theorem ok_X7_need {E : mE} {h : mH} {tr : Int64} {cu dc it dn wk c c19 : Nat} {bo : Bool} {nf td g20 : Nat → Nat} (e0 : h 0 = oDay tr) (e3 : h 3 = oTold cu dc it bo) (e5 : h 5 = mAr 6 td) (e9 : h 9 = oNow dn wk) (e10 : h 10 = mAr 24 nf) (e19 : h 19 = oTell c19) (e20 : h 20 = mAr 10 g20) (hc : cu ≤ 4) (hcc : c < cu) (hf : ∀ j, j < cu * 6 → nf j < 10) (hd : dc ≤ 6) (htd : ∀ j, j < dc → td j < 2 ^ 31) : mOk E 4 zX7_sidesNeeded [.ref 0, vN c] h (fun r h' => r = some (vN (snF nf td bo cu dc c (dd (cwT nf bo (-1) cu) td cu dc) 6)) ∧ ∃ g, h' = hT h cu g) := by
  refine mOk_w (L := [some (.ref 0), some (vN c), none, none, none]) pn_X7 rfl (Nat.le_of_ble_eq_true rfl) rfl ?_
  refine mG_aload_n dX7_sidesNeeded_0 rfl ?_
  refine mG_iconst (v := (-1)) dX7_sidesNeeded_1 (by decide) ?_
  refine mG_cv1 vX7_156 dX7_sidesNeeded_2 (mLe_of rfl) (Nat.le_of_ble_eq_true rfl) e0 (Nat.le_of_ble_eq_true rfl) (ok_X7_tellers e0 e3 e9 e10 e19 e20 hc hf) ?_
  refine mG_aload_n dX7_sidesNeeded_5 rfl ?_
  refine mG_get fX7_19 dX7_sidesNeeded_6 e0 (Nat.le_of_ble_eq_true rfl) rfl ?_
  refine mG_cv1 vX7_166 dX7_sidesNeeded_9 (mLe_of rfl) (Nat.le_of_ble_eq_true rfl) rfl (Nat.le_of_ble_eq_true rfl) (ok_X4_done e3 e5 rfl rfl hc (fun j _ => cwT_lt nf bo _ hc j) hd htd) ?_
  refine mG_istore_n dX7_sidesNeeded_12 (Nat.le_of_ble_eq_true rfl) rfl rfl ?_
  refine mG_iconst (v := nI 0) dX7_sidesNeeded_13 (by decide) ?_
  refine mG_istore_n dX7_sidesNeeded_14 (Nat.le_of_ble_eq_true rfl) rfl rfl ?_
  refine mG_iconst (v := nI 0) dX7_sidesNeeded_15 (by decide) ?_
  refine mG_istore dX7_sidesNeeded_16 (Nat.le_of_ble_eq_true rfl) rfl rfl ?_
  have hdl := dd_lt (cwT nf bo (-1) cu) td cu dc
  have h26 : 2 ^ dc ≤ 2 ^ 6 := Nat.pow_le_pow_right (by decide) hd
  exact lp_X7_need e0 e3 e5 e9 e10 hc hcc hf hd htd (by omega) 6 0 _ rfl
def kT (k : Nat) : Int64 := (mTab 3).getD k 0 |>.toInt64
theorem mTF_k (E : mE) (k : Nat) : (mTF E 3 k).toInt64 = kT k := rfl
theorem mTF_a (E : mE) : mTF E 2 1 = nI 0 ∧ mTF E 2 2 = nI 0 ∧ mTF E 2 3 = nI 1 ∧ mTF E 2 4 = nI 2 ∧ mTF E 2 5 = nI 0 := ⟨rfl, rfl, rfl, rfl, rfl⟩
set_option maxRecDepth 100000 in
set_option maxHeartbeats 4000000 in
theorem ok_mark0 {E : mE} {h : mH} {tr : Int64} {dn wk c p : Nat} {nf ca fr : Nat → Nat} (e0 : h 0 = oDay tr) (e9 : h 9 = oNow dn wk) (e10 : h 10 = mAr 24 nf) (e11 : h 11 = mAr 4 ca) (e12 : h 12 = mAr 4 fr) (hc : c < 4) (hfr : fr c < 6) (hp : p < 4) (hpc : ca p = c) (hu : ∀ j, j < p → ca j ≠ c) (hca : ∀ j, j < 4 → ca j < 4) (hf : ∀ j, j < 6 → nf (c * 6 + j) < 10) : mOk E 2 zX7_markAs [.ref 0, vN 0, vN c] h (mX (some (.int (nI (nf (c * 6 + fr c))))) (mU h 0 (oDay (tr + kT 0)))) := by
  refine mOk_w (L := [some (.ref 0), some (vN 0), some (vN c), none]) pn_X7 rfl (Nat.le_of_ble_eq_true rfl) rfl ?_
  refine mG_aload_n dX7_markAs_0 rfl ?_
  refine mG_dup dX7_markAs_1 rfl ?_
  refine mG_get fX7_222 dX7_markAs_2 e0 (Nat.le_of_ble_eq_true rfl) rfl ?_
  refine mG_gets (t := 3) dX7_markAs_5 (by decide) gX7_243 ?_
  refine mG_iload_n dX7_markAs_8 rfl ?_
  refine mG_tald (t := 3) dX7_markAs_9 (by decide) (Nat.le_of_ble_eq_true rfl) (by show 0 < 6; decide) ?_
  refine mG_i2l dX7_markAs_10 ?_
  refine mG_ladd dX7_markAs_11 ?_
  refine mG_putJ pX7_222 dX7_markAs_12 e0 (Nat.le_of_ble_eq_true rfl) (Nat.le_of_ble_eq_true rfl) ?_
  refine mG_iload_n dX7_markAs_15 rfl ?_
  refine mG_if_neN dX7_markAs_16 (by omega) (fun c16 => absurd c16 (by omega)) (fun c16 => ?_)
  refine mG_aload_n dX7_markAs_19 rfl ?_
  refine mG_get fX7_29 dX7_markAs_20 rfl (Nat.le_of_ble_eq_true rfl) rfl ?_
  refine mG_iload_n dX7_markAs_23 rfl ?_
  refine mG_cv1 vX7_232 dX7_markAs_24 (mLe_of rfl) (Nat.le_of_ble_eq_true rfl) e9 (Nat.le_of_ble_eq_true rfl) (ok_X3_figureInFront e9 e10 e12 hc hfr) ?_
  exact mG_iret dX7_markAs_27 rfl (mX_of rfl rfl)
set_option maxRecDepth 100000 in
set_option maxHeartbeats 4000000 in
theorem ok_mark1 {E : mE} {h : mH} {tr : Int64} {dn wk c p : Nat} {nf ca fr : Nat → Nat} (e0 : h 0 = oDay tr) (e9 : h 9 = oNow dn wk) (e10 : h 10 = mAr 24 nf) (e11 : h 11 = mAr 4 ca) (e12 : h 12 = mAr 4 fr) (hc : c < 4) (hfr : fr c < 6) (hp : p < 4) (hpc : ca p = c) (hu : ∀ j, j < p → ca j ≠ c) (hca : ∀ j, j < 4 → ca j < 4) (hf : ∀ j, j < 6 → nf (c * 6 + j) < 10) : mOk E 3 zX7_markAs [.ref 0, vN 1, vN c] h (mX (some (.int (nI (nf (c * 6 + fr c)) + nI p))) (mU h 0 (oDay (tr + kT 1 + kT 0)))) := by
  refine mOk_w (L := [some (.ref 0), some (vN 1), some (vN c), none]) pn_X7 rfl (Nat.le_of_ble_eq_true rfl) rfl ?_
  refine mG_aload_n dX7_markAs_0 rfl ?_
  refine mG_dup dX7_markAs_1 rfl ?_
  refine mG_get fX7_222 dX7_markAs_2 e0 (Nat.le_of_ble_eq_true rfl) rfl ?_
  refine mG_gets (t := 3) dX7_markAs_5 (by decide) gX7_243 ?_
  refine mG_iload_n dX7_markAs_8 rfl ?_
  refine mG_tald (t := 3) dX7_markAs_9 (by decide) (Nat.le_of_ble_eq_true rfl) (by show 1 < 6; decide) ?_
  refine mG_i2l dX7_markAs_10 ?_
  refine mG_ladd dX7_markAs_11 ?_
  refine mG_putJ pX7_222 dX7_markAs_12 e0 (Nat.le_of_ble_eq_true rfl) (Nat.le_of_ble_eq_true rfl) ?_
  refine mG_iload_n dX7_markAs_15 rfl ?_
  refine mG_if_neN dX7_markAs_16 (by omega) (fun c16 => ?_) (fun c16 => absurd c16 (by omega))
  refine mG_aload_n dX7_markAs_28 rfl ?_
  refine mG_gets (t := 2) dX7_markAs_29 (by decide) gX7_246 ?_
  refine mG_iload_n dX7_markAs_32 rfl ?_
  refine mG_tald (t := 2) dX7_markAs_33 (by decide) (Nat.le_of_ble_eq_true rfl) (by show 1 < 6; decide) ?_
  rw [(mTF_a E).1]
  refine mG_iload_n dX7_markAs_34 rfl ?_
  refine mG_cv2 vX7_208 dX7_markAs_35 (mLe_of rfl) (Nat.le_of_ble_eq_true rfl) rfl (Nat.le_of_ble_eq_true rfl) (ok_mark0 rfl e9 e10 e11 e12 hc hfr hp hpc hu hca hf) ?_
  refine mG_istore_n dX7_markAs_38 (Nat.le_of_ble_eq_true rfl) rfl rfl ?_
  refine mG_iload_n dX7_markAs_39 rfl ?_
  refine mG_tableIn (off := 32) (tgt := 72) dX7_markAs_40 (by decide) (by decide) (by decide) (by decide) ?_
  refine mG_iload_n dX7_markAs_72 rfl ?_
  refine mG_aload_n dX7_markAs_73 rfl ?_
  refine mG_get fX7_29 dX7_markAs_74 rfl (Nat.le_of_ble_eq_true rfl) rfl ?_
  refine mG_iload_n dX7_markAs_77 rfl ?_
  refine mG_cv1 vX7_105 dX7_markAs_78 (mLe_of rfl) (Nat.le_of_ble_eq_true rfl) e9 (Nat.le_of_ble_eq_true rfl) (ok_X3_placeOf e9 e11 hc hp hpc hu hca) ?_
  refine mG_iadd dX7_markAs_81 ?_
  exact mG_iret dX7_markAs_82 rfl (mX_of rfl (by simp only [mU_same]; rfl))
set_option maxRecDepth 100000 in
set_option maxHeartbeats 4000000 in
theorem ok_mark2 {E : mE} {h : mH} {tr : Int64} {dn wk c p : Nat} {nf ca fr : Nat → Nat} (e0 : h 0 = oDay tr) (e9 : h 9 = oNow dn wk) (e10 : h 10 = mAr 24 nf) (e11 : h 11 = mAr 4 ca) (e12 : h 12 = mAr 4 fr) (hc : c < 4) (hfr : fr c < 6) (hp : p < 4) (hpc : ca p = c) (hu : ∀ j, j < p → ca j ≠ c) (hca : ∀ j, j < 4 → ca j < 4) (hf : ∀ j, j < 6 → nf (c * 6 + j) < 10) : mOk E 3 zX7_markAs [.ref 0, vN 2, vN c] h (mX (some (.int (nI (nf (c * 6 + fr c)) - nI (popc (fgs nf c 6) 10)))) (mU h 0 (oDay (tr + kT 2 + kT 0)))) := by
  refine mOk_w (L := [some (.ref 0), some (vN 2), some (vN c), none]) pn_X7 rfl (Nat.le_of_ble_eq_true rfl) rfl ?_
  refine mG_aload_n dX7_markAs_0 rfl ?_
  refine mG_dup dX7_markAs_1 rfl ?_
  refine mG_get fX7_222 dX7_markAs_2 e0 (Nat.le_of_ble_eq_true rfl) rfl ?_
  refine mG_gets (t := 3) dX7_markAs_5 (by decide) gX7_243 ?_
  refine mG_iload_n dX7_markAs_8 rfl ?_
  refine mG_tald (t := 3) dX7_markAs_9 (by decide) (Nat.le_of_ble_eq_true rfl) (by show 2 < 6; decide) ?_
  refine mG_i2l dX7_markAs_10 ?_
  refine mG_ladd dX7_markAs_11 ?_
  refine mG_putJ pX7_222 dX7_markAs_12 e0 (Nat.le_of_ble_eq_true rfl) (Nat.le_of_ble_eq_true rfl) ?_
  refine mG_iload_n dX7_markAs_15 rfl ?_
  refine mG_if_neN dX7_markAs_16 (by omega) (fun c16 => ?_) (fun c16 => absurd c16 (by omega))
  refine mG_aload_n dX7_markAs_28 rfl ?_
  refine mG_gets (t := 2) dX7_markAs_29 (by decide) gX7_246 ?_
  refine mG_iload_n dX7_markAs_32 rfl ?_
  refine mG_tald (t := 2) dX7_markAs_33 (by decide) (Nat.le_of_ble_eq_true rfl) (by show 2 < 6; decide) ?_
  rw [(mTF_a E).2.1]
  refine mG_iload_n dX7_markAs_34 rfl ?_
  refine mG_cv2 vX7_208 dX7_markAs_35 (mLe_of rfl) (Nat.le_of_ble_eq_true rfl) rfl (Nat.le_of_ble_eq_true rfl) (ok_mark0 rfl e9 e10 e11 e12 hc hfr hp hpc hu hca hf) ?_
  refine mG_istore_n dX7_markAs_38 (Nat.le_of_ble_eq_true rfl) rfl rfl ?_
  refine mG_iload_n dX7_markAs_39 rfl ?_
  refine mG_tableIn (off := 43) (tgt := 83) dX7_markAs_40 (by decide) (by decide) (by decide) (by decide) ?_
  refine mG_iload_n dX7_markAs_83 rfl ?_
  refine mG_aload_n dX7_markAs_84 rfl ?_
  refine mG_get fX7_29 dX7_markAs_85 rfl (Nat.le_of_ble_eq_true rfl) rfl ?_
  refine mG_iload_n dX7_markAs_88 rfl ?_
  refine mG_cv1 vX7_112 dX7_markAs_89 (mLe_of rfl) (Nat.le_of_ble_eq_true rfl) e9 (Nat.le_of_ble_eq_true rfl) (ok_X3_figuresOf e9 e10 hc hf) ?_
  refine mG_cs1 sX7_249 dX7_markAs_92 (mLe_of rfl) (Nat.le_of_ble_eq_true rfl) (ok_bitCount (fgs_lt 6 hf)) ?_
  refine mG_isub dX7_markAs_95 ?_
  exact mG_iret dX7_markAs_96 rfl (mX_of rfl (by simp only [mU_same]; rfl))
set_option maxRecDepth 100000 in
set_option maxHeartbeats 4000000 in
theorem ok_mark5 {E : mE} {h : mH} {tr : Int64} {dn wk c p : Nat} {nf ca fr : Nat → Nat} (e0 : h 0 = oDay tr) (e9 : h 9 = oNow dn wk) (e10 : h 10 = mAr 24 nf) (e11 : h 11 = mAr 4 ca) (e12 : h 12 = mAr 4 fr) (hc : c < 4) (hfr : fr c < 6) (hp : p < 4) (hpc : ca p = c) (hu : ∀ j, j < p → ca j ≠ c) (hca : ∀ j, j < 4 → ca j < 4) (hf : ∀ j, j < 6 → nf (c * 6 + j) < 10) : mOk E 3 zX7_markAs [.ref 0, vN 5, vN c] h (mX (some (.int (nI (nf (c * 6 + fr c)) + nI wk))) (mU h 0 (oDay (tr + kT 5 + kT 0)))) := by
  refine mOk_w (L := [some (.ref 0), some (vN 5), some (vN c), none]) pn_X7 rfl (Nat.le_of_ble_eq_true rfl) rfl ?_
  refine mG_aload_n dX7_markAs_0 rfl ?_
  refine mG_dup dX7_markAs_1 rfl ?_
  refine mG_get fX7_222 dX7_markAs_2 e0 (Nat.le_of_ble_eq_true rfl) rfl ?_
  refine mG_gets (t := 3) dX7_markAs_5 (by decide) gX7_243 ?_
  refine mG_iload_n dX7_markAs_8 rfl ?_
  refine mG_tald (t := 3) dX7_markAs_9 (by decide) (Nat.le_of_ble_eq_true rfl) (by show 5 < 6; decide) ?_
  refine mG_i2l dX7_markAs_10 ?_
  refine mG_ladd dX7_markAs_11 ?_
  refine mG_putJ pX7_222 dX7_markAs_12 e0 (Nat.le_of_ble_eq_true rfl) (Nat.le_of_ble_eq_true rfl) ?_
  refine mG_iload_n dX7_markAs_15 rfl ?_
  refine mG_if_neN dX7_markAs_16 (by omega) (fun c16 => ?_) (fun c16 => absurd c16 (by omega))
  refine mG_aload_n dX7_markAs_28 rfl ?_
  refine mG_gets (t := 2) dX7_markAs_29 (by decide) gX7_246 ?_
  refine mG_iload_n dX7_markAs_32 rfl ?_
  refine mG_tald (t := 2) dX7_markAs_33 (by decide) (Nat.le_of_ble_eq_true rfl) (by show 5 < 6; decide) ?_
  rw [(mTF_a E).2.2.2.2]
  refine mG_iload_n dX7_markAs_34 rfl ?_
  refine mG_cv2 vX7_208 dX7_markAs_35 (mLe_of rfl) (Nat.le_of_ble_eq_true rfl) rfl (Nat.le_of_ble_eq_true rfl) (ok_mark0 rfl e9 e10 e11 e12 hc hfr hp hpc hu hca hf) ?_
  refine mG_istore_n dX7_markAs_38 (Nat.le_of_ble_eq_true rfl) rfl rfl ?_
  refine mG_iload_n dX7_markAs_39 rfl ?_
  refine mG_tableOut (tgt := 105) dX7_markAs_40 (by decide) (by decide) ?_
  refine mG_iload_n dX7_markAs_105 rfl ?_
  refine mG_aload_n dX7_markAs_106 rfl ?_
  refine mG_get fX7_29 dX7_markAs_107 rfl (Nat.le_of_ble_eq_true rfl) rfl ?_
  refine mG_get fX7_134 dX7_markAs_110 e9 (Nat.le_of_ble_eq_true rfl) rfl ?_
  refine mG_iadd dX7_markAs_113 ?_
  exact mG_iret dX7_markAs_114 rfl (mX_of rfl (by simp only [mU_same]; rfl))
set_option maxRecDepth 100000 in
set_option maxHeartbeats 4000000 in
theorem ok_mark3 {E : mE} {h : mH} {tr : Int64} {dn wk c p : Nat} {nf ca fr : Nat → Nat} (e0 : h 0 = oDay tr) (e9 : h 9 = oNow dn wk) (e10 : h 10 = mAr 24 nf) (e11 : h 11 = mAr 4 ca) (e12 : h 12 = mAr 4 fr) (hc : c < 4) (hfr : fr c < 6) (hp : p < 4) (hpc : ca p = c) (hu : ∀ j, j < p → ca j ≠ c) (hca : ∀ j, j < 4 → ca j < 4) (hf : ∀ j, j < 6 → nf (c * 6 + j) < 10) : mOk E 4 zX7_markAs [.ref 0, vN 3, vN c] h (mX (some (.int ((nI (nf (c * 6 + fr c)) + nI p) * nI 2))) (mU h 0 (oDay (tr + kT 3 + kT 1 + kT 0)))) := by
  refine mOk_w (L := [some (.ref 0), some (vN 3), some (vN c), none]) pn_X7 rfl (Nat.le_of_ble_eq_true rfl) rfl ?_
  refine mG_aload_n dX7_markAs_0 rfl ?_
  refine mG_dup dX7_markAs_1 rfl ?_
  refine mG_get fX7_222 dX7_markAs_2 e0 (Nat.le_of_ble_eq_true rfl) rfl ?_
  refine mG_gets (t := 3) dX7_markAs_5 (by decide) gX7_243 ?_
  refine mG_iload_n dX7_markAs_8 rfl ?_
  refine mG_tald (t := 3) dX7_markAs_9 (by decide) (Nat.le_of_ble_eq_true rfl) (by show 3 < 6; decide) ?_
  refine mG_i2l dX7_markAs_10 ?_
  refine mG_ladd dX7_markAs_11 ?_
  refine mG_putJ pX7_222 dX7_markAs_12 e0 (Nat.le_of_ble_eq_true rfl) (Nat.le_of_ble_eq_true rfl) ?_
  refine mG_iload_n dX7_markAs_15 rfl ?_
  refine mG_if_neN dX7_markAs_16 (by omega) (fun c16 => ?_) (fun c16 => absurd c16 (by omega))
  refine mG_aload_n dX7_markAs_28 rfl ?_
  refine mG_gets (t := 2) dX7_markAs_29 (by decide) gX7_246 ?_
  refine mG_iload_n dX7_markAs_32 rfl ?_
  refine mG_tald (t := 2) dX7_markAs_33 (by decide) (Nat.le_of_ble_eq_true rfl) (by show 3 < 6; decide) ?_
  rw [(mTF_a E).2.2.1]
  refine mG_iload_n dX7_markAs_34 rfl ?_
  refine mG_cv2 vX7_208 dX7_markAs_35 (mLe_of rfl) (Nat.le_of_ble_eq_true rfl) rfl (Nat.le_of_ble_eq_true rfl) (ok_mark1 rfl e9 e10 e11 e12 hc hfr hp hpc hu hca hf) ?_
  refine mG_istore_n dX7_markAs_38 (Nat.le_of_ble_eq_true rfl) rfl rfl ?_
  refine mG_iload_n dX7_markAs_39 rfl ?_
  refine mG_tableIn (off := 57) (tgt := 97) dX7_markAs_40 (by decide) (by decide) (by decide) (by decide) ?_
  refine mG_iload_n dX7_markAs_97 rfl ?_
  refine mG_iconst (v := nI 2) dX7_markAs_98 (by decide) ?_
  refine mG_imul dX7_markAs_99 ?_
  exact mG_iret dX7_markAs_100 rfl (mX_of rfl (by simp only [mU_same]; rfl))
set_option maxRecDepth 100000 in
set_option maxHeartbeats 4000000 in
theorem ok_mark4 {E : mE} {h : mH} {tr : Int64} {dn wk c p : Nat} {nf ca fr : Nat → Nat} (e0 : h 0 = oDay tr) (e9 : h 9 = oNow dn wk) (e10 : h 10 = mAr 24 nf) (e11 : h 11 = mAr 4 ca) (e12 : h 12 = mAr 4 fr) (hc : c < 4) (hfr : fr c < 6) (hp : p < 4) (hpc : ca p = c) (hu : ∀ j, j < p → ca j ≠ c) (hca : ∀ j, j < 4 → ca j < 4) (hf : ∀ j, j < 6 → nf (c * 6 + j) < 10) : mOk E 4 zX7_markAs [.ref 0, vN 4, vN c] h (mX (some (.int ((nI (nf (c * 6 + fr c)) - nI (popc (fgs nf c 6) 10)) + nI c))) (mU h 0 (oDay (tr + kT 4 + kT 2 + kT 0)))) := by
  refine mOk_w (L := [some (.ref 0), some (vN 4), some (vN c), none]) pn_X7 rfl (Nat.le_of_ble_eq_true rfl) rfl ?_
  refine mG_aload_n dX7_markAs_0 rfl ?_
  refine mG_dup dX7_markAs_1 rfl ?_
  refine mG_get fX7_222 dX7_markAs_2 e0 (Nat.le_of_ble_eq_true rfl) rfl ?_
  refine mG_gets (t := 3) dX7_markAs_5 (by decide) gX7_243 ?_
  refine mG_iload_n dX7_markAs_8 rfl ?_
  refine mG_tald (t := 3) dX7_markAs_9 (by decide) (Nat.le_of_ble_eq_true rfl) (by show 4 < 6; decide) ?_
  refine mG_i2l dX7_markAs_10 ?_
  refine mG_ladd dX7_markAs_11 ?_
  refine mG_putJ pX7_222 dX7_markAs_12 e0 (Nat.le_of_ble_eq_true rfl) (Nat.le_of_ble_eq_true rfl) ?_
  refine mG_iload_n dX7_markAs_15 rfl ?_
  refine mG_if_neN dX7_markAs_16 (by omega) (fun c16 => ?_) (fun c16 => absurd c16 (by omega))
  refine mG_aload_n dX7_markAs_28 rfl ?_
  refine mG_gets (t := 2) dX7_markAs_29 (by decide) gX7_246 ?_
  refine mG_iload_n dX7_markAs_32 rfl ?_
  refine mG_tald (t := 2) dX7_markAs_33 (by decide) (Nat.le_of_ble_eq_true rfl) (by show 4 < 6; decide) ?_
  rw [(mTF_a E).2.2.2.1]
  refine mG_iload_n dX7_markAs_34 rfl ?_
  refine mG_cv2 vX7_208 dX7_markAs_35 (mLe_of rfl) (Nat.le_of_ble_eq_true rfl) rfl (Nat.le_of_ble_eq_true rfl) (ok_mark2 rfl e9 e10 e11 e12 hc hfr hp hpc hu hca hf) ?_
  refine mG_istore_n dX7_markAs_38 (Nat.le_of_ble_eq_true rfl) rfl rfl ?_
  refine mG_iload_n dX7_markAs_39 rfl ?_
  refine mG_tableIn (off := 61) (tgt := 101) dX7_markAs_40 (by decide) (by decide) (by decide) (by decide) ?_
  refine mG_iload_n dX7_markAs_101 rfl ?_
  refine mG_iload_n dX7_markAs_102 rfl ?_
  refine mG_iadd dX7_markAs_103 ?_
  exact mG_iret dX7_markAs_104 rfl (mX_of rfl (by simp only [mU_same]; rfl))
/-- rows of Walk, whatever lies there -/
def cWk (h : mH) (w pl : Nat → Nat) (y : mL4) : Prop := (∃ tv nv c la be, h 21 = oWalk tv nv c la be) ∧ h 22 = mAr 16 w ∧ h 23 = mAr 16 y.2.1 ∧ h 24 = mAr 16 pl ∧ h 25 = mAr 16 y.2.2 ∧ h 26 = mAr 24 y.1.1 ∧ h 27 = mAr 340 y.1.2 ∧ (∀ j, j < 16 → w j < 10) ∧ l4ok pl y
/-- WORK, THROUGH -/
def lwA (nf fr ca : Nat → Nat) (bo : Bool) (cu la fm : Nat) (w pl : Nat → Nat) (y : mL4) : Int32 := if allF (fun i => canT (cwT nf bo (-1) cu) cu (fm + i)) 0 la = true then ltA nf fr ca bo cu la fm w pl y else -9
set_option maxRecDepth 100000 in
set_option maxHeartbeats 4000000 in
theorem lp_X7_lw {E : mE} {h : mH} {R : Int32} {tr : Int64} {cu dc it dn wk c19 la fm : Nat} {bo : Bool} {nf ca fr g20 w pl : Nat → Nat} {y : mL4} (e0 : h 0 = oDay tr) (e3 : h 3 = oTold cu dc it bo) (e9 : h 9 = oNow dn wk) (e10 : h 10 = mAr 24 nf) (e11 : h 11 = mAr 4 ca) (e12 : h 12 = mAr 4 fr) (hw : cWk h w pl y) (hc : cu ≤ 4) (hla : la ≤ 3) (hl1 : 1 ≤ la) (hf : ∀ j, j < cu * 6 → nf j < 10) (hfr : ∀ j, j < cu → fr j < 6) (hca : ∀ j, j < cu → ca j < 4) (hfm : fm + la ≤ 10 ^ cu) (hR : R = lwA nf fr ca bo cu la fm w pl y) : ∀ (k i : Nat), i + k = la → allF (fun i => canT (cwT nf bo (-1) cu) cu (fm + i)) 0 la = allF (fun i => canT (cwT nf bo (-1) cu) cu (fm + i)) i k → mG E (mR 45, zX7_leastWork) (mKq E (mR 45) mN (fun r h' => r = some (.int R) ∧ ∃ w1 p1 y1, cWk h' w1 p1 y1 ∧ (∃ g, h' 19 = oTell cu ∧ h' 20 = mAr 10 g) ∧ (∀ b, b < 19 ∨ 28 ≤ b → h' b = h b))) 8 [some (.ref 0), some (vN fm), some (vN la), some (vN i)] [] (mN, 0, 0) (hT h cu (cwT nf bo (-1) cu)) := by
  intro k
  induction k with
  | zero =>
    intro i hk hT
    refine mG_iload_n dX7_leastWork_8 rfl ?_
    refine mG_iload_n dX7_leastWork_9 rfl ?_
    refine mG_icmp_geN dX7_leastWork_10 (by omega) (by omega) (fun c10 => ?_) (fun c10 => absurd c10 (by omega))
    refine mG_aload_n dX7_leastWork_35 rfl ?_
    refine mG_get fX7_58 dX7_leastWork_36 e0 (Nat.le_of_ble_eq_true rfl) rfl ?_
    refine mG_aload_n dX7_leastWork_39 rfl ?_
    refine mG_get fX7_19 dX7_leastWork_40 e0 (Nat.le_of_ble_eq_true rfl) rfl ?_
    refine mG_aload_n dX7_leastWork_43 rfl ?_
    refine mG_get fX7_29 dX7_leastWork_44 e0 (Nat.le_of_ble_eq_true rfl) rfl ?_
    refine mG_iload_n dX7_leastWork_47 rfl ?_
    refine mG_iload_n dX7_leastWork_48 rfl ?_
    have h10 := ten_le hc
    have hA : allF (fun i => canT (cwT nf bo (-1) cu) cu (fm + i)) 0 la = true := hT
    obtain ⟨⟨tv, nv, c0, la0, be, e21⟩, e22, e23, e24, e25, e26, e27, hw1, hy1⟩ := hw
    refine mG_cq4 vX7_239 dX7_leastWork_49 (mLe_s (by omega) (by decide)) (Nat.le_of_ble_eq_true rfl) e21 (Nat.le_of_ble_eq_true rfl) (ok_X6_least e3 e9 e10 e11 e12 e21 e22 e23 e24 e25 e26 e27 hc hla hl1 hf hfr hca (by omega) hw1 hy1) (fun r h' q => ?_)
    obtain ⟨hr, w1, p1, b1, y1, q1, q2, q3⟩ := q
    subst hr q3
    refine mG_iret dX7_leastWork_52 rfl ⟨by rw [hR, lwA, if_pos hA], w1, p1, y1, ⟨⟨_, _, _, _, _, rfl⟩, rfl, rfl, rfl, rfl, rfl, rfl, q1, q2⟩, ⟨_, rfl, rfl⟩, fun b hb => ?_⟩
    show mU (mU (mU (mU (mU (mU (mU (mU (mU h 19 _) 20 _) 22 _) 26 _) 27 _) 21 _) 23 _) 24 _) 25 _ b = h b
    unfold mU
    rw [if_neg (by omega), if_neg (by omega), if_neg (by omega), if_neg (by omega), if_neg (by omega), if_neg (by omega), if_neg (by omega), if_neg (by omega), if_neg (by omega)]
  | succ k ih =>
    intro i hk hT
    refine mG_iload_n dX7_leastWork_8 rfl ?_
    refine mG_iload_n dX7_leastWork_9 rfl ?_
    have h10 := ten_le hc
    refine mG_icmp_geN dX7_leastWork_10 (by omega) (by omega) (fun c10 => absurd c10 (by omega)) (fun c10 => ?_)
    refine mG_aload_n dX7_leastWork_13 rfl ?_
    refine mG_get fX7_51 dX7_leastWork_14 e0 (Nat.le_of_ble_eq_true rfl) rfl ?_
    refine mG_iload_n dX7_leastWork_17 rfl ?_
    refine mG_iload_n dX7_leastWork_18 rfl ?_
    refine mG_iaddN dX7_leastWork_19 ?_
    refine mG_cv1 vX7_175 dX7_leastWork_20 (mLe_of rfl) (Nat.le_of_ble_eq_true rfl) rfl (Nat.le_of_ble_eq_true rfl) (ok_X4_can rfl rfl hc (fun j _ => cwT_lt nf bo _ hc j) (by omega)) ?_
    refine mG_if_neB dX7_leastWork_23 (fun c23 => ?_) (fun c23 => ?_)
    · refine mG_iincN dX7_leastWork_29 rfl (Nat.le_of_ble_eq_true rfl) rfl rfl ?_
      refine mG_goto dX7_leastWork_32 ?_
      exact ih (i + 1) (by omega) (by rw [hT]; simp only [allF, c23, Bool.true_and])
    · refine mG_bipush (v := (-9)) dX7_leastWork_26 (by decide) ?_
      exact mG_iret dX7_leastWork_28 rfl ⟨by
      rw [hR, lwA, if_neg]
      rw [hT]
      simp only [allF, c23, Bool.false_and]
      decide, w, pl, y, hw, ⟨_, rfl, rfl⟩, fun b hb => by
      show mU (mU h 19 _) 20 _ b = h b
      unfold mU
      rw [if_neg (by omega), if_neg (by omega)]⟩
set_option maxRecDepth 100000 in
set_option maxHeartbeats 4000000 in
theorem ok_X7_lw {E : mE} {h : mH} {tr : Int64} {cu dc it dn wk c19 la fm : Nat} {bo : Bool} {nf ca fr g20 w pl : Nat → Nat} {y : mL4} (e0 : h 0 = oDay tr) (e3 : h 3 = oTold cu dc it bo) (e9 : h 9 = oNow dn wk) (e10 : h 10 = mAr 24 nf) (e11 : h 11 = mAr 4 ca) (e12 : h 12 = mAr 4 fr) (e19 : h 19 = oTell c19) (e20 : h 20 = mAr 10 g20) (hw : cWk h w pl y) (hc : cu ≤ 4) (hla : la ≤ 3) (hl1 : 1 ≤ la) (hf : ∀ j, j < cu * 6 → nf j < 10) (hfr : ∀ j, j < cu → fr j < 6) (hca : ∀ j, j < cu → ca j < 4) (hfm : fm + la ≤ 10 ^ cu) : mOk E 45 zX7_leastWork [.ref 0, vN fm, vN la] h (fun r h' => r = some (.int (lwA nf fr ca bo cu la fm w pl y)) ∧ ∃ w1 p1 y1, cWk h' w1 p1 y1 ∧ (∃ g, h' 19 = oTell cu ∧ h' 20 = mAr 10 g) ∧ (∀ b, b < 19 ∨ 28 ≤ b → h' b = h b)) := by
  refine mOk_w (L := [some (.ref 0), some (vN fm), some (vN la), none]) pn_X7 rfl (Nat.le_of_ble_eq_true rfl) rfl ?_
  refine mG_aload_n dX7_leastWork_0 rfl ?_
  refine mG_iconst (v := (-1)) dX7_leastWork_1 (by decide) ?_
  refine mG_cv1 vX7_156 dX7_leastWork_2 (mLe_of rfl) (Nat.le_of_ble_eq_true rfl) e0 (Nat.le_of_ble_eq_true rfl) (ok_X7_tellers e0 e3 e9 e10 e19 e20 hc hf) ?_
  refine mG_pop dX7_leastWork_5 rfl ?_
  refine mG_iconst (v := nI 0) dX7_leastWork_6 (by decide) ?_
  refine mG_istore_n dX7_leastWork_7 (Nat.le_of_ble_eq_true rfl) rfl rfl ?_
  exact lp_X7_lw (E := E) (c19 := c19) (g20 := g20) e0 e3 e9 e10 e11 e12 hw hc hla hl1 hf hfr hca hfm rfl la 0 (Nat.zero_add _) rfl
