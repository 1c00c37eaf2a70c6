-- needs: 33
/-! the reference looks -/
theorem inI_m1 {c : Int32} {n : Nat} (hn : n < 2 ^ 31) : inI c (nI 0) (nI n - nI 1) = isIx c n := by
  cases n with
  | zero =>
    have e : nI 0 - nI 1 = -1 := by decide
    rw [e]
    unfold inI isIx
    have h1 : ¬ (nI 0 ≤ c ∧ c ≤ -1) := by
      intro q
      have a := Int32.le_iff_toInt_le.mp q.1
      have b := Int32.le_iff_toInt_le.mp q.2
      have c0 : (nI 0).toInt = 0 := by decide
      have c1 : (-1 : Int32).toInt = -1 := by decide
      omega
    have h2 : ¬ (¬ c < 0 ∧ ¬ nI 0 ≤ c) := by
      intro q
      exact q.1 (Int32.not_le.mp q.2)
    rw [decide_eq_false h1, decide_eq_false h2]
  | succ k => rw [nI_m1]; exact inI_ix hn
def cIn (o p : Nat) : Nat := o >>> (2 * p) &&& 3
theorem cIn_lt (o p : Nat) : cIn o p < 4 := Nat.lt_succ_of_le Nat.and_le_right
def fgo (cu n p : Nat) : Nat := n / 10 ^ (cu - 1 - p) % 10
def hfB (nw : Nat → Nat) (bo : Bool) (c v bl : Nat) : Nat → Bool
  | 0 => false
  | s + 1 => hfB nw bo c v bl s || (decide (¬ s = bl) && fit bo (nw (6 * c + s)) v)
def plF (g : Nat → Nat) (c : Nat) : Nat → Nat
  | 0 => 0
  | p + 1 => if g p = c then p else plF g c p
def ioS (o : Nat) : Nat → Nat
  | 0 => 0
  | p + 1 => ioS o p ||| 1 <<< cIn o p
def isOrd (cu o : Nat) : Bool := decide (ioS o cu = (1 <<< cu) - 1)
def onF (g : Nat → Nat) : Nat → Nat
  | 0 => 0
  | p + 1 => onF g p ||| g p <<< (2 * p)
theorem or_lt {a b k : Nat} (ha : a < 2 ^ k) (hb : b < 2 ^ k) : a ||| b < 2 ^ k := Nat.or_lt_two_pow ha hb
theorem ioS_lt (o : Nat) : ∀ p, ioS o p < 16 := by
  intro p
  induction p with
  | zero => exact (by decide : (0 : Nat) < 16)
  | succ p ih =>
    have h1 : ∀ x : Fin 4, 1 <<< x.val < 2 ^ 4 := by decide
    exact or_lt (k := 4) ih (h1 ⟨cIn o p, cIn_lt o p⟩)
theorem plF_lt (g : Nat → Nat) (c : Nat) : ∀ p, plF g c p < p + 1 := by
  intro p
  induction p with
  | zero => exact Nat.zero_lt_one
  | succ p ih => unfold plF; split <;> omega
theorem plF_4 {g : Nat → Nat} {c n : Nat} (hn : n ≤ 4) : plF g c n < 4 := by
  have : ∀ p, p ≤ 4 → plF g c p < 4 := by
    intro p
    induction p with
    | zero => intro _; exact (by decide : (0 : Nat) < 4)
    | succ p ih => intro h; unfold plF; have := ih (by omega); split <;> omega
  exact this n hn
set_option maxRecDepth 100000 in
set_option maxHeartbeats 4000000 in
theorem ok_X8_isCube {E : mE} {h : mH} {ty a sd so va it mo fa : Nat} {wr : Bool} {tr : Int64} {c : Int32} {cb : Nat → Nat} (e40 : h 40 = oMo ty a sd so va wr it mo fa tr) (e42 : h 42 = mAr 2 cb) (hcb : cb 0 ≤ 4)  : mOk E 2 zX8_isCube [.ref 40, .int c] h (mX (some (vB (isIx c (cb 0)))) h) := by
  refine mOk_w (L := [some (.ref 40), some (.int c)]) pn_X8 rfl (Nat.le_of_ble_eq_true rfl) rfl ?_
  refine mG_iload_n dX8_isCube_0 rfl ?_
  refine mG_iconst (v := nI 0) dX8_isCube_1 (by decide) ?_
  refine mG_aload_n dX8_isCube_2 rfl ?_
  refine mG_get fX8_13 dX8_isCube_3 e40 (Nat.le_of_ble_eq_true rfl) rfl ?_
  refine mG_iconst (v := nI 0) dX8_isCube_6 (by decide) ?_
  refine mG_ialdA dX8_isCube_7 e42 (Nat.le_of_ble_eq_true rfl) (by decide) (by omega) ?_
  refine mG_iconst (v := nI 1) dX8_isCube_8 (by decide) ?_
  refine mG_isub dX8_isCube_9 ?_
  refine mG_cs3 sX8_63 dX8_isCube_10 (mLe_of rfl) (Nat.le_of_ble_eq_true rfl) (ok_X8_in) ?_
  exact mG_zret dX8_isCube_13 rfl (mX_of (by rw [inI_m1 (by omega)]) rfl)
set_option maxRecDepth 100000 in
set_option maxHeartbeats 4000000 in
theorem ok_X8_isSide {E : mE} {h : mH} {c : Int32} : mOk E 2 zX8_isSide [.int c] h (mX (some (vB (isIx c 6))) h) := by
  refine mOk_w (L := [some (.int c)]) pn_X8 rfl (Nat.le_of_ble_eq_true rfl) rfl ?_
  refine mG_iload_n dX8_isSide_0 rfl ?_
  refine mG_iconst (v := nI 0) dX8_isSide_1 (by decide) ?_
  refine mG_iconst (v := nI 5) dX8_isSide_2 (by decide) ?_
  refine mG_cs3 sX8_63 dX8_isSide_3 (mLe_of rfl) (Nat.le_of_ble_eq_true rfl) (ok_X8_in) ?_
  exact mG_zret dX8_isSide_6 rfl (mX_of (by rw [inI_ix (by decide)]) rfl)
set_option maxRecDepth 100000 in
set_option maxHeartbeats 4000000 in
theorem ok_X8_isNumber {E : mE} {h : mH} {ty a sd so va it mo fa : Nat} {wr : Bool} {tr : Int64} {c : Int32} {cb : Nat → Nat} (e40 : h 40 = oMo ty a sd so va wr it mo fa tr) (e42 : h 42 = mAr 2 cb) (hcb : cb 0 ≤ 4)  : mOk E 2 zX8_isNumber [.ref 40, .int c] h (mX (some (vB (isIx c (10 ^ cb 0)))) h) := by
  have h10 := ten_le hcb
  have h1 := pow1 (c := cb 0)
  refine mOk_w (L := [some (.ref 40), some (.int c)]) pn_X8 rfl (Nat.le_of_ble_eq_true rfl) rfl ?_
  refine mG_iload_n dX8_isNumber_0 rfl ?_
  refine mG_iconst (v := nI 0) dX8_isNumber_1 (by decide) ?_
  refine mG_aload_n dX8_isNumber_2 rfl ?_
  refine mG_get fX8_13 dX8_isNumber_3 e40 (Nat.le_of_ble_eq_true rfl) rfl ?_
  refine mG_iconst (v := nI 0) dX8_isNumber_6 (by decide) ?_
  refine mG_ialdA dX8_isNumber_7 e42 (Nat.le_of_ble_eq_true rfl) (by decide) (by omega) ?_
  refine mG_cs1 sX8_102 dX8_isNumber_8 (mLe_of rfl) (Nat.le_of_ble_eq_true rfl) (ok_X8_power (by omega)) ?_
  refine mG_iconst (v := nI 1) dX8_isNumber_11 (by decide) ?_
  refine mG_isubN dX8_isNumber_12 (pow1) ?_
  refine mG_cs3 sX8_63 dX8_isNumber_13 (mLe_of rfl) (Nat.le_of_ble_eq_true rfl) (ok_X8_in) ?_
  exact mG_zret dX8_isNumber_16 rfl (mX_of (by rw [inI_ix (by omega), Nat.sub_add_cancel h1]) rfl)
set_option maxRecDepth 100000 in
set_option maxHeartbeats 4000000 in
theorem ok_X8_figureOf {E : mE} {h : mH} {ty a sd so va it mo fa : Nat} {wr : Bool} {tr : Int64} {n p : Nat} {cb : Nat → Nat} (e40 : h 40 = oMo ty a sd so va wr it mo fa tr) (e42 : h 42 = mAr 2 cb) (hcb : cb 0 ≤ 4) (hn : n < 2 ^ 31) (hp : p < cb 0) : mOk E 2 zX8_figureOf [.ref 40, vN n, vN p] h (mX (some (vN (fgo (cb 0) n p))) h) := by
  have h10 := ten_le (show cb 0 - 1 - p ≤ 4 by omega)
  have h1 := pow1 (c := cb 0 - 1 - p)
  refine mOk_w (L := [some (.ref 40), some (vN n), some (vN p)]) pn_X8 rfl (Nat.le_of_ble_eq_true rfl) rfl ?_
  refine mG_iload_n dX8_figureOf_0 rfl ?_
  refine mG_aload_n dX8_figureOf_1 rfl ?_
  refine mG_get fX8_13 dX8_figureOf_2 e40 (Nat.le_of_ble_eq_true rfl) rfl ?_
  refine mG_iconst (v := nI 0) dX8_figureOf_5 (by decide) ?_
  refine mG_ialdA dX8_figureOf_6 e42 (Nat.le_of_ble_eq_true rfl) (by decide) (by omega) ?_
  refine mG_iconst (v := nI 1) dX8_figureOf_7 (by decide) ?_
  refine mG_isubN dX8_figureOf_8 (by omega) ?_
  refine mG_iload_n dX8_figureOf_9 rfl ?_
  refine mG_isubN dX8_figureOf_10 (by omega) ?_
  refine mG_cs1 sX8_102 dX8_figureOf_11 (mLe_of rfl) (Nat.le_of_ble_eq_true rfl) (ok_X8_power (by omega)) ?_
  refine mG_idivN dX8_figureOf_14 hn h1 (by omega) ?_
  refine mG_bipush (v := nI 10) dX8_figureOf_15 (by decide) ?_
  refine mG_iremN dX8_figureOf_17 (Nat.lt_of_le_of_lt (Nat.div_le_self _ _) hn) (by decide) (by decide) ?_
  exact mG_iret dX8_figureOf_18 rfl (mX_of rfl rfl)
set_option maxRecDepth 100000 in
set_option maxHeartbeats 4000000 in
theorem ok_X8_fits {E : mE} {h : mH} {ty a sd so va it mo fa : Nat} {wr : Bool} {tr : Int64} {x y : Nat} {bb : Nat → Nat} (e40 : h 40 = oMo ty a sd so va wr it mo fa tr) (e44 : h 44 = mAr 2 bb) (hbb : bb 0 ≤ 1) (hx : x < 2 ^ 31) (hy : y < 2 ^ 31) : mOk E 1 zX8_fits [.ref 40, vN x, vN y] h (mX (some (vB (fit (decide (bb 0 = 1)) x y))) h) := by
  refine mOk_w (L := [some (.ref 40), some (vN x), some (vN y)]) pn_X8 rfl (Nat.le_of_ble_eq_true rfl) rfl ?_
  refine mG_iload_n dX8_fits_0 rfl ?_
  refine mG_iload_n dX8_fits_1 rfl ?_
  refine mG_icmp_eqN dX8_fits_2 (by omega) (by omega) (fun c2 => ?_) (fun c2 => ?_)
  · refine mG_iconst (v := mb true) dX8_fits_39 (by decide) ?_
    refine mG_goto dX8_fits_40 ?_
    exact mG_zret dX8_fits_44 rfl (mX_of (by
      unfold fit upr
      by_cases q : bb 0 = 1
      · simp only [decide_eq_true q, true_and]
        congr 3
        (split <;> (try split)) <;> (first | (refine (decide_eq_true ?_).symm; omega) | (refine (decide_eq_false ?_).symm; omega))
      · simp only [decide_eq_false q, Bool.false_eq_true, false_and, if_false]
        congr 3
        first | (refine (decide_eq_true ?_).symm; omega) | (refine (decide_eq_false ?_).symm; omega)) rfl)
  · refine mG_aload_n dX8_fits_5 rfl ?_
    refine mG_get fX8_20 dX8_fits_6 e40 (Nat.le_of_ble_eq_true rfl) rfl ?_
    refine mG_iconst (v := nI 0) dX8_fits_9 (by decide) ?_
    refine mG_ialdA dX8_fits_10 e44 (Nat.le_of_ble_eq_true rfl) (by decide) (by omega) ?_
    refine mG_iconst (v := nI 1) dX8_fits_11 (by decide) ?_
    refine mG_icmp_neN dX8_fits_12 (by omega) (by omega) (fun c12 => ?_) (fun c12 => ?_)
    · refine mG_iconst (v := mb false) dX8_fits_43 (by decide) ?_
      exact mG_zret dX8_fits_44 rfl (mX_of (by
      unfold fit upr
      by_cases q : bb 0 = 1
      · simp only [decide_eq_true q, true_and]
        congr 3
        (split <;> (try split)) <;> (first | (refine (decide_eq_true ?_).symm; omega) | (refine (decide_eq_false ?_).symm; omega))
      · simp only [decide_eq_false q, Bool.false_eq_true, false_and, if_false]
        congr 3
        first | (refine (decide_eq_true ?_).symm; omega) | (refine (decide_eq_false ?_).symm; omega)) rfl)
    · refine mG_iload_n dX8_fits_15 rfl ?_
      refine mG_bipush (v := nI 6) dX8_fits_16 (by decide) ?_
      refine mG_icmp_neN dX8_fits_18 (by omega) (by omega) (fun c18 => ?_) (fun c18 => ?_)
      · refine mG_iload_n dX8_fits_27 rfl ?_
        refine mG_bipush (v := nI 9) dX8_fits_28 (by decide) ?_
        refine mG_icmp_neN dX8_fits_30 (by omega) (by omega) (fun c30 => ?_) (fun c30 => ?_)
        · refine mG_iconst (v := mb false) dX8_fits_43 (by decide) ?_
          exact mG_zret dX8_fits_44 rfl (mX_of (by
      unfold fit upr
      by_cases q : bb 0 = 1
      · simp only [decide_eq_true q, true_and]
        congr 3
        (split <;> (try split)) <;> (first | (refine (decide_eq_true ?_).symm; omega) | (refine (decide_eq_false ?_).symm; omega))
      · simp only [decide_eq_false q, Bool.false_eq_true, false_and, if_false]
        congr 3
        first | (refine (decide_eq_true ?_).symm; omega) | (refine (decide_eq_false ?_).symm; omega)) rfl)
        · refine mG_iload_n dX8_fits_33 rfl ?_
          refine mG_bipush (v := nI 6) dX8_fits_34 (by decide) ?_
          refine mG_icmp_neN dX8_fits_36 (by omega) (by omega) (fun c36 => ?_) (fun c36 => ?_)
          · refine mG_iconst (v := mb false) dX8_fits_43 (by decide) ?_
            exact mG_zret dX8_fits_44 rfl (mX_of (by
      unfold fit upr
      by_cases q : bb 0 = 1
      · simp only [decide_eq_true q, true_and]
        congr 3
        (split <;> (try split)) <;> (first | (refine (decide_eq_true ?_).symm; omega) | (refine (decide_eq_false ?_).symm; omega))
      · simp only [decide_eq_false q, Bool.false_eq_true, false_and, if_false]
        congr 3
        first | (refine (decide_eq_true ?_).symm; omega) | (refine (decide_eq_false ?_).symm; omega)) rfl)
          · refine mG_iconst (v := mb true) dX8_fits_39 (by decide) ?_
            refine mG_goto dX8_fits_40 ?_
            exact mG_zret dX8_fits_44 rfl (mX_of (by
      unfold fit upr
      by_cases q : bb 0 = 1
      · simp only [decide_eq_true q, true_and]
        congr 3
        (split <;> (try split)) <;> (first | (refine (decide_eq_true ?_).symm; omega) | (refine (decide_eq_false ?_).symm; omega))
      · simp only [decide_eq_false q, Bool.false_eq_true, false_and, if_false]
        congr 3
        first | (refine (decide_eq_true ?_).symm; omega) | (refine (decide_eq_false ?_).symm; omega)) rfl)
      · refine mG_iload_n dX8_fits_21 rfl ?_
        refine mG_bipush (v := nI 9) dX8_fits_22 (by decide) ?_
        refine mG_icmp_eqN dX8_fits_24 (by omega) (by omega) (fun c24 => ?_) (fun c24 => ?_)
        · refine mG_iconst (v := mb true) dX8_fits_39 (by decide) ?_
          refine mG_goto dX8_fits_40 ?_
          exact mG_zret dX8_fits_44 rfl (mX_of (by
      unfold fit upr
      by_cases q : bb 0 = 1
      · simp only [decide_eq_true q, true_and]
        congr 3
        (split <;> (try split)) <;> (first | (refine (decide_eq_true ?_).symm; omega) | (refine (decide_eq_false ?_).symm; omega))
      · simp only [decide_eq_false q, Bool.false_eq_true, false_and, if_false]
        congr 3
        first | (refine (decide_eq_true ?_).symm; omega) | (refine (decide_eq_false ?_).symm; omega)) rfl)
        · refine mG_iload_n dX8_fits_27 rfl ?_
          refine mG_bipush (v := nI 9) dX8_fits_28 (by decide) ?_
          refine mG_icmp_neN dX8_fits_30 (by omega) (by omega) (fun c30 => ?_) (fun c30 => ?_)
          · refine mG_iconst (v := mb false) dX8_fits_43 (by decide) ?_
            exact mG_zret dX8_fits_44 rfl (mX_of (by
      unfold fit upr
      by_cases q : bb 0 = 1
      · simp only [decide_eq_true q, true_and]
        congr 3
        (split <;> (try split)) <;> (first | (refine (decide_eq_true ?_).symm; omega) | (refine (decide_eq_false ?_).symm; omega))
      · simp only [decide_eq_false q, Bool.false_eq_true, false_and, if_false]
        congr 3
        first | (refine (decide_eq_true ?_).symm; omega) | (refine (decide_eq_false ?_).symm; omega)) rfl)
          · refine mG_iload_n dX8_fits_33 rfl ?_
            refine mG_bipush (v := nI 6) dX8_fits_34 (by decide) ?_
            refine mG_icmp_neN dX8_fits_36 (by omega) (by omega) (fun c36 => ?_) (fun c36 => ?_)
            · refine mG_iconst (v := mb false) dX8_fits_43 (by decide) ?_
              exact mG_zret dX8_fits_44 rfl (mX_of (by
      unfold fit upr
      by_cases q : bb 0 = 1
      · simp only [decide_eq_true q, true_and]
        congr 3
        (split <;> (try split)) <;> (first | (refine (decide_eq_true ?_).symm; omega) | (refine (decide_eq_false ?_).symm; omega))
      · simp only [decide_eq_false q, Bool.false_eq_true, false_and, if_false]
        congr 3
        first | (refine (decide_eq_true ?_).symm; omega) | (refine (decide_eq_false ?_).symm; omega)) rfl)
            · refine mG_iconst (v := mb true) dX8_fits_39 (by decide) ?_
              refine mG_goto dX8_fits_40 ?_
              exact mG_zret dX8_fits_44 rfl (mX_of (by
      unfold fit upr
      by_cases q : bb 0 = 1
      · simp only [decide_eq_true q, true_and]
        congr 3
        (split <;> (try split)) <;> (first | (refine (decide_eq_true ?_).symm; omega) | (refine (decide_eq_false ?_).symm; omega))
      · simp only [decide_eq_false q, Bool.false_eq_true, false_and, if_false]
        congr 3
        first | (refine (decide_eq_true ?_).symm; omega) | (refine (decide_eq_false ?_).symm; omega)) rfl)
set_option maxRecDepth 100000 in
set_option maxHeartbeats 4000000 in
theorem lp_X8_hasFit {E : mE} {h : mH} {ty a sd so va it mo fa : Nat} {wr : Bool} {tr : Int64} {c v bl : Nat} {bb nw : Nat → Nat} (e40 : h 40 = oMo ty a sd so va wr it mo fa tr) (e44 : h 44 = mAr 2 bb) (hbb : bb 0 ≤ 1) (e47 : h 47 = mAr 33 nw) (hc : c < 4) (hv : v < 2 ^ 31) (hb : bl < 2 ^ 31) (hn : ∀ j, j < 6 → nw (6 * c + j) < 2 ^ 31) : ∀ (k i : Nat), i + k = 6 → mG E (mR 2, zX8_hasFit) (mKq E (mR 2) mN (mX (some (vB (hfB nw (decide (bb 0 = 1)) c v bl 6))) h)) 6 [some (.ref 40), some (vN c), some (vN v), some (vN bl), some (vB (hfB nw (decide (bb 0 = 1)) c v bl i)), some (vN i)] [] (mN, 0, 0) h := by
  intro k
  induction k with
  | zero =>
    intro i hk
    refine mG_iload dX8_hasFit_6 rfl ?_
    refine mG_bipush (v := nI 6) dX8_hasFit_8 (by decide) ?_
    refine mG_icmp_geN dX8_hasFit_10 (by omega) (by omega) (fun c10 => ?_) (fun c10 => absurd c10 (by omega))
    refine mG_iload dX8_hasFit_57 rfl ?_
    exact mG_zret dX8_hasFit_59 rfl (mX_of (by rw [show i = 6 by omega]) rfl)
  | succ k ih =>
    intro i hk
    refine mG_iload dX8_hasFit_6 rfl ?_
    refine mG_bipush (v := nI 6) dX8_hasFit_8 (by decide) ?_
    refine mG_icmp_geN dX8_hasFit_10 (by omega) (by omega) (fun c10 => absurd c10 (by omega)) (fun c10 => ?_)
    refine mG_iload dX8_hasFit_13 rfl ?_
    refine mG_if_neB dX8_hasFit_15 (fun c15 => ?_) (fun c15 => ?_)
    · refine mG_iconst (v := mb true) dX8_hasFit_44 (by decide) ?_
      refine mG_goto dX8_hasFit_45 ?_
      refine mG_istore dX8_hasFit_49 (Nat.le_of_ble_eq_true rfl) rfl rfl ?_
      refine mG_iincN dX8_hasFit_51 rfl (Nat.le_of_ble_eq_true rfl) rfl rfl ?_
      refine mG_goto dX8_hasFit_54 ?_
      have q := ih (i + 1) (by omega)
      first
        | (have e : hfB nw (decide (bb 0 = 1)) c v bl (i + 1) = true := by simp only [hfB, c15, Bool.true_or]
           rw [e] at q; exact q)
        | (have e : hfB nw (decide (bb 0 = 1)) c v bl (i + 1) = false := by rw [hfB, c15, decide_eq_false (fun z => z c21)]; rfl
           rw [e] at q; exact q)
        | (have e : hfB nw (decide (bb 0 = 1)) c v bl (i + 1) = true := by simp only [hfB, c15, c21, c41, not_false_iff, decide_true, Bool.and_true, Bool.or_true]
           rw [e] at q; exact q)
        | (have e : hfB nw (decide (bb 0 = 1)) c v bl (i + 1) = false := by simp only [hfB, c15, c21, c41, Bool.and_false, Bool.or_false]
           rw [e] at q; exact q)
    · refine mG_iload dX8_hasFit_18 rfl ?_
      refine mG_iload_n dX8_hasFit_20 rfl ?_
      refine mG_icmp_eqN dX8_hasFit_21 (by omega) (by omega) (fun c21 => ?_) (fun c21 => ?_)
      · refine mG_iconst (v := mb false) dX8_hasFit_48 (by decide) ?_
        refine mG_istore dX8_hasFit_49 (Nat.le_of_ble_eq_true rfl) rfl rfl ?_
        refine mG_iincN dX8_hasFit_51 rfl (Nat.le_of_ble_eq_true rfl) rfl rfl ?_
        refine mG_goto dX8_hasFit_54 ?_
        have q := ih (i + 1) (by omega)
        first
          | (have e : hfB nw (decide (bb 0 = 1)) c v bl (i + 1) = true := by simp only [hfB, c15, Bool.true_or]
             rw [e] at q; exact q)
          | (have e : hfB nw (decide (bb 0 = 1)) c v bl (i + 1) = false := by rw [hfB, c15, decide_eq_false (fun z => z c21)]; rfl
             rw [e] at q; exact q)
          | (have e : hfB nw (decide (bb 0 = 1)) c v bl (i + 1) = true := by simp only [hfB, c15, c21, c41, not_false_iff, decide_true, Bool.and_true, Bool.or_true]
             rw [e] at q; exact q)
          | (have e : hfB nw (decide (bb 0 = 1)) c v bl (i + 1) = false := by simp only [hfB, c15, c21, c41, Bool.and_false, Bool.or_false]
             rw [e] at q; exact q)
      · refine mG_aload_n dX8_hasFit_24 rfl ?_
        refine mG_aload_n dX8_hasFit_25 rfl ?_
        refine mG_get fX8_29 dX8_hasFit_26 e40 (Nat.le_of_ble_eq_true rfl) rfl ?_
        refine mG_bipush (v := nI 6) dX8_hasFit_29 (by decide) ?_
        refine mG_iload_n dX8_hasFit_31 rfl ?_
        refine mG_imulN dX8_hasFit_32 ?_
        refine mG_iload dX8_hasFit_33 rfl ?_
        refine mG_iaddN dX8_hasFit_35 ?_
        refine mG_ialdA dX8_hasFit_36 e47 (Nat.le_of_ble_eq_true rfl) (by decide) (by omega) ?_
        refine mG_iload_n dX8_hasFit_37 rfl ?_
        refine mG_cv2 vX8_123 dX8_hasFit_38 (mLe_of rfl) (Nat.le_of_ble_eq_true rfl) e40 (Nat.le_of_ble_eq_true rfl) (ok_X8_fits e40 e44 hbb (hn i (by omega)) hv) ?_
        refine mG_if_eqB dX8_hasFit_41 (fun c41 => ?_) (fun c41 => ?_)
        · refine mG_iconst (v := mb false) dX8_hasFit_48 (by decide) ?_
          refine mG_istore dX8_hasFit_49 (Nat.le_of_ble_eq_true rfl) rfl rfl ?_
          refine mG_iincN dX8_hasFit_51 rfl (Nat.le_of_ble_eq_true rfl) rfl rfl ?_
          refine mG_goto dX8_hasFit_54 ?_
          have q := ih (i + 1) (by omega)
          first
            | (have e : hfB nw (decide (bb 0 = 1)) c v bl (i + 1) = true := by simp only [hfB, c15, Bool.true_or]
               rw [e] at q; exact q)
            | (have e : hfB nw (decide (bb 0 = 1)) c v bl (i + 1) = false := by rw [hfB, c15, decide_eq_false (fun z => z c21)]; rfl
               rw [e] at q; exact q)
            | (have e : hfB nw (decide (bb 0 = 1)) c v bl (i + 1) = true := by simp only [hfB, c15, c21, c41, not_false_iff, decide_true, Bool.and_true, Bool.or_true]
               rw [e] at q; exact q)
            | (have e : hfB nw (decide (bb 0 = 1)) c v bl (i + 1) = false := by simp only [hfB, c15, c21, c41, Bool.and_false, Bool.or_false]
               rw [e] at q; exact q)
        · refine mG_iconst (v := mb true) dX8_hasFit_44 (by decide) ?_
          refine mG_goto dX8_hasFit_45 ?_
          refine mG_istore dX8_hasFit_49 (Nat.le_of_ble_eq_true rfl) rfl rfl ?_
          refine mG_iincN dX8_hasFit_51 rfl (Nat.le_of_ble_eq_true rfl) rfl rfl ?_
          refine mG_goto dX8_hasFit_54 ?_
          have q := ih (i + 1) (by omega)
          first
            | (have e : hfB nw (decide (bb 0 = 1)) c v bl (i + 1) = true := by simp only [hfB, c15, Bool.true_or]
               rw [e] at q; exact q)
            | (have e : hfB nw (decide (bb 0 = 1)) c v bl (i + 1) = false := by rw [hfB, c15, decide_eq_false (fun z => z c21)]; rfl
               rw [e] at q; exact q)
            | (have e : hfB nw (decide (bb 0 = 1)) c v bl (i + 1) = true := by simp only [hfB, c15, c21, c41, not_false_iff, decide_true, Bool.and_true, Bool.or_true]
               rw [e] at q; exact q)
            | (have e : hfB nw (decide (bb 0 = 1)) c v bl (i + 1) = false := by simp only [hfB, c15, c21, c41, Bool.and_false, Bool.or_false]
               rw [e] at q; exact q)
set_option maxRecDepth 100000 in
set_option maxHeartbeats 4000000 in
theorem ok_X8_hasFit {E : mE} {h : mH} {ty a sd so va it mo fa : Nat} {wr : Bool} {tr : Int64} {c v bl : Nat} {bb nw : Nat → Nat} (e40 : h 40 = oMo ty a sd so va wr it mo fa tr) (e44 : h 44 = mAr 2 bb) (hbb : bb 0 ≤ 1) (e47 : h 47 = mAr 33 nw) (hc : c < 4) (hv : v < 2 ^ 31) (hb : bl < 2 ^ 31) (hn : ∀ j, j < 6 → nw (6 * c + j) < 2 ^ 31) : mOk E 2 zX8_hasFit [.ref 40, vN c, vN v, vN bl] h (mX (some (vB (hfB nw (decide (bb 0 = 1)) c v bl 6))) h) := by
  refine mOk_w (L := [some (.ref 40), some (vN c), some (vN v), some (vN bl), none, none]) pn_X8 rfl (Nat.le_of_ble_eq_true rfl) rfl ?_
  refine mG_iconst (v := mb false) dX8_hasFit_0 (by decide) ?_
  refine mG_istore dX8_hasFit_1 (Nat.le_of_ble_eq_true rfl) rfl rfl ?_
  refine mG_iconst (v := nI 0) dX8_hasFit_3 (by decide) ?_
  refine mG_istore dX8_hasFit_4 (Nat.le_of_ble_eq_true rfl) rfl rfl ?_
  exact lp_X8_hasFit e40 e44 hbb e47 hc hv hb hn 6 0 rfl
set_option maxRecDepth 100000 in
set_option maxHeartbeats 4000000 in
theorem lp_X8_placeOf {E : mE} {h : mH} {ty a sd so va it mo fa : Nat} {wr : Bool} {tr : Int64} {c : Nat} {cb nw : Nat → Nat} (e40 : h 40 = oMo ty a sd so va wr it mo fa tr) (e42 : h 42 = mAr 2 cb) (hcb : cb 0 ≤ 4) (e47 : h 47 = mAr 33 nw) (hc : c < 2 ^ 31) (hn : ∀ j, j < 4 → nw (24 + j) < 2 ^ 31) : ∀ (k i : Nat), i + k = cb 0 → mG E (mR 1, zX8_placeOf) (mKq E (mR 1) mN (mX (some (vN (plF (fun p => nw (24 + p)) c (cb 0)))) h)) 4 [some (.ref 40), some (vN c), some (vN (plF (fun p => nw (24 + p)) c i)), some (vN i)] [] (mN, 0, 0) h := by
  intro k
  induction k with
  | zero =>
    intro i hk
    refine mG_iload_n dX8_placeOf_4 rfl ?_
    refine mG_aload_n dX8_placeOf_5 rfl ?_
    refine mG_get fX8_13 dX8_placeOf_6 e40 (Nat.le_of_ble_eq_true rfl) rfl ?_
    refine mG_iconst (v := nI 0) dX8_placeOf_9 (by decide) ?_
    refine mG_ialdA dX8_placeOf_10 e42 (Nat.le_of_ble_eq_true rfl) (by decide) (by omega) ?_
    refine mG_icmp_geN dX8_placeOf_11 (by omega) (by omega) (fun c11 => ?_) (fun c11 => absurd c11 (by omega))
    refine mG_iload_n dX8_placeOf_39 rfl ?_
    exact mG_iret dX8_placeOf_40 rfl (mX_of (by rw [show i = cb 0 by omega]) rfl)
  | succ k ih =>
    intro i hk
    refine mG_iload_n dX8_placeOf_4 rfl ?_
    refine mG_aload_n dX8_placeOf_5 rfl ?_
    refine mG_get fX8_13 dX8_placeOf_6 e40 (Nat.le_of_ble_eq_true rfl) rfl ?_
    refine mG_iconst (v := nI 0) dX8_placeOf_9 (by decide) ?_
    refine mG_ialdA dX8_placeOf_10 e42 (Nat.le_of_ble_eq_true rfl) (by decide) (by omega) ?_
    refine mG_icmp_geN dX8_placeOf_11 (by omega) (by omega) (fun c11 => absurd c11 (by omega)) (fun c11 => ?_)
    refine mG_aload_n dX8_placeOf_14 rfl ?_
    refine mG_get fX8_29 dX8_placeOf_15 e40 (Nat.le_of_ble_eq_true rfl) rfl ?_
    refine mG_bipush (v := nI 24) dX8_placeOf_18 (by decide) ?_
    refine mG_iload_n dX8_placeOf_20 rfl ?_
    refine mG_iaddN dX8_placeOf_21 ?_
    refine mG_ialdA dX8_placeOf_22 e47 (Nat.le_of_ble_eq_true rfl) (by decide) (by omega) ?_
    refine mG_iload_n dX8_placeOf_23 rfl ?_
    have hni := hn i (by omega)
    refine mG_icmp_neN dX8_placeOf_24 (by omega) (by omega) (fun c24 => ?_) (fun c24 => ?_)
    · refine mG_iload_n dX8_placeOf_31 rfl ?_
      refine mG_istore_n dX8_placeOf_32 (Nat.le_of_ble_eq_true rfl) rfl rfl ?_
      refine mG_iincN dX8_placeOf_33 rfl (Nat.le_of_ble_eq_true rfl) rfl rfl ?_
      refine mG_goto dX8_placeOf_36 ?_
      have q := ih (i + 1) (by omega)
      first
        | (rw [plF, if_pos c24] at q; exact q)
        | (rw [plF, if_neg c24] at q; exact q)
    · refine mG_iload_n dX8_placeOf_27 rfl ?_
      refine mG_goto dX8_placeOf_28 ?_
      refine mG_istore_n dX8_placeOf_32 (Nat.le_of_ble_eq_true rfl) rfl rfl ?_
      refine mG_iincN dX8_placeOf_33 rfl (Nat.le_of_ble_eq_true rfl) rfl rfl ?_
      refine mG_goto dX8_placeOf_36 ?_
      have q := ih (i + 1) (by omega)
      first
        | (rw [plF, if_pos c24] at q; exact q)
        | (rw [plF, if_neg c24] at q; exact q)
set_option maxRecDepth 100000 in
set_option maxHeartbeats 4000000 in
theorem ok_X8_placeOf {E : mE} {h : mH} {ty a sd so va it mo fa : Nat} {wr : Bool} {tr : Int64} {c : Nat} {cb nw : Nat → Nat} (e40 : h 40 = oMo ty a sd so va wr it mo fa tr) (e42 : h 42 = mAr 2 cb) (hcb : cb 0 ≤ 4) (e47 : h 47 = mAr 33 nw) (hc : c < 2 ^ 31) (hn : ∀ j, j < 4 → nw (24 + j) < 2 ^ 31) : mOk E 1 zX8_placeOf [.ref 40, vN c] h (mX (some (vN (plF (fun p => nw (24 + p)) c (cb 0)))) h) := by
  refine mOk_w (L := [some (.ref 40), some (vN c), none, none]) pn_X8 rfl (Nat.le_of_ble_eq_true rfl) rfl ?_
  refine mG_iconst (v := nI 0) dX8_placeOf_0 (by decide) ?_
  refine mG_istore_n dX8_placeOf_1 (Nat.le_of_ble_eq_true rfl) rfl rfl ?_
  refine mG_iconst (v := nI 0) dX8_placeOf_2 (by decide) ?_
  refine mG_istore_n dX8_placeOf_3 (Nat.le_of_ble_eq_true rfl) rfl rfl ?_
  exact lp_X8_placeOf e40 e42 hcb e47 hc hn (cb 0) 0 (Nat.zero_add _)
set_option maxRecDepth 100000 in
set_option maxHeartbeats 4000000 in
theorem ok_X8_cubeIn {E : mE} {h : mH} {o p : Nat} (ho : o < 2 ^ 31) (hp : p < 4) : mOk E 1 zX8_cubeIn [vN o, vN p] h (mX (some (vN (cIn o p))) h) := by
  refine mOk_w (L := [some (vN o), some (vN p)]) pn_X8 rfl (Nat.le_of_ble_eq_true rfl) rfl ?_
  refine mG_iload_n dX8_cubeIn_0 rfl ?_
  refine mG_iconst (v := nI 2) dX8_cubeIn_1 (by decide) ?_
  refine mG_iload_n dX8_cubeIn_2 rfl ?_
  refine mG_imulN dX8_cubeIn_3 ?_
  refine mG_ishrN dX8_cubeIn_4 (by omega) (by omega) ?_
  refine mG_iconst (v := nI 3) dX8_cubeIn_5 (by decide) ?_
  refine mG_iandN dX8_cubeIn_6 ?_
  exact mG_iret dX8_cubeIn_7 rfl (mX_of rfl rfl)
theorem shl2 {p : Nat} (hp : p ≤ 4) : 1 <<< (2 * p) ≤ 256 := by
  have key : ∀ x : Fin 5, 1 <<< (2 * x.val) ≤ 256 := by decide
  exact key ⟨p, by omega⟩
theorem shl3 {x p : Nat} (hx : x < 4) (hp : p < 4) : x <<< (2 * p) < 256 := by
  have key : ∀ (x p : Fin 4), x.val <<< (2 * p.val) < 256 := by decide
  exact key ⟨x, hx⟩ ⟨p, hp⟩
theorem shl1c {c : Nat} (hc : c ≤ 4) : 1 <<< c ≤ 16 ∧ 1 ≤ 1 <<< c := by
  have key : ∀ x : Fin 5, 1 <<< x.val ≤ 16 ∧ 1 ≤ 1 <<< x.val := by decide
  exact key ⟨c, by omega⟩
set_option maxRecDepth 100000 in
set_option maxHeartbeats 4000000 in
theorem ok_X8_codes {E : mE} {h : mH} {ty a sd so va it mo fa : Nat} {wr : Bool} {tr : Int64} {cb : Nat → Nat} (e40 : h 40 = oMo ty a sd so va wr it mo fa tr) (e42 : h 42 = mAr 2 cb) (hcb : cb 0 ≤ 4)  : mOk E 1 zX8_codes [.ref 40] h (mX (some (vN (1 <<< (2 * cb 0)))) h) := by
  have hs := shl2 hcb
  refine mOk_w (L := [some (.ref 40)]) pn_X8 rfl (Nat.le_of_ble_eq_true rfl) rfl ?_
  refine mG_iconst (v := nI 1) dX8_codes_0 (by decide) ?_
  refine mG_iconst (v := nI 2) dX8_codes_1 (by decide) ?_
  refine mG_aload_n dX8_codes_2 rfl ?_
  refine mG_get fX8_13 dX8_codes_3 e40 (Nat.le_of_ble_eq_true rfl) rfl ?_
  refine mG_iconst (v := nI 0) dX8_codes_6 (by decide) ?_
  refine mG_ialdA dX8_codes_7 e42 (Nat.le_of_ble_eq_true rfl) (by decide) (by omega) ?_
  refine mG_imulN dX8_codes_8 ?_
  refine mG_ishlN dX8_codes_9 (by omega) (Nat.lt_of_le_of_lt hs (by decide)) ?_
  exact mG_iret dX8_codes_10 rfl (mX_of rfl rfl)
set_option maxRecDepth 100000 in
set_option maxHeartbeats 4000000 in
theorem lp_X8_isOrder {E : mE} {h : mH} {ty a sd so va it mo fa : Nat} {wr : Bool} {tr : Int64} {o : Nat} {cb : Nat → Nat} (e40 : h 40 = oMo ty a sd so va wr it mo fa tr) (e42 : h 42 = mAr 2 cb) (hcb : cb 0 ≤ 4) (ho : o < 2 ^ 31) : ∀ (k i : Nat), i + k = cb 0 → mG E (mR 2, zX8_isOrder) (mKq E (mR 2) mN (mX (some (vB (isOrd (cb 0) o))) h)) 4 [some (.ref 40), some (vN o), some (vN (ioS o i)), some (vN i)] [] (mN, 0, 0) h := by
  intro k
  induction k with
  | zero =>
    intro i hk
    refine mG_iload_n dX8_isOrder_4 rfl ?_
    refine mG_aload_n dX8_isOrder_5 rfl ?_
    refine mG_get fX8_13 dX8_isOrder_6 e40 (Nat.le_of_ble_eq_true rfl) rfl ?_
    refine mG_iconst (v := nI 0) dX8_isOrder_9 (by decide) ?_
    refine mG_ialdA dX8_isOrder_10 e42 (Nat.le_of_ble_eq_true rfl) (by decide) (by omega) ?_
    refine mG_icmp_geN dX8_isOrder_11 (by omega) (by omega) (fun c11 => ?_) (fun c11 => absurd c11 (by omega))
    have hio := ioS_lt o i
    have hsh := shl1c hcb
    obtain rfl : i = cb 0 := by omega
    refine mG_iload_n dX8_isOrder_30 rfl ?_
    refine mG_iconst (v := nI 1) dX8_isOrder_31 (by decide) ?_
    refine mG_aload_n dX8_isOrder_32 rfl ?_
    refine mG_get fX8_13 dX8_isOrder_33 e40 (Nat.le_of_ble_eq_true rfl) rfl ?_
    refine mG_iconst (v := nI 0) dX8_isOrder_36 (by decide) ?_
    refine mG_ialdA dX8_isOrder_37 e42 (Nat.le_of_ble_eq_true rfl) (by decide) (by omega) ?_
    refine mG_ishlN dX8_isOrder_38 (by omega) (Nat.lt_of_le_of_lt hsh.1 (by decide)) ?_
    refine mG_iconst (v := nI 1) dX8_isOrder_39 (by decide) ?_
    refine mG_isubN dX8_isOrder_40 (hsh.2) ?_
    refine mG_icmp_neN dX8_isOrder_41 (by omega) (by omega) (fun c41 => ?_) (fun c41 => ?_)
    · refine mG_iconst (v := mb false) dX8_isOrder_48 (by decide) ?_
      exact mG_zret dX8_isOrder_49 rfl (mX_of (by unfold isOrd; first | rw [decide_eq_true c41] | rw [decide_eq_false c41]) rfl)
    · refine mG_iconst (v := mb true) dX8_isOrder_44 (by decide) ?_
      refine mG_goto dX8_isOrder_45 ?_
      exact mG_zret dX8_isOrder_49 rfl (mX_of (by unfold isOrd; first | rw [decide_eq_true c41] | rw [decide_eq_false c41]) rfl)
  | succ k ih =>
    intro i hk
    refine mG_iload_n dX8_isOrder_4 rfl ?_
    refine mG_aload_n dX8_isOrder_5 rfl ?_
    refine mG_get fX8_13 dX8_isOrder_6 e40 (Nat.le_of_ble_eq_true rfl) rfl ?_
    refine mG_iconst (v := nI 0) dX8_isOrder_9 (by decide) ?_
    refine mG_ialdA dX8_isOrder_10 e42 (Nat.le_of_ble_eq_true rfl) (by decide) (by omega) ?_
    refine mG_icmp_geN dX8_isOrder_11 (by omega) (by omega) (fun c11 => absurd c11 (by omega)) (fun c11 => ?_)
    refine mG_iload_n dX8_isOrder_14 rfl ?_
    refine mG_iconst (v := nI 1) dX8_isOrder_15 (by decide) ?_
    refine mG_iload_n dX8_isOrder_16 rfl ?_
    refine mG_iload_n dX8_isOrder_17 rfl ?_
    refine mG_cs2 sX8_127 dX8_isOrder_18 (mLe_of rfl) (Nat.le_of_ble_eq_true rfl) (ok_X8_cubeIn ho (by omega)) ?_
    refine mG_ishlN dX8_isOrder_21 (Nat.lt_trans (cIn_lt o i) (by decide)) (shl1_lt2 (Nat.lt_trans (cIn_lt o i) (by decide))) ?_
    refine mG_iorN dX8_isOrder_22 ?_
    refine mG_istore_n dX8_isOrder_23 (Nat.le_of_ble_eq_true rfl) rfl rfl ?_
    refine mG_iincN dX8_isOrder_24 rfl (Nat.le_of_ble_eq_true rfl) rfl rfl ?_
    refine mG_goto dX8_isOrder_27 ?_
    exact ih (i + 1) (by omega)
set_option maxRecDepth 100000 in
set_option maxHeartbeats 4000000 in
theorem ok_X8_isOrder {E : mE} {h : mH} {ty a sd so va it mo fa : Nat} {wr : Bool} {tr : Int64} {o : Nat} {cb : Nat → Nat} (e40 : h 40 = oMo ty a sd so va wr it mo fa tr) (e42 : h 42 = mAr 2 cb) (hcb : cb 0 ≤ 4) (ho : o < 2 ^ 31) : mOk E 2 zX8_isOrder [.ref 40, vN o] h (mX (some (vB (isOrd (cb 0) o))) h) := by
  refine mOk_w (L := [some (.ref 40), some (vN o), none, none]) pn_X8 rfl (Nat.le_of_ble_eq_true rfl) rfl ?_
  refine mG_iconst (v := nI 0) dX8_isOrder_0 (by decide) ?_
  refine mG_istore_n dX8_isOrder_1 (Nat.le_of_ble_eq_true rfl) rfl rfl ?_
  refine mG_iconst (v := nI 0) dX8_isOrder_2 (by decide) ?_
  refine mG_istore_n dX8_isOrder_3 (Nat.le_of_ble_eq_true rfl) rfl rfl ?_
  exact lp_X8_isOrder e40 e42 hcb ho (cb 0) 0 (Nat.zero_add _)
set_option maxRecDepth 100000 in
set_option maxHeartbeats 4000000 in
theorem lp_X8_orderNow {E : mE} {h : mH} {ty a sd so va it mo fa : Nat} {wr : Bool} {tr : Int64} {cb nw : Nat → Nat} (e40 : h 40 = oMo ty a sd so va wr it mo fa tr) (e42 : h 42 = mAr 2 cb) (hcb : cb 0 ≤ 4) (e47 : h 47 = mAr 33 nw) (hn : ∀ j, j < 4 → nw (24 + j) < 4) : ∀ (k i : Nat), i + k = cb 0 → mG E (mR 1, zX8_orderNow) (mKq E (mR 1) mN (mX (some (vN (onF (fun p => nw (24 + p)) (cb 0)))) h)) 4 [some (.ref 40), some (vN (onF (fun p => nw (24 + p)) i)), some (vN i)] [] (mN, 0, 0) h := by
  intro k
  induction k with
  | zero =>
    intro i hk
    refine mG_iload_n dX8_orderNow_4 rfl ?_
    refine mG_aload_n dX8_orderNow_5 rfl ?_
    refine mG_get fX8_13 dX8_orderNow_6 e40 (Nat.le_of_ble_eq_true rfl) rfl ?_
    refine mG_iconst (v := nI 0) dX8_orderNow_9 (by decide) ?_
    refine mG_ialdA dX8_orderNow_10 e42 (Nat.le_of_ble_eq_true rfl) (by decide) (by omega) ?_
    refine mG_icmp_geN dX8_orderNow_11 (by omega) (by omega) (fun c11 => ?_) (fun c11 => absurd c11 (by omega))
    refine mG_iload_n dX8_orderNow_36 rfl ?_
    exact mG_iret dX8_orderNow_37 rfl (mX_of (by rw [show i = cb 0 by omega]) rfl)
  | succ k ih =>
    intro i hk
    refine mG_iload_n dX8_orderNow_4 rfl ?_
    refine mG_aload_n dX8_orderNow_5 rfl ?_
    refine mG_get fX8_13 dX8_orderNow_6 e40 (Nat.le_of_ble_eq_true rfl) rfl ?_
    refine mG_iconst (v := nI 0) dX8_orderNow_9 (by decide) ?_
    refine mG_ialdA dX8_orderNow_10 e42 (Nat.le_of_ble_eq_true rfl) (by decide) (by omega) ?_
    refine mG_icmp_geN dX8_orderNow_11 (by omega) (by omega) (fun c11 => absurd c11 (by omega)) (fun c11 => ?_)
    refine mG_iload_n dX8_orderNow_14 rfl ?_
    refine mG_aload_n dX8_orderNow_15 rfl ?_
    refine mG_get fX8_29 dX8_orderNow_16 e40 (Nat.le_of_ble_eq_true rfl) rfl ?_
    refine mG_bipush (v := nI 24) dX8_orderNow_19 (by decide) ?_
    refine mG_iload_n dX8_orderNow_21 rfl ?_
    refine mG_iaddN dX8_orderNow_22 ?_
    refine mG_ialdA dX8_orderNow_23 e47 (Nat.le_of_ble_eq_true rfl) (by decide) (by omega) ?_
    refine mG_iconst (v := nI 2) dX8_orderNow_24 (by decide) ?_
    refine mG_iload_n dX8_orderNow_25 rfl ?_
    refine mG_imulN dX8_orderNow_26 ?_
    refine mG_ishlN dX8_orderNow_27 (by omega) (Nat.lt_trans (shl3 (hn i (by omega)) (by omega)) (by decide)) ?_
    refine mG_iorN dX8_orderNow_28 ?_
    refine mG_istore_n dX8_orderNow_29 (Nat.le_of_ble_eq_true rfl) rfl rfl ?_
    refine mG_iincN dX8_orderNow_30 rfl (Nat.le_of_ble_eq_true rfl) rfl rfl ?_
    refine mG_goto dX8_orderNow_33 ?_
    exact ih (i + 1) (by omega)
set_option maxRecDepth 100000 in
set_option maxHeartbeats 4000000 in
theorem ok_X8_orderNow {E : mE} {h : mH} {ty a sd so va it mo fa : Nat} {wr : Bool} {tr : Int64} {cb nw : Nat → Nat} (e40 : h 40 = oMo ty a sd so va wr it mo fa tr) (e42 : h 42 = mAr 2 cb) (hcb : cb 0 ≤ 4) (e47 : h 47 = mAr 33 nw) (hn : ∀ j, j < 4 → nw (24 + j) < 4) : mOk E 1 zX8_orderNow [.ref 40] h (mX (some (vN (onF (fun p => nw (24 + p)) (cb 0)))) h) := by
  refine mOk_w (L := [some (.ref 40), none, none]) pn_X8 rfl (Nat.le_of_ble_eq_true rfl) rfl ?_
  refine mG_iconst (v := nI 0) dX8_orderNow_0 (by decide) ?_
  refine mG_istore_n dX8_orderNow_1 (Nat.le_of_ble_eq_true rfl) rfl rfl ?_
  refine mG_iconst (v := nI 0) dX8_orderNow_2 (by decide) ?_
  refine mG_istore_n dX8_orderNow_3 (Nat.le_of_ble_eq_true rfl) rfl rfl ?_
  exact lp_X8_orderNow e40 e42 hcb e47 hn (cb 0) 0 (Nat.zero_add _)
set_option maxRecDepth 100000 in
set_option maxHeartbeats 4000000 in
theorem ok_X8_turnsTo {E : mE} {h : mH} {s t : Nat} (hs : s < 6) (ht : t < 6) : mOk E 1 zX8_turnsTo [vN s, vN t] h (mX (some (vN (tW s t))) h) := by
  refine mOk_w (L := [some (vN s), some (vN t)]) pn_X8 rfl (Nat.le_of_ble_eq_true rfl) rfl ?_
  refine mG_iload_n dX8_turnsTo_0 rfl ?_
  refine mG_iload_n dX8_turnsTo_1 rfl ?_
  refine mG_icmp_neN dX8_turnsTo_2 (by omega) (by omega) (fun c2 => ?_) (fun c2 => ?_)
  · refine mG_iload_n dX8_turnsTo_9 rfl ?_
    refine mG_iconst (v := nI 5) dX8_turnsTo_10 (by decide) ?_
    refine mG_iload_n dX8_turnsTo_11 rfl ?_
    refine mG_isubN dX8_turnsTo_12 (by omega) ?_
    refine mG_icmp_neN dX8_turnsTo_13 (by omega) (by omega) (fun c13 => ?_) (fun c13 => ?_)
    · refine mG_iconst (v := nI 1) dX8_turnsTo_20 (by decide) ?_
      exact mG_iret dX8_turnsTo_21 rfl (mX_of (by unfold tW; first | rw [if_pos c2] | rw [if_neg c2, if_pos (by omega)] | rw [if_neg c2, if_neg (by omega)]) rfl)
    · refine mG_iconst (v := nI 2) dX8_turnsTo_16 (by decide) ?_
      refine mG_goto dX8_turnsTo_17 ?_
      exact mG_iret dX8_turnsTo_21 rfl (mX_of (by unfold tW; first | rw [if_pos c2] | rw [if_neg c2, if_pos (by omega)] | rw [if_neg c2, if_neg (by omega)]) rfl)
  · refine mG_iconst (v := nI 0) dX8_turnsTo_5 (by decide) ?_
    refine mG_goto dX8_turnsTo_6 ?_
    exact mG_iret dX8_turnsTo_21 rfl (mX_of (by unfold tW; first | rw [if_pos c2] | rw [if_neg c2, if_pos (by omega)] | rw [if_neg c2, if_neg (by omega)]) rfl)
set_option maxRecDepth 100000 in
set_option maxHeartbeats 4000000 in
theorem lp_X8_figuresOf {E : mE} {h : mH} {ty a sd so va it mo fa : Nat} {wr : Bool} {tr : Int64} {c : Nat} {nw : Nat → Nat} (e40 : h 40 = oMo ty a sd so va wr it mo fa tr) (e47 : h 47 = mAr 33 nw) (hc : c < 4) (hn : ∀ j, j < 6 → nw (c * 6 + j) < 10) : ∀ (k i : Nat), i + k = 6 → mG E (mR 1, zX8_figuresOf) (mKq E (mR 1) mN (mX (some (vN (fgs nw c 6))) h)) 4 [some (.ref 40), some (vN c), some (vN (fgs nw c i)), some (vN i)] [] (mN, 0, 0) h := by
  intro k
  induction k with
  | zero =>
    intro i hk
    refine mG_iload_n dX8_figuresOf_4 rfl ?_
    refine mG_bipush (v := nI 6) dX8_figuresOf_5 (by decide) ?_
    refine mG_icmp_geN dX8_figuresOf_7 (by omega) (by omega) (fun c7 => ?_) (fun c7 => absurd c7 (by omega))
    refine mG_iload_n dX8_figuresOf_32 rfl ?_
    exact mG_iret dX8_figuresOf_33 rfl (mX_of (by rw [show i = 6 by omega]) rfl)
  | succ k ih =>
    intro i hk
    refine mG_iload_n dX8_figuresOf_4 rfl ?_
    refine mG_bipush (v := nI 6) dX8_figuresOf_5 (by decide) ?_
    refine mG_icmp_geN dX8_figuresOf_7 (by omega) (by omega) (fun c7 => absurd c7 (by omega)) (fun c7 => ?_)
    refine mG_iload_n dX8_figuresOf_10 rfl ?_
    refine mG_iconst (v := nI 1) dX8_figuresOf_11 (by decide) ?_
    refine mG_aload_n dX8_figuresOf_12 rfl ?_
    refine mG_get fX8_29 dX8_figuresOf_13 e40 (Nat.le_of_ble_eq_true rfl) rfl ?_
    refine mG_bipush (v := nI 6) dX8_figuresOf_16 (by decide) ?_
    refine mG_iload_n dX8_figuresOf_18 rfl ?_
    refine mG_imulN dX8_figuresOf_19 ?_
    refine mG_iload_n dX8_figuresOf_20 rfl ?_
    refine mG_iaddN dX8_figuresOf_21 ?_
    refine mG_ialdA dX8_figuresOf_22 e47 (Nat.le_of_ble_eq_true rfl) (by decide) (by omega) ?_
    have hni := hn i (by omega)
    rw [Nat.mul_comm 6 c]
    refine mG_ishlN dX8_figuresOf_23 (by omega) (shl1_lt2 (by omega)) ?_
    refine mG_iorN dX8_figuresOf_24 ?_
    refine mG_istore_n dX8_figuresOf_25 (Nat.le_of_ble_eq_true rfl) rfl rfl ?_
    refine mG_iincN dX8_figuresOf_26 rfl (Nat.le_of_ble_eq_true rfl) rfl rfl ?_
    refine mG_goto dX8_figuresOf_29 ?_
    exact ih (i + 1) (by omega)
set_option maxRecDepth 100000 in
set_option maxHeartbeats 4000000 in
theorem ok_X8_figuresOf {E : mE} {h : mH} {ty a sd so va it mo fa : Nat} {wr : Bool} {tr : Int64} {c : Nat} {nw : Nat → Nat} (e40 : h 40 = oMo ty a sd so va wr it mo fa tr) (e47 : h 47 = mAr 33 nw) (hc : c < 4) (hn : ∀ j, j < 6 → nw (c * 6 + j) < 10) : mOk E 1 zX8_figuresOf [.ref 40, vN c] h (mX (some (vN (fgs nw c 6))) h) := by
  refine mOk_w (L := [some (.ref 40), some (vN c), none, none]) pn_X8 rfl (Nat.le_of_ble_eq_true rfl) rfl ?_
  refine mG_iconst (v := nI 0) dX8_figuresOf_0 (by decide) ?_
  refine mG_istore_n dX8_figuresOf_1 (Nat.le_of_ble_eq_true rfl) rfl rfl ?_
  refine mG_iconst (v := nI 0) dX8_figuresOf_2 (by decide) ?_
  refine mG_istore_n dX8_figuresOf_3 (Nat.le_of_ble_eq_true rfl) rfl rfl ?_
  exact lp_X8_figuresOf e40 e47 hc hn 6 0 rfl
set_option maxRecDepth 100000 in
set_option maxHeartbeats 4000000 in
theorem ok_X8_inFront {E : mE} {h : mH} {ty a sd so va it mo fa : Nat} {wr : Bool} {tr : Int64} {c : Nat} {nw : Nat → Nat} (e40 : h 40 = oMo ty a sd so va wr it mo fa tr) (e47 : h 47 = mAr 33 nw) (hc : c < 4) (hf : nw (28 + c) < 6) : mOk E 1 zX8_inFront [.ref 40, vN c] h (mX (some (vN (nw (6 * c + nw (28 + c))))) h) := by
  refine mOk_w (L := [some (.ref 40), some (vN c)]) pn_X8 rfl (Nat.le_of_ble_eq_true rfl) rfl ?_
  refine mG_aload_n dX8_inFront_0 rfl ?_
  refine mG_get fX8_29 dX8_inFront_1 e40 (Nat.le_of_ble_eq_true rfl) rfl ?_
  refine mG_bipush (v := nI 6) dX8_inFront_4 (by decide) ?_
  refine mG_iload_n dX8_inFront_6 rfl ?_
  refine mG_imulN dX8_inFront_7 ?_
  refine mG_aload_n dX8_inFront_8 rfl ?_
  refine mG_get fX8_29 dX8_inFront_9 e40 (Nat.le_of_ble_eq_true rfl) rfl ?_
  refine mG_bipush (v := nI 28) dX8_inFront_12 (by decide) ?_
  refine mG_iload_n dX8_inFront_14 rfl ?_
  refine mG_iaddN dX8_inFront_15 ?_
  refine mG_ialdA dX8_inFront_16 e47 (Nat.le_of_ble_eq_true rfl) (by decide) (by omega) ?_
  refine mG_iaddN dX8_inFront_17 ?_
  refine mG_ialdA dX8_inFront_18 e47 (Nat.le_of_ble_eq_true rfl) (by decide) (by omega) ?_
  exact mG_iret dX8_inFront_19 rfl (mX_of rfl rfl)
