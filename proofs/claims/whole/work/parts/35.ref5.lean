-- needs: 33 34
/-! the reference: what can be told -/
def anyF (f : Nat → Bool) : Nat → Nat → Bool
  | _, 0 => false
  | i, k + 1 => f i || anyF f (i + 1) k
def exB (f : Nat → Bool) : Nat → Bool
  | 0 => false
  | k + 1 => exB f k || f k
def alB (f : Nat → Bool) : Nat → Bool
  | 0 => true
  | k + 1 => alB f k && f k
def ddG (f : Nat → Bool) : Nat → Nat
  | 0 => 0
  | d + 1 => if f d = true then ddG f d ||| 1 <<< d else ddG f d
def smG (f : Nat → Nat) : Nat → Nat
  | 0 => 0
  | k + 1 => smG f k + f k
theorem ddG_t {f : Nat → Bool} {d : Nat} (h : f d = true) : ddG f (d + 1) = ddG f d ||| 1 <<< d := if_pos h
theorem ddG_f {f : Nat → Bool} {d : Nat} (h : f d = false) : ddG f (d + 1) = ddG f d := if_neg (by rw [h]; exact Bool.noConfusion)
theorem ddG_lt (f : Nat → Bool) : ∀ n, ddG f n < 2 ^ n := by
  intro n
  induction n with
  | zero => exact Nat.zero_lt_one
  | succ n ih =>
    unfold ddG
    have h1 : 2 ^ n < 2 ^ (n + 1) := by rw [Nat.pow_succ]; have := Nat.two_pow_pos n; omega
    split
    · refine or_lt (Nat.lt_trans ih h1) ?_
      rw [Nat.one_shiftLeft]
      exact h1
    · exact Nat.lt_trans ih h1
def ordP (nw : Nat → Nat) (bo : Bool) (cu n c bl o p : Nat) : Bool := hfB nw bo (cIn o p) (fgo cu n p) (if cIn o p = c then bl else 6) 6
def ordB (nw : Nat → Nat) (bo : Bool) (cu n c bl o : Nat) : Bool := allF (ordP nw bo cu n c bl o) 0 cu
def canR (nw : Nat → Nat) (bo : Bool) (cu mo : Nat) (od : Nat → Nat) (n c bl : Nat) : Bool := anyF (fun k => ordB nw bo cu n c bl (od k)) 0 mo
def oOK (cu mo : Nat) (od : Nat → Nat) : Prop := mo ≤ 24 ∧ (∀ k, k < mo → od k < 256) ∧ ∀ k p, k < mo → p < cu → cIn (od k) p < cu
theorem fgo_lt (cu n p : Nat) : fgo cu n p < 10 := Nat.mod_lt _ (by decide)
set_option maxRecDepth 100000 in
set_option maxHeartbeats 4000000 in
theorem le_X8_canF {E : mE} {h : mH} {K : mKt} {ty a sd so va it mo fa : Nat} {wr : Bool} {tr : Int64} {n c bl kk i : Nat} {R : Bool} {o : Option Value} {cb : Nat → Nat} (e40 : h 40 = oMo ty a sd so va wr it mo fa tr) (e42 : h 42 = mAr 2 cb) (hcb : cb 0 ≤ 4) (hR : R = false) (hK : ∀ x y, mG E (mR 3, zX8_can) K 81 [some (.ref 40), some (vN n), some (vN c), some (vN bl), some (vN kk), some (vB R), some (vN x), y] [] (mN, 0, 0) h) (hi : i < 2 ^ 31) : mG E (mR 3, zX8_can) K 18 [some (.ref 40), some (vN n), some (vN c), some (vN bl), some (vN kk), some (vB false), some (vN i), o] [] (mN, 0, 0) h := by
  subst hR
  refine mG_iload dX8_can_18 rfl ?_
  refine mG_aload_n dX8_can_20 rfl ?_
  refine mG_get fX8_13 dX8_can_21 e40 (Nat.le_of_ble_eq_true rfl) rfl ?_
  refine mG_iconst (v := nI 0) dX8_can_24 (by decide) ?_
  refine mG_ialdA dX8_can_25 e42 (Nat.le_of_ble_eq_true rfl) (by decide) (by omega) ?_
  refine mG_icmp_geN dX8_can_26 (by omega) (by omega) (fun c26 => ?_) (fun c26 => ?_)
  · exact hK i o
  · refine mG_iload dX8_can_29 rfl ?_
    refine mG_if_eqB dX8_can_31 (fun c31 => ?_) (fun c31 => Bool.noConfusion c31)
    exact hK i o
set_option maxRecDepth 100000 in
set_option maxHeartbeats 4000000 in
theorem lp_X8_canI {E : mE} {h : mH} {K : mKt} {ty a sd so va it mo fa : Nat} {wr : Bool} {tr : Int64} {n c bl kk : Nat} {R : Bool} {bb cb nw od : Nat → Nat} (e40 : h 40 = oMo ty a sd so va wr it mo fa tr) (e42 : h 42 = mAr 2 cb) (hcb : cb 0 ≤ 4) (e44 : h 44 = mAr 2 bb) (hbb : bb 0 ≤ 1) (e47 : h 47 = mAr 33 nw) (e53 : h 53 = mAr 24 od) (ho : oOK (cb 0) mo od) (hnf : ∀ j, j < cb 0 * 6 → nw j < 10) (hn : n < 2 ^ 31) (hc : c < 2 ^ 31) (hbl : bl < 2 ^ 31) (hkk : kk < mo) (hK : ∀ x y, mG E (mR 3, zX8_can) K 81 [some (.ref 40), some (vN n), some (vN c), some (vN bl), some (vN kk), some (vB R), some (vN x), y] [] (mN, 0, 0) h) : ∀ (k i : Nat) (o : Option Value), i + k = cb 0 → R = allF (ordP nw (decide (bb 0 = 1)) (cb 0) n c bl (od kk)) i k → mG E (mR 3, zX8_can) K 18 [some (.ref 40), some (vN n), some (vN c), some (vN bl), some (vN kk), some (vB true), some (vN i), o] [] (mN, 0, 0) h := by
  intro k
  induction k with
  | zero =>
    intro i o hk hR
    refine mG_iload dX8_can_18 rfl ?_
    refine mG_aload_n dX8_can_20 rfl ?_
    refine mG_get fX8_13 dX8_can_21 e40 (Nat.le_of_ble_eq_true rfl) rfl ?_
    refine mG_iconst (v := nI 0) dX8_can_24 (by decide) ?_
    refine mG_ialdA dX8_can_25 e42 (Nat.le_of_ble_eq_true rfl) (by decide) (by omega) ?_
    refine mG_icmp_geN dX8_can_26 (by omega) (by omega) (fun c26 => ?_) (fun c26 => absurd c26 (by omega))
    subst hR
    exact hK i o
  | succ k ih =>
    intro i o hk hR
    refine mG_iload dX8_can_18 rfl ?_
    refine mG_aload_n dX8_can_20 rfl ?_
    refine mG_get fX8_13 dX8_can_21 e40 (Nat.le_of_ble_eq_true rfl) rfl ?_
    refine mG_iconst (v := nI 0) dX8_can_24 (by decide) ?_
    refine mG_ialdA dX8_can_25 e42 (Nat.le_of_ble_eq_true rfl) (by decide) (by omega) ?_
    refine mG_icmp_geN dX8_can_26 (by omega) (by omega) (fun c26 => absurd c26 (by omega)) (fun c26 => ?_)
    refine mG_iload dX8_can_29 rfl ?_
    refine mG_if_eqB dX8_can_31 (fun c31 => Bool.noConfusion c31) (fun c31 => ?_)
    refine mG_aload_n dX8_can_34 rfl ?_
    refine mG_get fX8_48 dX8_can_35 e40 (Nat.le_of_ble_eq_true rfl) rfl ?_
    refine mG_iload dX8_can_38 rfl ?_
    refine mG_ialdA dX8_can_40 e53 (Nat.le_of_ble_eq_true rfl) (by decide) (Nat.lt_of_lt_of_le hkk ho.1) ?_
    refine mG_iload dX8_can_41 rfl ?_
    refine mG_cs2 sX8_127 dX8_can_43 (mLe_of rfl) (Nat.le_of_ble_eq_true rfl) (ok_X8_cubeIn (Nat.lt_trans (ho.2.1 kk hkk) (by decide)) (by omega)) ?_
    have hoc := ho.2.2 kk i hkk c26
    have ho4 := cIn_lt (od kk) i
    refine mG_istore dX8_can_46 (Nat.le_of_ble_eq_true rfl) rfl rfl ?_
    refine mG_aload_n dX8_can_48 rfl ?_
    refine mG_iload dX8_can_49 rfl ?_
    refine mG_aload_n dX8_can_51 rfl ?_
    refine mG_iload_n dX8_can_52 rfl ?_
    refine mG_iload dX8_can_53 rfl ?_
    refine mG_cv2 vX8_133 dX8_can_55 (mLe_of rfl) (Nat.le_of_ble_eq_true rfl) e40 (Nat.le_of_ble_eq_true rfl) (ok_X8_figureOf e40 e42 hcb hn c26) ?_
    refine mG_iload dX8_can_58 rfl ?_
    refine mG_iload_n dX8_can_60 rfl ?_
    refine mG_icmp_neN dX8_can_61 (by omega) (by omega) (fun c61 => ?_) (fun c61 => ?_)
    · refine mG_bipush (v := nI 6) dX8_can_68 (by decide) ?_
      have hfl := fgo_lt (cb 0) n i
      refine mG_cv3 vX8_136 dX8_can_70 (mLe_of rfl) (Nat.le_of_ble_eq_true rfl) e40 (Nat.le_of_ble_eq_true rfl) (ok_X8_hasFit e40 e44 hbb e47 ho4 (by omega) (by omega) (fun j hj => Nat.lt_trans (hnf _ (by omega)) (by decide))) ?_
      refine mG_istore dX8_can_73 (Nat.le_of_ble_eq_true rfl) rfl rfl ?_
      refine mG_iincN dX8_can_75 rfl (Nat.le_of_ble_eq_true rfl) rfl rfl ?_
      refine mG_goto dX8_can_78 ?_
      have hq : ordP nw (decide (bb 0 = 1)) (cb 0) n c bl (od kk) i = hfB nw (decide (bb 0 = 1)) (cIn (od kk) i) (fgo (cb 0) n i) (if cIn (od kk) i = c then bl else 6) 6 := rfl
      first
        | rw [if_pos c61] at hq
        | rw [if_neg c61] at hq
      rw [← hq]
      cases hb : ordP nw (decide (bb 0 = 1)) (cb 0) n c bl (od kk) i with
      | true => exact ih (i + 1) _ (by omega) (by rw [hR, allF, hb]; rfl)
      | false => exact le_X8_canF e40 e42 hcb (by rw [hR, allF, hb]; rfl) hK (by omega)
    · refine mG_iload_n dX8_can_64 rfl ?_
      refine mG_goto dX8_can_65 ?_
      have hfl := fgo_lt (cb 0) n i
      refine mG_cv3 vX8_136 dX8_can_70 (mLe_of rfl) (Nat.le_of_ble_eq_true rfl) e40 (Nat.le_of_ble_eq_true rfl) (ok_X8_hasFit e40 e44 hbb e47 ho4 (by omega) (by omega) (fun j hj => Nat.lt_trans (hnf _ (by omega)) (by decide))) ?_
      refine mG_istore dX8_can_73 (Nat.le_of_ble_eq_true rfl) rfl rfl ?_
      refine mG_iincN dX8_can_75 rfl (Nat.le_of_ble_eq_true rfl) rfl rfl ?_
      refine mG_goto dX8_can_78 ?_
      have hq : ordP nw (decide (bb 0 = 1)) (cb 0) n c bl (od kk) i = hfB nw (decide (bb 0 = 1)) (cIn (od kk) i) (fgo (cb 0) n i) (if cIn (od kk) i = c then bl else 6) 6 := rfl
      first
        | rw [if_pos c61] at hq
        | rw [if_neg c61] at hq
      rw [← hq]
      cases hb : ordP nw (decide (bb 0 = 1)) (cb 0) n c bl (od kk) i with
      | true => exact ih (i + 1) _ (by omega) (by rw [hR, allF, hb]; rfl)
      | false => exact le_X8_canF e40 e42 hcb (by rw [hR, allF, hb]; rfl) hK (by omega)
set_option maxRecDepth 100000 in
set_option maxHeartbeats 4000000 in
theorem lp_X8_can {E : mE} {h : mH} {ty a sd so va it mo fa : Nat} {wr : Bool} {tr : Int64} {n c bl : Nat} {R : Bool} {bb cb nw od : Nat → Nat} (e40 : h 40 = oMo ty a sd so va wr it mo fa tr) (e42 : h 42 = mAr 2 cb) (hcb : cb 0 ≤ 4) (e44 : h 44 = mAr 2 bb) (hbb : bb 0 ≤ 1) (e47 : h 47 = mAr 33 nw) (e53 : h 53 = mAr 24 od) (ho : oOK (cb 0) mo od) (hnf : ∀ j, j < cb 0 * 6 → nw j < 10) (hn : n < 2 ^ 31) (hc : c < 2 ^ 31) (hbl : bl < 2 ^ 31)  : ∀ (k i : Nat) (x5 x6 x7 : Option Value), i + k = mo → R = anyF (fun k => ordB nw (decide (bb 0 = 1)) (cb 0) n c bl (od k)) i k → mG E (mR 3, zX8_can) (mKq E (mR 3) mN (mX (some (vB R)) h)) 3 [some (.ref 40), some (vN n), some (vN c), some (vN bl), some (vN i), x5, x6, x7] [] (mN, 0, 0) h := by
  intro k
  induction k with
  | zero =>
    intro i x5 x6 x7 hk hR
    refine mG_iload dX8_can_3 rfl ?_
    refine mG_aload_n dX8_can_5 rfl ?_
    refine mG_get fX8_130 dX8_can_6 e40 (Nat.le_of_ble_eq_true rfl) rfl ?_
    have hmo := ho.1
    refine mG_icmp_geN dX8_can_9 (by omega) (by omega) (fun c9 => ?_) (fun c9 => absurd c9 (by omega))
    refine mG_iconst (v := mb false) dX8_can_94 (by decide) ?_
    exact mG_zret dX8_can_95 rfl (mX_of (by subst hR; rfl) rfl)
  | succ k ih =>
    intro i x5 x6 x7 hk hR
    refine mG_iload dX8_can_3 rfl ?_
    refine mG_aload_n dX8_can_5 rfl ?_
    refine mG_get fX8_130 dX8_can_6 e40 (Nat.le_of_ble_eq_true rfl) rfl ?_
    have hmo := ho.1
    refine mG_icmp_geN dX8_can_9 (by omega) (by omega) (fun c9 => absurd c9 (by omega)) (fun c9 => ?_)
    refine mG_iconst (v := mb true) dX8_can_12 (by decide) ?_
    refine mG_istore dX8_can_13 (Nat.le_of_ble_eq_true rfl) rfl rfl ?_
    refine mG_iconst (v := nI 0) dX8_can_15 (by decide) ?_
    refine mG_istore dX8_can_16 (Nat.le_of_ble_eq_true rfl) rfl rfl ?_
    refine lp_X8_canI (R := ordB nw (decide (bb 0 = 1)) (cb 0) n c bl (od i)) e40 e42 hcb e44 hbb e47 e53 ho hnf hn hc hbl c9 (fun x y => ?_) (cb 0) 0 _ (Nat.zero_add _) rfl
    refine mG_iload dX8_can_81 rfl ?_
    refine mG_if_eqB dX8_can_83 (fun c83 => ?_) (fun c83 => ?_)
    · refine mG_iincN dX8_can_88 rfl (Nat.le_of_ble_eq_true rfl) rfl rfl ?_
      refine mG_goto dX8_can_91 ?_
      exact ih (i + 1) _ _ _ (by omega) (by rw [hR, anyF, c83]; rfl)
    · refine mG_iconst (v := mb true) dX8_can_86 (by decide) ?_
      exact mG_zret dX8_can_87 rfl (mX_of (by rw [hR, anyF, c83]; rfl) rfl)
set_option maxRecDepth 100000 in
set_option maxHeartbeats 4000000 in
theorem ok_X8_can {E : mE} {h : mH} {ty a sd so va it mo fa : Nat} {wr : Bool} {tr : Int64} {n c bl : Nat} {bb cb nw od : Nat → Nat} (e40 : h 40 = oMo ty a sd so va wr it mo fa tr) (e42 : h 42 = mAr 2 cb) (hcb : cb 0 ≤ 4) (e44 : h 44 = mAr 2 bb) (hbb : bb 0 ≤ 1) (e47 : h 47 = mAr 33 nw) (e53 : h 53 = mAr 24 od) (ho : oOK (cb 0) mo od) (hnf : ∀ j, j < cb 0 * 6 → nw j < 10) (hn : n < 2 ^ 31) (hc : c < 2 ^ 31) (hbl : bl < 2 ^ 31)  : mOk E 3 zX8_can [.ref 40, vN n, vN c, vN bl] h (mX (some (vB (canR nw (decide (bb 0 = 1)) (cb 0) mo od n c bl))) h) := by
  refine mOk_w (L := [some (.ref 40), some (vN n), some (vN c), some (vN bl), none, none, none, none]) pn_X8 rfl (Nat.le_of_ble_eq_true rfl) rfl ?_
  refine mG_iconst (v := nI 0) dX8_can_0 (by decide) ?_
  refine mG_istore dX8_can_1 (Nat.le_of_ble_eq_true rfl) rfl rfl ?_
  exact lp_X8_can e40 e42 hcb e44 hbb e47 e53 ho hnf hn hc hbl mo 0 _ _ _ (Nat.zero_add _) rfl
set_option maxRecDepth 100000 in
set_option maxHeartbeats 4000000 in
theorem lp_X8_doneNow {E : mE} {h : mH} {ty a sd so va it mo fa : Nat} {wr : Bool} {tr : Int64} {bb cb db dg nw od : Nat → Nat} (e40 : h 40 = oMo ty a sd so va wr it mo fa tr) (e42 : h 42 = mAr 2 cb) (hcb : cb 0 ≤ 4) (e44 : h 44 = mAr 2 bb) (hbb : bb 0 ≤ 1) (e47 : h 47 = mAr 33 nw) (e53 : h 53 = mAr 24 od) (ho : oOK (cb 0) mo od) (hnf : ∀ j, j < cb 0 * 6 → nw j < 10) (e43 : h 43 = mAr 2 db) (hdb : db 0 ≤ 6) (e46 : h 46 = mAr 12 dg) (hdg : ∀ j, j < db 0 → dg j < 2 ^ 31)  : ∀ (k i : Nat), i + k = db 0 → mG E (mR 4, zX8_doneNow) (mKq E (mR 4) mN (mX (some (vN (ddG (fun d => canR nw (decide (bb 0 = 1)) (cb 0) mo od (dg d) 0 6) (db 0)))) h)) 4 [some (.ref 40), some (vN (ddG (fun d => canR nw (decide (bb 0 = 1)) (cb 0) mo od (dg d) 0 6) i)), some (vN i)] [] (mN, 0, 0) h := by
  intro k
  induction k with
  | zero =>
    intro i hk
    refine mG_iload_n dX8_doneNow_4 rfl ?_
    refine mG_aload_n dX8_doneNow_5 rfl ?_
    refine mG_get fX8_17 dX8_doneNow_6 e40 (Nat.le_of_ble_eq_true rfl) rfl ?_
    refine mG_iconst (v := nI 0) dX8_doneNow_9 (by decide) ?_
    refine mG_ialdA dX8_doneNow_10 e43 (Nat.le_of_ble_eq_true rfl) (by decide) (by omega) ?_
    refine mG_icmp_geN dX8_doneNow_11 (by omega) (by omega) (fun c11 => ?_) (fun c11 => absurd c11 (by omega))
    refine mG_iload_n dX8_doneNow_46 rfl ?_
    exact mG_iret dX8_doneNow_47 rfl (mX_of (by rw [show i = db 0 by omega]) rfl)
  | succ k ih =>
    intro i hk
    refine mG_iload_n dX8_doneNow_4 rfl ?_
    refine mG_aload_n dX8_doneNow_5 rfl ?_
    refine mG_get fX8_17 dX8_doneNow_6 e40 (Nat.le_of_ble_eq_true rfl) rfl ?_
    refine mG_iconst (v := nI 0) dX8_doneNow_9 (by decide) ?_
    refine mG_ialdA dX8_doneNow_10 e43 (Nat.le_of_ble_eq_true rfl) (by decide) (by omega) ?_
    refine mG_icmp_geN dX8_doneNow_11 (by omega) (by omega) (fun c11 => absurd c11 (by omega)) (fun c11 => ?_)
    refine mG_iload_n dX8_doneNow_14 rfl ?_
    refine mG_aload_n dX8_doneNow_15 rfl ?_
    refine mG_aload_n dX8_doneNow_16 rfl ?_
    refine mG_get fX8_26 dX8_doneNow_17 e40 (Nat.le_of_ble_eq_true rfl) rfl ?_
    refine mG_iload_n dX8_doneNow_20 rfl ?_
    refine mG_ialdA dX8_doneNow_21 e46 (Nat.le_of_ble_eq_true rfl) (by decide) (by omega) ?_
    refine mG_iconst (v := nI 0) dX8_doneNow_22 (by decide) ?_
    refine mG_bipush (v := nI 6) dX8_doneNow_23 (by decide) ?_
    refine mG_cv3 vX8_139 dX8_doneNow_25 (mLe_of rfl) (Nat.le_of_ble_eq_true rfl) e40 (Nat.le_of_ble_eq_true rfl) (ok_X8_can e40 e42 hcb e44 hbb e47 e53 ho hnf (hdg i c11) (by decide) (by decide)) ?_
    refine mG_if_eqB dX8_doneNow_28 (fun c28 => ?_) (fun c28 => ?_)
    · refine mG_iconst (v := nI 0) dX8_doneNow_37 (by decide) ?_
      refine mG_iorN dX8_doneNow_38 ?_
      refine mG_istore_n dX8_doneNow_39 (Nat.le_of_ble_eq_true rfl) rfl rfl ?_
      refine mG_iincN dX8_doneNow_40 rfl (Nat.le_of_ble_eq_true rfl) rfl rfl ?_
      refine mG_goto dX8_doneNow_43 ?_
      have q := ih (i + 1) (by omega)
      first
        | (rw [ddG, if_pos c28] at q; exact q)
        | (rw [ddG, if_neg (by rw [c28]; exact Bool.noConfusion)] at q; rw [Nat.or_zero]; exact q)
    · refine mG_iconst (v := nI 1) dX8_doneNow_31 (by decide) ?_
      refine mG_iload_n dX8_doneNow_32 rfl ?_
      refine mG_ishlN dX8_doneNow_33 (by omega) (shl1_lt2 (by omega)) ?_
      refine mG_goto dX8_doneNow_34 ?_
      refine mG_iorN dX8_doneNow_38 ?_
      refine mG_istore_n dX8_doneNow_39 (Nat.le_of_ble_eq_true rfl) rfl rfl ?_
      refine mG_iincN dX8_doneNow_40 rfl (Nat.le_of_ble_eq_true rfl) rfl rfl ?_
      refine mG_goto dX8_doneNow_43 ?_
      have q := ih (i + 1) (by omega)
      first
        | (rw [ddG, if_pos c28] at q; exact q)
        | (rw [ddG, if_neg (by rw [c28]; exact Bool.noConfusion)] at q; rw [Nat.or_zero]; exact q)
set_option maxRecDepth 100000 in
set_option maxHeartbeats 4000000 in
theorem ok_X8_doneNow {E : mE} {h : mH} {ty a sd so va it mo fa : Nat} {wr : Bool} {tr : Int64} {bb cb db dg nw od : Nat → Nat} (e40 : h 40 = oMo ty a sd so va wr it mo fa tr) (e42 : h 42 = mAr 2 cb) (hcb : cb 0 ≤ 4) (e44 : h 44 = mAr 2 bb) (hbb : bb 0 ≤ 1) (e47 : h 47 = mAr 33 nw) (e53 : h 53 = mAr 24 od) (ho : oOK (cb 0) mo od) (hnf : ∀ j, j < cb 0 * 6 → nw j < 10) (e43 : h 43 = mAr 2 db) (hdb : db 0 ≤ 6) (e46 : h 46 = mAr 12 dg) (hdg : ∀ j, j < db 0 → dg j < 2 ^ 31)  : mOk E 4 zX8_doneNow [.ref 40] h (mX (some (vN (ddG (fun d => canR nw (decide (bb 0 = 1)) (cb 0) mo od (dg d) 0 6) (db 0)))) h) := by
  refine mOk_w (L := [some (.ref 40), none, none]) pn_X8 rfl (Nat.le_of_ble_eq_true rfl) rfl ?_
  refine mG_iconst (v := nI 0) dX8_doneNow_0 (by decide) ?_
  refine mG_istore_n dX8_doneNow_1 (Nat.le_of_ble_eq_true rfl) rfl rfl ?_
  refine mG_iconst (v := nI 0) dX8_doneNow_2 (by decide) ?_
  refine mG_istore_n dX8_doneNow_3 (Nat.le_of_ble_eq_true rfl) rfl rfl ?_
  exact lp_X8_doneNow e40 e42 hcb e44 hbb e47 e53 ho hnf e43 hdb e46 hdg (db 0) 0 (Nat.zero_add _)
set_option maxRecDepth 100000 in
set_option maxHeartbeats 4000000 in
theorem lp_X8_neededI {E : mE} {h : mH} {K : mKt} {ty a sd so va it mo fa : Nat} {wr : Bool} {tr : Int64} {c dn s z : Nat} {bb cb db dg nw od : Nat → Nat} (e40 : h 40 = oMo ty a sd so va wr it mo fa tr) (e42 : h 42 = mAr 2 cb) (hcb : cb 0 ≤ 4) (e44 : h 44 = mAr 2 bb) (hbb : bb 0 ≤ 1) (e47 : h 47 = mAr 33 nw) (e53 : h 53 = mAr 24 od) (ho : oOK (cb 0) mo od) (hnf : ∀ j, j < cb 0 * 6 → nw j < 10) (e43 : h 43 = mAr 2 db) (hdb : db 0 ≤ 6) (e46 : h 46 = mAr 12 dg) (hdg : ∀ j, j < db 0 → dg j < 2 ^ 31) (hc : c < 2 ^ 31) (hs : s < 6) (hdn : dn < 2 ^ 31) (hK : ∀ x, mG E (mR 5, zX8_neededOf) K 78 [some (.ref 40), some (vN c), some (vN dn), some (vN z), some (vN s), some (vB (exB (fun d => decide (dn >>> d &&& 1 = 1) && !(canR nw (decide (bb 0 = 1)) (cb 0) mo od (dg d) c s)) (db 0))), some (vN x)] [] (mN, 0, 0) h) : ∀ (k i : Nat), i + k = db 0 → mG E (mR 5, zX8_neededOf) K 23 [some (.ref 40), some (vN c), some (vN dn), some (vN z), some (vN s), some (vB (exB (fun d => decide (dn >>> d &&& 1 = 1) && !(canR nw (decide (bb 0 = 1)) (cb 0) mo od (dg d) c s)) i)), some (vN i)] [] (mN, 0, 0) h := by
  intro k
  induction k with
  | zero =>
    intro i hk
    refine mG_iload dX8_neededOf_23 rfl ?_
    refine mG_aload_n dX8_neededOf_25 rfl ?_
    refine mG_get fX8_17 dX8_neededOf_26 e40 (Nat.le_of_ble_eq_true rfl) rfl ?_
    refine mG_iconst (v := nI 0) dX8_neededOf_29 (by decide) ?_
    refine mG_ialdA dX8_neededOf_30 e43 (Nat.le_of_ble_eq_true rfl) (by decide) (by omega) ?_
    refine mG_icmp_geN dX8_neededOf_31 (by omega) (by omega) (fun c31 => ?_) (fun c31 => absurd c31 (by omega))
    obtain rfl : i = db 0 := by omega
    exact hK _
  | succ k ih =>
    intro i hk
    refine mG_iload dX8_neededOf_23 rfl ?_
    refine mG_aload_n dX8_neededOf_25 rfl ?_
    refine mG_get fX8_17 dX8_neededOf_26 e40 (Nat.le_of_ble_eq_true rfl) rfl ?_
    refine mG_iconst (v := nI 0) dX8_neededOf_29 (by decide) ?_
    refine mG_ialdA dX8_neededOf_30 e43 (Nat.le_of_ble_eq_true rfl) (by decide) (by omega) ?_
    refine mG_icmp_geN dX8_neededOf_31 (by omega) (by omega) (fun c31 => absurd c31 (by omega)) (fun c31 => ?_)
    refine mG_iload dX8_neededOf_34 rfl ?_
    refine mG_if_neB dX8_neededOf_36 (fun c36 => ?_) (fun c36 => ?_)
    · refine mG_iconst (v := mb true) dX8_neededOf_65 (by decide) ?_
      refine mG_goto dX8_neededOf_66 ?_
      refine mG_istore dX8_neededOf_70 (Nat.le_of_ble_eq_true rfl) rfl rfl ?_
      refine mG_iincN dX8_neededOf_72 rfl (Nat.le_of_ble_eq_true rfl) rfl rfl ?_
      refine mG_goto dX8_neededOf_75 ?_
      have q := ih (i + 1) (by omega)
      rw [exB] at q
      first
        | (rw [c36, Bool.true_or] at q; exact q)
        | (rw [c36, c45, Bool.false_and, Bool.or_false] at q; exact q)
        | (rw [c36, c45, c62] at q; exact q)
    · refine mG_iload_n dX8_neededOf_39 rfl ?_
      refine mG_iload dX8_neededOf_40 rfl ?_
      refine mG_cs2 sX8_145 dX8_neededOf_42 (mLe_of rfl) (Nat.le_of_ble_eq_true rfl) (ok_X8_has hdn (by omega)) ?_
      refine mG_if_eqB dX8_neededOf_45 (fun c45 => ?_) (fun c45 => ?_)
      · refine mG_iconst (v := mb false) dX8_neededOf_69 (by decide) ?_
        refine mG_istore dX8_neededOf_70 (Nat.le_of_ble_eq_true rfl) rfl rfl ?_
        refine mG_iincN dX8_neededOf_72 rfl (Nat.le_of_ble_eq_true rfl) rfl rfl ?_
        refine mG_goto dX8_neededOf_75 ?_
        have q := ih (i + 1) (by omega)
        rw [exB] at q
        first
          | (rw [c36, Bool.true_or] at q; exact q)
          | (rw [c36, c45, Bool.false_and, Bool.or_false] at q; exact q)
          | (rw [c36, c45, c62] at q; exact q)
      · refine mG_aload_n dX8_neededOf_48 rfl ?_
        refine mG_aload_n dX8_neededOf_49 rfl ?_
        refine mG_get fX8_26 dX8_neededOf_50 e40 (Nat.le_of_ble_eq_true rfl) rfl ?_
        refine mG_iload dX8_neededOf_53 rfl ?_
        refine mG_ialdA dX8_neededOf_55 e46 (Nat.le_of_ble_eq_true rfl) (by decide) (by omega) ?_
        refine mG_iload_n dX8_neededOf_56 rfl ?_
        refine mG_iload dX8_neededOf_57 rfl ?_
        refine mG_cv3 vX8_139 dX8_neededOf_59 (mLe_of rfl) (Nat.le_of_ble_eq_true rfl) e40 (Nat.le_of_ble_eq_true rfl) (ok_X8_can e40 e42 hcb e44 hbb e47 e53 ho hnf (hdg i c31) hc (by omega)) ?_
        refine mG_if_neB dX8_neededOf_62 (fun c62 => ?_) (fun c62 => ?_)
        · refine mG_iconst (v := mb false) dX8_neededOf_69 (by decide) ?_
          refine mG_istore dX8_neededOf_70 (Nat.le_of_ble_eq_true rfl) rfl rfl ?_
          refine mG_iincN dX8_neededOf_72 rfl (Nat.le_of_ble_eq_true rfl) rfl rfl ?_
          refine mG_goto dX8_neededOf_75 ?_
          have q := ih (i + 1) (by omega)
          rw [exB] at q
          first
            | (rw [c36, Bool.true_or] at q; exact q)
            | (rw [c36, c45, Bool.false_and, Bool.or_false] at q; exact q)
            | (rw [c36, c45, c62] at q; exact q)
        · refine mG_iconst (v := mb true) dX8_neededOf_65 (by decide) ?_
          refine mG_goto dX8_neededOf_66 ?_
          refine mG_istore dX8_neededOf_70 (Nat.le_of_ble_eq_true rfl) rfl rfl ?_
          refine mG_iincN dX8_neededOf_72 rfl (Nat.le_of_ble_eq_true rfl) rfl rfl ?_
          refine mG_goto dX8_neededOf_75 ?_
          have q := ih (i + 1) (by omega)
          rw [exB] at q
          first
            | (rw [c36, Bool.true_or] at q; exact q)
            | (rw [c36, c45, Bool.false_and, Bool.or_false] at q; exact q)
            | (rw [c36, c45, c62] at q; exact q)
set_option maxRecDepth 100000 in
set_option maxHeartbeats 4000000 in
theorem lp_X8_needed {E : mE} {h : mH} {ty a sd so va it mo fa : Nat} {wr : Bool} {tr : Int64} {c dn : Nat} {bb cb db dg nw od : Nat → Nat} (e40 : h 40 = oMo ty a sd so va wr it mo fa tr) (e42 : h 42 = mAr 2 cb) (hcb : cb 0 ≤ 4) (e44 : h 44 = mAr 2 bb) (hbb : bb 0 ≤ 1) (e47 : h 47 = mAr 33 nw) (e53 : h 53 = mAr 24 od) (ho : oOK (cb 0) mo od) (hnf : ∀ j, j < cb 0 * 6 → nw j < 10) (e43 : h 43 = mAr 2 db) (hdb : db 0 ≤ 6) (e46 : h 46 = mAr 12 dg) (hdg : ∀ j, j < db 0 → dg j < 2 ^ 31) (hc : c < 2 ^ 31) (hdn : dn < 2 ^ 31) : ∀ (k i : Nat) (x5 x6 : Option Value), i + k = 6 → mG E (mR 5, zX8_neededOf) (mKq E (mR 5) mN (mX (some (vN (ddG (fun s => exB (fun d => decide (dn >>> d &&& 1 = 1) && !(canR nw (decide (bb 0 = 1)) (cb 0) mo od (dg d) c s)) (db 0)) 6))) h)) 10 [some (.ref 40), some (vN c), some (vN dn), some (vN (ddG (fun s => exB (fun d => decide (dn >>> d &&& 1 = 1) && !(canR nw (decide (bb 0 = 1)) (cb 0) mo od (dg d) c s)) (db 0)) i)), some (vN i), x5, x6] [] (mN, 0, 0) h := by
  intro k
  induction k with
  | zero =>
    intro i x5 x6 hk
    refine mG_iload dX8_neededOf_10 rfl ?_
    refine mG_bipush (v := nI 6) dX8_neededOf_12 (by decide) ?_
    refine mG_icmp_geN dX8_neededOf_14 (by omega) (by omega) (fun c14 => ?_) (fun c14 => absurd c14 (by omega))
    refine mG_iload_n dX8_neededOf_100 rfl ?_
    exact mG_iret dX8_neededOf_101 rfl (mX_of (by rw [show i = 6 by omega]) rfl)
  | succ k ih =>
    intro i x5 x6 hk
    refine mG_iload dX8_neededOf_10 rfl ?_
    refine mG_bipush (v := nI 6) dX8_neededOf_12 (by decide) ?_
    refine mG_icmp_geN dX8_neededOf_14 (by omega) (by omega) (fun c14 => absurd c14 (by omega)) (fun c14 => ?_)
    refine mG_iconst (v := mb false) dX8_neededOf_17 (by decide) ?_
    refine mG_istore dX8_neededOf_18 (Nat.le_of_ble_eq_true rfl) rfl rfl ?_
    refine mG_iconst (v := nI 0) dX8_neededOf_20 (by decide) ?_
    refine mG_istore dX8_neededOf_21 (Nat.le_of_ble_eq_true rfl) rfl rfl ?_
    refine lp_X8_neededI e40 e42 hcb e44 hbb e47 e53 ho hnf e43 hdb e46 hdg hc (by omega) hdn (fun x => ?_) (db 0) 0 (Nat.zero_add _)
    refine mG_iload_n dX8_neededOf_78 rfl ?_
    refine mG_iload dX8_neededOf_79 rfl ?_
    refine mG_if_eqB dX8_neededOf_81 (fun c81 => ?_) (fun c81 => ?_)
    · refine mG_iconst (v := nI 0) dX8_neededOf_91 (by decide) ?_
      refine mG_iorN dX8_neededOf_92 ?_
      refine mG_istore_n dX8_neededOf_93 (Nat.le_of_ble_eq_true rfl) rfl rfl ?_
      refine mG_iincN dX8_neededOf_94 rfl (Nat.le_of_ble_eq_true rfl) rfl rfl ?_
      refine mG_goto dX8_neededOf_97 ?_
      have q := ih (i + 1) (some (vB (exB (fun d => decide (dn >>> d &&& 1 = 1) && !(canR nw (decide (bb 0 = 1)) (cb 0) mo od (dg d) c i)) (db 0)))) (some (vN x)) (by omega)
      first
        | (rw [ddG_t (d := i) c81] at q; exact q)
        | (rw [ddG_f (d := i) c81] at q; rw [Nat.or_zero]; exact q)
    · refine mG_iconst (v := nI 1) dX8_neededOf_84 (by decide) ?_
      refine mG_iload dX8_neededOf_85 rfl ?_
      refine mG_ishlN dX8_neededOf_87 (by omega) (shl1_lt2 (by omega)) ?_
      refine mG_goto dX8_neededOf_88 ?_
      refine mG_iorN dX8_neededOf_92 ?_
      refine mG_istore_n dX8_neededOf_93 (Nat.le_of_ble_eq_true rfl) rfl rfl ?_
      refine mG_iincN dX8_neededOf_94 rfl (Nat.le_of_ble_eq_true rfl) rfl rfl ?_
      refine mG_goto dX8_neededOf_97 ?_
      have q := ih (i + 1) (some (vB (exB (fun d => decide (dn >>> d &&& 1 = 1) && !(canR nw (decide (bb 0 = 1)) (cb 0) mo od (dg d) c i)) (db 0)))) (some (vN x)) (by omega)
      first
        | (rw [ddG_t (d := i) c81] at q; exact q)
        | (rw [ddG_f (d := i) c81] at q; rw [Nat.or_zero]; exact q)
set_option maxRecDepth 100000 in
set_option maxHeartbeats 4000000 in
theorem ok_X8_neededOf {E : mE} {h : mH} {ty a sd so va it mo fa : Nat} {wr : Bool} {tr : Int64} {c : Nat} {bb cb db dg nw od : Nat → Nat} (e40 : h 40 = oMo ty a sd so va wr it mo fa tr) (e42 : h 42 = mAr 2 cb) (hcb : cb 0 ≤ 4) (e44 : h 44 = mAr 2 bb) (hbb : bb 0 ≤ 1) (e47 : h 47 = mAr 33 nw) (e53 : h 53 = mAr 24 od) (ho : oOK (cb 0) mo od) (hnf : ∀ j, j < cb 0 * 6 → nw j < 10) (e43 : h 43 = mAr 2 db) (hdb : db 0 ≤ 6) (e46 : h 46 = mAr 12 dg) (hdg : ∀ j, j < db 0 → dg j < 2 ^ 31) (hc : c < 2 ^ 31) : mOk E 5 zX8_neededOf [.ref 40, vN c] h (mX (some (vN (ddG (fun s => exB (fun d => decide (ddG (fun d => canR nw (decide (bb 0 = 1)) (cb 0) mo od (dg d) 0 6) (db 0) >>> d &&& 1 = 1) && !(canR nw (decide (bb 0 = 1)) (cb 0) mo od (dg d) c s)) (db 0)) 6))) h) := by
  have hdn := ddG_lt (fun d => canR nw (decide (bb 0 = 1)) (cb 0) mo od (dg d) 0 6) (db 0)
  have hdn2 : 2 ^ db 0 ≤ 2 ^ 6 := Nat.pow_le_pow_right (by decide) hdb
  refine mOk_w (L := [some (.ref 40), some (vN c), none, none, none, none, none]) pn_X8 rfl (Nat.le_of_ble_eq_true rfl) rfl ?_
  refine mG_aload_n dX8_neededOf_0 rfl ?_
  refine mG_cv0 vX8_142 dX8_neededOf_1 (mLe_of rfl) (Nat.le_of_ble_eq_true rfl) e40 (Nat.le_of_ble_eq_true rfl) (ok_X8_doneNow e40 e42 hcb e44 hbb e47 e53 ho hnf e43 hdb e46 hdg) ?_
  refine mG_istore_n dX8_neededOf_4 (Nat.le_of_ble_eq_true rfl) rfl rfl ?_
  refine mG_iconst (v := nI 0) dX8_neededOf_5 (by decide) ?_
  refine mG_istore_n dX8_neededOf_6 (Nat.le_of_ble_eq_true rfl) rfl rfl ?_
  refine mG_iconst (v := nI 0) dX8_neededOf_7 (by decide) ?_
  refine mG_istore dX8_neededOf_8 (Nat.le_of_ble_eq_true rfl) rfl rfl ?_
  exact lp_X8_needed e40 e42 hcb e44 hbb e47 e53 ho hnf e43 hdb e46 hdg hc (Nat.lt_of_lt_of_le hdn (Nat.le_trans hdn2 (by decide))) 6 0 _ _ rfl
set_option maxRecDepth 100000 in
set_option maxHeartbeats 4000000 in
theorem lp_X8_isTold {E : mE} {h : mH} {ty a sd so va it mo fa : Nat} {wr : Bool} {tr : Int64} {n : Nat} {bb cb nw : Nat → Nat} (e40 : h 40 = oMo ty a sd so va wr it mo fa tr) (e42 : h 42 = mAr 2 cb) (hcb : cb 0 ≤ 4) (e44 : h 44 = mAr 2 bb) (hbb : bb 0 ≤ 1) (e47 : h 47 = mAr 33 nw) (hnf : ∀ j, j < cb 0 * 6 → nw j < 10) (hca : ∀ j, j < cb 0 → nw (24 + j) < cb 0) (hfr : ∀ j, j < 4 → nw (28 + j) < 6) (hn : n < 2 ^ 31) : ∀ (k i : Nat), i + k = cb 0 → mG E (mR 3, zX8_isTold) (mKq E (mR 3) mN (mX (some (vB (alB (fun p => fit (decide (bb 0 = 1)) (nw (6 * nw (24 + p) + nw (28 + nw (24 + p)))) (fgo (cb 0) n p)) (cb 0)))) h)) 4 [some (.ref 40), some (vN n), some (vB (alB (fun p => fit (decide (bb 0 = 1)) (nw (6 * nw (24 + p) + nw (28 + nw (24 + p)))) (fgo (cb 0) n p)) i)), some (vN i)] [] (mN, 0, 0) h := by
  intro k
  induction k with
  | zero =>
    intro i hk
    refine mG_iload_n dX8_isTold_4 rfl ?_
    refine mG_aload_n dX8_isTold_5 rfl ?_
    refine mG_get fX8_13 dX8_isTold_6 e40 (Nat.le_of_ble_eq_true rfl) rfl ?_
    refine mG_iconst (v := nI 0) dX8_isTold_9 (by decide) ?_
    refine mG_ialdA dX8_isTold_10 e42 (Nat.le_of_ble_eq_true rfl) (by decide) (by omega) ?_
    refine mG_icmp_geN dX8_isTold_11 (by omega) (by omega) (fun c11 => ?_) (fun c11 => absurd c11 (by omega))
    refine mG_iload_n dX8_isTold_56 rfl ?_
    exact mG_zret dX8_isTold_57 rfl (mX_of (by rw [show i = cb 0 by omega]) rfl)
  | succ k ih =>
    intro i hk
    refine mG_iload_n dX8_isTold_4 rfl ?_
    refine mG_aload_n dX8_isTold_5 rfl ?_
    refine mG_get fX8_13 dX8_isTold_6 e40 (Nat.le_of_ble_eq_true rfl) rfl ?_
    refine mG_iconst (v := nI 0) dX8_isTold_9 (by decide) ?_
    refine mG_ialdA dX8_isTold_10 e42 (Nat.le_of_ble_eq_true rfl) (by decide) (by omega) ?_
    refine mG_icmp_geN dX8_isTold_11 (by omega) (by omega) (fun c11 => absurd c11 (by omega)) (fun c11 => ?_)
    refine mG_iload_n dX8_isTold_14 rfl ?_
    refine mG_if_eqB dX8_isTold_15 (fun c15 => ?_) (fun c15 => ?_)
    · refine mG_iconst (v := mb false) dX8_isTold_48 (by decide) ?_
      refine mG_istore_n dX8_isTold_49 (Nat.le_of_ble_eq_true rfl) rfl rfl ?_
      refine mG_iincN dX8_isTold_50 rfl (Nat.le_of_ble_eq_true rfl) rfl rfl ?_
      refine mG_goto dX8_isTold_53 ?_
      have q := ih (i + 1) (by omega)
      rw [alB] at q
      first
        | (rw [c15, Bool.false_and] at q; exact q)
        | (rw [c15, c41] at q; exact q)
    · have hci := hca i c11
      have hfi := hfr (nw (24 + i)) (by omega)
      have hni := hnf (6 * nw (24 + i) + nw (28 + nw (24 + i))) (by omega)
      have hgi := fgo_lt (cb 0) n i
      refine mG_aload_n dX8_isTold_18 rfl ?_
      refine mG_aload_n dX8_isTold_19 rfl ?_
      refine mG_aload_n dX8_isTold_20 rfl ?_
      refine mG_get fX8_29 dX8_isTold_21 e40 (Nat.le_of_ble_eq_true rfl) rfl ?_
      refine mG_bipush (v := nI 24) dX8_isTold_24 (by decide) ?_
      refine mG_iload_n dX8_isTold_26 rfl ?_
      refine mG_iaddN dX8_isTold_27 ?_
      refine mG_ialdA dX8_isTold_28 e47 (Nat.le_of_ble_eq_true rfl) (by decide) (by omega) ?_
      refine mG_cv1 vX8_172 dX8_isTold_29 (mLe_of rfl) (Nat.le_of_ble_eq_true rfl) e40 (Nat.le_of_ble_eq_true rfl) (ok_X8_inFront e40 e47 (by omega) hfi) ?_
      refine mG_aload_n dX8_isTold_32 rfl ?_
      refine mG_iload_n dX8_isTold_33 rfl ?_
      refine mG_iload_n dX8_isTold_34 rfl ?_
      refine mG_cv2 vX8_133 dX8_isTold_35 (mLe_of rfl) (Nat.le_of_ble_eq_true rfl) e40 (Nat.le_of_ble_eq_true rfl) (ok_X8_figureOf e40 e42 hcb hn c11) ?_
      refine mG_cv2 vX8_123 dX8_isTold_38 (mLe_of rfl) (Nat.le_of_ble_eq_true rfl) e40 (Nat.le_of_ble_eq_true rfl) (ok_X8_fits e40 e44 hbb (by omega) (by omega)) ?_
      refine mG_if_eqB dX8_isTold_41 (fun c41 => ?_) (fun c41 => ?_)
      · refine mG_iconst (v := mb false) dX8_isTold_48 (by decide) ?_
        refine mG_istore_n dX8_isTold_49 (Nat.le_of_ble_eq_true rfl) rfl rfl ?_
        refine mG_iincN dX8_isTold_50 rfl (Nat.le_of_ble_eq_true rfl) rfl rfl ?_
        refine mG_goto dX8_isTold_53 ?_
        have q := ih (i + 1) (by omega)
        rw [alB] at q
        first
          | (rw [c15, Bool.false_and] at q; exact q)
          | (rw [c15, c41] at q; exact q)
      · refine mG_iconst (v := mb true) dX8_isTold_44 (by decide) ?_
        refine mG_goto dX8_isTold_45 ?_
        refine mG_istore_n dX8_isTold_49 (Nat.le_of_ble_eq_true rfl) rfl rfl ?_
        refine mG_iincN dX8_isTold_50 rfl (Nat.le_of_ble_eq_true rfl) rfl rfl ?_
        refine mG_goto dX8_isTold_53 ?_
        have q := ih (i + 1) (by omega)
        rw [alB] at q
        first
          | (rw [c15, Bool.false_and] at q; exact q)
          | (rw [c15, c41] at q; exact q)
set_option maxRecDepth 100000 in
set_option maxHeartbeats 4000000 in
theorem ok_X8_isTold {E : mE} {h : mH} {ty a sd so va it mo fa : Nat} {wr : Bool} {tr : Int64} {n : Nat} {bb cb nw : Nat → Nat} (e40 : h 40 = oMo ty a sd so va wr it mo fa tr) (e42 : h 42 = mAr 2 cb) (hcb : cb 0 ≤ 4) (e44 : h 44 = mAr 2 bb) (hbb : bb 0 ≤ 1) (e47 : h 47 = mAr 33 nw) (hnf : ∀ j, j < cb 0 * 6 → nw j < 10) (hca : ∀ j, j < cb 0 → nw (24 + j) < cb 0) (hfr : ∀ j, j < 4 → nw (28 + j) < 6) (hn : n < 2 ^ 31) : mOk E 3 zX8_isTold [.ref 40, vN n] h (mX (some (vB (alB (fun p => fit (decide (bb 0 = 1)) (nw (6 * nw (24 + p) + nw (28 + nw (24 + p)))) (fgo (cb 0) n p)) (cb 0)))) h) := by
  refine mOk_w (L := [some (.ref 40), some (vN n), none, none]) pn_X8 rfl (Nat.le_of_ble_eq_true rfl) rfl ?_
  refine mG_iconst (v := mb true) dX8_isTold_0 (by decide) ?_
  refine mG_istore_n dX8_isTold_1 (Nat.le_of_ble_eq_true rfl) rfl rfl ?_
  refine mG_iconst (v := nI 0) dX8_isTold_2 (by decide) ?_
  refine mG_istore_n dX8_isTold_3 (Nat.le_of_ble_eq_true rfl) rfl rfl ?_
  exact lp_X8_isTold e40 e42 hcb e44 hbb e47 hnf hca hfr hn (cb 0) 0 (Nat.zero_add _)
