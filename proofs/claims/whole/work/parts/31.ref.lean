/-! the reference -/
abbrev oMo (ty a sd so va : Nat) (wr : Bool) (it mo fa : Nat) (tr : Int64) : mC := mOb 8 [.ref 41, vN ty, .ref 42, .ref 43, .ref 44, .ref 45, .ref 46, vN a, vN sd, vN so, vN va, vB wr, vN it, .ref 47, .ref 48, .ref 49, .ref 50, .ref 51, .ref 52, .ref 53, vN mo, .ref 54, .ref 55, vN fa, .long tr]
/-- the text as bytes -/
abbrev mBy (tx : Nat → Nat) : mC := .inl (1, 100, fun j => (nI (tx j)).toInt8.toInt32)
def inI (v l u : Int32) : Bool := decide (l ≤ v ∧ v ≤ u)
theorem inI_N {v l u : Nat} (hv : v < 2 ^ 31) (hl : l < 2 ^ 31) (hu : u < 2 ^ 31) : inI (nI v) (nI l) (nI u) = decide (l ≤ v ∧ v ≤ u) := by
  unfold inI
  simp only [nI_leI hl hv, nI_leI hv hu]
theorem inI_ix {c : Int32} {n : Nat} (hn : n + 1 < 2 ^ 31) : inI c (nI 0) (nI n) = isIx c (n + 1) := by
  unfold inI isIx
  congr 1
  rw [Int32.not_lt, Int32.not_le, nI_0]
  have e : c < nI (n + 1) ↔ c ≤ nI n := by
    have q := gt_ge (c := c) (k := n) hn
    constructor
    · intro z
      exact Int32.not_lt.mp (fun y => absurd (q.mp y) (Int32.not_le.mpr z))
    · intro z
      exact Int32.not_le.mp (fun y => absurd (q.mpr y) (Int32.not_lt.mpr z))
  rw [e]
set_option maxRecDepth 100000 in
set_option maxHeartbeats 4000000 in
theorem ok_X8_in {E : mE} {h : mH} {v l u : Int32} : mOk E 1 zX8_in [.int v, .int l, .int u] h (mX (some (vB (inI v l u))) h) := by
  refine mOk_w (L := [some (.int v), some (.int l), some (.int u)]) pn_X8 rfl (Nat.le_of_ble_eq_true rfl) rfl ?_
  refine mG_iload_n dX8_in_0 rfl ?_
  refine mG_iload_n dX8_in_1 rfl ?_
  refine mG_icmp_lt dX8_in_2 (fun c2 => ?_) (fun c2 => ?_)
  · refine mG_iconst (v := mb false) dX8_in_14 (by decide) ?_
    exact mG_zret dX8_in_15 rfl (mX_of (by unfold inI; congr 3; first | (exact (decide_eq_true (And.intro (Int32.not_lt.mp c2) (Int32.not_lt.mp c7))).symm) | (refine (decide_eq_false ?_).symm; intro q; first | exact absurd q.1 (Int32.not_le.mpr c2) | exact absurd q.2 (Int32.not_le.mpr c7))) rfl)
  · refine mG_iload_n dX8_in_5 rfl ?_
    refine mG_iload_n dX8_in_6 rfl ?_
    refine mG_icmp_gt dX8_in_7 (fun c7 => ?_) (fun c7 => ?_)
    · refine mG_iconst (v := mb false) dX8_in_14 (by decide) ?_
      exact mG_zret dX8_in_15 rfl (mX_of (by unfold inI; congr 3; first | (exact (decide_eq_true (And.intro (Int32.not_lt.mp c2) (Int32.not_lt.mp c7))).symm) | (refine (decide_eq_false ?_).symm; intro q; first | exact absurd q.1 (Int32.not_le.mpr c2) | exact absurd q.2 (Int32.not_le.mpr c7))) rfl)
    · refine mG_iconst (v := mb true) dX8_in_10 (by decide) ?_
      refine mG_goto dX8_in_11 ?_
      exact mG_zret dX8_in_15 rfl (mX_of (by unfold inI; congr 3; first | (exact (decide_eq_true (And.intro (Int32.not_lt.mp c2) (Int32.not_lt.mp c7))).symm) | (refine (decide_eq_false ?_).symm; intro q; first | exact absurd q.1 (Int32.not_le.mpr c2) | exact absurd q.2 (Int32.not_le.mpr c7))) rfl)
set_option maxRecDepth 100000 in
set_option maxHeartbeats 4000000 in
theorem ok_X8_has {E : mE} {h : mH} {x k : Nat} (hx : x < 2 ^ 31) (hk : k < 32) : mOk E 1 zX8_has [vN x, vN k] h (mX (some (vB (decide (x >>> k &&& 1 = 1)))) h) := by
  have hb : x >>> k &&& 1 ≤ 1 := Nat.and_le_right
  refine mOk_w (L := [some (vN x), some (vN k)]) pn_X8 rfl (Nat.le_of_ble_eq_true rfl) rfl ?_
  refine mG_iload_n dX8_has_0 rfl ?_
  refine mG_iload_n dX8_has_1 rfl ?_
  refine mG_ishrN dX8_has_2 (by omega) (by omega) ?_
  refine mG_iconst (v := nI 1) dX8_has_3 (by decide) ?_
  refine mG_iandN dX8_has_4 ?_
  refine mG_iconst (v := nI 1) dX8_has_5 (by decide) ?_
  refine mG_icmp_neN dX8_has_6 (by omega) (by omega) (fun c6 => ?_) (fun c6 => ?_)
  · refine mG_iconst (v := mb false) dX8_has_13 (by decide) ?_
    exact mG_zret dX8_has_14 rfl (mX_of (by first | rw [decide_eq_true c6] | rw [decide_eq_false c6]) rfl)
  · refine mG_iconst (v := mb true) dX8_has_9 (by decide) ?_
    refine mG_goto dX8_has_10 ?_
    exact mG_zret dX8_has_14 rfl (mX_of (by first | rw [decide_eq_true c6] | rw [decide_eq_false c6]) rfl)
set_option maxRecDepth 100000 in
set_option maxHeartbeats 4000000 in
theorem lp_X8_bits {E : mE} {h : mH} {x : Nat} (hx : x < 2 ^ 31) : ∀ (k i : Nat), i + k = 10 → mG E (mR 1, zX8_bitsOf) (mKq E (mR 1) mN (mX (some (vN (popc x 10))) h)) 4 [some (vN x), some (vN (popc x i)), some (vN i)] [] (mN, 0, 0) h := by
  intro k
  induction k with
  | zero =>
    intro i hk
    refine mG_iload_n dX8_bitsOf_4 rfl ?_
    refine mG_bipush (v := nI 10) dX8_bitsOf_5 (by decide) ?_
    refine mG_icmp_geN dX8_bitsOf_7 (by omega) (by omega) (fun c7 => ?_) (fun c7 => absurd c7 (by omega))
    refine mG_iload_n dX8_bitsOf_24 rfl ?_
    exact mG_iret dX8_bitsOf_25 rfl (mX_of (by rw [show i = 10 by omega]) rfl)
  | succ k ih =>
    intro i hk
    refine mG_iload_n dX8_bitsOf_4 rfl ?_
    refine mG_bipush (v := nI 10) dX8_bitsOf_5 (by decide) ?_
    refine mG_icmp_geN dX8_bitsOf_7 (by omega) (by omega) (fun c7 => absurd c7 (by omega)) (fun c7 => ?_)
    refine mG_iload_n dX8_bitsOf_10 rfl ?_
    refine mG_iload_n dX8_bitsOf_11 rfl ?_
    refine mG_iload_n dX8_bitsOf_12 rfl ?_
    refine mG_ishrN dX8_bitsOf_13 (by omega) (by omega) ?_
    refine mG_iconst (v := nI 1) dX8_bitsOf_14 (by decide) ?_
    refine mG_iandN dX8_bitsOf_15 ?_
    refine mG_iaddN dX8_bitsOf_16 ?_
    refine mG_istore_n dX8_bitsOf_17 (Nat.le_of_ble_eq_true rfl) rfl rfl ?_
    refine mG_iincN dX8_bitsOf_18 rfl (Nat.le_of_ble_eq_true rfl) rfl rfl ?_
    refine mG_goto dX8_bitsOf_21 ?_
    exact ih (i + 1) (by omega)
set_option maxRecDepth 100000 in
set_option maxHeartbeats 4000000 in
theorem ok_X8_bits {E : mE} {h : mH} {x : Nat} (hx : x < 2 ^ 31) : mOk E 1 zX8_bitsOf [vN x] h (mX (some (vN (popc x 10))) h) := by
  refine mOk_w (L := [some (vN x), none, none]) pn_X8 rfl (Nat.le_of_ble_eq_true rfl) rfl ?_
  refine mG_iconst (v := nI 0) dX8_bitsOf_0 (by decide) ?_
  refine mG_istore_n dX8_bitsOf_1 (Nat.le_of_ble_eq_true rfl) rfl rfl ?_
  refine mG_iconst (v := nI 0) dX8_bitsOf_2 (by decide) ?_
  refine mG_istore_n dX8_bitsOf_3 (Nat.le_of_ble_eq_true rfl) rfl rfl ?_
  exact lp_X8_bits hx 10 0 rfl
set_option maxRecDepth 100000 in
set_option maxHeartbeats 4000000 in
theorem lp_X8_power {E : mE} {h : mH} {c : Nat} (hc : c < 100) : ∀ (k i : Nat), i + k = c → mG E (mR 1, zX8_power) (mKq E (mR 1) mN (mX (some (vN (10 ^ c))) h)) 4 [some (vN c), some (vN (10 ^ i)), some (vN i)] [] (mN, 0, 0) h := by
  intro k
  induction k with
  | zero =>
    intro i hk
    refine mG_iload_n dX8_power_4 rfl ?_
    refine mG_iload_n dX8_power_5 rfl ?_
    refine mG_icmp_geN dX8_power_6 (by omega) (by omega) (fun c6 => ?_) (fun c6 => absurd c6 (by omega))
    refine mG_iload_n dX8_power_20 rfl ?_
    exact mG_iret dX8_power_21 rfl (mX_of (by rw [show i = c by omega]) rfl)
  | succ k ih =>
    intro i hk
    refine mG_iload_n dX8_power_4 rfl ?_
    refine mG_iload_n dX8_power_5 rfl ?_
    refine mG_icmp_geN dX8_power_6 (by omega) (by omega) (fun c6 => absurd c6 (by omega)) (fun c6 => ?_)
    refine mG_iload_n dX8_power_9 rfl ?_
    refine mG_bipush (v := nI 10) dX8_power_10 (by decide) ?_
    refine mG_imulN dX8_power_12 ?_
    refine mG_istore_n dX8_power_13 (Nat.le_of_ble_eq_true rfl) rfl rfl ?_
    refine mG_iincN dX8_power_14 rfl (Nat.le_of_ble_eq_true rfl) rfl rfl ?_
    refine mG_goto dX8_power_17 ?_
    have q := ih (i + 1) (by omega)
    rw [Nat.pow_succ] at q
    exact q
set_option maxRecDepth 100000 in
set_option maxHeartbeats 4000000 in
theorem ok_X8_power {E : mE} {h : mH} {c : Nat} (hc : c < 100) : mOk E 1 zX8_power [vN c] h (mX (some (vN (10 ^ c))) h) := by
  refine mOk_w (L := [some (vN c), none, none]) pn_X8 rfl (Nat.le_of_ble_eq_true rfl) rfl ?_
  refine mG_iconst (v := nI 1) dX8_power_0 (by decide) ?_
  refine mG_istore_n dX8_power_1 (Nat.le_of_ble_eq_true rfl) rfl rfl ?_
  refine mG_iconst (v := nI 0) dX8_power_2 (by decide) ?_
  refine mG_istore_n dX8_power_3 (Nat.le_of_ble_eq_true rfl) rfl rfl ?_
  exact lp_X8_power hc c 0 (Nat.zero_add _)
theorem by_and {x : Nat} (hx : x < 256) : (nI x).toInt8.toInt32 &&& nI 255 = nI x := by
  have key : ∀ y : Fin 256, (nI y.val).toInt8.toInt32 &&& nI 255 = nI y.val := by decide +kernel
  exact key ⟨x, hx⟩
set_option maxRecDepth 100000 in
set_option maxHeartbeats 4000000 in
theorem ok_X8_here_in {E : mE} {h : mH} {ty a sd so va it mo fa : Nat} {wr : Bool} {tr : Int64} {tx : Nat → Nat} (e40 : h 40 = oMo ty a sd so va wr it mo fa tr) (e41 : h 41 = mBy tx) (ha : a < ty) (hty : ty ≤ 100) (htx : ∀ j, j < ty → tx j < 256) : mOk E 1 zX8_here [.ref 40] h (mX (some (vN (tx a))) h) := by
  refine mOk_w (L := [some (.ref 40)]) pn_X8 rfl (Nat.le_of_ble_eq_true rfl) rfl ?_
  refine mG_aload_n dX8_here_0 rfl ?_
  refine mG_get fX8_71 dX8_here_1 e40 (Nat.le_of_ble_eq_true rfl) rfl ?_
  refine mG_aload_n dX8_here_4 rfl ?_
  refine mG_get fX8_67 dX8_here_5 e40 (Nat.le_of_ble_eq_true rfl) rfl ?_
  refine mG_icmp_geN dX8_here_8 (by omega) (by omega) (fun c8 => absurd c8 (by omega)) (fun c8 => ?_)
  refine mG_aload_n dX8_here_11 rfl ?_
  refine mG_get fX8_7 dX8_here_12 e40 (Nat.le_of_ble_eq_true rfl) rfl ?_
  refine mG_aload_n dX8_here_15 rfl ?_
  refine mG_get fX8_71 dX8_here_16 e40 (Nat.le_of_ble_eq_true rfl) rfl ?_
  refine mG_baldN dX8_here_19 e41 (Nat.le_of_ble_eq_true rfl) (by decide) (by omega) ?_
  refine mG_sipush (v := nI 255) dX8_here_20 (by decide) ?_
  refine mG_iand dX8_here_23 ?_
  rw [by_and (htx a ha)]
  refine mG_goto dX8_here_24 ?_
  exact mG_iret dX8_here_29 rfl (mX_of rfl rfl)
set_option maxRecDepth 100000 in
set_option maxHeartbeats 4000000 in
theorem ok_X8_here_out {E : mE} {h : mH} {ty a sd so va it mo fa : Nat} {wr : Bool} {tr : Int64} (e40 : h 40 = oMo ty a sd so va wr it mo fa tr) (ha : ¬ a < ty) (h1 : a < 2 ^ 31) (hty : ty ≤ 100) : mOk E 1 zX8_here [.ref 40] h (mX (some (.int (-9))) h) := by
  refine mOk_w (L := [some (.ref 40)]) pn_X8 rfl (Nat.le_of_ble_eq_true rfl) rfl ?_
  refine mG_aload_n dX8_here_0 rfl ?_
  refine mG_get fX8_71 dX8_here_1 e40 (Nat.le_of_ble_eq_true rfl) rfl ?_
  refine mG_aload_n dX8_here_4 rfl ?_
  refine mG_get fX8_67 dX8_here_5 e40 (Nat.le_of_ble_eq_true rfl) rfl ?_
  refine mG_icmp_geN dX8_here_8 (by omega) (by omega) (fun c8 => ?_) (fun c8 => absurd c8 (by omega))
  refine mG_bipush (v := (-9)) dX8_here_27 (by decide) ?_
  exact mG_iret dX8_here_29 rfl (mX_of rfl rfl)
theorem by_up (tx : Nat → Nat) (n j : Nat) : upd (fun i => (nI (tx i)).toInt8.toInt32) n (vp_nar .byte ((nI j).toInt8.toInt32)) = fun i => (nI (mUp tx n j i)).toInt8.toInt32 := by
  funext i
  rw [pk_vb]
  unfold upd mUp
  by_cases q : i = n <;> simp [q]
set_option maxRecDepth 100000 in
set_option maxHeartbeats 4000000 in
theorem rc_type_bad {E : mE} {h : mH} {ty a sd so va it mo fa : Nat} {wr : Bool} {tr : Int64} {c : Int32} (e40 : h 40 = oMo ty a sd so va wr it mo fa tr) (hb : isIx c 256 = false) : mOk E 2 zX8_type [.ref 40, .int c] h (mX (some (.int (-1))) h) := by
  refine mOk_w (L := [some (.ref 40), some (.int c)]) pn_X8 rfl (Nat.le_of_ble_eq_true rfl) rfl ?_
  refine mG_iload_n dX8_type_0 rfl ?_
  refine mG_iconst (v := nI 0) dX8_type_1 (by decide) ?_
  refine mG_sipush (v := nI 255) dX8_type_2 (by decide) ?_
  refine mG_cs3 sX8_63 dX8_type_5 (mLe_of rfl) (Nat.le_of_ble_eq_true rfl) (ok_X8_in) ?_
  refine mG_if_neB dX8_type_8 (fun c8 => Bool.noConfusion (hb.symm.trans ((inI_ix (by decide)).symm.trans c8))) (fun c8 => ?_)
  refine mG_iconst (v := (-1)) dX8_type_11 (by decide) ?_
  exact mG_iret dX8_type_12 rfl (mX_of rfl rfl)
set_option maxRecDepth 100000 in
set_option maxHeartbeats 4000000 in
theorem rc_type_full {E : mE} {h : mH} {ty a sd so va it mo fa : Nat} {j : Nat} {wr : Bool} {tr : Int64} (e40 : h 40 = oMo ty a sd so va wr it mo fa tr) (hj : j < 256) (hf : ty = 100) : mOk E 2 zX8_type [.ref 40, vN j] h (mX (some (.int (-3))) h) := by
  have qj := isIx_nI (show 256 < 2 ^ 31 by decide) hj
  refine mOk_w (L := [some (.ref 40), some (vN j)]) pn_X8 rfl (Nat.le_of_ble_eq_true rfl) rfl ?_
  refine mG_iload_n dX8_type_0 rfl ?_
  refine mG_iconst (v := nI 0) dX8_type_1 (by decide) ?_
  refine mG_sipush (v := nI 255) dX8_type_2 (by decide) ?_
  refine mG_cs3 sX8_63 dX8_type_5 (mLe_of rfl) (Nat.le_of_ble_eq_true rfl) (ok_X8_in) ?_
  refine mG_if_neB dX8_type_8 (fun c8 => ?_) (fun c8 => Bool.noConfusion (c8.symm.trans ((inI_ix (by decide)).trans qj)))
  refine mG_aload_n dX8_type_13 rfl ?_
  refine mG_get fX8_67 dX8_type_14 e40 (Nat.le_of_ble_eq_true rfl) rfl ?_
  refine mG_bipush (v := nI 100) dX8_type_17 (by decide) ?_
  refine mG_icmp_neN dX8_type_19 (by omega) (by omega) (fun c19 => absurd hf c19) (fun c19 => ?_)
  refine mG_bipush (v := (-3)) dX8_type_22 (by decide) ?_
  exact mG_iret dX8_type_24 rfl (mX_of rfl rfl)
set_option maxRecDepth 100000 in
set_option maxHeartbeats 4000000 in
theorem rc_type_ok {E : mE} {h : mH} {ty a sd so va it mo fa : Nat} {j : Nat} {wr : Bool} {tr : Int64} {tx : Nat → Nat} (e40 : h 40 = oMo ty a sd so va wr it mo fa tr) (e41 : h 41 = mBy tx) (hj : j < 256) (hf : ty < 100) : mOk E 2 zX8_type [.ref 40, vN j] h (mX (some (vN (ty + 1))) (mU (mU h 41 (mBy (mUp tx ty j))) 40 (oMo (ty + 1) a sd so va wr it mo fa tr))) := by
  have qj := isIx_nI (show 256 < 2 ^ 31 by decide) hj
  refine mOk_w (L := [some (.ref 40), some (vN j)]) pn_X8 rfl (Nat.le_of_ble_eq_true rfl) rfl ?_
  refine mG_iload_n dX8_type_0 rfl ?_
  refine mG_iconst (v := nI 0) dX8_type_1 (by decide) ?_
  refine mG_sipush (v := nI 255) dX8_type_2 (by decide) ?_
  refine mG_cs3 sX8_63 dX8_type_5 (mLe_of rfl) (Nat.le_of_ble_eq_true rfl) (ok_X8_in) ?_
  refine mG_if_neB dX8_type_8 (fun c8 => ?_) (fun c8 => Bool.noConfusion (c8.symm.trans ((inI_ix (by decide)).trans qj)))
  refine mG_aload_n dX8_type_13 rfl ?_
  refine mG_get fX8_67 dX8_type_14 e40 (Nat.le_of_ble_eq_true rfl) rfl ?_
  refine mG_bipush (v := nI 100) dX8_type_17 (by decide) ?_
  refine mG_icmp_neN dX8_type_19 (by omega) (by omega) (fun c19 => ?_) (fun c19 => absurd c19 (by omega))
  refine mG_aload_n dX8_type_25 rfl ?_
  refine mG_get fX8_7 dX8_type_26 e40 (Nat.le_of_ble_eq_true rfl) rfl ?_
  refine mG_aload_n dX8_type_29 rfl ?_
  refine mG_get fX8_67 dX8_type_30 e40 (Nat.le_of_ble_eq_true rfl) rfl ?_
  refine mG_iload_n dX8_type_33 rfl ?_
  refine mG_i2b dX8_type_34 ?_
  refine mG_bastN dX8_type_35 e41 (Nat.le_of_ble_eq_true rfl) (by decide) (by omega) ?_
  rw [by_up]
  refine mG_aload_n dX8_type_36 rfl ?_
  refine mG_dup dX8_type_37 rfl ?_
  refine mG_get fX8_67 dX8_type_38 e40 (Nat.le_of_ble_eq_true rfl) rfl ?_
  refine mG_iconst (v := nI 1) dX8_type_41 (by decide) ?_
  refine mG_iaddN dX8_type_42 ?_
  refine mG_putI pX8_67 dX8_type_43 e40 (Nat.le_of_ble_eq_true rfl) (Nat.le_of_ble_eq_true rfl) ?_
  refine mG_aload_n dX8_type_46 rfl ?_
  refine mG_get fX8_67 dX8_type_47 rfl (Nat.le_of_ble_eq_true rfl) rfl ?_
  exact mG_iret dX8_type_50 rfl (mX_of rfl rfl)
set_option maxRecDepth 100000 in
set_option maxHeartbeats 4000000 in
theorem rc_clear {E : mE} {h : mH} {ty a sd so va it mo fa : Nat} {wr : Bool} {tr : Int64} (e40 : h 40 = oMo ty a sd so va wr it mo fa tr)  : mOk E 1 zX8_clear [.ref 40] h (mX (some (vN ty)) (mU h 40 (oMo 0 a sd so va wr it mo fa tr))) := by
  refine mOk_w (L := [some (.ref 40), none]) pn_X8 rfl (Nat.le_of_ble_eq_true rfl) rfl ?_
  refine mG_aload_n dX8_clear_0 rfl ?_
  refine mG_get fX8_67 dX8_clear_1 e40 (Nat.le_of_ble_eq_true rfl) rfl ?_
  refine mG_istore_n dX8_clear_4 (Nat.le_of_ble_eq_true rfl) rfl rfl ?_
  refine mG_aload_n dX8_clear_5 rfl ?_
  refine mG_iconst (v := nI 0) dX8_clear_6 (by decide) ?_
  refine mG_putI pX8_67 dX8_clear_7 e40 (Nat.le_of_ble_eq_true rfl) (Nat.le_of_ble_eq_true rfl) ?_
  refine mG_iload_n dX8_clear_10 rfl ?_
  exact mG_iret dX8_clear_11 rfl (mX_of rfl rfl)
def dgR (tx : Nat → Nat) : Nat → Nat → Nat → Nat × Nat
  | 0, a, v => (a, v)
  | k + 1, a, v => if isD (tx a) = true then dgR tx k (a + 1) (if 9999 < v then v else 10 * v + tx a - 48) else (a, v)
/-- a token of the reference: at, sort, stands, value -/
def stB (tx : Nat → Nat) (n b : Nat) : mTk := if n ≤ b then (b, 4, b, 0) else if isD (tx b) = true then ((dgR tx (n - b) b 0).1, if 9999 < (dgR tx (n - b) b 0).2 ∨ (tx b = 48 ∧ 1 < (dgR tx (n - b) b 0).1 - b) then 5 else 2, b, (dgR tx (n - b) b 0).2)
  else if isL (tx b) = true then (leF tx (n - b) b, 1, b, if leF tx (n - b) b - b = 1 then tx b else 0) else (b + 1, if tx b = 59 then 3 else 5, b, 0)
def stT (tx : Nat → Nat) (n a : Nat) : mTk := stB tx n (skF tx (n - a) a)
abbrev oMt (ty : Nat) (t : mTk) (wr : Bool) (it mo fa : Nat) (tr : Int64) : mC := oMo ty t.1 t.2.2.1 t.2.1 t.2.2.2 wr it mo fa tr
theorem dgR_le (tx : Nat → Nat) : ∀ k a v, a ≤ (dgR tx k a v).1 ∧ (dgR tx k a v).1 ≤ a + k := by
  intro k
  induction k with
  | zero => intro a v; exact ⟨Nat.le_refl _, Nat.le_refl _⟩
  | succ k ih =>
    intro a v
    unfold dgR
    have := ih (a + 1) (if 9999 < v then v else 10 * v + tx a - 48)
    split
    · omega
    · exact ⟨Nat.le_refl _, by show a ≤ _; omega⟩
theorem dgR_lt (tx : Nat → Nat) : ∀ k a v, v < 100000 → (dgR tx k a v).2 < 100000 := by
  intro k
  induction k with
  | zero => intro a v hv; exact hv
  | succ k ih =>
    intro a v hv
    unfold dgR
    split
    · rename_i q
      have := isD_iff.mp q
      refine ih _ _ ?_
      split <;> omega
    · exact hv
theorem in_D {x : Nat} (hx : x < 256) : inI (nI x) (nI 48) (nI 57) = isD x := inI_N (by omega) (by decide) (by decide)
theorem in_L {x : Nat} (hx : x < 256) : inI (nI x) (nI 97) (nI 122) = isL x := inI_N (by omega) (by decide) (by decide)
theorem in_m9 : inI (-9) (nI 48) (nI 57) = false ∧ inI (-9) (nI 97) (nI 122) = false := by decide
set_option maxRecDepth 100000 in
set_option maxHeartbeats 4000000 in
theorem le_X8_digits {E : mE} {h : mH} {ty mo fa a b so v it cb : Nat} {tr : Int64} {wr : Bool} {T : mTk} (hty : ty ≤ 100) (hab : b ≤ a) (ha : a ≤ 100) (hv : v < 100000) (hcb : cb < 256) (hS : T = (a, if 9999 < v ∨ (cb = 48 ∧ 1 < a - b) then 5 else 2, b, v)) : mG E (mR 2, zX8_step) (mKq E (mR 2) mN (mX none (mU h 40 (oMt ty T wr it mo fa tr)))) 128 [some (.ref 40), some (vN cb)] [] (mN, 0, 0) (mU h 40 (oMo ty a b so v wr it mo fa tr)) := by
  refine mG_aload_n dX8_step_128 rfl ?_
  refine mG_aload_n dX8_step_129 rfl ?_
  refine mG_get fX8_81 dX8_step_130 rfl (Nat.le_of_ble_eq_true rfl) rfl ?_
  refine mG_sipush (v := nI 9999) dX8_step_133 (by decide) ?_
  refine mG_icmp_gtN dX8_step_136 (by omega) (by omega) (fun c136 => ?_) (fun c136 => ?_)
  · refine mG_iconst (v := nI 5) dX8_step_158 (by decide) ?_
    refine mG_goto dX8_step_159 ?_
    refine mG_putI pX8_84 dX8_step_163 rfl (Nat.le_of_ble_eq_true rfl) (Nat.le_of_ble_eq_true rfl) ?_
    refine mG_goto dX8_step_166 ?_
    exact mG_vret dX8_step_262 rfl (mX_of rfl (by
    simp only [mU_same]
    rw [hS]
    first
      | rw [if_pos (Or.inl c136)]
      | rw [if_pos (Or.inr (And.intro c142 c155))]
      | rw [if_neg (by intro w; rcases w with w | w; (omega); (exact c142 w.1))]
      | rw [if_neg (by intro w; rcases w with w | w; (omega); (have := w.2; omega))]
    rfl))
  · refine mG_iload_n dX8_step_139 rfl ?_
    refine mG_bipush (v := nI 48) dX8_step_140 (by decide) ?_
    refine mG_icmp_neN dX8_step_142 (by omega) (by omega) (fun c142 => ?_) (fun c142 => ?_)
    · refine mG_iconst (v := nI 2) dX8_step_162 (by decide) ?_
      refine mG_putI pX8_84 dX8_step_163 rfl (Nat.le_of_ble_eq_true rfl) (Nat.le_of_ble_eq_true rfl) ?_
      refine mG_goto dX8_step_166 ?_
      exact mG_vret dX8_step_262 rfl (mX_of rfl (by
    simp only [mU_same]
    rw [hS]
    first
      | rw [if_pos (Or.inl c136)]
      | rw [if_pos (Or.inr (And.intro c142 c155))]
      | rw [if_neg (by intro w; rcases w with w | w; (omega); (exact c142 w.1))]
      | rw [if_neg (by intro w; rcases w with w | w; (omega); (have := w.2; omega))]
    rfl))
    · refine mG_aload_n dX8_step_145 rfl ?_
      refine mG_get fX8_71 dX8_step_146 rfl (Nat.le_of_ble_eq_true rfl) rfl ?_
      refine mG_aload_n dX8_step_149 rfl ?_
      refine mG_get fX8_78 dX8_step_150 rfl (Nat.le_of_ble_eq_true rfl) rfl ?_
      refine mG_isubN dX8_step_153 (by omega) ?_
      refine mG_iconst (v := nI 1) dX8_step_154 (by decide) ?_
      refine mG_icmp_leN dX8_step_155 (by omega) (by omega) (fun c155 => ?_) (fun c155 => ?_)
      · refine mG_iconst (v := nI 2) dX8_step_162 (by decide) ?_
        refine mG_putI pX8_84 dX8_step_163 rfl (Nat.le_of_ble_eq_true rfl) (Nat.le_of_ble_eq_true rfl) ?_
        refine mG_goto dX8_step_166 ?_
        exact mG_vret dX8_step_262 rfl (mX_of rfl (by
    simp only [mU_same]
    rw [hS]
    first
      | rw [if_pos (Or.inl c136)]
      | rw [if_pos (Or.inr (And.intro c142 c155))]
      | rw [if_neg (by intro w; rcases w with w | w; (omega); (exact c142 w.1))]
      | rw [if_neg (by intro w; rcases w with w | w; (omega); (have := w.2; omega))]
    rfl))
      · refine mG_iconst (v := nI 5) dX8_step_158 (by decide) ?_
        refine mG_goto dX8_step_159 ?_
        refine mG_putI pX8_84 dX8_step_163 rfl (Nat.le_of_ble_eq_true rfl) (Nat.le_of_ble_eq_true rfl) ?_
        refine mG_goto dX8_step_166 ?_
        exact mG_vret dX8_step_262 rfl (mX_of rfl (by
    simp only [mU_same]
    rw [hS]
    first
      | rw [if_pos (Or.inl c136)]
      | rw [if_pos (Or.inr (And.intro c142 c155))]
      | rw [if_neg (by intro w; rcases w with w | w; (omega); (exact c142 w.1))]
      | rw [if_neg (by intro w; rcases w with w | w; (omega); (have := w.2; omega))]
    rfl))
set_option maxRecDepth 100000 in
set_option maxHeartbeats 4000000 in
theorem lp_X8_digits {E : mE} {h : mH} {so b cb : Nat} {T : mTk} {ty mo fa : Nat} {tr : Int64} {wr : Bool} {it : Nat} {tx : Nat → Nat} (e41 : h 41 = mBy tx) (hty : ty ≤ 100) (htx : ∀ j, j < ty → tx j < 256) (hcb : cb < 256) : ∀ (k a v : Nat), a + k = ty → b ≤ a → v < 100000 → T = ((dgR tx k a v).1, if 9999 < (dgR tx k a v).2 ∨ (cb = 48 ∧ 1 < (dgR tx k a v).1 - b) then 5 else 2, b, (dgR tx k a v).2) → mG E (mR 2, zX8_step) (mKq E (mR 2) mN (mX none (mU h 40 (oMt ty T wr it mo fa tr)))) 65 [some (.ref 40), some (vN cb)] [] (mN, 0, 0) (mU h 40 (oMo ty a b so v wr it mo fa tr)) := by
  intro k
  induction k with
  | zero =>
    intro a v hk hb hv hT
    refine mG_aload_n dX8_step_65 rfl ?_
    refine mG_cv0 vX8_74 dX8_step_66 (mLe_of rfl) (Nat.le_of_ble_eq_true rfl) rfl (Nat.le_of_ble_eq_true rfl) (ok_X8_here_out rfl (by omega) (by omega) hty) ?_
    refine mG_bipush (v := nI 48) dX8_step_69 (by decide) ?_
    refine mG_bipush (v := nI 57) dX8_step_71 (by decide) ?_
    refine mG_cs3 sX8_63 dX8_step_73 (mLe_of rfl) (Nat.le_of_ble_eq_true rfl) (ok_X8_in) ?_
    refine mG_if_eqB dX8_step_76 (fun c76 => ?_) (fun c76 => Bool.noConfusion (in_m9.1.symm.trans c76))
    exact le_X8_digits hty hb (by omega) hv hcb hT
  | succ k ih =>
    intro a v hk hb hv hT
    refine mG_aload_n dX8_step_65 rfl ?_
    have hta := htx a (by omega)
    refine mG_cv0 vX8_74 dX8_step_66 (mLe_of rfl) (Nat.le_of_ble_eq_true rfl) rfl (Nat.le_of_ble_eq_true rfl) (ok_X8_here_in rfl e41 (by omega) hty htx) ?_
    refine mG_bipush (v := nI 48) dX8_step_69 (by decide) ?_
    refine mG_bipush (v := nI 57) dX8_step_71 (by decide) ?_
    refine mG_cs3 sX8_63 dX8_step_73 (mLe_of rfl) (Nat.le_of_ble_eq_true rfl) (ok_X8_in) ?_
    rw [in_D hta]
    refine mG_if_eqB dX8_step_76 (fun c76 => ?_) (fun c76 => ?_)
    · exact le_X8_digits hty hb (by omega) hv hcb (by rw [hT]; simp only [dgR, c76, Bool.false_eq_true, if_false])
    · have hd := isD_iff.mp c76
      refine mG_aload_n dX8_step_79 rfl ?_
      refine mG_aload_n dX8_step_80 rfl ?_
      refine mG_get fX8_81 dX8_step_81 rfl (Nat.le_of_ble_eq_true rfl) rfl ?_
      refine mG_sipush (v := nI 9999) dX8_step_84 (by decide) ?_
      refine mG_icmp_leN dX8_step_87 (by omega) (by omega) (fun c87 => ?_) (fun c87 => ?_)
      · refine mG_bipush (v := nI 10) dX8_step_97 (by decide) ?_
        refine mG_aload_n dX8_step_99 rfl ?_
        refine mG_get fX8_81 dX8_step_100 rfl (Nat.le_of_ble_eq_true rfl) rfl ?_
        refine mG_imulN dX8_step_103 ?_
        refine mG_aload_n dX8_step_104 rfl ?_
        refine mG_cv0 vX8_74 dX8_step_105 (mLe_of rfl) (Nat.le_of_ble_eq_true rfl) rfl (Nat.le_of_ble_eq_true rfl) (ok_X8_here_in rfl e41 (by omega) hty htx) ?_
        refine mG_iaddN dX8_step_108 ?_
        refine mG_bipush (v := nI 48) dX8_step_109 (by decide) ?_
        refine mG_isubN dX8_step_111 (by omega) ?_
        refine mG_putI pX8_81 dX8_step_112 rfl (Nat.le_of_ble_eq_true rfl) (Nat.le_of_ble_eq_true rfl) ?_
        refine mG_aload_n dX8_step_115 rfl ?_
        refine mG_dup dX8_step_116 rfl ?_
        refine mG_get fX8_71 dX8_step_117 rfl (Nat.le_of_ble_eq_true rfl) rfl ?_
        refine mG_iconst (v := nI 1) dX8_step_120 (by decide) ?_
        refine mG_iaddN dX8_step_121 ?_
        refine mG_putI pX8_71 dX8_step_122 rfl (Nat.le_of_ble_eq_true rfl) (Nat.le_of_ble_eq_true rfl) ?_
        refine mG_goto dX8_step_125 ?_
        simp only [mU_same]
        have hT2 : T = ((dgR tx k (a + 1) (if 9999 < v then v else 10 * v + tx a - 48)).1, if 9999 < (dgR tx k (a + 1) (if 9999 < v then v else 10 * v + tx a - 48)).2 ∨ (cb = 48 ∧ 1 < (dgR tx k (a + 1) (if 9999 < v then v else 10 * v + tx a - 48)).1 - b) then 5 else 2, b, (dgR tx k (a + 1) (if 9999 < v then v else 10 * v + tx a - 48)).2) := by rw [hT]; simp only [dgR, c76, if_true]
        first
          | (rw [if_pos c87] at hT2; exact ih (a + 1) _ (by omega) (by omega) (by omega) hT2)
          | (rw [if_neg (Nat.not_lt.mpr c87)] at hT2; exact ih (a + 1) _ (by omega) (by omega) (by omega) hT2)
      · refine mG_aload_n dX8_step_90 rfl ?_
        refine mG_get fX8_81 dX8_step_91 rfl (Nat.le_of_ble_eq_true rfl) rfl ?_
        refine mG_goto dX8_step_94 ?_
        refine mG_putI pX8_81 dX8_step_112 rfl (Nat.le_of_ble_eq_true rfl) (Nat.le_of_ble_eq_true rfl) ?_
        refine mG_aload_n dX8_step_115 rfl ?_
        refine mG_dup dX8_step_116 rfl ?_
        refine mG_get fX8_71 dX8_step_117 rfl (Nat.le_of_ble_eq_true rfl) rfl ?_
        refine mG_iconst (v := nI 1) dX8_step_120 (by decide) ?_
        refine mG_iaddN dX8_step_121 ?_
        refine mG_putI pX8_71 dX8_step_122 rfl (Nat.le_of_ble_eq_true rfl) (Nat.le_of_ble_eq_true rfl) ?_
        refine mG_goto dX8_step_125 ?_
        simp only [mU_same]
        have hT2 : T = ((dgR tx k (a + 1) (if 9999 < v then v else 10 * v + tx a - 48)).1, if 9999 < (dgR tx k (a + 1) (if 9999 < v then v else 10 * v + tx a - 48)).2 ∨ (cb = 48 ∧ 1 < (dgR tx k (a + 1) (if 9999 < v then v else 10 * v + tx a - 48)).1 - b) then 5 else 2, b, (dgR tx k (a + 1) (if 9999 < v then v else 10 * v + tx a - 48)).2) := by rw [hT]; simp only [dgR, c76, if_true]
        first
          | (rw [if_pos c87] at hT2; exact ih (a + 1) _ (by omega) (by omega) (by omega) hT2)
          | (rw [if_neg (Nat.not_lt.mpr c87)] at hT2; exact ih (a + 1) _ (by omega) (by omega) (by omega) hT2)
set_option maxRecDepth 100000 in
set_option maxHeartbeats 4000000 in
theorem le_X8_letters {E : mE} {h : mH} {ty mo fa a b so v it cb : Nat} {tr : Int64} {wr : Bool} {T : mTk} (hty : ty ≤ 100) (hab : b ≤ a) (ha : a ≤ 100) (hS : T = (a, 1, b, if a - b = 1 then cb else 0)) : mG E (mR 2, zX8_step) (mKq E (mR 2) mN (mX none (mU h 40 (oMt ty T wr it mo fa tr)))) 207 [some (.ref 40), some (vN cb)] [] (mN, 0, 0) (mU h 40 (oMo ty a b so v wr it mo fa tr)) := by
  refine mG_aload_n dX8_step_207 rfl ?_
  refine mG_aload_n dX8_step_208 rfl ?_
  refine mG_get fX8_71 dX8_step_209 rfl (Nat.le_of_ble_eq_true rfl) rfl ?_
  refine mG_aload_n dX8_step_212 rfl ?_
  refine mG_get fX8_78 dX8_step_213 rfl (Nat.le_of_ble_eq_true rfl) rfl ?_
  refine mG_isubN dX8_step_216 (by omega) ?_
  refine mG_iconst (v := nI 1) dX8_step_217 (by decide) ?_
  refine mG_icmp_neN dX8_step_218 (by omega) (by omega) (fun c218 => ?_) (fun c218 => ?_)
  · refine mG_iconst (v := nI 0) dX8_step_225 (by decide) ?_
    refine mG_putI pX8_81 dX8_step_226 rfl (Nat.le_of_ble_eq_true rfl) (Nat.le_of_ble_eq_true rfl) ?_
    refine mG_aload_n dX8_step_229 rfl ?_
    refine mG_iconst (v := nI 1) dX8_step_230 (by decide) ?_
    refine mG_putI pX8_84 dX8_step_231 rfl (Nat.le_of_ble_eq_true rfl) (Nat.le_of_ble_eq_true rfl) ?_
    refine mG_goto dX8_step_234 ?_
    exact mG_vret dX8_step_262 rfl (mX_of rfl (by
    simp only [mU_same]
    rw [hS]
    (first | rw [if_pos c218] | rw [if_neg c218])
    rfl))
  · refine mG_iload_n dX8_step_221 rfl ?_
    refine mG_goto dX8_step_222 ?_
    refine mG_putI pX8_81 dX8_step_226 rfl (Nat.le_of_ble_eq_true rfl) (Nat.le_of_ble_eq_true rfl) ?_
    refine mG_aload_n dX8_step_229 rfl ?_
    refine mG_iconst (v := nI 1) dX8_step_230 (by decide) ?_
    refine mG_putI pX8_84 dX8_step_231 rfl (Nat.le_of_ble_eq_true rfl) (Nat.le_of_ble_eq_true rfl) ?_
    refine mG_goto dX8_step_234 ?_
    exact mG_vret dX8_step_262 rfl (mX_of rfl (by
    simp only [mU_same]
    rw [hS]
    (first | rw [if_pos c218] | rw [if_neg c218])
    rfl))
set_option maxRecDepth 100000 in
set_option maxHeartbeats 4000000 in
theorem lp_X8_letters {E : mE} {h : mH} {so b cb v : Nat} {T : mTk} {ty mo fa : Nat} {tr : Int64} {wr : Bool} {it : Nat} {tx : Nat → Nat} (e41 : h 41 = mBy tx) (hty : ty ≤ 100) (htx : ∀ j, j < ty → tx j < 256)  : ∀ (k a : Nat), a + k = ty → b ≤ a → T = (leF tx k a, 1, b, if leF tx k a - b = 1 then cb else 0) → mG E (mR 2, zX8_step) (mKq E (mR 2) mN (mX none (mU h 40 (oMt ty T wr it mo fa tr)))) 180 [some (.ref 40), some (vN cb)] [] (mN, 0, 0) (mU h 40 (oMo ty a b so v wr it mo fa tr)) := by
  intro k
  induction k with
  | zero =>
    intro a hk hb hT
    refine mG_aload_n dX8_step_180 rfl ?_
    refine mG_cv0 vX8_74 dX8_step_181 (mLe_of rfl) (Nat.le_of_ble_eq_true rfl) rfl (Nat.le_of_ble_eq_true rfl) (ok_X8_here_out rfl (by omega) (by omega) hty) ?_
    refine mG_bipush (v := nI 97) dX8_step_184 (by decide) ?_
    refine mG_bipush (v := nI 122) dX8_step_186 (by decide) ?_
    refine mG_cs3 sX8_63 dX8_step_188 (mLe_of rfl) (Nat.le_of_ble_eq_true rfl) (ok_X8_in) ?_
    refine mG_if_eqB dX8_step_191 (fun c191 => ?_) (fun c191 => Bool.noConfusion (in_m9.2.symm.trans c191))
    exact le_X8_letters hty hb (by omega) hT
  | succ k ih =>
    intro a hk hb hT
    refine mG_aload_n dX8_step_180 rfl ?_
    have hta := htx a (by omega)
    refine mG_cv0 vX8_74 dX8_step_181 (mLe_of rfl) (Nat.le_of_ble_eq_true rfl) rfl (Nat.le_of_ble_eq_true rfl) (ok_X8_here_in rfl e41 (by omega) hty htx) ?_
    refine mG_bipush (v := nI 97) dX8_step_184 (by decide) ?_
    refine mG_bipush (v := nI 122) dX8_step_186 (by decide) ?_
    refine mG_cs3 sX8_63 dX8_step_188 (mLe_of rfl) (Nat.le_of_ble_eq_true rfl) (ok_X8_in) ?_
    rw [in_L hta]
    refine mG_if_eqB dX8_step_191 (fun c191 => ?_) (fun c191 => ?_)
    · exact le_X8_letters hty hb (by omega) (by rw [hT]; simp only [leF, c191, Bool.false_eq_true, if_false])
    · refine mG_aload_n dX8_step_194 rfl ?_
      refine mG_dup dX8_step_195 rfl ?_
      refine mG_get fX8_71 dX8_step_196 rfl (Nat.le_of_ble_eq_true rfl) rfl ?_
      refine mG_iconst (v := nI 1) dX8_step_199 (by decide) ?_
      refine mG_iaddN dX8_step_200 ?_
      refine mG_putI pX8_71 dX8_step_201 rfl (Nat.le_of_ble_eq_true rfl) (Nat.le_of_ble_eq_true rfl) ?_
      refine mG_goto dX8_step_204 ?_
      simp only [mU_same]
      exact ih (a + 1) (by omega) (by omega) (by rw [hT]; simp only [leF, c191, if_true])
set_option maxRecDepth 100000 in
set_option maxHeartbeats 4000000 in
theorem le_X8_out {E : mE} {h : mH} {sd so v b : Nat} {ty mo fa : Nat} {tr : Int64} {wr : Bool} {it : Nat} {tx : Nat → Nat} (e41 : h 41 = mBy tx) (hty : ty ≤ 100) (htx : ∀ j, j < ty → tx j < 256) (hb : b = ty) : mG E (mR 2, zX8_step) (mKq E (mR 2) mN (mX none (mU h 40 (oMt ty (stB tx ty b) wr it mo fa tr)))) 22 [some (.ref 40), none] [] (mN, 0, 0) (mU h 40 (oMo ty b sd so v wr it mo fa tr)) := by
  refine mG_aload_n dX8_step_22 rfl ?_
  refine mG_aload_n dX8_step_23 rfl ?_
  refine mG_get fX8_71 dX8_step_24 rfl (Nat.le_of_ble_eq_true rfl) rfl ?_
  refine mG_putI pX8_78 dX8_step_27 rfl (Nat.le_of_ble_eq_true rfl) (Nat.le_of_ble_eq_true rfl) ?_
  refine mG_aload_n dX8_step_30 rfl ?_
  refine mG_iconst (v := nI 0) dX8_step_31 (by decide) ?_
  refine mG_putI pX8_81 dX8_step_32 rfl (Nat.le_of_ble_eq_true rfl) (Nat.le_of_ble_eq_true rfl) ?_
  refine mG_aload_n dX8_step_35 rfl ?_
  refine mG_cv0 vX8_74 dX8_step_36 (mLe_of rfl) (Nat.le_of_ble_eq_true rfl) rfl (Nat.le_of_ble_eq_true rfl) (ok_X8_here_out rfl (by omega) (by omega) hty) ?_
  refine mG_istore_n dX8_step_39 (Nat.le_of_ble_eq_true rfl) rfl rfl ?_
  refine mG_iload_n dX8_step_40 rfl ?_
  refine mG_bipush (v := (-9)) dX8_step_41 (by decide) ?_
  refine mG_icmp_ne dX8_step_43 (fun c43 => absurd rfl c43) (fun c43 => ?_)
  refine mG_aload_n dX8_step_46 rfl ?_
  refine mG_iconst (v := nI 4) dX8_step_47 (by decide) ?_
  refine mG_putI pX8_84 dX8_step_48 rfl (Nat.le_of_ble_eq_true rfl) (Nat.le_of_ble_eq_true rfl) ?_
  refine mG_goto dX8_step_51 ?_
  exact mG_vret dX8_step_262 rfl (mX_of rfl (by simp only [mU_same]; rw [stB, if_pos (by omega)]; rfl))
theorem m9_ne {x : Nat} (hx : x < 256) : ¬ nI x = -9 := by
  have key : ∀ y : Fin 256, ¬ nI y.val = -9 := by decide +kernel
  exact key ⟨x, hx⟩
set_option maxRecDepth 100000 in
set_option maxHeartbeats 4000000 in
theorem le_X8_in {E : mE} {h : mH} {sd so v b : Nat} {ty mo fa : Nat} {tr : Int64} {wr : Bool} {it : Nat} {tx : Nat → Nat} (e41 : h 41 = mBy tx) (hty : ty ≤ 100) (htx : ∀ j, j < ty → tx j < 256) (hb : b < ty) : mG E (mR 2, zX8_step) (mKq E (mR 2) mN (mX none (mU h 40 (oMt ty (stB tx ty b) wr it mo fa tr)))) 22 [some (.ref 40), none] [] (mN, 0, 0) (mU h 40 (oMo ty b sd so v wr it mo fa tr)) := by
  have htb := htx b hb
  refine mG_aload_n dX8_step_22 rfl ?_
  refine mG_aload_n dX8_step_23 rfl ?_
  refine mG_get fX8_71 dX8_step_24 rfl (Nat.le_of_ble_eq_true rfl) rfl ?_
  refine mG_putI pX8_78 dX8_step_27 rfl (Nat.le_of_ble_eq_true rfl) (Nat.le_of_ble_eq_true rfl) ?_
  refine mG_aload_n dX8_step_30 rfl ?_
  refine mG_iconst (v := nI 0) dX8_step_31 (by decide) ?_
  refine mG_putI pX8_81 dX8_step_32 rfl (Nat.le_of_ble_eq_true rfl) (Nat.le_of_ble_eq_true rfl) ?_
  refine mG_aload_n dX8_step_35 rfl ?_
  refine mG_cv0 vX8_74 dX8_step_36 (mLe_of rfl) (Nat.le_of_ble_eq_true rfl) rfl (Nat.le_of_ble_eq_true rfl) (ok_X8_here_in rfl e41 hb hty htx) ?_
  refine mG_istore_n dX8_step_39 (Nat.le_of_ble_eq_true rfl) rfl rfl ?_
  refine mG_iload_n dX8_step_40 rfl ?_
  refine mG_bipush (v := (-9)) dX8_step_41 (by decide) ?_
  refine mG_icmp_ne dX8_step_43 (fun c43 => ?_) (fun c43 => absurd c43 (m9_ne htb))
  refine mG_iload_n dX8_step_54 rfl ?_
  refine mG_bipush (v := nI 48) dX8_step_55 (by decide) ?_
  refine mG_bipush (v := nI 57) dX8_step_57 (by decide) ?_
  refine mG_cs3 sX8_63 dX8_step_59 (mLe_of rfl) (Nat.le_of_ble_eq_true rfl) (ok_X8_in) ?_
  rw [in_D htb]
  refine mG_if_eqB dX8_step_62 (fun c62 => ?_) (fun c62 => ?_)
  · refine mG_iload_n dX8_step_169 rfl ?_
    refine mG_bipush (v := nI 97) dX8_step_170 (by decide) ?_
    refine mG_bipush (v := nI 122) dX8_step_172 (by decide) ?_
    refine mG_cs3 sX8_63 dX8_step_174 (mLe_of rfl) (Nat.le_of_ble_eq_true rfl) (ok_X8_in) ?_
    rw [in_L htb]
    refine mG_if_eqB dX8_step_177 (fun c177 => ?_) (fun c177 => ?_)
    · refine mG_aload_n dX8_step_237 rfl ?_
      refine mG_dup dX8_step_238 rfl ?_
      refine mG_get fX8_71 dX8_step_239 rfl (Nat.le_of_ble_eq_true rfl) rfl ?_
      refine mG_iconst (v := nI 1) dX8_step_242 (by decide) ?_
      refine mG_iaddN dX8_step_243 ?_
      refine mG_putI pX8_71 dX8_step_244 rfl (Nat.le_of_ble_eq_true rfl) (Nat.le_of_ble_eq_true rfl) ?_
      refine mG_aload_n dX8_step_247 rfl ?_
      refine mG_iload_n dX8_step_248 rfl ?_
      refine mG_bipush (v := nI 59) dX8_step_249 (by decide) ?_
      refine mG_icmp_neN dX8_step_251 (by omega) (by omega) (fun c251 => ?_) (fun c251 => ?_)
      · refine mG_iconst (v := nI 5) dX8_step_258 (by decide) ?_
        refine mG_putI pX8_84 dX8_step_259 rfl (Nat.le_of_ble_eq_true rfl) (Nat.le_of_ble_eq_true rfl) ?_
        exact mG_vret dX8_step_262 rfl (mX_of rfl (by
    simp only [mU_same]
    rw [stB, if_neg (by omega), if_neg (by rw [c62]; decide), if_neg (by rw [c177]; decide)]
    (first | rw [if_pos c251] | rw [if_neg c251])
    rfl))
      · refine mG_iconst (v := nI 3) dX8_step_254 (by decide) ?_
        refine mG_goto dX8_step_255 ?_
        refine mG_putI pX8_84 dX8_step_259 rfl (Nat.le_of_ble_eq_true rfl) (Nat.le_of_ble_eq_true rfl) ?_
        exact mG_vret dX8_step_262 rfl (mX_of rfl (by
    simp only [mU_same]
    rw [stB, if_neg (by omega), if_neg (by rw [c62]; decide), if_neg (by rw [c177]; decide)]
    (first | rw [if_pos c251] | rw [if_neg c251])
    rfl))
    · simp only [mU_same]
      exact lp_X8_letters e41 hty htx (ty - b) b (by omega) (Nat.le_refl _) (by rw [stB, if_neg (by omega), if_neg (by rw [c62]; decide), if_pos c177])
  · simp only [mU_same]
    exact lp_X8_digits e41 hty htx htb (ty - b) b 0 (by omega) (Nat.le_refl _) (by decide) (by rw [stB, if_neg (by omega), if_pos c62])
set_option maxRecDepth 100000 in
set_option maxHeartbeats 4000000 in
theorem lp_X8_step {E : mE} {h : mH} {sd so v b : Nat} {ty mo fa : Nat} {tr : Int64} {wr : Bool} {it : Nat} {tx : Nat → Nat} (e41 : h 41 = mBy tx) (hty : ty ≤ 100) (htx : ∀ j, j < ty → tx j < 256)  : ∀ (k a : Nat), a + k = ty → b = skF tx k a → mG E (mR 2, zX8_step) (mKq E (mR 2) mN (mX none (mU h 40 (oMt ty (stB tx ty b) wr it mo fa tr)))) 0 [some (.ref 40), none] [] (mN, 0, 0) (mU h 40 (oMo ty a sd so v wr it mo fa tr)) := by
  intro k
  induction k with
  | zero =>
    intro a hk hB
    refine mG_aload_n dX8_step_0 rfl ?_
    refine mG_cv0 vX8_74 dX8_step_1 (mLe_of rfl) (Nat.le_of_ble_eq_true rfl) rfl (Nat.le_of_ble_eq_true rfl) (ok_X8_here_out rfl (by omega) (by omega) hty) ?_
    refine mG_bipush (v := nI 32) dX8_step_4 (by decide) ?_
    refine mG_icmp_ne dX8_step_6 (fun c6 => ?_) (fun c6 => absurd c6 (by decide))
    obtain rfl : b = a := hB
    exact le_X8_out e41 hty htx (by omega)
  | succ k ih =>
    intro a hk hB
    refine mG_aload_n dX8_step_0 rfl ?_
    have hta := htx a (by omega)
    refine mG_cv0 vX8_74 dX8_step_1 (mLe_of rfl) (Nat.le_of_ble_eq_true rfl) rfl (Nat.le_of_ble_eq_true rfl) (ok_X8_here_in rfl e41 (by omega) hty htx) ?_
    refine mG_bipush (v := nI 32) dX8_step_4 (by decide) ?_
    refine mG_icmp_neN dX8_step_6 (by omega) (by omega) (fun c6 => ?_) (fun c6 => ?_)
    · have e : b = a := by rw [hB]; simp only [skF, if_neg c6]
      rw [← e]
      exact le_X8_in e41 hty htx (by omega)
    · refine mG_aload_n dX8_step_9 rfl ?_
      refine mG_dup dX8_step_10 rfl ?_
      refine mG_get fX8_71 dX8_step_11 rfl (Nat.le_of_ble_eq_true rfl) rfl ?_
      refine mG_iconst (v := nI 1) dX8_step_14 (by decide) ?_
      refine mG_iaddN dX8_step_15 ?_
      refine mG_putI pX8_71 dX8_step_16 rfl (Nat.le_of_ble_eq_true rfl) (Nat.le_of_ble_eq_true rfl) ?_
      refine mG_goto dX8_step_19 ?_
      simp only [mU_same]
      exact ih (a + 1) (by omega) (by rw [hB]; simp only [skF, if_pos c6])
set_option maxRecDepth 100000 in
set_option maxHeartbeats 4000000 in
theorem ok_X8_step {E : mE} {h : mH} {ty mo fa it : Nat} {t : mTk} {tr : Int64} {wr : Bool} {tx : Nat → Nat} (e40 : h 40 = oMt ty t wr it mo fa tr) (e41 : h 41 = mBy tx) (hty : ty ≤ 100) (ht : t.1 ≤ ty) (htx : ∀ j, j < ty → tx j < 256) : mOk E 2 zX8_step [.ref 40] h (mX none (mU h 40 (oMt ty (stT tx ty t.1) wr it mo fa tr))) := by
  refine mOk_w (L := [some (.ref 40), none]) pn_X8 rfl (Nat.le_of_ble_eq_true rfl) rfl ?_
  have q := lp_X8_step (E := E) (h := h) (sd := t.2.2.1) (so := t.2.1) (v := t.2.2.2) (b := skF tx (ty - t.1) t.1) (wr := wr) (it := it) (mo := mo) (fa := fa) (tr := tr) e41 hty htx (ty - t.1) t.1 (by omega) rfl
  rw [show mU h 40 (oMo ty t.1 t.2.2.1 t.2.1 t.2.2.2 wr it mo fa tr) = h from mU_self h 40 _ e40] at q
  exact q
