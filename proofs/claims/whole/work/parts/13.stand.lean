/-! Stand -/
abbrev oNow (dn wk : Nat) : mC := mOb 3 [.ref 10, .ref 11, .ref 12, .ref 13, vN dn, vN wk]
abbrev oIm0 (dn wk : Nat) : mC := mOb 3 [.ref 31, .ref 32, .ref 33, .ref 34, vN dn, vN wk]
abbrev oIm1 (dn wk : Nat) : mC := mOb 3 [.ref 36, .ref 37, .ref 38, .ref 39, vN dn, vN wk]
def tW (s t : Nat) : Nat := if s = t then 0 else if s + t = 5 then 2 else 1
set_option maxRecDepth 100000 in
set_option maxHeartbeats 4000000 in
theorem ok_X3_figureInFront {E : mE} {h : mH} {dn wk c : Nat} {nf fr : Nat → Nat} (e9 : h 9 = oNow dn wk) (e10 : h 10 = mAr 24 nf) (e12 : h 12 = mAr 4 fr) (hc : c < 4) (hf : fr c < 6) : mOk E 1 zX3_figureInFront [.ref 9, vN c] h (mX (some (vN (nf (c * 6 + fr c)))) h) := by
  refine mOk_w (L := [some (.ref 9), some (vN c)]) pn_X3 rfl (Nat.le_of_ble_eq_true rfl) rfl ?_
  refine mG_aload_n dX3_figureInFront_0 rfl ?_
  refine mG_get fX3_9 dX3_figureInFront_1 e9 (Nat.le_of_ble_eq_true rfl) rfl ?_
  refine mG_iload_n dX3_figureInFront_4 rfl ?_
  refine mG_bipush (v := nI 6) dX3_figureInFront_5 (by decide) ?_
  refine mG_imulN dX3_figureInFront_7 ?_
  refine mG_aload_n dX3_figureInFront_8 rfl ?_
  refine mG_get fX3_18 dX3_figureInFront_9 e9 (Nat.le_of_ble_eq_true rfl) rfl ?_
  refine mG_iload_n dX3_figureInFront_12 rfl ?_
  refine mG_ialdA dX3_figureInFront_13 e12 (Nat.le_of_ble_eq_true rfl) (by decide) (by omega) ?_
  refine mG_iaddN dX3_figureInFront_14 ?_
  refine mG_ialdA dX3_figureInFront_15 e10 (Nat.le_of_ble_eq_true rfl) (by decide) (by omega) ?_
  exact mG_iret dX3_figureInFront_16 rfl (mX_of rfl rfl)
set_option maxRecDepth 100000 in
set_option maxHeartbeats 4000000 in
theorem ok_X3_turnWork {E : mE} {h : mH} {s t : Nat} (hs : s < 6) (ht : t < 6) : mOk E 1 zX3_turnWork [vN s, vN t] h (mX (some (vN (tW s t))) h) := by
  refine mOk_w (L := [some (vN s), some (vN t)]) pn_X3 rfl (Nat.le_of_ble_eq_true rfl) rfl ?_
  refine mG_iload_n dX3_turnWork_0 rfl ?_
  refine mG_iload_n dX3_turnWork_1 rfl ?_
  refine mG_icmp_neN dX3_turnWork_2 (by omega) (by omega) (fun c2 => ?_) (fun c2 => ?_)
  · refine mG_iload_n dX3_turnWork_7 rfl ?_
    refine mG_iload_n dX3_turnWork_8 rfl ?_
    refine mG_iaddN dX3_turnWork_9 ?_
    refine mG_iconst (v := nI 5) dX3_turnWork_10 (by decide) ?_
    refine mG_icmp_neN dX3_turnWork_11 (by omega) (by omega) (fun c11 => ?_) (fun c11 => ?_)
    · refine mG_iconst (v := nI 1) dX3_turnWork_18 (by decide) ?_
      exact mG_iret dX3_turnWork_19 rfl (mX_of (by simp [tW, *]) rfl)
    · refine mG_iconst (v := nI 2) dX3_turnWork_14 (by decide) ?_
      refine mG_goto dX3_turnWork_15 ?_
      exact mG_iret dX3_turnWork_19 rfl (mX_of (by simp [tW, *]) rfl)
  · refine mG_iconst (v := nI 0) dX3_turnWork_5 (by decide) ?_
    exact mG_iret dX3_turnWork_6 rfl (mX_of (by simp [tW, *]) rfl)
set_option maxRecDepth 100000 in
set_option maxHeartbeats 4000000 in
theorem ok_X3_addWork {E : mE} {h : mH} {dn wk x : Nat} (e9 : h 9 = oNow dn wk) (hw : wk ≤ 9999) (hx : x ≤ 2) : mOk E 1 zX3_addWork [.ref 9, vN x] h (mX none (mU h 9 (oNow dn (min (wk + x) 9999)))) := by
  refine mOk_w (L := [some (.ref 9), some (vN x)]) pn_X3 rfl (Nat.le_of_ble_eq_true rfl) rfl ?_
  refine mG_aload_n dX3_addWork_0 rfl ?_
  refine mG_aload_n dX3_addWork_1 rfl ?_
  refine mG_get fX3_37 dX3_addWork_2 e9 (Nat.le_of_ble_eq_true rfl) rfl ?_
  refine mG_iload_n dX3_addWork_5 rfl ?_
  refine mG_iaddN dX3_addWork_6 ?_
  refine mG_sipush (v := nI 9999) dX3_addWork_7 (by decide) ?_
  refine mG_mminN dX3_addWork_10 aX3_56 w_min.1 w_min.2.1 w_min.2.2 (by decide) (Nat.le_of_ble_eq_true rfl) (Nat.zero_le _) (Nat.zero_le _) (by omega) (by omega) ?_
  refine mG_putI pX3_37 dX3_addWork_13 e9 (Nat.le_of_ble_eq_true rfl) (Nat.le_of_ble_eq_true rfl) ?_
  exact mG_vret dX3_addWork_16 rfl (mX_of rfl rfl)
set_option maxRecDepth 100000 in
set_option maxHeartbeats 4000000 in
theorem ok_X3_exchange {E : mE} {h : mH} {dn wk p q : Nat} {ca : Nat → Nat} (e9 : h 9 = oNow dn wk) (e11 : h 11 = mAr 4 ca) (hp : p < 4) (hq : q < 4) : mOk E 1 zX3_exchange [.ref 9, vN p, vN q] h (mX none (mU h 11 (mAr 4 (mUp (mUp ca p (ca q)) q (ca p))))) := by
  refine mOk_w (L := [some (.ref 9), some (vN p), some (vN q), none]) pn_X3 rfl (Nat.le_of_ble_eq_true rfl) rfl ?_
  refine mG_aload_n dX3_exchange_0 rfl ?_
  refine mG_get fX3_15 dX3_exchange_1 e9 (Nat.le_of_ble_eq_true rfl) rfl ?_
  refine mG_iload_n dX3_exchange_4 rfl ?_
  refine mG_ialdA dX3_exchange_5 e11 (Nat.le_of_ble_eq_true rfl) (by decide) (by omega) ?_
  refine mG_istore_n dX3_exchange_6 (Nat.le_of_ble_eq_true rfl) rfl rfl ?_
  refine mG_aload_n dX3_exchange_7 rfl ?_
  refine mG_get fX3_15 dX3_exchange_8 e9 (Nat.le_of_ble_eq_true rfl) rfl ?_
  refine mG_iload_n dX3_exchange_11 rfl ?_
  refine mG_aload_n dX3_exchange_12 rfl ?_
  refine mG_get fX3_15 dX3_exchange_13 e9 (Nat.le_of_ble_eq_true rfl) rfl ?_
  refine mG_iload_n dX3_exchange_16 rfl ?_
  refine mG_ialdA dX3_exchange_17 e11 (Nat.le_of_ble_eq_true rfl) (by decide) (by omega) ?_
  refine mG_iastA dX3_exchange_18 e11 (Nat.le_of_ble_eq_true rfl) (by decide) (by omega) ?_
  refine mG_aload_n dX3_exchange_19 rfl ?_
  refine mG_get fX3_15 dX3_exchange_20 e9 (Nat.le_of_ble_eq_true rfl) rfl ?_
  refine mG_iload_n dX3_exchange_23 rfl ?_
  refine mG_iload_n dX3_exchange_24 rfl ?_
  refine mG_iastA dX3_exchange_25 rfl (Nat.le_of_ble_eq_true rfl) (by decide) (by omega) ?_
  exact mG_vret dX3_exchange_26 rfl (mX_of rfl (by rw [mU_same]))
/-- the log of deeds behind one more -/
def ds0 (dn : Nat) (ds : Nat → Nat) : Nat → Nat := if dn < 10 then ds else va_cpy ds ds 4 0 36
def dn0 (dn : Nat) : Nat := if dn < 10 then dn else 9
def ds1 (dn : Nat) (ds : Nat → Nat) (k x y wk : Nat) : Nat → Nat := mUp (mUp (mUp (mUp (ds0 dn ds) (dn0 dn * 4) k) (dn0 dn * 4 + 1) x) (dn0 dn * 4 + 2) y) (dn0 dn * 4 + 3) wk
set_option maxRecDepth 100000 in
set_option maxHeartbeats 4000000 in
theorem ok_X3_rememberA {E : mE} {h : mH} {dn wk k x y : Nat} {ds : Nat → Nat} (e9 : h 9 = oNow dn wk) (e13 : h 13 = mAr 40 ds) (hq : dn < 10) : mOk E 1 zX3_remember [.ref 9, vN k, vN x, vN y] h (mX none (mU (mU h 9 (oNow (dn0 dn + 1) wk)) 13 (mAr 40 (ds1 dn ds k x y wk)))) := by
  refine mOk_w (L := [some (.ref 9), some (vN k), some (vN x), some (vN y), none]) pn_X3 rfl (Nat.le_of_ble_eq_true rfl) rfl ?_
  refine mG_aload_n dX3_remember_0 rfl ?_
  refine mG_get fX3_33 dX3_remember_1 e9 (Nat.le_of_ble_eq_true rfl) rfl ?_
  refine mG_bipush (v := nI 10) dX3_remember_4 (by decide) ?_
  refine mG_icmp_ltN dX3_remember_6 (by omega) (by omega) (fun c6 => ?_) (fun c6 => absurd c6 (by omega))
  refine mG_aload_n dX3_remember_30 rfl ?_
  refine mG_get fX3_33 dX3_remember_31 e9 (Nat.le_of_ble_eq_true rfl) rfl ?_
  refine mG_iconst (v := nI 4) dX3_remember_34 (by decide) ?_
  refine mG_imulN dX3_remember_35 ?_
  refine mG_istore dX3_remember_36 (Nat.le_of_ble_eq_true rfl) rfl rfl ?_
  refine mG_aload_n dX3_remember_38 rfl ?_
  refine mG_get fX3_21 dX3_remember_39 e9 (Nat.le_of_ble_eq_true rfl) rfl ?_
  refine mG_iload dX3_remember_42 rfl ?_
  refine mG_iload_n dX3_remember_44 rfl ?_
  refine mG_iastA dX3_remember_45 e13 (Nat.le_of_ble_eq_true rfl) (by decide) (by omega) ?_
  refine mG_aload_n dX3_remember_46 rfl ?_
  refine mG_get fX3_21 dX3_remember_47 e9 (Nat.le_of_ble_eq_true rfl) rfl ?_
  refine mG_iload dX3_remember_50 rfl ?_
  refine mG_iconst (v := nI 1) dX3_remember_52 (by decide) ?_
  refine mG_iaddN dX3_remember_53 ?_
  refine mG_iload_n dX3_remember_54 rfl ?_
  refine mG_iastA dX3_remember_55 rfl (Nat.le_of_ble_eq_true rfl) (by decide) (by omega) ?_
  refine mG_aload_n dX3_remember_56 rfl ?_
  refine mG_get fX3_21 dX3_remember_57 e9 (Nat.le_of_ble_eq_true rfl) rfl ?_
  refine mG_iload dX3_remember_60 rfl ?_
  refine mG_iconst (v := nI 2) dX3_remember_62 (by decide) ?_
  refine mG_iaddN dX3_remember_63 ?_
  refine mG_iload_n dX3_remember_64 rfl ?_
  refine mG_iastA dX3_remember_65 rfl (Nat.le_of_ble_eq_true rfl) (by decide) (by omega) ?_
  refine mG_aload_n dX3_remember_66 rfl ?_
  refine mG_get fX3_21 dX3_remember_67 e9 (Nat.le_of_ble_eq_true rfl) rfl ?_
  refine mG_iload dX3_remember_70 rfl ?_
  refine mG_iconst (v := nI 3) dX3_remember_72 (by decide) ?_
  refine mG_iaddN dX3_remember_73 ?_
  refine mG_aload_n dX3_remember_74 rfl ?_
  refine mG_get fX3_37 dX3_remember_75 e9 (Nat.le_of_ble_eq_true rfl) rfl ?_
  refine mG_iastA dX3_remember_78 rfl (Nat.le_of_ble_eq_true rfl) (by decide) (by omega) ?_
  refine mG_aload_n dX3_remember_79 rfl ?_
  refine mG_dup dX3_remember_80 rfl ?_
  refine mG_get fX3_33 dX3_remember_81 e9 (Nat.le_of_ble_eq_true rfl) rfl ?_
  refine mG_iconst (v := nI 1) dX3_remember_84 (by decide) ?_
  refine mG_iaddN dX3_remember_85 ?_
  refine mG_putI pX3_33 dX3_remember_86 e9 (Nat.le_of_ble_eq_true rfl) (Nat.le_of_ble_eq_true rfl) ?_
  exact mG_vret dX3_remember_89 rfl (mX_of rfl (by
    funext j
    unfold ds1 ds0 dn0
    rw [if_pos hq, if_pos hq]
    unfold mU
    by_cases q9 : j = 9
    · subst q9; rfl
    · by_cases q13 : j = 13
      · subst q13; rfl
      · simp only [q9, q13, if_false]))
set_option maxRecDepth 100000 in
set_option maxHeartbeats 4000000 in
theorem ok_X3_rememberB {E : mE} {h : mH} {dn wk k x y : Nat} {ds : Nat → Nat} (e9 : h 9 = oNow dn wk) (e13 : h 13 = mAr 40 ds) (hq : dn = 10) : mOk E 1 zX3_remember [.ref 9, vN k, vN x, vN y] h (mX none (mU (mU h 9 (oNow (dn0 dn + 1) wk)) 13 (mAr 40 (ds1 dn ds k x y wk)))) := by
  refine mOk_w (L := [some (.ref 9), some (vN k), some (vN x), some (vN y), none]) pn_X3 rfl (Nat.le_of_ble_eq_true rfl) rfl ?_
  refine mG_aload_n dX3_remember_0 rfl ?_
  refine mG_get fX3_33 dX3_remember_1 e9 (Nat.le_of_ble_eq_true rfl) rfl ?_
  refine mG_bipush (v := nI 10) dX3_remember_4 (by decide) ?_
  refine mG_icmp_ltN dX3_remember_6 (by omega) (by omega) (fun c6 => absurd c6 (by omega)) (fun c6 => ?_)
  refine mG_aload_n dX3_remember_9 rfl ?_
  refine mG_get fX3_21 dX3_remember_10 e9 (Nat.le_of_ble_eq_true rfl) rfl ?_
  refine mG_iconst (v := nI 4) dX3_remember_13 (by decide) ?_
  refine mG_aload_n dX3_remember_14 rfl ?_
  refine mG_get fX3_21 dX3_remember_15 e9 (Nat.le_of_ble_eq_true rfl) rfl ?_
  refine mG_iconst (v := nI 0) dX3_remember_18 (by decide) ?_
  refine mG_bipush (v := nI 36) dX3_remember_19 (by decide) ?_
  refine mG_copyA dX3_remember_21 aX3_27 w_copy.1 w_copy.2.1 w_copy.2.2 e13 e13 (Nat.le_of_ble_eq_true rfl) (Nat.le_of_ble_eq_true rfl) (by decide) (by decide) (by decide) (by decide) (by decide) (Nat.le_of_ble_eq_true rfl) ?_
  refine mG_aload_n dX3_remember_24 rfl ?_
  refine mG_bipush (v := nI 9) dX3_remember_25 (by decide) ?_
  refine mG_putI pX3_33 dX3_remember_27 e9 (Nat.le_of_ble_eq_true rfl) (Nat.le_of_ble_eq_true rfl) ?_
  refine mG_aload_n dX3_remember_30 rfl ?_
  refine mG_get fX3_33 dX3_remember_31 rfl (Nat.le_of_ble_eq_true rfl) rfl ?_
  refine mG_iconst (v := nI 4) dX3_remember_34 (by decide) ?_
  refine mG_imulN dX3_remember_35 ?_
  refine mG_istore dX3_remember_36 (Nat.le_of_ble_eq_true rfl) rfl rfl ?_
  refine mG_aload_n dX3_remember_38 rfl ?_
  refine mG_get fX3_21 dX3_remember_39 rfl (Nat.le_of_ble_eq_true rfl) rfl ?_
  refine mG_iload dX3_remember_42 rfl ?_
  refine mG_iload_n dX3_remember_44 rfl ?_
  refine mG_iastA dX3_remember_45 rfl (Nat.le_of_ble_eq_true rfl) (by decide) (by omega) ?_
  refine mG_aload_n dX3_remember_46 rfl ?_
  refine mG_get fX3_21 dX3_remember_47 rfl (Nat.le_of_ble_eq_true rfl) rfl ?_
  refine mG_iload dX3_remember_50 rfl ?_
  refine mG_iconst (v := nI 1) dX3_remember_52 (by decide) ?_
  refine mG_iaddN dX3_remember_53 ?_
  refine mG_iload_n dX3_remember_54 rfl ?_
  refine mG_iastA dX3_remember_55 rfl (Nat.le_of_ble_eq_true rfl) (by decide) (by omega) ?_
  refine mG_aload_n dX3_remember_56 rfl ?_
  refine mG_get fX3_21 dX3_remember_57 rfl (Nat.le_of_ble_eq_true rfl) rfl ?_
  refine mG_iload dX3_remember_60 rfl ?_
  refine mG_iconst (v := nI 2) dX3_remember_62 (by decide) ?_
  refine mG_iaddN dX3_remember_63 ?_
  refine mG_iload_n dX3_remember_64 rfl ?_
  refine mG_iastA dX3_remember_65 rfl (Nat.le_of_ble_eq_true rfl) (by decide) (by omega) ?_
  refine mG_aload_n dX3_remember_66 rfl ?_
  refine mG_get fX3_21 dX3_remember_67 rfl (Nat.le_of_ble_eq_true rfl) rfl ?_
  refine mG_iload dX3_remember_70 rfl ?_
  refine mG_iconst (v := nI 3) dX3_remember_72 (by decide) ?_
  refine mG_iaddN dX3_remember_73 ?_
  refine mG_aload_n dX3_remember_74 rfl ?_
  refine mG_get fX3_37 dX3_remember_75 rfl (Nat.le_of_ble_eq_true rfl) rfl ?_
  refine mG_iastA dX3_remember_78 rfl (Nat.le_of_ble_eq_true rfl) (by decide) (by omega) ?_
  refine mG_aload_n dX3_remember_79 rfl ?_
  refine mG_dup dX3_remember_80 rfl ?_
  refine mG_get fX3_33 dX3_remember_81 rfl (Nat.le_of_ble_eq_true rfl) rfl ?_
  refine mG_iconst (v := nI 1) dX3_remember_84 (by decide) ?_
  refine mG_iaddN dX3_remember_85 ?_
  refine mG_putI pX3_33 dX3_remember_86 rfl (Nat.le_of_ble_eq_true rfl) (Nat.le_of_ble_eq_true rfl) ?_
  exact mG_vret dX3_remember_89 rfl (mX_of rfl (by
    funext j
    unfold ds1 ds0 dn0
    rw [if_neg (by omega), if_neg (by omega)]
    unfold mU
    by_cases q9 : j = 9
    · subst q9; rfl
    · by_cases q13 : j = 13
      · subst q13; rfl
      · simp only [q9, q13, if_false]))
theorem ok_X3_remember {E : mE} {h : mH} {dn wk k x y : Nat} {ds : Nat → Nat} (e9 : h 9 = oNow dn wk) (e13 : h 13 = mAr 40 ds) (hd : dn ≤ 10) : mOk E 1 zX3_remember [.ref 9, vN k, vN x, vN y] h (mX none (mU (mU h 9 (oNow (dn0 dn + 1) wk)) 13 (mAr 40 (ds1 dn ds k x y wk)))) := by
  rcases Nat.lt_or_ge dn 10 with q | q
  · exact ok_X3_rememberA e9 e13 q
  · exact ok_X3_rememberB e9 e13 (by omega)
theorem dn0_lt (dn : Nat) : dn0 dn < 10 := by
  unfold dn0
  split <;> omega
set_option maxRecDepth 100000 in
set_option maxHeartbeats 4000000 in
theorem ok_X3_turnCube {E : mE} {h : mH} {dn wk c s : Nat} {fr ds : Nat → Nat} (e9 : h 9 = oNow dn wk) (e12 : h 12 = mAr 4 fr) (e13 : h 13 = mAr 40 ds) (hd : dn ≤ 10) (hw : wk ≤ 9999) (hc : c < 4) (hf : fr c < 6) (hs : s < 6) : mOk E 2 zX3_turnCube [.ref 9, vN c, vN s] h (mX none (mU (mU (mU h 9 (oNow (dn0 dn + 1) (min (wk + tW (fr c) s) 9999))) 12 (mAr 4 (mUp fr c s))) 13 (mAr 40 (ds1 dn ds 0 c (fr c) wk)))) := by
  have hd0 := dn0_lt dn
  have htw : tW (fr c) s ≤ 2 := by
    unfold tW
    split
    · omega
    · split <;> omega
  refine mOk_w (L := [some (.ref 9), some (vN c), some (vN s)]) pn_X3 rfl (Nat.le_of_ble_eq_true rfl) rfl ?_
  refine mG_aload_n dX3_turnCube_0 rfl ?_
  refine mG_iconst (v := nI 0) dX3_turnCube_1 (by decide) ?_
  refine mG_iload_n dX3_turnCube_2 rfl ?_
  refine mG_aload_n dX3_turnCube_3 rfl ?_
  refine mG_get fX3_18 dX3_turnCube_4 e9 (Nat.le_of_ble_eq_true rfl) rfl ?_
  refine mG_iload_n dX3_turnCube_7 rfl ?_
  refine mG_ialdA dX3_turnCube_8 e12 (Nat.le_of_ble_eq_true rfl) (by decide) (by omega) ?_
  refine mG_cw3 vX3_40 dX3_turnCube_9 (mLe_of rfl) (Nat.le_of_ble_eq_true rfl) e9 (Nat.le_of_ble_eq_true rfl) (ok_X3_remember e9 e13 hd) ?_
  refine mG_aload_n dX3_turnCube_12 rfl ?_
  refine mG_aload_n dX3_turnCube_13 rfl ?_
  refine mG_get fX3_18 dX3_turnCube_14 rfl (Nat.le_of_ble_eq_true rfl) rfl ?_
  refine mG_iload_n dX3_turnCube_17 rfl ?_
  refine mG_ialdA dX3_turnCube_18 e12 (Nat.le_of_ble_eq_true rfl) (by decide) (by omega) ?_
  refine mG_iload_n dX3_turnCube_19 rfl ?_
  refine mG_cs2 sX3_44 dX3_turnCube_20 (mLe_of rfl) (Nat.le_of_ble_eq_true rfl) (ok_X3_turnWork hf hs) ?_
  refine mG_cw1 vX3_48 dX3_turnCube_23 (mLe_of rfl) (Nat.le_of_ble_eq_true rfl) rfl (Nat.le_of_ble_eq_true rfl) (ok_X3_addWork rfl hw htw) ?_
  refine mG_aload_n dX3_turnCube_26 rfl ?_
  refine mG_get fX3_18 dX3_turnCube_27 rfl (Nat.le_of_ble_eq_true rfl) rfl ?_
  refine mG_iload_n dX3_turnCube_30 rfl ?_
  refine mG_iload_n dX3_turnCube_31 rfl ?_
  refine mG_iastA dX3_turnCube_32 e12 (Nat.le_of_ble_eq_true rfl) (by decide) (by omega) ?_
  exact mG_vret dX3_turnCube_33 rfl (mX_of rfl (by
    funext j
    unfold mU
    by_cases q9 : j = 9
    · subst q9; rfl
    · by_cases q13 : j = 13
      · subst q13; rfl
      · by_cases q12 : j = 12
        · subst q12; rfl
        · simp only [q9, q12, q13, if_false]))
set_option maxRecDepth 100000 in
set_option maxHeartbeats 4000000 in
theorem ok_X3_changePlaces {E : mE} {h : mH} {dn wk p q : Nat} {ca ds : Nat → Nat} (e9 : h 9 = oNow dn wk) (e11 : h 11 = mAr 4 ca) (e13 : h 13 = mAr 40 ds) (hd : dn ≤ 10) (hw : wk ≤ 9999) (hp : p < 4) (hq : q < 4) : mOk E 2 zX3_changePlaces [.ref 9, vN p, vN q] h (mX none (mU (mU (mU h 9 (oNow (dn0 dn + 1) (min (wk + 1) 9999))) 11 (mAr 4 (mUp (mUp ca p (ca q)) q (ca p)))) 13 (mAr 40 (ds1 dn ds 1 p q wk)))) := by
  refine mOk_w (L := [some (.ref 9), some (vN p), some (vN q)]) pn_X3 rfl (Nat.le_of_ble_eq_true rfl) rfl ?_
  refine mG_aload_n dX3_changePlaces_0 rfl ?_
  refine mG_iconst (v := nI 1) dX3_changePlaces_1 (by decide) ?_
  refine mG_iload_n dX3_changePlaces_2 rfl ?_
  refine mG_iload_n dX3_changePlaces_3 rfl ?_
  refine mG_cw3 vX3_40 dX3_changePlaces_4 (mLe_of rfl) (Nat.le_of_ble_eq_true rfl) e9 (Nat.le_of_ble_eq_true rfl) (ok_X3_remember e9 e13 hd) ?_
  refine mG_aload_n dX3_changePlaces_7 rfl ?_
  refine mG_iconst (v := nI 1) dX3_changePlaces_8 (by decide) ?_
  refine mG_cw1 vX3_48 dX3_changePlaces_9 (mLe_of rfl) (Nat.le_of_ble_eq_true rfl) rfl (Nat.le_of_ble_eq_true rfl) (ok_X3_addWork rfl hw (by decide)) ?_
  refine mG_aload_n dX3_changePlaces_12 rfl ?_
  refine mG_iload_n dX3_changePlaces_13 rfl ?_
  refine mG_iload_n dX3_changePlaces_14 rfl ?_
  refine mG_cw2 vX3_52 dX3_changePlaces_15 (mLe_of rfl) (Nat.le_of_ble_eq_true rfl) rfl (Nat.le_of_ble_eq_true rfl) (ok_X3_exchange rfl e11 hp hq) ?_
  exact mG_vret dX3_changePlaces_18 rfl (mX_of rfl (by
    funext j
    unfold mU
    by_cases q9 : j = 9
    · subst q9; rfl
    · by_cases q13 : j = 13
      · subst q13; rfl
      · by_cases q11 : j = 11
        · subst q11; rfl
        · simp only [q9, q11, q13, if_false]))
set_option maxRecDepth 100000 in
set_option maxHeartbeats 4000000 in
theorem ok_X3_pasteFigure {E : mE} {h : mH} {dn wk i x : Nat} {nf ds : Nat → Nat} (e9 : h 9 = oNow dn wk) (e10 : h 10 = mAr 24 nf) (e13 : h 13 = mAr 40 ds) (hd : dn ≤ 10) (hi : i < 24) : mOk E 2 zX3_pasteFigure [.ref 9, vN i, vN x] h (mX none (mU (mU (mU h 9 (oNow (dn0 dn + 1) wk)) 10 (mAr 24 (mUp nf i x))) 13 (mAr 40 (ds1 dn ds 2 i (nf i) wk)))) := by
  refine mOk_w (L := [some (.ref 9), some (vN i), some (vN x)]) pn_X3 rfl (Nat.le_of_ble_eq_true rfl) rfl ?_
  refine mG_aload_n dX3_pasteFigure_0 rfl ?_
  refine mG_iconst (v := nI 2) dX3_pasteFigure_1 (by decide) ?_
  refine mG_iload_n dX3_pasteFigure_2 rfl ?_
  refine mG_aload_n dX3_pasteFigure_3 rfl ?_
  refine mG_get fX3_9 dX3_pasteFigure_4 e9 (Nat.le_of_ble_eq_true rfl) rfl ?_
  refine mG_iload_n dX3_pasteFigure_7 rfl ?_
  refine mG_ialdA dX3_pasteFigure_8 e10 (Nat.le_of_ble_eq_true rfl) (by decide) (by omega) ?_
  refine mG_cw3 vX3_40 dX3_pasteFigure_9 (mLe_of rfl) (Nat.le_of_ble_eq_true rfl) e9 (Nat.le_of_ble_eq_true rfl) (ok_X3_remember e9 e13 hd) ?_
  refine mG_aload_n dX3_pasteFigure_12 rfl ?_
  refine mG_get fX3_9 dX3_pasteFigure_13 rfl (Nat.le_of_ble_eq_true rfl) rfl ?_
  refine mG_iload_n dX3_pasteFigure_16 rfl ?_
  refine mG_iload_n dX3_pasteFigure_17 rfl ?_
  refine mG_iastA dX3_pasteFigure_18 e10 (Nat.le_of_ble_eq_true rfl) (by decide) (by omega) ?_
  exact mG_vret dX3_pasteFigure_19 rfl (mX_of rfl (by rw [mU_comm _ (by decide)]))
set_option maxRecDepth 100000 in
set_option maxHeartbeats 4000000 in
theorem lp_X3_placeOf {E : mE} {h : mH} {dn wk c p : Nat} {ca : Nat → Nat} (e9 : h 9 = oNow dn wk) (e11 : h 11 = mAr 4 ca) (hc : c < 4) (hp : p < 4) (hpc : ca p = c) (hu : ∀ j, j < p → ca j ≠ c) (hca : ∀ j, j < 4 → ca j < 4) : ∀ (k i : Nat), i + k = 4 → i ≤ p → mG E (mR 1, zX3_placeOf) (mKq E (mR 1) mN (mX (some (vN p)) h)) 2 [some (.ref 9), some (vN c), some (vN i)] [] (mN, 0, 0) h := by
  intro k
  induction k with
  | zero =>
    intro i hk hi
    refine mG_iload_n dX3_placeOf_2 rfl ?_
    refine mG_iconst (v := nI 4) dX3_placeOf_3 (by decide) ?_
    exact absurd hi (by omega)
  | succ k ih =>
    intro i hk hi
    refine mG_iload_n dX3_placeOf_2 rfl ?_
    refine mG_iconst (v := nI 4) dX3_placeOf_3 (by decide) ?_
    refine mG_icmp_geN dX3_placeOf_4 (by omega) (by omega) (fun c4 => absurd c4 (by omega)) (fun c4 => ?_)
    refine mG_aload_n dX3_placeOf_7 rfl ?_
    refine mG_get fX3_15 dX3_placeOf_8 e9 (Nat.le_of_ble_eq_true rfl) rfl ?_
    refine mG_iload_n dX3_placeOf_11 rfl ?_
    refine mG_ialdA dX3_placeOf_12 e11 (Nat.le_of_ble_eq_true rfl) (by decide) (by omega) ?_
    refine mG_iload_n dX3_placeOf_13 rfl ?_
    have hci := hca i (by omega)
    refine mG_icmp_neN dX3_placeOf_14 (by omega) (by omega) (fun c14 => ?_) (fun c14 => ?_)
    · have hne : i ≠ p := fun z => c14 (by rw [z]; exact hpc)
      refine mG_iincN dX3_placeOf_19 rfl (Nat.le_of_ble_eq_true rfl) rfl rfl ?_
      refine mG_goto dX3_placeOf_22 ?_
      exact ih (i + 1) (by omega) (by omega)
    · refine mG_iload_n dX3_placeOf_17 rfl ?_
      exact mG_iret dX3_placeOf_18 rfl (mX_of (by
        have : i = p := by
          rcases Nat.lt_or_ge i p with z | z
          · exact absurd c14 (hu i z)
          · omega
        rw [this]) rfl)
set_option maxRecDepth 100000 in
set_option maxHeartbeats 4000000 in
theorem ok_X3_placeOf {E : mE} {h : mH} {dn wk c p : Nat} {ca : Nat → Nat} (e9 : h 9 = oNow dn wk) (e11 : h 11 = mAr 4 ca) (hc : c < 4) (hp : p < 4) (hpc : ca p = c) (hu : ∀ j, j < p → ca j ≠ c) (hca : ∀ j, j < 4 → ca j < 4) : mOk E 1 zX3_placeOf [.ref 9, vN c] h (mX (some (vN p)) h) := by
  refine mOk_w (L := [some (.ref 9), some (vN c), none]) pn_X3 rfl (Nat.le_of_ble_eq_true rfl) rfl ?_
  refine mG_iconst (v := nI 0) dX3_placeOf_0 (by decide) ?_
  refine mG_istore_n dX3_placeOf_1 (Nat.le_of_ble_eq_true rfl) rfl rfl ?_
  exact lp_X3_placeOf e9 e11 hc hp hpc hu hca 4 0 rfl (Nat.zero_le _)
