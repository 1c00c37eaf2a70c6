/-- FIGURES of a CUBE as bits -/
def fgs (nf : Nat → Nat) (c : Nat) : Nat → Nat
  | 0 => 0
  | i + 1 => fgs nf c i ||| 1 <<< nf (c * 6 + i)
theorem sb_cpy0N {f g : Nat → Nat} {n j : Nat} (hj : j < n) : va_cpy f g 0 0 n j = f j := by
  rw [pk_cpy_in (Nat.zero_le _) (by omega)]
  simp
set_option maxRecDepth 100000 in
set_option maxHeartbeats 4000000 in
theorem lp_X3_figuresOf {E : mE} {h : mH} {dn wk c : Nat} {nf : Nat → Nat} (e9 : h 9 = oNow dn wk) (e10 : h 10 = mAr 24 nf) (hc : c < 4) (hf : ∀ j, j < 6 → nf (c * 6 + j) < 10) : ∀ (k i : Nat), i + k = 6 → mG E (mR 1, zX3_figuresOf) (mKq E (mR 1) mN (mX (some (vN (fgs nf c 6))) h)) 4 [some (.ref 9), some (vN c), some (vN (fgs nf c i)), some (vN i)] [] (mN, 0, 0) h := by
  intro k
  induction k with
  | zero =>
    intro i hk
    refine mG_iload_n dX3_figuresOf_4 rfl ?_
    refine mG_bipush (v := nI 6) dX3_figuresOf_5 (by decide) ?_
    refine mG_icmp_geN dX3_figuresOf_7 (by omega) (by omega) (fun c7 => ?_) (fun c7 => absurd c7 (by omega))
    refine mG_iload_n dX3_figuresOf_32 rfl ?_
    exact mG_iret dX3_figuresOf_33 rfl (mX_of (by rw [show i = 6 by omega]) rfl)
  | succ k ih =>
    intro i hk
    refine mG_iload_n dX3_figuresOf_4 rfl ?_
    refine mG_bipush (v := nI 6) dX3_figuresOf_5 (by decide) ?_
    refine mG_icmp_geN dX3_figuresOf_7 (by omega) (by omega) (fun c7 => absurd c7 (by omega)) (fun c7 => ?_)
    refine mG_iload_n dX3_figuresOf_10 rfl ?_
    refine mG_iconst (v := nI 1) dX3_figuresOf_11 (by decide) ?_
    refine mG_aload_n dX3_figuresOf_12 rfl ?_
    refine mG_get fX3_9 dX3_figuresOf_13 e9 (Nat.le_of_ble_eq_true rfl) rfl ?_
    refine mG_iload_n dX3_figuresOf_16 rfl ?_
    refine mG_bipush (v := nI 6) dX3_figuresOf_17 (by decide) ?_
    refine mG_imulN dX3_figuresOf_19 ?_
    refine mG_iload_n dX3_figuresOf_20 rfl ?_
    refine mG_iaddN dX3_figuresOf_21 ?_
    refine mG_ialdA dX3_figuresOf_22 e10 (Nat.le_of_ble_eq_true rfl) (by decide) (by omega) ?_
    refine mG_ishlN dX3_figuresOf_23 (Nat.lt_trans (hf i (by omega)) (by decide)) (shl1_lt2 (Nat.lt_trans (hf i (by omega)) (by decide))) ?_
    refine mG_iorN dX3_figuresOf_24 ?_
    refine mG_istore_n dX3_figuresOf_25 (Nat.le_of_ble_eq_true rfl) rfl rfl ?_
    refine mG_iincN dX3_figuresOf_26 rfl (Nat.le_of_ble_eq_true rfl) rfl rfl ?_
    refine mG_goto dX3_figuresOf_29 ?_
    exact ih (i + 1) (by omega)
set_option maxRecDepth 100000 in
set_option maxHeartbeats 4000000 in
theorem ok_X3_figuresOf {E : mE} {h : mH} {dn wk c : Nat} {nf : Nat → Nat} (e9 : h 9 = oNow dn wk) (e10 : h 10 = mAr 24 nf) (hc : c < 4) (hf : ∀ j, j < 6 → nf (c * 6 + j) < 10) : mOk E 1 zX3_figuresOf [.ref 9, vN c] h (mX (some (vN (fgs nf c 6))) h) := by
  refine mOk_w (L := [some (.ref 9), some (vN c), none, none]) pn_X3 rfl (Nat.le_of_ble_eq_true rfl) rfl ?_
  refine mG_iconst (v := nI 0) dX3_figuresOf_0 (by decide) ?_
  refine mG_istore_n dX3_figuresOf_1 (Nat.le_of_ble_eq_true rfl) rfl rfl ?_
  refine mG_iconst (v := nI 0) dX3_figuresOf_2 (by decide) ?_
  refine mG_istore_n dX3_figuresOf_3 (Nat.le_of_ble_eq_true rfl) rfl rfl ?_
  exact lp_X3_figuresOf e9 e10 hc hf 6 0 rfl
set_option maxRecDepth 100000 in
set_option maxHeartbeats 4000000 in
theorem ok_X3_takeBack0 {E : mE} {h : mH} {dn wk : Nat} {nf ca fr ds : Nat → Nat} (e9 : h 9 = oNow dn wk) (e10 : h 10 = mAr 24 nf) (e11 : h 11 = mAr 4 ca) (e12 : h 12 = mAr 4 fr) (e13 : h 13 = mAr 40 ds) (h0 : 0 < dn) (hd : dn ≤ 10) (hk : ds ((dn - 1) * 4) = 0) (hx : ds ((dn - 1) * 4 + 1) < 4) : mOk E 2 zX3_takeBack [.ref 9] h (mX none (mU (mU h 9 (oNow (dn - 1) (ds ((dn - 1) * 4 + 3)))) 12 (mAr 4 (mUp fr (ds ((dn - 1) * 4 + 1)) (ds ((dn - 1) * 4 + 2)))))) := by
  refine mOk_w (L := [some (.ref 9), none, none, none]) pn_X3 rfl (Nat.le_of_ble_eq_true rfl) rfl ?_
  refine mG_aload_n dX3_takeBack_0 rfl ?_
  refine mG_get fX3_33 dX3_takeBack_1 e9 (Nat.le_of_ble_eq_true rfl) rfl ?_
  refine mG_if_gtN dX3_takeBack_4 (by omega) (fun c4 => ?_) (fun c4 => absurd c4 (by omega))
  refine mG_aload_n dX3_takeBack_8 rfl ?_
  refine mG_dup dX3_takeBack_9 rfl ?_
  refine mG_get fX3_33 dX3_takeBack_10 e9 (Nat.le_of_ble_eq_true rfl) rfl ?_
  refine mG_iconst (v := nI 1) dX3_takeBack_13 (by decide) ?_
  refine mG_isubN dX3_takeBack_14 (by omega) ?_
  refine mG_putI pX3_33 dX3_takeBack_15 e9 (Nat.le_of_ble_eq_true rfl) (Nat.le_of_ble_eq_true rfl) ?_
  refine mG_aload_n dX3_takeBack_18 rfl ?_
  refine mG_get fX3_33 dX3_takeBack_19 rfl (Nat.le_of_ble_eq_true rfl) rfl ?_
  refine mG_iconst (v := nI 4) dX3_takeBack_22 (by decide) ?_
  refine mG_imulN dX3_takeBack_23 ?_
  refine mG_istore_n dX3_takeBack_24 (Nat.le_of_ble_eq_true rfl) rfl rfl ?_
  refine mG_aload_n dX3_takeBack_25 rfl ?_
  refine mG_get fX3_21 dX3_takeBack_26 rfl (Nat.le_of_ble_eq_true rfl) rfl ?_
  refine mG_iload_n dX3_takeBack_29 rfl ?_
  refine mG_iconst (v := nI 1) dX3_takeBack_30 (by decide) ?_
  refine mG_iaddN dX3_takeBack_31 ?_
  refine mG_ialdA dX3_takeBack_32 e13 (Nat.le_of_ble_eq_true rfl) (by decide) (by omega) ?_
  refine mG_istore_n dX3_takeBack_33 (Nat.le_of_ble_eq_true rfl) rfl rfl ?_
  refine mG_aload_n dX3_takeBack_34 rfl ?_
  refine mG_get fX3_21 dX3_takeBack_35 rfl (Nat.le_of_ble_eq_true rfl) rfl ?_
  refine mG_iload_n dX3_takeBack_38 rfl ?_
  refine mG_iconst (v := nI 2) dX3_takeBack_39 (by decide) ?_
  refine mG_iaddN dX3_takeBack_40 ?_
  refine mG_ialdA dX3_takeBack_41 e13 (Nat.le_of_ble_eq_true rfl) (by decide) (by omega) ?_
  refine mG_istore_n dX3_takeBack_42 (Nat.le_of_ble_eq_true rfl) rfl rfl ?_
  refine mG_aload_n dX3_takeBack_43 rfl ?_
  refine mG_get fX3_21 dX3_takeBack_44 rfl (Nat.le_of_ble_eq_true rfl) rfl ?_
  refine mG_iload_n dX3_takeBack_47 rfl ?_
  refine mG_ialdA dX3_takeBack_48 e13 (Nat.le_of_ble_eq_true rfl) (by decide) (by omega) ?_
  refine mG_topN hk ?_
  refine mG_lookup (off := 27) (tgt := 76) dX3_takeBack_49 (by decide) (by decide) (by decide) ?_
  refine mG_aload_n dX3_takeBack_76 rfl ?_
  refine mG_get fX3_18 dX3_takeBack_77 rfl (Nat.le_of_ble_eq_true rfl) rfl ?_
  refine mG_iload_n dX3_takeBack_80 rfl ?_
  refine mG_iload_n dX3_takeBack_81 rfl ?_
  refine mG_iastA dX3_takeBack_82 e12 (Nat.le_of_ble_eq_true rfl) (by decide) (by omega) ?_
  refine mG_goto dX3_takeBack_83 ?_
  refine mG_aload_n dX3_takeBack_102 rfl ?_
  refine mG_aload_n dX3_takeBack_103 rfl ?_
  refine mG_get fX3_21 dX3_takeBack_104 rfl (Nat.le_of_ble_eq_true rfl) rfl ?_
  refine mG_iload_n dX3_takeBack_107 rfl ?_
  refine mG_iconst (v := nI 3) dX3_takeBack_108 (by decide) ?_
  refine mG_iaddN dX3_takeBack_109 ?_
  refine mG_ialdA dX3_takeBack_110 e13 (Nat.le_of_ble_eq_true rfl) (by decide) (by omega) ?_
  refine mG_putI pX3_37 dX3_takeBack_111 rfl (Nat.le_of_ble_eq_true rfl) (Nat.le_of_ble_eq_true rfl) ?_
  exact mG_vret dX3_takeBack_114 rfl (mX_of rfl (by
    funext j
    unfold mU
    by_cases q9 : j = 9
    · subst q9; rfl
    · by_cases qx : j = 12
      · subst qx; rfl
      · simp only [q9, qx, if_false]))
set_option maxRecDepth 100000 in
set_option maxHeartbeats 4000000 in
theorem ok_X3_takeBack1 {E : mE} {h : mH} {dn wk : Nat} {nf ca fr ds : Nat → Nat} (e9 : h 9 = oNow dn wk) (e10 : h 10 = mAr 24 nf) (e11 : h 11 = mAr 4 ca) (e12 : h 12 = mAr 4 fr) (e13 : h 13 = mAr 40 ds) (h0 : 0 < dn) (hd : dn ≤ 10) (hk : ds ((dn - 1) * 4) = 1) (hx : ds ((dn - 1) * 4 + 1) < 4) (hy : ds ((dn - 1) * 4 + 2) < 4) : mOk E 2 zX3_takeBack [.ref 9] h (mX none (mU (mU h 9 (oNow (dn - 1) (ds ((dn - 1) * 4 + 3)))) 11 (mAr 4 (mUp (mUp ca (ds ((dn - 1) * 4 + 1)) (ca (ds ((dn - 1) * 4 + 2)))) (ds ((dn - 1) * 4 + 2)) (ca (ds ((dn - 1) * 4 + 1))))))) := by
  refine mOk_w (L := [some (.ref 9), none, none, none]) pn_X3 rfl (Nat.le_of_ble_eq_true rfl) rfl ?_
  refine mG_aload_n dX3_takeBack_0 rfl ?_
  refine mG_get fX3_33 dX3_takeBack_1 e9 (Nat.le_of_ble_eq_true rfl) rfl ?_
  refine mG_if_gtN dX3_takeBack_4 (by omega) (fun c4 => ?_) (fun c4 => absurd c4 (by omega))
  refine mG_aload_n dX3_takeBack_8 rfl ?_
  refine mG_dup dX3_takeBack_9 rfl ?_
  refine mG_get fX3_33 dX3_takeBack_10 e9 (Nat.le_of_ble_eq_true rfl) rfl ?_
  refine mG_iconst (v := nI 1) dX3_takeBack_13 (by decide) ?_
  refine mG_isubN dX3_takeBack_14 (by omega) ?_
  refine mG_putI pX3_33 dX3_takeBack_15 e9 (Nat.le_of_ble_eq_true rfl) (Nat.le_of_ble_eq_true rfl) ?_
  refine mG_aload_n dX3_takeBack_18 rfl ?_
  refine mG_get fX3_33 dX3_takeBack_19 rfl (Nat.le_of_ble_eq_true rfl) rfl ?_
  refine mG_iconst (v := nI 4) dX3_takeBack_22 (by decide) ?_
  refine mG_imulN dX3_takeBack_23 ?_
  refine mG_istore_n dX3_takeBack_24 (Nat.le_of_ble_eq_true rfl) rfl rfl ?_
  refine mG_aload_n dX3_takeBack_25 rfl ?_
  refine mG_get fX3_21 dX3_takeBack_26 rfl (Nat.le_of_ble_eq_true rfl) rfl ?_
  refine mG_iload_n dX3_takeBack_29 rfl ?_
  refine mG_iconst (v := nI 1) dX3_takeBack_30 (by decide) ?_
  refine mG_iaddN dX3_takeBack_31 ?_
  refine mG_ialdA dX3_takeBack_32 e13 (Nat.le_of_ble_eq_true rfl) (by decide) (by omega) ?_
  refine mG_istore_n dX3_takeBack_33 (Nat.le_of_ble_eq_true rfl) rfl rfl ?_
  refine mG_aload_n dX3_takeBack_34 rfl ?_
  refine mG_get fX3_21 dX3_takeBack_35 rfl (Nat.le_of_ble_eq_true rfl) rfl ?_
  refine mG_iload_n dX3_takeBack_38 rfl ?_
  refine mG_iconst (v := nI 2) dX3_takeBack_39 (by decide) ?_
  refine mG_iaddN dX3_takeBack_40 ?_
  refine mG_ialdA dX3_takeBack_41 e13 (Nat.le_of_ble_eq_true rfl) (by decide) (by omega) ?_
  refine mG_istore_n dX3_takeBack_42 (Nat.le_of_ble_eq_true rfl) rfl rfl ?_
  refine mG_aload_n dX3_takeBack_43 rfl ?_
  refine mG_get fX3_21 dX3_takeBack_44 rfl (Nat.le_of_ble_eq_true rfl) rfl ?_
  refine mG_iload_n dX3_takeBack_47 rfl ?_
  refine mG_ialdA dX3_takeBack_48 e13 (Nat.le_of_ble_eq_true rfl) (by decide) (by omega) ?_
  refine mG_topN hk ?_
  refine mG_lookup (off := 37) (tgt := 86) dX3_takeBack_49 (by decide) (by decide) (by decide) ?_
  refine mG_aload_n dX3_takeBack_86 rfl ?_
  refine mG_iload_n dX3_takeBack_87 rfl ?_
  refine mG_iload_n dX3_takeBack_88 rfl ?_
  refine mG_cw2 vX3_52 dX3_takeBack_89 (mLe_of rfl) (Nat.le_of_ble_eq_true rfl) rfl (Nat.le_of_ble_eq_true rfl) (ok_X3_exchange rfl e11 hx hy) ?_
  refine mG_goto dX3_takeBack_92 ?_
  refine mG_aload_n dX3_takeBack_102 rfl ?_
  refine mG_aload_n dX3_takeBack_103 rfl ?_
  refine mG_get fX3_21 dX3_takeBack_104 rfl (Nat.le_of_ble_eq_true rfl) rfl ?_
  refine mG_iload_n dX3_takeBack_107 rfl ?_
  refine mG_iconst (v := nI 3) dX3_takeBack_108 (by decide) ?_
  refine mG_iaddN dX3_takeBack_109 ?_
  refine mG_ialdA dX3_takeBack_110 e13 (Nat.le_of_ble_eq_true rfl) (by decide) (by omega) ?_
  refine mG_putI pX3_37 dX3_takeBack_111 rfl (Nat.le_of_ble_eq_true rfl) (Nat.le_of_ble_eq_true rfl) ?_
  exact mG_vret dX3_takeBack_114 rfl (mX_of rfl (by
    funext j
    unfold mU
    by_cases q9 : j = 9
    · subst q9; rfl
    · by_cases qx : j = 11
      · subst qx; rfl
      · simp only [q9, qx, if_false]))
set_option maxRecDepth 100000 in
set_option maxHeartbeats 4000000 in
theorem ok_X3_takeBack2 {E : mE} {h : mH} {dn wk : Nat} {nf ca fr ds : Nat → Nat} (e9 : h 9 = oNow dn wk) (e10 : h 10 = mAr 24 nf) (e11 : h 11 = mAr 4 ca) (e12 : h 12 = mAr 4 fr) (e13 : h 13 = mAr 40 ds) (h0 : 0 < dn) (hd : dn ≤ 10) (hk : ds ((dn - 1) * 4) = 2) (hx : ds ((dn - 1) * 4 + 1) < 24) : mOk E 2 zX3_takeBack [.ref 9] h (mX none (mU (mU h 9 (oNow (dn - 1) (ds ((dn - 1) * 4 + 3)))) 10 (mAr 24 (mUp nf (ds ((dn - 1) * 4 + 1)) (ds ((dn - 1) * 4 + 2)))))) := by
  refine mOk_w (L := [some (.ref 9), none, none, none]) pn_X3 rfl (Nat.le_of_ble_eq_true rfl) rfl ?_
  refine mG_aload_n dX3_takeBack_0 rfl ?_
  refine mG_get fX3_33 dX3_takeBack_1 e9 (Nat.le_of_ble_eq_true rfl) rfl ?_
  refine mG_if_gtN dX3_takeBack_4 (by omega) (fun c4 => ?_) (fun c4 => absurd c4 (by omega))
  refine mG_aload_n dX3_takeBack_8 rfl ?_
  refine mG_dup dX3_takeBack_9 rfl ?_
  refine mG_get fX3_33 dX3_takeBack_10 e9 (Nat.le_of_ble_eq_true rfl) rfl ?_
  refine mG_iconst (v := nI 1) dX3_takeBack_13 (by decide) ?_
  refine mG_isubN dX3_takeBack_14 (by omega) ?_
  refine mG_putI pX3_33 dX3_takeBack_15 e9 (Nat.le_of_ble_eq_true rfl) (Nat.le_of_ble_eq_true rfl) ?_
  refine mG_aload_n dX3_takeBack_18 rfl ?_
  refine mG_get fX3_33 dX3_takeBack_19 rfl (Nat.le_of_ble_eq_true rfl) rfl ?_
  refine mG_iconst (v := nI 4) dX3_takeBack_22 (by decide) ?_
  refine mG_imulN dX3_takeBack_23 ?_
  refine mG_istore_n dX3_takeBack_24 (Nat.le_of_ble_eq_true rfl) rfl rfl ?_
  refine mG_aload_n dX3_takeBack_25 rfl ?_
  refine mG_get fX3_21 dX3_takeBack_26 rfl (Nat.le_of_ble_eq_true rfl) rfl ?_
  refine mG_iload_n dX3_takeBack_29 rfl ?_
  refine mG_iconst (v := nI 1) dX3_takeBack_30 (by decide) ?_
  refine mG_iaddN dX3_takeBack_31 ?_
  refine mG_ialdA dX3_takeBack_32 e13 (Nat.le_of_ble_eq_true rfl) (by decide) (by omega) ?_
  refine mG_istore_n dX3_takeBack_33 (Nat.le_of_ble_eq_true rfl) rfl rfl ?_
  refine mG_aload_n dX3_takeBack_34 rfl ?_
  refine mG_get fX3_21 dX3_takeBack_35 rfl (Nat.le_of_ble_eq_true rfl) rfl ?_
  refine mG_iload_n dX3_takeBack_38 rfl ?_
  refine mG_iconst (v := nI 2) dX3_takeBack_39 (by decide) ?_
  refine mG_iaddN dX3_takeBack_40 ?_
  refine mG_ialdA dX3_takeBack_41 e13 (Nat.le_of_ble_eq_true rfl) (by decide) (by omega) ?_
  refine mG_istore_n dX3_takeBack_42 (Nat.le_of_ble_eq_true rfl) rfl rfl ?_
  refine mG_aload_n dX3_takeBack_43 rfl ?_
  refine mG_get fX3_21 dX3_takeBack_44 rfl (Nat.le_of_ble_eq_true rfl) rfl ?_
  refine mG_iload_n dX3_takeBack_47 rfl ?_
  refine mG_ialdA dX3_takeBack_48 e13 (Nat.le_of_ble_eq_true rfl) (by decide) (by omega) ?_
  refine mG_topN hk ?_
  refine mG_lookup (off := 46) (tgt := 95) dX3_takeBack_49 (by decide) (by decide) (by decide) ?_
  refine mG_aload_n dX3_takeBack_95 rfl ?_
  refine mG_get fX3_9 dX3_takeBack_96 rfl (Nat.le_of_ble_eq_true rfl) rfl ?_
  refine mG_iload_n dX3_takeBack_99 rfl ?_
  refine mG_iload_n dX3_takeBack_100 rfl ?_
  refine mG_iastA dX3_takeBack_101 e10 (Nat.le_of_ble_eq_true rfl) (by decide) (by omega) ?_
  refine mG_aload_n dX3_takeBack_102 rfl ?_
  refine mG_aload_n dX3_takeBack_103 rfl ?_
  refine mG_get fX3_21 dX3_takeBack_104 rfl (Nat.le_of_ble_eq_true rfl) rfl ?_
  refine mG_iload_n dX3_takeBack_107 rfl ?_
  refine mG_iconst (v := nI 3) dX3_takeBack_108 (by decide) ?_
  refine mG_iaddN dX3_takeBack_109 ?_
  refine mG_ialdA dX3_takeBack_110 e13 (Nat.le_of_ble_eq_true rfl) (by decide) (by omega) ?_
  refine mG_putI pX3_37 dX3_takeBack_111 rfl (Nat.le_of_ble_eq_true rfl) (Nat.le_of_ble_eq_true rfl) ?_
  exact mG_vret dX3_takeBack_114 rfl (mX_of rfl (by
    funext j
    unfold mU
    by_cases q9 : j = 9
    · subst q9; rfl
    · by_cases qx : j = 10
      · subst qx; rfl
      · simp only [q9, qx, if_false]))
set_option maxRecDepth 100000 in
set_option maxHeartbeats 4000000 in
theorem ok_X3_copy30_9 {E : mE} {h : mH} {dn wk dn2 wk2 : Nat} {nf ca fr ds nf2 ca2 fr2 ds2 : Nat → Nat} (e9 : h 9 = oNow dn wk) (e10 : h 10 = mAr 24 nf) (e11 : h 11 = mAr 4 ca) (e12 : h 12 = mAr 4 fr) (e13 : h 13 = mAr 40 ds) (e30 : h 30 = oIm0 dn2 wk2) (e31 : h 31 = mAr 24 nf2) (e32 : h 32 = mAr 4 ca2) (e33 : h 33 = mAr 4 fr2) (e34 : h 34 = mAr 40 ds2) : mOk E 1 zX3_copy [.ref 30, .ref 9] h (mX none (mU (mU (mU (mU (mU h 31 (mAr 24 nf)) 32 (mAr 4 ca)) 33 (mAr 4 fr)) 34 (mAr 40 ds)) 30 (oIm0 dn wk))) := by
  refine mOk_w (L := [some (.ref 30), some (.ref 9)]) pn_X3 rfl (Nat.le_of_ble_eq_true rfl) rfl ?_
  refine mG_aload_n dX3_copy_0 rfl ?_
  refine mG_get fX3_9 dX3_copy_1 e9 (Nat.le_of_ble_eq_true rfl) rfl ?_
  refine mG_iconst (v := nI 0) dX3_copy_4 (by decide) ?_
  refine mG_aload_n dX3_copy_5 rfl ?_
  refine mG_get fX3_9 dX3_copy_6 e30 (Nat.le_of_ble_eq_true rfl) rfl ?_
  refine mG_iconst (v := nI 0) dX3_copy_9 (by decide) ?_
  refine mG_aload_n dX3_copy_10 rfl ?_
  refine mG_get fX3_9 dX3_copy_11 e30 (Nat.le_of_ble_eq_true rfl) rfl ?_
  refine mG_alen dX3_copy_14 e31 (Nat.le_of_ble_eq_true rfl) (by decide) ?_
  refine mG_copyA dX3_copy_15 aX3_27 w_copy.1 w_copy.2.1 w_copy.2.2 e10 e31 (Nat.le_of_ble_eq_true rfl) (Nat.le_of_ble_eq_true rfl) (by decide) (by decide) (by decide) (by decide) (by decide) (Nat.le_of_ble_eq_true rfl) ?_
  refine mG_aload_n dX3_copy_18 rfl ?_
  refine mG_get fX3_15 dX3_copy_19 e9 (Nat.le_of_ble_eq_true rfl) rfl ?_
  refine mG_iconst (v := nI 0) dX3_copy_22 (by decide) ?_
  refine mG_aload_n dX3_copy_23 rfl ?_
  refine mG_get fX3_15 dX3_copy_24 e30 (Nat.le_of_ble_eq_true rfl) rfl ?_
  refine mG_iconst (v := nI 0) dX3_copy_27 (by decide) ?_
  refine mG_aload_n dX3_copy_28 rfl ?_
  refine mG_get fX3_15 dX3_copy_29 e30 (Nat.le_of_ble_eq_true rfl) rfl ?_
  refine mG_alen dX3_copy_32 e32 (Nat.le_of_ble_eq_true rfl) (by decide) ?_
  refine mG_copyA dX3_copy_33 aX3_27 w_copy.1 w_copy.2.1 w_copy.2.2 e11 e32 (Nat.le_of_ble_eq_true rfl) (Nat.le_of_ble_eq_true rfl) (by decide) (by decide) (by decide) (by decide) (by decide) (Nat.le_of_ble_eq_true rfl) ?_
  refine mG_aload_n dX3_copy_36 rfl ?_
  refine mG_get fX3_18 dX3_copy_37 e9 (Nat.le_of_ble_eq_true rfl) rfl ?_
  refine mG_iconst (v := nI 0) dX3_copy_40 (by decide) ?_
  refine mG_aload_n dX3_copy_41 rfl ?_
  refine mG_get fX3_18 dX3_copy_42 e30 (Nat.le_of_ble_eq_true rfl) rfl ?_
  refine mG_iconst (v := nI 0) dX3_copy_45 (by decide) ?_
  refine mG_aload_n dX3_copy_46 rfl ?_
  refine mG_get fX3_18 dX3_copy_47 e30 (Nat.le_of_ble_eq_true rfl) rfl ?_
  refine mG_alen dX3_copy_50 e33 (Nat.le_of_ble_eq_true rfl) (by decide) ?_
  refine mG_copyA dX3_copy_51 aX3_27 w_copy.1 w_copy.2.1 w_copy.2.2 e12 e33 (Nat.le_of_ble_eq_true rfl) (Nat.le_of_ble_eq_true rfl) (by decide) (by decide) (by decide) (by decide) (by decide) (Nat.le_of_ble_eq_true rfl) ?_
  refine mG_aload_n dX3_copy_54 rfl ?_
  refine mG_get fX3_21 dX3_copy_55 e9 (Nat.le_of_ble_eq_true rfl) rfl ?_
  refine mG_iconst (v := nI 0) dX3_copy_58 (by decide) ?_
  refine mG_aload_n dX3_copy_59 rfl ?_
  refine mG_get fX3_21 dX3_copy_60 e30 (Nat.le_of_ble_eq_true rfl) rfl ?_
  refine mG_iconst (v := nI 0) dX3_copy_63 (by decide) ?_
  refine mG_aload_n dX3_copy_64 rfl ?_
  refine mG_get fX3_21 dX3_copy_65 e30 (Nat.le_of_ble_eq_true rfl) rfl ?_
  refine mG_alen dX3_copy_68 e34 (Nat.le_of_ble_eq_true rfl) (by decide) ?_
  refine mG_copyA dX3_copy_69 aX3_27 w_copy.1 w_copy.2.1 w_copy.2.2 e13 e34 (Nat.le_of_ble_eq_true rfl) (Nat.le_of_ble_eq_true rfl) (by decide) (by decide) (by decide) (by decide) (by decide) (Nat.le_of_ble_eq_true rfl) ?_
  refine mG_aload_n dX3_copy_72 rfl ?_
  refine mG_aload_n dX3_copy_73 rfl ?_
  refine mG_get fX3_33 dX3_copy_74 e9 (Nat.le_of_ble_eq_true rfl) rfl ?_
  refine mG_putI pX3_33 dX3_copy_77 e30 (Nat.le_of_ble_eq_true rfl) (Nat.le_of_ble_eq_true rfl) ?_
  refine mG_aload_n dX3_copy_80 rfl ?_
  refine mG_aload_n dX3_copy_81 rfl ?_
  refine mG_get fX3_37 dX3_copy_82 e9 (Nat.le_of_ble_eq_true rfl) rfl ?_
  refine mG_putI pX3_37 dX3_copy_85 rfl (Nat.le_of_ble_eq_true rfl) (Nat.le_of_ble_eq_true rfl) ?_
  refine mG_cong (mU (mU (mU (mU (mU h 31 (mAr 24 nf)) 32 (mAr 4 ca)) 33 (mAr 4 fr)) 34 (mAr 40 ds)) 30 (oIm0 dn wk)) (fun b _ => ?_) ?_
  · rw [mU_same]
    exact mEq_U (mEq_U (mEq_U (mEq_U (mEq_U mEq_h _ (mEq_ar (fun j hj => sb_cpy0N hj))) _ (mEq_ar (fun j hj => sb_cpy0N hj))) _ (mEq_ar (fun j hj => sb_cpy0N hj))) _ (mEq_ar (fun j hj => sb_cpy0N hj))) _ mEq.rf b
  · exact mG_vret dX3_copy_88 rfl (mX_of rfl rfl)
set_option maxRecDepth 100000 in
set_option maxHeartbeats 4000000 in
theorem ok_X3_copy35_9 {E : mE} {h : mH} {dn wk dn2 wk2 : Nat} {nf ca fr ds nf2 ca2 fr2 ds2 : Nat → Nat} (e9 : h 9 = oNow dn wk) (e10 : h 10 = mAr 24 nf) (e11 : h 11 = mAr 4 ca) (e12 : h 12 = mAr 4 fr) (e13 : h 13 = mAr 40 ds) (e35 : h 35 = oIm1 dn2 wk2) (e36 : h 36 = mAr 24 nf2) (e37 : h 37 = mAr 4 ca2) (e38 : h 38 = mAr 4 fr2) (e39 : h 39 = mAr 40 ds2) : mOk E 1 zX3_copy [.ref 35, .ref 9] h (mX none (mU (mU (mU (mU (mU h 36 (mAr 24 nf)) 37 (mAr 4 ca)) 38 (mAr 4 fr)) 39 (mAr 40 ds)) 35 (oIm1 dn wk))) := by
  refine mOk_w (L := [some (.ref 35), some (.ref 9)]) pn_X3 rfl (Nat.le_of_ble_eq_true rfl) rfl ?_
  refine mG_aload_n dX3_copy_0 rfl ?_
  refine mG_get fX3_9 dX3_copy_1 e9 (Nat.le_of_ble_eq_true rfl) rfl ?_
  refine mG_iconst (v := nI 0) dX3_copy_4 (by decide) ?_
  refine mG_aload_n dX3_copy_5 rfl ?_
  refine mG_get fX3_9 dX3_copy_6 e35 (Nat.le_of_ble_eq_true rfl) rfl ?_
  refine mG_iconst (v := nI 0) dX3_copy_9 (by decide) ?_
  refine mG_aload_n dX3_copy_10 rfl ?_
  refine mG_get fX3_9 dX3_copy_11 e35 (Nat.le_of_ble_eq_true rfl) rfl ?_
  refine mG_alen dX3_copy_14 e36 (Nat.le_of_ble_eq_true rfl) (by decide) ?_
  refine mG_copyA dX3_copy_15 aX3_27 w_copy.1 w_copy.2.1 w_copy.2.2 e10 e36 (Nat.le_of_ble_eq_true rfl) (Nat.le_of_ble_eq_true rfl) (by decide) (by decide) (by decide) (by decide) (by decide) (Nat.le_of_ble_eq_true rfl) ?_
  refine mG_aload_n dX3_copy_18 rfl ?_
  refine mG_get fX3_15 dX3_copy_19 e9 (Nat.le_of_ble_eq_true rfl) rfl ?_
  refine mG_iconst (v := nI 0) dX3_copy_22 (by decide) ?_
  refine mG_aload_n dX3_copy_23 rfl ?_
  refine mG_get fX3_15 dX3_copy_24 e35 (Nat.le_of_ble_eq_true rfl) rfl ?_
  refine mG_iconst (v := nI 0) dX3_copy_27 (by decide) ?_
  refine mG_aload_n dX3_copy_28 rfl ?_
  refine mG_get fX3_15 dX3_copy_29 e35 (Nat.le_of_ble_eq_true rfl) rfl ?_
  refine mG_alen dX3_copy_32 e37 (Nat.le_of_ble_eq_true rfl) (by decide) ?_
  refine mG_copyA dX3_copy_33 aX3_27 w_copy.1 w_copy.2.1 w_copy.2.2 e11 e37 (Nat.le_of_ble_eq_true rfl) (Nat.le_of_ble_eq_true rfl) (by decide) (by decide) (by decide) (by decide) (by decide) (Nat.le_of_ble_eq_true rfl) ?_
  refine mG_aload_n dX3_copy_36 rfl ?_
  refine mG_get fX3_18 dX3_copy_37 e9 (Nat.le_of_ble_eq_true rfl) rfl ?_
  refine mG_iconst (v := nI 0) dX3_copy_40 (by decide) ?_
  refine mG_aload_n dX3_copy_41 rfl ?_
  refine mG_get fX3_18 dX3_copy_42 e35 (Nat.le_of_ble_eq_true rfl) rfl ?_
  refine mG_iconst (v := nI 0) dX3_copy_45 (by decide) ?_
  refine mG_aload_n dX3_copy_46 rfl ?_
  refine mG_get fX3_18 dX3_copy_47 e35 (Nat.le_of_ble_eq_true rfl) rfl ?_
  refine mG_alen dX3_copy_50 e38 (Nat.le_of_ble_eq_true rfl) (by decide) ?_
  refine mG_copyA dX3_copy_51 aX3_27 w_copy.1 w_copy.2.1 w_copy.2.2 e12 e38 (Nat.le_of_ble_eq_true rfl) (Nat.le_of_ble_eq_true rfl) (by decide) (by decide) (by decide) (by decide) (by decide) (Nat.le_of_ble_eq_true rfl) ?_
  refine mG_aload_n dX3_copy_54 rfl ?_
  refine mG_get fX3_21 dX3_copy_55 e9 (Nat.le_of_ble_eq_true rfl) rfl ?_
  refine mG_iconst (v := nI 0) dX3_copy_58 (by decide) ?_
  refine mG_aload_n dX3_copy_59 rfl ?_
  refine mG_get fX3_21 dX3_copy_60 e35 (Nat.le_of_ble_eq_true rfl) rfl ?_
  refine mG_iconst (v := nI 0) dX3_copy_63 (by decide) ?_
  refine mG_aload_n dX3_copy_64 rfl ?_
  refine mG_get fX3_21 dX3_copy_65 e35 (Nat.le_of_ble_eq_true rfl) rfl ?_
  refine mG_alen dX3_copy_68 e39 (Nat.le_of_ble_eq_true rfl) (by decide) ?_
  refine mG_copyA dX3_copy_69 aX3_27 w_copy.1 w_copy.2.1 w_copy.2.2 e13 e39 (Nat.le_of_ble_eq_true rfl) (Nat.le_of_ble_eq_true rfl) (by decide) (by decide) (by decide) (by decide) (by decide) (Nat.le_of_ble_eq_true rfl) ?_
  refine mG_aload_n dX3_copy_72 rfl ?_
  refine mG_aload_n dX3_copy_73 rfl ?_
  refine mG_get fX3_33 dX3_copy_74 e9 (Nat.le_of_ble_eq_true rfl) rfl ?_
  refine mG_putI pX3_33 dX3_copy_77 e35 (Nat.le_of_ble_eq_true rfl) (Nat.le_of_ble_eq_true rfl) ?_
  refine mG_aload_n dX3_copy_80 rfl ?_
  refine mG_aload_n dX3_copy_81 rfl ?_
  refine mG_get fX3_37 dX3_copy_82 e9 (Nat.le_of_ble_eq_true rfl) rfl ?_
  refine mG_putI pX3_37 dX3_copy_85 rfl (Nat.le_of_ble_eq_true rfl) (Nat.le_of_ble_eq_true rfl) ?_
  refine mG_cong (mU (mU (mU (mU (mU h 36 (mAr 24 nf)) 37 (mAr 4 ca)) 38 (mAr 4 fr)) 39 (mAr 40 ds)) 35 (oIm1 dn wk)) (fun b _ => ?_) ?_
  · rw [mU_same]
    exact mEq_U (mEq_U (mEq_U (mEq_U (mEq_U mEq_h _ (mEq_ar (fun j hj => sb_cpy0N hj))) _ (mEq_ar (fun j hj => sb_cpy0N hj))) _ (mEq_ar (fun j hj => sb_cpy0N hj))) _ (mEq_ar (fun j hj => sb_cpy0N hj))) _ mEq.rf b
  · exact mG_vret dX3_copy_88 rfl (mX_of rfl rfl)
set_option maxRecDepth 100000 in
set_option maxHeartbeats 4000000 in
theorem ok_X3_copy9_30 {E : mE} {h : mH} {dn wk dn2 wk2 : Nat} {nf ca fr ds nf2 ca2 fr2 ds2 : Nat → Nat} (e30 : h 30 = oIm0 dn wk) (e31 : h 31 = mAr 24 nf) (e32 : h 32 = mAr 4 ca) (e33 : h 33 = mAr 4 fr) (e34 : h 34 = mAr 40 ds) (e9 : h 9 = oNow dn2 wk2) (e10 : h 10 = mAr 24 nf2) (e11 : h 11 = mAr 4 ca2) (e12 : h 12 = mAr 4 fr2) (e13 : h 13 = mAr 40 ds2) : mOk E 1 zX3_copy [.ref 9, .ref 30] h (mX none (mU (mU (mU (mU (mU h 10 (mAr 24 nf)) 11 (mAr 4 ca)) 12 (mAr 4 fr)) 13 (mAr 40 ds)) 9 (oNow dn wk))) := by
  refine mOk_w (L := [some (.ref 9), some (.ref 30)]) pn_X3 rfl (Nat.le_of_ble_eq_true rfl) rfl ?_
  refine mG_aload_n dX3_copy_0 rfl ?_
  refine mG_get fX3_9 dX3_copy_1 e30 (Nat.le_of_ble_eq_true rfl) rfl ?_
  refine mG_iconst (v := nI 0) dX3_copy_4 (by decide) ?_
  refine mG_aload_n dX3_copy_5 rfl ?_
  refine mG_get fX3_9 dX3_copy_6 e9 (Nat.le_of_ble_eq_true rfl) rfl ?_
  refine mG_iconst (v := nI 0) dX3_copy_9 (by decide) ?_
  refine mG_aload_n dX3_copy_10 rfl ?_
  refine mG_get fX3_9 dX3_copy_11 e9 (Nat.le_of_ble_eq_true rfl) rfl ?_
  refine mG_alen dX3_copy_14 e10 (Nat.le_of_ble_eq_true rfl) (by decide) ?_
  refine mG_copyA dX3_copy_15 aX3_27 w_copy.1 w_copy.2.1 w_copy.2.2 e31 e10 (Nat.le_of_ble_eq_true rfl) (Nat.le_of_ble_eq_true rfl) (by decide) (by decide) (by decide) (by decide) (by decide) (Nat.le_of_ble_eq_true rfl) ?_
  refine mG_aload_n dX3_copy_18 rfl ?_
  refine mG_get fX3_15 dX3_copy_19 e30 (Nat.le_of_ble_eq_true rfl) rfl ?_
  refine mG_iconst (v := nI 0) dX3_copy_22 (by decide) ?_
  refine mG_aload_n dX3_copy_23 rfl ?_
  refine mG_get fX3_15 dX3_copy_24 e9 (Nat.le_of_ble_eq_true rfl) rfl ?_
  refine mG_iconst (v := nI 0) dX3_copy_27 (by decide) ?_
  refine mG_aload_n dX3_copy_28 rfl ?_
  refine mG_get fX3_15 dX3_copy_29 e9 (Nat.le_of_ble_eq_true rfl) rfl ?_
  refine mG_alen dX3_copy_32 e11 (Nat.le_of_ble_eq_true rfl) (by decide) ?_
  refine mG_copyA dX3_copy_33 aX3_27 w_copy.1 w_copy.2.1 w_copy.2.2 e32 e11 (Nat.le_of_ble_eq_true rfl) (Nat.le_of_ble_eq_true rfl) (by decide) (by decide) (by decide) (by decide) (by decide) (Nat.le_of_ble_eq_true rfl) ?_
  refine mG_aload_n dX3_copy_36 rfl ?_
  refine mG_get fX3_18 dX3_copy_37 e30 (Nat.le_of_ble_eq_true rfl) rfl ?_
  refine mG_iconst (v := nI 0) dX3_copy_40 (by decide) ?_
  refine mG_aload_n dX3_copy_41 rfl ?_
  refine mG_get fX3_18 dX3_copy_42 e9 (Nat.le_of_ble_eq_true rfl) rfl ?_
  refine mG_iconst (v := nI 0) dX3_copy_45 (by decide) ?_
  refine mG_aload_n dX3_copy_46 rfl ?_
  refine mG_get fX3_18 dX3_copy_47 e9 (Nat.le_of_ble_eq_true rfl) rfl ?_
  refine mG_alen dX3_copy_50 e12 (Nat.le_of_ble_eq_true rfl) (by decide) ?_
  refine mG_copyA dX3_copy_51 aX3_27 w_copy.1 w_copy.2.1 w_copy.2.2 e33 e12 (Nat.le_of_ble_eq_true rfl) (Nat.le_of_ble_eq_true rfl) (by decide) (by decide) (by decide) (by decide) (by decide) (Nat.le_of_ble_eq_true rfl) ?_
  refine mG_aload_n dX3_copy_54 rfl ?_
  refine mG_get fX3_21 dX3_copy_55 e30 (Nat.le_of_ble_eq_true rfl) rfl ?_
  refine mG_iconst (v := nI 0) dX3_copy_58 (by decide) ?_
  refine mG_aload_n dX3_copy_59 rfl ?_
  refine mG_get fX3_21 dX3_copy_60 e9 (Nat.le_of_ble_eq_true rfl) rfl ?_
  refine mG_iconst (v := nI 0) dX3_copy_63 (by decide) ?_
  refine mG_aload_n dX3_copy_64 rfl ?_
  refine mG_get fX3_21 dX3_copy_65 e9 (Nat.le_of_ble_eq_true rfl) rfl ?_
  refine mG_alen dX3_copy_68 e13 (Nat.le_of_ble_eq_true rfl) (by decide) ?_
  refine mG_copyA dX3_copy_69 aX3_27 w_copy.1 w_copy.2.1 w_copy.2.2 e34 e13 (Nat.le_of_ble_eq_true rfl) (Nat.le_of_ble_eq_true rfl) (by decide) (by decide) (by decide) (by decide) (by decide) (Nat.le_of_ble_eq_true rfl) ?_
  refine mG_aload_n dX3_copy_72 rfl ?_
  refine mG_aload_n dX3_copy_73 rfl ?_
  refine mG_get fX3_33 dX3_copy_74 e30 (Nat.le_of_ble_eq_true rfl) rfl ?_
  refine mG_putI pX3_33 dX3_copy_77 e9 (Nat.le_of_ble_eq_true rfl) (Nat.le_of_ble_eq_true rfl) ?_
  refine mG_aload_n dX3_copy_80 rfl ?_
  refine mG_aload_n dX3_copy_81 rfl ?_
  refine mG_get fX3_37 dX3_copy_82 e30 (Nat.le_of_ble_eq_true rfl) rfl ?_
  refine mG_putI pX3_37 dX3_copy_85 rfl (Nat.le_of_ble_eq_true rfl) (Nat.le_of_ble_eq_true rfl) ?_
  refine mG_cong (mU (mU (mU (mU (mU h 10 (mAr 24 nf)) 11 (mAr 4 ca)) 12 (mAr 4 fr)) 13 (mAr 40 ds)) 9 (oNow dn wk)) (fun b _ => ?_) ?_
  · rw [mU_same]
    exact mEq_U (mEq_U (mEq_U (mEq_U (mEq_U mEq_h _ (mEq_ar (fun j hj => sb_cpy0N hj))) _ (mEq_ar (fun j hj => sb_cpy0N hj))) _ (mEq_ar (fun j hj => sb_cpy0N hj))) _ (mEq_ar (fun j hj => sb_cpy0N hj))) _ mEq.rf b
  · exact mG_vret dX3_copy_88 rfl (mX_of rfl rfl)
set_option maxRecDepth 100000 in
set_option maxHeartbeats 4000000 in
theorem ok_X3_copy9_35 {E : mE} {h : mH} {dn wk dn2 wk2 : Nat} {nf ca fr ds nf2 ca2 fr2 ds2 : Nat → Nat} (e35 : h 35 = oIm1 dn wk) (e36 : h 36 = mAr 24 nf) (e37 : h 37 = mAr 4 ca) (e38 : h 38 = mAr 4 fr) (e39 : h 39 = mAr 40 ds) (e9 : h 9 = oNow dn2 wk2) (e10 : h 10 = mAr 24 nf2) (e11 : h 11 = mAr 4 ca2) (e12 : h 12 = mAr 4 fr2) (e13 : h 13 = mAr 40 ds2) : mOk E 1 zX3_copy [.ref 9, .ref 35] h (mX none (mU (mU (mU (mU (mU h 10 (mAr 24 nf)) 11 (mAr 4 ca)) 12 (mAr 4 fr)) 13 (mAr 40 ds)) 9 (oNow dn wk))) := by
  refine mOk_w (L := [some (.ref 9), some (.ref 35)]) pn_X3 rfl (Nat.le_of_ble_eq_true rfl) rfl ?_
  refine mG_aload_n dX3_copy_0 rfl ?_
  refine mG_get fX3_9 dX3_copy_1 e35 (Nat.le_of_ble_eq_true rfl) rfl ?_
  refine mG_iconst (v := nI 0) dX3_copy_4 (by decide) ?_
  refine mG_aload_n dX3_copy_5 rfl ?_
  refine mG_get fX3_9 dX3_copy_6 e9 (Nat.le_of_ble_eq_true rfl) rfl ?_
  refine mG_iconst (v := nI 0) dX3_copy_9 (by decide) ?_
  refine mG_aload_n dX3_copy_10 rfl ?_
  refine mG_get fX3_9 dX3_copy_11 e9 (Nat.le_of_ble_eq_true rfl) rfl ?_
  refine mG_alen dX3_copy_14 e10 (Nat.le_of_ble_eq_true rfl) (by decide) ?_
  refine mG_copyA dX3_copy_15 aX3_27 w_copy.1 w_copy.2.1 w_copy.2.2 e36 e10 (Nat.le_of_ble_eq_true rfl) (Nat.le_of_ble_eq_true rfl) (by decide) (by decide) (by decide) (by decide) (by decide) (Nat.le_of_ble_eq_true rfl) ?_
  refine mG_aload_n dX3_copy_18 rfl ?_
  refine mG_get fX3_15 dX3_copy_19 e35 (Nat.le_of_ble_eq_true rfl) rfl ?_
  refine mG_iconst (v := nI 0) dX3_copy_22 (by decide) ?_
  refine mG_aload_n dX3_copy_23 rfl ?_
  refine mG_get fX3_15 dX3_copy_24 e9 (Nat.le_of_ble_eq_true rfl) rfl ?_
  refine mG_iconst (v := nI 0) dX3_copy_27 (by decide) ?_
  refine mG_aload_n dX3_copy_28 rfl ?_
  refine mG_get fX3_15 dX3_copy_29 e9 (Nat.le_of_ble_eq_true rfl) rfl ?_
  refine mG_alen dX3_copy_32 e11 (Nat.le_of_ble_eq_true rfl) (by decide) ?_
  refine mG_copyA dX3_copy_33 aX3_27 w_copy.1 w_copy.2.1 w_copy.2.2 e37 e11 (Nat.le_of_ble_eq_true rfl) (Nat.le_of_ble_eq_true rfl) (by decide) (by decide) (by decide) (by decide) (by decide) (Nat.le_of_ble_eq_true rfl) ?_
  refine mG_aload_n dX3_copy_36 rfl ?_
  refine mG_get fX3_18 dX3_copy_37 e35 (Nat.le_of_ble_eq_true rfl) rfl ?_
  refine mG_iconst (v := nI 0) dX3_copy_40 (by decide) ?_
  refine mG_aload_n dX3_copy_41 rfl ?_
  refine mG_get fX3_18 dX3_copy_42 e9 (Nat.le_of_ble_eq_true rfl) rfl ?_
  refine mG_iconst (v := nI 0) dX3_copy_45 (by decide) ?_
  refine mG_aload_n dX3_copy_46 rfl ?_
  refine mG_get fX3_18 dX3_copy_47 e9 (Nat.le_of_ble_eq_true rfl) rfl ?_
  refine mG_alen dX3_copy_50 e12 (Nat.le_of_ble_eq_true rfl) (by decide) ?_
  refine mG_copyA dX3_copy_51 aX3_27 w_copy.1 w_copy.2.1 w_copy.2.2 e38 e12 (Nat.le_of_ble_eq_true rfl) (Nat.le_of_ble_eq_true rfl) (by decide) (by decide) (by decide) (by decide) (by decide) (Nat.le_of_ble_eq_true rfl) ?_
  refine mG_aload_n dX3_copy_54 rfl ?_
  refine mG_get fX3_21 dX3_copy_55 e35 (Nat.le_of_ble_eq_true rfl) rfl ?_
  refine mG_iconst (v := nI 0) dX3_copy_58 (by decide) ?_
  refine mG_aload_n dX3_copy_59 rfl ?_
  refine mG_get fX3_21 dX3_copy_60 e9 (Nat.le_of_ble_eq_true rfl) rfl ?_
  refine mG_iconst (v := nI 0) dX3_copy_63 (by decide) ?_
  refine mG_aload_n dX3_copy_64 rfl ?_
  refine mG_get fX3_21 dX3_copy_65 e9 (Nat.le_of_ble_eq_true rfl) rfl ?_
  refine mG_alen dX3_copy_68 e13 (Nat.le_of_ble_eq_true rfl) (by decide) ?_
  refine mG_copyA dX3_copy_69 aX3_27 w_copy.1 w_copy.2.1 w_copy.2.2 e39 e13 (Nat.le_of_ble_eq_true rfl) (Nat.le_of_ble_eq_true rfl) (by decide) (by decide) (by decide) (by decide) (by decide) (Nat.le_of_ble_eq_true rfl) ?_
  refine mG_aload_n dX3_copy_72 rfl ?_
  refine mG_aload_n dX3_copy_73 rfl ?_
  refine mG_get fX3_33 dX3_copy_74 e35 (Nat.le_of_ble_eq_true rfl) rfl ?_
  refine mG_putI pX3_33 dX3_copy_77 e9 (Nat.le_of_ble_eq_true rfl) (Nat.le_of_ble_eq_true rfl) ?_
  refine mG_aload_n dX3_copy_80 rfl ?_
  refine mG_aload_n dX3_copy_81 rfl ?_
  refine mG_get fX3_37 dX3_copy_82 e35 (Nat.le_of_ble_eq_true rfl) rfl ?_
  refine mG_putI pX3_37 dX3_copy_85 rfl (Nat.le_of_ble_eq_true rfl) (Nat.le_of_ble_eq_true rfl) ?_
  refine mG_cong (mU (mU (mU (mU (mU h 10 (mAr 24 nf)) 11 (mAr 4 ca)) 12 (mAr 4 fr)) 13 (mAr 40 ds)) 9 (oNow dn wk)) (fun b _ => ?_) ?_
  · rw [mU_same]
    exact mEq_U (mEq_U (mEq_U (mEq_U (mEq_U mEq_h _ (mEq_ar (fun j hj => sb_cpy0N hj))) _ (mEq_ar (fun j hj => sb_cpy0N hj))) _ (mEq_ar (fun j hj => sb_cpy0N hj))) _ (mEq_ar (fun j hj => sb_cpy0N hj))) _ mEq.rf b
  · exact mG_vret dX3_copy_88 rfl (mX_of rfl rfl)
set_option maxRecDepth 100000 in
set_option maxHeartbeats 4000000 in
theorem lp_X3_begin {E : mE} {h0 : mH} {dn wk : Nat}  : ∀ (k i : Nat) (h : mH) (ca fr : Nat → Nat), i + k = 4 → h 9 = oNow dn wk → h 11 = mAr 4 ca → h 12 = mAr 4 fr → (∀ j, j < i → ca j = j) → (∀ j, j < i → fr j = 0) → h = mU (mU h0 11 (mAr 4 ca)) 12 (mAr 4 fr) → mG E (mR 1, zX3_begin) (mKq E (mR 1) mN (mX none (mU (mU (mU h0 9 (oNow 0 0)) 11 (mAr 4 (fun j => j))) 12 (mAr 4 (fun _ => 0))))) 20 [some (.ref 9), some (.ref 6), some (vN i)] [] (mN, 0, 0) h := by
  intro k
  induction k with
  | zero =>
    intro i h ca fr hk e9 e11 e12 hca hfr hh
    refine mG_iload_n dX3_begin_20 rfl ?_
    refine mG_iconst (v := nI 4) dX3_begin_21 (by decide) ?_
    refine mG_icmp_geN dX3_begin_22 (by omega) (by omega) (fun c22 => ?_) (fun c22 => absurd c22 (by omega))
    refine mG_aload_n dX3_begin_45 rfl ?_
    refine mG_iconst (v := nI 0) dX3_begin_46 (by decide) ?_
    refine mG_putI pX3_33 dX3_begin_47 e9 (Nat.le_of_ble_eq_true rfl) (Nat.le_of_ble_eq_true rfl) ?_
    refine mG_aload_n dX3_begin_50 rfl ?_
    refine mG_iconst (v := nI 0) dX3_begin_51 (by decide) ?_
    refine mG_putI pX3_37 dX3_begin_52 rfl (Nat.le_of_ble_eq_true rfl) (Nat.le_of_ble_eq_true rfl) ?_
    refine mG_cong (mU (mU (mU h0 9 (oNow 0 0)) 11 (mAr 4 (fun j => j))) 12 (mAr 4 (fun _ => 0))) (fun b _ => ?_) ?_
    · rw [mU_same, hh]
      rw [mU_comm _ (show (12 : Nat) ≠ 9 by decide), mU_comm _ (show (11 : Nat) ≠ 9 by decide)]
      exact mEq_U (mEq_U (mEq_U mEq_h _ mEq.rf) _ (mEq_ar (fun j hj => hca j (by omega)))) _ (mEq_ar (fun j hj => hfr j (by omega))) b
    · exact mG_vret dX3_begin_55 rfl (mX_of rfl rfl)
  | succ k ih =>
    intro i h ca fr hk e9 e11 e12 hca hfr hh
    refine mG_iload_n dX3_begin_20 rfl ?_
    refine mG_iconst (v := nI 4) dX3_begin_21 (by decide) ?_
    refine mG_icmp_geN dX3_begin_22 (by omega) (by omega) (fun c22 => absurd c22 (by omega)) (fun c22 => ?_)
    refine mG_aload_n dX3_begin_25 rfl ?_
    refine mG_get fX3_15 dX3_begin_26 e9 (Nat.le_of_ble_eq_true rfl) rfl ?_
    refine mG_iload_n dX3_begin_29 rfl ?_
    refine mG_iload_n dX3_begin_30 rfl ?_
    refine mG_iastA dX3_begin_31 e11 (Nat.le_of_ble_eq_true rfl) (by decide) (by omega) ?_
    refine mG_aload_n dX3_begin_32 rfl ?_
    refine mG_get fX3_18 dX3_begin_33 e9 (Nat.le_of_ble_eq_true rfl) rfl ?_
    refine mG_iload_n dX3_begin_36 rfl ?_
    refine mG_iconst (v := nI 0) dX3_begin_37 (by decide) ?_
    refine mG_iastA dX3_begin_38 e12 (Nat.le_of_ble_eq_true rfl) (by decide) (by omega) ?_
    refine mG_iincN dX3_begin_39 rfl (Nat.le_of_ble_eq_true rfl) rfl rfl ?_
    refine mG_goto dX3_begin_42 ?_
    refine ih (i + 1) _ (mUp ca i i) (mUp fr i 0) (by omega) e9 rfl rfl (fun j hj => ?_) (fun j hj => ?_) ?_
    · by_cases q : j = i
      · rw [q, mUp_eq]
      · rw [mUp_ne _ _ q]; exact hca j (by omega)
    · by_cases q : j = i
      · rw [q, mUp_eq]
      · rw [mUp_ne _ _ q]; exact hfr j (by omega)
    · rw [hh, mU_comm (mU h0 11 (mAr 4 ca)) (show (12 : Nat) ≠ 11 by decide), mU_same, mU_same]
set_option maxRecDepth 100000 in
set_option maxHeartbeats 4000000 in
theorem ok_X3_begin {E : mE} {h : mH} {dn wk cu dc it : Nat} {bo : Bool} {nf ca fr df : Nat → Nat} (e6 : h 6 = oDraft cu dc it bo) (e7 : h 7 = mAr 24 df) (e9 : h 9 = oNow dn wk) (e10 : h 10 = mAr 24 nf) (e11 : h 11 = mAr 4 ca) (e12 : h 12 = mAr 4 fr) : mOk E 1 zX3_begin [.ref 9, .ref 6] h (mX none (mU (mU (mU (mU h 10 (mAr 24 df)) 9 (oNow 0 0)) 11 (mAr 4 (fun j => j))) 12 (mAr 4 (fun _ => 0)))) := by
  refine mOk_w (L := [some (.ref 9), some (.ref 6), none]) pn_X3 rfl (Nat.le_of_ble_eq_true rfl) rfl ?_
  refine mG_aload_n dX3_begin_0 rfl ?_
  refine mG_get fX3_24 dX3_begin_1 e6 (Nat.le_of_ble_eq_true rfl) rfl ?_
  refine mG_iconst (v := nI 0) dX3_begin_4 (by decide) ?_
  refine mG_aload_n dX3_begin_5 rfl ?_
  refine mG_get fX3_9 dX3_begin_6 e9 (Nat.le_of_ble_eq_true rfl) rfl ?_
  refine mG_iconst (v := nI 0) dX3_begin_9 (by decide) ?_
  refine mG_aload_n dX3_begin_10 rfl ?_
  refine mG_get fX3_9 dX3_begin_11 e9 (Nat.le_of_ble_eq_true rfl) rfl ?_
  refine mG_alen dX3_begin_14 e10 (Nat.le_of_ble_eq_true rfl) (by decide) ?_
  refine mG_copyA dX3_begin_15 aX3_27 w_copy.1 w_copy.2.1 w_copy.2.2 e7 e10 (Nat.le_of_ble_eq_true rfl) (Nat.le_of_ble_eq_true rfl) (by decide) (by decide) (by decide) (by decide) (by decide) (Nat.le_of_ble_eq_true rfl) ?_
  refine mG_iconst (v := nI 0) dX3_begin_18 (by decide) ?_
  refine mG_istore_n dX3_begin_19 (Nat.le_of_ble_eq_true rfl) rfl rfl ?_
  refine mG_cong (mU h 10 (mAr 24 df)) (fun b _ => mEq_U mEq_h _ (mEq_ar (fun j hj => sb_cpy0N hj)) b) ?_
  exact lp_X3_begin (h0 := mU h 10 (mAr 24 df)) 4 0 _ ca fr rfl e9 e11 e12 (fun _ z => absurd z (Nat.not_lt_zero _)) (fun _ z => absurd z (Nat.not_lt_zero _)) (by
    funext j
    unfold mU
    by_cases q : j = 12
    · subst q; rw [if_neg (by decide), if_pos rfl]; exact e12
    · by_cases q1 : j = 11
      · subst q1; rw [if_neg (by decide), if_neg (by decide), if_pos rfl]; exact e11
      · simp only [q, q1, if_false])
