/-- MANY: numbers whose figures never fall, from so many on, each for all its orders -/
def mnF (cw : Nat → Nat) (cu : Nat) : Nat → Nat → Nat → Nat → Nat → Nat → Nat
  | 0, _, s, _, _, ord => if s = 0 then 0 else ord
  | r + 1, len, s, last, alike, ord => if s = 0 then 0 else sumF (fun fg => mnF cw cu r (len + 1) (wom cw s fg cu) fg (if fg = last then alike + 1 else 1) (ord * (len + 1) / (if fg = last then alike + 1 else 1))) last (10 - last)
theorem ord_le {ord len run : Nat} (ho : ord ≤ 4 ^ len) (hl : len < 4) : ord * (len + 1) ≤ 1024 ∧ ord * (len + 1) / run ≤ 4 ^ (len + 1) := by
  have h1 : ord * (len + 1) ≤ 4 ^ len * 4 := Nat.mul_le_mul ho (by omega)
  have h2 : 4 ^ len ≤ 4 ^ 3 := Nat.pow_le_pow_right (by decide) (by omega)
  have h3 : ord * (len + 1) / run ≤ ord * (len + 1) := Nat.div_le_self _ _
  rw [Nat.pow_succ]
  omega
set_option maxRecDepth 100000 in
set_option maxHeartbeats 4000000 in
theorem lp_X4_mF {E : mE} {h : mH} {cu r len s last alike ord T : Nat} {cw : Nat → Nat} {G : Nat → Nat → Nat → Nat → Nat} (e19 : h 19 = oTell cu) (e20 : h 20 = mAr 10 cw) (hc : cu ≤ 4) (hw : ∀ j, j < 10 → cw j < 16) (hl : len < cu) (hs : s < 65536) (hla : last < 10) (hal : alike ≤ len) (ho : ord ≤ 4 ^ len) (hrec : ∀ s last alike ord, s < 65536 → last < 10 → alike ≤ len + 1 → ord ≤ 4 ^ (len + 1) → mOk E (r + 2) zX4_manyFrom [.ref 19, vN (len + 1), vN s, vN last, vN alike, vN ord] h (mX (some (vN (G s last alike ord))) h)) : ∀ (k i m : Nat) (x8 x9 : Option Value), i + k = 10 → last ≤ i → mOkS [x8] 1 = true → mOkS [x9] 1 = true → T = m + sumF (fun fg => G (wom cw s fg cu) fg (if fg = last then alike + 1 else 1) (ord * (len + 1) / (if fg = last then alike + 1 else 1))) i k → mG E (mR (r + 3), zX4_manyFrom) (mKq E (mR (r + 3)) mN (mX (some (vN T)) h)) 23 [some (.ref 19), some (vN len), some (vN s), some (vN last), some (vN alike), some (vN ord), some (vN m), some (vN i), x8, x9] [] (mN, 0, 0) h := by
  intro k
  induction k with
  | zero =>
    intro i m x8 x9 hk hi hx8 hx9 hT
    refine mG_iload dX4_manyFrom_23 rfl ?_
    refine mG_bipush (v := nI 10) dX4_manyFrom_25 (by decide) ?_
    refine mG_icmp_geN dX4_manyFrom_27 (by omega) (by omega) (fun c27 => ?_) (fun c27 => absurd c27 (by omega))
    refine mG_iload dX4_manyFrom_97 rfl ?_
    exact mG_iret dX4_manyFrom_99 rfl (mX_of (by rw [hT]; simp [sumF]) rfl)
  | succ k ih =>
    intro i m x8 x9 hk hi hx8 hx9 hT
    refine mG_iload dX4_manyFrom_23 rfl ?_
    refine mG_bipush (v := nI 10) dX4_manyFrom_25 (by decide) ?_
    refine mG_icmp_geN dX4_manyFrom_27 (by omega) (by omega) (fun c27 => absurd c27 (by omega)) (fun c27 => ?_)
    refine mG_iload dX4_manyFrom_30 rfl ?_
    refine mG_iload_n dX4_manyFrom_32 rfl ?_
    have hb := ord_le (run := if i = last then alike + 1 else 1) ho (show len < 4 by omega)
    refine mG_icmp_neN dX4_manyFrom_33 (by omega) (by omega) (fun c33 => ?_) (fun c33 => ?_)
    · refine mG_iconst (v := nI 1) dX4_manyFrom_43 (by decide) ?_
      refine mG_istore dX4_manyFrom_44 (Nat.le_of_ble_eq_true rfl) rfl rfl ?_
      refine mG_iload dX4_manyFrom_46 rfl ?_
      refine mG_if_leN dX4_manyFrom_48 (by omega) (fun c48 => absurd c48 (by omega)) (fun c48 => ?_)
      refine mG_iload dX4_manyFrom_51 rfl ?_
      refine mG_iload_n dX4_manyFrom_53 rfl ?_
      refine mG_iconst (v := nI 1) dX4_manyFrom_54 (by decide) ?_
      refine mG_iaddN dX4_manyFrom_55 ?_
      refine mG_imulN dX4_manyFrom_56 ?_
      refine mG_iload dX4_manyFrom_57 rfl ?_
      refine mG_idivN dX4_manyFrom_59 (by omega) (by omega) (by omega) ?_
      refine mG_goto dX4_manyFrom_60 ?_
      refine mG_istore dX4_manyFrom_64 (Nat.le_of_ble_eq_true rfl) rfl rfl ?_
      refine mG_iload dX4_manyFrom_66 rfl ?_
      refine mG_aload_n dX4_manyFrom_68 rfl ?_
      refine mG_iload_n dX4_manyFrom_69 rfl ?_
      refine mG_iconst (v := nI 1) dX4_manyFrom_70 (by decide) ?_
      refine mG_iaddN dX4_manyFrom_71 ?_
      refine mG_aload_n dX4_manyFrom_72 rfl ?_
      refine mG_iload_n dX4_manyFrom_73 rfl ?_
      refine mG_iload dX4_manyFrom_74 rfl ?_
      refine mG_cv2 vX4_37 dX4_manyFrom_76 (mLe_s (by omega) (by decide)) (Nat.le_of_ble_eq_true rfl) e19 (Nat.le_of_ble_eq_true rfl) (ok_X4_one e19 e20 hc hs (by omega) (hw _ (by omega))) ?_
      refine mG_iload dX4_manyFrom_79 rfl ?_
      refine mG_iload dX4_manyFrom_81 rfl ?_
      refine mG_iload dX4_manyFrom_83 rfl ?_
      refine mG_cv5 vX4_65 dX4_manyFrom_85 (mLe_s (by omega) (by decide)) (Nat.le_of_ble_eq_true rfl) e19 (Nat.le_of_ble_eq_true rfl) (hrec _ _ _ _ (wom_lt _ _ _ _ hc) (by omega) (by omega) (by first | (rw [if_neg c33] at hb; exact hb.2) | (rw [if_pos c33] at hb; exact hb.2))) ?_
      refine mG_iaddN dX4_manyFrom_88 ?_
      refine mG_istore dX4_manyFrom_89 (Nat.le_of_ble_eq_true rfl) rfl rfl ?_
      refine mG_iincN dX4_manyFrom_91 rfl (Nat.le_of_ble_eq_true rfl) rfl rfl ?_
      refine mG_goto dX4_manyFrom_94 ?_
      refine ih (i + 1) _ _ _ (by omega) (by omega) rfl rfl ?_
      rw [hT]
      first
        | (simp only [sumF, if_neg c33]; omega)
        | (simp only [sumF, if_pos c33]; omega)
    · refine mG_iload dX4_manyFrom_36 rfl ?_
      refine mG_iconst (v := nI 1) dX4_manyFrom_38 (by decide) ?_
      refine mG_iaddN dX4_manyFrom_39 ?_
      refine mG_goto dX4_manyFrom_40 ?_
      refine mG_istore dX4_manyFrom_44 (Nat.le_of_ble_eq_true rfl) rfl rfl ?_
      refine mG_iload dX4_manyFrom_46 rfl ?_
      refine mG_if_leN dX4_manyFrom_48 (by omega) (fun c48 => absurd c48 (by omega)) (fun c48 => ?_)
      refine mG_iload dX4_manyFrom_51 rfl ?_
      refine mG_iload_n dX4_manyFrom_53 rfl ?_
      refine mG_iconst (v := nI 1) dX4_manyFrom_54 (by decide) ?_
      refine mG_iaddN dX4_manyFrom_55 ?_
      refine mG_imulN dX4_manyFrom_56 ?_
      refine mG_iload dX4_manyFrom_57 rfl ?_
      refine mG_idivN dX4_manyFrom_59 (by omega) (by omega) (by omega) ?_
      refine mG_goto dX4_manyFrom_60 ?_
      refine mG_istore dX4_manyFrom_64 (Nat.le_of_ble_eq_true rfl) rfl rfl ?_
      refine mG_iload dX4_manyFrom_66 rfl ?_
      refine mG_aload_n dX4_manyFrom_68 rfl ?_
      refine mG_iload_n dX4_manyFrom_69 rfl ?_
      refine mG_iconst (v := nI 1) dX4_manyFrom_70 (by decide) ?_
      refine mG_iaddN dX4_manyFrom_71 ?_
      refine mG_aload_n dX4_manyFrom_72 rfl ?_
      refine mG_iload_n dX4_manyFrom_73 rfl ?_
      refine mG_iload dX4_manyFrom_74 rfl ?_
      refine mG_cv2 vX4_37 dX4_manyFrom_76 (mLe_s (by omega) (by decide)) (Nat.le_of_ble_eq_true rfl) e19 (Nat.le_of_ble_eq_true rfl) (ok_X4_one e19 e20 hc hs (by omega) (hw _ (by omega))) ?_
      refine mG_iload dX4_manyFrom_79 rfl ?_
      refine mG_iload dX4_manyFrom_81 rfl ?_
      refine mG_iload dX4_manyFrom_83 rfl ?_
      refine mG_cv5 vX4_65 dX4_manyFrom_85 (mLe_s (by omega) (by decide)) (Nat.le_of_ble_eq_true rfl) e19 (Nat.le_of_ble_eq_true rfl) (hrec _ _ _ _ (wom_lt _ _ _ _ hc) (by omega) (by omega) (by first | (rw [if_neg c33] at hb; exact hb.2) | (rw [if_pos c33] at hb; exact hb.2))) ?_
      refine mG_iaddN dX4_manyFrom_88 ?_
      refine mG_istore dX4_manyFrom_89 (Nat.le_of_ble_eq_true rfl) rfl rfl ?_
      refine mG_iincN dX4_manyFrom_91 rfl (Nat.le_of_ble_eq_true rfl) rfl rfl ?_
      refine mG_goto dX4_manyFrom_94 ?_
      refine ih (i + 1) _ _ _ (by omega) (by omega) rfl rfl ?_
      rw [hT]
      first
        | (simp only [sumF, if_neg c33]; omega)
        | (simp only [sumF, if_pos c33]; omega)
set_option maxRecDepth 100000 in
set_option maxHeartbeats 4000000 in
theorem ok_X4_manyFrom {E : mE} {h : mH} {cu : Nat} {cw : Nat → Nat} (e19 : h 19 = oTell cu) (e20 : h 20 = mAr 10 cw) (hc : cu ≤ 4) (hw : ∀ j, j < 10 → cw j < 16) : ∀ (r len s last alike ord : Nat), len + r = cu → s < 65536 → last < 10 → alike ≤ len → ord ≤ 4 ^ len → mOk E (r + 2) zX4_manyFrom [.ref 19, vN len, vN s, vN last, vN alike, vN ord] h (mX (some (vN (mnF cw cu r len s last alike ord))) h) := by
  intro r
  induction r with
  | zero =>
    intro len s last alike ord hk hs hla hal ho
    refine mOk_w (L := [some (.ref 19), some (vN len), some (vN s), some (vN last), some (vN alike), some (vN ord), none, none, none, none]) pn_X4 rfl (Nat.le_of_ble_eq_true rfl) rfl ?_
    refine mG_iload_n dX4_manyFrom_0 rfl ?_
    refine mG_if_neN dX4_manyFrom_1 (by omega) (fun c1 => ?_) (fun c1 => ?_)
    · refine mG_iload_n dX4_manyFrom_6 rfl ?_
      refine mG_aload_n dX4_manyFrom_7 rfl ?_
      refine mG_get fX4_21 dX4_manyFrom_8 e19 (Nat.le_of_ble_eq_true rfl) rfl ?_
      refine mG_icmp_ltN dX4_manyFrom_11 (by omega) (by omega) (fun c11 => absurd c11 (by omega)) (fun c11 => ?_)
      refine mG_iload dX4_manyFrom_14 rfl ?_
      exact mG_iret dX4_manyFrom_16 rfl (mX_of (by simp [mnF, c1]) rfl)
    · refine mG_iconst (v := nI 0) dX4_manyFrom_4 (by decide) ?_
      exact mG_iret dX4_manyFrom_5 rfl (mX_of (by simp [mnF, c1]) rfl)
  | succ r ih =>
    intro len s last alike ord hk hs hla hal ho
    refine mOk_w (L := [some (.ref 19), some (vN len), some (vN s), some (vN last), some (vN alike), some (vN ord), none, none, none, none]) pn_X4 rfl (Nat.le_of_ble_eq_true rfl) rfl ?_
    refine mG_iload_n dX4_manyFrom_0 rfl ?_
    refine mG_if_neN dX4_manyFrom_1 (by omega) (fun c1 => ?_) (fun c1 => ?_)
    · refine mG_iload_n dX4_manyFrom_6 rfl ?_
      refine mG_aload_n dX4_manyFrom_7 rfl ?_
      refine mG_get fX4_21 dX4_manyFrom_8 e19 (Nat.le_of_ble_eq_true rfl) rfl ?_
      refine mG_icmp_ltN dX4_manyFrom_11 (by omega) (by omega) (fun c11 => ?_) (fun c11 => absurd c11 (by omega))
      refine mG_iconst (v := nI 0) dX4_manyFrom_17 (by decide) ?_
      refine mG_istore dX4_manyFrom_18 (Nat.le_of_ble_eq_true rfl) rfl rfl ?_
      refine mG_iload_n dX4_manyFrom_20 rfl ?_
      refine mG_istore dX4_manyFrom_21 (Nat.le_of_ble_eq_true rfl) rfl rfl ?_
      exact lp_X4_mF (G := mnF cw cu r (len + 1)) e19 e20 hc hw (by omega) hs hla hal ho (fun s' l' a' o' q1 q2 q3 q4 => ih (len + 1) s' l' a' o' (by omega) q1 q2 q3 q4) (10 - last) last 0 none none (by omega) (Nat.le_refl _) rfl rfl (by simp [mnF, c1])
    · refine mG_iconst (v := nI 0) dX4_manyFrom_4 (by decide) ?_
      exact mG_iret dX4_manyFrom_5 rfl (mX_of (by simp [mnF, c1]) rfl)
set_option maxRecDepth 100000 in
set_option maxHeartbeats 4000000 in
theorem ok_X4_many {E : mE} {h : mH} {cu : Nat} {cw : Nat → Nat} (e19 : h 19 = oTell cu) (e20 : h 20 = mAr 10 cw) (hc : cu ≤ 4) (hw : ∀ j, j < 10 → cw j < 16) : mOk E 7 zX4_many [.ref 19] h (mX (some (vN (mnF cw cu cu 0 1 0 0 1))) h) := by
  refine mOk_w (L := [some (.ref 19)]) pn_X4 rfl (Nat.le_of_ble_eq_true rfl) rfl ?_
  refine mG_aload_n dX4_many_0 rfl ?_
  refine mG_iconst (v := nI 0) dX4_many_1 (by decide) ?_
  refine mG_iconst (v := nI 1) dX4_many_2 (by decide) ?_
  refine mG_iconst (v := nI 0) dX4_many_3 (by decide) ?_
  refine mG_iconst (v := nI 0) dX4_many_4 (by decide) ?_
  refine mG_iconst (v := nI 1) dX4_many_5 (by decide) ?_
  refine mG_cv5 vX4_65 dX4_many_6 (mLe_s (by omega) (by decide)) (Nat.le_of_ble_eq_true rfl) e19 (Nat.le_of_ble_eq_true rfl) (ok_X4_manyFrom e19 e20 hc hw cu 0 1 0 0 1 (Nat.zero_add _) (by decide) (by decide) (Nat.le_refl _) (by decide)) ?_
  exact mG_iret dX4_many_9 rfl (mX_of rfl rfl)
/-- which CUBES have a FIGURE on a SIDE (as bits), a SIDE being blank -/
def cwA (nf : Nat → Nat) (bl : Int32) : Nat → Nat → Nat
  | 0 => fun _ => 0
  | i + 1 => if nI i = bl then cwA nf bl i else mUp (cwA nf bl i) (nf i) (cwA nf bl i (nf i) ||| 1 <<< (i / 6))
def cwB (bo : Bool) (g : Nat → Nat) : Nat → Nat := if bo = true then mUp (mUp g 6 (g 6 ||| g 9)) 9 (mUp g 6 (g 6 ||| g 9) 6) else g
def cwT (nf : Nat → Nat) (bo : Bool) (bl : Int32) (cu : Nat) : Nat → Nat := cwB bo (cwA nf bl (cu * 6))
theorem cwA_lt (nf : Nat → Nat) (bl : Int32) : ∀ i, i ≤ 24 → ∀ j, cwA nf bl i j < 16 := by
  intro i
  induction i with
  | zero => intro _ j; show (0 : Nat) < 16; decide
  | succ i ih =>
    intro hi j
    unfold cwA
    split
    · exact ih (by omega) j
    · by_cases q : j = nf i
      · rw [q, mUp_eq]
        refine Nat.or_lt_two_pow (n := 4) (ih (by omega) _) ?_
        rw [Nat.one_shiftLeft]
        exact Nat.pow_lt_pow_right (by decide) (by omega)
      · rw [mUp_ne _ _ q]
        exact ih (by omega) j
theorem cwT_lt (nf : Nat → Nat) (bo : Bool) (bl : Int32) {cu : Nat} (hc : cu ≤ 4) (j : Nat) : cwT nf bo bl cu j < 16 := by
  have h1 := cwA_lt nf bl (cu * 6) (by omega)
  unfold cwT cwB
  split
  · have h2 : cwA nf bl (cu * 6) 6 ||| cwA nf bl (cu * 6) 9 < 16 := Nat.or_lt_two_pow (n := 4) (h1 6) (h1 9)
    by_cases q : j = 9
    · rw [q, mUp_eq, mUp_eq]; exact h2
    · rw [mUp_ne _ _ q]
      by_cases q6 : j = 6
      · rw [q6, mUp_eq]; exact h2
      · rw [mUp_ne _ _ q6]; exact h1 j
  · exact h1 j
set_option maxRecDepth 100000 in
set_option maxHeartbeats 4000000 in
theorem lp_X4_take {E : mE} {h : mH} {cu dc it dn wk : Nat} {bo : Bool} {nf : Nat → Nat} {bl : Int32} (e3 : h 3 = oTold cu dc it bo) (e9 : h 9 = oNow dn wk) (e10 : h 10 = mAr 24 nf) (hc : cu ≤ 4) (hf : ∀ j, j < cu * 6 → nf j < 10) : ∀ (k i : Nat), i + k = cu * 6 → mG E (mR 2, zX4_take) (mKq E (mR 2) mN (mX none (mU (mU h 19 (oTell cu)) 20 (mAr 10 (cwT nf bo bl cu))))) 19 [some (.ref 19), some (.ref 3), some (.ref 9), some (.int bl), some (vN i)] [] (mN, 0, 0) (mU (mU h 19 (oTell cu)) 20 (mAr 10 (cwA nf bl i))) := by
  intro k
  induction k with
  | zero =>
    intro i hk
    refine mG_iload dX4_take_19 rfl ?_
    refine mG_aload_n dX4_take_21 rfl ?_
    refine mG_get fX4_21 dX4_take_22 rfl (Nat.le_of_ble_eq_true rfl) rfl ?_
    refine mG_bipush (v := nI 6) dX4_take_25 (by decide) ?_
    refine mG_imulN dX4_take_27 ?_
    refine mG_icmp_geN dX4_take_28 (by omega) (by omega) (fun c28 => ?_) (fun c28 => absurd c28 (by omega))
    refine mG_aload_n dX4_take_65 rfl ?_
    refine mG_get fX4_33 dX4_take_66 e3 (Nat.le_of_ble_eq_true rfl) rfl ?_
    refine mG_if_eqB dX4_take_69 (fun c69 => ?_) (fun c69 => ?_)
    · exact mG_vret dX4_take_103 rfl (mX_of rfl (by rw [show i = cu * 6 by omega]; first | (simp only [mU_same, cwT, cwB, c69]; rfl) | simp [cwT, cwB, c69]))
    · refine mG_aload_n dX4_take_72 rfl ?_
      refine mG_get fX4_9 dX4_take_73 rfl (Nat.le_of_ble_eq_true rfl) rfl ?_
      refine mG_bipush (v := nI 6) dX4_take_76 (by decide) ?_
      refine mG_dup2 dX4_take_78 rfl rfl ?_
      refine mG_ialdA dX4_take_79 rfl (Nat.le_of_ble_eq_true rfl) (by decide) (by omega) ?_
      refine mG_aload_n dX4_take_80 rfl ?_
      refine mG_get fX4_9 dX4_take_81 rfl (Nat.le_of_ble_eq_true rfl) rfl ?_
      refine mG_bipush (v := nI 9) dX4_take_84 (by decide) ?_
      refine mG_ialdA dX4_take_86 rfl (Nat.le_of_ble_eq_true rfl) (by decide) (by omega) ?_
      refine mG_iorN dX4_take_87 ?_
      refine mG_iastA dX4_take_88 rfl (Nat.le_of_ble_eq_true rfl) (by decide) (by omega) ?_
      refine mG_aload_n dX4_take_89 rfl ?_
      refine mG_get fX4_9 dX4_take_90 rfl (Nat.le_of_ble_eq_true rfl) rfl ?_
      refine mG_bipush (v := nI 9) dX4_take_93 (by decide) ?_
      refine mG_aload_n dX4_take_95 rfl ?_
      refine mG_get fX4_9 dX4_take_96 rfl (Nat.le_of_ble_eq_true rfl) rfl ?_
      refine mG_bipush (v := nI 6) dX4_take_99 (by decide) ?_
      refine mG_ialdA dX4_take_101 rfl (Nat.le_of_ble_eq_true rfl) (by decide) (by omega) ?_
      refine mG_iastA dX4_take_102 rfl (Nat.le_of_ble_eq_true rfl) (by decide) (by omega) ?_
      exact mG_vret dX4_take_103 rfl (mX_of rfl (by rw [show i = cu * 6 by omega]; first | (simp only [mU_same, cwT, cwB, c69]; rfl) | simp [cwT, cwB, c69]))
  | succ k ih =>
    intro i hk
    refine mG_iload dX4_take_19 rfl ?_
    refine mG_aload_n dX4_take_21 rfl ?_
    refine mG_get fX4_21 dX4_take_22 rfl (Nat.le_of_ble_eq_true rfl) rfl ?_
    refine mG_bipush (v := nI 6) dX4_take_25 (by decide) ?_
    refine mG_imulN dX4_take_27 ?_
    have hfi := hf i (by omega)
    refine mG_icmp_geN dX4_take_28 (by omega) (by omega) (fun c28 => absurd c28 (by omega)) (fun c28 => ?_)
    refine mG_iload dX4_take_31 rfl ?_
    refine mG_iload_n dX4_take_33 rfl ?_
    refine mG_icmp_eq dX4_take_34 (fun c34 => ?_) (fun c34 => ?_)
    · refine mG_iincN dX4_take_59 rfl (Nat.le_of_ble_eq_true rfl) rfl rfl ?_
      refine mG_goto dX4_take_62 ?_
      have q := ih (i + 1) (by omega)
      first
        | (simp only [cwA, if_pos c34] at q; exact q)
        | (rw [mU_same]; simp only [cwA, if_neg c34] at q; exact q)
    · refine mG_aload_n dX4_take_37 rfl ?_
      refine mG_get fX4_9 dX4_take_38 rfl (Nat.le_of_ble_eq_true rfl) rfl ?_
      refine mG_aload_n dX4_take_41 rfl ?_
      refine mG_get fX4_28 dX4_take_42 e9 (Nat.le_of_ble_eq_true rfl) rfl ?_
      refine mG_iload dX4_take_45 rfl ?_
      refine mG_ialdA dX4_take_47 e10 (Nat.le_of_ble_eq_true rfl) (by decide) (by omega) ?_
      refine mG_dup2 dX4_take_48 rfl rfl ?_
      refine mG_ialdA dX4_take_49 rfl (Nat.le_of_ble_eq_true rfl) (by decide) (by omega) ?_
      refine mG_iconst (v := nI 1) dX4_take_50 (by decide) ?_
      refine mG_iload dX4_take_51 rfl ?_
      refine mG_bipush (v := nI 6) dX4_take_53 (by decide) ?_
      refine mG_idivN dX4_take_55 (by omega) (by omega) (by omega) ?_
      refine mG_ishlN dX4_take_56 (by omega) (shl1_lt2 (by omega)) ?_
      refine mG_iorN dX4_take_57 ?_
      refine mG_iastA dX4_take_58 rfl (Nat.le_of_ble_eq_true rfl) (by decide) (by omega) ?_
      refine mG_iincN dX4_take_59 rfl (Nat.le_of_ble_eq_true rfl) rfl rfl ?_
      refine mG_goto dX4_take_62 ?_
      have q := ih (i + 1) (by omega)
      first
        | (simp only [cwA, if_pos c34] at q; exact q)
        | (rw [mU_same]; simp only [cwA, if_neg c34] at q; exact q)
set_option maxRecDepth 100000 in
set_option maxHeartbeats 4000000 in
theorem ok_X4_take {E : mE} {h : mH} {cu dc it dn wk c0 : Nat} {bo : Bool} {nf g0 : Nat → Nat} {bl : Int32} (e3 : h 3 = oTold cu dc it bo) (e9 : h 9 = oNow dn wk) (e10 : h 10 = mAr 24 nf) (e19 : h 19 = oTell c0) (e20 : h 20 = mAr 10 g0) (hc : cu ≤ 4) (hf : ∀ j, j < cu * 6 → nf j < 10) : mOk E 2 zX4_take [.ref 19, .ref 3, .ref 9, .int bl] h (mX none (mU (mU h 19 (oTell cu)) 20 (mAr 10 (cwT nf bo bl cu)))) := by
  refine mOk_w (L := [some (.ref 19), some (.ref 3), some (.ref 9), some (.int bl), none]) pn_X4 rfl (Nat.le_of_ble_eq_true rfl) rfl ?_
  refine mG_aload_n dX4_take_0 rfl ?_
  refine mG_aload_n dX4_take_1 rfl ?_
  refine mG_get fX4_15 dX4_take_2 e3 (Nat.le_of_ble_eq_true rfl) rfl ?_
  refine mG_putI pX4_21 dX4_take_5 e19 (Nat.le_of_ble_eq_true rfl) (Nat.le_of_ble_eq_true rfl) ?_
  refine mG_aload_n dX4_take_8 rfl ?_
  refine mG_get fX4_9 dX4_take_9 rfl (Nat.le_of_ble_eq_true rfl) rfl ?_
  refine mG_iconst (v := nI 0) dX4_take_12 (by decide) ?_
  refine mG_ct2 sX4_22 dX4_take_13 (mLe_of rfl) (Nat.le_of_ble_eq_true rfl) (ok_fill20 e20) ?_
  refine mG_iconst (v := nI 0) dX4_take_16 (by decide) ?_
  refine mG_istore dX4_take_17 (Nat.le_of_ble_eq_true rfl) rfl rfl ?_
  exact lp_X4_take e3 e9 e10 hc hf (cu * 6) 0 (Nat.zero_add _)
