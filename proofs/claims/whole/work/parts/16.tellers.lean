/-! Tellers -/
abbrev oTell (cu : Nat) : mC := mOb 4 [.ref 20, vN cu]
def SW : Nat → Nat
  | 0 => 0x5555
  | 1 => 0x3333
  | 2 => 0x0F0F
  | _ => 0x00FF
theorem mTF_sw (E : mE) {c : Nat} (hc : c < 4) : mTF E 4 c = nI (SW c) := by
  rcases (show c = 0 ∨ c = 1 ∨ c = 2 ∨ c = 3 by omega) with rfl | rfl | rfl | rfl <;> rfl
theorem sw_lt (s : Nat) {c : Nat} (hc : c < 4) : 1 <<< c ≤ 8 ∧ (s &&& SW c) <<< (1 <<< c) < 65536 := by
  have h1 : s &&& SW c ≤ SW c := Nat.and_le_right
  generalize s &&& SW c = x at h1
  rcases (show c = 0 ∨ c = 1 ∨ c = 2 ∨ c = 3 by omega) with rfl | rfl | rfl | rfl <;> simp only [SW, Nat.shiftLeft_eq] at h1 ⊢ <;> omega
/-- what sets of CUBES become if one more CUBE of each tells a FIGURE -/
def wom (cw : Nat → Nat) (s fg : Nat) : Nat → Nat
  | 0 => 0
  | c + 1 => if cw fg >>> c &&& 1 = 1 then wom cw s fg c ||| (s &&& SW c) <<< (1 <<< c) else wom cw s fg c
theorem wom_lt (cw : Nat → Nat) (s fg : Nat) : ∀ c, c ≤ 4 → wom cw s fg c < 65536 := by
  intro c
  induction c with
  | zero => intro _; show (0 : Nat) < 65536; decide
  | succ c ih =>
    intro hc
    unfold wom
    split
    · exact Nat.or_lt_two_pow (n := 16) (ih (by omega)) (sw_lt s (by omega)).2
    · exact ih (by omega)
/-- the sets behind k figures of r -/
def cTs (cw : Nat → Nat) (cu : Nat) : Nat → Nat → Nat → Nat
  | 0, s, _ => s
  | k + 1, s, r => cTs cw cu k (wom cw s (r % 10) cu) (r / 10)
/-- CAN, as the class has it -/
def canT (cw : Nat → Nat) (cu n : Nat) : Bool := decide (¬ cTs cw cu cu 1 n = 0)
set_option maxRecDepth 100000 in
set_option maxHeartbeats 4000000 in
theorem lp_X4_one {E : mE} {h : mH} {cu s fg : Nat} {cw : Nat → Nat} (e19 : h 19 = oTell cu) (e20 : h 20 = mAr 10 cw) (hc : cu ≤ 4) (hs : s < 65536) (hg : fg < 10) (hw : cw fg < 16) : ∀ (k i : Nat), i + k = cu → mG E (mR 1, zX4_withOneMore) (mKq E (mR 1) mN (mX (some (vN (wom cw s fg cu))) h)) 5 [some (.ref 19), some (vN s), some (vN fg), some (vN (wom cw s fg i)), some (vN i)] [] (mN, 0, 0) h := by
  intro k
  induction k with
  | zero =>
    intro i hk
    refine mG_iload dX4_withOneMore_5 rfl ?_
    refine mG_aload_n dX4_withOneMore_7 rfl ?_
    refine mG_get fX4_21 dX4_withOneMore_8 e19 (Nat.le_of_ble_eq_true rfl) rfl ?_
    refine mG_icmp_geN dX4_withOneMore_11 (by omega) (by omega) (fun c11 => ?_) (fun c11 => absurd c11 (by omega))
    refine mG_iload_n dX4_withOneMore_51 rfl ?_
    exact mG_iret dX4_withOneMore_52 rfl (mX_of (by rw [show i = cu by omega]) rfl)
  | succ k ih =>
    intro i hk
    refine mG_iload dX4_withOneMore_5 rfl ?_
    refine mG_aload_n dX4_withOneMore_7 rfl ?_
    refine mG_get fX4_21 dX4_withOneMore_8 e19 (Nat.le_of_ble_eq_true rfl) rfl ?_
    have hb : cw fg >>> i &&& 1 ≤ 1 := Nat.and_le_right
    have hsw := sw_lt s (show i < 4 by omega)
    refine mG_icmp_geN dX4_withOneMore_11 (by omega) (by omega) (fun c11 => absurd c11 (by omega)) (fun c11 => ?_)
    refine mG_aload_n dX4_withOneMore_14 rfl ?_
    refine mG_get fX4_9 dX4_withOneMore_15 e19 (Nat.le_of_ble_eq_true rfl) rfl ?_
    refine mG_iload_n dX4_withOneMore_18 rfl ?_
    refine mG_ialdA dX4_withOneMore_19 e20 (Nat.le_of_ble_eq_true rfl) (by decide) (by omega) ?_
    refine mG_iload dX4_withOneMore_20 rfl ?_
    refine mG_ishrN dX4_withOneMore_22 (by omega) (by omega) ?_
    refine mG_iconst (v := nI 1) dX4_withOneMore_23 (by decide) ?_
    refine mG_iandN dX4_withOneMore_24 ?_
    refine mG_iconst (v := nI 1) dX4_withOneMore_25 (by decide) ?_
    refine mG_icmp_neN dX4_withOneMore_26 (by omega) (by omega) (fun c26 => ?_) (fun c26 => ?_)
    · refine mG_iincN dX4_withOneMore_45 rfl (Nat.le_of_ble_eq_true rfl) rfl rfl ?_
      refine mG_goto dX4_withOneMore_48 ?_
      have q := ih (i + 1) (by omega)
      simp only [wom, c26, if_true, if_false] at q
      exact q
    · refine mG_iload_n dX4_withOneMore_29 rfl ?_
      refine mG_iload_n dX4_withOneMore_30 rfl ?_
      refine mG_gets (t := 4) dX4_withOneMore_31 (by decide) gX4_69 ?_
      refine mG_iload dX4_withOneMore_34 rfl ?_
      refine mG_tald (t := 4) dX4_withOneMore_36 (by decide) (Nat.le_of_ble_eq_true rfl) (by show i < 4; omega) ?_
      rw [mTF_sw E (by omega)]
      refine mG_iandN dX4_withOneMore_37 ?_
      refine mG_iconst (v := nI 1) dX4_withOneMore_38 (by decide) ?_
      refine mG_iload dX4_withOneMore_39 rfl ?_
      refine mG_ishlN dX4_withOneMore_41 (by omega) (shl1_lt2 (by omega)) ?_
      refine mG_ishlN dX4_withOneMore_42 (by omega) (by omega) ?_
      refine mG_iorN dX4_withOneMore_43 ?_
      refine mG_istore_n dX4_withOneMore_44 (Nat.le_of_ble_eq_true rfl) rfl rfl ?_
      refine mG_iincN dX4_withOneMore_45 rfl (Nat.le_of_ble_eq_true rfl) rfl rfl ?_
      refine mG_goto dX4_withOneMore_48 ?_
      have q := ih (i + 1) (by omega)
      simp only [wom, c26, if_true, if_false] at q
      exact q
set_option maxRecDepth 100000 in
set_option maxHeartbeats 4000000 in
theorem ok_X4_one {E : mE} {h : mH} {cu s fg : Nat} {cw : Nat → Nat} (e19 : h 19 = oTell cu) (e20 : h 20 = mAr 10 cw) (hc : cu ≤ 4) (hs : s < 65536) (hg : fg < 10) (hw : cw fg < 16) : mOk E 1 zX4_withOneMore [.ref 19, vN s, vN fg] h (mX (some (vN (wom cw s fg cu))) h) := by
  refine mOk_w (L := [some (.ref 19), some (vN s), some (vN fg), none, none]) pn_X4 rfl (Nat.le_of_ble_eq_true rfl) rfl ?_
  refine mG_iconst (v := nI 0) dX4_withOneMore_0 (by decide) ?_
  refine mG_istore_n dX4_withOneMore_1 (Nat.le_of_ble_eq_true rfl) rfl rfl ?_
  refine mG_iconst (v := nI 0) dX4_withOneMore_2 (by decide) ?_
  refine mG_istore dX4_withOneMore_3 (Nat.le_of_ble_eq_true rfl) rfl rfl ?_
  exact lp_X4_one e19 e20 hc hs hg hw cu 0 (Nat.zero_add _)
set_option maxRecDepth 100000 in
set_option maxHeartbeats 4000000 in
theorem lp_X4_can {E : mE} {h : mH} {cu n T : Nat} {cw : Nat → Nat} (e19 : h 19 = oTell cu) (e20 : h 20 = mAr 10 cw) (hc : cu ≤ 4) (hw : ∀ j, j < 10 → cw j < 16) : ∀ (k i s r : Nat), i + k = cu → s < 65536 → r < 2 ^ 31 → T = cTs cw cu k s r → mG E (mR 2, zX4_canTell) (mKq E (mR 2) mN (mX (some (vB (decide (¬ T = 0)))) h)) 7 [some (.ref 19), some (vN n), some (vN s), some (vN r), some (vN i)] [] (mN, 0, 0) h := by
  intro k
  induction k with
  | zero =>
    intro i s r hk hs hr hT
    refine mG_iload dX4_canTell_7 rfl ?_
    refine mG_aload_n dX4_canTell_9 rfl ?_
    refine mG_get fX4_21 dX4_canTell_10 e19 (Nat.le_of_ble_eq_true rfl) rfl ?_
    refine mG_icmp_geN dX4_canTell_13 (by omega) (by omega) (fun c13 => ?_) (fun c13 => absurd c13 (by omega))
    obtain rfl : T = s := hT
    refine mG_iload_n dX4_canTell_37 rfl ?_
    refine mG_if_eqN dX4_canTell_38 (by omega) (fun c38 => ?_) (fun c38 => ?_)
    · refine mG_iconst (v := mb false) dX4_canTell_45 (by decide) ?_
      exact mG_zret dX4_canTell_46 rfl (mX_of (by simp [c38]) rfl)
    · refine mG_iconst (v := mb true) dX4_canTell_41 (by decide) ?_
      refine mG_goto dX4_canTell_42 ?_
      exact mG_zret dX4_canTell_46 rfl (mX_of (by simp [c38]) rfl)
  | succ k ih =>
    intro i s r hk hs hr hT
    refine mG_iload dX4_canTell_7 rfl ?_
    refine mG_aload_n dX4_canTell_9 rfl ?_
    refine mG_get fX4_21 dX4_canTell_10 e19 (Nat.le_of_ble_eq_true rfl) rfl ?_
    refine mG_icmp_geN dX4_canTell_13 (by omega) (by omega) (fun c13 => absurd c13 (by omega)) (fun c13 => ?_)
    refine mG_aload_n dX4_canTell_16 rfl ?_
    refine mG_iload_n dX4_canTell_17 rfl ?_
    refine mG_iload_n dX4_canTell_18 rfl ?_
    refine mG_bipush (v := nI 10) dX4_canTell_19 (by decide) ?_
    refine mG_iremN dX4_canTell_21 (by omega) (by omega) (by omega) ?_
    refine mG_cv2 vX4_37 dX4_canTell_22 (mLe_of rfl) (Nat.le_of_ble_eq_true rfl) e19 (Nat.le_of_ble_eq_true rfl) (ok_X4_one e19 e20 hc hs (by omega) (hw _ (by omega))) ?_
    refine mG_istore_n dX4_canTell_25 (Nat.le_of_ble_eq_true rfl) rfl rfl ?_
    refine mG_iload_n dX4_canTell_26 rfl ?_
    refine mG_bipush (v := nI 10) dX4_canTell_27 (by decide) ?_
    refine mG_idivN dX4_canTell_29 (by omega) (by omega) (by omega) ?_
    refine mG_istore_n dX4_canTell_30 (Nat.le_of_ble_eq_true rfl) rfl rfl ?_
    refine mG_iincN dX4_canTell_31 rfl (Nat.le_of_ble_eq_true rfl) rfl rfl ?_
    refine mG_goto dX4_canTell_34 ?_
    exact ih (i + 1) _ _ (by omega) (wom_lt _ _ _ _ hc) (by omega) hT
set_option maxRecDepth 100000 in
set_option maxHeartbeats 4000000 in
theorem ok_X4_can {E : mE} {h : mH} {cu n : Nat} {cw : Nat → Nat} (e19 : h 19 = oTell cu) (e20 : h 20 = mAr 10 cw) (hc : cu ≤ 4) (hw : ∀ j, j < 10 → cw j < 16) (hn : n < 2 ^ 31) : mOk E 2 zX4_canTell [.ref 19, vN n] h (mX (some (vB (canT cw cu n))) h) := by
  refine mOk_w (L := [some (.ref 19), some (vN n), none, none, none]) pn_X4 rfl (Nat.le_of_ble_eq_true rfl) rfl ?_
  refine mG_iconst (v := nI 1) dX4_canTell_0 (by decide) ?_
  refine mG_istore_n dX4_canTell_1 (Nat.le_of_ble_eq_true rfl) rfl rfl ?_
  refine mG_iload_n dX4_canTell_2 rfl ?_
  refine mG_istore_n dX4_canTell_3 (Nat.le_of_ble_eq_true rfl) rfl rfl ?_
  refine mG_iconst (v := nI 0) dX4_canTell_4 (by decide) ?_
  refine mG_istore dX4_canTell_5 (Nat.le_of_ble_eq_true rfl) rfl rfl ?_
  exact lp_X4_can e19 e20 hc hw cu 0 1 n (Nat.zero_add _) (by decide) hn rfl
/-- DONE -/
def dd (cw td : Nat → Nat) (cu : Nat) : Nat → Nat
  | 0 => 0
  | d + 1 => if canT cw cu (td d) = true then dd cw td cu d ||| 1 <<< d else dd cw td cu d
theorem dd_lt (cw td : Nat → Nat) (cu : Nat) : ∀ d, dd cw td cu d < 2 ^ d := by
  intro d
  induction d with
  | zero => show (0 : Nat) < 2 ^ 0; decide
  | succ d ih =>
    have h1 : dd cw td cu d < 2 ^ (d + 1) := Nat.lt_trans ih (Nat.pow_lt_pow_right (by decide) (by omega))
    unfold dd
    split
    · refine Nat.or_lt_two_pow h1 ?_
      rw [Nat.one_shiftLeft]
      exact Nat.pow_lt_pow_right (by decide) (by omega)
    · exact h1
set_option maxRecDepth 100000 in
set_option maxHeartbeats 4000000 in
theorem lp_X4_done {E : mE} {h : mH} {cu cu2 dc it : Nat} {bo : Bool} {cw td : Nat → Nat} (e3 : h 3 = oTold cu2 dc it bo) (e5 : h 5 = mAr 6 td) (e19 : h 19 = oTell cu) (e20 : h 20 = mAr 10 cw) (hc : cu ≤ 4) (hw : ∀ j, j < 10 → cw j < 16) (hd : dc ≤ 6) (htd : ∀ j, j < dc → td j < 2 ^ 31) : ∀ (k i : Nat), i + k = dc → mG E (mR 3, zX4_daysDone) (mKq E (mR 3) mN (mX (some (vN (dd cw td cu dc))) h)) 4 [some (.ref 19), some (.ref 3), some (vN (dd cw td cu i)), some (vN i)] [] (mN, 0, 0) h := by
  intro k
  induction k with
  | zero =>
    intro i hk
    refine mG_iload_n dX4_daysDone_4 rfl ?_
    refine mG_aload_n dX4_daysDone_5 rfl ?_
    refine mG_get fX4_41 dX4_daysDone_6 e3 (Nat.le_of_ble_eq_true rfl) rfl ?_
    refine mG_icmp_geN dX4_daysDone_9 (by omega) (by omega) (fun c9 => ?_) (fun c9 => absurd c9 (by omega))
    refine mG_iload_n dX4_daysDone_37 rfl ?_
    exact mG_iret dX4_daysDone_38 rfl (mX_of (by rw [show i = dc by omega]) rfl)
  | succ k ih =>
    intro i hk
    refine mG_iload_n dX4_daysDone_4 rfl ?_
    refine mG_aload_n dX4_daysDone_5 rfl ?_
    refine mG_get fX4_41 dX4_daysDone_6 e3 (Nat.le_of_ble_eq_true rfl) rfl ?_
    refine mG_icmp_geN dX4_daysDone_9 (by omega) (by omega) (fun c9 => absurd c9 (by omega)) (fun c9 => ?_)
    refine mG_aload_n dX4_daysDone_12 rfl ?_
    refine mG_aload_n dX4_daysDone_13 rfl ?_
    refine mG_get fX4_44 dX4_daysDone_14 e3 (Nat.le_of_ble_eq_true rfl) rfl ?_
    refine mG_iload_n dX4_daysDone_17 rfl ?_
    refine mG_ialdA dX4_daysDone_18 e5 (Nat.le_of_ble_eq_true rfl) (by decide) (by omega) ?_
    refine mG_cv1 vX4_47 dX4_daysDone_19 (mLe_of rfl) (Nat.le_of_ble_eq_true rfl) e19 (Nat.le_of_ble_eq_true rfl) (ok_X4_can e19 e20 hc hw (htd i (by omega))) ?_
    refine mG_if_eqB dX4_daysDone_22 (fun c22 => ?_) (fun c22 => ?_)
    · refine mG_iincN dX4_daysDone_31 rfl (Nat.le_of_ble_eq_true rfl) rfl rfl ?_
      refine mG_goto dX4_daysDone_34 ?_
      have q := ih (i + 1) (by omega)
      simp only [dd, c22, if_true, if_false, Bool.false_eq_true] at q
      exact q
    · refine mG_iload_n dX4_daysDone_25 rfl ?_
      refine mG_iconst (v := nI 1) dX4_daysDone_26 (by decide) ?_
      refine mG_iload_n dX4_daysDone_27 rfl ?_
      refine mG_ishlN dX4_daysDone_28 (by omega) (shl1_lt2 (by omega)) ?_
      refine mG_iorN dX4_daysDone_29 ?_
      refine mG_istore_n dX4_daysDone_30 (Nat.le_of_ble_eq_true rfl) rfl rfl ?_
      refine mG_iincN dX4_daysDone_31 rfl (Nat.le_of_ble_eq_true rfl) rfl rfl ?_
      refine mG_goto dX4_daysDone_34 ?_
      have q := ih (i + 1) (by omega)
      simp only [dd, c22, if_true, if_false, Bool.false_eq_true] at q
      exact q
set_option maxRecDepth 100000 in
set_option maxHeartbeats 4000000 in
theorem ok_X4_done {E : mE} {h : mH} {cu cu2 dc it : Nat} {bo : Bool} {cw td : Nat → Nat} (e3 : h 3 = oTold cu2 dc it bo) (e5 : h 5 = mAr 6 td) (e19 : h 19 = oTell cu) (e20 : h 20 = mAr 10 cw) (hc : cu ≤ 4) (hw : ∀ j, j < 10 → cw j < 16) (hd : dc ≤ 6) (htd : ∀ j, j < dc → td j < 2 ^ 31) : mOk E 3 zX4_daysDone [.ref 19, .ref 3] h (mX (some (vN (dd cw td cu dc))) h) := by
  refine mOk_w (L := [some (.ref 19), some (.ref 3), none, none]) pn_X4 rfl (Nat.le_of_ble_eq_true rfl) rfl ?_
  refine mG_iconst (v := nI 0) dX4_daysDone_0 (by decide) ?_
  refine mG_istore_n dX4_daysDone_1 (Nat.le_of_ble_eq_true rfl) rfl rfl ?_
  refine mG_iconst (v := nI 0) dX4_daysDone_2 (by decide) ?_
  refine mG_istore_n dX4_daysDone_3 (Nat.le_of_ble_eq_true rfl) rfl rfl ?_
  exact lp_X4_done e3 e5 e19 e20 hc hw hd htd dc 0 (Nat.zero_add _)
/-- LEAST from n on, k numbers -/
def lu (cw : Nat → Nat) (cu : Nat) : Nat → Nat → Int32
  | 0, _ => -9
  | k + 1, n => if canT cw cu n = true then lu cw cu k (n + 1) else nI n
theorem ten_le {cu : Nat} (hc : cu ≤ 4) : 10 ^ cu ≤ 10000 := by
  rcases (show cu = 0 ∨ cu = 1 ∨ cu = 2 ∨ cu = 3 ∨ cu = 4 by omega) with rfl | rfl | rfl | rfl | rfl <;> decide
set_option maxRecDepth 100000 in
set_option maxHeartbeats 4000000 in
theorem lp_X4_least {E : mE} {h : mH} {R : Int32} {cu : Nat} {cw : Nat → Nat} (e19 : h 19 = oTell cu) (e20 : h 20 = mAr 10 cw) (hc : cu ≤ 4) (hw : ∀ j, j < 10 → cw j < 16) : ∀ (k i : Nat), i + k = 10 ^ cu → R = lu cw cu k i → mG E (mR 3, zX4_leastUntold) (mKq E (mR 3) mN (mX (some (.int R)) h)) 2 [some (.ref 19), some (vN i)] [] (mN, 0, 0) h := by
  intro k
  induction k with
  | zero =>
    intro i hk hR
    refine mG_iload_n dX4_leastUntold_2 rfl ?_
    refine mG_getsN (t := 0) dX4_leastUntold_3 (by decide) (by decide) ?_
    refine mG_aload_n dX4_leastUntold_6 rfl ?_
    refine mG_get fX4_21 dX4_leastUntold_7 e19 (Nat.le_of_ble_eq_true rfl) rfl ?_
    have ht := ten_le hc
    refine mG_tald (t := 0) dX4_leastUntold_10 (by decide) (Nat.le_of_ble_eq_true rfl) (by show cu < 5; omega) ?_
    rw [mTF_ten E hc]
    refine mG_icmp_geN dX4_leastUntold_11 (by omega) (by omega) (fun c11 => ?_) (fun c11 => absurd c11 (by omega))
    refine mG_bipush (v := (-9)) dX4_leastUntold_30 (by decide) ?_
    exact mG_iret dX4_leastUntold_32 rfl (mX_of (by rw [hR]; rfl) rfl)
  | succ k ih =>
    intro i hk hR
    refine mG_iload_n dX4_leastUntold_2 rfl ?_
    refine mG_getsN (t := 0) dX4_leastUntold_3 (by decide) (by decide) ?_
    refine mG_aload_n dX4_leastUntold_6 rfl ?_
    refine mG_get fX4_21 dX4_leastUntold_7 e19 (Nat.le_of_ble_eq_true rfl) rfl ?_
    have ht := ten_le hc
    refine mG_tald (t := 0) dX4_leastUntold_10 (by decide) (Nat.le_of_ble_eq_true rfl) (by show cu < 5; omega) ?_
    rw [mTF_ten E hc]
    refine mG_icmp_geN dX4_leastUntold_11 (by omega) (by omega) (fun c11 => absurd c11 (by omega)) (fun c11 => ?_)
    refine mG_aload_n dX4_leastUntold_14 rfl ?_
    refine mG_iload_n dX4_leastUntold_15 rfl ?_
    refine mG_cv1 vX4_47 dX4_leastUntold_16 (mLe_of rfl) (Nat.le_of_ble_eq_true rfl) e19 (Nat.le_of_ble_eq_true rfl) (ok_X4_can e19 e20 hc hw (by omega)) ?_
    refine mG_if_neB dX4_leastUntold_19 (fun c19 => ?_) (fun c19 => ?_)
    · refine mG_iincN dX4_leastUntold_24 rfl (Nat.le_of_ble_eq_true rfl) rfl rfl ?_
      refine mG_goto dX4_leastUntold_27 ?_
      exact ih (i + 1) (by omega) (by rw [hR]; simp [lu, c19])
    · refine mG_iload_n dX4_leastUntold_22 rfl ?_
      exact mG_iret dX4_leastUntold_23 rfl (mX_of (by rw [hR]; simp [lu, c19]) rfl)
set_option maxRecDepth 100000 in
set_option maxHeartbeats 4000000 in
theorem ok_X4_least {E : mE} {h : mH} {cu : Nat} {cw : Nat → Nat} (e19 : h 19 = oTell cu) (e20 : h 20 = mAr 10 cw) (hc : cu ≤ 4) (hw : ∀ j, j < 10 → cw j < 16) : mOk E 3 zX4_leastUntold [.ref 19] h (mX (some (.int (lu cw cu (10 ^ cu) 0))) h) := by
  refine mOk_w (L := [some (.ref 19), none]) pn_X4 rfl (Nat.le_of_ble_eq_true rfl) rfl ?_
  refine mG_iconst (v := nI 0) dX4_leastUntold_0 (by decide) ?_
  refine mG_istore_n dX4_leastUntold_1 (Nat.le_of_ble_eq_true rfl) rfl rfl ?_
  exact lp_X4_least e19 e20 hc hw (10 ^ cu) 0 (Nat.zero_add _) rfl
/-- PASTES: the sets of CUBES that tell some of k figures of r -/
def fpS (cw : Nat → Nat) (cu : Nat) : Nat → Nat → Nat → Nat
  | 0, s, _ => s
  | k + 1, s, r => fpS cw cu k (s ||| wom cw s (r % 10) cu) (r / 10)
def mxs (s : Nat) : Nat → Nat
  | 0 => 0
  | i + 1 => if s >>> i &&& 1 = 1 then max (mxs s i) (popc i 10) else mxs s i
theorem mxs_le (s : Nat) : ∀ i, mxs s i ≤ 10 := by
  intro i
  induction i with
  | zero => exact Nat.zero_le _
  | succ i ih =>
    have := popc_le i 10
    unfold mxs
    split <;> omega
theorem fpS_lt (cw : Nat → Nat) {cu : Nat} (hc : cu ≤ 4) : ∀ k s r, s < 65536 → fpS cw cu k s r < 65536 := by
  intro k
  induction k with
  | zero => intro s r hs; exact hs
  | succ k ih => intro s r hs; exact ih _ _ (Nat.or_lt_two_pow (n := 16) hs (wom_lt _ _ _ _ hc))
set_option maxRecDepth 100000 in
set_option maxHeartbeats 4000000 in
theorem lp_X4_fp2 {E : mE} {h : mH} {cu n s r : Nat} (e19 : h 19 = oTell cu) (hs : s < 65536) : ∀ (k i : Nat), i + k = 16 → mG E (mR 2, zX4_fewestPastes) (mKq E (mR 2) mN (mX (some (.int (nI cu - nI (mxs s 16)))) h)) 45 [some (.ref 19), some (vN n), some (vN s), some (vN r), some (vN (mxs s i)), some (vN i)] [] (mN, 0, 0) h := by
  intro k
  induction k with
  | zero =>
    intro i hk
    refine mG_iload dX4_fewestPastes_45 rfl ?_
    refine mG_bipush (v := nI 16) dX4_fewestPastes_47 (by decide) ?_
    refine mG_icmp_geN dX4_fewestPastes_49 (by omega) (by omega) (fun c49 => ?_) (fun c49 => absurd c49 (by omega))
    refine mG_aload_n dX4_fewestPastes_80 rfl ?_
    refine mG_get fX4_21 dX4_fewestPastes_81 e19 (Nat.le_of_ble_eq_true rfl) rfl ?_
    refine mG_iload dX4_fewestPastes_84 rfl ?_
    refine mG_isub dX4_fewestPastes_86 ?_
    exact mG_iret dX4_fewestPastes_87 rfl (mX_of (by rw [show i = 16 by omega]) rfl)
  | succ k ih =>
    intro i hk
    refine mG_iload dX4_fewestPastes_45 rfl ?_
    refine mG_bipush (v := nI 16) dX4_fewestPastes_47 (by decide) ?_
    have hb : s >>> i &&& 1 ≤ 1 := Nat.and_le_right
    have hm := mxs_le s i
    have hp := popc_le i 10
    refine mG_icmp_geN dX4_fewestPastes_49 (by omega) (by omega) (fun c49 => absurd c49 (by omega)) (fun c49 => ?_)
    refine mG_iload_n dX4_fewestPastes_52 rfl ?_
    refine mG_iload dX4_fewestPastes_53 rfl ?_
    refine mG_ishrN dX4_fewestPastes_55 (by omega) (by omega) ?_
    refine mG_iconst (v := nI 1) dX4_fewestPastes_56 (by decide) ?_
    refine mG_iandN dX4_fewestPastes_57 ?_
    refine mG_iconst (v := nI 1) dX4_fewestPastes_58 (by decide) ?_
    refine mG_icmp_neN dX4_fewestPastes_59 (by omega) (by omega) (fun c59 => ?_) (fun c59 => ?_)
    · refine mG_iincN dX4_fewestPastes_74 rfl (Nat.le_of_ble_eq_true rfl) rfl rfl ?_
      refine mG_goto dX4_fewestPastes_77 ?_
      have q := ih (i + 1) (by omega)
      simp only [mxs, c59, if_true, if_false] at q
      exact q
    · refine mG_iload dX4_fewestPastes_62 rfl ?_
      refine mG_iload dX4_fewestPastes_64 rfl ?_
      refine mG_cs1 sX4_54 dX4_fewestPastes_66 (mLe_of rfl) (Nat.le_of_ble_eq_true rfl) (ok_bitCount (by omega)) ?_
      refine mG_mmaxN dX4_fewestPastes_69 aX4_60 w_max.1 w_max.2.1 w_max.2.2 (by decide) (Nat.le_of_ble_eq_true rfl) (Nat.zero_le _) (Nat.zero_le _) (by omega) (by omega) ?_
      refine mG_istore dX4_fewestPastes_72 (Nat.le_of_ble_eq_true rfl) rfl rfl ?_
      refine mG_iincN dX4_fewestPastes_74 rfl (Nat.le_of_ble_eq_true rfl) rfl rfl ?_
      refine mG_goto dX4_fewestPastes_77 ?_
      have q := ih (i + 1) (by omega)
      simp only [mxs, c59, if_true, if_false] at q
      exact q
set_option maxRecDepth 100000 in
set_option maxHeartbeats 4000000 in
theorem lp_X4_fp1 {E : mE} {h : mH} {cu n T : Nat} {cw : Nat → Nat} {x5 : Option Value} (e19 : h 19 = oTell cu) (e20 : h 20 = mAr 10 cw) (hc : cu ≤ 4) (hw : ∀ j, j < 10 → cw j < 16) (hTl : T < 65536) : ∀ (k i s r : Nat), i + k = cu → s < 65536 → r < 2 ^ 31 → T = fpS cw cu k s r → mG E (mR 2, zX4_fewestPastes) (mKq E (mR 2) mN (mX (some (.int (nI cu - nI (mxs T 16)))) h)) 7 [some (.ref 19), some (vN n), some (vN s), some (vN r), some (vN i), x5] [] (mN, 0, 0) h := by
  intro k
  induction k with
  | zero =>
    intro i s r hk hs hr hT
    refine mG_iload dX4_fewestPastes_7 rfl ?_
    refine mG_aload_n dX4_fewestPastes_9 rfl ?_
    refine mG_get fX4_21 dX4_fewestPastes_10 e19 (Nat.le_of_ble_eq_true rfl) rfl ?_
    obtain rfl : T = s := hT
    refine mG_icmp_geN dX4_fewestPastes_13 (by omega) (by omega) (fun c13 => ?_) (fun c13 => absurd c13 (by omega))
    refine mG_iconst (v := nI 0) dX4_fewestPastes_39 (by decide) ?_
    refine mG_istore dX4_fewestPastes_40 (Nat.le_of_ble_eq_true rfl) rfl rfl ?_
    refine mG_iconst (v := nI 0) dX4_fewestPastes_42 (by decide) ?_
    refine mG_istore dX4_fewestPastes_43 (Nat.le_of_ble_eq_true rfl) rfl rfl ?_
    exact lp_X4_fp2 e19 hTl 16 0 rfl
  | succ k ih =>
    intro i s r hk hs hr hT
    refine mG_iload dX4_fewestPastes_7 rfl ?_
    refine mG_aload_n dX4_fewestPastes_9 rfl ?_
    refine mG_get fX4_21 dX4_fewestPastes_10 e19 (Nat.le_of_ble_eq_true rfl) rfl ?_
    refine mG_icmp_geN dX4_fewestPastes_13 (by omega) (by omega) (fun c13 => absurd c13 (by omega)) (fun c13 => ?_)
    refine mG_iload_n dX4_fewestPastes_16 rfl ?_
    refine mG_aload_n dX4_fewestPastes_17 rfl ?_
    refine mG_iload_n dX4_fewestPastes_18 rfl ?_
    refine mG_iload_n dX4_fewestPastes_19 rfl ?_
    refine mG_bipush (v := nI 10) dX4_fewestPastes_20 (by decide) ?_
    refine mG_iremN dX4_fewestPastes_22 (by omega) (by omega) (by omega) ?_
    refine mG_cv2 vX4_37 dX4_fewestPastes_23 (mLe_of rfl) (Nat.le_of_ble_eq_true rfl) e19 (Nat.le_of_ble_eq_true rfl) (ok_X4_one e19 e20 hc hs (by omega) (hw _ (by omega))) ?_
    refine mG_iorN dX4_fewestPastes_26 ?_
    refine mG_istore_n dX4_fewestPastes_27 (Nat.le_of_ble_eq_true rfl) rfl rfl ?_
    refine mG_iload_n dX4_fewestPastes_28 rfl ?_
    refine mG_bipush (v := nI 10) dX4_fewestPastes_29 (by decide) ?_
    refine mG_idivN dX4_fewestPastes_31 (by omega) (by omega) (by omega) ?_
    refine mG_istore_n dX4_fewestPastes_32 (Nat.le_of_ble_eq_true rfl) rfl rfl ?_
    refine mG_iincN dX4_fewestPastes_33 rfl (Nat.le_of_ble_eq_true rfl) rfl rfl ?_
    refine mG_goto dX4_fewestPastes_36 ?_
    exact ih (i + 1) _ _ (by omega) (Nat.or_lt_two_pow (n := 16) hs (wom_lt _ _ _ _ hc)) (by omega) hT
set_option maxRecDepth 100000 in
set_option maxHeartbeats 4000000 in
theorem ok_X4_fp {E : mE} {h : mH} {cu n : Nat} {cw : Nat → Nat} (e19 : h 19 = oTell cu) (e20 : h 20 = mAr 10 cw) (hc : cu ≤ 4) (hw : ∀ j, j < 10 → cw j < 16) (hn : n < 2 ^ 31) : mOk E 2 zX4_fewestPastes [.ref 19, vN n] h (mX (some (.int (nI cu - nI (mxs (fpS cw cu cu 1 n) 16)))) h) := by
  refine mOk_w (L := [some (.ref 19), some (vN n), none, none, none, none]) pn_X4 rfl (Nat.le_of_ble_eq_true rfl) rfl ?_
  refine mG_iconst (v := nI 1) dX4_fewestPastes_0 (by decide) ?_
  refine mG_istore_n dX4_fewestPastes_1 (Nat.le_of_ble_eq_true rfl) rfl rfl ?_
  refine mG_iload_n dX4_fewestPastes_2 rfl ?_
  refine mG_istore_n dX4_fewestPastes_3 (Nat.le_of_ble_eq_true rfl) rfl rfl ?_
  refine mG_iconst (v := nI 0) dX4_fewestPastes_4 (by decide) ?_
  refine mG_istore dX4_fewestPastes_5 (Nat.le_of_ble_eq_true rfl) rfl rfl ?_
  exact lp_X4_fp1 e19 e20 hc hw (fpS_lt cw hc _ _ _ (by decide)) cu 0 1 n (Nat.zero_add _) (by decide) hn rfl
