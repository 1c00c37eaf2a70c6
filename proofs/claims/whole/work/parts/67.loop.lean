/-! the law's loop -/
theorem nI_sub4 {L : Nat} (h : 4 ≤ L) : nI L - nI 4 = nI (L - 4) := by
  have e : nI L = nI (L - 4) + nI 4 := by rw [nI_add]; congr 1; omega
  rw [e]
  exact Int32.add_sub_cancel _ _
theorem len_lt {L i : Nat} (hL : L ≤ 2048) (hi : i ≤ 4096) : nI L - nI 4 < nI i ↔ L < i + 4 := by
  have e2 : (nI i).toInt = (i : Int) := nI_toInt (by omega)
  rw [Int32.lt_iff_toInt_lt, e2]
  by_cases q : 4 ≤ L
  · rw [nI_sub4 q, nI_toInt (show L - 4 < 2 ^ 31 by omega)]
    omega
  · rcases (show L = 0 ∨ L = 1 ∨ L = 2 ∨ L = 3 by omega) with rfl | rfl | rfl | rfl
    · have : (nI 0 - nI 4).toInt = -4 := by decide
      omega
    · have : (nI 1 - nI 4).toInt = -3 := by decide
      omega
    · have : (nI 2 - nI 4).toInt = -2 := by decide
      omega
    · have : (nI 3 - nI 4).toInt = -1 := by decide
      omega
/-- five bits -/
theorem and31 (x : Int32) : ∃ k, k < 32 ∧ x &&& nI 31 = nI k := by
  refine ⟨(x &&& nI 31).toBitVec.toNat, ?_, ?_⟩
  · have e : (x &&& nI 31).toBitVec = x.toBitVec &&& 31#32 := rfl
    rw [e, BitVec.toNat_and]
    exact Nat.lt_of_le_of_lt Nat.and_le_right (by decide)
  · apply Int32.toBitVec_inj.mp
    show _ = (Int32.ofNat _).toBitVec
    rw [Int32.toBitVec_ofNat', BitVec.ofNat_toNat, BitVec.setWidth_eq]
set_option maxRecDepth 100000 in
set_option maxHeartbeats 4000000 in
theorem law_body {E : mE} {nm : String} {h : mH} {i : Nat} (hi : i + 4 ≤ E.2.2.2.2.2.1.1) (hL : E.2.2.2.2.2.1.1 ≤ 2048) (I : INV h) (kc : ∀ (E1 : mE) (h1 : mH), E1.2.2.2.2.2.1 = E.2.2.2.2.2.1 → INV h1 → mG E1 (mL nm) mKL 737 (LL i) [] aL h1) : mG E (mL nm) mKL 26 (LL i) [] aL h := by
  refine mG_aload_n dL_law_26 rfl ?_
  refine mG_iload_n dL_law_27 rfl ?_
  refine mG_tald (t := 5) dL_law_28 (by decide) (sc_at (j := 0) hi hL (by decide)).1 (sc_at (j := 0) hi hL (by decide)).2 ?_
  refine mG_bipush (v := nI 31) dL_law_29 (by decide) ?_
  refine mG_iand dL_law_31 ?_
  obtain ⟨k, hk, e⟩ := and31 (mTF E 5 i)
  rw [e]
  have eI : (nI k).toInt = (k : Int) := nI_toInt (by omega)
  by_cases q : k < 24
  · rcases (show k = 0 ∨ k = 1 ∨ k = 2 ∨ k = 3 ∨ k = 4 ∨ k = 5 ∨ k = 6 ∨ k = 7 ∨ k = 8 ∨ k = 9 ∨ k = 10 ∨ k = 11 ∨ k = 12 ∨ k = 13 ∨ k = 14 ∨ k = 15 ∨ k = 16 ∨ k = 17 ∨ k = 18 ∨ k = 19 ∨ k = 20 ∨ k = 21 ∨ k = 22 ∨ k = 23 by omega) with rfl | rfl | rfl | rfl | rfl | rfl | rfl | rfl | rfl | rfl | rfl | rfl | rfl | rfl | rfl | rfl | rfl | rfl | rfl | rfl | rfl | rfl | rfl | rfl
    · exact mG_tableIn (tgt := 144) dL_law_32 (by rw [eI]; decide) (by rw [eI]; decide) (by rw [eI]; rfl) (by decide) (law_type hi hL I kc)
    · exact mG_tableIn (tgt := 167) dL_law_32 (by rw [eI]; decide) (by rw [eI]; decide) (by rw [eI]; rfl) (by decide) (law_clear hi hL I kc)
    · exact mG_tableIn (tgt := 180) dL_law_32 (by rw [eI]; decide) (by rw [eI]; decide) (by rw [eI]; rfl) (by decide) (law_desk hi hL I kc)
    · exact mG_tableIn (tgt := 193) dL_law_32 (by rw [eI]; decide) (by rw [eI]; decide) (by rw [eI]; rfl) (by decide) (law_side hi hL I kc)
    · exact mG_tableIn (tgt := 226) dL_law_32 (by rw [eI]; decide) (by rw [eI]; decide) (by rw [eI]; rfl) (by decide) (law_cube hi hL I kc)
    · exact mG_tableIn (tgt := 259) dL_law_32 (by rw [eI]; decide) (by rw [eI]; decide) (by rw [eI]; rfl) (by decide) (law_place hi hL I kc)
    · exact mG_tableIn (tgt := 282) dL_law_32 (by rw [eI]; decide) (by rw [eI]; decide) (by rw [eI]; rfl) (by decide) (law_day hi hL I kc)
    · exact mG_tableIn (tgt := 305) dL_law_32 (by rw [eI]; decide) (by rw [eI]; decide) (by rw [eI]; rfl) (by decide) (law_turn hi hL I kc)
    · exact mG_tableIn (tgt := 338) dL_law_32 (by rw [eI]; decide) (by rw [eI]; decide) (by rw [eI]; rfl) (by decide) (law_changes hi hL I kc)
    · exact mG_tableIn (tgt := 371) dL_law_32 (by rw [eI]; decide) (by rw [eI]; decide) (by rw [eI]; rfl) (by decide) (law_pastes hi hL I kc)
    · exact mG_tableIn (tgt := 414) dL_law_32 (by rw [eI]; decide) (by rw [eI]; decide) (by rw [eI]; rfl) (by decide) (law_undo hi hL I kc)
    · exact mG_tableIn (tgt := 427) dL_law_32 (by rw [eI]; decide) (by rw [eI]; decide) (by rw [eI]; rfl) (by decide) (law_now hi hL I kc)
    · exact mG_tableIn (tgt := 450) dL_law_32 (by rw [eI]; decide) (by rw [eI]; decide) (by rw [eI]; rfl) (by decide) (law_number hi hL I kc)
    · exact mG_tableIn (tgt := 483) dL_law_32 (by rw [eI]; decide) (by rw [eI]; decide) (by rw [eI]; rfl) (by decide) (law_through hi hL I kc)
    · exact mG_tableIn (tgt := 516) dL_law_32 (by rw [eI]; decide) (by rw [eI]; decide) (by rw [eI]; rfl) (by decide) (law_odds hi hL I kc)
    · exact mG_tableIn (tgt := 549) dL_law_32 (by rw [eI]; decide) (by rw [eI]; decide) (by rw [eI]; rfl) (by decide) (law_sees hi hL I kc)
    · exact mG_tableIn (tgt := 582) dL_law_32 (by rw [eI]; decide) (by rw [eI]; decide) (by rw [eI]; rfl) (by decide) (law_forget hi hL I kc)
    · exact mG_tableIn (tgt := 595) dL_law_32 (by rw [eI]; decide) (by rw [eI]; decide) (by rw [eI]; rfl) (by decide) (law_which hi hL I kc)
    · exact mG_tableIn (tgt := 608) dL_law_32 (by rw [eI]; decide) (by rw [eI]; decide) (by rw [eI]; rfl) (by decide) (law_look hi hL I kc)
    · exact mG_tableIn (tgt := 621) dL_law_32 (by rw [eI]; decide) (by rw [eI]; decide) (by rw [eI]; rfl) (by decide) (law_mark hi hL I kc)
    · exact mG_tableIn (tgt := 654) dL_law_32 (by rw [eI]; decide) (by rw [eI]; decide) (by rw [eI]; rfl) (by decide) (law_keep hi hL I kc)
    · exact mG_tableIn (tgt := 677) dL_law_32 (by rw [eI]; decide) (by rw [eI]; decide) (by rw [eI]; rfl) (by decide) (law_back hi hL I kc)
    · exact mG_tableIn (tgt := 700) dL_law_32 (by rw [eI]; decide) (by rw [eI]; decide) (by rw [eI]; rfl) (by decide) (law_count hi hL I kc)
    · exact mG_tableIn (tgt := 723) dL_law_32 (by rw [eI]; decide) (by rw [eI]; decide) (by rw [eI]; rfl) (by decide) (law_trace hi hL I kc)
  · exact mG_tableOut (tgt := 737) dL_law_32 (by rw [eI]; right; omega) (by decide) (kc E h rfl I)
set_option maxRecDepth 100000 in
set_option maxHeartbeats 4000000 in
theorem law_loop {nm : String} : ∀ (k i : Nat) (E : mE) (h : mH), E.2.2.2.2.2.1.1 ≤ 2048 → i ≤ 2048 → E.2.2.2.2.2.1.1 < i + 4 + 4 * k → INV h → mG E (mL nm) mKL 18 (LL i) [] aL h := by
  intro k
  induction k with
  | zero =>
    intro i E h hL hi hk I
    refine mG_iload_n dL_law_18 rfl ?_
    refine mG_aload_n dL_law_19 rfl ?_
    refine mG_tlen (t := 5) dL_law_20 (by decide) ?_
    refine mG_iconst (v := nI 4) dL_law_21 (by decide) ?_
    refine mG_isub dL_law_22 ?_
    have e : mTL E 5 = E.2.2.2.2.2.1.1 := rfl
    rw [e]
    refine mG_icmp_gt dL_law_23 (fun c => ?_) (fun c => absurd ((len_lt hL (by omega)).mpr (by omega)) c)
    exact mG_iconst (v := 1) dL_law_743 (by decide) (mG_end dL_law_744)
  | succ k ih =>
    intro i E h hL hi hk I
    refine mG_iload_n dL_law_18 rfl ?_
    refine mG_aload_n dL_law_19 rfl ?_
    refine mG_tlen (t := 5) dL_law_20 (by decide) ?_
    refine mG_iconst (v := nI 4) dL_law_21 (by decide) ?_
    refine mG_isub dL_law_22 ?_
    have e : mTL E 5 = E.2.2.2.2.2.1.1 := rfl
    rw [e]
    refine mG_icmp_gt dL_law_23 (fun c => ?_) (fun c => ?_)
    · exact mG_iconst (v := 1) dL_law_743 (by decide) (mG_end dL_law_744)
    · have c2 : i + 4 ≤ E.2.2.2.2.2.1.1 := by
        have := mt (len_lt hL (show i ≤ 4096 by omega)).mpr c
        omega
      refine law_body c2 hL I (fun E1 h1 eE I1 => ?_)
      refine mG_iinc (v := nI (i + 4)) (L' := LL (i + 4)) dL_law_737 rfl (by rw [show Int32.ofInt 4 = nI 4 from by decide]; exact nI_add i 4) (Nat.le_of_ble_eq_true rfl) rfl rfl ?_
      refine mG_goto dL_law_740 ?_
      exact ih (i + 4) E1 h1 (by rw [eE]; exact hL) (by omega) (by rw [eE]; omega) I1
/-- both are new -/
theorem INV_new {h : mH} (C : CZ h) (R : RZ h) : INV h := by
  refine ⟨_, _, _, _, _, _, _, _, _, _, _, _, _, _, _, _, _, _, _, _, _, _, _, _, _, _, _, _, _, _, C, R, rfl, rfl, rfl, fun j hj => absurd hj (Nat.not_lt_zero _), ⟨⟨fun j hj => absurd hj (by omega), fun p hp => absurd hp (Nat.not_lt_zero _), fun c hc => ?_, mUp_eq _ _ _⟩, fun p hp => ?_⟩, rfl, True.intro, ⟨rfl, fun w => Bool.noConfusion w⟩, ⟨rfl, fun w => Bool.noConfusion w⟩, toR_all (Nat.zero_le _) z0⟩
  · unfold bgF
    rw [mUp_ne _ _ (by omega)]
    unfold atF
    rw [if_neg (by omega), if_pos (by omega)]
  · unfold bgF
    rw [mUp_ne _ _ (by omega)]
    unfold atF
    rw [if_pos (by omega)]
    omega
set_option maxRecDepth 100000 in
set_option maxHeartbeats 4000000 in
theorem law_start {E : mE} {nm : String} {h : mH} (hb : E.2.2.2.2.2.2 = false) (hL : E.2.2.2.2.2.1.1 ≤ 2048) : mG E (mL nm) mKL 0 [some (.ref 1005), none, none, none] [] (0, 0, 0) h := by
  refine mG_new (ci := 7) (fs := [.null, .null, .null, .null, .null, .null, .null, .null, .null, .null, .long 0]) tyX7 dL_law_0 hb rfl wi_X7 tyX7_ok qL_7 w_inst_X7 w_init_X7 (fun j hj => by
      rcases (show j = 0 ∨ j = 1 ∨ j = 2 ∨ j = 3 ∨ j = 4 ∨ j = 5 ∨ j = 6 ∨ j = 7 ∨ j = 8 ∨ j = 9 ∨ j = 10 by omega) with rfl | rfl | rfl | rfl | rfl | rfl | rfl | rfl | rfl | rfl | rfl <;> rfl) (by decide) (Nat.le_of_ble_eq_true rfl) (Nat.le_of_ble_eq_true rfl) ?_
  refine mG_at (1, 1, 11) rfl ?_
  refine mG_dup dL_law_3 rfl ?_
  refine mG_ctor (R' := mRa 2 39 897) wy_X7_init wm_L_9 w_ii_X7 rfl dL_law_4 ⟨Nat.le_of_ble_eq_true rfl, Nat.le_of_ble_eq_true rfl⟩ (Nat.le_of_ble_eq_true rfl) ⟨Nat.le_of_ble_eq_true rfl, Nat.le_of_ble_eq_true rfl⟩ (by decide) rfl (fun q => by rw [hb] at q; cases q) (ct_X7 hb rfl) (fun r h1 q => ?_)
  obtain ⟨rfl, hC⟩ := q
  refine mG_at (40, 40, 908) rfl ?_
  refine mG_astore_n (L' := [some (.ref 1005), some (.ref 0), none, none]) dL_law_7 (Nat.le_of_ble_eq_true rfl) rfl rfl ?_
  refine mG_new (ci := 8) (fs := [.null, vN 0, .null, .null, .null, .null, .null, vN 0, vN 0, vN 0, vN 0, vB false, vN 0, .null, .null, .null, .null, .null, .null, .null, vN 0, .null, .null, vN 0, .long 0]) tyX8 dL_law_8 hb rfl wi_X8 tyX8_ok qL_10 w_inst_X8 w_init_X8 (fun j hj => by
      rcases (show j = 0 ∨ j = 1 ∨ j = 2 ∨ j = 3 ∨ j = 4 ∨ j = 5 ∨ j = 6 ∨ j = 7 ∨ j = 8 ∨ j = 9 ∨ j = 10 ∨ j = 11 ∨ j = 12 ∨ j = 13 ∨ j = 14 ∨ j = 15 ∨ j = 16 ∨ j = 17 ∨ j = 18 ∨ j = 19 ∨ j = 20 ∨ j = 21 ∨ j = 22 ∨ j = 23 ∨ j = 24 by omega) with rfl | rfl | rfl | rfl | rfl | rfl | rfl | rfl | rfl | rfl | rfl | rfl | rfl | rfl | rfl | rfl | rfl | rfl | rfl | rfl | rfl | rfl | rfl | rfl | rfl <;> rfl) (by decide) (Nat.le_of_ble_eq_true rfl) (Nat.le_of_ble_eq_true rfl) ?_
  refine mG_at (41, 41, 933) rfl ?_
  refine mG_dup dL_law_11 rfl ?_
  refine mG_ctor (R' := mRa 4 15 1552) wy_X8_init wm_L_12 w_ii_X8 rfl dL_law_12 ⟨Nat.le_of_ble_eq_true rfl, Nat.le_of_ble_eq_true rfl⟩ (Nat.le_of_ble_eq_true rfl) ⟨Nat.le_of_ble_eq_true rfl, Nat.le_of_ble_eq_true rfl⟩ (by decide) rfl (fun q => by rw [hb] at q; cases q) (ct_X8 hb rfl) (fun r h2 q => ?_)
  obtain ⟨rfl, hR, hE⟩ := q
  refine mG_at aL rfl ?_
  refine mG_astore_n (L' := [some (.ref 1005), some (.ref 0), some (.ref 40), none]) dL_law_15 (Nat.le_of_ble_eq_true rfl) rfl rfl ?_
  refine mG_iconst (v := nI 0) dL_law_16 (by decide) ?_
  refine mG_istore_n (L' := LL 0) dL_law_17 (Nat.le_of_ble_eq_true rfl) rfl rfl ?_
  exact law_loop 512 0 E h2 hL (by decide) (by omega) (INV_new (CI_cong hC (fun b hb => (hE b hb).trans (by simp only [mU, show ¬ b = 40 from by omega, if_false]))) hR)
