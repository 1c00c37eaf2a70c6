/-! leastThrough -/
def wnI (cu fm k : Nat) (w : Nat → Nat) : Nat → Nat := twF k cu w (fm + k - 1)
def wnF (cu fm la : Nat) (w : Nat → Nat) : Nat → Nat := iterF (wnI cu fm) 1 la w
theorem twF_lt (k : Nat) : ∀ q w r, (∀ j, j < 16 → w j < 10) → ∀ j, j < 16 → twF k q w r j < 10 := by
  intro q
  induction q with
  | zero => intro w r hw; exact hw
  | succ q ih =>
    intro w r hw
    refine ih _ _ (fun j hj => ?_)
    by_cases e : j = k * 4 + q
    · rw [e, mUp_eq]; omega
    · rw [mUp_ne _ _ e]; exact hw j hj
abbrev mL4 : Type := ((Nat → Nat) × (Nat → Nat)) × (Nat → Nat) × (Nat → Nat)
def ltS (nf fr ca : Nat → Nat) (bo : Bool) (cu : Nat) (wa : Nat → Nat) (la c : Nat) (y : mL4) : mL4 := (rtF nf fr bo cu wa la c y.1, mUp y.2.1 c (ca c), mUp y.2.2 c 0)
def ltX (nf fr ca : Nat → Nat) (bo : Bool) (cu : Nat) (wa : Nat → Nat) (la : Nat) (y : mL4) : mL4 := iterF (ltS nf fr ca bo cu wa la) 0 cu y
def ltZ (nf fr ca : Nat → Nat) (bo : Bool) (cu la : Nat) (wa pl : Nat → Nat) (y : mL4) : mT4 := chF (ltX nf fr ca bo cu wa la y).1.2 cu la 20 1 0 0 (nI 0) ((ltX nf fr ca bo cu wa la y).2.1, pl, (ltX nf fr ca bo cu wa la y).2.2, nI 1000)
/-- the least WORK through la numbers from fm on; w, pl, y: what lay in the rows before -/
def ltA (nf fr ca : Nat → Nat) (bo : Bool) (cu la fm : Nat) (w pl : Nat → Nat) (y : mL4) : Int32 := if (ltZ nf fr ca bo cu la (wnF cu fm la w) pl y).2.2.2 = nI 1000 then -9 else (ltZ nf fr ca bo cu la (wnF cu fm la w) pl y).2.2.2
def l4ok (pl : Nat → Nat) (y : mL4) : Prop := (∀ j, j < 24 → y.1.1 j ≤ 1000) ∧ (∀ j, j < 16 → y.2.1 j < 4) ∧ (∀ j, j < 16 → pl j < 4) ∧ ∀ k c, k ≤ 3 → c < 4 → y.2.2 (k * 4 + c) ≤ Bd k
theorem ltS_ok {nf fr ca : Nat → Nat} {bo : Bool} {cu : Nat} {wa pl : Nat → Nat} {la c : Nat} {y : mL4} (hca : ca c < 4) (hc : c < 4) (h : l4ok pl y) : l4ok pl (ltS nf fr ca bo cu wa la c y) := by
  refine ⟨?_, fun j hj => ?_, h.2.2.1, fun k' c' hk' hc' => ?_⟩
  · exact rpF_le nf bo cu wa c la 1 0 _ (rtI_le fr c 6 0 y.1.1 h.1)
  · show mUp y.2.1 c (ca c) j < 4
    by_cases q : j = c
    · rw [q, mUp_eq]; exact hca
    · rw [mUp_ne _ _ q]; exact h.2.1 j hj
  · show mUp y.2.2 c 0 (k' * 4 + c') ≤ Bd k'
    by_cases q : k' * 4 + c' = c
    · rw [q, mUp_eq]; exact Nat.zero_le _
    · rw [mUp_ne _ _ q]; exact h.2.2.2 k' c' hk' hc'
/-- the heap behind it -/
def hL (h : mH) (w : Nat → Nat) (cu la : Nat) (be : Int32) (pl : Nat → Nat) (y : mL4) : mH := hW (mU (mU (mU h 22 (mAr 16 w)) 26 (mAr 24 y.1.1)) 27 (mAr 340 y.1.2)) cu la (y.2.1, pl, y.2.2, be)
theorem hL_step (h : mH) (w0 c1 c2 c3 c4 c5 c6 d2 d3 d5 d6 : mC) : mU (mU (mU (mU (mU (mU (mU (mU (mU (mU (mU h 22 w0) 26 c1) 27 c2) 21 c3) 23 c4) 24 c5) 25 c6) 26 d2) 27 d3) 23 d5) 25 d6 = mU (mU (mU (mU (mU (mU (mU h 22 w0) 26 d2) 27 d3) 21 c3) 23 d5) 24 c5) 25 d6 := by
  funext j
  unfold mU
  by_cases q1 : j = 25
  · simp [q1]
  · by_cases q2 : j = 23
    · simp [q2]
    · by_cases q3 : j = 27
      · simp [q3]
      · by_cases q4 : j = 26 <;> simp [q1, q2, q3, q4]
set_option maxRecDepth 100000 in
set_option maxHeartbeats 4000000 in
theorem lp_X6_lt2 {E : mE} {h : mH} {x5 : Option Value} {cu dc it dn wk la fm : Nat} {bo : Bool} {be : Int32} {nf ca fr wa w0 pl : Nat → Nat} {y0 Y : mL4} (e3 : h 3 = oTold cu dc it bo) (e9 : h 9 = oNow dn wk) (e10 : h 10 = mAr 24 nf) (e11 : h 11 = mAr 4 ca) (e12 : h 12 = mAr 4 fr) (hcu : cu ≤ 4) (hla : la ≤ 3) (hl1 : 1 ≤ la) (hf : ∀ j, j < cu * 6 → nf j < 10) (hfr : ∀ j, j < cu → fr j < 6) (hca : ∀ j, j < cu → ca j < 4) (hfm : fm ≤ 10000) (hwa : ∀ j, j < 16 → wa j < 10) (hw0 : wa = wnF cu fm la w0) (hY : Y = ltX nf fr ca bo cu wa la y0) : ∀ (n i : Nat) (y : mL4), i + n = cu → l4ok pl y → Y = iterF (ltS nf fr ca bo cu wa la) i n y → mG E (mR 44, zX6_leastThrough) (mKq E (mR 44) mN (fun r h' => r = some (.int (ltA nf fr ca bo cu la fm w0 pl y0)) ∧ ∃ w pl be y, (∀ j, j < 16 → w j < 10) ∧ l4ok pl y ∧ h' = hL h w cu la be pl y)) 57 [some (.ref 21), some (.ref 3), some (.ref 9), some (vN fm), some (vN la), some (vN i)] [] (mN, 0, 0) (hL h wa cu la be pl y) := by
  intro n
  induction n with
  | zero =>
    intro i y hk hy hT
    refine mG_iload dX6_leastThrough_57 rfl ?_
    refine mG_aload_n dX6_leastThrough_59 rfl ?_
    refine mG_get fX6_44 dX6_leastThrough_60 rfl (Nat.le_of_ble_eq_true rfl) rfl ?_
    refine mG_icmp_geN dX6_leastThrough_63 (by omega) (by omega) (fun c63 => ?_) (fun c63 => absurd c63 (by omega))
    refine mG_aload_n dX6_leastThrough_103 rfl ?_
    refine mG_sipush (v := nI 1000) dX6_leastThrough_104 (by decide) ?_
    refine mG_putI pX6_59 dX6_leastThrough_107 rfl (Nat.le_of_ble_eq_true rfl) (Nat.le_of_ble_eq_true rfl) ?_
    refine mG_aload_n dX6_leastThrough_110 rfl ?_
    refine mG_iconst (v := nI 1) dX6_leastThrough_111 (by decide) ?_
    refine mG_iconst (v := nI 0) dX6_leastThrough_112 (by decide) ?_
    refine mG_iconst (v := nI 0) dX6_leastThrough_113 (by decide) ?_
    refine mG_iconst (v := nI 0) dX6_leastThrough_114 (by decide) ?_
    obtain rfl : Y = y := hT
    have hch := ok_X6_choose (E := E) (h := mU (mU (mU h 22 (mAr 16 wa)) 26 (mAr 24 Y.1.1)) 27 (mAr 340 Y.1.2)) (cu := cu) (la := la) (T := Y.1.2) rfl hcu hla 20 1 0 0 (nI 0) (Y.2.1, pl, Y.2.2, nI 1000) (Nat.le_refl _) hl1 (Nat.zero_le _) (by decide) (by
          have h1 : (la - 1) * (cu + 2) ≤ 2 * 6 := Nat.mul_le_mul (by omega) (by omega)
          omega) ⟨hy.2.1, hy.2.2.1, hy.2.2.2⟩
    refine mG_heap (hW_best _ _ _ _ _ _) ?_
    refine mG_cw4 vX6_62 dX6_leastThrough_115 (mLe_s (by omega) (by decide)) (Nat.le_of_ble_eq_true rfl) rfl (Nat.le_of_ble_eq_true rfl) hch ?_
    have hzz : chF Y.1.2 cu la 20 1 0 0 (nI 0) (Y.2.1, pl, Y.2.2, nI 1000) = ltZ nf fr ca bo cu la (wnF cu fm la w0) pl y0 := by rw [← hw0, hY]; rfl
    have hzo := chF_ok Y.1.2 hcu hla 20 1 0 0 (nI 0) (Y.2.1, pl, Y.2.2, nI 1000) (Nat.le_refl _) hl1 (Nat.zero_le _) ⟨hy.2.1, hy.2.2.1, hy.2.2.2⟩
    generalize chF Y.1.2 cu la 20 1 0 0 (nI 0) (Y.2.1, pl, Y.2.2, nI 1000) = Z at hzz hzo ⊢
    refine mG_aload_n dX6_leastThrough_118 rfl ?_
    refine mG_get fX6_59 dX6_leastThrough_119 rfl (Nat.le_of_ble_eq_true rfl) rfl ?_
    refine mG_sipush (v := nI 1000) dX6_leastThrough_122 (by decide) ?_
    refine mG_icmp_ne dX6_leastThrough_125 (fun c125 => ?_) (fun c125 => ?_)
    · refine mG_aload_n dX6_leastThrough_133 rfl ?_
      refine mG_get fX6_59 dX6_leastThrough_134 rfl (Nat.le_of_ble_eq_true rfl) rfl ?_
      exact mG_iret dX6_leastThrough_137 rfl ⟨by first | (simp only [ltA, ← hzz, if_pos c125]; done) | (simp only [ltA, ← hzz, if_neg c125]; done), wa, Z.2.1, Z.2.2.2, (Y.1, Z.1, Z.2.2.1), hwa, ⟨hy.1, hzo.1, hzo.2.1, hzo.2.2⟩, rfl⟩
    · refine mG_bipush (v := (-9)) dX6_leastThrough_128 (by decide) ?_
      refine mG_goto dX6_leastThrough_130 ?_
      exact mG_iret dX6_leastThrough_137 rfl ⟨by first | (simp only [ltA, ← hzz, if_pos c125]; done) | (simp only [ltA, ← hzz, if_neg c125]; done), wa, Z.2.1, Z.2.2.2, (Y.1, Z.1, Z.2.2.1), hwa, ⟨hy.1, hzo.1, hzo.2.1, hzo.2.2⟩, rfl⟩
  | succ n ih =>
    intro i y hk hy hT
    refine mG_iload dX6_leastThrough_57 rfl ?_
    refine mG_aload_n dX6_leastThrough_59 rfl ?_
    refine mG_get fX6_44 dX6_leastThrough_60 rfl (Nat.le_of_ble_eq_true rfl) rfl ?_
    have hci := hca i (by omega)
    refine mG_icmp_geN dX6_leastThrough_63 (by omega) (by omega) (fun c63 => absurd c63 (by omega)) (fun c63 => ?_)
    refine mG_aload_n dX6_leastThrough_66 rfl ?_
    refine mG_iload dX6_leastThrough_67 rfl ?_
    refine mG_cw1 vX6_52 dX6_leastThrough_69 (mLe_s (by omega) (by decide)) (Nat.le_of_ble_eq_true rfl) rfl (Nat.le_of_ble_eq_true rfl) (ok_X6_turns e3 e9 e10 rfl rfl e12 rfl rfl hcu (by omega) hf hwa hfr hla hy.1) ?_
    refine mG_aload_n dX6_leastThrough_72 rfl ?_
    refine mG_get fX6_15 dX6_leastThrough_73 rfl (Nat.le_of_ble_eq_true rfl) rfl ?_
    refine mG_iload dX6_leastThrough_76 rfl ?_
    refine mG_aload_n dX6_leastThrough_78 rfl ?_
    refine mG_get fX6_34 dX6_leastThrough_79 rfl (Nat.le_of_ble_eq_true rfl) rfl ?_
    refine mG_get fX6_56 dX6_leastThrough_82 e9 (Nat.le_of_ble_eq_true rfl) rfl ?_
    refine mG_iload dX6_leastThrough_85 rfl ?_
    refine mG_ialdA dX6_leastThrough_87 e11 (Nat.le_of_ble_eq_true rfl) (by decide) (by omega) ?_
    refine mG_iastA dX6_leastThrough_88 rfl (Nat.le_of_ble_eq_true rfl) (by decide) (by omega) ?_
    refine mG_aload_n dX6_leastThrough_89 rfl ?_
    refine mG_get fX6_21 dX6_leastThrough_90 rfl (Nat.le_of_ble_eq_true rfl) rfl ?_
    refine mG_iload dX6_leastThrough_93 rfl ?_
    refine mG_iconst (v := nI 0) dX6_leastThrough_95 (by decide) ?_
    refine mG_iastA dX6_leastThrough_96 rfl (Nat.le_of_ble_eq_true rfl) (by decide) (by omega) ?_
    refine mG_iincN dX6_leastThrough_97 rfl (Nat.le_of_ble_eq_true rfl) rfl rfl ?_
    refine mG_goto dX6_leastThrough_100 ?_
    refine mG_heap (h' := hL h wa cu la be pl (ltS nf fr ca bo cu wa la i y)) (hL_step _ _ _ _ _ _ _ _ _ _ _ _) ?_
    exact ih (i + 1) _ (by omega) (ltS_ok hci (by omega) hy) hT
set_option maxRecDepth 100000 in
set_option maxHeartbeats 4000000 in
theorem lp_X6_lt1 {E : mE} {h : mH} {cu la fm : Nat} {K : mKt} {T : Nat → Nat} {be : Int32} (e21 : h 21 = oWalk (.ref 3) (.ref 9) cu la be) (hcu : cu ≤ 4) (hla : la ≤ 3) (hfm : fm ≤ 10000) (kx : ∀ x5, (∀ j, j < 16 → T j < 10) → mG E (mR 44, zX6_leastThrough) K 54 [some (.ref 21), some (.ref 3), some (.ref 9), some (vN fm), some (vN la), x5] [] (mN, 0, 0) (mU h 22 (mAr 16 T))) : ∀ (n i : Nat) (w : Nat → Nat), i + n = la + 1 → 1 ≤ i → (∀ j, j < 16 → w j < 10) → T = iterF (wnI cu fm) i n w → mG E (mR 44, zX6_leastThrough) K 27 [some (.ref 21), some (.ref 3), some (.ref 9), some (vN fm), some (vN la), some (vN i)] [] (mN, 0, 0) (mU h 22 (mAr 16 w)) := by
  intro n
  induction n with
  | zero =>
    intro i w hk hi hw hT
    refine mG_iload dX6_leastThrough_27 rfl ?_
    refine mG_aload_n dX6_leastThrough_29 rfl ?_
    refine mG_get fX6_45 dX6_leastThrough_30 e21 (Nat.le_of_ble_eq_true rfl) rfl ?_
    refine mG_icmp_gtN dX6_leastThrough_33 (by omega) (by omega) (fun c33 => ?_) (fun c33 => absurd c33 (by omega))
    obtain rfl : T = w := hT
    exact kx _ hw
  | succ n ih =>
    intro i w hk hi hw hT
    refine mG_iload dX6_leastThrough_27 rfl ?_
    refine mG_aload_n dX6_leastThrough_29 rfl ?_
    refine mG_get fX6_45 dX6_leastThrough_30 e21 (Nat.le_of_ble_eq_true rfl) rfl ?_
    refine mG_icmp_gtN dX6_leastThrough_33 (by omega) (by omega) (fun c33 => absurd c33 (by omega)) (fun c33 => ?_)
    refine mG_aload_n dX6_leastThrough_36 rfl ?_
    refine mG_iload dX6_leastThrough_37 rfl ?_
    refine mG_iload_n dX6_leastThrough_39 rfl ?_
    refine mG_iload dX6_leastThrough_40 rfl ?_
    refine mG_iaddN dX6_leastThrough_42 ?_
    refine mG_iconst (v := nI 1) dX6_leastThrough_43 (by decide) ?_
    refine mG_isubN dX6_leastThrough_44 (by omega) ?_
    refine mG_cw2 vX6_48 dX6_leastThrough_45 (mLe_s (by omega) (by decide)) (Nat.le_of_ble_eq_true rfl) e21 (Nat.le_of_ble_eq_true rfl) (ok_X6_wanted e21 rfl (by omega) hcu (by omega)) ?_
    refine mG_iincN dX6_leastThrough_48 rfl (Nat.le_of_ble_eq_true rfl) rfl rfl ?_
    refine mG_goto dX6_leastThrough_51 ?_
    rw [mU_same]
    exact ih (i + 1) _ (by omega) (by omega) (twF_lt _ _ _ _ hw) hT
theorem hL_start (h : mH) (cu la : Nat) (wa pl : Nat → Nat) (be : Int32) (y : mL4) (w' : mC) (e23 : h 23 = mAr 16 y.2.1) (e24 : h 24 = mAr 16 pl) (e25 : h 25 = mAr 16 y.2.2) (e26 : h 26 = mAr 24 y.1.1) (e27 : h 27 = mAr 340 y.1.2) : mU (mU h 21 (oWalk (.ref 3) (.ref 9) cu la be)) 22 (mAr 16 wa) = hL h wa cu la be pl y := by
  funext j
  unfold hL hW mU
  by_cases q1 : j = 25
  · subst q1; simp [e25]
  · by_cases q2 : j = 24
    · subst q2; simp [e24]
    · by_cases q3 : j = 23
      · subst q3; simp [e23]
      · by_cases q4 : j = 21
        · subst q4; simp
        · by_cases q5 : j = 27
          · subst q5; simp [e27]
          · by_cases q6 : j = 26
            · subst q6; simp [e26]
            · simp [q1, q2, q3, q4, q5, q6]
set_option maxRecDepth 100000 in
set_option maxHeartbeats 4000000 in
theorem ok_X6_least {E : mE} {h : mH} {cu dc it dn wk la fm c0 la0 : Nat} {bo : Bool} {be : Int32} {nf ca fr w pl : Nat → Nat} {y : mL4} {tv nv : Value} (e3 : h 3 = oTold cu dc it bo) (e9 : h 9 = oNow dn wk) (e10 : h 10 = mAr 24 nf) (e11 : h 11 = mAr 4 ca) (e12 : h 12 = mAr 4 fr) (e21 : h 21 = oWalk tv nv c0 la0 be) (e22 : h 22 = mAr 16 w) (e23 : h 23 = mAr 16 y.2.1) (e24 : h 24 = mAr 16 pl) (e25 : h 25 = mAr 16 y.2.2) (e26 : h 26 = mAr 24 y.1.1) (e27 : h 27 = mAr 340 y.1.2) (hcu : cu ≤ 4) (hla : la ≤ 3) (hl1 : 1 ≤ la) (hf : ∀ j, j < cu * 6 → nf j < 10) (hfr : ∀ j, j < cu → fr j < 6) (hca : ∀ j, j < cu → ca j < 4) (hfm : fm ≤ 10000) (hw : ∀ j, j < 16 → w j < 10) (hy : l4ok pl y) : mOk E 44 zX6_leastThrough [.ref 21, .ref 3, .ref 9, vN fm, vN la] h (fun r h' => r = some (.int (ltA nf fr ca bo cu la fm w pl y)) ∧ ∃ w1 p1 b1 y1, (∀ j, j < 16 → w1 j < 10) ∧ l4ok p1 y1 ∧ h' = hL h w1 cu la b1 p1 y1) := by
  refine mOk_w (L := [some (.ref 21), some (.ref 3), some (.ref 9), some (vN fm), some (vN la), none]) pn_X6 rfl (Nat.le_of_ble_eq_true rfl) rfl ?_
  refine mG_aload_n dX6_leastThrough_0 rfl ?_
  refine mG_aload_n dX6_leastThrough_1 rfl ?_
  refine mG_putO pX6_30 dX6_leastThrough_2 e21 (Nat.le_of_ble_eq_true rfl) (Nat.le_of_ble_eq_true rfl) ?_
  refine mG_aload_n dX6_leastThrough_5 rfl ?_
  refine mG_aload_n dX6_leastThrough_6 rfl ?_
  refine mG_putO pX6_34 dX6_leastThrough_7 rfl (Nat.le_of_ble_eq_true rfl) (Nat.le_of_ble_eq_true rfl) ?_
  refine mG_aload_n dX6_leastThrough_10 rfl ?_
  refine mG_aload_n dX6_leastThrough_11 rfl ?_
  refine mG_get fX6_38 dX6_leastThrough_12 e3 (Nat.le_of_ble_eq_true rfl) rfl ?_
  refine mG_putI pX6_44 dX6_leastThrough_15 rfl (Nat.le_of_ble_eq_true rfl) (Nat.le_of_ble_eq_true rfl) ?_
  refine mG_aload_n dX6_leastThrough_18 rfl ?_
  refine mG_iload dX6_leastThrough_19 rfl ?_
  refine mG_putI pX6_45 dX6_leastThrough_21 rfl (Nat.le_of_ble_eq_true rfl) (Nat.le_of_ble_eq_true rfl) ?_
  refine mG_iconst (v := nI 1) dX6_leastThrough_24 (by decide) ?_
  refine mG_istore dX6_leastThrough_25 (Nat.le_of_ble_eq_true rfl) rfl rfl ?_
  simp only [mU_same]
  have q := lp_X6_lt1 (E := E) (h := mU h 21 (oWalk (.ref 3) (.ref 9) cu la be)) (K := mKq E (mR 44) mN (fun r h' => r = some (.int (ltA nf fr ca bo cu la fm w pl y)) ∧ ∃ w1 p1 b1 y1, (∀ j, j < 16 → w1 j < 10) ∧ l4ok p1 y1 ∧ h' = hL h w1 cu la b1 p1 y1)) (fm := fm) (T := wnF cu fm la w) (be := be) rfl hcu hla hfm (fun x5 hT => ?_) la 1 w (by omega) (Nat.le_refl _) hw rfl
  · rw [mU_self (mU h 21 (oWalk (.ref 3) (.ref 9) cu la be)) 22 _ e22] at q
    exact q
  · rw [hL_start h cu la (wnF cu fm la w) pl be y (mAr 0 pl) e23 e24 e25 e26 e27]
    refine mG_iconst (v := nI 0) dX6_leastThrough_54 (by decide) ?_
    refine mG_istore dX6_leastThrough_55 (Nat.le_of_ble_eq_true rfl) rfl rfl ?_
    exact lp_X6_lt2 (E := E) (h := h) (x5 := none) (Y := ltX nf fr ca bo cu (wnF cu fm la w) la y) (y0 := y) e3 e9 e10 e11 e12 hcu hla hl1 hf hfr hca hfm hT rfl rfl cu 0 y (Nat.zero_add _) hy rfl
