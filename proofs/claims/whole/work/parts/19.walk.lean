/-! Walk -/
abbrev oWalk (tv nv : Value) (cu la : Nat) (be : Int32) : mC := mOb 6 [.ref 22, .ref 23, .ref 24, .ref 25, .ref 26, .ref 27, tv, nv, vN cu, vN la, .int be]
def Bd : Nat → Nat
  | 0 => 0
  | 1 => 4
  | 2 => 20
  | _ => 84
theorem Bd_le {k b p : Nat} (hk : 1 ≤ k) (hk3 : k ≤ 3) (hb : b ≤ Bd (k - 1)) (hp : p < 4) : b * 4 + p + 1 ≤ Bd k ∧ Bd k ≤ 84 := by
  rcases (show k = 1 ∨ k = 2 ∨ k = 3 by omega) with rfl | rfl | rfl <;> simp only [Bd] at hb ⊢ <;> omega
theorem tW_le (s t : Nat) : tW s t ≤ 2 := by
  unfold tW
  split
  · omega
  · split <;> omega
def mnW (g : Nat → Nat) (k s : Nat) : Nat → Nat
  | 0 => 1000
  | t + 1 => min (mnW g k s t) (g ((k - 1) * 6 + t) + tW t s)
theorem mnW_le (g : Nat → Nat) (k s : Nat) : ∀ t, mnW g k s t ≤ 1000 := by
  intro t
  induction t with
  | zero => exact Nat.le_refl _
  | succ t ih => exact Nat.le_trans (Nat.min_le_left _ _) ih
/-- a SIDE's least WORK at number k of a path -/
def rsW (nf : Nat → Nat) (bo : Bool) (c k fg : Nat) (g : Nat → Nat) (s : Nat) : Nat := if fit bo (nf (c * 6 + s)) fg = true then mnW g k s 6 else 1000
def rsS (nf : Nat → Nat) (bo : Bool) (c k fg : Nat) (s : Nat) (x : (Nat → Nat) × Nat) : (Nat → Nat) × Nat := (mUp x.1 (k * 6 + s) (rsW nf bo c k fg x.1 s), min x.2 (rsW nf bo c k fg x.1 s))
def rsT (nf : Nat → Nat) (bo : Bool) (c k fg : Nat) (g : Nat → Nat) : (Nat → Nat) × Nat := iterF (rsS nf bo c k fg) 0 6 (g, 1000)
theorem rsW_le (nf : Nat → Nat) (bo : Bool) (c k fg : Nat) (g : Nat → Nat) (s : Nat) : rsW nf bo c k fg g s ≤ 1000 := by
  unfold rsW
  split
  · exact mnW_le _ _ _ _
  · exact Nat.le_refl _
theorem rsI_le (nf : Nat → Nat) (bo : Bool) (c k fg : Nat) : ∀ n i x, (∀ j, j < 24 → x.1 j ≤ 1000) → x.2 ≤ 1000 → (∀ j, j < 24 → (iterF (rsS nf bo c k fg) i n x).1 j ≤ 1000) ∧ (iterF (rsS nf bo c k fg) i n x).2 ≤ 1000 := by
  intro n
  induction n with
  | zero => intro i x h1 h2; exact ⟨h1, h2⟩
  | succ n ih =>
    intro i x h1 h2
    refine ih (i + 1) _ (fun j hj => ?_) ?_
    · show mUp x.1 (k * 6 + i) _ j ≤ 1000
      by_cases q : j = k * 6 + i
      · rw [q, mUp_eq]; exact rsW_le _ _ _ _ _ _ _
      · rw [mUp_ne _ _ q]; exact h1 j hj
    · exact Nat.le_trans (Nat.min_le_left _ _) h2
theorem rsT_le (nf : Nat → Nat) (bo : Bool) (c k fg : Nat) (g : Nat → Nat) (h1 : ∀ j, j < 24 → g j ≤ 1000) : (∀ j, j < 24 → (rsT nf bo c k fg g).1 j ≤ 1000) ∧ (rsT nf bo c k fg g).2 ≤ 1000 := rsI_le nf bo c k fg 6 0 (g, 1000) h1 (Nat.le_refl _)
set_option maxRecDepth 100000 in
set_option maxHeartbeats 4000000 in
theorem ok_X6_longer {E : mE} {h : mH} {b p : Nat} : mOk E 1 zX6_longerPath [vN b, vN p] h (mX (some (vN (b * 4 + p + 1))) h) := by
  refine mOk_w (L := [some (vN b), some (vN p)]) pn_X6 rfl (Nat.le_of_ble_eq_true rfl) rfl ?_
  refine mG_iload_n dX6_longerPath_0 rfl ?_
  refine mG_iconst (v := nI 4) dX6_longerPath_1 (by decide) ?_
  refine mG_imulN dX6_longerPath_2 ?_
  refine mG_iload_n dX6_longerPath_3 rfl ?_
  refine mG_iaddN dX6_longerPath_4 ?_
  refine mG_iconst (v := nI 1) dX6_longerPath_5 (by decide) ?_
  refine mG_iaddN dX6_longerPath_6 ?_
  exact mG_iret dX6_longerPath_7 rfl (mX_of rfl rfl)
set_option maxRecDepth 100000 in
set_option maxHeartbeats 4000000 in
theorem lp_X6_in {E : mE} {K : mKt} {h : mH} {c k fg l s : Nat} {be : Int32} {cu la : Nat} {g : Nat → Nat} (e21 : h 21 = oWalk (.ref 3) (.ref 9) cu la be) (e26 : h 26 = mAr 24 g) (hk1 : 1 ≤ k) (hk3 : k ≤ 3) (hg : ∀ j, j < 24 → g j ≤ 1000) (hs : s < 6) (kx : ∀ x8, mG E (mR 3, zX6_reckonSides) K 95 [some (.ref 21), some (vN c), some (vN k), some (vN fg), some (vN l), some (vN s), some (vN (mnW g k s 6)), some (vN 6), x8] [] (mN, 0, 0) h) : ∀ (m t : Nat) (x8 : Option Value), t + m = 6 → mG E (mR 3, zX6_reckonSides) K 49 [some (.ref 21), some (vN c), some (vN k), some (vN fg), some (vN l), some (vN s), some (vN (mnW g k s t)), some (vN t), x8] [] (mN, 0, 0) h := by
  intro m
  induction m with
  | zero =>
    intro t x8 hm
    refine mG_iload dX6_reckonSides_49 rfl ?_
    refine mG_bipush (v := nI 6) dX6_reckonSides_51 (by decide) ?_
    obtain rfl : t = 6 := by omega
    exact mG_icmp_geN dX6_reckonSides_53 (by decide) (by decide) (fun _ => kx x8) (fun q => absurd q (by decide))
  | succ m ih =>
    intro t x8 hm
    refine mG_iload dX6_reckonSides_49 rfl ?_
    refine mG_bipush (v := nI 6) dX6_reckonSides_51 (by decide) ?_
    have hgt := hg ((k - 1) * 6 + t) (by omega)
    have ht := tW_le t s
    have hmm := mnW_le g k s t
    refine mG_icmp_geN dX6_reckonSides_53 (by omega) (by omega) (fun c53 => absurd c53 (by omega)) (fun c53 => ?_)
    refine mG_aload_n dX6_reckonSides_56 rfl ?_
    refine mG_get fX6_24 dX6_reckonSides_57 e21 (Nat.le_of_ble_eq_true rfl) rfl ?_
    refine mG_iload_n dX6_reckonSides_60 rfl ?_
    refine mG_iconst (v := nI 1) dX6_reckonSides_61 (by decide) ?_
    refine mG_isubN dX6_reckonSides_62 (by omega) ?_
    refine mG_bipush (v := nI 6) dX6_reckonSides_63 (by decide) ?_
    refine mG_imulN dX6_reckonSides_65 ?_
    refine mG_iload dX6_reckonSides_66 rfl ?_
    refine mG_iaddN dX6_reckonSides_68 ?_
    refine mG_ialdA dX6_reckonSides_69 e26 (Nat.le_of_ble_eq_true rfl) (by decide) (by omega) ?_
    refine mG_iload dX6_reckonSides_70 rfl ?_
    refine mG_iload dX6_reckonSides_72 rfl ?_
    refine mG_cs2 sX6_88 dX6_reckonSides_74 (mLe_of rfl) (Nat.le_of_ble_eq_true rfl) (ok_X3_turnWork (by omega) hs) ?_
    refine mG_iaddN dX6_reckonSides_77 ?_
    refine mG_istore dX6_reckonSides_78 (Nat.le_of_ble_eq_true rfl) rfl rfl ?_
    refine mG_iload dX6_reckonSides_80 rfl ?_
    refine mG_iload dX6_reckonSides_82 rfl ?_
    refine mG_mminN dX6_reckonSides_84 aX6_91 w_min.1 w_min.2.1 w_min.2.2 (by decide) (Nat.le_of_ble_eq_true rfl) (Nat.zero_le _) (Nat.zero_le _) (by omega) (by omega) ?_
    refine mG_istore dX6_reckonSides_87 (Nat.le_of_ble_eq_true rfl) rfl rfl ?_
    refine mG_iincN dX6_reckonSides_89 rfl (Nat.le_of_ble_eq_true rfl) rfl rfl ?_
    refine mG_goto dX6_reckonSides_92 ?_
    exact ih (t + 1) _ (by omega)
set_option maxRecDepth 100000 in
set_option maxHeartbeats 4000000 in
theorem lp_X6_sides {E : mE} {h : mH} {c k fg : Nat} {T : (Nat → Nat) × Nat} {cu dc it dn wk la : Nat} {bo : Bool} {be : Int32} {nf : Nat → Nat} (e3 : h 3 = oTold cu dc it bo) (e9 : h 9 = oNow dn wk) (e10 : h 10 = mAr 24 nf) (e21 : h 21 = oWalk (.ref 3) (.ref 9) cu la be) (hk1 : 1 ≤ k) (hk3 : k ≤ 3) (hc : c < 4) (hf : ∀ j, j < 6 → nf (c * 6 + j) < 10) (hfg : fg < 10) : ∀ (n i : Nat) (x : (Nat → Nat) × Nat) (x6 x7 x8 : Option Value), i + n = 6 → (∀ j, j < 24 → x.1 j ≤ 1000) → x.2 ≤ 1000 → T = iterF (rsS nf bo c k fg) i n x → mG E (mR 3, zX6_reckonSides) (mKq E (mR 3) mN (mX (some (vN T.2)) (mU h 26 (mAr 24 T.1)))) 8 [some (.ref 21), some (vN c), some (vN k), some (vN fg), some (vN x.2), some (vN i), x6, x7, x8] [] (mN, 0, 0) (mU h 26 (mAr 24 x.1)) := by
  intro n
  induction n with
  | zero =>
    intro i x x6 x7 x8 hk hx1 hx2 hT
    refine mG_iload dX6_reckonSides_8 rfl ?_
    refine mG_bipush (v := nI 6) dX6_reckonSides_10 (by decide) ?_
    refine mG_icmp_geN dX6_reckonSides_12 (by omega) (by omega) (fun c12 => ?_) (fun c12 => absurd c12 (by omega))
    refine mG_iload dX6_reckonSides_124 rfl ?_
    exact mG_iret dX6_reckonSides_126 rfl (mX_of (by rw [hT]; rfl) (by rw [hT]; rfl))
  | succ n ih =>
    intro i x x6 x7 x8 hk hx1 hx2 hT
    have hfi0 := hf i (by omega)
    have hmw0 := rsW_le nf bo c k fg x.1 i
    have kj : ∀ (x8 x7 : Option Value), mG E (mR 3, zX6_reckonSides) (mKq E (mR 3) mN (mX (some (vN T.2)) (mU h 26 (mAr 24 T.1)))) 95 [some (.ref 21), some (vN c), some (vN k), some (vN fg), some (vN x.2), some (vN i), some (vN (rsW nf bo c k fg x.1 i)), x7, x8] [] (mN, 0, 0) (mU h 26 (mAr 24 x.1)) := by
      intro x8 x7
      refine mG_aload_n dX6_reckonSides_95 rfl ?_
      refine mG_get fX6_24 dX6_reckonSides_96 e21 (Nat.le_of_ble_eq_true rfl) rfl ?_
      refine mG_iload_n dX6_reckonSides_99 rfl ?_
      refine mG_bipush (v := nI 6) dX6_reckonSides_100 (by decide) ?_
      refine mG_imulN dX6_reckonSides_102 ?_
      refine mG_iload dX6_reckonSides_103 rfl ?_
      refine mG_iaddN dX6_reckonSides_105 ?_
      refine mG_iload dX6_reckonSides_106 rfl ?_
      refine mG_iastA dX6_reckonSides_108 rfl (Nat.le_of_ble_eq_true rfl) (by decide) (by omega) ?_
      refine mG_iload dX6_reckonSides_109 rfl ?_
      refine mG_iload dX6_reckonSides_111 rfl ?_
      refine mG_mminN dX6_reckonSides_113 aX6_91 w_min.1 w_min.2.1 w_min.2.2 (by decide) (Nat.le_of_ble_eq_true rfl) (Nat.zero_le _) (Nat.zero_le _) (by omega) (by omega) ?_
      refine mG_istore dX6_reckonSides_116 (Nat.le_of_ble_eq_true rfl) rfl rfl ?_
      refine mG_iincN dX6_reckonSides_118 rfl (Nat.le_of_ble_eq_true rfl) rfl rfl ?_
      refine mG_goto dX6_reckonSides_121 ?_
      rw [mU_same]
      exact ih (i + 1) (rsS nf bo c k fg i x) _ _ _ (by omega) (fun j hj => by
        show mUp x.1 (k * 6 + i) _ j ≤ 1000
        by_cases q : j = k * 6 + i
        · rw [q, mUp_eq]; exact rsW_le _ _ _ _ _ _ _
        · rw [mUp_ne _ _ q]; exact hx1 j hj) (Nat.le_trans (Nat.min_le_left _ _) hx2) hT
    refine mG_iload dX6_reckonSides_8 rfl ?_
    refine mG_bipush (v := nI 6) dX6_reckonSides_10 (by decide) ?_
    have hfi := hf i (by omega)
    have hmw := rsW_le nf bo c k fg x.1 i
    have hc6 : mnW x.1 k i 6 ≤ 1000 := mnW_le _ _ _ _
    refine mG_icmp_geN dX6_reckonSides_12 (by omega) (by omega) (fun c12 => absurd c12 (by omega)) (fun c12 => ?_)
    refine mG_sipush (v := nI 1000) dX6_reckonSides_15 (by decide) ?_
    refine mG_istore dX6_reckonSides_18 (Nat.le_of_ble_eq_true rfl) rfl rfl ?_
    refine mG_aload_n dX6_reckonSides_20 rfl ?_
    refine mG_get fX6_30 dX6_reckonSides_21 e21 (Nat.le_of_ble_eq_true rfl) rfl ?_
    refine mG_aload_n dX6_reckonSides_24 rfl ?_
    refine mG_get fX6_34 dX6_reckonSides_25 e21 (Nat.le_of_ble_eq_true rfl) rfl ?_
    refine mG_get fX6_81 dX6_reckonSides_28 e9 (Nat.le_of_ble_eq_true rfl) rfl ?_
    refine mG_iload_n dX6_reckonSides_31 rfl ?_
    refine mG_bipush (v := nI 6) dX6_reckonSides_32 (by decide) ?_
    refine mG_imulN dX6_reckonSides_34 ?_
    refine mG_iload dX6_reckonSides_35 rfl ?_
    refine mG_iaddN dX6_reckonSides_37 ?_
    refine mG_ialdA dX6_reckonSides_38 e10 (Nat.le_of_ble_eq_true rfl) (by decide) (by omega) ?_
    refine mG_iload_n dX6_reckonSides_39 rfl ?_
    refine mG_cv2 vX6_84 dX6_reckonSides_40 (mLe_of rfl) (Nat.le_of_ble_eq_true rfl) e3 (Nat.le_of_ble_eq_true rfl) (ok_X5_fits e3 (by omega) (by omega)) ?_
    refine mG_if_eqB dX6_reckonSides_43 (fun c43 => ?_) (fun c43 => ?_)
    · have cw : rsW nf bo c k fg x.1 i = 1000 := if_neg (by rw [c43]; decide)
      have q := kj x8 x7
      rw [cw] at q
      exact q
    · refine mG_iconst (v := nI 0) dX6_reckonSides_46 (by decide) ?_
      refine mG_istore dX6_reckonSides_47 (Nat.le_of_ble_eq_true rfl) rfl rfl ?_
      refine lp_X6_in (E := E) (h := mU h 26 (mAr 24 x.1)) (g := x.1) e21 rfl hk1 hk3 hx1 (by omega) (fun x8' => by
        have cw : rsW nf bo c k fg x.1 i = mnW x.1 k i 6 := if_pos c43
        rw [← cw]
        exact kj x8' _) 6 0 _ rfl
set_option maxRecDepth 100000 in
set_option maxHeartbeats 4000000 in
theorem ok_X6_sides {E : mE} {h : mH} {c k fg : Nat} {g : Nat → Nat} {cu dc it dn wk la : Nat} {bo : Bool} {be : Int32} {nf : Nat → Nat} (e3 : h 3 = oTold cu dc it bo) (e9 : h 9 = oNow dn wk) (e10 : h 10 = mAr 24 nf) (e21 : h 21 = oWalk (.ref 3) (.ref 9) cu la be) (e26 : h 26 = mAr 24 g) (hk1 : 1 ≤ k) (hk3 : k ≤ 3) (hc : c < 4) (hf : ∀ j, j < 6 → nf (c * 6 + j) < 10) (hfg : fg < 10) (hg : ∀ j, j < 24 → g j ≤ 1000) : mOk E 3 zX6_reckonSides [.ref 21, vN c, vN k, vN fg] h (mX (some (vN (rsT nf bo c k fg g).2)) (mU h 26 (mAr 24 (rsT nf bo c k fg g).1))) := by
  refine mOk_w (L := [some (.ref 21), some (vN c), some (vN k), some (vN fg), none, none, none, none, none]) pn_X6 rfl (Nat.le_of_ble_eq_true rfl) rfl ?_
  refine mG_sipush (v := nI 1000) dX6_reckonSides_0 (by decide) ?_
  refine mG_istore dX6_reckonSides_3 (Nat.le_of_ble_eq_true rfl) rfl rfl ?_
  refine mG_iconst (v := nI 0) dX6_reckonSides_5 (by decide) ?_
  refine mG_istore dX6_reckonSides_6 (Nat.le_of_ble_eq_true rfl) rfl rfl ?_
  have q := lp_X6_sides (E := E) (T := rsT nf bo c k fg g) e3 e9 e10 e21 hk1 hk3 hc hf hfg 6 0 (g, 1000) none none none rfl hg (Nat.le_refl _) rfl
  rw [show mU h 26 (mAr 24 (g, 1000).1) = h from mU_self h 26 _ e26] at q
  exact q
