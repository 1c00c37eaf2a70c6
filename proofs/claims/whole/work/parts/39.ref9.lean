-- needs: 33 34 35 36 37 38
/-! the reference: what is done -/
def cpF (f g : Nat → Nat) (sp dp n : Nat) : Nat → Nat := fun j => if dp ≤ j ∧ j < dp + n then f (sp + (j - dp)) else g j
theorem cpF_0 (f g : Nat → Nat) (sp dp : Nat) : cpF f g sp dp 0 = g := by
  funext j
  unfold cpF
  rw [if_neg (by omega)]
theorem cpF_s (f g : Nat → Nat) (sp dp i : Nat) : mUp (cpF f g sp dp i) (dp + i) (f (sp + i)) = cpF f g sp dp (i + 1) := by
  funext j
  unfold cpF mUp
  by_cases q : j = dp + i
  · rw [if_pos q, if_pos (by omega), q, show dp + i - dp = i by omega]
  · rw [if_neg q]
    dsimp only
    by_cases q2 : dp ≤ j ∧ j < dp + i
    · rw [if_pos q2, if_pos (by omega)]
    · rw [if_neg q2, if_neg (by omega)]
theorem cpF_s0 (f g : Nat → Nat) (sp i : Nat) : mUp (cpF f g sp 0 i) i (f (sp + i)) = cpF f g sp 0 (i + 1) := by
  have h := cpF_s f g sp 0 i
  rw [Nat.zero_add] at h
  exact h
theorem cpF_00 (f g : Nat → Nat) (i : Nat) : mUp (cpF f g 0 0 i) i (f i) = cpF f g 0 0 (i + 1) := by
  have h := cpF_s f g 0 0 i
  rw [Nat.zero_add] at h
  exact h
theorem cpF_d0 (f g : Nat → Nat) (dp i : Nat) : mUp (cpF f g 0 dp i) (dp + i) (f i) = cpF f g 0 dp (i + 1) := by
  have h := cpF_s f g 0 dp i
  rw [Nat.zero_add] at h
  exact h
theorem cpF_in {f g : Nat → Nat} {sp dp n j : Nat} (h : j < n) : cpF f g sp dp n (dp + j) = f (sp + j) := by
  unfold cpF
  rw [if_pos (by omega), show dp + j - dp = j by omega]
theorem cpF_out {f g : Nat → Nat} {sp dp n j : Nat} (h : ¬ (dp ≤ j ∧ j < dp + n)) : cpF f g sp dp n j = g j := if_neg h
def atF (g : Nat → Nat) (n : Nat) : Nat → Nat := fun j => if 24 ≤ j ∧ j < 24 + n then j - 24 else if 28 ≤ j ∧ j < 28 + n then 0 else g j
theorem atF_0 (g : Nat → Nat) : atF g 0 = g := by
  funext j
  unfold atF
  rw [if_neg (by omega), if_neg (by omega)]
theorem atF_s (g : Nat → Nat) {i : Nat} (hi : i < 4) : mUp (mUp (atF g i) (24 + i) i) (28 + i) 0 = atF g (i + 1) := by
  funext j
  unfold atF mUp
  by_cases q : j = 28 + i
  · rw [if_pos q, if_neg (by omega), if_pos (by omega)]
  · rw [if_neg q]
    by_cases q1 : j = 24 + i
    · rw [if_pos q1, if_pos (by omega)]; omega
    · rw [if_neg q1]
      dsimp only
      by_cases q2 : 24 ≤ j ∧ j < 24 + i
      · rw [if_pos q2, if_pos (by omega)]
      · rw [if_neg q2]
        by_cases q3 : 28 ≤ j ∧ j < 28 + i
        · rw [if_pos q3, if_neg (by omega), if_pos (by omega)]
        · rw [if_neg q3, if_neg (by omega), if_neg (by omega)]
def bgF (fg nw : Nat → Nat) : Nat → Nat := mUp (atF (cpF fg nw 0 0 24) 4) 32 0
theorem mUp2 (g : Nat → Nat) (i x y : Nat) : mUp (mUp g i x) i y = mUp g i y := by
  funext j
  unfold mUp
  by_cases q : j = i <;> simp [q]
set_option maxRecDepth 100000 in
set_option maxHeartbeats 4000000 in
theorem lp_X8_begin2 {E : mE} {h : mH} {ty a sd so va it mo fa : Nat} {wr : Bool} {tr : Int64} {g : Nat → Nat} (e40 : h 40 = oMo ty a sd so va wr it mo fa tr)  : ∀ (k i : Nat), i + k = 4 → mG E (mR 1, zX8_begin) (mKq E (mR 1) mN (mX none (mU h 47 (mAr 33 (mUp (atF g 4) 32 0))))) 28 [some (.ref 40), some (vN i)] [] (mN, 0, 0) (mU h 47 (mAr 33 (atF g i))) := by
  intro k
  induction k with
  | zero =>
    intro i hk
    refine mG_iload_n dX8_begin_28 rfl ?_
    refine mG_iconst (v := nI 4) dX8_begin_29 (by decide) ?_
    refine mG_icmp_geN dX8_begin_30 (by omega) (by omega) (fun c30 => ?_) (fun c30 => absurd c30 (by omega))
    refine mG_aload_n dX8_begin_59 rfl ?_
    refine mG_get fX8_29 dX8_begin_60 e40 (Nat.le_of_ble_eq_true rfl) rfl ?_
    refine mG_bipush (v := nI 32) dX8_begin_63 (by decide) ?_
    refine mG_iconst (v := nI 0) dX8_begin_65 (by decide) ?_
    refine mG_iastA dX8_begin_66 rfl (Nat.le_of_ble_eq_true rfl) (by decide) (by decide) ?_
    rw [mU_same, show i = 4 by omega]
    exact mG_vret dX8_begin_67 rfl (mX_of rfl rfl)
  | succ k ih =>
    intro i hk
    refine mG_iload_n dX8_begin_28 rfl ?_
    refine mG_iconst (v := nI 4) dX8_begin_29 (by decide) ?_
    refine mG_icmp_geN dX8_begin_30 (by omega) (by omega) (fun c30 => absurd c30 (by omega)) (fun c30 => ?_)
    refine mG_aload_n dX8_begin_33 rfl ?_
    refine mG_get fX8_29 dX8_begin_34 e40 (Nat.le_of_ble_eq_true rfl) rfl ?_
    refine mG_bipush (v := nI 24) dX8_begin_37 (by decide) ?_
    refine mG_iload_n dX8_begin_39 rfl ?_
    refine mG_iaddN dX8_begin_40 ?_
    refine mG_iload_n dX8_begin_41 rfl ?_
    refine mG_iastA dX8_begin_42 rfl (Nat.le_of_ble_eq_true rfl) (by decide) (by omega) ?_
    rw [mU_same]
    refine mG_aload_n dX8_begin_43 rfl ?_
    refine mG_get fX8_29 dX8_begin_44 e40 (Nat.le_of_ble_eq_true rfl) rfl ?_
    refine mG_bipush (v := nI 28) dX8_begin_47 (by decide) ?_
    refine mG_iload_n dX8_begin_49 rfl ?_
    refine mG_iaddN dX8_begin_50 ?_
    refine mG_iconst (v := nI 0) dX8_begin_51 (by decide) ?_
    refine mG_iastA dX8_begin_52 rfl (Nat.le_of_ble_eq_true rfl) (by decide) (by omega) ?_
    rw [mU_same, atF_s _ c30]
    refine mG_iincN dX8_begin_53 rfl (Nat.le_of_ble_eq_true rfl) rfl rfl ?_
    refine mG_goto dX8_begin_56 ?_
    exact ih (i + 1) (by omega)
set_option maxRecDepth 100000 in
set_option maxHeartbeats 4000000 in
theorem lp_X8_begin1 {E : mE} {h : mH} {ty a sd so va it mo fa : Nat} {wr : Bool} {tr : Int64} {fg nw : Nat → Nat} (e40 : h 40 = oMo ty a sd so va wr it mo fa tr) (e45 : h 45 = mAr 48 fg)  : ∀ (k i : Nat), i + k = 24 → mG E (mR 1, zX8_begin) (mKq E (mR 1) mN (mX none (mU h 47 (mAr 33 (bgF fg nw))))) 2 [some (.ref 40), some (vN i)] [] (mN, 0, 0) (mU h 47 (mAr 33 (cpF fg nw 0 0 i))) := by
  intro k
  induction k with
  | zero =>
    intro i hk
    refine mG_iload_n dX8_begin_2 rfl ?_
    refine mG_bipush (v := nI 24) dX8_begin_3 (by decide) ?_
    refine mG_icmp_geN dX8_begin_5 (by omega) (by omega) (fun c5 => ?_) (fun c5 => absurd c5 (by omega))
    refine mG_iconst (v := nI 0) dX8_begin_26 (by decide) ?_
    refine mG_istore_n dX8_begin_27 (Nat.le_of_ble_eq_true rfl) rfl rfl ?_
    obtain rfl : i = 24 := by omega
    have q := lp_X8_begin2 (E := E) (h := h) (g := cpF fg nw 0 0 24) e40 4 0 rfl
    rw [atF_0] at q
    exact q
  | succ k ih =>
    intro i hk
    refine mG_iload_n dX8_begin_2 rfl ?_
    refine mG_bipush (v := nI 24) dX8_begin_3 (by decide) ?_
    refine mG_icmp_geN dX8_begin_5 (by omega) (by omega) (fun c5 => absurd c5 (by omega)) (fun c5 => ?_)
    refine mG_aload_n dX8_begin_8 rfl ?_
    refine mG_get fX8_29 dX8_begin_9 e40 (Nat.le_of_ble_eq_true rfl) rfl ?_
    refine mG_iload_n dX8_begin_12 rfl ?_
    refine mG_aload_n dX8_begin_13 rfl ?_
    refine mG_get fX8_23 dX8_begin_14 e40 (Nat.le_of_ble_eq_true rfl) rfl ?_
    refine mG_iload_n dX8_begin_17 rfl ?_
    refine mG_ialdA dX8_begin_18 e45 (Nat.le_of_ble_eq_true rfl) (by decide) (by omega) ?_
    refine mG_iastA dX8_begin_19 rfl (Nat.le_of_ble_eq_true rfl) (by decide) (by omega) ?_
    rw [mU_same, cpF_00]
    refine mG_iincN dX8_begin_20 rfl (Nat.le_of_ble_eq_true rfl) rfl rfl ?_
    refine mG_goto dX8_begin_23 ?_
    exact ih (i + 1) (by omega)
set_option maxRecDepth 100000 in
set_option maxHeartbeats 4000000 in
theorem ok_X8_begin {E : mE} {h : mH} {ty a sd so va it mo fa : Nat} {wr : Bool} {tr : Int64} {fg nw : Nat → Nat} (e40 : h 40 = oMo ty a sd so va wr it mo fa tr) (e45 : h 45 = mAr 48 fg) (e47 : h 47 = mAr 33 nw)  : mOk E 1 zX8_begin [.ref 40] h (mX none (mU h 47 (mAr 33 (bgF fg nw)))) := by
  refine mOk_w (L := [some (.ref 40), none]) pn_X8 rfl (Nat.le_of_ble_eq_true rfl) rfl ?_
  refine mG_iconst (v := nI 0) dX8_begin_0 (by decide) ?_
  refine mG_istore_n dX8_begin_1 (Nat.le_of_ble_eq_true rfl) rfl rfl ?_
  have q := lp_X8_begin1 (E := E) (h := h) (fg := fg) (nw := nw) e40 e45 24 0 rfl
  rw [cpF_0, mU_self h 47 _ e47] at q
  exact q
def bfS (k : Nat) (bf : Nat → Nat) : Nat → Nat := if k < 10 then bf else cpF bf bf 33 0 297
def bfK (k : Nat) (bf nw : Nat → Nat) : Nat → Nat := cpF nw (bfS k bf) 0 (33 * dn0 k) 33
set_option maxRecDepth 100000 in
set_option maxHeartbeats 4000000 in
theorem lp_X8_know2 {E : mE} {h : mH} {ty a sd so va it mo fa : Nat} {wr : Bool} {tr : Int64} {kn g nw : Nat → Nat} (e40 : h 40 = oMo ty a sd so va wr it mo fa tr) (e47 : h 47 = mAr 33 nw) (hkn : kn 0 ≤ 9) : ∀ (k i : Nat), i + k = 33 → mG E (mR 1, zX8_know) (mKq E (mR 1) mN (mX none (mU (mU h 48 (mAr 3 (mUp kn 0 (kn 0 + 1)))) 49 (mAr 990 (cpF nw g 0 (33 * kn 0) 33))))) 53 [some (.ref 40), some (vN i)] [] (mN, 0, 0) (mU (mU h 48 (mAr 3 kn)) 49 (mAr 990 (cpF nw g 0 (33 * kn 0) i))) := by
  intro k
  induction k with
  | zero =>
    intro i hk
    refine mG_iload_n dX8_know_53 rfl ?_
    refine mG_bipush (v := nI 33) dX8_know_54 (by decide) ?_
    refine mG_icmp_geN dX8_know_56 (by omega) (by omega) (fun c56 => ?_) (fun c56 => absurd c56 (by omega))
    refine mG_aload_n dX8_know_87 rfl ?_
    refine mG_get fX8_32 dX8_know_88 e40 (Nat.le_of_ble_eq_true rfl) rfl ?_
    refine mG_iconst (v := nI 0) dX8_know_91 (by decide) ?_
    refine mG_dup2 dX8_know_92 rfl rfl ?_
    refine mG_ialdA dX8_know_93 rfl (Nat.le_of_ble_eq_true rfl) (by decide) (by omega) ?_
    refine mG_iconst (v := nI 1) dX8_know_94 (by decide) ?_
    refine mG_iaddN dX8_know_95 ?_
    refine mG_iastA dX8_know_96 rfl (Nat.le_of_ble_eq_true rfl) (by decide) (by decide) ?_
    rw [mU_comm (mU h 48 (mAr 3 kn)) (show (49 : Nat) ≠ 48 by decide), mU_same, show i = 33 by omega]
    exact mG_vret dX8_know_97 rfl (mX_of rfl rfl)
  | succ k ih =>
    intro i hk
    refine mG_iload_n dX8_know_53 rfl ?_
    refine mG_bipush (v := nI 33) dX8_know_54 (by decide) ?_
    refine mG_icmp_geN dX8_know_56 (by omega) (by omega) (fun c56 => absurd c56 (by omega)) (fun c56 => ?_)
    refine mG_aload_n dX8_know_59 rfl ?_
    refine mG_get fX8_35 dX8_know_60 e40 (Nat.le_of_ble_eq_true rfl) rfl ?_
    refine mG_bipush (v := nI 33) dX8_know_63 (by decide) ?_
    refine mG_aload_n dX8_know_65 rfl ?_
    refine mG_get fX8_32 dX8_know_66 e40 (Nat.le_of_ble_eq_true rfl) rfl ?_
    refine mG_iconst (v := nI 0) dX8_know_69 (by decide) ?_
    refine mG_ialdA dX8_know_70 rfl (Nat.le_of_ble_eq_true rfl) (by decide) (by omega) ?_
    refine mG_imulN dX8_know_71 ?_
    refine mG_iload_n dX8_know_72 rfl ?_
    refine mG_iaddN dX8_know_73 ?_
    refine mG_aload_n dX8_know_74 rfl ?_
    refine mG_get fX8_29 dX8_know_75 e40 (Nat.le_of_ble_eq_true rfl) rfl ?_
    refine mG_iload_n dX8_know_78 rfl ?_
    refine mG_ialdA dX8_know_79 e47 (Nat.le_of_ble_eq_true rfl) (by decide) (by omega) ?_
    refine mG_iastA dX8_know_80 rfl (Nat.le_of_ble_eq_true rfl) (by decide) (by omega) ?_
    rw [mU_same, cpF_d0]
    refine mG_iincN dX8_know_81 rfl (Nat.le_of_ble_eq_true rfl) rfl rfl ?_
    refine mG_goto dX8_know_84 ?_
    exact ih (i + 1) (by omega)
set_option maxRecDepth 100000 in
set_option maxHeartbeats 4000000 in
theorem lp_X8_know1 {E : mE} {h : mH} {ty a sd so va it mo fa : Nat} {wr : Bool} {tr : Int64} {kn bf nw : Nat → Nat} (e40 : h 40 = oMo ty a sd so va wr it mo fa tr) (e47 : h 47 = mAr 33 nw) (e48 : h 48 = mAr 3 kn) (hkn : kn 0 = 10) : ∀ (k i : Nat), i + k = 297 → mG E (mR 1, zX8_know) (mKq E (mR 1) mN (mX none (mU (mU h 48 (mAr 3 (mUp kn 0 10))) 49 (mAr 990 (bfK 10 bf nw))))) 13 [some (.ref 40), some (vN i)] [] (mN, 0, 0) (mU h 49 (mAr 990 (cpF bf bf 33 0 i))) := by
  intro k
  induction k with
  | zero =>
    intro i hk
    refine mG_iload_n dX8_know_13 rfl ?_
    refine mG_sipush (v := nI 297) dX8_know_14 (by decide) ?_
    refine mG_icmp_geN dX8_know_17 (by omega) (by omega) (fun c17 => ?_) (fun c17 => absurd c17 (by omega))
    refine mG_aload_n dX8_know_41 rfl ?_
    refine mG_get fX8_32 dX8_know_42 e40 (Nat.le_of_ble_eq_true rfl) rfl ?_
    refine mG_iconst (v := nI 0) dX8_know_45 (by decide) ?_
    refine mG_dup2 dX8_know_46 rfl rfl ?_
    refine mG_ialdA dX8_know_47 e48 (Nat.le_of_ble_eq_true rfl) (by decide) (by omega) ?_
    refine mG_iconst (v := nI 1) dX8_know_48 (by decide) ?_
    refine mG_isubN dX8_know_49 (by rw [hkn]; decide) ?_
    refine mG_iastA dX8_know_50 e48 (Nat.le_of_ble_eq_true rfl) (by decide) (by decide) ?_
    rw [mU_comm _ (show (49 : Nat) ≠ 48 by decide)]
    refine mG_iconst (v := nI 0) dX8_know_51 (by decide) ?_
    refine mG_istore_n dX8_know_52 (Nat.le_of_ble_eq_true rfl) rfl rfl ?_
    obtain rfl : i = 297 := by omega
    have q := lp_X8_know2 (E := E) (h := h) (kn := mUp kn 0 9) (g := cpF bf bf 33 0 297) (nw := nw) e40 e47 (by rw [mUp_eq]; decide) 33 0 rfl
    rw [mUp_eq, mUp2, cpF_0] at q
    rw [hkn]
    exact q
  | succ k ih =>
    intro i hk
    refine mG_iload_n dX8_know_13 rfl ?_
    refine mG_sipush (v := nI 297) dX8_know_14 (by decide) ?_
    refine mG_icmp_geN dX8_know_17 (by omega) (by omega) (fun c17 => absurd c17 (by omega)) (fun c17 => ?_)
    refine mG_aload_n dX8_know_20 rfl ?_
    refine mG_get fX8_35 dX8_know_21 e40 (Nat.le_of_ble_eq_true rfl) rfl ?_
    refine mG_iload_n dX8_know_24 rfl ?_
    refine mG_aload_n dX8_know_25 rfl ?_
    refine mG_get fX8_35 dX8_know_26 e40 (Nat.le_of_ble_eq_true rfl) rfl ?_
    refine mG_bipush (v := nI 33) dX8_know_29 (by decide) ?_
    refine mG_iload_n dX8_know_31 rfl ?_
    refine mG_iaddN dX8_know_32 ?_
    rw [show mU h 49 (mAr 990 (cpF bf bf 33 0 i)) = mU h 49 (mAr 990 (cpF bf bf 33 0 i)) from rfl]
    refine mG_ialdA dX8_know_33 rfl (Nat.le_of_ble_eq_true rfl) (by decide) (by omega) ?_
    rw [cpF_out (show ¬ (0 ≤ 33 + i ∧ 33 + i < 0 + i) by omega)]
    refine mG_iastA dX8_know_34 rfl (Nat.le_of_ble_eq_true rfl) (by decide) (by omega) ?_
    rw [mU_same, cpF_s0]
    refine mG_iincN dX8_know_35 rfl (Nat.le_of_ble_eq_true rfl) rfl rfl ?_
    refine mG_goto dX8_know_38 ?_
    exact ih (i + 1) (by omega)
set_option maxRecDepth 100000 in
set_option maxHeartbeats 4000000 in
theorem ok_X8_know {E : mE} {h : mH} {ty a sd so va it mo fa : Nat} {wr : Bool} {tr : Int64} {kn bf nw : Nat → Nat} (e40 : h 40 = oMo ty a sd so va wr it mo fa tr) (e47 : h 47 = mAr 33 nw) (e48 : h 48 = mAr 3 kn) (e49 : h 49 = mAr 990 bf) (hkn : kn 0 ≤ 10) : mOk E 1 zX8_know [.ref 40] h (mX none (mU (mU h 48 (mAr 3 (mUp kn 0 (dn0 (kn 0) + 1)))) 49 (mAr 990 (bfK (kn 0) bf nw)))) := by
  refine mOk_w (L := [some (.ref 40), none]) pn_X8 rfl (Nat.le_of_ble_eq_true rfl) rfl ?_
  refine mG_aload_n dX8_know_0 rfl ?_
  refine mG_get fX8_32 dX8_know_1 e40 (Nat.le_of_ble_eq_true rfl) rfl ?_
  refine mG_iconst (v := nI 0) dX8_know_4 (by decide) ?_
  refine mG_ialdA dX8_know_5 e48 (Nat.le_of_ble_eq_true rfl) (by decide) (by omega) ?_
  refine mG_bipush (v := nI 10) dX8_know_6 (by decide) ?_
  refine mG_icmp_neN dX8_know_8 (by omega) (by omega) (fun c8 => ?_) (fun c8 => ?_)
  · refine mG_iconst (v := nI 0) dX8_know_51 (by decide) ?_
    refine mG_istore_n dX8_know_52 (Nat.le_of_ble_eq_true rfl) rfl rfl ?_
    have q := lp_X8_know2 (E := E) (h := h) (kn := kn) (g := bf) (nw := nw) e40 e47 (by omega) 33 0 rfl
    rw [cpF_0, mU_self h 48 _ e48, mU_self h 49 _ e49] at q
    unfold bfK bfS dn0
    rw [if_pos (show kn 0 < 10 by omega), if_pos (show kn 0 < 10 by omega)]
    exact q
  · refine mG_iconst (v := nI 0) dX8_know_11 (by decide) ?_
    refine mG_istore_n dX8_know_12 (Nat.le_of_ble_eq_true rfl) rfl rfl ?_
    rw [c8]
    have q := lp_X8_know1 (E := E) (h := h) (kn := kn) (bf := bf) (nw := nw) e40 e47 e48 c8 297 0 rfl
    rw [cpF_0, mU_self h 49 _ e49] at q
    exact q
set_option maxRecDepth 100000 in
set_option maxHeartbeats 4000000 in
theorem ok_X8_worked {E : mE} {h : mH} {ty a sd so va it mo fa : Nat} {wr : Bool} {tr : Int64} {v : Nat} {nw : Nat → Nat} (e40 : h 40 = oMo ty a sd so va wr it mo fa tr) (e47 : h 47 = mAr 33 nw) (hw : nw 32 ≤ 9999) (hv : v ≤ 10) : mOk E 1 zX8_worked [.ref 40, vN v] h (mX (some (vN (min (nw 32 + v) 9999))) (mU h 47 (mAr 33 (mUp nw 32 (min (nw 32 + v) 9999))))) := by
  refine mOk_w (L := [some (.ref 40), some (vN v)]) pn_X8 rfl (Nat.le_of_ble_eq_true rfl) rfl ?_
  refine mG_aload_n dX8_worked_0 rfl ?_
  refine mG_get fX8_29 dX8_worked_1 e40 (Nat.le_of_ble_eq_true rfl) rfl ?_
  refine mG_bipush (v := nI 32) dX8_worked_4 (by decide) ?_
  refine mG_aload_n dX8_worked_6 rfl ?_
  refine mG_get fX8_29 dX8_worked_7 e40 (Nat.le_of_ble_eq_true rfl) rfl ?_
  refine mG_bipush (v := nI 32) dX8_worked_10 (by decide) ?_
  refine mG_ialdA dX8_worked_12 e47 (Nat.le_of_ble_eq_true rfl) (by decide) (by omega) ?_
  refine mG_iload_n dX8_worked_13 rfl ?_
  refine mG_iaddN dX8_worked_14 ?_
  refine mG_sipush (v := nI 9999) dX8_worked_15 (by decide) ?_
  refine mG_icmp_leN dX8_worked_18 (by omega) (by omega) (fun c18 => ?_) (fun c18 => ?_)
  · refine mG_aload_n dX8_worked_27 rfl ?_
    refine mG_get fX8_29 dX8_worked_28 e40 (Nat.le_of_ble_eq_true rfl) rfl ?_
    refine mG_bipush (v := nI 32) dX8_worked_31 (by decide) ?_
    refine mG_ialdA dX8_worked_33 e47 (Nat.le_of_ble_eq_true rfl) (by decide) (by omega) ?_
    refine mG_iload_n dX8_worked_34 rfl ?_
    refine mG_iaddN dX8_worked_35 ?_
    refine mG_iastA dX8_worked_36 e47 (Nat.le_of_ble_eq_true rfl) (by decide) (by omega) ?_
    refine mG_aload_n dX8_worked_37 rfl ?_
    refine mG_get fX8_29 dX8_worked_38 e40 (Nat.le_of_ble_eq_true rfl) rfl ?_
    refine mG_bipush (v := nI 32) dX8_worked_41 (by decide) ?_
    refine mG_ialdA dX8_worked_43 rfl (Nat.le_of_ble_eq_true rfl) (by decide) (by omega) ?_
    exact mG_iret dX8_worked_44 rfl (by first | (rw [Nat.min_eq_left c18]; exact mX_of (by rw [mUp_eq]) rfl) | (rw [Nat.min_eq_right (Nat.le_of_lt c18)]; exact mX_of (by rw [mUp_eq]) rfl))
  · refine mG_sipush (v := nI 9999) dX8_worked_21 (by decide) ?_
    refine mG_goto dX8_worked_24 ?_
    refine mG_iastA dX8_worked_36 e47 (Nat.le_of_ble_eq_true rfl) (by decide) (by omega) ?_
    refine mG_aload_n dX8_worked_37 rfl ?_
    refine mG_get fX8_29 dX8_worked_38 e40 (Nat.le_of_ble_eq_true rfl) rfl ?_
    refine mG_bipush (v := nI 32) dX8_worked_41 (by decide) ?_
    refine mG_ialdA dX8_worked_43 rfl (Nat.le_of_ble_eq_true rfl) (by decide) (by omega) ?_
    exact mG_iret dX8_worked_44 rfl (by first | (rw [Nat.min_eq_left c18]; exact mX_of (by rw [mUp_eq]) rfl) | (rw [Nat.min_eq_right (Nat.le_of_lt c18)]; exact mX_of (by rw [mUp_eq]) rfl))
set_option maxRecDepth 100000 in
set_option maxHeartbeats 4000000 in
theorem lp_X8_undo {E : mE} {h : mH} {ty a sd so va it mo fa : Nat} {wr : Bool} {tr : Int64} {kn bf nw : Nat → Nat} (e40 : h 40 = oMo ty a sd so va wr it mo fa tr) (e48 : h 48 = mAr 3 kn) (e49 : h 49 = mAr 990 bf) (hkn : kn 0 ≤ 9) : ∀ (k i : Nat), i + k = 33 → mG E (mR 1, zX8_undo) (mKq E (mR 1) mN (mX (some (vN (kn 0))) (mU h 47 (mAr 33 (cpF bf nw (33 * kn 0) 0 33))))) 24 [some (.ref 40), some (vN i)] [] (mN, 0, 0) (mU h 47 (mAr 33 (cpF bf nw (33 * kn 0) 0 i))) := by
  intro k
  induction k with
  | zero =>
    intro i hk
    refine mG_iload_n dX8_undo_24 rfl ?_
    refine mG_bipush (v := nI 33) dX8_undo_25 (by decide) ?_
    refine mG_icmp_geN dX8_undo_27 (by omega) (by omega) (fun c27 => ?_) (fun c27 => absurd c27 (by omega))
    refine mG_aload_n dX8_undo_58 rfl ?_
    refine mG_get fX8_32 dX8_undo_59 e40 (Nat.le_of_ble_eq_true rfl) rfl ?_
    refine mG_iconst (v := nI 0) dX8_undo_62 (by decide) ?_
    refine mG_ialdA dX8_undo_63 e48 (Nat.le_of_ble_eq_true rfl) (by decide) (by omega) ?_
    exact mG_iret dX8_undo_64 rfl (mX_of rfl (by rw [show i = 33 by omega]))
  | succ k ih =>
    intro i hk
    refine mG_iload_n dX8_undo_24 rfl ?_
    refine mG_bipush (v := nI 33) dX8_undo_25 (by decide) ?_
    refine mG_icmp_geN dX8_undo_27 (by omega) (by omega) (fun c27 => absurd c27 (by omega)) (fun c27 => ?_)
    refine mG_aload_n dX8_undo_30 rfl ?_
    refine mG_get fX8_29 dX8_undo_31 e40 (Nat.le_of_ble_eq_true rfl) rfl ?_
    refine mG_iload_n dX8_undo_34 rfl ?_
    refine mG_aload_n dX8_undo_35 rfl ?_
    refine mG_get fX8_35 dX8_undo_36 e40 (Nat.le_of_ble_eq_true rfl) rfl ?_
    refine mG_bipush (v := nI 33) dX8_undo_39 (by decide) ?_
    refine mG_aload_n dX8_undo_41 rfl ?_
    refine mG_get fX8_32 dX8_undo_42 e40 (Nat.le_of_ble_eq_true rfl) rfl ?_
    refine mG_iconst (v := nI 0) dX8_undo_45 (by decide) ?_
    refine mG_ialdA dX8_undo_46 e48 (Nat.le_of_ble_eq_true rfl) (by decide) (by omega) ?_
    refine mG_imulN dX8_undo_47 ?_
    refine mG_iload_n dX8_undo_48 rfl ?_
    refine mG_iaddN dX8_undo_49 ?_
    refine mG_ialdA dX8_undo_50 e49 (Nat.le_of_ble_eq_true rfl) (by decide) (by omega) ?_
    refine mG_iastA dX8_undo_51 rfl (Nat.le_of_ble_eq_true rfl) (by decide) (by omega) ?_
    rw [mU_same, cpF_s0]
    refine mG_iincN dX8_undo_52 rfl (Nat.le_of_ble_eq_true rfl) rfl rfl ?_
    refine mG_goto dX8_undo_55 ?_
    exact ih (i + 1) (by omega)
set_option maxRecDepth 100000 in
set_option maxHeartbeats 4000000 in
theorem ok_X8_undo {E : mE} {h : mH} {ty a sd so va it mo fa : Nat} {wr : Bool} {tr : Int64} {kn bf nw : Nat → Nat} (e40 : h 40 = oMo ty a sd so va wr it mo fa tr) (e47 : h 47 = mAr 33 nw) (e48 : h 48 = mAr 3 kn) (e49 : h 49 = mAr 990 bf) (hkn : kn 0 ≤ 10) (h0 : ¬ kn 0 = 0) : mOk E 1 zX8_undo [.ref 40] h (mX (some (vN (kn 0 - 1))) (mU (mU h 48 (mAr 3 (mUp kn 0 (kn 0 - 1)))) 47 (mAr 33 (cpF bf nw (33 * (kn 0 - 1)) 0 33)))) := by
  refine mOk_w (L := [some (.ref 40), none]) pn_X8 rfl (Nat.le_of_ble_eq_true rfl) rfl ?_
  refine mG_aload_n dX8_undo_0 rfl ?_
  refine mG_get fX8_32 dX8_undo_1 e40 (Nat.le_of_ble_eq_true rfl) rfl ?_
  refine mG_iconst (v := nI 0) dX8_undo_4 (by decide) ?_
  refine mG_ialdA dX8_undo_5 e48 (Nat.le_of_ble_eq_true rfl) (by decide) (by omega) ?_
  refine mG_if_neN dX8_undo_6 (by omega) (fun c6 => ?_) (fun c6 => absurd c6 h0)
  refine mG_aload_n dX8_undo_12 rfl ?_
  refine mG_get fX8_32 dX8_undo_13 e40 (Nat.le_of_ble_eq_true rfl) rfl ?_
  refine mG_iconst (v := nI 0) dX8_undo_16 (by decide) ?_
  refine mG_dup2 dX8_undo_17 rfl rfl ?_
  refine mG_ialdA dX8_undo_18 e48 (Nat.le_of_ble_eq_true rfl) (by decide) (by omega) ?_
  refine mG_iconst (v := nI 1) dX8_undo_19 (by decide) ?_
  refine mG_isubN dX8_undo_20 (by omega) ?_
  refine mG_iastA dX8_undo_21 e48 (Nat.le_of_ble_eq_true rfl) (by decide) (by omega) ?_
  refine mG_iconst (v := nI 0) dX8_undo_22 (by decide) ?_
  refine mG_istore_n dX8_undo_23 (Nat.le_of_ble_eq_true rfl) rfl rfl ?_
  have q := lp_X8_undo (E := E) (h := mU h 48 (mAr 3 (mUp kn 0 (kn 0 - 1)))) (kn := mUp kn 0 (kn 0 - 1)) (bf := bf) (nw := nw) e40 rfl e49 (by rw [mUp_eq]; omega) 33 0 rfl
  rw [mUp_eq, cpF_0, mU_self (mU h 48 _) 47 _ (show mU h 48 _ 47 = mAr 33 nw from e47)] at q
  exact q
set_option maxRecDepth 100000 in
set_option maxHeartbeats 4000000 in
theorem lp_X8_keep2_0 {E : mE} {h : mH} {ty a sd so va it mo fa : Nat} {wr : Bool} {tr : Int64} {kn bf nw sr : Nat → Nat} {ik : Nat → Bool} (e40 : h 40 = oMo ty a sd so va wr it mo fa tr) (e47 : h 47 = mAr 33 nw) (e48 : h 48 = mAr 3 kn) (e51 : h 51 = mZr 2 ik)  : ∀ (k i : Nat), i + k = 330 → mG E (mR 2, zX8_keep) (mKq E (mR 2) mN (mX (some (vN (nw 32))) (mU (mU (mU (mU h 50 (mAr 66 (cpF nw sr 0 0 33))) 49 (mAr 990 (cpF bf bf 0 330 330))) 48 (mAr 3 (mUp kn 1 (kn 0)))) 51 (mZr 2 (mUb ik 0 true))))) 44 [some (.ref 40), some (vN 0), some (vN i)] [] (mN, 0, 0) (mU (mU h 50 (mAr 66 (cpF nw sr 0 0 33))) 49 (mAr 990 (cpF bf bf 0 330 i))) := by
  intro k
  induction k with
  | zero =>
    intro i hk
    refine mG_iload_n dX8_keep_44 rfl ?_
    refine mG_sipush (v := nI 330) dX8_keep_45 (by decide) ?_
    refine mG_icmp_geN dX8_keep_48 (by omega) (by omega) (fun c48 => ?_) (fun c48 => absurd c48 (by omega))
    refine mG_aload_n dX8_keep_77 rfl ?_
    refine mG_get fX8_32 dX8_keep_78 e40 (Nat.le_of_ble_eq_true rfl) rfl ?_
    refine mG_iconst (v := nI 1) dX8_keep_81 (by decide) ?_
    refine mG_iload_n dX8_keep_82 rfl ?_
    refine mG_iaddN dX8_keep_83 ?_
    refine mG_aload_n dX8_keep_84 rfl ?_
    refine mG_get fX8_32 dX8_keep_85 e40 (Nat.le_of_ble_eq_true rfl) rfl ?_
    refine mG_iconst (v := nI 0) dX8_keep_88 (by decide) ?_
    refine mG_ialdA dX8_keep_89 e48 (Nat.le_of_ble_eq_true rfl) (by decide) (by omega) ?_
    refine mG_iastA dX8_keep_90 e48 (Nat.le_of_ble_eq_true rfl) (by decide) (by omega) ?_
    refine mG_aload_n dX8_keep_91 rfl ?_
    refine mG_get fX8_41 dX8_keep_92 e40 (Nat.le_of_ble_eq_true rfl) rfl ?_
    refine mG_iload_n dX8_keep_95 rfl ?_
    refine mG_iconst (v := nI 1) dX8_keep_96 (by decide) ?_
    refine mG_zastN (x := true) dX8_keep_97 e51 (Nat.le_of_ble_eq_true rfl) (by decide) (by decide) ?_
    refine mG_aload_n dX8_keep_98 rfl ?_
    refine mG_get fX8_29 dX8_keep_99 e40 (Nat.le_of_ble_eq_true rfl) rfl ?_
    refine mG_bipush (v := nI 32) dX8_keep_102 (by decide) ?_
    refine mG_ialdA dX8_keep_104 e47 (Nat.le_of_ble_eq_true rfl) (by decide) (by omega) ?_
    exact mG_iret dX8_keep_105 rfl (mX_of rfl (by rw [show i = 330 by omega, mUb_mb]))
  | succ k ih =>
    intro i hk
    refine mG_iload_n dX8_keep_44 rfl ?_
    refine mG_sipush (v := nI 330) dX8_keep_45 (by decide) ?_
    refine mG_icmp_geN dX8_keep_48 (by omega) (by omega) (fun c48 => absurd c48 (by omega)) (fun c48 => ?_)
    refine mG_aload_n dX8_keep_51 rfl ?_
    refine mG_get fX8_35 dX8_keep_52 e40 (Nat.le_of_ble_eq_true rfl) rfl ?_
    refine mG_sipush (v := nI 330) dX8_keep_55 (by decide) ?_
    refine mG_iconst (v := nI 1) dX8_keep_58 (by decide) ?_
    refine mG_iload_n dX8_keep_59 rfl ?_
    refine mG_iaddN dX8_keep_60 ?_
    refine mG_imulN dX8_keep_61 ?_
    refine mG_iload_n dX8_keep_62 rfl ?_
    refine mG_iaddN dX8_keep_63 ?_
    refine mG_aload_n dX8_keep_64 rfl ?_
    refine mG_get fX8_35 dX8_keep_65 e40 (Nat.le_of_ble_eq_true rfl) rfl ?_
    refine mG_iload_n dX8_keep_68 rfl ?_
    refine mG_ialdA dX8_keep_69 rfl (Nat.le_of_ble_eq_true rfl) (by decide) (by omega) ?_
    rw [cpF_out (show ¬ (330 ≤ i ∧ i < 330 + i) by omega)]
    refine mG_iastA dX8_keep_70 rfl (Nat.le_of_ble_eq_true rfl) (by decide) (by omega) ?_
    rw [mU_same, cpF_d0]
    refine mG_iincN dX8_keep_71 rfl (Nat.le_of_ble_eq_true rfl) rfl rfl ?_
    refine mG_goto dX8_keep_74 ?_
    exact ih (i + 1) (by omega)
set_option maxRecDepth 100000 in
set_option maxHeartbeats 4000000 in
theorem lp_X8_keep1_0 {E : mE} {h : mH} {ty a sd so va it mo fa : Nat} {wr : Bool} {tr : Int64} {kn bf nw sr : Nat → Nat} {ik : Nat → Bool} (e40 : h 40 = oMo ty a sd so va wr it mo fa tr) (e47 : h 47 = mAr 33 nw) (e48 : h 48 = mAr 3 kn) (e49 : h 49 = mAr 990 bf) (e51 : h 51 = mZr 2 ik)  : ∀ (k i : Nat), i + k = 33 → mG E (mR 2, zX8_keep) (mKq E (mR 2) mN (mX (some (vN (nw 32))) (mU (mU (mU (mU h 50 (mAr 66 (cpF nw sr 0 0 33))) 49 (mAr 990 (cpF bf bf 0 330 330))) 48 (mAr 3 (mUp kn 1 (kn 0)))) 51 (mZr 2 (mUb ik 0 true))))) 13 [some (.ref 40), some (vN 0), some (vN i)] [] (mN, 0, 0) (mU h 50 (mAr 66 (cpF nw sr 0 0 i))) := by
  intro k
  induction k with
  | zero =>
    intro i hk
    refine mG_iload_n dX8_keep_13 rfl ?_
    refine mG_bipush (v := nI 33) dX8_keep_14 (by decide) ?_
    refine mG_icmp_geN dX8_keep_16 (by omega) (by omega) (fun c16 => ?_) (fun c16 => absurd c16 (by omega))
    refine mG_iconst (v := nI 0) dX8_keep_42 (by decide) ?_
    refine mG_istore_n dX8_keep_43 (Nat.le_of_ble_eq_true rfl) rfl rfl ?_
    obtain rfl : i = 33 := by omega
    have q := lp_X8_keep2_0 (E := E) (h := h) (bf := bf) (sr := sr) e40 e47 e48 e51 330 0 rfl
    rw [cpF_0, mU_self (mU h 50 _) 49 _ (show mU h 50 _ 49 = mAr 990 bf from e49)] at q
    exact q
  | succ k ih =>
    intro i hk
    refine mG_iload_n dX8_keep_13 rfl ?_
    refine mG_bipush (v := nI 33) dX8_keep_14 (by decide) ?_
    refine mG_icmp_geN dX8_keep_16 (by omega) (by omega) (fun c16 => absurd c16 (by omega)) (fun c16 => ?_)
    refine mG_aload_n dX8_keep_19 rfl ?_
    refine mG_get fX8_38 dX8_keep_20 e40 (Nat.le_of_ble_eq_true rfl) rfl ?_
    refine mG_bipush (v := nI 33) dX8_keep_23 (by decide) ?_
    refine mG_iload_n dX8_keep_25 rfl ?_
    refine mG_imulN dX8_keep_26 ?_
    refine mG_iload_n dX8_keep_27 rfl ?_
    refine mG_iaddN dX8_keep_28 ?_
    refine mG_aload_n dX8_keep_29 rfl ?_
    refine mG_get fX8_29 dX8_keep_30 e40 (Nat.le_of_ble_eq_true rfl) rfl ?_
    refine mG_iload_n dX8_keep_33 rfl ?_
    refine mG_ialdA dX8_keep_34 e47 (Nat.le_of_ble_eq_true rfl) (by decide) (by omega) ?_
    refine mG_iastA dX8_keep_35 rfl (Nat.le_of_ble_eq_true rfl) (by decide) (by omega) ?_
    rw [mU_same, cpF_d0]
    refine mG_iincN dX8_keep_36 rfl (Nat.le_of_ble_eq_true rfl) rfl rfl ?_
    refine mG_goto dX8_keep_39 ?_
    exact ih (i + 1) (by omega)
set_option maxRecDepth 100000 in
set_option maxHeartbeats 4000000 in
theorem ok_X8_keep_0 {E : mE} {h : mH} {ty a sd so va it mo fa : Nat} {wr : Bool} {tr : Int64} {kn bf nw sr : Nat → Nat} {ik : Nat → Bool} (e40 : h 40 = oMo ty a sd so va wr it mo fa tr) (e47 : h 47 = mAr 33 nw) (e48 : h 48 = mAr 3 kn) (e49 : h 49 = mAr 990 bf) (e50 : h 50 = mAr 66 sr) (e51 : h 51 = mZr 2 ik)  : mOk E 2 zX8_keep [.ref 40, vN 0] h (mX (some (vN (nw 32))) (mU (mU (mU (mU h 50 (mAr 66 (cpF nw sr 0 0 33))) 49 (mAr 990 (cpF bf bf 0 330 330))) 48 (mAr 3 (mUp kn 1 (kn 0)))) 51 (mZr 2 (mUb ik 0 true)))) := by
  refine mOk_w (L := [some (.ref 40), some (vN 0), none]) pn_X8 rfl (Nat.le_of_ble_eq_true rfl) rfl ?_
  refine mG_iload_n dX8_keep_0 rfl ?_
  refine mG_iconst (v := nI 0) dX8_keep_1 (by decide) ?_
  refine mG_iconst (v := nI 1) dX8_keep_2 (by decide) ?_
  refine mG_cs3 sX8_63 dX8_keep_3 (mLe_of rfl) (Nat.le_of_ble_eq_true rfl) (ok_X8_in) ?_
  refine mG_if_neB dX8_keep_6 (fun c6 => ?_) (fun c6 => absurd c6 (by decide))
  refine mG_iconst (v := nI 0) dX8_keep_11 (by decide) ?_
  refine mG_istore_n dX8_keep_12 (Nat.le_of_ble_eq_true rfl) rfl rfl ?_
  have q := lp_X8_keep1_0 (E := E) (h := h) (sr := sr) e40 e47 e48 e49 e51 33 0 rfl
  rw [cpF_0, mU_self h 50 _ e50] at q
  exact q
set_option maxRecDepth 100000 in
set_option maxHeartbeats 4000000 in
theorem lp_X8_back2_0 {E : mE} {h : mH} {ty a sd so va it mo fa : Nat} {wr : Bool} {tr : Int64} {kn bf nw sr : Nat → Nat} (e40 : h 40 = oMo ty a sd so va wr it mo fa tr) (e48 : h 48 = mAr 3 kn)  : ∀ (k i : Nat), i + k = 330 → mG E (mR 2, zX8_back) (mKq E (mR 2) mN (mX (some (vN (sr (0 + 32)))) (mU (mU (mU h 47 (mAr 33 (cpF sr nw 0 0 33))) 49 (mAr 990 (cpF bf bf 330 0 330))) 48 (mAr 3 (mUp kn 0 (kn 1)))))) 56 [some (.ref 40), some (vN 0), some (vN i)] [] (mN, 0, 0) (mU (mU h 47 (mAr 33 (cpF sr nw 0 0 33))) 49 (mAr 990 (cpF bf bf 330 0 i))) := by
  intro k
  induction k with
  | zero =>
    intro i hk
    refine mG_iload_n dX8_back_56 rfl ?_
    refine mG_sipush (v := nI 330) dX8_back_57 (by decide) ?_
    refine mG_icmp_geN dX8_back_60 (by omega) (by omega) (fun c60 => ?_) (fun c60 => absurd c60 (by omega))
    refine mG_aload_n dX8_back_89 rfl ?_
    refine mG_get fX8_32 dX8_back_90 e40 (Nat.le_of_ble_eq_true rfl) rfl ?_
    refine mG_iconst (v := nI 0) dX8_back_93 (by decide) ?_
    refine mG_aload_n dX8_back_94 rfl ?_
    refine mG_get fX8_32 dX8_back_95 e40 (Nat.le_of_ble_eq_true rfl) rfl ?_
    refine mG_iconst (v := nI 1) dX8_back_98 (by decide) ?_
    refine mG_iload_n dX8_back_99 rfl ?_
    refine mG_iaddN dX8_back_100 ?_
    refine mG_ialdA dX8_back_101 e48 (Nat.le_of_ble_eq_true rfl) (by decide) (by omega) ?_
    refine mG_iastA dX8_back_102 e48 (Nat.le_of_ble_eq_true rfl) (by decide) (by omega) ?_
    refine mG_aload_n dX8_back_103 rfl ?_
    refine mG_get fX8_29 dX8_back_104 e40 (Nat.le_of_ble_eq_true rfl) rfl ?_
    refine mG_bipush (v := nI 32) dX8_back_107 (by decide) ?_
    refine mG_ialdA dX8_back_109 rfl (Nat.le_of_ble_eq_true rfl) (by decide) (by omega) ?_
    exact mG_iret dX8_back_110 rfl (mX_of rfl (by rw [show i = 330 by omega]))
  | succ k ih =>
    intro i hk
    refine mG_iload_n dX8_back_56 rfl ?_
    refine mG_sipush (v := nI 330) dX8_back_57 (by decide) ?_
    refine mG_icmp_geN dX8_back_60 (by omega) (by omega) (fun c60 => absurd c60 (by omega)) (fun c60 => ?_)
    refine mG_aload_n dX8_back_63 rfl ?_
    refine mG_get fX8_35 dX8_back_64 e40 (Nat.le_of_ble_eq_true rfl) rfl ?_
    refine mG_iload_n dX8_back_67 rfl ?_
    refine mG_aload_n dX8_back_68 rfl ?_
    refine mG_get fX8_35 dX8_back_69 e40 (Nat.le_of_ble_eq_true rfl) rfl ?_
    refine mG_sipush (v := nI 330) dX8_back_72 (by decide) ?_
    refine mG_iconst (v := nI 1) dX8_back_75 (by decide) ?_
    refine mG_iload_n dX8_back_76 rfl ?_
    refine mG_iaddN dX8_back_77 ?_
    refine mG_imulN dX8_back_78 ?_
    refine mG_iload_n dX8_back_79 rfl ?_
    refine mG_iaddN dX8_back_80 ?_
    refine mG_ialdA dX8_back_81 rfl (Nat.le_of_ble_eq_true rfl) (by decide) (by omega) ?_
    rw [cpF_out (show ¬ (0 ≤ 330 + i ∧ 330 + i < 0 + i) by omega)]
    refine mG_iastA dX8_back_82 rfl (Nat.le_of_ble_eq_true rfl) (by decide) (by omega) ?_
    rw [mU_same, cpF_s0]
    refine mG_iincN dX8_back_83 rfl (Nat.le_of_ble_eq_true rfl) rfl rfl ?_
    refine mG_goto dX8_back_86 ?_
    exact ih (i + 1) (by omega)
set_option maxRecDepth 100000 in
set_option maxHeartbeats 4000000 in
theorem lp_X8_back1_0 {E : mE} {h : mH} {ty a sd so va it mo fa : Nat} {wr : Bool} {tr : Int64} {kn bf nw sr : Nat → Nat} (e40 : h 40 = oMo ty a sd so va wr it mo fa tr) (e48 : h 48 = mAr 3 kn) (e49 : h 49 = mAr 990 bf) (e50 : h 50 = mAr 66 sr)  : ∀ (k i : Nat), i + k = 33 → mG E (mR 2, zX8_back) (mKq E (mR 2) mN (mX (some (vN (sr (0 + 32)))) (mU (mU (mU h 47 (mAr 33 (cpF sr nw 0 0 33))) 49 (mAr 990 (cpF bf bf 330 0 330))) 48 (mAr 3 (mUp kn 0 (kn 1)))))) 25 [some (.ref 40), some (vN 0), some (vN i)] [] (mN, 0, 0) (mU h 47 (mAr 33 (cpF sr nw 0 0 i))) := by
  intro k
  induction k with
  | zero =>
    intro i hk
    refine mG_iload_n dX8_back_25 rfl ?_
    refine mG_bipush (v := nI 33) dX8_back_26 (by decide) ?_
    refine mG_icmp_geN dX8_back_28 (by omega) (by omega) (fun c28 => ?_) (fun c28 => absurd c28 (by omega))
    refine mG_iconst (v := nI 0) dX8_back_54 (by decide) ?_
    refine mG_istore_n dX8_back_55 (Nat.le_of_ble_eq_true rfl) rfl rfl ?_
    obtain rfl : i = 33 := by omega
    have q := lp_X8_back2_0 (E := E) (h := h) (bf := bf) (sr := sr) (nw := nw) e40 e48 330 0 rfl
    rw [cpF_0, mU_self (mU h 47 _) 49 _ (show mU h 47 _ 49 = mAr 990 bf from e49)] at q
    exact q
  | succ k ih =>
    intro i hk
    refine mG_iload_n dX8_back_25 rfl ?_
    refine mG_bipush (v := nI 33) dX8_back_26 (by decide) ?_
    refine mG_icmp_geN dX8_back_28 (by omega) (by omega) (fun c28 => absurd c28 (by omega)) (fun c28 => ?_)
    refine mG_aload_n dX8_back_31 rfl ?_
    refine mG_get fX8_29 dX8_back_32 e40 (Nat.le_of_ble_eq_true rfl) rfl ?_
    refine mG_iload_n dX8_back_35 rfl ?_
    refine mG_aload_n dX8_back_36 rfl ?_
    refine mG_get fX8_38 dX8_back_37 e40 (Nat.le_of_ble_eq_true rfl) rfl ?_
    refine mG_bipush (v := nI 33) dX8_back_40 (by decide) ?_
    refine mG_iload_n dX8_back_42 rfl ?_
    refine mG_imulN dX8_back_43 ?_
    refine mG_iload_n dX8_back_44 rfl ?_
    refine mG_iaddN dX8_back_45 ?_
    refine mG_ialdA dX8_back_46 e50 (Nat.le_of_ble_eq_true rfl) (by decide) (by omega) ?_
    refine mG_iastA dX8_back_47 rfl (Nat.le_of_ble_eq_true rfl) (by decide) (by omega) ?_
    rw [mU_same, cpF_s0]
    refine mG_iincN dX8_back_48 rfl (Nat.le_of_ble_eq_true rfl) rfl rfl ?_
    refine mG_goto dX8_back_51 ?_
    exact ih (i + 1) (by omega)
set_option maxRecDepth 100000 in
set_option maxHeartbeats 4000000 in
theorem ok_X8_back_0 {E : mE} {h : mH} {ty a sd so va it mo fa : Nat} {wr : Bool} {tr : Int64} {kn bf nw sr : Nat → Nat} {ik : Nat → Bool} (e40 : h 40 = oMo ty a sd so va wr it mo fa tr) (e47 : h 47 = mAr 33 nw) (e48 : h 48 = mAr 3 kn) (e49 : h 49 = mAr 990 bf) (e50 : h 50 = mAr 66 sr) (e51 : h 51 = mZr 2 ik) (hk : ik 0 = true) : mOk E 2 zX8_back [.ref 40, vN 0] h (mX (some (vN (sr (0 + 32)))) (mU (mU (mU h 47 (mAr 33 (cpF sr nw 0 0 33))) 49 (mAr 990 (cpF bf bf 330 0 330))) 48 (mAr 3 (mUp kn 0 (kn 1))))) := by
  refine mOk_w (L := [some (.ref 40), some (vN 0), none]) pn_X8 rfl (Nat.le_of_ble_eq_true rfl) rfl ?_
  refine mG_iload_n dX8_back_0 rfl ?_
  refine mG_iconst (v := nI 0) dX8_back_1 (by decide) ?_
  refine mG_iconst (v := nI 1) dX8_back_2 (by decide) ?_
  refine mG_cs3 sX8_63 dX8_back_3 (mLe_of rfl) (Nat.le_of_ble_eq_true rfl) (ok_X8_in) ?_
  refine mG_if_neB dX8_back_6 (fun c6 => ?_) (fun c6 => absurd c6 (by decide))
  refine mG_aload_n dX8_back_11 rfl ?_
  refine mG_get fX8_41 dX8_back_12 e40 (Nat.le_of_ble_eq_true rfl) rfl ?_
  refine mG_iload_n dX8_back_15 rfl ?_
  refine mG_zaldN dX8_back_16 e51 (Nat.le_of_ble_eq_true rfl) (by decide) (by decide) ?_
  refine mG_if_neB dX8_back_17 (fun c17 => ?_) (fun c17 => Bool.noConfusion (c17.symm.trans hk))
  refine mG_iconst (v := nI 0) dX8_back_23 (by decide) ?_
  refine mG_istore_n dX8_back_24 (Nat.le_of_ble_eq_true rfl) rfl rfl ?_
  have q := lp_X8_back1_0 (E := E) (h := h) (nw := nw) e40 e48 e49 e50 33 0 rfl
  rw [cpF_0, mU_self h 47 _ e47] at q
  exact q
set_option maxRecDepth 100000 in
set_option maxHeartbeats 4000000 in
theorem ok_X8_back_none_0 {E : mE} {h : mH} {ty a sd so va it mo fa : Nat} {wr : Bool} {tr : Int64} {ik : Nat → Bool} (e40 : h 40 = oMo ty a sd so va wr it mo fa tr) (e51 : h 51 = mZr 2 ik) (hk : ik 0 = false) : mOk E 2 zX8_back [.ref 40, vN 0] h (mX (some (.int (-2))) h) := by
  refine mOk_w (L := [some (.ref 40), some (vN 0), none]) pn_X8 rfl (Nat.le_of_ble_eq_true rfl) rfl ?_
  refine mG_iload_n dX8_back_0 rfl ?_
  refine mG_iconst (v := nI 0) dX8_back_1 (by decide) ?_
  refine mG_iconst (v := nI 1) dX8_back_2 (by decide) ?_
  refine mG_cs3 sX8_63 dX8_back_3 (mLe_of rfl) (Nat.le_of_ble_eq_true rfl) (ok_X8_in) ?_
  refine mG_if_neB dX8_back_6 (fun c6 => ?_) (fun c6 => absurd c6 (by decide))
  refine mG_aload_n dX8_back_11 rfl ?_
  refine mG_get fX8_41 dX8_back_12 e40 (Nat.le_of_ble_eq_true rfl) rfl ?_
  refine mG_iload_n dX8_back_15 rfl ?_
  refine mG_zaldN dX8_back_16 e51 (Nat.le_of_ble_eq_true rfl) (by decide) (by decide) ?_
  refine mG_if_neB dX8_back_17 (fun c17 => Bool.noConfusion (c17.symm.trans hk)) (fun c17 => ?_)
  refine mG_bipush (v := (-2)) dX8_back_20 (by decide) ?_
  exact mG_iret dX8_back_22 rfl (mX_of rfl rfl)
set_option maxRecDepth 100000 in
set_option maxHeartbeats 4000000 in
theorem lp_X8_keep2_1 {E : mE} {h : mH} {ty a sd so va it mo fa : Nat} {wr : Bool} {tr : Int64} {kn bf nw sr : Nat → Nat} {ik : Nat → Bool} (e40 : h 40 = oMo ty a sd so va wr it mo fa tr) (e47 : h 47 = mAr 33 nw) (e48 : h 48 = mAr 3 kn) (e51 : h 51 = mZr 2 ik)  : ∀ (k i : Nat), i + k = 330 → mG E (mR 2, zX8_keep) (mKq E (mR 2) mN (mX (some (vN (nw 32))) (mU (mU (mU (mU h 50 (mAr 66 (cpF nw sr 0 33 33))) 49 (mAr 990 (cpF bf bf 0 660 330))) 48 (mAr 3 (mUp kn 2 (kn 0)))) 51 (mZr 2 (mUb ik 1 true))))) 44 [some (.ref 40), some (vN 1), some (vN i)] [] (mN, 0, 0) (mU (mU h 50 (mAr 66 (cpF nw sr 0 33 33))) 49 (mAr 990 (cpF bf bf 0 660 i))) := by
  intro k
  induction k with
  | zero =>
    intro i hk
    refine mG_iload_n dX8_keep_44 rfl ?_
    refine mG_sipush (v := nI 330) dX8_keep_45 (by decide) ?_
    refine mG_icmp_geN dX8_keep_48 (by omega) (by omega) (fun c48 => ?_) (fun c48 => absurd c48 (by omega))
    refine mG_aload_n dX8_keep_77 rfl ?_
    refine mG_get fX8_32 dX8_keep_78 e40 (Nat.le_of_ble_eq_true rfl) rfl ?_
    refine mG_iconst (v := nI 1) dX8_keep_81 (by decide) ?_
    refine mG_iload_n dX8_keep_82 rfl ?_
    refine mG_iaddN dX8_keep_83 ?_
    refine mG_aload_n dX8_keep_84 rfl ?_
    refine mG_get fX8_32 dX8_keep_85 e40 (Nat.le_of_ble_eq_true rfl) rfl ?_
    refine mG_iconst (v := nI 0) dX8_keep_88 (by decide) ?_
    refine mG_ialdA dX8_keep_89 e48 (Nat.le_of_ble_eq_true rfl) (by decide) (by omega) ?_
    refine mG_iastA dX8_keep_90 e48 (Nat.le_of_ble_eq_true rfl) (by decide) (by omega) ?_
    refine mG_aload_n dX8_keep_91 rfl ?_
    refine mG_get fX8_41 dX8_keep_92 e40 (Nat.le_of_ble_eq_true rfl) rfl ?_
    refine mG_iload_n dX8_keep_95 rfl ?_
    refine mG_iconst (v := nI 1) dX8_keep_96 (by decide) ?_
    refine mG_zastN (x := true) dX8_keep_97 e51 (Nat.le_of_ble_eq_true rfl) (by decide) (by decide) ?_
    refine mG_aload_n dX8_keep_98 rfl ?_
    refine mG_get fX8_29 dX8_keep_99 e40 (Nat.le_of_ble_eq_true rfl) rfl ?_
    refine mG_bipush (v := nI 32) dX8_keep_102 (by decide) ?_
    refine mG_ialdA dX8_keep_104 e47 (Nat.le_of_ble_eq_true rfl) (by decide) (by omega) ?_
    exact mG_iret dX8_keep_105 rfl (mX_of rfl (by rw [show i = 330 by omega, mUb_mb]))
  | succ k ih =>
    intro i hk
    refine mG_iload_n dX8_keep_44 rfl ?_
    refine mG_sipush (v := nI 330) dX8_keep_45 (by decide) ?_
    refine mG_icmp_geN dX8_keep_48 (by omega) (by omega) (fun c48 => absurd c48 (by omega)) (fun c48 => ?_)
    refine mG_aload_n dX8_keep_51 rfl ?_
    refine mG_get fX8_35 dX8_keep_52 e40 (Nat.le_of_ble_eq_true rfl) rfl ?_
    refine mG_sipush (v := nI 330) dX8_keep_55 (by decide) ?_
    refine mG_iconst (v := nI 1) dX8_keep_58 (by decide) ?_
    refine mG_iload_n dX8_keep_59 rfl ?_
    refine mG_iaddN dX8_keep_60 ?_
    refine mG_imulN dX8_keep_61 ?_
    refine mG_iload_n dX8_keep_62 rfl ?_
    refine mG_iaddN dX8_keep_63 ?_
    refine mG_aload_n dX8_keep_64 rfl ?_
    refine mG_get fX8_35 dX8_keep_65 e40 (Nat.le_of_ble_eq_true rfl) rfl ?_
    refine mG_iload_n dX8_keep_68 rfl ?_
    refine mG_ialdA dX8_keep_69 rfl (Nat.le_of_ble_eq_true rfl) (by decide) (by omega) ?_
    rw [cpF_out (show ¬ (660 ≤ i ∧ i < 660 + i) by omega)]
    refine mG_iastA dX8_keep_70 rfl (Nat.le_of_ble_eq_true rfl) (by decide) (by omega) ?_
    rw [mU_same, cpF_d0]
    refine mG_iincN dX8_keep_71 rfl (Nat.le_of_ble_eq_true rfl) rfl rfl ?_
    refine mG_goto dX8_keep_74 ?_
    exact ih (i + 1) (by omega)
set_option maxRecDepth 100000 in
set_option maxHeartbeats 4000000 in
theorem lp_X8_keep1_1 {E : mE} {h : mH} {ty a sd so va it mo fa : Nat} {wr : Bool} {tr : Int64} {kn bf nw sr : Nat → Nat} {ik : Nat → Bool} (e40 : h 40 = oMo ty a sd so va wr it mo fa tr) (e47 : h 47 = mAr 33 nw) (e48 : h 48 = mAr 3 kn) (e49 : h 49 = mAr 990 bf) (e51 : h 51 = mZr 2 ik)  : ∀ (k i : Nat), i + k = 33 → mG E (mR 2, zX8_keep) (mKq E (mR 2) mN (mX (some (vN (nw 32))) (mU (mU (mU (mU h 50 (mAr 66 (cpF nw sr 0 33 33))) 49 (mAr 990 (cpF bf bf 0 660 330))) 48 (mAr 3 (mUp kn 2 (kn 0)))) 51 (mZr 2 (mUb ik 1 true))))) 13 [some (.ref 40), some (vN 1), some (vN i)] [] (mN, 0, 0) (mU h 50 (mAr 66 (cpF nw sr 0 33 i))) := by
  intro k
  induction k with
  | zero =>
    intro i hk
    refine mG_iload_n dX8_keep_13 rfl ?_
    refine mG_bipush (v := nI 33) dX8_keep_14 (by decide) ?_
    refine mG_icmp_geN dX8_keep_16 (by omega) (by omega) (fun c16 => ?_) (fun c16 => absurd c16 (by omega))
    refine mG_iconst (v := nI 0) dX8_keep_42 (by decide) ?_
    refine mG_istore_n dX8_keep_43 (Nat.le_of_ble_eq_true rfl) rfl rfl ?_
    obtain rfl : i = 33 := by omega
    have q := lp_X8_keep2_1 (E := E) (h := h) (bf := bf) (sr := sr) e40 e47 e48 e51 330 0 rfl
    rw [cpF_0, mU_self (mU h 50 _) 49 _ (show mU h 50 _ 49 = mAr 990 bf from e49)] at q
    exact q
  | succ k ih =>
    intro i hk
    refine mG_iload_n dX8_keep_13 rfl ?_
    refine mG_bipush (v := nI 33) dX8_keep_14 (by decide) ?_
    refine mG_icmp_geN dX8_keep_16 (by omega) (by omega) (fun c16 => absurd c16 (by omega)) (fun c16 => ?_)
    refine mG_aload_n dX8_keep_19 rfl ?_
    refine mG_get fX8_38 dX8_keep_20 e40 (Nat.le_of_ble_eq_true rfl) rfl ?_
    refine mG_bipush (v := nI 33) dX8_keep_23 (by decide) ?_
    refine mG_iload_n dX8_keep_25 rfl ?_
    refine mG_imulN dX8_keep_26 ?_
    refine mG_iload_n dX8_keep_27 rfl ?_
    refine mG_iaddN dX8_keep_28 ?_
    refine mG_aload_n dX8_keep_29 rfl ?_
    refine mG_get fX8_29 dX8_keep_30 e40 (Nat.le_of_ble_eq_true rfl) rfl ?_
    refine mG_iload_n dX8_keep_33 rfl ?_
    refine mG_ialdA dX8_keep_34 e47 (Nat.le_of_ble_eq_true rfl) (by decide) (by omega) ?_
    refine mG_iastA dX8_keep_35 rfl (Nat.le_of_ble_eq_true rfl) (by decide) (by omega) ?_
    rw [mU_same, cpF_d0]
    refine mG_iincN dX8_keep_36 rfl (Nat.le_of_ble_eq_true rfl) rfl rfl ?_
    refine mG_goto dX8_keep_39 ?_
    exact ih (i + 1) (by omega)
set_option maxRecDepth 100000 in
set_option maxHeartbeats 4000000 in
theorem ok_X8_keep_1 {E : mE} {h : mH} {ty a sd so va it mo fa : Nat} {wr : Bool} {tr : Int64} {kn bf nw sr : Nat → Nat} {ik : Nat → Bool} (e40 : h 40 = oMo ty a sd so va wr it mo fa tr) (e47 : h 47 = mAr 33 nw) (e48 : h 48 = mAr 3 kn) (e49 : h 49 = mAr 990 bf) (e50 : h 50 = mAr 66 sr) (e51 : h 51 = mZr 2 ik)  : mOk E 2 zX8_keep [.ref 40, vN 1] h (mX (some (vN (nw 32))) (mU (mU (mU (mU h 50 (mAr 66 (cpF nw sr 0 33 33))) 49 (mAr 990 (cpF bf bf 0 660 330))) 48 (mAr 3 (mUp kn 2 (kn 0)))) 51 (mZr 2 (mUb ik 1 true)))) := by
  refine mOk_w (L := [some (.ref 40), some (vN 1), none]) pn_X8 rfl (Nat.le_of_ble_eq_true rfl) rfl ?_
  refine mG_iload_n dX8_keep_0 rfl ?_
  refine mG_iconst (v := nI 0) dX8_keep_1 (by decide) ?_
  refine mG_iconst (v := nI 1) dX8_keep_2 (by decide) ?_
  refine mG_cs3 sX8_63 dX8_keep_3 (mLe_of rfl) (Nat.le_of_ble_eq_true rfl) (ok_X8_in) ?_
  refine mG_if_neB dX8_keep_6 (fun c6 => ?_) (fun c6 => absurd c6 (by decide))
  refine mG_iconst (v := nI 0) dX8_keep_11 (by decide) ?_
  refine mG_istore_n dX8_keep_12 (Nat.le_of_ble_eq_true rfl) rfl rfl ?_
  have q := lp_X8_keep1_1 (E := E) (h := h) (sr := sr) e40 e47 e48 e49 e51 33 0 rfl
  rw [cpF_0, mU_self h 50 _ e50] at q
  exact q
set_option maxRecDepth 100000 in
set_option maxHeartbeats 4000000 in
theorem lp_X8_back2_1 {E : mE} {h : mH} {ty a sd so va it mo fa : Nat} {wr : Bool} {tr : Int64} {kn bf nw sr : Nat → Nat} (e40 : h 40 = oMo ty a sd so va wr it mo fa tr) (e48 : h 48 = mAr 3 kn)  : ∀ (k i : Nat), i + k = 330 → mG E (mR 2, zX8_back) (mKq E (mR 2) mN (mX (some (vN (sr (33 + 32)))) (mU (mU (mU h 47 (mAr 33 (cpF sr nw 33 0 33))) 49 (mAr 990 (cpF bf bf 660 0 330))) 48 (mAr 3 (mUp kn 0 (kn 2)))))) 56 [some (.ref 40), some (vN 1), some (vN i)] [] (mN, 0, 0) (mU (mU h 47 (mAr 33 (cpF sr nw 33 0 33))) 49 (mAr 990 (cpF bf bf 660 0 i))) := by
  intro k
  induction k with
  | zero =>
    intro i hk
    refine mG_iload_n dX8_back_56 rfl ?_
    refine mG_sipush (v := nI 330) dX8_back_57 (by decide) ?_
    refine mG_icmp_geN dX8_back_60 (by omega) (by omega) (fun c60 => ?_) (fun c60 => absurd c60 (by omega))
    refine mG_aload_n dX8_back_89 rfl ?_
    refine mG_get fX8_32 dX8_back_90 e40 (Nat.le_of_ble_eq_true rfl) rfl ?_
    refine mG_iconst (v := nI 0) dX8_back_93 (by decide) ?_
    refine mG_aload_n dX8_back_94 rfl ?_
    refine mG_get fX8_32 dX8_back_95 e40 (Nat.le_of_ble_eq_true rfl) rfl ?_
    refine mG_iconst (v := nI 1) dX8_back_98 (by decide) ?_
    refine mG_iload_n dX8_back_99 rfl ?_
    refine mG_iaddN dX8_back_100 ?_
    refine mG_ialdA dX8_back_101 e48 (Nat.le_of_ble_eq_true rfl) (by decide) (by omega) ?_
    refine mG_iastA dX8_back_102 e48 (Nat.le_of_ble_eq_true rfl) (by decide) (by omega) ?_
    refine mG_aload_n dX8_back_103 rfl ?_
    refine mG_get fX8_29 dX8_back_104 e40 (Nat.le_of_ble_eq_true rfl) rfl ?_
    refine mG_bipush (v := nI 32) dX8_back_107 (by decide) ?_
    refine mG_ialdA dX8_back_109 rfl (Nat.le_of_ble_eq_true rfl) (by decide) (by omega) ?_
    exact mG_iret dX8_back_110 rfl (mX_of rfl (by rw [show i = 330 by omega]))
  | succ k ih =>
    intro i hk
    refine mG_iload_n dX8_back_56 rfl ?_
    refine mG_sipush (v := nI 330) dX8_back_57 (by decide) ?_
    refine mG_icmp_geN dX8_back_60 (by omega) (by omega) (fun c60 => absurd c60 (by omega)) (fun c60 => ?_)
    refine mG_aload_n dX8_back_63 rfl ?_
    refine mG_get fX8_35 dX8_back_64 e40 (Nat.le_of_ble_eq_true rfl) rfl ?_
    refine mG_iload_n dX8_back_67 rfl ?_
    refine mG_aload_n dX8_back_68 rfl ?_
    refine mG_get fX8_35 dX8_back_69 e40 (Nat.le_of_ble_eq_true rfl) rfl ?_
    refine mG_sipush (v := nI 330) dX8_back_72 (by decide) ?_
    refine mG_iconst (v := nI 1) dX8_back_75 (by decide) ?_
    refine mG_iload_n dX8_back_76 rfl ?_
    refine mG_iaddN dX8_back_77 ?_
    refine mG_imulN dX8_back_78 ?_
    refine mG_iload_n dX8_back_79 rfl ?_
    refine mG_iaddN dX8_back_80 ?_
    refine mG_ialdA dX8_back_81 rfl (Nat.le_of_ble_eq_true rfl) (by decide) (by omega) ?_
    rw [cpF_out (show ¬ (0 ≤ 660 + i ∧ 660 + i < 0 + i) by omega)]
    refine mG_iastA dX8_back_82 rfl (Nat.le_of_ble_eq_true rfl) (by decide) (by omega) ?_
    rw [mU_same, cpF_s0]
    refine mG_iincN dX8_back_83 rfl (Nat.le_of_ble_eq_true rfl) rfl rfl ?_
    refine mG_goto dX8_back_86 ?_
    exact ih (i + 1) (by omega)
set_option maxRecDepth 100000 in
set_option maxHeartbeats 4000000 in
theorem lp_X8_back1_1 {E : mE} {h : mH} {ty a sd so va it mo fa : Nat} {wr : Bool} {tr : Int64} {kn bf nw sr : Nat → Nat} (e40 : h 40 = oMo ty a sd so va wr it mo fa tr) (e48 : h 48 = mAr 3 kn) (e49 : h 49 = mAr 990 bf) (e50 : h 50 = mAr 66 sr)  : ∀ (k i : Nat), i + k = 33 → mG E (mR 2, zX8_back) (mKq E (mR 2) mN (mX (some (vN (sr (33 + 32)))) (mU (mU (mU h 47 (mAr 33 (cpF sr nw 33 0 33))) 49 (mAr 990 (cpF bf bf 660 0 330))) 48 (mAr 3 (mUp kn 0 (kn 2)))))) 25 [some (.ref 40), some (vN 1), some (vN i)] [] (mN, 0, 0) (mU h 47 (mAr 33 (cpF sr nw 33 0 i))) := by
  intro k
  induction k with
  | zero =>
    intro i hk
    refine mG_iload_n dX8_back_25 rfl ?_
    refine mG_bipush (v := nI 33) dX8_back_26 (by decide) ?_
    refine mG_icmp_geN dX8_back_28 (by omega) (by omega) (fun c28 => ?_) (fun c28 => absurd c28 (by omega))
    refine mG_iconst (v := nI 0) dX8_back_54 (by decide) ?_
    refine mG_istore_n dX8_back_55 (Nat.le_of_ble_eq_true rfl) rfl rfl ?_
    obtain rfl : i = 33 := by omega
    have q := lp_X8_back2_1 (E := E) (h := h) (bf := bf) (sr := sr) (nw := nw) e40 e48 330 0 rfl
    rw [cpF_0, mU_self (mU h 47 _) 49 _ (show mU h 47 _ 49 = mAr 990 bf from e49)] at q
    exact q
  | succ k ih =>
    intro i hk
    refine mG_iload_n dX8_back_25 rfl ?_
    refine mG_bipush (v := nI 33) dX8_back_26 (by decide) ?_
    refine mG_icmp_geN dX8_back_28 (by omega) (by omega) (fun c28 => absurd c28 (by omega)) (fun c28 => ?_)
    refine mG_aload_n dX8_back_31 rfl ?_
    refine mG_get fX8_29 dX8_back_32 e40 (Nat.le_of_ble_eq_true rfl) rfl ?_
    refine mG_iload_n dX8_back_35 rfl ?_
    refine mG_aload_n dX8_back_36 rfl ?_
    refine mG_get fX8_38 dX8_back_37 e40 (Nat.le_of_ble_eq_true rfl) rfl ?_
    refine mG_bipush (v := nI 33) dX8_back_40 (by decide) ?_
    refine mG_iload_n dX8_back_42 rfl ?_
    refine mG_imulN dX8_back_43 ?_
    refine mG_iload_n dX8_back_44 rfl ?_
    refine mG_iaddN dX8_back_45 ?_
    refine mG_ialdA dX8_back_46 e50 (Nat.le_of_ble_eq_true rfl) (by decide) (by omega) ?_
    refine mG_iastA dX8_back_47 rfl (Nat.le_of_ble_eq_true rfl) (by decide) (by omega) ?_
    rw [mU_same, cpF_s0]
    refine mG_iincN dX8_back_48 rfl (Nat.le_of_ble_eq_true rfl) rfl rfl ?_
    refine mG_goto dX8_back_51 ?_
    exact ih (i + 1) (by omega)
set_option maxRecDepth 100000 in
set_option maxHeartbeats 4000000 in
theorem ok_X8_back_1 {E : mE} {h : mH} {ty a sd so va it mo fa : Nat} {wr : Bool} {tr : Int64} {kn bf nw sr : Nat → Nat} {ik : Nat → Bool} (e40 : h 40 = oMo ty a sd so va wr it mo fa tr) (e47 : h 47 = mAr 33 nw) (e48 : h 48 = mAr 3 kn) (e49 : h 49 = mAr 990 bf) (e50 : h 50 = mAr 66 sr) (e51 : h 51 = mZr 2 ik) (hk : ik 1 = true) : mOk E 2 zX8_back [.ref 40, vN 1] h (mX (some (vN (sr (33 + 32)))) (mU (mU (mU h 47 (mAr 33 (cpF sr nw 33 0 33))) 49 (mAr 990 (cpF bf bf 660 0 330))) 48 (mAr 3 (mUp kn 0 (kn 2))))) := by
  refine mOk_w (L := [some (.ref 40), some (vN 1), none]) pn_X8 rfl (Nat.le_of_ble_eq_true rfl) rfl ?_
  refine mG_iload_n dX8_back_0 rfl ?_
  refine mG_iconst (v := nI 0) dX8_back_1 (by decide) ?_
  refine mG_iconst (v := nI 1) dX8_back_2 (by decide) ?_
  refine mG_cs3 sX8_63 dX8_back_3 (mLe_of rfl) (Nat.le_of_ble_eq_true rfl) (ok_X8_in) ?_
  refine mG_if_neB dX8_back_6 (fun c6 => ?_) (fun c6 => absurd c6 (by decide))
  refine mG_aload_n dX8_back_11 rfl ?_
  refine mG_get fX8_41 dX8_back_12 e40 (Nat.le_of_ble_eq_true rfl) rfl ?_
  refine mG_iload_n dX8_back_15 rfl ?_
  refine mG_zaldN dX8_back_16 e51 (Nat.le_of_ble_eq_true rfl) (by decide) (by decide) ?_
  refine mG_if_neB dX8_back_17 (fun c17 => ?_) (fun c17 => Bool.noConfusion (c17.symm.trans hk))
  refine mG_iconst (v := nI 0) dX8_back_23 (by decide) ?_
  refine mG_istore_n dX8_back_24 (Nat.le_of_ble_eq_true rfl) rfl rfl ?_
  have q := lp_X8_back1_1 (E := E) (h := h) (nw := nw) e40 e48 e49 e50 33 0 rfl
  rw [cpF_0, mU_self h 47 _ e47] at q
  exact q
set_option maxRecDepth 100000 in
set_option maxHeartbeats 4000000 in
theorem ok_X8_back_none_1 {E : mE} {h : mH} {ty a sd so va it mo fa : Nat} {wr : Bool} {tr : Int64} {ik : Nat → Bool} (e40 : h 40 = oMo ty a sd so va wr it mo fa tr) (e51 : h 51 = mZr 2 ik) (hk : ik 1 = false) : mOk E 2 zX8_back [.ref 40, vN 1] h (mX (some (.int (-2))) h) := by
  refine mOk_w (L := [some (.ref 40), some (vN 1), none]) pn_X8 rfl (Nat.le_of_ble_eq_true rfl) rfl ?_
  refine mG_iload_n dX8_back_0 rfl ?_
  refine mG_iconst (v := nI 0) dX8_back_1 (by decide) ?_
  refine mG_iconst (v := nI 1) dX8_back_2 (by decide) ?_
  refine mG_cs3 sX8_63 dX8_back_3 (mLe_of rfl) (Nat.le_of_ble_eq_true rfl) (ok_X8_in) ?_
  refine mG_if_neB dX8_back_6 (fun c6 => ?_) (fun c6 => absurd c6 (by decide))
  refine mG_aload_n dX8_back_11 rfl ?_
  refine mG_get fX8_41 dX8_back_12 e40 (Nat.le_of_ble_eq_true rfl) rfl ?_
  refine mG_iload_n dX8_back_15 rfl ?_
  refine mG_zaldN dX8_back_16 e51 (Nat.le_of_ble_eq_true rfl) (by decide) (by decide) ?_
  refine mG_if_neB dX8_back_17 (fun c17 => Bool.noConfusion (c17.symm.trans hk)) (fun c17 => ?_)
  refine mG_bipush (v := (-2)) dX8_back_20 (by decide) ?_
  exact mG_iret dX8_back_22 rfl (mX_of rfl rfl)
