/-! constructors -/
theorem mG_at {E : mE} {M : mM} {K : mKt} {pc : Nat} {L : List (Option Value)} {st : List Value} {h : mH} {a : Nat × Nat × Nat} (a' : Nat × Nat × Nat) (e : a = a') (k : mG E M K pc L st a' h) : mG E M K pc L st a h := e ▸ k
theorem mOkR_w {E : mE} {h : mH} {L : List (Option Value)} {R : Room} {Y : mY} {av : List Value} {n n' : Nat} {Q : Option Value → mH → Prop} (hp : plainName Y.1.cls = true) (hc : (av.all fun v => v.category == 1) = true) (hl : av.length ≤ Y.2.2.1) (hL : av.map some ++ List.replicate (Y.2.2.1 - av.length) none = L) (k : mG E (R, Y) (mKq E R n' Q) 0 L [] (n, 0, 0) h) : mOkR E R Y av n n' h Q := by
  subst hL
  refine mOkR_of hp (fun v hv => ?_) hl k
  have := List.all_eq_true.mp hc v hv
  simpa using this
abbrev z0 : Nat → Nat := fun _ => 0
theorem w_ii_X0 : Cond.instanceMethod yX0_init ∈ mw := mw_tab 202 (by decide +kernel) rfl
theorem w_ii_X1 : Cond.instanceMethod yX1_init ∈ mw := mw_tab 25 (by decide +kernel) rfl
theorem w_ii_X2 : Cond.instanceMethod yX2_init ∈ mw := mw_tab 131 (by decide +kernel) rfl
theorem w_ii_X3 : Cond.instanceMethod yX3_init ∈ mw := mw_tab 95 (by decide +kernel) rfl
theorem w_ii_X4 : Cond.instanceMethod yX4_init ∈ mw := mw_tab 149 (by decide +kernel) rfl
theorem w_ii_X5 : Cond.instanceMethod yX5_init ∈ mw := mw_tab 52 (by decide +kernel) rfl
theorem w_ii_X6 : Cond.instanceMethod yX6_init ∈ mw := mw_tab 162 (by decide +kernel) rfl
theorem w_ii_X7 : Cond.instanceMethod yX7_init ∈ mw := mw_tab 17 (by decide +kernel) rfl
theorem w_ii_X8 : Cond.instanceMethod yX8_init ∈ mw := mw_tab 663 (by decide +kernel) rfl
set_option maxRecDepth 100000 in
set_option maxHeartbeats 4000000 in
theorem ct_X1_1 {E : mE} {h : mH} (hb : E.2.2.2.2.2.2 = false) (e1 : h 1 = mOb 1 [.null, vN 0, vN 0, vN 0, vN 0, vN 0]) : mOkR E (mRa 1 1 100) zX1_init [.ref 1] 2 3 h (mX none (mU (mU (h) 2 (mAr 100 z0)) 1 (oRd 0 0 0 0 0))) := by
  refine mOkR_w (L := [some (.ref 1)]) pn_X1 rfl (Nat.le_of_ble_eq_true rfl) rfl ?_
  refine mG_aload_n dX1_init_0 rfl ?_
  refine mG_oinit dX1_init_1 oX1_3 (by decide) (Nat.le_of_ble_eq_true rfl) ?_
  refine mG_aload_n dX1_init_4 rfl ?_
  refine mG_bipush (v := nI 100) dX1_init_5 (by decide) ?_
  refine mG_newI dX1_init_7 hb (by decide) (by decide) (Nat.le_of_ble_eq_true rfl) (Nat.le_of_ble_eq_true rfl) ?_
  refine mG_at (3, 1, 100) rfl ?_
  refine mG_putFO pX1_9 dX1_init_9 rfl e1 (Nat.le_of_ble_eq_true rfl) (Nat.le_of_ble_eq_true rfl) rfl rfl ?_
  exact mG_vret dX1_init_12 rfl (mX_of rfl (by
    funext j
    simp only [mU]
    by_cases q1 : j = 1
    · subst q1; rfl
    · by_cases q2 : j = 2
      · subst q2; rfl
      · simp only [q1, q2, if_false])) rfl (Nat.le_refl _) (Nat.le_refl _)
set_option maxRecDepth 100000 in
set_option maxHeartbeats 4000000 in
theorem ct_X5_3 {E : mE} {h : mH} (hb : E.2.2.2.2.2.2 = false) (e3 : h 3 = mOb 5 [.null, .null, vN 0, vN 0, vN 0, vB false]) : mOkR E (mRa 1 2 30) zX5_init [.ref 3] 4 6 h (mX none (mU (mU (mU (h) 4 (mAr 24 z0)) 5 (mAr 6 z0)) 3 (oTold 0 0 0 false))) := by
  refine mOkR_w (L := [some (.ref 3)]) pn_X5 rfl (Nat.le_of_ble_eq_true rfl) rfl ?_
  refine mG_aload_n dX5_init_0 rfl ?_
  refine mG_oinit dX5_init_1 oX5_3 (by decide) (Nat.le_of_ble_eq_true rfl) ?_
  refine mG_aload_n dX5_init_4 rfl ?_
  refine mG_bipush (v := nI 24) dX5_init_5 (by decide) ?_
  refine mG_newI dX5_init_7 hb (by decide) (by decide) (Nat.le_of_ble_eq_true rfl) (Nat.le_of_ble_eq_true rfl) ?_
  refine mG_at (5, 1, 24) rfl ?_
  refine mG_putFO pX5_9 dX5_init_9 rfl e3 (Nat.le_of_ble_eq_true rfl) (Nat.le_of_ble_eq_true rfl) rfl rfl ?_
  refine mG_aload_n dX5_init_12 rfl ?_
  refine mG_bipush (v := nI 6) dX5_init_13 (by decide) ?_
  refine mG_newI dX5_init_15 hb (by decide) (by decide) (Nat.le_of_ble_eq_true rfl) (Nat.le_of_ble_eq_true rfl) ?_
  refine mG_at (6, 2, 30) rfl ?_
  refine mG_putFO pX5_15 dX5_init_17 rfl rfl (Nat.le_of_ble_eq_true rfl) (Nat.le_of_ble_eq_true rfl) rfl rfl ?_
  exact mG_vret dX5_init_20 rfl (mX_of rfl (by
    funext j
    simp only [mU]
    by_cases q3 : j = 3
    · subst q3; rfl
    · by_cases q4 : j = 4
      · subst q4; rfl
      · by_cases q5 : j = 5
        · subst q5; rfl
        · simp only [q3, q4, q5, if_false])) rfl (Nat.le_refl _) (Nat.le_refl _)
set_option maxRecDepth 100000 in
set_option maxHeartbeats 4000000 in
theorem ct_X5_6 {E : mE} {h : mH} (hb : E.2.2.2.2.2.2 = false) (e6 : h 6 = mOb 5 [.null, .null, vN 0, vN 0, vN 0, vB false]) : mOkR E (mRa 1 2 30) zX5_init [.ref 6] 7 9 h (mX none (mU (mU (mU (h) 7 (mAr 24 z0)) 8 (mAr 6 z0)) 6 (oDraft 0 0 0 false))) := by
  refine mOkR_w (L := [some (.ref 6)]) pn_X5 rfl (Nat.le_of_ble_eq_true rfl) rfl ?_
  refine mG_aload_n dX5_init_0 rfl ?_
  refine mG_oinit dX5_init_1 oX5_3 (by decide) (Nat.le_of_ble_eq_true rfl) ?_
  refine mG_aload_n dX5_init_4 rfl ?_
  refine mG_bipush (v := nI 24) dX5_init_5 (by decide) ?_
  refine mG_newI dX5_init_7 hb (by decide) (by decide) (Nat.le_of_ble_eq_true rfl) (Nat.le_of_ble_eq_true rfl) ?_
  refine mG_at (8, 1, 24) rfl ?_
  refine mG_putFO pX5_9 dX5_init_9 rfl e6 (Nat.le_of_ble_eq_true rfl) (Nat.le_of_ble_eq_true rfl) rfl rfl ?_
  refine mG_aload_n dX5_init_12 rfl ?_
  refine mG_bipush (v := nI 6) dX5_init_13 (by decide) ?_
  refine mG_newI dX5_init_15 hb (by decide) (by decide) (Nat.le_of_ble_eq_true rfl) (Nat.le_of_ble_eq_true rfl) ?_
  refine mG_at (9, 2, 30) rfl ?_
  refine mG_putFO pX5_15 dX5_init_17 rfl rfl (Nat.le_of_ble_eq_true rfl) (Nat.le_of_ble_eq_true rfl) rfl rfl ?_
  exact mG_vret dX5_init_20 rfl (mX_of rfl (by
    funext j
    simp only [mU]
    by_cases q6 : j = 6
    · subst q6; rfl
    · by_cases q7 : j = 7
      · subst q7; rfl
      · by_cases q8 : j = 8
        · subst q8; rfl
        · simp only [q6, q7, q8, if_false])) rfl (Nat.le_refl _) (Nat.le_refl _)
set_option maxRecDepth 100000 in
set_option maxHeartbeats 4000000 in
theorem ct_X3_9 {E : mE} {h : mH} (hb : E.2.2.2.2.2.2 = false) (e9 : h 9 = mOb 3 [.null, .null, .null, .null, vN 0, vN 0]) : mOkR E (mRa 1 4 72) zX3_init [.ref 9] 10 14 h (mX none (mU (mU (mU (mU (mU (h) 10 (mAr 24 z0)) 11 (mAr 4 z0)) 12 (mAr 4 z0)) 13 (mAr 40 z0)) 9 (oNow 0 0))) := by
  refine mOkR_w (L := [some (.ref 9)]) pn_X3 rfl (Nat.le_of_ble_eq_true rfl) rfl ?_
  refine mG_aload_n dX3_init_0 rfl ?_
  refine mG_oinit dX3_init_1 oX3_3 (by decide) (Nat.le_of_ble_eq_true rfl) ?_
  refine mG_aload_n dX3_init_4 rfl ?_
  refine mG_bipush (v := nI 24) dX3_init_5 (by decide) ?_
  refine mG_newI dX3_init_7 hb (by decide) (by decide) (Nat.le_of_ble_eq_true rfl) (Nat.le_of_ble_eq_true rfl) ?_
  refine mG_at (11, 1, 24) rfl ?_
  refine mG_putFO pX3_9 dX3_init_9 rfl e9 (Nat.le_of_ble_eq_true rfl) (Nat.le_of_ble_eq_true rfl) rfl rfl ?_
  refine mG_aload_n dX3_init_12 rfl ?_
  refine mG_iconst (v := nI 4) dX3_init_13 (by decide) ?_
  refine mG_newI dX3_init_14 hb (by decide) (by decide) (Nat.le_of_ble_eq_true rfl) (Nat.le_of_ble_eq_true rfl) ?_
  refine mG_at (12, 2, 28) rfl ?_
  refine mG_putFO pX3_15 dX3_init_16 rfl rfl (Nat.le_of_ble_eq_true rfl) (Nat.le_of_ble_eq_true rfl) rfl rfl ?_
  refine mG_aload_n dX3_init_19 rfl ?_
  refine mG_iconst (v := nI 4) dX3_init_20 (by decide) ?_
  refine mG_newI dX3_init_21 hb (by decide) (by decide) (Nat.le_of_ble_eq_true rfl) (Nat.le_of_ble_eq_true rfl) ?_
  refine mG_at (13, 3, 32) rfl ?_
  refine mG_putFO pX3_18 dX3_init_23 rfl rfl (Nat.le_of_ble_eq_true rfl) (Nat.le_of_ble_eq_true rfl) rfl rfl ?_
  refine mG_aload_n dX3_init_26 rfl ?_
  refine mG_bipush (v := nI 40) dX3_init_27 (by decide) ?_
  refine mG_newI dX3_init_29 hb (by decide) (by decide) (Nat.le_of_ble_eq_true rfl) (Nat.le_of_ble_eq_true rfl) ?_
  refine mG_at (14, 4, 72) rfl ?_
  refine mG_putFO pX3_21 dX3_init_31 rfl rfl (Nat.le_of_ble_eq_true rfl) (Nat.le_of_ble_eq_true rfl) rfl rfl ?_
  exact mG_vret dX3_init_34 rfl (mX_of rfl (by
    funext j
    simp only [mU]
    by_cases q9 : j = 9
    · subst q9; rfl
    · by_cases q10 : j = 10
      · subst q10; rfl
      · by_cases q11 : j = 11
        · subst q11; rfl
        · by_cases q12 : j = 12
          · subst q12; rfl
          · by_cases q13 : j = 13
            · subst q13; rfl
            · simp only [q9, q10, q11, q12, q13, if_false])) rfl (Nat.le_refl _) (Nat.le_refl _)
set_option maxRecDepth 100000 in
set_option maxHeartbeats 4000000 in
theorem ct_X2_16 {E : mE} {h : mH} (hb : E.2.2.2.2.2.2 = false) (e16 : h 16 = mOb 2 [.null, .null, vN 0]) : mOkR E (mRa 1 2 12) zX2_init [.ref 16] 17 19 h (mX none (mU (mU (mU (h) 17 (mAr 6 z0)) 18 (mAr 6 z0)) 16 (oSeen 0))) := by
  refine mOkR_w (L := [some (.ref 16)]) pn_X2 rfl (Nat.le_of_ble_eq_true rfl) rfl ?_
  refine mG_aload_n dX2_init_0 rfl ?_
  refine mG_oinit dX2_init_1 oX2_3 (by decide) (Nat.le_of_ble_eq_true rfl) ?_
  refine mG_aload_n dX2_init_4 rfl ?_
  refine mG_bipush (v := nI 6) dX2_init_5 (by decide) ?_
  refine mG_newI dX2_init_7 hb (by decide) (by decide) (Nat.le_of_ble_eq_true rfl) (Nat.le_of_ble_eq_true rfl) ?_
  refine mG_at (18, 1, 6) rfl ?_
  refine mG_putFO pX2_9 dX2_init_9 rfl e16 (Nat.le_of_ble_eq_true rfl) (Nat.le_of_ble_eq_true rfl) rfl rfl ?_
  refine mG_aload_n dX2_init_12 rfl ?_
  refine mG_bipush (v := nI 6) dX2_init_13 (by decide) ?_
  refine mG_newI dX2_init_15 hb (by decide) (by decide) (Nat.le_of_ble_eq_true rfl) (Nat.le_of_ble_eq_true rfl) ?_
  refine mG_at (19, 2, 12) rfl ?_
  refine mG_putFO pX2_15 dX2_init_17 rfl rfl (Nat.le_of_ble_eq_true rfl) (Nat.le_of_ble_eq_true rfl) rfl rfl ?_
  exact mG_vret dX2_init_20 rfl (mX_of rfl (by
    funext j
    simp only [mU]
    by_cases q16 : j = 16
    · subst q16; rfl
    · by_cases q17 : j = 17
      · subst q17; rfl
      · by_cases q18 : j = 18
        · subst q18; rfl
        · simp only [q16, q17, q18, if_false])) rfl (Nat.le_refl _) (Nat.le_refl _)
set_option maxRecDepth 100000 in
set_option maxHeartbeats 4000000 in
theorem ct_X4_19 {E : mE} {h : mH} (hb : E.2.2.2.2.2.2 = false) (e19 : h 19 = mOb 4 [.null, vN 0]) : mOkR E (mRa 1 1 10) zX4_init [.ref 19] 20 21 h (mX none (mU (mU (h) 20 (mAr 10 z0)) 19 (oTell 0))) := by
  refine mOkR_w (L := [some (.ref 19)]) pn_X4 rfl (Nat.le_of_ble_eq_true rfl) rfl ?_
  refine mG_aload_n dX4_init_0 rfl ?_
  refine mG_oinit dX4_init_1 oX4_3 (by decide) (Nat.le_of_ble_eq_true rfl) ?_
  refine mG_aload_n dX4_init_4 rfl ?_
  refine mG_bipush (v := nI 10) dX4_init_5 (by decide) ?_
  refine mG_newI dX4_init_7 hb (by decide) (by decide) (Nat.le_of_ble_eq_true rfl) (Nat.le_of_ble_eq_true rfl) ?_
  refine mG_at (21, 1, 10) rfl ?_
  refine mG_putFO pX4_9 dX4_init_9 rfl e19 (Nat.le_of_ble_eq_true rfl) (Nat.le_of_ble_eq_true rfl) rfl rfl ?_
  exact mG_vret dX4_init_12 rfl (mX_of rfl (by
    funext j
    simp only [mU]
    by_cases q19 : j = 19
    · subst q19; rfl
    · by_cases q20 : j = 20
      · subst q20; rfl
      · simp only [q19, q20, if_false])) rfl (Nat.le_refl _) (Nat.le_refl _)
set_option maxRecDepth 100000 in
set_option maxHeartbeats 4000000 in
theorem ct_X6_21 {E : mE} {h : mH} (hb : E.2.2.2.2.2.2 = false) (e21 : h 21 = mOb 6 [.null, .null, .null, .null, .null, .null, .null, .null, vN 0, vN 0, vN 0]) : mOkR E (mRa 1 6 428) zX6_init [.ref 21] 22 28 h (mX none (mU (mU (mU (mU (mU (mU (mU (h) 22 (mAr 16 z0)) 23 (mAr 16 z0)) 24 (mAr 16 z0)) 25 (mAr 16 z0)) 26 (mAr 24 z0)) 27 (mAr 340 z0)) 21 (oWalk .null .null 0 0 (nI 0)))) := by
  refine mOkR_w (L := [some (.ref 21)]) pn_X6 rfl (Nat.le_of_ble_eq_true rfl) rfl ?_
  refine mG_aload_n dX6_init_0 rfl ?_
  refine mG_oinit dX6_init_1 oX6_3 (by decide) (Nat.le_of_ble_eq_true rfl) ?_
  refine mG_aload_n dX6_init_4 rfl ?_
  refine mG_bipush (v := nI 16) dX6_init_5 (by decide) ?_
  refine mG_newI dX6_init_7 hb (by decide) (by decide) (Nat.le_of_ble_eq_true rfl) (Nat.le_of_ble_eq_true rfl) ?_
  refine mG_at (23, 1, 16) rfl ?_
  refine mG_putFO pX6_9 dX6_init_9 rfl e21 (Nat.le_of_ble_eq_true rfl) (Nat.le_of_ble_eq_true rfl) rfl rfl ?_
  refine mG_aload_n dX6_init_12 rfl ?_
  refine mG_bipush (v := nI 16) dX6_init_13 (by decide) ?_
  refine mG_newI dX6_init_15 hb (by decide) (by decide) (Nat.le_of_ble_eq_true rfl) (Nat.le_of_ble_eq_true rfl) ?_
  refine mG_at (24, 2, 32) rfl ?_
  refine mG_putFO pX6_15 dX6_init_17 rfl rfl (Nat.le_of_ble_eq_true rfl) (Nat.le_of_ble_eq_true rfl) rfl rfl ?_
  refine mG_aload_n dX6_init_20 rfl ?_
  refine mG_bipush (v := nI 16) dX6_init_21 (by decide) ?_
  refine mG_newI dX6_init_23 hb (by decide) (by decide) (Nat.le_of_ble_eq_true rfl) (Nat.le_of_ble_eq_true rfl) ?_
  refine mG_at (25, 3, 48) rfl ?_
  refine mG_putFO pX6_18 dX6_init_25 rfl rfl (Nat.le_of_ble_eq_true rfl) (Nat.le_of_ble_eq_true rfl) rfl rfl ?_
  refine mG_aload_n dX6_init_28 rfl ?_
  refine mG_bipush (v := nI 16) dX6_init_29 (by decide) ?_
  refine mG_newI dX6_init_31 hb (by decide) (by decide) (Nat.le_of_ble_eq_true rfl) (Nat.le_of_ble_eq_true rfl) ?_
  refine mG_at (26, 4, 64) rfl ?_
  refine mG_putFO pX6_21 dX6_init_33 rfl rfl (Nat.le_of_ble_eq_true rfl) (Nat.le_of_ble_eq_true rfl) rfl rfl ?_
  refine mG_aload_n dX6_init_36 rfl ?_
  refine mG_bipush (v := nI 24) dX6_init_37 (by decide) ?_
  refine mG_newI dX6_init_39 hb (by decide) (by decide) (Nat.le_of_ble_eq_true rfl) (Nat.le_of_ble_eq_true rfl) ?_
  refine mG_at (27, 5, 88) rfl ?_
  refine mG_putFO pX6_24 dX6_init_41 rfl rfl (Nat.le_of_ble_eq_true rfl) (Nat.le_of_ble_eq_true rfl) rfl rfl ?_
  refine mG_aload_n dX6_init_44 rfl ?_
  refine mG_sipush (v := nI 340) dX6_init_45 (by decide) ?_
  refine mG_newI dX6_init_48 hb (by decide) (by decide) (Nat.le_of_ble_eq_true rfl) (Nat.le_of_ble_eq_true rfl) ?_
  refine mG_at (28, 6, 428) rfl ?_
  refine mG_putFO pX6_27 dX6_init_50 rfl rfl (Nat.le_of_ble_eq_true rfl) (Nat.le_of_ble_eq_true rfl) rfl rfl ?_
  exact mG_vret dX6_init_53 rfl (mX_of rfl (by
    funext j
    simp only [mU]
    by_cases q21 : j = 21
    · subst q21; rfl
    · by_cases q22 : j = 22
      · subst q22; rfl
      · by_cases q23 : j = 23
        · subst q23; rfl
        · by_cases q24 : j = 24
          · subst q24; rfl
          · by_cases q25 : j = 25
            · subst q25; rfl
            · by_cases q26 : j = 26
              · subst q26; rfl
              · by_cases q27 : j = 27
                · subst q27; rfl
                · simp only [q21, q22, q23, q24, q25, q26, q27, if_false])) rfl (Nat.le_refl _) (Nat.le_refl _)
set_option maxRecDepth 100000 in
set_option maxHeartbeats 4000000 in
theorem ct_X0_28 {E : mE} {h : mH} (hb : E.2.2.2.2.2.2 = false) (e28 : h 28 = mOb 0 [.null, .null, .null, vN 0, vN 0]) : mOkR E (mRa 1 1 10) zX0_init [.ref 28] 29 30 h (mX none (mU (mU (h) 29 (mAr 10 z0)) 28 (oFall .null .null 0 0))) := by
  refine mOkR_w (L := [some (.ref 28)]) pn_X0 rfl (Nat.le_of_ble_eq_true rfl) rfl ?_
  refine mG_aload_n dX0_init_0 rfl ?_
  refine mG_oinit dX0_init_1 oX0_3 (by decide) (Nat.le_of_ble_eq_true rfl) ?_
  refine mG_aload_n dX0_init_4 rfl ?_
  refine mG_bipush (v := nI 10) dX0_init_5 (by decide) ?_
  refine mG_newI dX0_init_7 hb (by decide) (by decide) (Nat.le_of_ble_eq_true rfl) (Nat.le_of_ble_eq_true rfl) ?_
  refine mG_at (30, 1, 10) rfl ?_
  refine mG_putFO pX0_9 dX0_init_9 rfl e28 (Nat.le_of_ble_eq_true rfl) (Nat.le_of_ble_eq_true rfl) rfl rfl ?_
  exact mG_vret dX0_init_12 rfl (mX_of rfl (by
    funext j
    simp only [mU]
    by_cases q28 : j = 28
    · subst q28; rfl
    · by_cases q29 : j = 29
      · subst q29; rfl
      · simp only [q28, q29, if_false])) rfl (Nat.le_refl _) (Nat.le_refl _)
set_option maxRecDepth 100000 in
set_option maxHeartbeats 4000000 in
theorem ct_X3_30 {E : mE} {h : mH} (hb : E.2.2.2.2.2.2 = false) (e30 : h 30 = mOb 3 [.null, .null, .null, .null, vN 0, vN 0]) : mOkR E (mRa 1 4 72) zX3_init [.ref 30] 31 35 h (mX none (mU (mU (mU (mU (mU (h) 31 (mAr 24 z0)) 32 (mAr 4 z0)) 33 (mAr 4 z0)) 34 (mAr 40 z0)) 30 (oIm0 0 0))) := by
  refine mOkR_w (L := [some (.ref 30)]) pn_X3 rfl (Nat.le_of_ble_eq_true rfl) rfl ?_
  refine mG_aload_n dX3_init_0 rfl ?_
  refine mG_oinit dX3_init_1 oX3_3 (by decide) (Nat.le_of_ble_eq_true rfl) ?_
  refine mG_aload_n dX3_init_4 rfl ?_
  refine mG_bipush (v := nI 24) dX3_init_5 (by decide) ?_
  refine mG_newI dX3_init_7 hb (by decide) (by decide) (Nat.le_of_ble_eq_true rfl) (Nat.le_of_ble_eq_true rfl) ?_
  refine mG_at (32, 1, 24) rfl ?_
  refine mG_putFO pX3_9 dX3_init_9 rfl e30 (Nat.le_of_ble_eq_true rfl) (Nat.le_of_ble_eq_true rfl) rfl rfl ?_
  refine mG_aload_n dX3_init_12 rfl ?_
  refine mG_iconst (v := nI 4) dX3_init_13 (by decide) ?_
  refine mG_newI dX3_init_14 hb (by decide) (by decide) (Nat.le_of_ble_eq_true rfl) (Nat.le_of_ble_eq_true rfl) ?_
  refine mG_at (33, 2, 28) rfl ?_
  refine mG_putFO pX3_15 dX3_init_16 rfl rfl (Nat.le_of_ble_eq_true rfl) (Nat.le_of_ble_eq_true rfl) rfl rfl ?_
  refine mG_aload_n dX3_init_19 rfl ?_
  refine mG_iconst (v := nI 4) dX3_init_20 (by decide) ?_
  refine mG_newI dX3_init_21 hb (by decide) (by decide) (Nat.le_of_ble_eq_true rfl) (Nat.le_of_ble_eq_true rfl) ?_
  refine mG_at (34, 3, 32) rfl ?_
  refine mG_putFO pX3_18 dX3_init_23 rfl rfl (Nat.le_of_ble_eq_true rfl) (Nat.le_of_ble_eq_true rfl) rfl rfl ?_
  refine mG_aload_n dX3_init_26 rfl ?_
  refine mG_bipush (v := nI 40) dX3_init_27 (by decide) ?_
  refine mG_newI dX3_init_29 hb (by decide) (by decide) (Nat.le_of_ble_eq_true rfl) (Nat.le_of_ble_eq_true rfl) ?_
  refine mG_at (35, 4, 72) rfl ?_
  refine mG_putFO pX3_21 dX3_init_31 rfl rfl (Nat.le_of_ble_eq_true rfl) (Nat.le_of_ble_eq_true rfl) rfl rfl ?_
  exact mG_vret dX3_init_34 rfl (mX_of rfl (by
    funext j
    simp only [mU]
    by_cases q30 : j = 30
    · subst q30; rfl
    · by_cases q31 : j = 31
      · subst q31; rfl
      · by_cases q32 : j = 32
        · subst q32; rfl
        · by_cases q33 : j = 33
          · subst q33; rfl
          · by_cases q34 : j = 34
            · subst q34; rfl
            · simp only [q30, q31, q32, q33, q34, if_false])) rfl (Nat.le_refl _) (Nat.le_refl _)
set_option maxRecDepth 100000 in
set_option maxHeartbeats 4000000 in
theorem ct_X3_35 {E : mE} {h : mH} (hb : E.2.2.2.2.2.2 = false) (e35 : h 35 = mOb 3 [.null, .null, .null, .null, vN 0, vN 0]) : mOkR E (mRa 1 4 72) zX3_init [.ref 35] 36 40 h (mX none (mU (mU (mU (mU (mU (h) 36 (mAr 24 z0)) 37 (mAr 4 z0)) 38 (mAr 4 z0)) 39 (mAr 40 z0)) 35 (oIm1 0 0))) := by
  refine mOkR_w (L := [some (.ref 35)]) pn_X3 rfl (Nat.le_of_ble_eq_true rfl) rfl ?_
  refine mG_aload_n dX3_init_0 rfl ?_
  refine mG_oinit dX3_init_1 oX3_3 (by decide) (Nat.le_of_ble_eq_true rfl) ?_
  refine mG_aload_n dX3_init_4 rfl ?_
  refine mG_bipush (v := nI 24) dX3_init_5 (by decide) ?_
  refine mG_newI dX3_init_7 hb (by decide) (by decide) (Nat.le_of_ble_eq_true rfl) (Nat.le_of_ble_eq_true rfl) ?_
  refine mG_at (37, 1, 24) rfl ?_
  refine mG_putFO pX3_9 dX3_init_9 rfl e35 (Nat.le_of_ble_eq_true rfl) (Nat.le_of_ble_eq_true rfl) rfl rfl ?_
  refine mG_aload_n dX3_init_12 rfl ?_
  refine mG_iconst (v := nI 4) dX3_init_13 (by decide) ?_
  refine mG_newI dX3_init_14 hb (by decide) (by decide) (Nat.le_of_ble_eq_true rfl) (Nat.le_of_ble_eq_true rfl) ?_
  refine mG_at (38, 2, 28) rfl ?_
  refine mG_putFO pX3_15 dX3_init_16 rfl rfl (Nat.le_of_ble_eq_true rfl) (Nat.le_of_ble_eq_true rfl) rfl rfl ?_
  refine mG_aload_n dX3_init_19 rfl ?_
  refine mG_iconst (v := nI 4) dX3_init_20 (by decide) ?_
  refine mG_newI dX3_init_21 hb (by decide) (by decide) (Nat.le_of_ble_eq_true rfl) (Nat.le_of_ble_eq_true rfl) ?_
  refine mG_at (39, 3, 32) rfl ?_
  refine mG_putFO pX3_18 dX3_init_23 rfl rfl (Nat.le_of_ble_eq_true rfl) (Nat.le_of_ble_eq_true rfl) rfl rfl ?_
  refine mG_aload_n dX3_init_26 rfl ?_
  refine mG_bipush (v := nI 40) dX3_init_27 (by decide) ?_
  refine mG_newI dX3_init_29 hb (by decide) (by decide) (Nat.le_of_ble_eq_true rfl) (Nat.le_of_ble_eq_true rfl) ?_
  refine mG_at (40, 4, 72) rfl ?_
  refine mG_putFO pX3_21 dX3_init_31 rfl rfl (Nat.le_of_ble_eq_true rfl) (Nat.le_of_ble_eq_true rfl) rfl rfl ?_
  exact mG_vret dX3_init_34 rfl (mX_of rfl (by
    funext j
    simp only [mU]
    by_cases q35 : j = 35
    · subst q35; rfl
    · by_cases q36 : j = 36
      · subst q36; rfl
      · by_cases q37 : j = 37
        · subst q37; rfl
        · by_cases q38 : j = 38
          · subst q38; rfl
          · by_cases q39 : j = 39
            · subst q39; rfl
            · simp only [q35, q36, q37, q38, q39, if_false])) rfl (Nat.le_refl _) (Nat.le_refl _)
/-- what a new object is -/
def CZ (h : mH) : Prop := CI h 0 z0 0 0 false z0 0 0 z0 z0 z0 z0 (0, 0, z0, z0, z0, z0) (0, 0, z0, z0, z0, z0) (fun _ => false) 0 z0 z0 0
set_option maxRecDepth 100000 in
set_option maxHeartbeats 4000000 in
theorem ct_X7 {E : mE} {h : mH} (hb : E.2.2.2.2.2.2 = false) (e0 : h 0 = mOb 7 [.null, .null, .null, .null, .null, .null, .null, .null, .null, .null, .long 0]) : mOkR E (mRa 2 39 897) zX7_init [.ref 0] 1 40 h (fun r h' => r = none ∧ CZ h') := by
  refine mOkR_w (L := [some (.ref 0), none]) pn_X7 rfl (Nat.le_of_ble_eq_true rfl) rfl ?_
  refine mG_aload_n dX7_init_0 rfl ?_
  refine mG_oinit dX7_init_1 oX7_1 (by decide) (Nat.le_of_ble_eq_true rfl) ?_
  refine mG_aload_n dX7_init_4 rfl ?_
  refine mG_new (ci := 1) (fs := [.null, vN 0, vN 0, vN 0, vN 0, vN 0]) tyX1 dX7_init_5 hb rfl wi_X1 tyX1_ok qX7_7 w_inst_X1 w_init_X1 (fun j hj => by
      rcases (show j = 0 ∨ j = 1 ∨ j = 2 ∨ j = 3 ∨ j = 4 ∨ j = 5 by omega) with rfl | rfl | rfl | rfl | rfl | rfl <;> rfl) (by decide) (Nat.le_of_ble_eq_true rfl) (Nat.le_of_ble_eq_true rfl) ?_
  refine mG_at (2, 1, 6) rfl ?_
  refine mG_dup dX7_init_8 rfl ?_
  refine mG_ctorN rfl (by decide) rfl wy_X1_init w_ii_X1 dX7_init_9 ⟨Nat.le_of_ble_eq_true rfl, Nat.le_of_ble_eq_true rfl⟩ (Nat.le_of_ble_eq_true rfl) ⟨Nat.le_of_ble_eq_true rfl, Nat.le_of_ble_eq_true rfl⟩ (by decide) rfl (fun q => by rw [hb] at q; cases q) (ct_X1_1 hb rfl) (fun r h' q => ?_)
  obtain ⟨rfl, rfl⟩ := q
  refine mG_at (3, 2, 106) rfl ?_
  refine mG_putFO pX7_10 dX7_init_12 rfl e0 (Nat.le_of_ble_eq_true rfl) (Nat.le_of_ble_eq_true rfl) rfl rfl ?_
  refine mG_aload_n dX7_init_15 rfl ?_
  refine mG_new (ci := 5) (fs := [.null, .null, vN 0, vN 0, vN 0, vB false]) tyX5 dX7_init_16 hb rfl wi_X5 tyX5_ok qX7_16 w_inst_X5 w_init_X5 (fun j hj => by
      rcases (show j = 0 ∨ j = 1 ∨ j = 2 ∨ j = 3 ∨ j = 4 ∨ j = 5 by omega) with rfl | rfl | rfl | rfl | rfl | rfl <;> rfl) (by decide) (Nat.le_of_ble_eq_true rfl) (Nat.le_of_ble_eq_true rfl) ?_
  refine mG_at (4, 3, 112) rfl ?_
  refine mG_dup dX7_init_19 rfl ?_
  refine mG_ctorN rfl (by decide) rfl wy_X5_init w_ii_X5 dX7_init_20 ⟨Nat.le_of_ble_eq_true rfl, Nat.le_of_ble_eq_true rfl⟩ (Nat.le_of_ble_eq_true rfl) ⟨Nat.le_of_ble_eq_true rfl, Nat.le_of_ble_eq_true rfl⟩ (by decide) rfl (fun q => by rw [hb] at q; cases q) (ct_X5_3 hb rfl) (fun r h' q => ?_)
  obtain ⟨rfl, rfl⟩ := q
  refine mG_at (6, 5, 142) rfl ?_
  refine mG_putO pX7_19 dX7_init_23 rfl (Nat.le_of_ble_eq_true rfl) (Nat.le_of_ble_eq_true rfl) ?_
  refine mG_aload_n dX7_init_26 rfl ?_
  refine mG_new (ci := 5) (fs := [.null, .null, vN 0, vN 0, vN 0, vB false]) tyX5 dX7_init_27 hb rfl wi_X5 tyX5_ok qX7_16 w_inst_X5 w_init_X5 (fun j hj => by
      rcases (show j = 0 ∨ j = 1 ∨ j = 2 ∨ j = 3 ∨ j = 4 ∨ j = 5 by omega) with rfl | rfl | rfl | rfl | rfl | rfl <;> rfl) (by decide) (Nat.le_of_ble_eq_true rfl) (Nat.le_of_ble_eq_true rfl) ?_
  refine mG_at (7, 6, 148) rfl ?_
  refine mG_dup dX7_init_30 rfl ?_
  refine mG_ctorN rfl (by decide) rfl wy_X5_init w_ii_X5 dX7_init_31 ⟨Nat.le_of_ble_eq_true rfl, Nat.le_of_ble_eq_true rfl⟩ (Nat.le_of_ble_eq_true rfl) ⟨Nat.le_of_ble_eq_true rfl, Nat.le_of_ble_eq_true rfl⟩ (by decide) rfl (fun q => by rw [hb] at q; cases q) (ct_X5_6 hb rfl) (fun r h' q => ?_)
  obtain ⟨rfl, rfl⟩ := q
  refine mG_at (9, 8, 178) rfl ?_
  refine mG_putO pX7_23 dX7_init_34 rfl (Nat.le_of_ble_eq_true rfl) (Nat.le_of_ble_eq_true rfl) ?_
  refine mG_aload_n dX7_init_37 rfl ?_
  refine mG_new (ci := 3) (fs := [.null, .null, .null, .null, vN 0, vN 0]) tyX3 dX7_init_38 hb rfl wi_X3 tyX3_ok qX7_26 w_inst_X3 w_init_X3 (fun j hj => by
      rcases (show j = 0 ∨ j = 1 ∨ j = 2 ∨ j = 3 ∨ j = 4 ∨ j = 5 by omega) with rfl | rfl | rfl | rfl | rfl | rfl <;> rfl) (by decide) (Nat.le_of_ble_eq_true rfl) (Nat.le_of_ble_eq_true rfl) ?_
  refine mG_at (10, 9, 184) rfl ?_
  refine mG_dup dX7_init_41 rfl ?_
  refine mG_ctorN rfl (by decide) rfl wy_X3_init w_ii_X3 dX7_init_42 ⟨Nat.le_of_ble_eq_true rfl, Nat.le_of_ble_eq_true rfl⟩ (Nat.le_of_ble_eq_true rfl) ⟨Nat.le_of_ble_eq_true rfl, Nat.le_of_ble_eq_true rfl⟩ (by decide) rfl (fun q => by rw [hb] at q; cases q) (ct_X3_9 hb rfl) (fun r h' q => ?_)
  obtain ⟨rfl, rfl⟩ := q
  refine mG_at (14, 13, 256) rfl ?_
  refine mG_putFO pX7_29 dX7_init_45 rfl rfl (Nat.le_of_ble_eq_true rfl) (Nat.le_of_ble_eq_true rfl) rfl rfl ?_
  refine mG_aload_n dX7_init_48 rfl ?_
  refine mG_iconst (v := nI 2) dX7_init_49 (by decide) ?_
  refine mG_newS dX7_init_50 hb qX7_26 (by decide) (by decide) (Nat.le_of_ble_eq_true rfl) (Nat.le_of_ble_eq_true rfl) ?_
  refine mG_at (15, 14, 258) rfl ?_
  refine mG_putFO pX7_33 dX7_init_53 rfl rfl (Nat.le_of_ble_eq_true rfl) (Nat.le_of_ble_eq_true rfl) rfl rfl ?_
  refine mG_aload_n dX7_init_56 rfl ?_
  refine mG_iconst (v := nI 2) dX7_init_57 (by decide) ?_
  refine mG_newZ dX7_init_58 hb (by decide) (by decide) (Nat.le_of_ble_eq_true rfl) (Nat.le_of_ble_eq_true rfl) ?_
  refine mG_at (16, 15, 260) rfl ?_
  refine mG_putFO pX7_37 dX7_init_60 rfl rfl (Nat.le_of_ble_eq_true rfl) (Nat.le_of_ble_eq_true rfl) rfl rfl ?_
  refine mG_aload_n dX7_init_63 rfl ?_
  refine mG_new (ci := 2) (fs := [.null, .null, vN 0]) tyX2 dX7_init_64 hb rfl wi_X2 tyX2_ok qX7_41 w_inst_X2 w_init_X2 (fun j hj => by
      rcases (show j = 0 ∨ j = 1 ∨ j = 2 by omega) with rfl | rfl | rfl <;> rfl) (by decide) (Nat.le_of_ble_eq_true rfl) (Nat.le_of_ble_eq_true rfl) ?_
  refine mG_at (17, 16, 263) rfl ?_
  refine mG_dup dX7_init_67 rfl ?_
  refine mG_ctorN rfl (by decide) rfl wy_X2_init w_ii_X2 dX7_init_68 ⟨Nat.le_of_ble_eq_true rfl, Nat.le_of_ble_eq_true rfl⟩ (Nat.le_of_ble_eq_true rfl) ⟨Nat.le_of_ble_eq_true rfl, Nat.le_of_ble_eq_true rfl⟩ (by decide) rfl (fun q => by rw [hb] at q; cases q) (ct_X2_16 hb rfl) (fun r h' q => ?_)
  obtain ⟨rfl, rfl⟩ := q
  refine mG_at (19, 18, 275) rfl ?_
  refine mG_putFO pX7_44 dX7_init_71 rfl rfl (Nat.le_of_ble_eq_true rfl) (Nat.le_of_ble_eq_true rfl) rfl rfl ?_
  refine mG_aload_n dX7_init_74 rfl ?_
  refine mG_new (ci := 4) (fs := [.null, vN 0]) tyX4 dX7_init_75 hb rfl wi_X4 tyX4_ok qX7_48 w_inst_X4 w_init_X4 (fun j hj => by
      rcases (show j = 0 ∨ j = 1 by omega) with rfl | rfl <;> rfl) (by decide) (Nat.le_of_ble_eq_true rfl) (Nat.le_of_ble_eq_true rfl) ?_
  refine mG_at (20, 19, 277) rfl ?_
  refine mG_dup dX7_init_78 rfl ?_
  refine mG_ctorN rfl (by decide) rfl wy_X4_init w_ii_X4 dX7_init_79 ⟨Nat.le_of_ble_eq_true rfl, Nat.le_of_ble_eq_true rfl⟩ (Nat.le_of_ble_eq_true rfl) ⟨Nat.le_of_ble_eq_true rfl, Nat.le_of_ble_eq_true rfl⟩ (by decide) rfl (fun q => by rw [hb] at q; cases q) (ct_X4_19 hb rfl) (fun r h' q => ?_)
  obtain ⟨rfl, rfl⟩ := q
  refine mG_at (21, 20, 287) rfl ?_
  refine mG_putFO pX7_51 dX7_init_82 rfl rfl (Nat.le_of_ble_eq_true rfl) (Nat.le_of_ble_eq_true rfl) rfl rfl ?_
  refine mG_aload_n dX7_init_85 rfl ?_
  refine mG_new (ci := 6) (fs := [.null, .null, .null, .null, .null, .null, .null, .null, vN 0, vN 0, vN 0]) tyX6 dX7_init_86 hb rfl wi_X6 tyX6_ok qX7_55 w_inst_X6 w_init_X6 (fun j hj => by
      rcases (show j = 0 ∨ j = 1 ∨ j = 2 ∨ j = 3 ∨ j = 4 ∨ j = 5 ∨ j = 6 ∨ j = 7 ∨ j = 8 ∨ j = 9 ∨ j = 10 by omega) with rfl | rfl | rfl | rfl | rfl | rfl | rfl | rfl | rfl | rfl | rfl <;> rfl) (by decide) (Nat.le_of_ble_eq_true rfl) (Nat.le_of_ble_eq_true rfl) ?_
  refine mG_at (22, 21, 298) rfl ?_
  refine mG_dup dX7_init_89 rfl ?_
  refine mG_ctorN rfl (by decide) rfl wy_X6_init w_ii_X6 dX7_init_90 ⟨Nat.le_of_ble_eq_true rfl, Nat.le_of_ble_eq_true rfl⟩ (Nat.le_of_ble_eq_true rfl) ⟨Nat.le_of_ble_eq_true rfl, Nat.le_of_ble_eq_true rfl⟩ (by decide) rfl (fun q => by rw [hb] at q; cases q) (ct_X6_21 hb rfl) (fun r h' q => ?_)
  obtain ⟨rfl, rfl⟩ := q
  refine mG_at (28, 27, 726) rfl ?_
  refine mG_putFO pX7_58 dX7_init_93 rfl rfl (Nat.le_of_ble_eq_true rfl) (Nat.le_of_ble_eq_true rfl) rfl rfl ?_
  refine mG_aload_n dX7_init_96 rfl ?_
  refine mG_new (ci := 0) (fs := [.null, .null, .null, vN 0, vN 0]) tyX0 dX7_init_97 hb rfl wi_X0 tyX0_ok qX7_62 w_inst_X0 w_init_X0 (fun j hj => by
      rcases (show j = 0 ∨ j = 1 ∨ j = 2 ∨ j = 3 ∨ j = 4 by omega) with rfl | rfl | rfl | rfl | rfl <;> rfl) (by decide) (Nat.le_of_ble_eq_true rfl) (Nat.le_of_ble_eq_true rfl) ?_
  refine mG_at (29, 28, 731) rfl ?_
  refine mG_dup dX7_init_100 rfl ?_
  refine mG_ctorN rfl (by decide) rfl wy_X0_init w_ii_X0 dX7_init_101 ⟨Nat.le_of_ble_eq_true rfl, Nat.le_of_ble_eq_true rfl⟩ (Nat.le_of_ble_eq_true rfl) ⟨Nat.le_of_ble_eq_true rfl, Nat.le_of_ble_eq_true rfl⟩ (by decide) rfl (fun q => by rw [hb] at q; cases q) (ct_X0_28 hb rfl) (fun r h' q => ?_)
  obtain ⟨rfl, rfl⟩ := q
  refine mG_at (30, 29, 741) rfl ?_
  refine mG_putFO pX7_65 dX7_init_104 rfl rfl (Nat.le_of_ble_eq_true rfl) (Nat.le_of_ble_eq_true rfl) rfl rfl ?_
  refine mG_iconst (v := nI 0) dX7_init_107 (by decide) ?_
  refine mG_istore_n dX7_init_108 (Nat.le_of_ble_eq_true rfl) rfl rfl ?_
  refine mG_iload_n dX7_init_109 rfl ?_
  refine mG_iconst (v := nI 2) dX7_init_110 (by decide) ?_
  refine mG_icmp_geN dX7_init_111 (by decide) (by decide) (fun q => absurd q (by decide)) (fun _ => ?_)
  refine mG_aload_n dX7_init_114 rfl ?_
  refine mG_get fX7_33 dX7_init_115 rfl (Nat.le_of_ble_eq_true rfl) rfl ?_
  refine mG_iload_n dX7_init_118 rfl ?_
  refine mG_new (ci := 3) (fs := [.null, .null, .null, .null, vN 0, vN 0]) tyX3 dX7_init_119 hb rfl wi_X3 tyX3_ok qX7_26 w_inst_X3 w_init_X3 (fun j hj => by
      rcases (show j = 0 ∨ j = 1 ∨ j = 2 ∨ j = 3 ∨ j = 4 ∨ j = 5 by omega) with rfl | rfl | rfl | rfl | rfl | rfl <;> rfl) (by decide) (Nat.le_of_ble_eq_true rfl) (Nat.le_of_ble_eq_true rfl) ?_
  refine mG_at (31, 30, 747) rfl ?_
  refine mG_dup dX7_init_122 rfl ?_
  refine mG_ctorN rfl (by decide) rfl wy_X3_init w_ii_X3 dX7_init_123 ⟨Nat.le_of_ble_eq_true rfl, Nat.le_of_ble_eq_true rfl⟩ (Nat.le_of_ble_eq_true rfl) ⟨Nat.le_of_ble_eq_true rfl, Nat.le_of_ble_eq_true rfl⟩ (by decide) rfl (fun q => by rw [hb] at q; cases q) (ct_X3_30 hb rfl) (fun r h' q => ?_)
  obtain ⟨rfl, rfl⟩ := q
  refine mG_at (35, 34, 819) rfl ?_
  refine mG_aastN dX7_init_126 rfl (Nat.le_of_ble_eq_true rfl) (by decide) (by decide) rfl (Nat.le_of_ble_eq_true rfl) ?_
  refine mG_iincN dX7_init_127 rfl (Nat.le_of_ble_eq_true rfl) rfl rfl ?_
  refine mG_goto dX7_init_130 ?_
  refine mG_iload_n dX7_init_109 rfl ?_
  refine mG_iconst (v := nI 2) dX7_init_110 (by decide) ?_
  refine mG_icmp_geN dX7_init_111 (by decide) (by decide) (fun q => absurd q (by decide)) (fun _ => ?_)
  refine mG_aload_n dX7_init_114 rfl ?_
  refine mG_get fX7_33 dX7_init_115 rfl (Nat.le_of_ble_eq_true rfl) rfl ?_
  refine mG_iload_n dX7_init_118 rfl ?_
  refine mG_new (ci := 3) (fs := [.null, .null, .null, .null, vN 0, vN 0]) tyX3 dX7_init_119 hb rfl wi_X3 tyX3_ok qX7_26 w_inst_X3 w_init_X3 (fun j hj => by
      rcases (show j = 0 ∨ j = 1 ∨ j = 2 ∨ j = 3 ∨ j = 4 ∨ j = 5 by omega) with rfl | rfl | rfl | rfl | rfl | rfl <;> rfl) (by decide) (Nat.le_of_ble_eq_true rfl) (Nat.le_of_ble_eq_true rfl) ?_
  refine mG_at (36, 35, 825) rfl ?_
  refine mG_dup dX7_init_122 rfl ?_
  refine mG_ctorN rfl (by decide) rfl wy_X3_init w_ii_X3 dX7_init_123 ⟨Nat.le_of_ble_eq_true rfl, Nat.le_of_ble_eq_true rfl⟩ (Nat.le_of_ble_eq_true rfl) ⟨Nat.le_of_ble_eq_true rfl, Nat.le_of_ble_eq_true rfl⟩ (by decide) rfl (fun q => by rw [hb] at q; cases q) (ct_X3_35 hb rfl) (fun r h' q => ?_)
  obtain ⟨rfl, rfl⟩ := q
  refine mG_at (40, 39, 897) rfl ?_
  refine mG_aastN dX7_init_126 rfl (Nat.le_of_ble_eq_true rfl) (by decide) (by decide) rfl (Nat.le_of_ble_eq_true rfl) ?_
  refine mG_iincN dX7_init_127 rfl (Nat.le_of_ble_eq_true rfl) rfl rfl ?_
  refine mG_goto dX7_init_130 ?_
  refine mG_iload_n dX7_init_109 rfl ?_
  refine mG_iconst (v := nI 2) dX7_init_110 (by decide) ?_
  refine mG_icmp_geN dX7_init_111 (by decide) (by decide) (fun _ => ?_) (fun q => absurd q (by decide))
  exact mG_vret dX7_init_133 rfl ⟨rfl, ⟨rfl, ⟨(0, 0, 0, 0), rfl, rfl, ⟨by decide, by decide, by decide⟩, by decide, fun j hj => absurd hj (Nat.not_lt_zero _)⟩, ⟨0, z0, rfl, rfl, rfl, by decide, by decide, fun j hj => absurd hj (Nat.not_lt_zero _)⟩, ⟨_, _, _, _, _, _, rfl, rfl, rfl⟩, ⟨rfl, rfl, rfl, rfl, rfl⟩, ⟨rfl, rfl, rfl, rfl, rfl⟩, ⟨rfl, rfl, rfl, rfl, rfl⟩, ⟨_, rfl, rfl, rfl, rfl⟩, ⟨rfl, rfl, rfl, by decide, fun j hj => absurd hj (Nat.not_lt_zero _), fun j hj => absurd hj (Nat.not_lt_zero _)⟩, ⟨_, _, rfl, rfl⟩, ⟨z0, z0, ((z0, z0), z0, z0), ⟨_, _, _, _, _, rfl⟩, rfl, rfl, rfl, rfl, rfl, rfl, fun j _ => (by decide : (0 : Nat) < 10), ⟨fun j _ => Nat.zero_le _, fun j _ => (by decide : (0 : Nat) < 4), fun j _ => (by decide : (0 : Nat) < 4), fun k c _ _ => Nat.zero_le _⟩⟩, ⟨_, _, _, _, _, rfl, rfl⟩, ⟨by decide, by decide, fun j hj => absurd hj (by omega), fun j _ => (by decide : (0 : Nat) < 4), fun i j hi => absurd hi (Nat.not_lt_zero _), fun j hj => absurd hj (Nat.not_lt_zero _), fun j _ => (by decide : (0 : Nat) < 6), fun i hi => absurd hi (Nat.not_lt_zero _)⟩, fun q => Bool.noConfusion q, fun q => Bool.noConfusion q⟩⟩ rfl (Nat.le_refl _) (Nat.le_refl _)
