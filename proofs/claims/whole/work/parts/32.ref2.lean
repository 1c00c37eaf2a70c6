/-! the reference reads -/
def sOK (n : Nat) (t : mTk) : Prop := t.1 ≤ n ∧ t.2.1 ≤ 5 ∧ t.2.2.1 ≤ 100 ∧ t.2.2.2 < 100000
theorem stT_ok {tx : Nat → Nat} {n a : Nat} (hn : n ≤ 100) (htx : ∀ j, j < n → tx j < 256) (ha : a ≤ n) : sOK n (stT tx n a) ∧ a ≤ (stT tx n a).2.2.1 ∧ (¬ (stT tx n a).2.1 = 4 → (stT tx n a).2.2.1 < (stT tx n a).1 ∧ (stT tx n a).2.2.1 < n) := by
  have hs := skF_le tx (n - a) a
  unfold stT stB
  generalize skF tx (n - a) a = b at hs
  split
  · exact ⟨⟨by show b ≤ n; omega, by show (4 : Nat) ≤ 5; decide, by show b ≤ 100; omega, by show (0 : Nat) < 100000; decide⟩, hs.1, fun q => absurd rfl q⟩
  · rename_i hb
    split
    · rename_i hD
      have hl := dgR_le tx (n - b) b 0
      have hv := dgR_lt tx (n - b) b 0 (by decide)
      have h1 : b < (dgR tx (n - b) b 0).1 := by
        obtain ⟨k, hk⟩ : ∃ k, n - b = k + 1 := ⟨n - b - 1, by omega⟩
        rw [hk]
        simp only [dgR, hD, if_true]
        have := dgR_le tx k (b + 1) (if 9999 < 0 then 0 else 10 * 0 + tx b - 48)
        omega
      refine ⟨⟨by show (dgR tx _ _ _).1 ≤ n; omega, ?_, by show b ≤ 100; omega, hv⟩, hs.1, fun _ => ⟨h1, by show b < n; omega⟩⟩
      show (if _ then _ else _) ≤ 5
      split <;> omega
    · split
      · rename_i hL
        have hl := leF_le tx (n - b) b
        have ht := htx b (by omega)
        have h1 : b < leF tx (n - b) b := by
          obtain ⟨k, hk⟩ : ∃ k, n - b = k + 1 := ⟨n - b - 1, by omega⟩
          rw [hk]
          simp only [leF, hL, if_true]
          have := leF_le tx k (b + 1)
          omega
        refine ⟨⟨by show leF tx _ _ ≤ n; omega, by show (1 : Nat) ≤ 5; decide, by show b ≤ 100; omega, ?_⟩, hs.1, fun _ => ⟨h1, by show b < n; omega⟩⟩
        show (if _ then _ else _) < 100000
        split <;> omega
      · refine ⟨⟨by show b + 1 ≤ n; omega, ?_, by show b ≤ 100; omega, by show (0 : Nat) < 100000; decide⟩, hs.1, fun _ => ⟨by show b < b + 1; omega, by show b < n; omega⟩⟩
        show (if _ then _ else _) ≤ 5
        split <;> omega
def duY (tx : Nat → Nat) (n : Nat) (is : Bool) (x : mTk × Bool) : mTk × Bool := if x.2 = true then x else if is = true then (stT tx n x.1.1, false) else (x.1, true)
theorem duY_ok {tx : Nat → Nat} {n : Nat} {is : Bool} {x : mTk × Bool} (hn : n ≤ 100) (htx : ∀ j, j < n → tx j < 256) (hx : sOK n x.1) : sOK n (duY tx n is x).1 := by
  unfold duY
  split
  · exact hx
  · split
    · exact (stT_ok hn htx hx.1).1
    · exact hx
def amB (hi : Nat) (t : mTk) : Bool := decide (t.2.1 = 2 ∧ t.2.2.2 ≤ hi)
set_option maxRecDepth 100000 in
set_option maxHeartbeats 4000000 in
theorem ok_X8_due {E : mE} {h : mH} {ty mo fa it : Nat} {t : mTk} {tr : Int64} {wr : Bool} {tx : Nat → Nat} {is : Bool} (e40 : h 40 = oMt ty t wr it mo fa tr) (e41 : h 41 = mBy tx) (hty : ty ≤ 100) (ht : sOK ty t) (htx : ∀ j, j < ty → tx j < 256)  : mOk E 3 zX8_due [.ref 40, vB is] h (mX none (mU h 40 (oMt ty (duY tx ty is (t, wr)).1 (duY tx ty is (t, wr)).2 it mo fa tr))) := by
  refine mOk_w (L := [some (.ref 40), some (vB is)]) pn_X8 rfl (Nat.le_of_ble_eq_true rfl) rfl ?_
  refine mG_aload_n dX8_due_0 rfl ?_
  refine mG_get fX8_87 dX8_due_1 e40 (Nat.le_of_ble_eq_true rfl) rfl ?_
  refine mG_if_eqB dX8_due_4 (fun c4 => ?_) (fun c4 => ?_)
  · refine mG_iload_n dX8_due_8 rfl ?_
    refine mG_if_eqB dX8_due_9 (fun c9 => ?_) (fun c9 => ?_)
    · refine mG_aload_n dX8_due_19 rfl ?_
      refine mG_iconst (v := mb true) dX8_due_20 (by decide) ?_
      refine mG_putZ pX8_87 dX8_due_21 e40 (Nat.le_of_ble_eq_true rfl) (Nat.le_of_ble_eq_true rfl) ?_
      exact mG_vret dX8_due_24 rfl (mX_of rfl (by
      rw [duY, if_neg (by show ¬ wr = true; rw [c4]; decide)]
      first
        | (rw [if_pos c9, c4])
        | (rw [if_neg (by rw [c9]; decide)]; rfl)))
    · refine mG_aload_n dX8_due_12 rfl ?_
      refine mG_cw0 vX8_91 dX8_due_13 (mLe_of rfl) (Nat.le_of_ble_eq_true rfl) e40 (Nat.le_of_ble_eq_true rfl) (ok_X8_step e40 e41 hty ht.1 htx) ?_
      refine mG_goto dX8_due_16 ?_
      exact mG_vret dX8_due_24 rfl (mX_of rfl (by
      rw [duY, if_neg (by show ¬ wr = true; rw [c4]; decide)]
      first
        | (rw [if_pos c9, c4])
        | (rw [if_neg (by rw [c9]; decide)]; rfl)))
  · exact mG_vret dX8_due_7 rfl (mX_of rfl (by rw [duY, if_pos c4]; exact (mU_self h 40 _ e40).symm))
set_option maxRecDepth 100000 in
set_option maxHeartbeats 4000000 in
theorem ok_X8_amount {E : mE} {h : mH} {ty mo fa it : Nat} {t : mTk} {tr : Int64} {wr : Bool} {tx : Nat → Nat} {u : Nat} (e40 : h 40 = oMt ty t wr it mo fa tr) (e41 : h 41 = mBy tx) (hty : ty ≤ 100) (ht : sOK ty t) (htx : ∀ j, j < ty → tx j < 256) (hu : u < 2 ^ 31) : mOk E 4 zX8_amount [.ref 40, vN 0, vN u] h (mX (some (vN t.2.2.2)) (mU h 40 (oMt ty (duY tx ty (amB u t) (t, wr)).1 (duY tx ty (amB u t) (t, wr)).2 it mo fa tr))) := by
  obtain ⟨h1, h2, h3, h4⟩ := id ht
  refine mOk_w (L := [some (.ref 40), some (vN 0), some (vN u), none]) pn_X8 rfl (Nat.le_of_ble_eq_true rfl) rfl ?_
  refine mG_aload_n dX8_amount_0 rfl ?_
  refine mG_get fX8_81 dX8_amount_1 e40 (Nat.le_of_ble_eq_true rfl) rfl ?_
  refine mG_istore_n dX8_amount_4 (Nat.le_of_ble_eq_true rfl) rfl rfl ?_
  refine mG_aload_n dX8_amount_5 rfl ?_
  refine mG_aload_n dX8_amount_6 rfl ?_
  refine mG_get fX8_84 dX8_amount_7 e40 (Nat.le_of_ble_eq_true rfl) rfl ?_
  refine mG_iconst (v := nI 2) dX8_amount_10 (by decide) ?_
  refine mG_icmp_neN dX8_amount_11 (by omega) (by omega) (fun c11 => ?_) (fun c11 => ?_)
  · refine mG_iconst (v := mb false) dX8_amount_27 (by decide) ?_
    skip
    have hA : some (some (vB (amB u t))) = some (some (vB (amB u t))) := rfl
    first
      | (have hq : amB u t = true := by
           unfold amB
           exact decide_eq_true (And.intro c11 (of_decide_eq_true c20).2)
         refine mG_cw1 vX8_94 dX8_amount_28 (mLe_of rfl) (Nat.le_of_ble_eq_true rfl) e40 (Nat.le_of_ble_eq_true rfl) (ok_X8_due e40 e41 hty ht htx) ?_
         rw [hq]
         refine mG_iload_n dX8_amount_31 rfl ?_
         exact mG_iret dX8_amount_32 rfl (mX_of rfl rfl))
      | (have hq : amB u t = false := by
           unfold amB
           first
             | exact decide_eq_false (fun q => c11 q.1)
             | exact decide_eq_false (fun q => absurd (And.intro (Nat.zero_le _) q.2) (of_decide_eq_false c20))
         refine mG_cw1 vX8_94 dX8_amount_28 (mLe_of rfl) (Nat.le_of_ble_eq_true rfl) e40 (Nat.le_of_ble_eq_true rfl) (ok_X8_due e40 e41 hty ht htx) ?_
         rw [hq]
         refine mG_iload_n dX8_amount_31 rfl ?_
         exact mG_iret dX8_amount_32 rfl (mX_of rfl rfl))
  · refine mG_iload_n dX8_amount_14 rfl ?_
    refine mG_iload_n dX8_amount_15 rfl ?_
    refine mG_iload_n dX8_amount_16 rfl ?_
    refine mG_cs3 sX8_63 dX8_amount_17 (mLe_of rfl) (Nat.le_of_ble_eq_true rfl) (ok_X8_in) ?_
    rw [inI_N (by omega) (by decide) (by omega)]
    refine mG_if_eqB dX8_amount_20 (fun c20 => ?_) (fun c20 => ?_)
    · refine mG_iconst (v := mb false) dX8_amount_27 (by decide) ?_
      skip
      have hA : some (some (vB (amB u t))) = some (some (vB (amB u t))) := rfl
      first
        | (have hq : amB u t = true := by
             unfold amB
             exact decide_eq_true (And.intro c11 (of_decide_eq_true c20).2)
           refine mG_cw1 vX8_94 dX8_amount_28 (mLe_of rfl) (Nat.le_of_ble_eq_true rfl) e40 (Nat.le_of_ble_eq_true rfl) (ok_X8_due e40 e41 hty ht htx) ?_
           rw [hq]
           refine mG_iload_n dX8_amount_31 rfl ?_
           exact mG_iret dX8_amount_32 rfl (mX_of rfl rfl))
        | (have hq : amB u t = false := by
             unfold amB
             first
               | exact decide_eq_false (fun q => c11 q.1)
               | exact decide_eq_false (fun q => absurd (And.intro (Nat.zero_le _) q.2) (of_decide_eq_false c20))
           refine mG_cw1 vX8_94 dX8_amount_28 (mLe_of rfl) (Nat.le_of_ble_eq_true rfl) e40 (Nat.le_of_ble_eq_true rfl) (ok_X8_due e40 e41 hty ht htx) ?_
           rw [hq]
           refine mG_iload_n dX8_amount_31 rfl ?_
           exact mG_iret dX8_amount_32 rfl (mX_of rfl rfl))
    · refine mG_iconst (v := mb true) dX8_amount_23 (by decide) ?_
      refine mG_goto dX8_amount_24 ?_
      skip
      have hA : some (some (vB (amB u t))) = some (some (vB (amB u t))) := rfl
      first
        | (have hq : amB u t = true := by
             unfold amB
             exact decide_eq_true (And.intro c11 (of_decide_eq_true c20).2)
           refine mG_cw1 vX8_94 dX8_amount_28 (mLe_of rfl) (Nat.le_of_ble_eq_true rfl) e40 (Nat.le_of_ble_eq_true rfl) (ok_X8_due e40 e41 hty ht htx) ?_
           rw [hq]
           refine mG_iload_n dX8_amount_31 rfl ?_
           exact mG_iret dX8_amount_32 rfl (mX_of rfl rfl))
        | (have hq : amB u t = false := by
             unfold amB
             first
               | exact decide_eq_false (fun q => c11 q.1)
               | exact decide_eq_false (fun q => absurd (And.intro (Nat.zero_le _) q.2) (of_decide_eq_false c20))
           refine mG_cw1 vX8_94 dX8_amount_28 (mLe_of rfl) (Nat.le_of_ble_eq_true rfl) e40 (Nat.le_of_ble_eq_true rfl) (ok_X8_due e40 e41 hty ht htx) ?_
           rw [hq]
           refine mG_iload_n dX8_amount_31 rfl ?_
           exact mG_iret dX8_amount_32 rfl (mX_of rfl rfl))
/-- all that reading changes -/
def hN (h : mH) (ty : Nat) (t : mTk) (wr : Bool) (it mo fa : Nat) (tr : Int64) (cb db bb fg dg : Nat → Nat) : mH := mU (mU (mU (mU (mU (mU h 40 (oMt ty t wr it mo fa tr)) 42 (mAr 2 cb)) 43 (mAr 2 db)) 44 (mAr 2 bb)) 45 (mAr 48 fg)) 46 (mAr 12 dg)
theorem hN_42 (h : mH) (ty : Nat) (t : mTk) (wr : Bool) (it mo fa : Nat) (tr : Int64) (cb db bb fg dg : Nat → Nat) (x : Nat → Nat) : mU (hN h ty t wr it mo fa tr cb db bb fg dg) 42 (mAr 2 x) = hN h ty t wr it mo fa tr x db bb fg dg := by
  funext j
  unfold hN mU
  by_cases q : j = 42
  · simp [q]
  · simp [q]
theorem hN_43 (h : mH) (ty : Nat) (t : mTk) (wr : Bool) (it mo fa : Nat) (tr : Int64) (cb db bb fg dg : Nat → Nat) (x : Nat → Nat) : mU (hN h ty t wr it mo fa tr cb db bb fg dg) 43 (mAr 2 x) = hN h ty t wr it mo fa tr cb x bb fg dg := by
  funext j
  unfold hN mU
  by_cases q : j = 43
  · simp [q]
  · simp [q]
theorem hN_44 (h : mH) (ty : Nat) (t : mTk) (wr : Bool) (it mo fa : Nat) (tr : Int64) (cb db bb fg dg : Nat → Nat) (x : Nat → Nat) : mU (hN h ty t wr it mo fa tr cb db bb fg dg) 44 (mAr 2 x) = hN h ty t wr it mo fa tr cb db x fg dg := by
  funext j
  unfold hN mU
  by_cases q : j = 44
  · simp [q]
  · simp [q]
theorem hN_45 (h : mH) (ty : Nat) (t : mTk) (wr : Bool) (it mo fa : Nat) (tr : Int64) (cb db bb fg dg : Nat → Nat) (x : Nat → Nat) : mU (hN h ty t wr it mo fa tr cb db bb fg dg) 45 (mAr 48 x) = hN h ty t wr it mo fa tr cb db bb x dg := by
  funext j
  unfold hN mU
  by_cases q : j = 45
  · simp [q]
  · simp [q]
theorem hN_46 (h : mH) (ty : Nat) (t : mTk) (wr : Bool) (it mo fa : Nat) (tr : Int64) (cb db bb fg dg : Nat → Nat) (x : Nat → Nat) : mU (hN h ty t wr it mo fa tr cb db bb fg dg) 46 (mAr 12 x) = hN h ty t wr it mo fa tr cb db bb fg x := by
  funext j
  unfold hN mU
  by_cases q : j = 46
  · simp [q]
  · simp [q]
theorem hN_40 (h : mH) (ty : Nat) (t : mTk) (wr : Bool) (it mo fa : Nat) (tr : Int64) (cb db bb fg dg : Nat → Nat) (t' : mTk) (wr' : Bool) (it' : Nat) : mU (hN h ty t wr it mo fa tr cb db bb fg dg) 40 (oMt ty t' wr' it' mo fa tr) = hN h ty t' wr' it' mo fa tr cb db bb fg dg := by
  funext j
  unfold hN mU
  by_cases q : j = 40
  · simp [q]
  · simp [q]
def mayY (w : Nat) (cb db bb : Nat → Nat) : Bool := if w = 98 then decide (bb 1 = 0) else if w = 99 then decide (cb 1 < 4) else decide (w = 100 ∧ db 1 < 6)
theorem lk_no {w : Nat} (hw : w < 2 ^ 31) (h1 : ¬ w = 98) (h2 : ¬ w = 99) {a b d : Int} : Op.lookupswitch.offset [(98, a), (99, b)] d (nI w).toInt = d := by
  rw [nI_toInt hw, Op.lookupswitch.offset_cons, if_neg (by omega), Op.lookupswitch.offset_cons, if_neg (by omega)]
  rfl
set_option maxRecDepth 100000 in
set_option maxHeartbeats 4000000 in
theorem ok_X8_may98 {E : mE} {h : mH} {ty mo fa it : Nat} {t : mTk} {tr : Int64} {wr : Bool} {cb db bb fg dg : Nat → Nat} (hb : bb 1 < 2 ^ 31) : mOk E 1 zX8_may [.ref 40, vN 98] (hN h ty t wr it mo fa tr cb db bb fg dg) (mX (some (vB (mayY 98 cb db bb))) (hN h ty t wr it mo fa tr cb db bb fg dg)) := by
  refine mOk_w (L := [some (.ref 40), some (vN 98)]) pn_X8 rfl (Nat.le_of_ble_eq_true rfl) rfl ?_
  refine mG_iload_n dX8_may_0 rfl ?_
  refine mG_lookup (off := 27) (tgt := 28) dX8_may_1 (by decide) (by decide) (by decide) ?_
  refine mG_aload_n dX8_may_28 rfl ?_
  refine mG_get fX8_20 dX8_may_29 rfl (Nat.le_of_ble_eq_true rfl) rfl ?_
  refine mG_iconst (v := nI 1) dX8_may_32 (by decide) ?_
  refine mG_ialdA dX8_may_33 rfl (Nat.le_of_ble_eq_true rfl) (by decide) (by omega) ?_
  refine mG_if_neN dX8_may_34 (by omega) (fun c34 => ?_) (fun c34 => ?_)
  · refine mG_iconst (v := mb false) dX8_may_41 (by decide) ?_
    exact mG_zret dX8_may_42 rfl (mX_of (by unfold mayY; first | (rw [if_pos rfl, decide_eq_true c34]) | (rw [if_pos rfl, decide_eq_false c34])) rfl)
  · refine mG_iconst (v := mb true) dX8_may_37 (by decide) ?_
    refine mG_goto dX8_may_38 ?_
    exact mG_zret dX8_may_42 rfl (mX_of (by unfold mayY; first | (rw [if_pos rfl, decide_eq_true c34]) | (rw [if_pos rfl, decide_eq_false c34])) rfl)
set_option maxRecDepth 100000 in
set_option maxHeartbeats 4000000 in
theorem ok_X8_may99 {E : mE} {h : mH} {ty mo fa it : Nat} {t : mTk} {tr : Int64} {wr : Bool} {cb db bb fg dg : Nat → Nat} (hb : cb 1 < 2 ^ 31) : mOk E 1 zX8_may [.ref 40, vN 99] (hN h ty t wr it mo fa tr cb db bb fg dg) (mX (some (vB (mayY 99 cb db bb))) (hN h ty t wr it mo fa tr cb db bb fg dg)) := by
  refine mOk_w (L := [some (.ref 40), some (vN 99)]) pn_X8 rfl (Nat.le_of_ble_eq_true rfl) rfl ?_
  refine mG_iload_n dX8_may_0 rfl ?_
  refine mG_lookup (off := 42) (tgt := 43) dX8_may_1 (by decide) (by decide) (by decide) ?_
  refine mG_aload_n dX8_may_43 rfl ?_
  refine mG_get fX8_13 dX8_may_44 rfl (Nat.le_of_ble_eq_true rfl) rfl ?_
  refine mG_iconst (v := nI 1) dX8_may_47 (by decide) ?_
  refine mG_ialdA dX8_may_48 rfl (Nat.le_of_ble_eq_true rfl) (by decide) (by omega) ?_
  refine mG_iconst (v := nI 4) dX8_may_49 (by decide) ?_
  refine mG_icmp_geN dX8_may_50 (by omega) (by omega) (fun c50 => ?_) (fun c50 => ?_)
  · refine mG_iconst (v := mb false) dX8_may_57 (by decide) ?_
    exact mG_zret dX8_may_58 rfl (mX_of (by unfold mayY; first | (rw [if_neg (by decide), if_pos rfl, decide_eq_true c50]) | (rw [if_neg (by decide), if_pos rfl, decide_eq_false (Nat.not_lt.mpr c50)])) rfl)
  · refine mG_iconst (v := mb true) dX8_may_53 (by decide) ?_
    refine mG_goto dX8_may_54 ?_
    exact mG_zret dX8_may_58 rfl (mX_of (by unfold mayY; first | (rw [if_neg (by decide), if_pos rfl, decide_eq_true c50]) | (rw [if_neg (by decide), if_pos rfl, decide_eq_false (Nat.not_lt.mpr c50)])) rfl)
set_option maxRecDepth 100000 in
set_option maxHeartbeats 4000000 in
theorem ok_X8_mayN {E : mE} {h : mH} {w ty mo fa it : Nat} {t : mTk} {tr : Int64} {wr : Bool} {cb db bb fg dg : Nat → Nat} (hw : w < 2 ^ 31) (h1 : ¬ w = 98) (h2 : ¬ w = 99) (hb : db 1 < 2 ^ 31) : mOk E 1 zX8_may [.ref 40, vN w] (hN h ty t wr it mo fa tr cb db bb fg dg) (mX (some (vB (mayY w cb db bb))) (hN h ty t wr it mo fa tr cb db bb fg dg)) := by
  refine mOk_w (L := [some (.ref 40), some (vN w)]) pn_X8 rfl (Nat.le_of_ble_eq_true rfl) rfl ?_
  refine mG_iload_n dX8_may_0 rfl ?_
  refine mG_lookup (tgt := 59) dX8_may_1 (by decide) (lk_no hw h1 h2) (by decide) ?_
  refine mG_iload_n dX8_may_59 rfl ?_
  refine mG_bipush (v := nI 100) dX8_may_60 (by decide) ?_
  refine mG_icmp_neN dX8_may_62 (by omega) (by omega) (fun c62 => ?_) (fun c62 => ?_)
  · refine mG_iconst (v := mb false) dX8_may_80 (by decide) ?_
    exact mG_zret dX8_may_81 rfl (mX_of (by
      unfold mayY
      rw [if_neg h1, if_neg h2]
      congr 3
      first
        | exact (decide_eq_true (And.intro c62 c73)).symm
        | exact (decide_eq_false (fun q => c62 q.1)).symm
        | exact (decide_eq_false (fun q => absurd q.2 (Nat.not_lt.mpr c73))).symm) rfl)
  · refine mG_aload_n dX8_may_65 rfl ?_
    refine mG_get fX8_17 dX8_may_66 rfl (Nat.le_of_ble_eq_true rfl) rfl ?_
    refine mG_iconst (v := nI 1) dX8_may_69 (by decide) ?_
    refine mG_ialdA dX8_may_70 rfl (Nat.le_of_ble_eq_true rfl) (by decide) (by omega) ?_
    refine mG_bipush (v := nI 6) dX8_may_71 (by decide) ?_
    refine mG_icmp_geN dX8_may_73 (by omega) (by omega) (fun c73 => ?_) (fun c73 => ?_)
    · refine mG_iconst (v := mb false) dX8_may_80 (by decide) ?_
      exact mG_zret dX8_may_81 rfl (mX_of (by
      unfold mayY
      rw [if_neg h1, if_neg h2]
      congr 3
      first
        | exact (decide_eq_true (And.intro c62 c73)).symm
        | exact (decide_eq_false (fun q => c62 q.1)).symm
        | exact (decide_eq_false (fun q => absurd q.2 (Nat.not_lt.mpr c73))).symm) rfl)
    · refine mG_iconst (v := mb true) dX8_may_76 (by decide) ?_
      refine mG_goto dX8_may_77 ?_
      exact mG_zret dX8_may_81 rfl (mX_of (by
      unfold mayY
      rw [if_neg h1, if_neg h2]
      congr 3
      first
        | exact (decide_eq_true (And.intro c62 c73)).symm
        | exact (decide_eq_false (fun q => c62 q.1)).symm
        | exact (decide_eq_false (fun q => absurd q.2 (Nat.not_lt.mpr c73))).symm) rfl)
theorem ok_X8_may {E : mE} {h : mH} {ty mo fa it : Nat} {t : mTk} {tr : Int64} {wr : Bool} {cb db bb fg dg : Nat → Nat} {w : Nat} (hw : w < 2 ^ 31) (h1 : bb 1 < 2 ^ 31) (h2 : cb 1 < 2 ^ 31) (h3 : db 1 < 2 ^ 31) : mOk E 1 zX8_may [.ref 40, vN w] (hN h ty t wr it mo fa tr cb db bb fg dg) (mX (some (vB (mayY w cb db bb))) (hN h ty t wr it mo fa tr cb db bb fg dg)) := by
  by_cases q1 : w = 98
  · subst q1; exact ok_X8_may98 h1
  · by_cases q2 : w = 99
    · subst q2; exact ok_X8_may99 h2
    · exact ok_X8_mayN hw q1 q2 h3
set_option maxRecDepth 100000 in
set_option maxHeartbeats 4000000 in
theorem ok_X8_item98 {E : mE} {h : mH} {ty mo fa it : Nat} {t : mTk} {tr : Int64} {wr : Bool} {cb db bb fg dg : Nat → Nat}  : mOk E 5 zX8_item [.ref 40, vN 98] (hN h ty t wr it mo fa tr cb db bb fg dg) (mX none (hN h ty t wr it mo fa tr cb db (mUp bb 1 1) fg dg)) := by
  refine mOk_w (L := [some (.ref 40), some (vN 98), none]) pn_X8 rfl (Nat.le_of_ble_eq_true rfl) rfl ?_
  refine mG_iload_n dX8_item_0 rfl ?_
  refine mG_lookup (off := 27) (tgt := 28) dX8_item_1 (by decide) (by decide) (by decide) ?_
  refine mG_aload_n dX8_item_28 rfl ?_
  refine mG_get fX8_20 dX8_item_29 rfl (Nat.le_of_ble_eq_true rfl) rfl ?_
  refine mG_iconst (v := nI 1) dX8_item_32 (by decide) ?_
  refine mG_iconst (v := nI 1) dX8_item_33 (by decide) ?_
  refine mG_iastA dX8_item_34 rfl (Nat.le_of_ble_eq_true rfl) (by decide) (by omega) ?_
  refine mG_goto dX8_item_35 ?_
  exact mG_vret dX8_item_131 rfl (mX_of rfl (hN_44 _ _ _ _ _ _ _ _ _ _ _ _ _ _))
def icF (tx : Nat → Nat) (n c : Nat) : Nat → Nat → mTk × Bool → (Nat → Nat) → (mTk × Bool) × (Nat → Nat)
  | 0, _, x, fg => (x, fg)
  | k + 1, s, x, fg => icF tx n c k (s + 1) (duY tx n (amB 9 x.1) x) (mUp fg (24 + 6 * c + s) x.1.2.2.2)
theorem icF_ok {tx : Nat → Nat} {n c : Nat} (hn : n ≤ 100) (htx : ∀ j, j < n → tx j < 256) : ∀ k s x fg, sOK n x.1 → sOK n (icF tx n c k s x fg).1.1 := by
  intro k
  induction k with
  | zero => intro s x fg h; exact h
  | succ k ih => intro s x fg h; exact ih _ _ _ (duY_ok hn htx h)
set_option maxRecDepth 100000 in
set_option maxHeartbeats 4000000 in
theorem lp_X8_cube {E : mE} {h : mH} {ty mo fa it : Nat} {tr : Int64} {tx cb db bb dg : Nat → Nat} {Z : (mTk × Bool) × (Nat → Nat)} (e41 : h 41 = mBy tx) (hty : ty ≤ 100) (htx : ∀ j, j < ty → tx j < 256) (hc : cb 1 < 4) : ∀ (k i : Nat) (t : mTk) (wr : Bool) (fg : Nat → Nat), i + k = 6 → sOK ty t → Z = icF tx ty (cb 1) k i (t, wr) fg → mG E (mR 5, zX8_item) (mKq E (mR 5) mN (mX none (hN h ty Z.1.1 Z.1.2 it mo fa tr (mUp cb 1 (cb 1 + 1)) db bb Z.2 dg))) 40 [some (.ref 40), some (vN 99), some (vN i)] [] (mN, 0, 0) (hN h ty t wr it mo fa tr cb db bb fg dg) := by
  intro k
  induction k with
  | zero =>
    intro i t wr fg hk ht hZ
    refine mG_iload_n dX8_item_40 rfl ?_
    refine mG_bipush (v := nI 6) dX8_item_41 (by decide) ?_
    refine mG_icmp_geN dX8_item_43 (by omega) (by omega) (fun c43 => ?_) (fun c43 => absurd c43 (by omega))
    refine mG_aload_n dX8_item_78 rfl ?_
    refine mG_get fX8_13 dX8_item_79 rfl (Nat.le_of_ble_eq_true rfl) rfl ?_
    refine mG_iconst (v := nI 1) dX8_item_82 (by decide) ?_
    refine mG_dup2 dX8_item_83 rfl rfl ?_
    refine mG_ialdA dX8_item_84 rfl (Nat.le_of_ble_eq_true rfl) (by decide) (by omega) ?_
    refine mG_iconst (v := nI 1) dX8_item_85 (by decide) ?_
    refine mG_iaddN dX8_item_86 ?_
    refine mG_iastA dX8_item_87 rfl (Nat.le_of_ble_eq_true rfl) (by decide) (by omega) ?_
    refine mG_goto dX8_item_88 ?_
    exact mG_vret dX8_item_131 rfl (mX_of rfl (by rw [hZ]; exact hN_42 _ _ _ _ _ _ _ _ _ _ _ _ _ _))
  | succ k ih =>
    intro i t wr fg hk ht hZ
    refine mG_iload_n dX8_item_40 rfl ?_
    refine mG_bipush (v := nI 6) dX8_item_41 (by decide) ?_
    refine mG_icmp_geN dX8_item_43 (by omega) (by omega) (fun c43 => absurd c43 (by omega)) (fun c43 => ?_)
    refine mG_aload_n dX8_item_46 rfl ?_
    refine mG_get fX8_23 dX8_item_47 rfl (Nat.le_of_ble_eq_true rfl) rfl ?_
    refine mG_bipush (v := nI 24) dX8_item_50 (by decide) ?_
    refine mG_bipush (v := nI 6) dX8_item_52 (by decide) ?_
    refine mG_aload_n dX8_item_54 rfl ?_
    refine mG_get fX8_13 dX8_item_55 rfl (Nat.le_of_ble_eq_true rfl) rfl ?_
    refine mG_iconst (v := nI 1) dX8_item_58 (by decide) ?_
    refine mG_ialdA dX8_item_59 rfl (Nat.le_of_ble_eq_true rfl) (by decide) (by omega) ?_
    refine mG_imulN dX8_item_60 ?_
    refine mG_iaddN dX8_item_61 ?_
    refine mG_iload_n dX8_item_62 rfl ?_
    refine mG_iaddN dX8_item_63 ?_
    refine mG_aload_n dX8_item_64 rfl ?_
    refine mG_iconst (v := nI 0) dX8_item_65 (by decide) ?_
    refine mG_bipush (v := nI 9) dX8_item_66 (by decide) ?_
    refine mG_cv2 vX8_98 dX8_item_68 (mLe_of rfl) (Nat.le_of_ble_eq_true rfl) rfl (Nat.le_of_ble_eq_true rfl) (ok_X8_amount rfl e41 hty ht htx (by decide)) ?_
    rw [hN_40]
    refine mG_iastA dX8_item_71 rfl (Nat.le_of_ble_eq_true rfl) (by decide) (by omega) ?_
    refine mG_iincN dX8_item_72 rfl (Nat.le_of_ble_eq_true rfl) rfl rfl ?_
    refine mG_goto dX8_item_75 ?_
    rw [hN_45]
    exact ih (i + 1) _ _ _ (by omega) (duY_ok (x := (t, wr)) hty htx ht) hZ
set_option maxRecDepth 100000 in
set_option maxHeartbeats 4000000 in
theorem ok_X8_item99 {E : mE} {h : mH} {ty mo fa it : Nat} {t : mTk} {tr : Int64} {wr : Bool} {tx cb db bb fg dg : Nat → Nat} (e41 : h 41 = mBy tx) (hty : ty ≤ 100) (ht : sOK ty t) (htx : ∀ j, j < ty → tx j < 256) (hc : cb 1 < 4) : mOk E 5 zX8_item [.ref 40, vN 99] (hN h ty t wr it mo fa tr cb db bb fg dg) (mX none (hN h ty (icF tx ty (cb 1) 6 0 (t, wr) fg).1.1 (icF tx ty (cb 1) 6 0 (t, wr) fg).1.2 it mo fa tr (mUp cb 1 (cb 1 + 1)) db bb (icF tx ty (cb 1) 6 0 (t, wr) fg).2 dg)) := by
  refine mOk_w (L := [some (.ref 40), some (vN 99), none]) pn_X8 rfl (Nat.le_of_ble_eq_true rfl) rfl ?_
  refine mG_iload_n dX8_item_0 rfl ?_
  refine mG_lookup (off := 37) (tgt := 38) dX8_item_1 (by decide) (by decide) (by decide) ?_
  refine mG_iconst (v := nI 0) dX8_item_38 (by decide) ?_
  refine mG_istore_n dX8_item_39 (Nat.le_of_ble_eq_true rfl) rfl rfl ?_
  exact lp_X8_cube e41 hty htx hc 6 0 t wr fg rfl ht rfl
theorem pow1 {c : Nat} : 1 ≤ 10 ^ c := Nat.one_le_pow _ _ (by decide)
set_option maxRecDepth 100000 in
set_option maxHeartbeats 4000000 in
theorem ok_X8_itemN {E : mE} {h : mH} {w ty mo fa it : Nat} {t : mTk} {tr : Int64} {wr : Bool} {tx cb db bb fg dg : Nat → Nat} (e41 : h 41 = mBy tx) (hty : ty ≤ 100) (ht : sOK ty t) (htx : ∀ j, j < ty → tx j < 256) (hw : w < 2 ^ 31) (h1 : ¬ w = 98) (h2 : ¬ w = 99) (hc : cb 1 ≤ 4) (hd : db 1 < 6) : mOk E 5 zX8_item [.ref 40, vN w] (hN h ty t wr it mo fa tr cb db bb fg dg) (mX none (hN h ty (duY tx ty (amB (10 ^ cb 1 - 1) t) (t, wr)).1 (duY tx ty (amB (10 ^ cb 1 - 1) t) (t, wr)).2 it mo fa tr cb (mUp db 1 (db 1 + 1)) bb fg (mUp dg (6 + db 1) t.2.2.2))) := by
  refine mOk_w (L := [some (.ref 40), some (vN w), none]) pn_X8 rfl (Nat.le_of_ble_eq_true rfl) rfl ?_
  refine mG_iload_n dX8_item_0 rfl ?_
  refine mG_lookup (tgt := 91) dX8_item_1 (by decide) (lk_no hw h1 h2) (by decide) ?_
  refine mG_aload_n dX8_item_91 rfl ?_
  refine mG_get fX8_26 dX8_item_92 rfl (Nat.le_of_ble_eq_true rfl) rfl ?_
  refine mG_bipush (v := nI 6) dX8_item_95 (by decide) ?_
  refine mG_aload_n dX8_item_97 rfl ?_
  refine mG_get fX8_17 dX8_item_98 rfl (Nat.le_of_ble_eq_true rfl) rfl ?_
  refine mG_iconst (v := nI 1) dX8_item_101 (by decide) ?_
  refine mG_ialdA dX8_item_102 rfl (Nat.le_of_ble_eq_true rfl) (by decide) (by omega) ?_
  refine mG_iaddN dX8_item_103 ?_
  refine mG_aload_n dX8_item_104 rfl ?_
  refine mG_iconst (v := nI 0) dX8_item_105 (by decide) ?_
  refine mG_aload_n dX8_item_106 rfl ?_
  refine mG_get fX8_13 dX8_item_107 rfl (Nat.le_of_ble_eq_true rfl) rfl ?_
  refine mG_iconst (v := nI 1) dX8_item_110 (by decide) ?_
  refine mG_ialdA dX8_item_111 rfl (Nat.le_of_ble_eq_true rfl) (by decide) (by omega) ?_
  refine mG_cs1 sX8_102 dX8_item_112 (mLe_of rfl) (Nat.le_of_ble_eq_true rfl) (ok_X8_power (by omega)) ?_
  refine mG_iconst (v := nI 1) dX8_item_115 (by decide) ?_
  refine mG_isubN dX8_item_116 (pow1) ?_
  have h10 := ten_le hc
  refine mG_cv2 vX8_98 dX8_item_117 (mLe_of rfl) (Nat.le_of_ble_eq_true rfl) rfl (Nat.le_of_ble_eq_true rfl) (ok_X8_amount rfl e41 hty ht htx (by omega)) ?_
  rw [hN_40]
  refine mG_iastA dX8_item_120 rfl (Nat.le_of_ble_eq_true rfl) (by decide) (by omega) ?_
  rw [hN_46]
  refine mG_aload_n dX8_item_121 rfl ?_
  refine mG_get fX8_17 dX8_item_122 rfl (Nat.le_of_ble_eq_true rfl) rfl ?_
  refine mG_iconst (v := nI 1) dX8_item_125 (by decide) ?_
  refine mG_dup2 dX8_item_126 rfl rfl ?_
  refine mG_ialdA dX8_item_127 rfl (Nat.le_of_ble_eq_true rfl) (by decide) (by omega) ?_
  refine mG_iconst (v := nI 1) dX8_item_128 (by decide) ?_
  refine mG_iaddN dX8_item_129 ?_
  refine mG_iastA dX8_item_130 rfl (Nat.le_of_ble_eq_true rfl) (by decide) (by omega) ?_
  exact mG_vret dX8_item_131 rfl (mX_of rfl (hN_43 _ _ _ _ _ _ _ _ _ _ _ _ _ _))
