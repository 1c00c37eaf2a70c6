/-! the reference reads: items -/
theorem stT_at {tx : Nat → Nat} {n a : Nat} (hn : n ≤ 100) (htx : ∀ j, j < n → tx j < 256) (ha : a ≤ n) : (stT tx n a).2.2.1 ≤ (stT tx n a).1 := by
  by_cases q : (stT tx n a).2.1 = 4
  · unfold stT stB at q ⊢
    split at q <;> split
    · exact Nat.le_refl _
    · rename_i q1 q2; exact absurd q1 q2
    · exact Nat.le_refl _
    · exfalso
      revert q
      split
      · dsimp only; split <;> omega
      · split
        · dsimp only; omega
        · dsimp only; split <;> omega
  · exact Nat.le_of_lt ((stT_ok hn htx ha).2.2 q).1
def LO (n s : Nat) (x : mTk × Bool) : Prop := sOK n x.1 ∧ (x.2 = true ∨ (s ≤ x.1.2.2.1 ∧ s ≤ x.1.1 ∧ (¬ x.1.2.1 = 4 → x.1.2.2.1 < x.1.1 ∧ x.1.2.2.1 < n)))
theorem LO_st {tx : Nat → Nat} {n s a : Nat} (hn : n ≤ 100) (htx : ∀ j, j < n → tx j < 256) (ha : a ≤ n) (hs : s ≤ a) : LO n s (stT tx n a, false) := by
  obtain ⟨q1, q2, q3⟩ := stT_ok hn htx ha
  have q4 := stT_at hn htx ha
  exact ⟨q1, Or.inr ⟨Nat.le_trans hs q2, Nat.le_trans hs (Nat.le_trans q2 q4), q3⟩⟩
theorem LO_du {tx : Nat → Nat} {n s : Nat} {is : Bool} {x : mTk × Bool} (hn : n ≤ 100) (htx : ∀ j, j < n → tx j < 256) (hx : LO n s x) : LO n s (duY tx n is x) := by
  unfold duY
  split
  · exact hx
  · rename_i q
    split
    · rcases hx.2 with w | w
      · exact absurd w q
      · exact LO_st hn htx hx.1.1 w.2.1
    · exact ⟨hx.1, Or.inl rfl⟩
theorem LO_ic {tx : Nat → Nat} {n s c : Nat} (hn : n ≤ 100) (htx : ∀ j, j < n → tx j < 256) : ∀ k i x fg, LO n s x → LO n s (icF tx n c k i x fg).1 := by
  intro k
  induction k with
  | zero => intro i x fg h; exact h
  | succ k ih => intro i x fg h; exact ih _ _ _ (LO_du hn htx h)
abbrev mRx : Type := (mTk × Bool) × Nat × (Nat → Nat) × (Nat → Nat) × (Nat → Nat) × (Nat → Nat) × (Nat → Nat)
def itX (tx : Nat → Nat) (n w : Nat) (y : mRx) : mRx :=
  if w = 98 then (y.1, y.2.1, y.2.2.1, y.2.2.2.1, mUp y.2.2.2.2.1 1 1, y.2.2.2.2.2.1, y.2.2.2.2.2.2)
  else if w = 99 then ((icF tx n (y.2.2.1 1) 6 0 y.1 y.2.2.2.2.2.1).1, y.2.1, mUp y.2.2.1 1 (y.2.2.1 1 + 1), y.2.2.2.1, y.2.2.2.2.1, (icF tx n (y.2.2.1 1) 6 0 y.1 y.2.2.2.2.2.1).2, y.2.2.2.2.2.2)
  else (duY tx n (amB (10 ^ y.2.2.1 1 - 1) y.1.1) y.1, y.2.1, y.2.2.1, mUp y.2.2.2.1 1 (y.2.2.2.1 1 + 1), y.2.2.2.2.1, y.2.2.2.2.2.1, mUp y.2.2.2.2.2.2 (6 + y.2.2.2.1 1) y.1.1.2.2.2)
def hM (h : mH) (ty mo fa : Nat) (tr : Int64) (y : mRx) : mH := hN h ty y.1.1 y.1.2 y.2.1 mo fa tr y.2.2.1 y.2.2.2.1 y.2.2.2.2.1 y.2.2.2.2.2.1 y.2.2.2.2.2.2
def rrS (tx : Nat → Nat) (n : Nat) (y : mRx) : mRx := if y.1.1.2.1 = 1 ∧ mayY y.1.1.2.2.2 y.2.2.1 y.2.2.2.1 y.2.2.2.2.1 = true then
    (duY tx n (decide ((itX tx n y.1.1.2.2.2 ((stT tx n y.1.1.1, false), y.2)).1.1.2.1 = 3)) (itX tx n y.1.1.2.2.2 ((stT tx n y.1.1.1, false), y.2)).1, y.2.1 + 1, (itX tx n y.1.1.2.2.2 ((stT tx n y.1.1.1, false), y.2)).2.2)
  else ((y.1.1, true), y.2)
def rrF (tx : Nat → Nat) (n : Nat) : Nat → mRx → mRx
  | 0, y => y
  | k + 1, y => if y.1.1.2.1 = 4 ∨ y.1.2 = true then y else rrF tx n k (rrS tx n y)
/-- bounds of the counters -/
def rB (y : mRx) : Prop := y.2.2.1 1 ≤ 4 ∧ y.2.2.2.1 1 ≤ 6 ∧ y.2.2.2.2.1 1 ≤ 1
theorem itX_it {tx : Nat → Nat} {n w : Nat} {y : mRx} : (itX tx n w y).2.1 = y.2.1 := by
  unfold itX
  split
  · rfl
  · split <;> rfl
theorem itX_lo {tx : Nat → Nat} {n w s : Nat} {y : mRx} (hn : n ≤ 100) (htx : ∀ j, j < n → tx j < 256) (hy : LO n s y.1) : LO n s (itX tx n w y).1 := by
  unfold itX
  split
  · exact hy
  · split
    · exact LO_ic hn htx _ _ _ _ hy
    · exact LO_du hn htx hy
theorem itX_rB {tx : Nat → Nat} {n w : Nat} {y : mRx} (h1 : rB y) (h2 : mayY w y.2.2.1 y.2.2.2.1 y.2.2.2.2.1 = true) : rB (itX tx n w y) := by
  obtain ⟨a, b, c⟩ := h1
  unfold itX
  unfold mayY at h2
  split
  · exact ⟨a, b, by dsimp only; rw [mUp_eq]; exact Nat.le_refl _⟩
  · rename_i w1
    rw [if_neg w1] at h2
    split
    · rename_i w2
      rw [if_pos w2] at h2
      have := of_decide_eq_true h2
      exact ⟨by dsimp only; rw [mUp_eq]; exact this, b, c⟩
    · rename_i w2
      rw [if_neg w2] at h2
      have := (of_decide_eq_true h2).2
      exact ⟨a, by dsimp only; rw [mUp_eq]; exact this, c⟩
theorem ok_X8_item {E : mE} {h : mH} {ty mo fa w : Nat} {tr : Int64} {tx : Nat → Nat} {y : mRx} (e41 : h 41 = mBy tx) (hty : ty ≤ 100) (htx : ∀ j, j < ty → tx j < 256) (ht : sOK ty y.1.1) (hw : w < 2 ^ 31) (hB : rB y) (hm : mayY w y.2.2.1 y.2.2.2.1 y.2.2.2.2.1 = true) : mOk E 5 zX8_item [.ref 40, vN w] (hM h ty mo fa tr y) (mX none (hM h ty mo fa tr (itX tx ty w y))) := by
  obtain ⟨a, b, c⟩ := id hB
  unfold itX
  unfold mayY at hm
  by_cases q1 : w = 98
  · rw [if_pos q1]
    subst q1
    exact ok_X8_item98
  · rw [if_neg q1] at hm ⊢
    by_cases q2 : w = 99
    · rw [if_pos q2] at hm ⊢
      subst q2
      exact ok_X8_item99 e41 hty ht htx (of_decide_eq_true hm)
    · rw [if_neg q2] at hm ⊢
      exact ok_X8_itemN e41 hty ht htx hw q1 q2 a (of_decide_eq_true hm).2

set_option maxRecDepth 100000 in
set_option maxHeartbeats 4000000 in
theorem le_X8_readF {E : mE} {h : mH} {ty mo fa it s k w : Nat} {t : mTk} {tr : Int64} {tx cb db bb fg dg : Nat → Nat} {Z : mRx} (hsk : sOK ty t) (hB2 : rB ((t, true), it, cb, db, bb, fg, dg)) (hk2 : ty ≤ s + k) (hZ2 : Z = rrF tx ty k ((t, true), it, cb, db, bb, fg, dg)) (ih : ∀ (w : Option Value) (s : Nat) (y : mRx), LO ty s y.1 → rB y → ty ≤ s + k → Z = rrF tx ty k y → mG E (mR 6, zX8_read) (mKq E (mR 6) mN (mX none (hM h ty mo fa tr Z))) 40 [some (.ref 40), w] [] (mN, 0, 0) (hM h ty mo fa tr y)) : mG E (mR 6, zX8_read) (mKq E (mR 6) mN (mX none (hM h ty mo fa tr Z))) 97 [some (.ref 40), some (vN w)] [] (mN, 0, 0) (hN h ty t true it mo fa tr cb db bb fg dg) := by
  refine mG_aload_n dX8_read_97 rfl ?_
  refine mG_get fX8_87 dX8_read_98 rfl (Nat.le_of_ble_eq_true rfl) rfl ?_
  refine mG_if_neB dX8_read_101 (fun c101 => ?_) (fun c101 => Bool.noConfusion c101)
  refine mG_goto dX8_read_136 ?_
  exact ih _ s ((t, true), it, cb, db, bb, fg, dg) ⟨hsk, Or.inl rfl⟩ hB2 hk2 hZ2
set_option maxRecDepth 100000 in
set_option maxHeartbeats 4000000 in
theorem le_X8_readT {E : mE} {h : mH} {ty mo fa it s k w : Nat} {t : mTk} {tr : Int64} {tx cb db bb fg dg : Nat → Nat} {Z : mRx} (e41 : h 41 = mBy tx) (hty : ty ≤ 100) (htx : ∀ j, j < ty → tx j < 256) (hsk : sOK ty t) (hLO : LO ty s (t, false)) (hw : w < 2 ^ 31) (hB : rB ((t, false), it, cb, db, bb, fg, dg)) (hm : mayY w cb db bb = true) (hk2 : ty ≤ s + k)
    (hZ2 : Z = rrF tx ty k (duY tx ty (decide ((itX tx ty w ((t, false), it, cb, db, bb, fg, dg)).1.1.2.1 = 3)) (itX tx ty w ((t, false), it, cb, db, bb, fg, dg)).1, it + 1, (itX tx ty w ((t, false), it, cb, db, bb, fg, dg)).2.2)) (ih : ∀ (w : Option Value) (s : Nat) (y : mRx), LO ty s y.1 → rB y → ty ≤ s + k → Z = rrF tx ty k y → mG E (mR 6, zX8_read) (mKq E (mR 6) mN (mX none (hM h ty mo fa tr Z))) 40 [some (.ref 40), w] [] (mN, 0, 0) (hM h ty mo fa tr y)) : mG E (mR 6, zX8_read) (mKq E (mR 6) mN (mX none (hM h ty mo fa tr Z))) 97 [some (.ref 40), some (vN w)] [] (mN, 0, 0) (hN h ty t false it mo fa tr cb db bb fg dg) := by
  refine mG_aload_n dX8_read_97 rfl ?_
  refine mG_get fX8_87 dX8_read_98 rfl (Nat.le_of_ble_eq_true rfl) rfl ?_
  refine mG_if_neB dX8_read_101 (fun c101 => Bool.noConfusion c101) (fun c101 => ?_)
  refine mG_aload_n dX8_read_104 rfl ?_
  refine mG_iload_n dX8_read_105 rfl ?_
  refine mG_cw1 vX8_113 dX8_read_106 (mLe_of rfl) (Nat.le_of_ble_eq_true rfl) rfl (Nat.le_of_ble_eq_true rfl) (ok_X8_item (mo := mo) (fa := fa) (tr := tr) (y := ((t, false), it, cb, db, bb, fg, dg)) e41 hty htx hsk hw hB hm) ?_
  have hY := itX_lo (y := ((t, false), it, cb, db, bb, fg, dg)) (w := w) hty htx hLO
  have hYB := itX_rB (tx := tx) (n := ty) hB hm
  have hYi : (itX tx ty w ((t, false), it, cb, db, bb, fg, dg)).2.1 = it := itX_it
  generalize itX tx ty w ((t, false), it, cb, db, bb, fg, dg) = Y at hY hYB hYi hZ2 ⊢
  obtain ⟨⟨yt, yw⟩, yi, yc, yd, yb, yf, yg⟩ := Y
  dsimp only [hM]
  have hYi2 : yi = it := hYi
  subst hYi2
  have hyk : sOK ty yt := hY.1
  obtain ⟨hy1, hy2, hy3, hy4⟩ := id hyk
  refine mG_aload_n dX8_read_109 rfl ?_
  refine mG_aload_n dX8_read_110 rfl ?_
  refine mG_get fX8_84 dX8_read_111 rfl (Nat.le_of_ble_eq_true rfl) rfl ?_
  refine mG_iconst (v := nI 3) dX8_read_114 (by decide) ?_
  refine mG_icmp_neN dX8_read_115 (by omega) (by omega) (fun c115 => ?_) (fun c115 => ?_)
  · refine mG_iconst (v := mb false) dX8_read_122 (by decide) ?_
    refine mG_cw1 vX8_94 dX8_read_123 (mLe_of rfl) (Nat.le_of_ble_eq_true rfl) rfl (Nat.le_of_ble_eq_true rfl) (ok_X8_due rfl e41 hty hyk htx) ?_
    rw [hN_40]
    refine mG_aload_n dX8_read_126 rfl ?_
    refine mG_dup dX8_read_127 rfl ?_
    refine mG_get fX8_106 dX8_read_128 rfl (Nat.le_of_ble_eq_true rfl) rfl ?_
    refine mG_iconst (v := nI 1) dX8_read_131 (by decide) ?_
    refine mG_iaddN dX8_read_132 ?_
    refine mG_putI pX8_106 dX8_read_133 rfl (Nat.le_of_ble_eq_true rfl) (Nat.le_of_ble_eq_true rfl) ?_
    first
      | refine mG_heap (hN_40 _ _ _ _ _ _ _ _ _ _ _ _ _ (duY tx ty true (yt, yw)).1 (duY tx ty true (yt, yw)).2 (yi + 1)) ?_
      | refine mG_heap (hN_40 _ _ _ _ _ _ _ _ _ _ _ _ _ (duY tx ty false (yt, yw)).1 (duY tx ty false (yt, yw)).2 (yi + 1)) ?_
    refine mG_goto dX8_read_136 ?_
    first
      | (rw [decide_eq_true c115] at hZ2
         exact ih _ s (duY tx ty true (yt, yw), yi + 1, yc, yd, yb, yf, yg) (LO_du (x := (yt, yw)) hty htx hY) hYB hk2 hZ2)
      | (rw [decide_eq_false c115] at hZ2
         exact ih _ s (duY tx ty false (yt, yw), yi + 1, yc, yd, yb, yf, yg) (LO_du (x := (yt, yw)) hty htx hY) hYB hk2 hZ2)
  · refine mG_iconst (v := mb true) dX8_read_118 (by decide) ?_
    refine mG_goto dX8_read_119 ?_
    refine mG_cw1 vX8_94 dX8_read_123 (mLe_of rfl) (Nat.le_of_ble_eq_true rfl) rfl (Nat.le_of_ble_eq_true rfl) (ok_X8_due rfl e41 hty hyk htx) ?_
    rw [hN_40]
    refine mG_aload_n dX8_read_126 rfl ?_
    refine mG_dup dX8_read_127 rfl ?_
    refine mG_get fX8_106 dX8_read_128 rfl (Nat.le_of_ble_eq_true rfl) rfl ?_
    refine mG_iconst (v := nI 1) dX8_read_131 (by decide) ?_
    refine mG_iaddN dX8_read_132 ?_
    refine mG_putI pX8_106 dX8_read_133 rfl (Nat.le_of_ble_eq_true rfl) (Nat.le_of_ble_eq_true rfl) ?_
    first
      | refine mG_heap (hN_40 _ _ _ _ _ _ _ _ _ _ _ _ _ (duY tx ty true (yt, yw)).1 (duY tx ty true (yt, yw)).2 (yi + 1)) ?_
      | refine mG_heap (hN_40 _ _ _ _ _ _ _ _ _ _ _ _ _ (duY tx ty false (yt, yw)).1 (duY tx ty false (yt, yw)).2 (yi + 1)) ?_
    refine mG_goto dX8_read_136 ?_
    first
      | (rw [decide_eq_true c115] at hZ2
         exact ih _ s (duY tx ty true (yt, yw), yi + 1, yc, yd, yb, yf, yg) (LO_du (x := (yt, yw)) hty htx hY) hYB hk2 hZ2)
      | (rw [decide_eq_false c115] at hZ2
         exact ih _ s (duY tx ty false (yt, yw), yi + 1, yc, yd, yb, yf, yg) (LO_du (x := (yt, yw)) hty htx hY) hYB hk2 hZ2)
set_option maxRecDepth 100000 in
set_option maxHeartbeats 4000000 in
theorem lp_X8_read {E : mE} {h : mH} {ty mo fa : Nat} {tr : Int64} {tx : Nat → Nat} {Z : mRx} (e41 : h 41 = mBy tx) (hty : ty ≤ 100) (htx : ∀ j, j < ty → tx j < 256) : ∀ (k : Nat) (lw : Option Value) (s : Nat) (y : mRx), LO ty s y.1 → rB y → ty ≤ s + k → Z = rrF tx ty k y → mG E (mR 6, zX8_read) (mKq E (mR 6) mN (mX none (hM h ty mo fa tr Z))) 40 [some (.ref 40), lw] [] (mN, 0, 0) (hM h ty mo fa tr y) := by
  intro k
  induction k with
  | zero =>
    intro lw s y hLO hB hk hZ
    obtain ⟨hs1, hs2, hs3, hs4⟩ := id hLO.1
    refine mG_aload_n dX8_read_40 rfl ?_
    refine mG_get fX8_84 dX8_read_41 rfl (Nat.le_of_ble_eq_true rfl) rfl ?_
    refine mG_iconst (v := nI 4) dX8_read_44 (by decide) ?_
    refine mG_icmp_eqN dX8_read_45 (by omega) (by omega) (fun c45 => ?_) (fun c45 => ?_)
    · exact mG_vret dX8_read_139 rfl (mX_of rfl (by rw [hZ]; rfl))
    · refine mG_aload_n dX8_read_48 rfl ?_
      refine mG_get fX8_87 dX8_read_49 rfl (Nat.le_of_ble_eq_true rfl) rfl ?_
      refine mG_if_neB dX8_read_52 (fun c52 => ?_) (fun c52 => ?_)
      · exact mG_vret dX8_read_139 rfl (mX_of rfl (by rw [hZ]; rfl))
      · exfalso
        rcases hLO.2 with w | w
        · exact Bool.noConfusion (c52.symm.trans w)
        · have := (w.2.2 c45).2; omega
  | succ k ih =>
    intro lw s y hLO hB hk hZ
    obtain ⟨hq1, hq2, hq3, hq4⟩ := id hLO.1
    refine mG_aload_n dX8_read_40 rfl ?_
    refine mG_get fX8_84 dX8_read_41 rfl (Nat.le_of_ble_eq_true rfl) rfl ?_
    refine mG_iconst (v := nI 4) dX8_read_44 (by decide) ?_
    refine mG_icmp_eqN dX8_read_45 (by omega) (by omega) (fun c45 => ?_) (fun c45 => ?_)
    · exact mG_vret dX8_read_139 rfl (mX_of rfl (by rw [hZ]; (first | (unfold rrF; rw [if_pos (Or.inl c45)]) | (unfold rrF; rw [if_pos (Or.inr c52)]))))
    · refine mG_aload_n dX8_read_48 rfl ?_
      refine mG_get fX8_87 dX8_read_49 rfl (Nat.le_of_ble_eq_true rfl) rfl ?_
      refine mG_if_neB dX8_read_52 (fun c52 => ?_) (fun c52 => ?_)
      · exact mG_vret dX8_read_139 rfl (mX_of rfl (by rw [hZ]; (first | (unfold rrF; rw [if_pos (Or.inl c45)]) | (unfold rrF; rw [if_pos (Or.inr c52)]))))
      · obtain ⟨⟨t, wr⟩, it, cb, db, bb, fg, dg⟩ := y
        have c52' : wr = false := c52
        subst c52'
        obtain ⟨hb1, hb2, hb3⟩ := id hB
        have hb1' : cb 1 ≤ 4 := hb1
        have hb2' : db 1 ≤ 6 := hb2
        have hb3' : bb 1 ≤ 1 := hb3
        have hsk : sOK ty t := hLO.1
        obtain ⟨hs1, hs2, hs3, hs4⟩ := id hsk
        have c45' : ¬ t.2.1 = 4 := c45
        have hlo := hLO.2.resolve_left (fun z => Bool.noConfusion z)
        have hl1 : s ≤ t.2.2.1 := hlo.1
        have hl2 : t.2.2.1 < t.1 ∧ t.2.2.1 < ty := hlo.2.2 c45
        dsimp only [hM]
        unfold rrF at hZ
        rw [if_neg (by intro z; rcases z with z | z; (exact c45 z); (exact Bool.noConfusion z))] at hZ
        refine mG_aload_n dX8_read_55 rfl ?_
        refine mG_get fX8_84 dX8_read_56 rfl (Nat.le_of_ble_eq_true rfl) rfl ?_
        refine mG_iconst (v := nI 1) dX8_read_59 (by decide) ?_
        refine mG_icmp_neN dX8_read_60 (by omega) (by omega) (fun c60 => ?_) (fun c60 => ?_)
        · refine mG_iconst (v := nI 0) dX8_read_70 (by decide) ?_
          refine mG_istore_n dX8_read_71 (Nat.le_of_ble_eq_true rfl) rfl rfl ?_
          refine mG_aload_n dX8_read_72 rfl ?_
          refine mG_aload_n dX8_read_73 rfl ?_
          refine mG_get fX8_84 dX8_read_74 rfl (Nat.le_of_ble_eq_true rfl) rfl ?_
          refine mG_iconst (v := nI 1) dX8_read_77 (by decide) ?_
          refine mG_icmp_neN dX8_read_78 (by omega) (by omega) (fun c78 => ?_) (fun c78 => ?_)
          · refine mG_iconst (v := mb false) dX8_read_93 (by decide) ?_
            refine mG_cw1 vX8_94 dX8_read_94 (mLe_of rfl) (Nat.le_of_ble_eq_true rfl) rfl (Nat.le_of_ble_eq_true rfl) (ok_X8_due rfl e41 hty hsk htx) ?_
            rw [hN_40]
            first
              | exact absurd c78 c60
              | exact absurd c60 c78
              | (rw [show duY tx ty false (t, false) = (t, true) from rfl]
                 have hmm : ¬ (t.2.1 = 1 ∧ mayY t.2.2.2 cb db bb = true) := (fun z => c78 z.1)
                 rw [rrS, if_neg hmm] at hZ
                 exact le_X8_readF (s := s + 1) hsk hB (by omega) hZ ih)
              | (rw [show duY tx ty false (t, false) = (t, true) from rfl]
                 have hmm : ¬ (t.2.1 = 1 ∧ mayY t.2.2.2 cb db bb = true) := (fun z => Bool.noConfusion (c86.symm.trans z.2))
                 rw [rrS, if_neg hmm] at hZ
                 exact le_X8_readF (s := s + 1) hsk hB (by omega) hZ ih)
              | (have hmm : t.2.1 = 1 ∧ mayY t.2.2.2 cb db bb = true := And.intro c78 c86
                 rw [show duY tx ty true (t, false) = (stT tx ty t.1, false) from rfl]
                 rw [rrS, if_pos hmm] at hZ
                 exact le_X8_readT (s := s + 1) e41 hty htx (stT_ok hty htx hs1).1 (LO_st hty htx hs1 (by omega)) (by omega) hB hmm.2 (by omega) hZ ih)
          · refine mG_aload_n dX8_read_81 rfl ?_
            refine mG_iload_n dX8_read_82 rfl ?_
            refine mG_cv1 vX8_109 dX8_read_83 (mLe_of rfl) (Nat.le_of_ble_eq_true rfl) rfl (Nat.le_of_ble_eq_true rfl) (ok_X8_may (by omega) (by omega) (by omega) (by omega)) ?_
            refine mG_if_eqB dX8_read_86 (fun c86 => ?_) (fun c86 => ?_)
            · refine mG_iconst (v := mb false) dX8_read_93 (by decide) ?_
              refine mG_cw1 vX8_94 dX8_read_94 (mLe_of rfl) (Nat.le_of_ble_eq_true rfl) rfl (Nat.le_of_ble_eq_true rfl) (ok_X8_due rfl e41 hty hsk htx) ?_
              rw [hN_40]
              first
                | exact absurd c78 c60
                | exact absurd c60 c78
                | (rw [show duY tx ty false (t, false) = (t, true) from rfl]
                   have hmm : ¬ (t.2.1 = 1 ∧ mayY t.2.2.2 cb db bb = true) := (fun z => c78 z.1)
                   rw [rrS, if_neg hmm] at hZ
                   exact le_X8_readF (s := s + 1) hsk hB (by omega) hZ ih)
                | (rw [show duY tx ty false (t, false) = (t, true) from rfl]
                   have hmm : ¬ (t.2.1 = 1 ∧ mayY t.2.2.2 cb db bb = true) := (fun z => Bool.noConfusion (c86.symm.trans z.2))
                   rw [rrS, if_neg hmm] at hZ
                   exact le_X8_readF (s := s + 1) hsk hB (by omega) hZ ih)
                | (have hmm : t.2.1 = 1 ∧ mayY t.2.2.2 cb db bb = true := And.intro c78 c86
                   rw [show duY tx ty true (t, false) = (stT tx ty t.1, false) from rfl]
                   rw [rrS, if_pos hmm] at hZ
                   exact le_X8_readT (s := s + 1) e41 hty htx (stT_ok hty htx hs1).1 (LO_st hty htx hs1 (by omega)) (by omega) hB hmm.2 (by omega) hZ ih)
            · refine mG_iconst (v := mb true) dX8_read_89 (by decide) ?_
              refine mG_goto dX8_read_90 ?_
              refine mG_cw1 vX8_94 dX8_read_94 (mLe_of rfl) (Nat.le_of_ble_eq_true rfl) rfl (Nat.le_of_ble_eq_true rfl) (ok_X8_due rfl e41 hty hsk htx) ?_
              rw [hN_40]
              first
                | exact absurd c78 c60
                | exact absurd c60 c78
                | (rw [show duY tx ty false (t, false) = (t, true) from rfl]
                   have hmm : ¬ (t.2.1 = 1 ∧ mayY t.2.2.2 cb db bb = true) := (fun z => c78 z.1)
                   rw [rrS, if_neg hmm] at hZ
                   exact le_X8_readF (s := s + 1) hsk hB (by omega) hZ ih)
                | (rw [show duY tx ty false (t, false) = (t, true) from rfl]
                   have hmm : ¬ (t.2.1 = 1 ∧ mayY t.2.2.2 cb db bb = true) := (fun z => Bool.noConfusion (c86.symm.trans z.2))
                   rw [rrS, if_neg hmm] at hZ
                   exact le_X8_readF (s := s + 1) hsk hB (by omega) hZ ih)
                | (have hmm : t.2.1 = 1 ∧ mayY t.2.2.2 cb db bb = true := And.intro c78 c86
                   rw [show duY tx ty true (t, false) = (stT tx ty t.1, false) from rfl]
                   rw [rrS, if_pos hmm] at hZ
                   exact le_X8_readT (s := s + 1) e41 hty htx (stT_ok hty htx hs1).1 (LO_st hty htx hs1 (by omega)) (by omega) hB hmm.2 (by omega) hZ ih)
        · refine mG_aload_n dX8_read_63 rfl ?_
          refine mG_get fX8_81 dX8_read_64 rfl (Nat.le_of_ble_eq_true rfl) rfl ?_
          refine mG_goto dX8_read_67 ?_
          refine mG_istore_n dX8_read_71 (Nat.le_of_ble_eq_true rfl) rfl rfl ?_
          refine mG_aload_n dX8_read_72 rfl ?_
          refine mG_aload_n dX8_read_73 rfl ?_
          refine mG_get fX8_84 dX8_read_74 rfl (Nat.le_of_ble_eq_true rfl) rfl ?_
          refine mG_iconst (v := nI 1) dX8_read_77 (by decide) ?_
          refine mG_icmp_neN dX8_read_78 (by omega) (by omega) (fun c78 => ?_) (fun c78 => ?_)
          · refine mG_iconst (v := mb false) dX8_read_93 (by decide) ?_
            refine mG_cw1 vX8_94 dX8_read_94 (mLe_of rfl) (Nat.le_of_ble_eq_true rfl) rfl (Nat.le_of_ble_eq_true rfl) (ok_X8_due rfl e41 hty hsk htx) ?_
            rw [hN_40]
            first
              | exact absurd c78 c60
              | exact absurd c60 c78
              | (rw [show duY tx ty false (t, false) = (t, true) from rfl]
                 have hmm : ¬ (t.2.1 = 1 ∧ mayY t.2.2.2 cb db bb = true) := (fun z => c78 z.1)
                 rw [rrS, if_neg hmm] at hZ
                 exact le_X8_readF (s := s + 1) hsk hB (by omega) hZ ih)
              | (rw [show duY tx ty false (t, false) = (t, true) from rfl]
                 have hmm : ¬ (t.2.1 = 1 ∧ mayY t.2.2.2 cb db bb = true) := (fun z => Bool.noConfusion (c86.symm.trans z.2))
                 rw [rrS, if_neg hmm] at hZ
                 exact le_X8_readF (s := s + 1) hsk hB (by omega) hZ ih)
              | (have hmm : t.2.1 = 1 ∧ mayY t.2.2.2 cb db bb = true := And.intro c78 c86
                 rw [show duY tx ty true (t, false) = (stT tx ty t.1, false) from rfl]
                 rw [rrS, if_pos hmm] at hZ
                 exact le_X8_readT (s := s + 1) e41 hty htx (stT_ok hty htx hs1).1 (LO_st hty htx hs1 (by omega)) (by omega) hB hmm.2 (by omega) hZ ih)
          · refine mG_aload_n dX8_read_81 rfl ?_
            refine mG_iload_n dX8_read_82 rfl ?_
            refine mG_cv1 vX8_109 dX8_read_83 (mLe_of rfl) (Nat.le_of_ble_eq_true rfl) rfl (Nat.le_of_ble_eq_true rfl) (ok_X8_may (by omega) (by omega) (by omega) (by omega)) ?_
            refine mG_if_eqB dX8_read_86 (fun c86 => ?_) (fun c86 => ?_)
            · refine mG_iconst (v := mb false) dX8_read_93 (by decide) ?_
              refine mG_cw1 vX8_94 dX8_read_94 (mLe_of rfl) (Nat.le_of_ble_eq_true rfl) rfl (Nat.le_of_ble_eq_true rfl) (ok_X8_due rfl e41 hty hsk htx) ?_
              rw [hN_40]
              first
                | exact absurd c78 c60
                | exact absurd c60 c78
                | (rw [show duY tx ty false (t, false) = (t, true) from rfl]
                   have hmm : ¬ (t.2.1 = 1 ∧ mayY t.2.2.2 cb db bb = true) := (fun z => c78 z.1)
                   rw [rrS, if_neg hmm] at hZ
                   exact le_X8_readF (s := s + 1) hsk hB (by omega) hZ ih)
                | (rw [show duY tx ty false (t, false) = (t, true) from rfl]
                   have hmm : ¬ (t.2.1 = 1 ∧ mayY t.2.2.2 cb db bb = true) := (fun z => Bool.noConfusion (c86.symm.trans z.2))
                   rw [rrS, if_neg hmm] at hZ
                   exact le_X8_readF (s := s + 1) hsk hB (by omega) hZ ih)
                | (have hmm : t.2.1 = 1 ∧ mayY t.2.2.2 cb db bb = true := And.intro c78 c86
                   rw [show duY tx ty true (t, false) = (stT tx ty t.1, false) from rfl]
                   rw [rrS, if_pos hmm] at hZ
                   exact le_X8_readT (s := s + 1) e41 hty htx (stT_ok hty htx hs1).1 (LO_st hty htx hs1 (by omega)) (by omega) hB hmm.2 (by omega) hZ ih)
            · refine mG_iconst (v := mb true) dX8_read_89 (by decide) ?_
              refine mG_goto dX8_read_90 ?_
              refine mG_cw1 vX8_94 dX8_read_94 (mLe_of rfl) (Nat.le_of_ble_eq_true rfl) rfl (Nat.le_of_ble_eq_true rfl) (ok_X8_due rfl e41 hty hsk htx) ?_
              rw [hN_40]
              first
                | exact absurd c78 c60
                | exact absurd c60 c78
                | (rw [show duY tx ty false (t, false) = (t, true) from rfl]
                   have hmm : ¬ (t.2.1 = 1 ∧ mayY t.2.2.2 cb db bb = true) := (fun z => c78 z.1)
                   rw [rrS, if_neg hmm] at hZ
                   exact le_X8_readF (s := s + 1) hsk hB (by omega) hZ ih)
                | (rw [show duY tx ty false (t, false) = (t, true) from rfl]
                   have hmm : ¬ (t.2.1 = 1 ∧ mayY t.2.2.2 cb db bb = true) := (fun z => Bool.noConfusion (c86.symm.trans z.2))
                   rw [rrS, if_neg hmm] at hZ
                   exact le_X8_readF (s := s + 1) hsk hB (by omega) hZ ih)
                | (have hmm : t.2.1 = 1 ∧ mayY t.2.2.2 cb db bb = true := And.intro c78 c86
                   rw [show duY tx ty true (t, false) = (stT tx ty t.1, false) from rfl]
                   rw [rrS, if_pos hmm] at hZ
                   exact le_X8_readT (s := s + 1) e41 hty htx (stT_ok hty htx hs1).1 (LO_st hty htx hs1 (by omega)) (by omega) hB hmm.2 (by omega) hZ ih)
def rrZ (tx : Nat → Nat) (n : Nat) (cb db bb fg dg : Nat → Nat) : mRx := rrF tx n n ((stT tx n 0, false), 0, mUp cb 1 0, mUp db 1 0, mUp bb 1 0, fg, dg)
set_option maxRecDepth 100000 in
set_option maxHeartbeats 4000000 in
theorem ok_X8_read {E : mE} {h : mH} {ty mo fa it : Nat} {t : mTk} {tr : Int64} {wr : Bool} {tx cb db bb fg dg : Nat → Nat} (e41 : h 41 = mBy tx) (hty : ty ≤ 100) (htx : ∀ j, j < ty → tx j < 256) : mOk E 6 zX8_read [.ref 40] (hN h ty t wr it mo fa tr cb db bb fg dg) (mX none (hM h ty mo fa tr (rrZ tx ty cb db bb fg dg))) := by
  refine mOk_w (L := [some (.ref 40), none]) pn_X8 rfl (Nat.le_of_ble_eq_true rfl) rfl ?_
  refine mG_aload_n dX8_read_0 rfl ?_
  refine mG_iconst (v := nI 0) dX8_read_1 (by decide) ?_
  refine mG_putI pX8_71 dX8_read_2 rfl (Nat.le_of_ble_eq_true rfl) (Nat.le_of_ble_eq_true rfl) ?_
  refine mG_aload_n dX8_read_5 rfl ?_
  refine mG_iconst (v := mb false) dX8_read_6 (by decide) ?_
  refine mG_putZ pX8_87 dX8_read_7 rfl (Nat.le_of_ble_eq_true rfl) (Nat.le_of_ble_eq_true rfl) ?_
  refine mG_aload_n dX8_read_10 rfl ?_
  refine mG_iconst (v := nI 0) dX8_read_11 (by decide) ?_
  refine mG_putI pX8_106 dX8_read_12 rfl (Nat.le_of_ble_eq_true rfl) (Nat.le_of_ble_eq_true rfl) ?_
  simp only [mU_same]
  refine mG_heap (hN_40 h ty t wr it mo fa tr cb db bb fg dg (0, t.2) false 0) ?_
  refine mG_aload_n dX8_read_15 rfl ?_
  refine mG_get fX8_13 dX8_read_16 rfl (Nat.le_of_ble_eq_true rfl) rfl ?_
  refine mG_iconst (v := nI 1) dX8_read_19 (by decide) ?_
  refine mG_iconst (v := nI 0) dX8_read_20 (by decide) ?_
  refine mG_iastA dX8_read_21 rfl (Nat.le_of_ble_eq_true rfl) (by decide) (by omega) ?_
  rw [hN_42]
  refine mG_aload_n dX8_read_22 rfl ?_
  refine mG_get fX8_17 dX8_read_23 rfl (Nat.le_of_ble_eq_true rfl) rfl ?_
  refine mG_iconst (v := nI 1) dX8_read_26 (by decide) ?_
  refine mG_iconst (v := nI 0) dX8_read_27 (by decide) ?_
  refine mG_iastA dX8_read_28 rfl (Nat.le_of_ble_eq_true rfl) (by decide) (by omega) ?_
  rw [hN_43]
  refine mG_aload_n dX8_read_29 rfl ?_
  refine mG_get fX8_20 dX8_read_30 rfl (Nat.le_of_ble_eq_true rfl) rfl ?_
  refine mG_iconst (v := nI 1) dX8_read_33 (by decide) ?_
  refine mG_iconst (v := nI 0) dX8_read_34 (by decide) ?_
  refine mG_iastA dX8_read_35 rfl (Nat.le_of_ble_eq_true rfl) (by decide) (by omega) ?_
  rw [hN_44]
  refine mG_aload_n dX8_read_36 rfl ?_
  refine mG_cw0 vX8_91 dX8_read_37 (mLe_of rfl) (Nat.le_of_ble_eq_true rfl) rfl (Nat.le_of_ble_eq_true rfl) (ok_X8_step rfl e41 hty (Nat.zero_le _) htx) ?_
  rw [hN_40]
  exact lp_X8_read e41 hty htx ty none 0 ((stT tx ty 0, false), 0, mUp cb 1 0, mUp db 1 0, mUp bb 1 0, fg, dg) (LO_st hty htx (Nat.zero_le _) (Nat.le_refl _)) ⟨Nat.le_trans (Nat.le_of_eq (mUp_eq cb 1 0)) (Nat.zero_le _), Nat.le_trans (Nat.le_of_eq (mUp_eq db 1 0)) (Nat.zero_le _), Nat.le_trans (Nat.le_of_eq (mUp_eq bb 1 0)) (Nat.zero_le _)⟩ (by omega) rfl
