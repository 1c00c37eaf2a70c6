-- needs: 33 34 35 36 37 38 39 40 41
/-! the reference: public methods, second half -/
set_option maxRecDepth 100000 in
set_option maxHeartbeats 4000000 in
theorem rp_number_bad {E : mE} {h : mH} {n : Nat} {tx cb db bb dg nw kn bf sr : Nat → Nat} {ik : Nat → Bool} {mo : Nat} {od : Nat → Nat} {fa : Nat} {fo fi : Nat → Nat} {tr : Int64} {c wh : Int32} (H : rI h n tx cb db bb dg nw kn bf sr ik mo od fa fo fi tr) (F : rF n tx cb db bb dg nw kn mo od fa fo fi) (hb : isIx c (10 ^ cb 0) = false) : mOk E 5 zX8_number [.ref 40, .int c, .int wh] h (rQ h (.int (-1)) (rI · n tx cb db bb dg nw kn bf sr ik mo od fa fo fi tr)) := by
  obtain ⟨t, wr, it, fg, ls, e40, e41, e42, e43, e44, e45, e46, e47, e48, e49, e50, e51, e52, e53, e54, e55⟩ := id H
  obtain ⟨hn, htx, hcb, hdb, hbb, ho, hnf, hca4, hca, hfr, hwk, hdg, hkn, hfa, hfo, hfi⟩ := id F
  refine mOk_w (L := [some (.ref 40), some (.int c), some (.int wh)]) pn_X8 rfl (Nat.le_of_ble_eq_true rfl) rfl ?_
  refine mG_aload_n dX8_number_0 rfl ?_
  refine mG_iload_n dX8_number_1 rfl ?_
  refine mG_cv1 vX8_203 dX8_number_2 (mLe_of rfl) (Nat.le_of_ble_eq_true rfl) e40 (Nat.le_of_ble_eq_true rfl) (ok_X8_isNumber e40 e42 hcb) ?_
  refine mG_if_neB dX8_number_5 (fun c5 => Bool.noConfusion (c5.symm.trans hb)) (fun c5 => ?_)
  refine mG_iconst (v := (-1)) dX8_number_8 (by decide) ?_
  exact mG_iret dX8_number_9 rfl ⟨rfl, H, fun _ _ => rfl⟩
set_option maxRecDepth 100000 in
set_option maxHeartbeats 4000000 in
theorem rp_number_no {E : mE} {h : mH} {n : Nat} {tx cb db bb dg nw kn bf sr : Nat → Nat} {ik : Nat → Bool} {mo : Nat} {od : Nat → Nat} {fa : Nat} {fo fi : Nat → Nat} {tr : Int64} {j : Nat} {wh : Int32} (H : rI h n tx cb db bb dg nw kn bf sr ik mo od fa fo fi tr) (F : rF n tx cb db bb dg nw kn mo od fa fo fi) (hj : j < 10 ^ cb 0) (hb : isIx wh 4 = false) : mOk E 5 zX8_number [.ref 40, vN j, .int wh] h (rQ h (.int (-1)) (rI · n tx cb db bb dg nw kn bf sr ik mo od fa fo fi tr)) := by
  obtain ⟨t, wr, it, fg, ls, e40, e41, e42, e43, e44, e45, e46, e47, e48, e49, e50, e51, e52, e53, e54, e55⟩ := id H
  obtain ⟨hn, htx, hcb, hdb, hbb, ho, hnf, hca4, hca, hfr, hwk, hdg, hkn, hfa, hfo, hfi⟩ := id F
  have h10 := ten_le hcb
  have qn := isIx_nI (show 10 ^ cb 0 < 2 ^ 31 by omega) hj
  refine mOk_w (L := [some (.ref 40), some (vN j), some (.int wh)]) pn_X8 rfl (Nat.le_of_ble_eq_true rfl) rfl ?_
  refine mG_aload_n dX8_number_0 rfl ?_
  refine mG_iload_n dX8_number_1 rfl ?_
  refine mG_cv1 vX8_203 dX8_number_2 (mLe_of rfl) (Nat.le_of_ble_eq_true rfl) e40 (Nat.le_of_ble_eq_true rfl) (ok_X8_isNumber e40 e42 hcb) ?_
  refine mG_if_neB dX8_number_5 (fun c5 => ?_) (fun c5 => Bool.noConfusion (c5.symm.trans qn))
  refine mG_iload_n dX8_number_10 rfl ?_
  refine mG_tableOut (tgt := 84) dX8_number_11 (by have := ix_out (by decide) hb; omega) (by decide) ?_
  refine mG_iconst (v := (-1)) dX8_number_84 (by decide) ?_
  exact mG_iret dX8_number_85 rfl ⟨rfl, H, fun _ _ => rfl⟩
set_option maxRecDepth 100000 in
set_option maxHeartbeats 4000000 in
theorem rp_number_0 {E : mE} {h : mH} {n : Nat} {tx cb db bb dg nw kn bf sr : Nat → Nat} {ik : Nat → Bool} {mo : Nat} {od : Nat → Nat} {fa : Nat} {fo fi : Nat → Nat} {tr : Int64} {j : Nat} (H : rI h n tx cb db bb dg nw kn bf sr ik mo od fa fo fi tr) (F : rF n tx cb db bb dg nw kn mo od fa fo fi) (hj : j < 10 ^ cb 0) : mOk E 5 zX8_number [.ref 40, vN j, vN 0] h (rQ h (vN (alB (fun p => fit (decide (bb 0 = 1)) (nw (6 * nw (24 + p) + nw (28 + nw (24 + p)))) (fgo (cb 0) j p)) (cb 0)).toNat) (rI · n tx cb db bb dg nw kn bf sr ik mo od fa fo fi tr)) := by
  obtain ⟨t, wr, it, fg, ls, e40, e41, e42, e43, e44, e45, e46, e47, e48, e49, e50, e51, e52, e53, e54, e55⟩ := id H
  obtain ⟨hn, htx, hcb, hdb, hbb, ho, hnf, hca4, hca, hfr, hwk, hdg, hkn, hfa, hfo, hfi⟩ := id F
  have h10 := ten_le hcb
  have qn := isIx_nI (show 10 ^ cb 0 < 2 ^ 31 by omega) hj
  refine mOk_w (L := [some (.ref 40), some (vN j), some (vN 0)]) pn_X8 rfl (Nat.le_of_ble_eq_true rfl) rfl ?_
  refine mG_aload_n dX8_number_0 rfl ?_
  refine mG_iload_n dX8_number_1 rfl ?_
  refine mG_cv1 vX8_203 dX8_number_2 (mLe_of rfl) (Nat.le_of_ble_eq_true rfl) e40 (Nat.le_of_ble_eq_true rfl) (ok_X8_isNumber e40 e42 hcb) ?_
  refine mG_if_neB dX8_number_5 (fun c5 => ?_) (fun c5 => Bool.noConfusion (c5.symm.trans qn))
  refine mG_iload_n dX8_number_10 rfl ?_
  refine mG_tableIn (off := 29) (tgt := 40) dX8_number_11 (by decide) (by decide) (by decide) (by decide) ?_
  refine mG_aload_n dX8_number_40 rfl ?_
  refine mG_iload_n dX8_number_41 rfl ?_
  refine mG_cv1 vX8_206 dX8_number_42 (mLe_of rfl) (Nat.le_of_ble_eq_true rfl) e40 (Nat.le_of_ble_eq_true rfl) (ok_X8_isTold e40 e42 hcb e44 hbb e47 hnf hca hfr (by omega)) ?_
  refine mG_if_eqB dX8_number_45 (fun c45 => ?_) (fun c45 => ?_)
  · refine mG_iconst (v := nI 0) dX8_number_52 (by decide) ?_
    exact mG_iret dX8_number_53 rfl ⟨by rw [c45]; rfl, H, fun _ _ => rfl⟩
  · refine mG_iconst (v := nI 1) dX8_number_48 (by decide) ?_
    refine mG_goto dX8_number_49 ?_
    exact mG_iret dX8_number_53 rfl ⟨by rw [c45]; rfl, H, fun _ _ => rfl⟩
set_option maxRecDepth 100000 in
set_option maxHeartbeats 4000000 in
theorem rp_number_1 {E : mE} {h : mH} {n : Nat} {tx cb db bb dg nw kn bf sr : Nat → Nat} {ik : Nat → Bool} {mo : Nat} {od : Nat → Nat} {fa : Nat} {fo fi : Nat → Nat} {tr : Int64} {j : Nat} (H : rI h n tx cb db bb dg nw kn bf sr ik mo od fa fo fi tr) (F : rF n tx cb db bb dg nw kn mo od fa fo fi) (hj : j < 10 ^ cb 0) : mOk E 5 zX8_number [.ref 40, vN j, vN 1] h (rQ h (vN (canR nw (decide (bb 0 = 1)) (cb 0) mo od j 0 6).toNat) (rI · n tx cb db bb dg nw kn bf sr ik mo od fa fo fi tr)) := by
  obtain ⟨t, wr, it, fg, ls, e40, e41, e42, e43, e44, e45, e46, e47, e48, e49, e50, e51, e52, e53, e54, e55⟩ := id H
  obtain ⟨hn, htx, hcb, hdb, hbb, ho, hnf, hca4, hca, hfr, hwk, hdg, hkn, hfa, hfo, hfi⟩ := id F
  have h10 := ten_le hcb
  have qn := isIx_nI (show 10 ^ cb 0 < 2 ^ 31 by omega) hj
  refine mOk_w (L := [some (.ref 40), some (vN j), some (vN 1)]) pn_X8 rfl (Nat.le_of_ble_eq_true rfl) rfl ?_
  refine mG_aload_n dX8_number_0 rfl ?_
  refine mG_iload_n dX8_number_1 rfl ?_
  refine mG_cv1 vX8_203 dX8_number_2 (mLe_of rfl) (Nat.le_of_ble_eq_true rfl) e40 (Nat.le_of_ble_eq_true rfl) (ok_X8_isNumber e40 e42 hcb) ?_
  refine mG_if_neB dX8_number_5 (fun c5 => ?_) (fun c5 => Bool.noConfusion (c5.symm.trans qn))
  refine mG_iload_n dX8_number_10 rfl ?_
  refine mG_tableIn (off := 43) (tgt := 54) dX8_number_11 (by decide) (by decide) (by decide) (by decide) ?_
  refine mG_aload_n dX8_number_54 rfl ?_
  refine mG_iload_n dX8_number_55 rfl ?_
  refine mG_iconst (v := nI 0) dX8_number_56 (by decide) ?_
  refine mG_bipush (v := nI 6) dX8_number_57 (by decide) ?_
  refine mG_cv3 vX8_139 dX8_number_59 (mLe_of rfl) (Nat.le_of_ble_eq_true rfl) e40 (Nat.le_of_ble_eq_true rfl) (ok_X8_can e40 e42 hcb e44 hbb e47 e53 ho hnf (by omega) (by decide) (by decide)) ?_
  refine mG_if_eqB dX8_number_62 (fun c62 => ?_) (fun c62 => ?_)
  · refine mG_iconst (v := nI 0) dX8_number_69 (by decide) ?_
    exact mG_iret dX8_number_70 rfl ⟨by rw [c62]; rfl, H, fun _ _ => rfl⟩
  · refine mG_iconst (v := nI 1) dX8_number_65 (by decide) ?_
    refine mG_goto dX8_number_66 ?_
    exact mG_iret dX8_number_70 rfl ⟨by rw [c62]; rfl, H, fun _ _ => rfl⟩
set_option maxRecDepth 100000 in
set_option maxHeartbeats 4000000 in
theorem rp_number_3 {E : mE} {h : mH} {n : Nat} {tx cb db bb dg nw kn bf sr : Nat → Nat} {ik : Nat → Bool} {mo : Nat} {od : Nat → Nat} {fa : Nat} {fo fi : Nat → Nat} {tr : Int64} {j : Nat} (H : rI h n tx cb db bb dg nw kn bf sr ik mo od fa fo fi tr) (F : rF n tx cb db bb dg nw kn mo od fa fo fi) (hj : j < 10 ^ cb 0) : mOk E 5 zX8_number [.ref 40, vN j, vN 3] h (rQ h (vN (ptR nw (decide (bb 0 = 1)) (cb 0) mo od j)) (rI · n tx cb db bb dg nw kn bf sr ik mo od fa fo fi tr)) := by
  obtain ⟨t, wr, it, fg, ls, e40, e41, e42, e43, e44, e45, e46, e47, e48, e49, e50, e51, e52, e53, e54, e55⟩ := id H
  obtain ⟨hn, htx, hcb, hdb, hbb, ho, hnf, hca4, hca, hfr, hwk, hdg, hkn, hfa, hfo, hfi⟩ := id F
  have h10 := ten_le hcb
  have qn := isIx_nI (show 10 ^ cb 0 < 2 ^ 31 by omega) hj
  refine mOk_w (L := [some (.ref 40), some (vN j), some (vN 3)]) pn_X8 rfl (Nat.le_of_ble_eq_true rfl) rfl ?_
  refine mG_aload_n dX8_number_0 rfl ?_
  refine mG_iload_n dX8_number_1 rfl ?_
  refine mG_cv1 vX8_203 dX8_number_2 (mLe_of rfl) (Nat.le_of_ble_eq_true rfl) e40 (Nat.le_of_ble_eq_true rfl) (ok_X8_isNumber e40 e42 hcb) ?_
  refine mG_if_neB dX8_number_5 (fun c5 => ?_) (fun c5 => Bool.noConfusion (c5.symm.trans qn))
  refine mG_iload_n dX8_number_10 rfl ?_
  refine mG_tableIn (off := 67) (tgt := 78) dX8_number_11 (by decide) (by decide) (by decide) (by decide) ?_
  refine mG_aload_n dX8_number_78 rfl ?_
  refine mG_iload_n dX8_number_79 rfl ?_
  refine mG_cv1 vX8_212 dX8_number_80 (mLe_of rfl) (Nat.le_of_ble_eq_true rfl) e40 (Nat.le_of_ble_eq_true rfl) (ok_X8_pastesFor e40 e42 hcb e44 hbb e47 e53 ho hnf (by omega)) ?_
  exact mG_iret dX8_number_83 rfl ⟨rfl, H, fun _ _ => rfl⟩
/-- the least work, as the reference reckons it -/
def wkR (nw : Nat → Nat) (bo : Bool) (cu mo my fm : Nat) (od ls : Nat → Nat) : Int32 := wfR (tt0 (ttT nw bo cu fm my) cu ls) cu mo my (onF (fun p => nw (24 + p)) cu) od
def rQw (h : mH) (nw : Nat → Nat) (bo : Bool) (cu mo my fm : Nat) (od : Nat → Nat) (C : mH → Prop) : Option Value → mH → Prop := fun r h' => (∃ ls, r = some (.int (wkR nw bo cu mo my fm od ls))) ∧ C h' ∧ ∀ b, b < 40 → h' b = h b
set_option maxRecDepth 100000 in
set_option maxHeartbeats 4000000 in
theorem rp_number_2 {E : mE} {h : mH} {n : Nat} {tx cb db bb dg nw kn bf sr : Nat → Nat} {ik : Nat → Bool} {mo : Nat} {od : Nat → Nat} {fa : Nat} {fo fi : Nat → Nat} {tr : Int64} {j : Nat} (H : rI h n tx cb db bb dg nw kn bf sr ik mo od fa fo fi tr) (F : rF n tx cb db bb dg nw kn mo od fa fo fi) (hj : j < 10 ^ cb 0) : mOk E 5 zX8_number [.ref 40, vN j, vN 2] h (rQw h nw (decide (bb 0 = 1)) (cb 0) mo 1 j od (rI · n tx cb db bb dg nw kn bf sr ik mo od fa fo fi tr)) := by
  obtain ⟨t, wr, it, fg, ls, e40, e41, e42, e43, e44, e45, e46, e47, e48, e49, e50, e51, e52, e53, e54, e55⟩ := id H
  obtain ⟨hn, htx, hcb, hdb, hbb, ho, hnf, hca4, hca, hfr, hwk, hdg, hkn, hfa, hfo, hfi⟩ := id F
  have h10 := ten_le hcb
  have qn := isIx_nI (show 10 ^ cb 0 < 2 ^ 31 by omega) hj
  refine mOk_w (L := [some (.ref 40), some (vN j), some (vN 2)]) pn_X8 rfl (Nat.le_of_ble_eq_true rfl) rfl ?_
  refine mG_aload_n dX8_number_0 rfl ?_
  refine mG_iload_n dX8_number_1 rfl ?_
  refine mG_cv1 vX8_203 dX8_number_2 (mLe_of rfl) (Nat.le_of_ble_eq_true rfl) e40 (Nat.le_of_ble_eq_true rfl) (ok_X8_isNumber e40 e42 hcb) ?_
  refine mG_if_neB dX8_number_5 (fun c5 => ?_) (fun c5 => Bool.noConfusion (c5.symm.trans qn))
  refine mG_iload_n dX8_number_10 rfl ?_
  refine mG_tableIn (off := 60) (tgt := 71) dX8_number_11 (by decide) (by decide) (by decide) (by decide) ?_
  refine mG_aload_n dX8_number_71 rfl ?_
  refine mG_iload_n dX8_number_72 rfl ?_
  refine mG_iconst (v := nI 1) dX8_number_73 (by decide) ?_
  refine mG_cv2 vX8_209 dX8_number_74 (mLe_of rfl) (Nat.le_of_ble_eq_true rfl) e40 (Nat.le_of_ble_eq_true rfl) (ok_X8_workFor e40 e42 hcb e44 hbb e47 e52 e53 ho (by omega) (by omega) hnf hca4 hfr) ?_
  exact mG_iret dX8_number_77 rfl ⟨⟨ls, rfl⟩, ⟨t, wr, it, fg, _, e40, e41, e42, e43, e44, e45, e46, e47, e48, e49, e50, e51, rfl, e53, e54, e55⟩, fun b hb => by simp only [mU, show ¬ b = 52 from by omega, if_false]⟩
theorem in13 {m : Int32} : inI m (nI 1) (nI 3) = false ↔ m < nI 1 ∨ nI 3 < m := by
  unfold inI
  rw [decide_eq_false_iff_not, Classical.not_and_iff_not_or_not, Int32.not_le, Int32.not_le]
theorem in_lu {m : Int32} {l u : Nat} : inI m (nI l) (nI u) = false ↔ m < nI l ∨ nI u < m := by
  unfold inI
  rw [decide_eq_false_iff_not, Classical.not_and_iff_not_or_not, Int32.not_le, Int32.not_le]
set_option maxRecDepth 100000 in
set_option maxHeartbeats 4000000 in
theorem rp_through_bad {E : mE} {h : mH} {n : Nat} {tx cb db bb dg nw kn bf sr : Nat → Nat} {ik : Nat → Bool} {mo : Nat} {od : Nat → Nat} {fa : Nat} {fo fi : Nat → Nat} {tr : Int64} {c m : Int32} (H : rI h n tx cb db bb dg nw kn bf sr ik mo od fa fo fi tr) (F : rF n tx cb db bb dg nw kn mo od fa fo fi) (hb : isIx c (10 ^ cb 0) = false ∨ m < nI 1 ∨ nI 3 < m) : mOk E 5 zX8_through [.ref 40, .int c, .int m] h (rQ h (.int (-1)) (rI · n tx cb db bb dg nw kn bf sr ik mo od fa fo fi tr)) := by
  obtain ⟨t, wr, it, fg, ls, e40, e41, e42, e43, e44, e45, e46, e47, e48, e49, e50, e51, e52, e53, e54, e55⟩ := id H
  obtain ⟨hn, htx, hcb, hdb, hbb, ho, hnf, hca4, hca, hfr, hwk, hdg, hkn, hfa, hfo, hfi⟩ := id F
  refine mOk_w (L := [some (.ref 40), some (.int c), some (.int m)]) pn_X8 rfl (Nat.le_of_ble_eq_true rfl) rfl ?_
  refine mG_aload_n dX8_through_0 rfl ?_
  refine mG_iload_n dX8_through_1 rfl ?_
  refine mG_cv1 vX8_203 dX8_through_2 (mLe_of rfl) (Nat.le_of_ble_eq_true rfl) e40 (Nat.le_of_ble_eq_true rfl) (ok_X8_isNumber e40 e42 hcb) ?_
  refine mG_if_eqB dX8_through_5 (fun c5 => ?_) (fun c5 => ?_)
  · refine mG_iconst (v := (-1)) dX8_through_17 (by decide) ?_
    exact mG_iret dX8_through_18 rfl ⟨rfl, H, fun _ _ => rfl⟩
  · refine mG_iload_n dX8_through_8 rfl ?_
    refine mG_iconst (v := nI 1) dX8_through_9 (by decide) ?_
    refine mG_iconst (v := nI 3) dX8_through_10 (by decide) ?_
    refine mG_cs3 sX8_63 dX8_through_11 (mLe_of rfl) (Nat.le_of_ble_eq_true rfl) (ok_X8_in) ?_
    refine mG_if_neB dX8_through_14 (fun c14 => by (rcases hb with q | q; (exact Bool.noConfusion (c5.symm.trans q)); (exact Bool.noConfusion (c14.symm.trans (in_lu.mpr q))))) (fun c14 => ?_)
    refine mG_iconst (v := (-1)) dX8_through_17 (by decide) ?_
    exact mG_iret dX8_through_18 rfl ⟨rfl, H, fun _ _ => rfl⟩
set_option maxRecDepth 100000 in
set_option maxHeartbeats 4000000 in
theorem rp_through_none {E : mE} {h : mH} {n : Nat} {tx cb db bb dg nw kn bf sr : Nat → Nat} {ik : Nat → Bool} {mo : Nat} {od : Nat → Nat} {fa : Nat} {fo fi : Nat → Nat} {tr : Int64} {j k : Nat} (H : rI h n tx cb db bb dg nw kn bf sr ik mo od fa fo fi tr) (F : rF n tx cb db bb dg nw kn mo od fa fo fi) (hj : j < 10 ^ cb 0) (hk1 : 1 ≤ k) (hk3 : k ≤ 3) (hn1 : ¬ j + k - 1 < 10 ^ cb 0) : mOk E 5 zX8_through [.ref 40, vN j, vN k] h (rQ h (.int (-9)) (rI · n tx cb db bb dg nw kn bf sr ik mo od fa fo fi tr)) := by
  obtain ⟨t, wr, it, fg, ls, e40, e41, e42, e43, e44, e45, e46, e47, e48, e49, e50, e51, e52, e53, e54, e55⟩ := id H
  obtain ⟨hn, htx, hcb, hdb, hbb, ho, hnf, hca4, hca, hfr, hwk, hdg, hkn, hfa, hfo, hfi⟩ := id F
  have h10 := ten_le hcb
  have qn := isIx_nI (show 10 ^ cb 0 < 2 ^ 31 by omega) hj
  have qk : inI (nI k) (nI 1) (nI 3) = true := by rw [inI_N (by omega) (by decide) (by decide)]; exact decide_eq_true ⟨hk1, hk3⟩
  have qm : isIx (nI (j + k - 1)) (10 ^ cb 0) = false := by unfold isIx; refine decide_eq_false ?_; intro z; exact z.2 ((nI_leI (by omega) (by omega)).mpr (by omega))
  refine mOk_w (L := [some (.ref 40), some (vN j), some (vN k)]) pn_X8 rfl (Nat.le_of_ble_eq_true rfl) rfl ?_
  refine mG_aload_n dX8_through_0 rfl ?_
  refine mG_iload_n dX8_through_1 rfl ?_
  refine mG_cv1 vX8_203 dX8_through_2 (mLe_of rfl) (Nat.le_of_ble_eq_true rfl) e40 (Nat.le_of_ble_eq_true rfl) (ok_X8_isNumber e40 e42 hcb) ?_
  refine mG_if_eqB dX8_through_5 (fun c5 => Bool.noConfusion (c5.symm.trans qn)) (fun c5 => ?_)
  refine mG_iload_n dX8_through_8 rfl ?_
  refine mG_iconst (v := nI 1) dX8_through_9 (by decide) ?_
  refine mG_iconst (v := nI 3) dX8_through_10 (by decide) ?_
  refine mG_cs3 sX8_63 dX8_through_11 (mLe_of rfl) (Nat.le_of_ble_eq_true rfl) (ok_X8_in) ?_
  refine mG_if_neB dX8_through_14 (fun c14 => ?_) (fun c14 => Bool.noConfusion (c14.symm.trans qk))
  refine mG_aload_n dX8_through_19 rfl ?_
  refine mG_iload_n dX8_through_20 rfl ?_
  refine mG_iload_n dX8_through_21 rfl ?_
  refine mG_iaddN dX8_through_22 ?_
  refine mG_iconst (v := nI 1) dX8_through_23 (by decide) ?_
  refine mG_isubN dX8_through_24 (by omega) ?_
  refine mG_cv1 vX8_203 dX8_through_25 (mLe_of rfl) (Nat.le_of_ble_eq_true rfl) e40 (Nat.le_of_ble_eq_true rfl) (ok_X8_isNumber e40 e42 hcb) ?_
  refine mG_if_eqB dX8_through_28 (fun c28 => ?_) (fun c28 => Bool.noConfusion (c28.symm.trans qm))
  refine mG_bipush (v := (-9)) dX8_through_40 (by decide) ?_
  exact mG_iret dX8_through_42 rfl ⟨rfl, H, fun _ _ => rfl⟩
set_option maxRecDepth 100000 in
set_option maxHeartbeats 4000000 in
theorem rp_through_ok {E : mE} {h : mH} {n : Nat} {tx cb db bb dg nw kn bf sr : Nat → Nat} {ik : Nat → Bool} {mo : Nat} {od : Nat → Nat} {fa : Nat} {fo fi : Nat → Nat} {tr : Int64} {j k : Nat} (H : rI h n tx cb db bb dg nw kn bf sr ik mo od fa fo fi tr) (F : rF n tx cb db bb dg nw kn mo od fa fo fi) (hj : j < 10 ^ cb 0) (hk1 : 1 ≤ k) (hk3 : k ≤ 3) (hn1 : j + k - 1 < 10 ^ cb 0) : mOk E 5 zX8_through [.ref 40, vN j, vN k] h (rQw h nw (decide (bb 0 = 1)) (cb 0) mo k j od (rI · n tx cb db bb dg nw kn bf sr ik mo od fa fo fi tr)) := by
  obtain ⟨t, wr, it, fg, ls, e40, e41, e42, e43, e44, e45, e46, e47, e48, e49, e50, e51, e52, e53, e54, e55⟩ := id H
  obtain ⟨hn, htx, hcb, hdb, hbb, ho, hnf, hca4, hca, hfr, hwk, hdg, hkn, hfa, hfo, hfi⟩ := id F
  have h10 := ten_le hcb
  have qn := isIx_nI (show 10 ^ cb 0 < 2 ^ 31 by omega) hj
  have qk : inI (nI k) (nI 1) (nI 3) = true := by rw [inI_N (by omega) (by decide) (by decide)]; exact decide_eq_true ⟨hk1, hk3⟩
  have qm := isIx_nI (show 10 ^ cb 0 < 2 ^ 31 by omega) hn1
  refine mOk_w (L := [some (.ref 40), some (vN j), some (vN k)]) pn_X8 rfl (Nat.le_of_ble_eq_true rfl) rfl ?_
  refine mG_aload_n dX8_through_0 rfl ?_
  refine mG_iload_n dX8_through_1 rfl ?_
  refine mG_cv1 vX8_203 dX8_through_2 (mLe_of rfl) (Nat.le_of_ble_eq_true rfl) e40 (Nat.le_of_ble_eq_true rfl) (ok_X8_isNumber e40 e42 hcb) ?_
  refine mG_if_eqB dX8_through_5 (fun c5 => Bool.noConfusion (c5.symm.trans qn)) (fun c5 => ?_)
  refine mG_iload_n dX8_through_8 rfl ?_
  refine mG_iconst (v := nI 1) dX8_through_9 (by decide) ?_
  refine mG_iconst (v := nI 3) dX8_through_10 (by decide) ?_
  refine mG_cs3 sX8_63 dX8_through_11 (mLe_of rfl) (Nat.le_of_ble_eq_true rfl) (ok_X8_in) ?_
  refine mG_if_neB dX8_through_14 (fun c14 => ?_) (fun c14 => Bool.noConfusion (c14.symm.trans qk))
  refine mG_aload_n dX8_through_19 rfl ?_
  refine mG_iload_n dX8_through_20 rfl ?_
  refine mG_iload_n dX8_through_21 rfl ?_
  refine mG_iaddN dX8_through_22 ?_
  refine mG_iconst (v := nI 1) dX8_through_23 (by decide) ?_
  refine mG_isubN dX8_through_24 (by omega) ?_
  refine mG_cv1 vX8_203 dX8_through_25 (mLe_of rfl) (Nat.le_of_ble_eq_true rfl) e40 (Nat.le_of_ble_eq_true rfl) (ok_X8_isNumber e40 e42 hcb) ?_
  refine mG_if_eqB dX8_through_28 (fun c28 => Bool.noConfusion (c28.symm.trans qm)) (fun c28 => ?_)
  refine mG_aload_n dX8_through_31 rfl ?_
  refine mG_iload_n dX8_through_32 rfl ?_
  refine mG_iload_n dX8_through_33 rfl ?_
  refine mG_cv2 vX8_209 dX8_through_34 (mLe_of rfl) (Nat.le_of_ble_eq_true rfl) e40 (Nat.le_of_ble_eq_true rfl) (ok_X8_workFor e40 e42 hcb e44 hbb e47 e52 e53 ho (by omega) (by omega) hnf hca4 hfr) ?_
  refine mG_goto dX8_through_37 ?_
  exact mG_iret dX8_through_42 rfl ⟨⟨ls, rfl⟩, ⟨t, wr, it, fg, _, e40, e41, e42, e43, e44, e45, e46, e47, e48, e49, e50, e51, rfl, e53, e54, e55⟩, fun b hb => by simp only [mU, show ¬ b = 52 from by omega, if_false]⟩
set_option maxRecDepth 100000 in
set_option maxHeartbeats 4000000 in
theorem rp_odds_bad {E : mE} {h : mH} {n : Nat} {tx cb db bb dg nw kn bf sr : Nat → Nat} {ik : Nat → Bool} {mo : Nat} {od : Nat → Nat} {fa : Nat} {fo fi : Nat → Nat} {tr : Int64} {c m : Int32} (H : rI h n tx cb db bb dg nw kn bf sr ik mo od fa fo fi tr) (F : rF n tx cb db bb dg nw kn mo od fa fo fi) (hb : isIx c (10 ^ cb 0) = false ∨ m < 0 ∨ nI 1 < m) : mOk E 4 zX8_odds [.ref 40, .int c, .int m] h (rQ h (.int (-1)) (rI · n tx cb db bb dg nw kn bf sr ik mo od fa fo fi tr)) := by
  obtain ⟨t, wr, it, fg, ls, e40, e41, e42, e43, e44, e45, e46, e47, e48, e49, e50, e51, e52, e53, e54, e55⟩ := id H
  obtain ⟨hn, htx, hcb, hdb, hbb, ho, hnf, hca4, hca, hfr, hwk, hdg, hkn, hfa, hfo, hfi⟩ := id F
  refine mOk_w (L := [some (.ref 40), some (.int c), some (.int m), none, none, none, none, none]) pn_X8 rfl (Nat.le_of_ble_eq_true rfl) rfl ?_
  refine mG_aload_n dX8_odds_0 rfl ?_
  refine mG_iload_n dX8_odds_1 rfl ?_
  refine mG_cv1 vX8_203 dX8_odds_2 (mLe_of rfl) (Nat.le_of_ble_eq_true rfl) e40 (Nat.le_of_ble_eq_true rfl) (ok_X8_isNumber e40 e42 hcb) ?_
  refine mG_if_eqB dX8_odds_5 (fun c5 => ?_) (fun c5 => ?_)
  · refine mG_iconst (v := (-1)) dX8_odds_17 (by decide) ?_
    exact mG_iret dX8_odds_18 rfl ⟨rfl, H, fun _ _ => rfl⟩
  · refine mG_iload_n dX8_odds_8 rfl ?_
    refine mG_iconst (v := nI 0) dX8_odds_9 (by decide) ?_
    refine mG_iconst (v := nI 1) dX8_odds_10 (by decide) ?_
    refine mG_cs3 sX8_63 dX8_odds_11 (mLe_of rfl) (Nat.le_of_ble_eq_true rfl) (ok_X8_in) ?_
    refine mG_if_neB dX8_odds_14 (fun c14 => by (rcases hb with q | q; (exact Bool.noConfusion (c5.symm.trans q)); (exact Bool.noConfusion (c14.symm.trans (in_lu.mpr q))))) (fun c14 => ?_)
    refine mG_iconst (v := (-1)) dX8_odds_17 (by decide) ?_
    exact mG_iret dX8_odds_18 rfl ⟨rfl, H, fun _ _ => rfl⟩
set_option maxRecDepth 100000 in
set_option maxHeartbeats 4000000 in
theorem rp_odds_0 {E : mE} {h : mH} {n : Nat} {tx cb db bb dg nw kn bf sr : Nat → Nat} {ik : Nat → Bool} {mo : Nat} {od : Nat → Nat} {fa : Nat} {fo fi : Nat → Nat} {tr : Int64} {j : Nat} (H : rI h n tx cb db bb dg nw kn bf sr ik mo od fa fo fi tr) (F : rF n tx cb db bb dg nw kn mo od fa fo fi) (hj : j < 10 ^ cb 0) : mOk E 4 zX8_odds [.ref 40, vN j, vN 0] h (rQ h (vN (smG (fun s => (byR nw (decide (bb 0 = 1)) (cb 0) mo od s j).toNat) (6 ^ cb 0) / Nat.gcd (smG (fun s => (byR nw (decide (bb 0 = 1)) (cb 0) mo od s j).toNat) (6 ^ cb 0)) (6 ^ cb 0))) (rI · n tx cb db bb dg nw kn bf sr ik mo od fa fo fi tr)) := by
  obtain ⟨t, wr, it, fg, ls, e40, e41, e42, e43, e44, e45, e46, e47, e48, e49, e50, e51, e52, e53, e54, e55⟩ := id H
  obtain ⟨hn, htx, hcb, hdb, hbb, ho, hnf, hca4, hca, hfr, hwk, hdg, hkn, hfa, hfo, hfi⟩ := id F
  refine mOk_imp (ok_X8_odds_0 e40 e42 hcb e44 hbb e47 e53 ho hnf hj) ?_
  rintro r h' ⟨rfl, rfl⟩
  exact ⟨rfl, H, fun _ _ => rfl⟩
set_option maxRecDepth 100000 in
set_option maxHeartbeats 4000000 in
theorem rp_odds_1 {E : mE} {h : mH} {n : Nat} {tx cb db bb dg nw kn bf sr : Nat → Nat} {ik : Nat → Bool} {mo : Nat} {od : Nat → Nat} {fa : Nat} {fo fi : Nat → Nat} {tr : Int64} {j : Nat} (H : rI h n tx cb db bb dg nw kn bf sr ik mo od fa fo fi tr) (F : rF n tx cb db bb dg nw kn mo od fa fo fi) (hj : j < 10 ^ cb 0) : mOk E 4 zX8_odds [.ref 40, vN j, vN 1] h (rQ h (vN (6 ^ cb 0 / Nat.gcd (smG (fun s => (byR nw (decide (bb 0 = 1)) (cb 0) mo od s j).toNat) (6 ^ cb 0)) (6 ^ cb 0))) (rI · n tx cb db bb dg nw kn bf sr ik mo od fa fo fi tr)) := by
  obtain ⟨t, wr, it, fg, ls, e40, e41, e42, e43, e44, e45, e46, e47, e48, e49, e50, e51, e52, e53, e54, e55⟩ := id H
  obtain ⟨hn, htx, hcb, hdb, hbb, ho, hnf, hca4, hca, hfr, hwk, hdg, hkn, hfa, hfo, hfi⟩ := id F
  refine mOk_imp (ok_X8_odds_1 e40 e42 hcb e44 hbb e47 e53 ho hnf hj) ?_
  rintro r h' ⟨rfl, rfl⟩
  exact ⟨rfl, H, fun _ _ => rfl⟩
set_option maxRecDepth 100000 in
set_option maxHeartbeats 4000000 in
theorem rp_sees_bad {E : mE} {h : mH} {n : Nat} {tx cb db bb dg nw kn bf sr : Nat → Nat} {ik : Nat → Bool} {mo : Nat} {od : Nat → Nat} {fa : Nat} {fo fi : Nat → Nat} {tr : Int64} {c m : Int32} (H : rI h n tx cb db bb dg nw kn bf sr ik mo od fa fo fi tr) (F : rF n tx cb db bb dg nw kn mo od fa fo fi) (hb : isIx c 10 = false ∨ m < 0 ∨ nI 1 < m) : mOk E 2 zX8_sees [.ref 40, .int c, .int m] h (rQ h (.int (-1)) (rI · n tx cb db bb dg nw kn bf sr ik mo od fa fo fi tr)) := by
  obtain ⟨t, wr, it, fg, ls, e40, e41, e42, e43, e44, e45, e46, e47, e48, e49, e50, e51, e52, e53, e54, e55⟩ := id H
  obtain ⟨hn, htx, hcb, hdb, hbb, ho, hnf, hca4, hca, hfr, hwk, hdg, hkn, hfa, hfo, hfi⟩ := id F
  refine mOk_w (L := [some (.ref 40), some (.int c), some (.int m)]) pn_X8 rfl (Nat.le_of_ble_eq_true rfl) rfl ?_
  refine mG_iload_n dX8_sees_0 rfl ?_
  refine mG_iconst (v := nI 0) dX8_sees_1 (by decide) ?_
  refine mG_bipush (v := nI 9) dX8_sees_2 (by decide) ?_
  refine mG_cs3 sX8_63 dX8_sees_4 (mLe_of rfl) (Nat.le_of_ble_eq_true rfl) (ok_X8_in) ?_
  rw [inI_ix (by decide)]
  refine mG_if_eqB dX8_sees_7 (fun c7 => ?_) (fun c7 => ?_)
  · refine mG_iconst (v := (-1)) dX8_sees_19 (by decide) ?_
    exact mG_iret dX8_sees_20 rfl ⟨rfl, H, fun _ _ => rfl⟩
  · refine mG_iload_n dX8_sees_10 rfl ?_
    refine mG_iconst (v := nI 0) dX8_sees_11 (by decide) ?_
    refine mG_iconst (v := nI 1) dX8_sees_12 (by decide) ?_
    refine mG_cs3 sX8_63 dX8_sees_13 (mLe_of rfl) (Nat.le_of_ble_eq_true rfl) (ok_X8_in) ?_
    refine mG_if_neB dX8_sees_16 (fun c16 => by (rcases hb with q | q; (exact Bool.noConfusion (c7.symm.trans q)); (exact Bool.noConfusion (c16.symm.trans (in_lu.mpr q))))) (fun c16 => ?_)
    refine mG_iconst (v := (-1)) dX8_sees_19 (by decide) ?_
    exact mG_iret dX8_sees_20 rfl ⟨rfl, H, fun _ _ => rfl⟩
set_option maxRecDepth 100000 in
set_option maxHeartbeats 4000000 in
theorem rp_sees_full {E : mE} {h : mH} {n : Nat} {tx cb db bb dg nw kn bf sr : Nat → Nat} {ik : Nat → Bool} {mo : Nat} {od : Nat → Nat} {fa : Nat} {fo fi : Nat → Nat} {tr : Int64} {j k : Nat} (H : rI h n tx cb db bb dg nw kn bf sr ik mo od fa fo fi tr) (F : rF n tx cb db bb dg nw kn mo od fa fo fi) (hj : j < 10) (hk : k < 2) (hf : fa = 6) : mOk E 2 zX8_sees [.ref 40, vN j, vN k] h (rQ h (.int (-3)) (rI · n tx cb db bb dg nw kn bf sr ik mo od fa fo fi tr)) := by
  obtain ⟨t, wr, it, fg, ls, e40, e41, e42, e43, e44, e45, e46, e47, e48, e49, e50, e51, e52, e53, e54, e55⟩ := id H
  obtain ⟨hn, htx, hcb, hdb, hbb, ho, hnf, hca4, hca, hfr, hwk, hdg, hkn, hfa, hfo, hfi⟩ := id F
  have qj := isIx_nI (show 10 < 2 ^ 31 by decide) hj
  have qk : inI (nI k) (nI 0) (nI 1) = true := by rw [inI_N (by omega) (by decide) (by decide)]; exact decide_eq_true ⟨Nat.zero_le _, by omega⟩
  refine mOk_w (L := [some (.ref 40), some (vN j), some (vN k)]) pn_X8 rfl (Nat.le_of_ble_eq_true rfl) rfl ?_
  refine mG_iload_n dX8_sees_0 rfl ?_
  refine mG_iconst (v := nI 0) dX8_sees_1 (by decide) ?_
  refine mG_bipush (v := nI 9) dX8_sees_2 (by decide) ?_
  refine mG_cs3 sX8_63 dX8_sees_4 (mLe_of rfl) (Nat.le_of_ble_eq_true rfl) (ok_X8_in) ?_
  rw [inI_ix (by decide)]
  refine mG_if_eqB dX8_sees_7 (fun c7 => Bool.noConfusion (c7.symm.trans qj)) (fun c7 => ?_)
  refine mG_iload_n dX8_sees_10 rfl ?_
  refine mG_iconst (v := nI 0) dX8_sees_11 (by decide) ?_
  refine mG_iconst (v := nI 1) dX8_sees_12 (by decide) ?_
  refine mG_cs3 sX8_63 dX8_sees_13 (mLe_of rfl) (Nat.le_of_ble_eq_true rfl) (ok_X8_in) ?_
  refine mG_if_neB dX8_sees_16 (fun c16 => ?_) (fun c16 => Bool.noConfusion (c16.symm.trans qk))
  refine mG_aload_n dX8_sees_21 rfl ?_
  refine mG_get fX8_120 dX8_sees_22 e40 (Nat.le_of_ble_eq_true rfl) rfl ?_
  refine mG_bipush (v := nI 6) dX8_sees_25 (by decide) ?_
  refine mG_icmp_neN dX8_sees_27 (by omega) (by omega) (fun c27 => absurd hf c27) (fun c27 => ?_)
  refine mG_bipush (v := (-3)) dX8_sees_30 (by decide) ?_
  exact mG_iret dX8_sees_32 rfl ⟨rfl, H, fun _ _ => rfl⟩
set_option maxRecDepth 100000 in
set_option maxHeartbeats 4000000 in
theorem rp_sees_ok {E : mE} {h : mH} {n : Nat} {tx cb db bb dg nw kn bf sr : Nat → Nat} {ik : Nat → Bool} {mo : Nat} {od : Nat → Nat} {fa : Nat} {fo fi : Nat → Nat} {tr : Int64} {j k : Nat} (H : rI h n tx cb db bb dg nw kn bf sr ik mo od fa fo fi tr) (F : rF n tx cb db bb dg nw kn mo od fa fo fi) (hj : j < 10) (hk : k < 2) (hf : fa < 6) : mOk E 2 zX8_sees [.ref 40, vN j, vN k] h (rQ h (vN (fa + 1)) (rI · n tx cb db bb dg nw kn bf sr ik mo od (fa + 1) (mUp fo fa j) (mUp fi fa k) tr)) := by
  obtain ⟨t, wr, it, fg, ls, e40, e41, e42, e43, e44, e45, e46, e47, e48, e49, e50, e51, e52, e53, e54, e55⟩ := id H
  obtain ⟨hn, htx, hcb, hdb, hbb, ho, hnf, hca4, hca, hfr, hwk, hdg, hkn, hfa, hfo, hfi⟩ := id F
  have qj := isIx_nI (show 10 < 2 ^ 31 by decide) hj
  have qk : inI (nI k) (nI 0) (nI 1) = true := by rw [inI_N (by omega) (by decide) (by decide)]; exact decide_eq_true ⟨Nat.zero_le _, by omega⟩
  refine mOk_w (L := [some (.ref 40), some (vN j), some (vN k)]) pn_X8 rfl (Nat.le_of_ble_eq_true rfl) rfl ?_
  refine mG_iload_n dX8_sees_0 rfl ?_
  refine mG_iconst (v := nI 0) dX8_sees_1 (by decide) ?_
  refine mG_bipush (v := nI 9) dX8_sees_2 (by decide) ?_
  refine mG_cs3 sX8_63 dX8_sees_4 (mLe_of rfl) (Nat.le_of_ble_eq_true rfl) (ok_X8_in) ?_
  rw [inI_ix (by decide)]
  refine mG_if_eqB dX8_sees_7 (fun c7 => Bool.noConfusion (c7.symm.trans qj)) (fun c7 => ?_)
  refine mG_iload_n dX8_sees_10 rfl ?_
  refine mG_iconst (v := nI 0) dX8_sees_11 (by decide) ?_
  refine mG_iconst (v := nI 1) dX8_sees_12 (by decide) ?_
  refine mG_cs3 sX8_63 dX8_sees_13 (mLe_of rfl) (Nat.le_of_ble_eq_true rfl) (ok_X8_in) ?_
  refine mG_if_neB dX8_sees_16 (fun c16 => ?_) (fun c16 => Bool.noConfusion (c16.symm.trans qk))
  refine mG_aload_n dX8_sees_21 rfl ?_
  refine mG_get fX8_120 dX8_sees_22 e40 (Nat.le_of_ble_eq_true rfl) rfl ?_
  refine mG_bipush (v := nI 6) dX8_sees_25 (by decide) ?_
  refine mG_icmp_neN dX8_sees_27 (by omega) (by omega) (fun c27 => ?_) (fun c27 => absurd c27 (by omega))
  refine mG_aload_n dX8_sees_33 rfl ?_
  refine mG_get fX8_51 dX8_sees_34 e40 (Nat.le_of_ble_eq_true rfl) rfl ?_
  refine mG_aload_n dX8_sees_37 rfl ?_
  refine mG_get fX8_120 dX8_sees_38 e40 (Nat.le_of_ble_eq_true rfl) rfl ?_
  refine mG_iload_n dX8_sees_41 rfl ?_
  refine mG_iastA dX8_sees_42 e54 (Nat.le_of_ble_eq_true rfl) (by decide) (by omega) ?_
  refine mG_aload_n dX8_sees_43 rfl ?_
  refine mG_get fX8_54 dX8_sees_44 e40 (Nat.le_of_ble_eq_true rfl) rfl ?_
  refine mG_aload_n dX8_sees_47 rfl ?_
  refine mG_get fX8_120 dX8_sees_48 e40 (Nat.le_of_ble_eq_true rfl) rfl ?_
  refine mG_iload_n dX8_sees_51 rfl ?_
  refine mG_iastA dX8_sees_52 e55 (Nat.le_of_ble_eq_true rfl) (by decide) (by omega) ?_
  refine mG_aload_n dX8_sees_53 rfl ?_
  refine mG_dup dX8_sees_54 rfl ?_
  refine mG_get fX8_120 dX8_sees_55 e40 (Nat.le_of_ble_eq_true rfl) rfl ?_
  refine mG_iconst (v := nI 1) dX8_sees_58 (by decide) ?_
  refine mG_iaddN dX8_sees_59 ?_
  refine mG_putI pX8_120 dX8_sees_60 e40 (Nat.le_of_ble_eq_true rfl) (Nat.le_of_ble_eq_true rfl) ?_
  refine mG_aload_n dX8_sees_63 rfl ?_
  refine mG_get fX8_120 dX8_sees_64 rfl (Nat.le_of_ble_eq_true rfl) rfl ?_
  exact mG_iret dX8_sees_67 rfl ⟨rfl, ⟨t, wr, it, fg, ls, rfl, e41, e42, e43, e44, e45, e46, e47, e48, e49, e50, e51, e52, e53, rfl, rfl⟩, fun b hb => by simp only [mU, show ¬ b = 40 from by omega, show ¬ b = 54 from by omega, show ¬ b = 55 from by omega, if_false]⟩
set_option maxRecDepth 100000 in
set_option maxHeartbeats 4000000 in
theorem rp_forget {E : mE} {h : mH} {n : Nat} {tx cb db bb dg nw kn bf sr : Nat → Nat} {ik : Nat → Bool} {mo : Nat} {od : Nat → Nat} {fa : Nat} {fo fi : Nat → Nat} {tr : Int64} (H : rI h n tx cb db bb dg nw kn bf sr ik mo od fa fo fi tr) (F : rF n tx cb db bb dg nw kn mo od fa fo fi) : mOk E 1 zX8_forget [.ref 40] h (rQ h (vN fa) (rI · n tx cb db bb dg nw kn bf sr ik mo od 0 fo fi tr)) := by
  obtain ⟨t, wr, it, fg, ls, e40, e41, e42, e43, e44, e45, e46, e47, e48, e49, e50, e51, e52, e53, e54, e55⟩ := id H
  obtain ⟨hn, htx, hcb, hdb, hbb, ho, hnf, hca4, hca, hfr, hwk, hdg, hkn, hfa, hfo, hfi⟩ := id F
  refine mOk_w (L := [some (.ref 40), none]) pn_X8 rfl (Nat.le_of_ble_eq_true rfl) rfl ?_
  refine mG_aload_n dX8_forget_0 rfl ?_
  refine mG_get fX8_120 dX8_forget_1 e40 (Nat.le_of_ble_eq_true rfl) rfl ?_
  refine mG_istore_n dX8_forget_4 (Nat.le_of_ble_eq_true rfl) rfl rfl ?_
  refine mG_aload_n dX8_forget_5 rfl ?_
  refine mG_iconst (v := nI 0) dX8_forget_6 (by decide) ?_
  refine mG_putI pX8_120 dX8_forget_7 e40 (Nat.le_of_ble_eq_true rfl) (Nat.le_of_ble_eq_true rfl) ?_
  refine mG_iload_n dX8_forget_10 rfl ?_
  exact mG_iret dX8_forget_11 rfl ⟨rfl, ⟨t, wr, it, fg, ls, rfl, e41, e42, e43, e44, e45, e46, e47, e48, e49, e50, e51, e52, e53, e54, e55⟩, fun b hb => by simp only [mU, show ¬ b = 40 from by omega, if_false]⟩
set_option maxRecDepth 100000 in
set_option maxHeartbeats 4000000 in
theorem rp_which {E : mE} {h : mH} {n : Nat} {tx cb db bb dg nw kn bf sr : Nat → Nat} {ik : Nat → Bool} {mo : Nat} {od : Nat → Nat} {fa : Nat} {fo fi : Nat → Nat} {tr : Int64} (H : rI h n tx cb db bb dg nw kn bf sr ik mo od fa fo fi tr) (F : rF n tx cb db bb dg nw kn mo od fa fo fi) : mOk E 2 zX8_which [.ref 40] h (rQ h (vN (whR nw fo fi fa (cb 0))) (rI · n tx cb db bb dg nw kn bf sr ik mo od fa fo fi tr)) := by
  obtain ⟨t, wr, it, fg, ls, e40, e41, e42, e43, e44, e45, e46, e47, e48, e49, e50, e51, e52, e53, e54, e55⟩ := id H
  obtain ⟨hn, htx, hcb, hdb, hbb, ho, hnf, hca4, hca, hfr, hwk, hdg, hkn, hfa, hfo, hfi⟩ := id F
  refine mOk_imp (ok_X8_which e40 e42 hcb e47 hnf e54 hfo e55 hfi hfa) ?_
  rintro r h' ⟨rfl, rfl⟩
  exact ⟨rfl, H, fun _ _ => rfl⟩
set_option maxRecDepth 100000 in
set_option maxHeartbeats 4000000 in
theorem rp_look {E : mE} {h : mH} {n : Nat} {tx cb db bb dg nw kn bf sr : Nat → Nat} {ik : Nat → Bool} {mo : Nat} {od : Nat → Nat} {fa : Nat} {fo fi : Nat → Nat} {tr : Int64} (H : rI h n tx cb db bb dg nw kn bf sr ik mo od fa fo fi tr) (F : rF n tx cb db bb dg nw kn mo od fa fo fi) : mOk E 3 zX8_look [.ref 40] h (rQ h (.int (lk nw (whR nw fo fi fa (cb 0)) (popc (whR nw fo fi fa (cb 0)) 10) (cb 0) 10).1) (rI · n tx cb db bb dg nw kn bf sr ik mo od fa fo fi tr)) := by
  obtain ⟨t, wr, it, fg, ls, e40, e41, e42, e43, e44, e45, e46, e47, e48, e49, e50, e51, e52, e53, e54, e55⟩ := id H
  obtain ⟨hn, htx, hcb, hdb, hbb, ho, hnf, hca4, hca, hfr, hwk, hdg, hkn, hfa, hfo, hfi⟩ := id F
  refine mOk_imp (ok_X8_look e40 e42 hcb e47 hnf e54 hfo e55 hfi hfa) ?_
  rintro r h' ⟨rfl, rfl⟩
  exact ⟨rfl, H, fun _ _ => rfl⟩
set_option maxRecDepth 100000 in
set_option maxHeartbeats 4000000 in
theorem rp_mark_bad {E : mE} {h : mH} {n : Nat} {tx cb db bb dg nw kn bf sr : Nat → Nat} {ik : Nat → Bool} {mo : Nat} {od : Nat → Nat} {fa : Nat} {fo fi : Nat → Nat} {tr : Int64} {c m : Int32} (H : rI h n tx cb db bb dg nw kn bf sr ik mo od fa fo fi tr) (F : rF n tx cb db bb dg nw kn mo od fa fo fi) (hb : m < 0 ∨ nI 5 < m ∨ isIx c (cb 0) = false) : mOk E 3 zX8_mark [.ref 40, .int m, .int c] h (rQ h (.int (-1000000)) (rI · n tx cb db bb dg nw kn bf sr ik mo od fa fo fi tr)) := by
  obtain ⟨t, wr, it, fg, ls, e40, e41, e42, e43, e44, e45, e46, e47, e48, e49, e50, e51, e52, e53, e54, e55⟩ := id H
  obtain ⟨hn, htx, hcb, hdb, hbb, ho, hnf, hca4, hca, hfr, hwk, hdg, hkn, hfa, hfo, hfi⟩ := id F
  refine mOk_w (L := [some (.ref 40), some (.int m), some (.int c), none, none, none, none]) pn_X8 rfl (Nat.le_of_ble_eq_true rfl) rfl ?_
  refine mG_iload_n dX8_mark_0 rfl ?_
  refine mG_iconst (v := nI 0) dX8_mark_1 (by decide) ?_
  refine mG_iconst (v := nI 5) dX8_mark_2 (by decide) ?_
  refine mG_cs3 sX8_63 dX8_mark_3 (mLe_of rfl) (Nat.le_of_ble_eq_true rfl) (ok_X8_in) ?_
  refine mG_if_eqB dX8_mark_6 (fun c6 => ?_) (fun c6 => ?_)
  · refine mG_ldc dX8_mark_17 kX8_224 ?_
    exact mG_iret dX8_mark_19 rfl ⟨rfl, H, fun _ _ => rfl⟩
  · refine mG_aload_n dX8_mark_9 rfl ?_
    refine mG_iload_n dX8_mark_10 rfl ?_
    refine mG_cv1 vX8_148 dX8_mark_11 (mLe_of rfl) (Nat.le_of_ble_eq_true rfl) e40 (Nat.le_of_ble_eq_true rfl) (ok_X8_isCube e40 e42 hcb) ?_
    refine mG_if_neB dX8_mark_14 (fun c14 => by (rcases hb with q | q | q; (exact Bool.noConfusion (c6.symm.trans (in_lu.mpr (Or.inl q)))); (exact Bool.noConfusion (c6.symm.trans (in_lu.mpr (Or.inr q)))); (exact Bool.noConfusion (c14.symm.trans q)))) (fun c14 => ?_)
    refine mG_ldc dX8_mark_17 kX8_224 ?_
    exact mG_iret dX8_mark_19 rfl ⟨rfl, H, fun _ _ => rfl⟩
set_option maxRecDepth 100000 in
set_option maxHeartbeats 4000000 in
theorem rp_mark_0 {E : mE} {h : mH} {n : Nat} {tx cb db bb dg nw kn bf sr : Nat → Nat} {ik : Nat → Bool} {mo : Nat} {od : Nat → Nat} {fa : Nat} {fo fi : Nat → Nat} {tr : Int64} {c : Nat} (H : rI h n tx cb db bb dg nw kn bf sr ik mo od fa fo fi tr) (F : rF n tx cb db bb dg nw kn mo od fa fo fi) (hc : c < cb 0) : mOk E 3 zX8_mark [.ref 40, vN 0, vN c] h (rQ h (.int (nI (nw (6 * c + nw (28 + c))))) (rI · n tx cb db bb dg nw kn bf sr ik mo od fa fo fi (trF 1 tr 6))) := by
  obtain ⟨t, wr, it, fg, ls, e40, e41, e42, e43, e44, e45, e46, e47, e48, e49, e50, e51, e52, e53, e54, e55⟩ := id H
  obtain ⟨hn, htx, hcb, hdb, hbb, ho, hnf, hca4, hca, hfr, hwk, hdg, hkn, hfa, hfo, hfi⟩ := id F
  refine mOk_imp (ok_X8_mark_0 e40 e42 hcb e47 hnf hca4 hfr hc) ?_
  rintro r h' ⟨rfl, rfl⟩
  exact ⟨rfl, ⟨t, wr, it, fg, ls, rfl, e41, e42, e43, e44, e45, e46, e47, e48, e49, e50, e51, e52, e53, e54, e55⟩, fun b hb => by simp only [mU, show ¬ b = 40 from by omega, if_false]⟩
set_option maxRecDepth 100000 in
set_option maxHeartbeats 4000000 in
theorem rp_mark_1 {E : mE} {h : mH} {n : Nat} {tx cb db bb dg nw kn bf sr : Nat → Nat} {ik : Nat → Bool} {mo : Nat} {od : Nat → Nat} {fa : Nat} {fo fi : Nat → Nat} {tr : Int64} {c : Nat} (H : rI h n tx cb db bb dg nw kn bf sr ik mo od fa fo fi tr) (F : rF n tx cb db bb dg nw kn mo od fa fo fi) (hc : c < cb 0) : mOk E 3 zX8_mark [.ref 40, vN 1, vN c] h (rQ h (.int (nI (nw (6 * c + nw (28 + c))) + nI (plF (fun p => nw (24 + p)) c (cb 0)))) (rI · n tx cb db bb dg nw kn bf sr ik mo od fa fo fi (trF 3 tr 6))) := by
  obtain ⟨t, wr, it, fg, ls, e40, e41, e42, e43, e44, e45, e46, e47, e48, e49, e50, e51, e52, e53, e54, e55⟩ := id H
  obtain ⟨hn, htx, hcb, hdb, hbb, ho, hnf, hca4, hca, hfr, hwk, hdg, hkn, hfa, hfo, hfi⟩ := id F
  refine mOk_imp (ok_X8_mark_1 e40 e42 hcb e47 hnf hca4 hfr hc) ?_
  rintro r h' ⟨rfl, rfl⟩
  exact ⟨rfl, ⟨t, wr, it, fg, ls, rfl, e41, e42, e43, e44, e45, e46, e47, e48, e49, e50, e51, e52, e53, e54, e55⟩, fun b hb => by simp only [mU, show ¬ b = 40 from by omega, if_false]⟩
set_option maxRecDepth 100000 in
set_option maxHeartbeats 4000000 in
theorem rp_mark_2 {E : mE} {h : mH} {n : Nat} {tx cb db bb dg nw kn bf sr : Nat → Nat} {ik : Nat → Bool} {mo : Nat} {od : Nat → Nat} {fa : Nat} {fo fi : Nat → Nat} {tr : Int64} {c : Nat} (H : rI h n tx cb db bb dg nw kn bf sr ik mo od fa fo fi tr) (F : rF n tx cb db bb dg nw kn mo od fa fo fi) (hc : c < cb 0) : mOk E 3 zX8_mark [.ref 40, vN 2, vN c] h (rQ h (.int (nI (nw (6 * c + nw (28 + c))) - nI (popc (fgs nw c 6) 10))) (rI · n tx cb db bb dg nw kn bf sr ik mo od fa fo fi (trF 5 tr 6))) := by
  obtain ⟨t, wr, it, fg, ls, e40, e41, e42, e43, e44, e45, e46, e47, e48, e49, e50, e51, e52, e53, e54, e55⟩ := id H
  obtain ⟨hn, htx, hcb, hdb, hbb, ho, hnf, hca4, hca, hfr, hwk, hdg, hkn, hfa, hfo, hfi⟩ := id F
  refine mOk_imp (ok_X8_mark_2 e40 e42 hcb e47 hnf hca4 hfr hc) ?_
  rintro r h' ⟨rfl, rfl⟩
  exact ⟨rfl, ⟨t, wr, it, fg, ls, rfl, e41, e42, e43, e44, e45, e46, e47, e48, e49, e50, e51, e52, e53, e54, e55⟩, fun b hb => by simp only [mU, show ¬ b = 40 from by omega, if_false]⟩
set_option maxRecDepth 100000 in
set_option maxHeartbeats 4000000 in
theorem rp_mark_3 {E : mE} {h : mH} {n : Nat} {tx cb db bb dg nw kn bf sr : Nat → Nat} {ik : Nat → Bool} {mo : Nat} {od : Nat → Nat} {fa : Nat} {fo fi : Nat → Nat} {tr : Int64} {c : Nat} (H : rI h n tx cb db bb dg nw kn bf sr ik mo od fa fo fi tr) (F : rF n tx cb db bb dg nw kn mo od fa fo fi) (hc : c < cb 0) : mOk E 3 zX8_mark [.ref 40, vN 3, vN c] h (rQ h (.int ((nI (nw (6 * c + nw (28 + c))) + nI (plF (fun p => nw (24 + p)) c (cb 0))) * nI 2)) (rI · n tx cb db bb dg nw kn bf sr ik mo od fa fo fi (trF 11 tr 6))) := by
  obtain ⟨t, wr, it, fg, ls, e40, e41, e42, e43, e44, e45, e46, e47, e48, e49, e50, e51, e52, e53, e54, e55⟩ := id H
  obtain ⟨hn, htx, hcb, hdb, hbb, ho, hnf, hca4, hca, hfr, hwk, hdg, hkn, hfa, hfo, hfi⟩ := id F
  refine mOk_imp (ok_X8_mark_3 e40 e42 hcb e47 hnf hca4 hfr hc) ?_
  rintro r h' ⟨rfl, rfl⟩
  exact ⟨rfl, ⟨t, wr, it, fg, ls, rfl, e41, e42, e43, e44, e45, e46, e47, e48, e49, e50, e51, e52, e53, e54, e55⟩, fun b hb => by simp only [mU, show ¬ b = 40 from by omega, if_false]⟩
set_option maxRecDepth 100000 in
set_option maxHeartbeats 4000000 in
theorem rp_mark_4 {E : mE} {h : mH} {n : Nat} {tx cb db bb dg nw kn bf sr : Nat → Nat} {ik : Nat → Bool} {mo : Nat} {od : Nat → Nat} {fa : Nat} {fo fi : Nat → Nat} {tr : Int64} {c : Nat} (H : rI h n tx cb db bb dg nw kn bf sr ik mo od fa fo fi tr) (F : rF n tx cb db bb dg nw kn mo od fa fo fi) (hc : c < cb 0) : mOk E 3 zX8_mark [.ref 40, vN 4, vN c] h (rQ h (.int ((nI (nw (6 * c + nw (28 + c))) - nI (popc (fgs nw c 6) 10)) + nI c)) (rI · n tx cb db bb dg nw kn bf sr ik mo od fa fo fi (trF 21 tr 6))) := by
  obtain ⟨t, wr, it, fg, ls, e40, e41, e42, e43, e44, e45, e46, e47, e48, e49, e50, e51, e52, e53, e54, e55⟩ := id H
  obtain ⟨hn, htx, hcb, hdb, hbb, ho, hnf, hca4, hca, hfr, hwk, hdg, hkn, hfa, hfo, hfi⟩ := id F
  refine mOk_imp (ok_X8_mark_4 e40 e42 hcb e47 hnf hca4 hfr hc) ?_
  rintro r h' ⟨rfl, rfl⟩
  exact ⟨rfl, ⟨t, wr, it, fg, ls, rfl, e41, e42, e43, e44, e45, e46, e47, e48, e49, e50, e51, e52, e53, e54, e55⟩, fun b hb => by simp only [mU, show ¬ b = 40 from by omega, if_false]⟩
set_option maxRecDepth 100000 in
set_option maxHeartbeats 4000000 in
theorem rp_mark_5 {E : mE} {h : mH} {n : Nat} {tx cb db bb dg nw kn bf sr : Nat → Nat} {ik : Nat → Bool} {mo : Nat} {od : Nat → Nat} {fa : Nat} {fo fi : Nat → Nat} {tr : Int64} {c : Nat} (H : rI h n tx cb db bb dg nw kn bf sr ik mo od fa fo fi tr) (F : rF n tx cb db bb dg nw kn mo od fa fo fi) (hc : c < cb 0) : mOk E 3 zX8_mark [.ref 40, vN 5, vN c] h (rQ h (.int (nI (nw (6 * c + nw (28 + c))) + nI (nw 32))) (rI · n tx cb db bb dg nw kn bf sr ik mo od fa fo fi (trF 33 tr 6))) := by
  obtain ⟨t, wr, it, fg, ls, e40, e41, e42, e43, e44, e45, e46, e47, e48, e49, e50, e51, e52, e53, e54, e55⟩ := id H
  obtain ⟨hn, htx, hcb, hdb, hbb, ho, hnf, hca4, hca, hfr, hwk, hdg, hkn, hfa, hfo, hfi⟩ := id F
  refine mOk_imp (ok_X8_mark_5 e40 e42 hcb e47 hnf hca4 hfr hc) ?_
  rintro r h' ⟨rfl, rfl⟩
  exact ⟨rfl, ⟨t, wr, it, fg, ls, rfl, e41, e42, e43, e44, e45, e46, e47, e48, e49, e50, e51, e52, e53, e54, e55⟩, fun b hb => by simp only [mU, show ¬ b = 40 from by omega, if_false]⟩
set_option maxRecDepth 100000 in
set_option maxHeartbeats 4000000 in
theorem rp_trace {E : mE} {h : mH} {n : Nat} {tx cb db bb dg nw kn bf sr : Nat → Nat} {ik : Nat → Bool} {mo : Nat} {od : Nat → Nat} {fa : Nat} {fo fi : Nat → Nat} {tr : Int64} (H : rI h n tx cb db bb dg nw kn bf sr ik mo od fa fo fi tr) (F : rF n tx cb db bb dg nw kn mo od fa fo fi) : mOk E 1 zX8_trace [.ref 40] h (rQ h (.long tr) (rI · n tx cb db bb dg nw kn bf sr ik mo od fa fo fi tr)) := by
  obtain ⟨t, wr, it, fg, ls, e40, e41, e42, e43, e44, e45, e46, e47, e48, e49, e50, e51, e52, e53, e54, e55⟩ := id H
  obtain ⟨hn, htx, hcb, hdb, hbb, ho, hnf, hca4, hca, hfr, hwk, hdg, hkn, hfa, hfo, hfi⟩ := id F
  refine mOk_w (L := [some (.ref 40)]) pn_X8 rfl (Nat.le_of_ble_eq_true rfl) rfl ?_
  refine mG_aload_n dX8_trace_0 rfl ?_
  refine mG_get fX8_228 dX8_trace_1 e40 (Nat.le_of_ble_eq_true rfl) rfl ?_
  exact mG_lret dX8_trace_4 rfl ⟨rfl, H, fun _ _ => rfl⟩
set_option maxRecDepth 100000 in
set_option maxHeartbeats 4000000 in
theorem rp_keep_bad {E : mE} {h : mH} {n : Nat} {tx cb db bb dg nw kn bf sr : Nat → Nat} {ik : Nat → Bool} {mo : Nat} {od : Nat → Nat} {fa : Nat} {fo fi : Nat → Nat} {tr : Int64} {c : Int32} (H : rI h n tx cb db bb dg nw kn bf sr ik mo od fa fo fi tr) (F : rF n tx cb db bb dg nw kn mo od fa fo fi) (hb : isIx c 2 = false) : mOk E 2 zX8_keep [.ref 40, .int c] h (rQ h (.int (-1)) (rI · n tx cb db bb dg nw kn bf sr ik mo od fa fo fi tr)) := by
  obtain ⟨t, wr, it, fg, ls, e40, e41, e42, e43, e44, e45, e46, e47, e48, e49, e50, e51, e52, e53, e54, e55⟩ := id H
  obtain ⟨hn, htx, hcb, hdb, hbb, ho, hnf, hca4, hca, hfr, hwk, hdg, hkn, hfa, hfo, hfi⟩ := id F
  refine mOk_w (L := [some (.ref 40), some (.int c), none]) pn_X8 rfl (Nat.le_of_ble_eq_true rfl) rfl ?_
  refine mG_iload_n dX8_keep_0 rfl ?_
  refine mG_iconst (v := nI 0) dX8_keep_1 (by decide) ?_
  refine mG_iconst (v := nI 1) dX8_keep_2 (by decide) ?_
  refine mG_cs3 sX8_63 dX8_keep_3 (mLe_of rfl) (Nat.le_of_ble_eq_true rfl) (ok_X8_in) ?_
  rw [inI_ix (by decide)]
  refine mG_if_neB dX8_keep_6 (fun c6 => Bool.noConfusion (c6.symm.trans hb)) (fun c6 => ?_)
  refine mG_iconst (v := (-1)) dX8_keep_9 (by decide) ?_
  exact mG_iret dX8_keep_10 rfl ⟨rfl, H, fun _ _ => rfl⟩
set_option maxRecDepth 100000 in
set_option maxHeartbeats 4000000 in
theorem rp_back_bad {E : mE} {h : mH} {n : Nat} {tx cb db bb dg nw kn bf sr : Nat → Nat} {ik : Nat → Bool} {mo : Nat} {od : Nat → Nat} {fa : Nat} {fo fi : Nat → Nat} {tr : Int64} {c : Int32} (H : rI h n tx cb db bb dg nw kn bf sr ik mo od fa fo fi tr) (F : rF n tx cb db bb dg nw kn mo od fa fo fi) (hb : isIx c 2 = false) : mOk E 2 zX8_back [.ref 40, .int c] h (rQ h (.int (-1)) (rI · n tx cb db bb dg nw kn bf sr ik mo od fa fo fi tr)) := by
  obtain ⟨t, wr, it, fg, ls, e40, e41, e42, e43, e44, e45, e46, e47, e48, e49, e50, e51, e52, e53, e54, e55⟩ := id H
  obtain ⟨hn, htx, hcb, hdb, hbb, ho, hnf, hca4, hca, hfr, hwk, hdg, hkn, hfa, hfo, hfi⟩ := id F
  refine mOk_w (L := [some (.ref 40), some (.int c), none]) pn_X8 rfl (Nat.le_of_ble_eq_true rfl) rfl ?_
  refine mG_iload_n dX8_back_0 rfl ?_
  refine mG_iconst (v := nI 0) dX8_back_1 (by decide) ?_
  refine mG_iconst (v := nI 1) dX8_back_2 (by decide) ?_
  refine mG_cs3 sX8_63 dX8_back_3 (mLe_of rfl) (Nat.le_of_ble_eq_true rfl) (ok_X8_in) ?_
  rw [inI_ix (by decide)]
  refine mG_if_neB dX8_back_6 (fun c6 => Bool.noConfusion (c6.symm.trans hb)) (fun c6 => ?_)
  refine mG_iconst (v := (-1)) dX8_back_9 (by decide) ?_
  exact mG_iret dX8_back_10 rfl ⟨rfl, H, fun _ _ => rfl⟩
set_option maxRecDepth 100000 in
set_option maxHeartbeats 4000000 in
theorem rp_keep_0 {E : mE} {h : mH} {n : Nat} {tx cb db bb dg nw kn bf sr : Nat → Nat} {ik : Nat → Bool} {mo : Nat} {od : Nat → Nat} {fa : Nat} {fo fi : Nat → Nat} {tr : Int64} (H : rI h n tx cb db bb dg nw kn bf sr ik mo od fa fo fi tr) (F : rF n tx cb db bb dg nw kn mo od fa fo fi) : mOk E 2 zX8_keep [.ref 40, vN 0] h (rQ h (vN (nw 32)) (rI · n tx cb db bb dg nw (mUp kn 1 (kn 0)) (cpF bf bf 0 330 330) (cpF nw sr 0 0 33) (mUb ik 0 true) mo od fa fo fi tr)) := by
  obtain ⟨t, wr, it, fg, ls, e40, e41, e42, e43, e44, e45, e46, e47, e48, e49, e50, e51, e52, e53, e54, e55⟩ := id H
  obtain ⟨hn, htx, hcb, hdb, hbb, ho, hnf, hca4, hca, hfr, hwk, hdg, hkn, hfa, hfo, hfi⟩ := id F
  refine mOk_imp (ok_X8_keep_0 e40 e47 e48 e49 e50 e51) ?_
  rintro r h' ⟨rfl, rfl⟩
  exact ⟨rfl, ⟨t, wr, it, fg, ls, e40, e41, e42, e43, e44, e45, e46, e47, rfl, rfl, rfl, rfl, e52, e53, e54, e55⟩, fun b hb => by simp only [mU, show ¬ b = 50 from by omega, show ¬ b = 49 from by omega, show ¬ b = 48 from by omega, show ¬ b = 51 from by omega, if_false]⟩
set_option maxRecDepth 100000 in
set_option maxHeartbeats 4000000 in
theorem rp_back_none_0 {E : mE} {h : mH} {n : Nat} {tx cb db bb dg nw kn bf sr : Nat → Nat} {ik : Nat → Bool} {mo : Nat} {od : Nat → Nat} {fa : Nat} {fo fi : Nat → Nat} {tr : Int64} (H : rI h n tx cb db bb dg nw kn bf sr ik mo od fa fo fi tr) (F : rF n tx cb db bb dg nw kn mo od fa fo fi) (hk : ik 0 = false) : mOk E 2 zX8_back [.ref 40, vN 0] h (rQ h (.int (-2)) (rI · n tx cb db bb dg nw kn bf sr ik mo od fa fo fi tr)) := by
  obtain ⟨t, wr, it, fg, ls, e40, e41, e42, e43, e44, e45, e46, e47, e48, e49, e50, e51, e52, e53, e54, e55⟩ := id H
  obtain ⟨hn, htx, hcb, hdb, hbb, ho, hnf, hca4, hca, hfr, hwk, hdg, hkn, hfa, hfo, hfi⟩ := id F
  refine mOk_imp (ok_X8_back_none_0 e40 e51 hk) ?_
  rintro r h' ⟨rfl, rfl⟩
  exact ⟨rfl, H, fun _ _ => rfl⟩
set_option maxRecDepth 100000 in
set_option maxHeartbeats 4000000 in
theorem rp_back_0 {E : mE} {h : mH} {n : Nat} {tx cb db bb dg nw kn bf sr : Nat → Nat} {ik : Nat → Bool} {mo : Nat} {od : Nat → Nat} {fa : Nat} {fo fi : Nat → Nat} {tr : Int64} (H : rI h n tx cb db bb dg nw kn bf sr ik mo od fa fo fi tr) (F : rF n tx cb db bb dg nw kn mo od fa fo fi) (hk : ik 0 = true) : mOk E 2 zX8_back [.ref 40, vN 0] h (rQ h (vN (sr (0 + 32))) (rI · n tx cb db bb dg (cpF sr nw 0 0 33) (mUp kn 0 (kn 1)) (cpF bf bf 330 0 330) sr ik mo od fa fo fi tr)) := by
  obtain ⟨t, wr, it, fg, ls, e40, e41, e42, e43, e44, e45, e46, e47, e48, e49, e50, e51, e52, e53, e54, e55⟩ := id H
  obtain ⟨hn, htx, hcb, hdb, hbb, ho, hnf, hca4, hca, hfr, hwk, hdg, hkn, hfa, hfo, hfi⟩ := id F
  refine mOk_imp (ok_X8_back_0 e40 e47 e48 e49 e50 e51 hk) ?_
  rintro r h' ⟨rfl, rfl⟩
  exact ⟨rfl, ⟨t, wr, it, fg, ls, e40, e41, e42, e43, e44, e45, e46, rfl, rfl, rfl, e50, e51, e52, e53, e54, e55⟩, fun b hb => by simp only [mU, show ¬ b = 47 from by omega, show ¬ b = 49 from by omega, show ¬ b = 48 from by omega, if_false]⟩
set_option maxRecDepth 100000 in
set_option maxHeartbeats 4000000 in
theorem rp_keep_1 {E : mE} {h : mH} {n : Nat} {tx cb db bb dg nw kn bf sr : Nat → Nat} {ik : Nat → Bool} {mo : Nat} {od : Nat → Nat} {fa : Nat} {fo fi : Nat → Nat} {tr : Int64} (H : rI h n tx cb db bb dg nw kn bf sr ik mo od fa fo fi tr) (F : rF n tx cb db bb dg nw kn mo od fa fo fi) : mOk E 2 zX8_keep [.ref 40, vN 1] h (rQ h (vN (nw 32)) (rI · n tx cb db bb dg nw (mUp kn 2 (kn 0)) (cpF bf bf 0 660 330) (cpF nw sr 0 33 33) (mUb ik 1 true) mo od fa fo fi tr)) := by
  obtain ⟨t, wr, it, fg, ls, e40, e41, e42, e43, e44, e45, e46, e47, e48, e49, e50, e51, e52, e53, e54, e55⟩ := id H
  obtain ⟨hn, htx, hcb, hdb, hbb, ho, hnf, hca4, hca, hfr, hwk, hdg, hkn, hfa, hfo, hfi⟩ := id F
  refine mOk_imp (ok_X8_keep_1 e40 e47 e48 e49 e50 e51) ?_
  rintro r h' ⟨rfl, rfl⟩
  exact ⟨rfl, ⟨t, wr, it, fg, ls, e40, e41, e42, e43, e44, e45, e46, e47, rfl, rfl, rfl, rfl, e52, e53, e54, e55⟩, fun b hb => by simp only [mU, show ¬ b = 50 from by omega, show ¬ b = 49 from by omega, show ¬ b = 48 from by omega, show ¬ b = 51 from by omega, if_false]⟩
set_option maxRecDepth 100000 in
set_option maxHeartbeats 4000000 in
theorem rp_back_none_1 {E : mE} {h : mH} {n : Nat} {tx cb db bb dg nw kn bf sr : Nat → Nat} {ik : Nat → Bool} {mo : Nat} {od : Nat → Nat} {fa : Nat} {fo fi : Nat → Nat} {tr : Int64} (H : rI h n tx cb db bb dg nw kn bf sr ik mo od fa fo fi tr) (F : rF n tx cb db bb dg nw kn mo od fa fo fi) (hk : ik 1 = false) : mOk E 2 zX8_back [.ref 40, vN 1] h (rQ h (.int (-2)) (rI · n tx cb db bb dg nw kn bf sr ik mo od fa fo fi tr)) := by
  obtain ⟨t, wr, it, fg, ls, e40, e41, e42, e43, e44, e45, e46, e47, e48, e49, e50, e51, e52, e53, e54, e55⟩ := id H
  obtain ⟨hn, htx, hcb, hdb, hbb, ho, hnf, hca4, hca, hfr, hwk, hdg, hkn, hfa, hfo, hfi⟩ := id F
  refine mOk_imp (ok_X8_back_none_1 e40 e51 hk) ?_
  rintro r h' ⟨rfl, rfl⟩
  exact ⟨rfl, H, fun _ _ => rfl⟩
set_option maxRecDepth 100000 in
set_option maxHeartbeats 4000000 in
theorem rp_back_1 {E : mE} {h : mH} {n : Nat} {tx cb db bb dg nw kn bf sr : Nat → Nat} {ik : Nat → Bool} {mo : Nat} {od : Nat → Nat} {fa : Nat} {fo fi : Nat → Nat} {tr : Int64} (H : rI h n tx cb db bb dg nw kn bf sr ik mo od fa fo fi tr) (F : rF n tx cb db bb dg nw kn mo od fa fo fi) (hk : ik 1 = true) : mOk E 2 zX8_back [.ref 40, vN 1] h (rQ h (vN (sr (33 + 32))) (rI · n tx cb db bb dg (cpF sr nw 33 0 33) (mUp kn 0 (kn 2)) (cpF bf bf 660 0 330) sr ik mo od fa fo fi tr)) := by
  obtain ⟨t, wr, it, fg, ls, e40, e41, e42, e43, e44, e45, e46, e47, e48, e49, e50, e51, e52, e53, e54, e55⟩ := id H
  obtain ⟨hn, htx, hcb, hdb, hbb, ho, hnf, hca4, hca, hfr, hwk, hdg, hkn, hfa, hfo, hfi⟩ := id F
  refine mOk_imp (ok_X8_back_1 e40 e47 e48 e49 e50 e51 hk) ?_
  rintro r h' ⟨rfl, rfl⟩
  exact ⟨rfl, ⟨t, wr, it, fg, ls, e40, e41, e42, e43, e44, e45, e46, rfl, rfl, rfl, e50, e51, e52, e53, e54, e55⟩, fun b hb => by simp only [mU, show ¬ b = 47 from by omega, show ¬ b = 49 from by omega, show ¬ b = 48 from by omega, if_false]⟩
set_option maxRecDepth 100000 in
set_option maxHeartbeats 4000000 in
theorem rp_count_no {E : mE} {h : mH} {n : Nat} {tx cb db bb dg nw kn bf sr : Nat → Nat} {ik : Nat → Bool} {mo : Nat} {od : Nat → Nat} {fa : Nat} {fo fi : Nat → Nat} {tr : Int64} {wh : Int32} (H : rI h n tx cb db bb dg nw kn bf sr ik mo od fa fo fi tr) (F : rF n tx cb db bb dg nw kn mo od fa fo fi) (hb : isIx wh 6 = false) : mOk E 1 zX8_count [.ref 40, .int wh] h (rQ h (.int (-1)) (rI · n tx cb db bb dg nw kn bf sr ik mo od fa fo fi tr)) := by
  obtain ⟨t, wr, it, fg, ls, e40, e41, e42, e43, e44, e45, e46, e47, e48, e49, e50, e51, e52, e53, e54, e55⟩ := id H
  obtain ⟨hn, htx, hcb, hdb, hbb, ho, hnf, hca4, hca, hfr, hwk, hdg, hkn, hfa, hfo, hfi⟩ := id F
  refine mOk_w (L := [some (.ref 40), some (.int wh)]) pn_X8 rfl (Nat.le_of_ble_eq_true rfl) rfl ?_
  refine mG_iload_n dX8_count_0 rfl ?_
  refine mG_tableOut (tgt := 78) dX8_count_1 (by have := ix_out (by decide) hb; omega) (by decide) ?_
  refine mG_iconst (v := (-1)) dX8_count_78 (by decide) ?_
  exact mG_iret dX8_count_79 rfl ⟨rfl, H, fun _ _ => rfl⟩
set_option maxRecDepth 100000 in
set_option maxHeartbeats 4000000 in
theorem rp_count_0 {E : mE} {h : mH} {n : Nat} {tx cb db bb dg nw kn bf sr : Nat → Nat} {ik : Nat → Bool} {mo : Nat} {od : Nat → Nat} {fa : Nat} {fo fi : Nat → Nat} {tr : Int64} (H : rI h n tx cb db bb dg nw kn bf sr ik mo od fa fo fi tr) (F : rF n tx cb db bb dg nw kn mo od fa fo fi) : mOk E 1 zX8_count [.ref 40, vN 0] h (rQ h (vN (cb 0)) (rI · n tx cb db bb dg nw kn bf sr ik mo od fa fo fi tr)) := by
  obtain ⟨t, wr, it, fg, ls, e40, e41, e42, e43, e44, e45, e46, e47, e48, e49, e50, e51, e52, e53, e54, e55⟩ := id H
  obtain ⟨hn, htx, hcb, hdb, hbb, ho, hnf, hca4, hca, hfr, hwk, hdg, hkn, hfa, hfo, hfi⟩ := id F
  refine mOk_w (L := [some (.ref 40), some (vN 0)]) pn_X8 rfl (Nat.le_of_ble_eq_true rfl) rfl ?_
  refine mG_iload_n dX8_count_0 rfl ?_
  refine mG_tableIn (off := 39) (tgt := 40) dX8_count_1 (by decide) (by decide) (by decide) (by decide) ?_
  refine mG_aload_n dX8_count_40 rfl ?_
  refine mG_get fX8_13 dX8_count_41 e40 (Nat.le_of_ble_eq_true rfl) rfl ?_
  refine mG_iconst (v := nI 0) dX8_count_44 (by decide) ?_
  refine mG_ialdA dX8_count_45 e42 (Nat.le_of_ble_eq_true rfl) (by decide) (by omega) ?_
  exact mG_iret dX8_count_46 rfl ⟨rfl, H, fun _ _ => rfl⟩
set_option maxRecDepth 100000 in
set_option maxHeartbeats 4000000 in
theorem rp_count_1 {E : mE} {h : mH} {n : Nat} {tx cb db bb dg nw kn bf sr : Nat → Nat} {ik : Nat → Bool} {mo : Nat} {od : Nat → Nat} {fa : Nat} {fo fi : Nat → Nat} {tr : Int64} (H : rI h n tx cb db bb dg nw kn bf sr ik mo od fa fo fi tr) (F : rF n tx cb db bb dg nw kn mo od fa fo fi) : mOk E 1 zX8_count [.ref 40, vN 1] h (rQ h (vN (db 0)) (rI · n tx cb db bb dg nw kn bf sr ik mo od fa fo fi tr)) := by
  obtain ⟨t, wr, it, fg, ls, e40, e41, e42, e43, e44, e45, e46, e47, e48, e49, e50, e51, e52, e53, e54, e55⟩ := id H
  obtain ⟨hn, htx, hcb, hdb, hbb, ho, hnf, hca4, hca, hfr, hwk, hdg, hkn, hfa, hfo, hfi⟩ := id F
  refine mOk_w (L := [some (.ref 40), some (vN 1)]) pn_X8 rfl (Nat.le_of_ble_eq_true rfl) rfl ?_
  refine mG_iload_n dX8_count_0 rfl ?_
  refine mG_tableIn (off := 46) (tgt := 47) dX8_count_1 (by decide) (by decide) (by decide) (by decide) ?_
  refine mG_aload_n dX8_count_47 rfl ?_
  refine mG_get fX8_17 dX8_count_48 e40 (Nat.le_of_ble_eq_true rfl) rfl ?_
  refine mG_iconst (v := nI 0) dX8_count_51 (by decide) ?_
  refine mG_ialdA dX8_count_52 e43 (Nat.le_of_ble_eq_true rfl) (by decide) (by omega) ?_
  exact mG_iret dX8_count_53 rfl ⟨rfl, H, fun _ _ => rfl⟩
set_option maxRecDepth 100000 in
set_option maxHeartbeats 4000000 in
theorem rp_count_2 {E : mE} {h : mH} {n : Nat} {tx cb db bb dg nw kn bf sr : Nat → Nat} {ik : Nat → Bool} {mo : Nat} {od : Nat → Nat} {fa : Nat} {fo fi : Nat → Nat} {tr : Int64} (H : rI h n tx cb db bb dg nw kn bf sr ik mo od fa fo fi tr) (F : rF n tx cb db bb dg nw kn mo od fa fo fi) : mOk E 1 zX8_count [.ref 40, vN 2] h (rQ h (vN (bb 0)) (rI · n tx cb db bb dg nw kn bf sr ik mo od fa fo fi tr)) := by
  obtain ⟨t, wr, it, fg, ls, e40, e41, e42, e43, e44, e45, e46, e47, e48, e49, e50, e51, e52, e53, e54, e55⟩ := id H
  obtain ⟨hn, htx, hcb, hdb, hbb, ho, hnf, hca4, hca, hfr, hwk, hdg, hkn, hfa, hfo, hfi⟩ := id F
  refine mOk_w (L := [some (.ref 40), some (vN 2)]) pn_X8 rfl (Nat.le_of_ble_eq_true rfl) rfl ?_
  refine mG_iload_n dX8_count_0 rfl ?_
  refine mG_tableIn (off := 53) (tgt := 54) dX8_count_1 (by decide) (by decide) (by decide) (by decide) ?_
  refine mG_aload_n dX8_count_54 rfl ?_
  refine mG_get fX8_20 dX8_count_55 e40 (Nat.le_of_ble_eq_true rfl) rfl ?_
  refine mG_iconst (v := nI 0) dX8_count_58 (by decide) ?_
  refine mG_ialdA dX8_count_59 e44 (Nat.le_of_ble_eq_true rfl) (by decide) (by omega) ?_
  exact mG_iret dX8_count_60 rfl ⟨rfl, H, fun _ _ => rfl⟩
set_option maxRecDepth 100000 in
set_option maxHeartbeats 4000000 in
theorem rp_count_3 {E : mE} {h : mH} {n : Nat} {tx cb db bb dg nw kn bf sr : Nat → Nat} {ik : Nat → Bool} {mo : Nat} {od : Nat → Nat} {fa : Nat} {fo fi : Nat → Nat} {tr : Int64} (H : rI h n tx cb db bb dg nw kn bf sr ik mo od fa fo fi tr) (F : rF n tx cb db bb dg nw kn mo od fa fo fi) : mOk E 1 zX8_count [.ref 40, vN 3] h (rQ h (vN (fa)) (rI · n tx cb db bb dg nw kn bf sr ik mo od fa fo fi tr)) := by
  obtain ⟨t, wr, it, fg, ls, e40, e41, e42, e43, e44, e45, e46, e47, e48, e49, e50, e51, e52, e53, e54, e55⟩ := id H
  obtain ⟨hn, htx, hcb, hdb, hbb, ho, hnf, hca4, hca, hfr, hwk, hdg, hkn, hfa, hfo, hfi⟩ := id F
  refine mOk_w (L := [some (.ref 40), some (vN 3)]) pn_X8 rfl (Nat.le_of_ble_eq_true rfl) rfl ?_
  refine mG_iload_n dX8_count_0 rfl ?_
  refine mG_tableIn (off := 60) (tgt := 61) dX8_count_1 (by decide) (by decide) (by decide) (by decide) ?_
  refine mG_aload_n dX8_count_61 rfl ?_
  refine mG_get fX8_120 dX8_count_62 e40 (Nat.le_of_ble_eq_true rfl) rfl ?_
  exact mG_iret dX8_count_65 rfl ⟨rfl, H, fun _ _ => rfl⟩
set_option maxRecDepth 100000 in
set_option maxHeartbeats 4000000 in
theorem rp_count_4 {E : mE} {h : mH} {n : Nat} {tx cb db bb dg nw kn bf sr : Nat → Nat} {ik : Nat → Bool} {mo : Nat} {od : Nat → Nat} {fa : Nat} {fo fi : Nat → Nat} {tr : Int64} (H : rI h n tx cb db bb dg nw kn bf sr ik mo od fa fo fi tr) (F : rF n tx cb db bb dg nw kn mo od fa fo fi) : mOk E 1 zX8_count [.ref 40, vN 4] h (rQ h (vN (kn 0)) (rI · n tx cb db bb dg nw kn bf sr ik mo od fa fo fi tr)) := by
  obtain ⟨t, wr, it, fg, ls, e40, e41, e42, e43, e44, e45, e46, e47, e48, e49, e50, e51, e52, e53, e54, e55⟩ := id H
  obtain ⟨hn, htx, hcb, hdb, hbb, ho, hnf, hca4, hca, hfr, hwk, hdg, hkn, hfa, hfo, hfi⟩ := id F
  refine mOk_w (L := [some (.ref 40), some (vN 4)]) pn_X8 rfl (Nat.le_of_ble_eq_true rfl) rfl ?_
  refine mG_iload_n dX8_count_0 rfl ?_
  refine mG_tableIn (off := 65) (tgt := 66) dX8_count_1 (by decide) (by decide) (by decide) (by decide) ?_
  refine mG_aload_n dX8_count_66 rfl ?_
  refine mG_get fX8_32 dX8_count_67 e40 (Nat.le_of_ble_eq_true rfl) rfl ?_
  refine mG_iconst (v := nI 0) dX8_count_70 (by decide) ?_
  refine mG_ialdA dX8_count_71 e48 (Nat.le_of_ble_eq_true rfl) (by decide) (by omega) ?_
  exact mG_iret dX8_count_72 rfl ⟨rfl, H, fun _ _ => rfl⟩
set_option maxRecDepth 100000 in
set_option maxHeartbeats 4000000 in
theorem rp_count_5 {E : mE} {h : mH} {n : Nat} {tx cb db bb dg nw kn bf sr : Nat → Nat} {ik : Nat → Bool} {mo : Nat} {od : Nat → Nat} {fa : Nat} {fo fi : Nat → Nat} {tr : Int64} (H : rI h n tx cb db bb dg nw kn bf sr ik mo od fa fo fi tr) (F : rF n tx cb db bb dg nw kn mo od fa fo fi) : mOk E 1 zX8_count [.ref 40, vN 5] h (rQ h (vN (n)) (rI · n tx cb db bb dg nw kn bf sr ik mo od fa fo fi tr)) := by
  obtain ⟨t, wr, it, fg, ls, e40, e41, e42, e43, e44, e45, e46, e47, e48, e49, e50, e51, e52, e53, e54, e55⟩ := id H
  obtain ⟨hn, htx, hcb, hdb, hbb, ho, hnf, hca4, hca, hfr, hwk, hdg, hkn, hfa, hfo, hfi⟩ := id F
  refine mOk_w (L := [some (.ref 40), some (vN 5)]) pn_X8 rfl (Nat.le_of_ble_eq_true rfl) rfl ?_
  refine mG_iload_n dX8_count_0 rfl ?_
  refine mG_tableIn (off := 72) (tgt := 73) dX8_count_1 (by decide) (by decide) (by decide) (by decide) ?_
  refine mG_aload_n dX8_count_73 rfl ?_
  refine mG_get fX8_67 dX8_count_74 e40 (Nat.le_of_ble_eq_true rfl) rfl ?_
  exact mG_iret dX8_count_77 rfl ⟨rfl, H, fun _ _ => rfl⟩
theorem hN_self {h : mH} {ty : Nat} {t : mTk} {wr : Bool} {it mo fa : Nat} {tr : Int64} {cb db bb fg dg : Nat → Nat} (e40 : h 40 = oMt ty t wr it mo fa tr) (e42 : h 42 = mAr 2 cb) (e43 : h 43 = mAr 2 db) (e44 : h 44 = mAr 2 bb) (e45 : h 45 = mAr 48 fg) (e46 : h 46 = mAr 12 dg) : hN h ty t wr it mo fa tr cb db bb fg dg = h := by
  unfold hN
  rw [mU_self h 40 _ e40, mU_self h 42 _ e42, mU_self h 43 _ e43, mU_self h 44 _ e44, mU_self h 45 _ e45, mU_self h 46 _ e46]
/-- after a fault the draft is of no account -/
theorem mUp_10 (g : Nat → Nat) (v : Nat) : mUp g 1 v 0 = g 0 := mUp_ne _ _ (by decide)
