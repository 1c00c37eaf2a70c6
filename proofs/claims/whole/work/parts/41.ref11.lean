-- needs: 33 34 35 36 37 38 39 40
/-! the reference: what holds between calls; its public methods -/
def rI (h : mH) (n : Nat) (tx cb db bb dg nw kn bf sr : Nat → Nat) (ik : Nat → Bool) (mo : Nat) (od : Nat → Nat) (fa : Nat) (fo fi : Nat → Nat) (tr : Int64) : Prop :=
  ∃ (t : mTk) (wr : Bool) (it : Nat) (fg ls : Nat → Nat), h 40 = oMt n t wr it mo fa tr ∧ h 41 = mBy tx ∧ h 42 = mAr 2 cb ∧ h 43 = mAr 2 db ∧ h 44 = mAr 2 bb ∧ h 45 = mAr 48 fg ∧ h 46 = mAr 12 dg ∧ h 47 = mAr 33 nw ∧ h 48 = mAr 3 kn ∧ h 49 = mAr 990 bf ∧ h 50 = mAr 66 sr ∧ h 51 = mZr 2 ik ∧ h 52 = mAr 256 ls ∧ h 53 = mAr 24 od ∧ h 54 = mAr 6 fo ∧ h 55 = mAr 6 fi
def rF (n : Nat) (tx cb db bb dg nw kn : Nat → Nat) (mo : Nat) (od : Nat → Nat) (fa : Nat) (fo fi : Nat → Nat) : Prop :=
  n ≤ 100 ∧ (∀ j, j < n → tx j < 256) ∧ cb 0 ≤ 4 ∧ db 0 ≤ 6 ∧ bb 0 ≤ 1 ∧ oOK (cb 0) mo od ∧ (∀ j, j < cb 0 * 6 → nw j < 10) ∧ (∀ j, j < 4 → nw (24 + j) < 4) ∧ (∀ j, j < cb 0 → nw (24 + j) < cb 0) ∧ (∀ j, j < 4 → nw (28 + j) < 6) ∧ nw 32 ≤ 9999 ∧ (∀ j, j < db 0 → dg j < 2 ^ 31) ∧ kn 0 ≤ 10 ∧ fa ≤ 6 ∧ (∀ j, j < fa → fo j < 10) ∧ ∀ j, j < fa → fi j < 2
def rQ (h : mH) (v : Value) (C : mH → Prop) : Option Value → mH → Prop := fun r h' => r = some v ∧ C h' ∧ ∀ b, b < 40 → h' b = h b
set_option maxRecDepth 100000 in
set_option maxHeartbeats 4000000 in
theorem rp_type_bad {E : mE} {h : mH} {n : Nat} {tx cb db bb dg nw kn bf sr : Nat → Nat} {ik : Nat → Bool} {mo : Nat} {od : Nat → Nat} {fa : Nat} {fo fi : Nat → Nat} {tr : Int64} {c : Int32} (H : rI h n tx cb db bb dg nw kn bf sr ik mo od fa fo fi tr) (F : rF n tx cb db bb dg nw kn mo od fa fo fi) (hb : isIx c 256 = false) : mOk E 2 zX8_type [.ref 40, .int c] h (rQ h (.int (-1)) (rI · n tx cb db bb dg nw kn bf sr ik mo od fa fo fi tr)) := by
  obtain ⟨t, wr, it, fg, ls, e40, e41, e42, e43, e44, e45, e46, e47, e48, e49, e50, e51, e52, e53, e54, e55⟩ := id H
  obtain ⟨hn, htx, hcb, hdb, hbb, ho, hnf, hca4, hca, hfr, hwk, hdg, hkn, hfa, hfo, hfi⟩ := id F
  refine mOk_imp (rc_type_bad e40 hb) ?_
  rintro r h' ⟨rfl, rfl⟩
  exact ⟨rfl, H, fun _ _ => rfl⟩
set_option maxRecDepth 100000 in
set_option maxHeartbeats 4000000 in
theorem rp_type_full {E : mE} {h : mH} {n : Nat} {tx cb db bb dg nw kn bf sr : Nat → Nat} {ik : Nat → Bool} {mo : Nat} {od : Nat → Nat} {fa : Nat} {fo fi : Nat → Nat} {tr : Int64} {j : Nat} (H : rI h n tx cb db bb dg nw kn bf sr ik mo od fa fo fi tr) (F : rF n tx cb db bb dg nw kn mo od fa fo fi) (hj : j < 256) (hf : n = 100) : mOk E 2 zX8_type [.ref 40, vN j] h (rQ h (.int (-3)) (rI · n tx cb db bb dg nw kn bf sr ik mo od fa fo fi tr)) := by
  obtain ⟨t, wr, it, fg, ls, e40, e41, e42, e43, e44, e45, e46, e47, e48, e49, e50, e51, e52, e53, e54, e55⟩ := id H
  obtain ⟨hn, htx, hcb, hdb, hbb, ho, hnf, hca4, hca, hfr, hwk, hdg, hkn, hfa, hfo, hfi⟩ := id F
  refine mOk_imp (rc_type_full e40 hj hf) ?_
  rintro r h' ⟨rfl, rfl⟩
  exact ⟨rfl, H, fun _ _ => rfl⟩
set_option maxRecDepth 100000 in
set_option maxHeartbeats 4000000 in
theorem rp_type_ok {E : mE} {h : mH} {n : Nat} {tx cb db bb dg nw kn bf sr : Nat → Nat} {ik : Nat → Bool} {mo : Nat} {od : Nat → Nat} {fa : Nat} {fo fi : Nat → Nat} {tr : Int64} {j : Nat} (H : rI h n tx cb db bb dg nw kn bf sr ik mo od fa fo fi tr) (F : rF n tx cb db bb dg nw kn mo od fa fo fi) (hj : j < 256) (hf : n < 100) : mOk E 2 zX8_type [.ref 40, vN j] h (rQ h (vN (n + 1)) (rI · (n + 1) (mUp tx n j) cb db bb dg nw kn bf sr ik mo od fa fo fi tr)) := by
  obtain ⟨t, wr, it, fg, ls, e40, e41, e42, e43, e44, e45, e46, e47, e48, e49, e50, e51, e52, e53, e54, e55⟩ := id H
  obtain ⟨hn, htx, hcb, hdb, hbb, ho, hnf, hca4, hca, hfr, hwk, hdg, hkn, hfa, hfo, hfi⟩ := id F
  refine mOk_imp (rc_type_ok e40 e41 hj hf) ?_
  rintro r h' ⟨rfl, rfl⟩
  exact ⟨rfl, ⟨t, wr, it, fg, ls, rfl, rfl, e42, e43, e44, e45, e46, e47, e48, e49, e50, e51, e52, e53, e54, e55⟩, fun b hb => by simp only [mU, show ¬ b = 40 from by omega, show ¬ b = 41 from by omega, if_false]⟩
set_option maxRecDepth 100000 in
set_option maxHeartbeats 4000000 in
theorem rp_clear {E : mE} {h : mH} {n : Nat} {tx cb db bb dg nw kn bf sr : Nat → Nat} {ik : Nat → Bool} {mo : Nat} {od : Nat → Nat} {fa : Nat} {fo fi : Nat → Nat} {tr : Int64} (H : rI h n tx cb db bb dg nw kn bf sr ik mo od fa fo fi tr) (F : rF n tx cb db bb dg nw kn mo od fa fo fi) : mOk E 1 zX8_clear [.ref 40] h (rQ h (vN n) (rI · 0 tx cb db bb dg nw kn bf sr ik mo od fa fo fi tr)) := by
  obtain ⟨t, wr, it, fg, ls, e40, e41, e42, e43, e44, e45, e46, e47, e48, e49, e50, e51, e52, e53, e54, e55⟩ := id H
  obtain ⟨hn, htx, hcb, hdb, hbb, ho, hnf, hca4, hca, hfr, hwk, hdg, hkn, hfa, hfo, hfi⟩ := id F
  refine mOk_imp (rc_clear e40) ?_
  rintro r h' ⟨rfl, rfl⟩
  exact ⟨rfl, ⟨t, wr, it, fg, ls, rfl, e41, e42, e43, e44, e45, e46, e47, e48, e49, e50, e51, e52, e53, e54, e55⟩, fun b hb => by simp only [mU, show ¬ b = 40 from by omega, if_false]⟩
set_option maxRecDepth 100000 in
set_option maxHeartbeats 4000000 in
theorem rp_side_bad {E : mE} {h : mH} {n : Nat} {tx cb db bb dg nw kn bf sr : Nat → Nat} {ik : Nat → Bool} {mo : Nat} {od : Nat → Nat} {fa : Nat} {fo fi : Nat → Nat} {tr : Int64} {c s : Int32} (H : rI h n tx cb db bb dg nw kn bf sr ik mo od fa fo fi tr) (F : rF n tx cb db bb dg nw kn mo od fa fo fi) (hb : (isIx c (cb 0) && isIx s 6) = false) : mOk E 3 zX8_side [.ref 40, .int c, .int s] h (rQ h (.int (-1)) (rI · n tx cb db bb dg nw kn bf sr ik mo od fa fo fi tr)) := by
  obtain ⟨t, wr, it, fg, ls, e40, e41, e42, e43, e44, e45, e46, e47, e48, e49, e50, e51, e52, e53, e54, e55⟩ := id H
  obtain ⟨hn, htx, hcb, hdb, hbb, ho, hnf, hca4, hca, hfr, hwk, hdg, hkn, hfa, hfo, hfi⟩ := id F
  refine mOk_w (L := [some (.ref 40), some (.int c), some (.int s)]) pn_X8 rfl (Nat.le_of_ble_eq_true rfl) rfl ?_
  refine mG_aload_n dX8_side_0 rfl ?_
  refine mG_iload_n dX8_side_1 rfl ?_
  refine mG_cv1 vX8_148 dX8_side_2 (mLe_of rfl) (Nat.le_of_ble_eq_true rfl) e40 (Nat.le_of_ble_eq_true rfl) (ok_X8_isCube e40 e42 hcb) ?_
  refine mG_if_eqB dX8_side_5 (fun c5 => ?_) (fun c5 => ?_)
  · refine mG_iconst (v := (-1)) dX8_side_29 (by decide) ?_
    exact mG_iret dX8_side_30 rfl ⟨rfl, H, fun _ _ => rfl⟩
  · refine mG_iload_n dX8_side_8 rfl ?_
    refine mG_cs1 sX8_151 dX8_side_9 (mLe_of rfl) (Nat.le_of_ble_eq_true rfl) (ok_X8_isSide) ?_
    rw [c5, Bool.true_and] at hb
    refine mG_if_eqB dX8_side_12 (fun c12 => ?_) (fun c12 => Bool.noConfusion (c12.symm.trans hb))
    refine mG_iconst (v := (-1)) dX8_side_29 (by decide) ?_
    exact mG_iret dX8_side_30 rfl ⟨rfl, H, fun _ _ => rfl⟩
set_option maxRecDepth 100000 in
set_option maxHeartbeats 4000000 in
theorem rp_side_ok {E : mE} {h : mH} {n : Nat} {tx cb db bb dg nw kn bf sr : Nat → Nat} {ik : Nat → Bool} {mo : Nat} {od : Nat → Nat} {fa : Nat} {fo fi : Nat → Nat} {tr : Int64} {j k : Nat} (H : rI h n tx cb db bb dg nw kn bf sr ik mo od fa fo fi tr) (F : rF n tx cb db bb dg nw kn mo od fa fo fi) (hj : j < cb 0) (hk : k < 6) : mOk E 3 zX8_side [.ref 40, vN j, vN k] h (rQ h (vN (nw (j * 6 + k))) (rI · n tx cb db bb dg nw kn bf sr ik mo od fa fo fi tr)) := by
  obtain ⟨t, wr, it, fg, ls, e40, e41, e42, e43, e44, e45, e46, e47, e48, e49, e50, e51, e52, e53, e54, e55⟩ := id H
  obtain ⟨hn, htx, hcb, hdb, hbb, ho, hnf, hca4, hca, hfr, hwk, hdg, hkn, hfa, hfo, hfi⟩ := id F
  have qj := isIx_nI (show cb 0 < 2 ^ 31 by omega) hj
  have qk := isIx_nI (show 6 < 2 ^ 31 by decide) hk
  refine mOk_w (L := [some (.ref 40), some (vN j), some (vN k)]) pn_X8 rfl (Nat.le_of_ble_eq_true rfl) rfl ?_
  refine mG_aload_n dX8_side_0 rfl ?_
  refine mG_iload_n dX8_side_1 rfl ?_
  refine mG_cv1 vX8_148 dX8_side_2 (mLe_of rfl) (Nat.le_of_ble_eq_true rfl) e40 (Nat.le_of_ble_eq_true rfl) (ok_X8_isCube e40 e42 hcb) ?_
  refine mG_if_eqB dX8_side_5 (fun c5 => Bool.noConfusion (c5.symm.trans qj)) (fun c5 => ?_)
  refine mG_iload_n dX8_side_8 rfl ?_
  refine mG_cs1 sX8_151 dX8_side_9 (mLe_of rfl) (Nat.le_of_ble_eq_true rfl) (ok_X8_isSide) ?_
  refine mG_if_eqB dX8_side_12 (fun c12 => Bool.noConfusion (c12.symm.trans qk)) (fun c12 => ?_)
  refine mG_aload_n dX8_side_15 rfl ?_
  refine mG_get fX8_29 dX8_side_16 e40 (Nat.le_of_ble_eq_true rfl) rfl ?_
  refine mG_bipush (v := nI 6) dX8_side_19 (by decide) ?_
  refine mG_iload_n dX8_side_21 rfl ?_
  refine mG_imulN dX8_side_22 ?_
  refine mG_iload_n dX8_side_23 rfl ?_
  refine mG_iaddN dX8_side_24 ?_
  refine mG_ialdA dX8_side_25 e47 (Nat.le_of_ble_eq_true rfl) (by decide) (by omega) ?_
  refine mG_goto dX8_side_26 ?_
  exact mG_iret dX8_side_30 rfl ⟨by rw [Nat.mul_comm 6 j], H, fun _ _ => rfl⟩
set_option maxRecDepth 100000 in
set_option maxHeartbeats 4000000 in
theorem rp_cube_bad {E : mE} {h : mH} {n : Nat} {tx cb db bb dg nw kn bf sr : Nat → Nat} {ik : Nat → Bool} {mo : Nat} {od : Nat → Nat} {fa : Nat} {fo fi : Nat → Nat} {tr : Int64} {c wh : Int32} (H : rI h n tx cb db bb dg nw kn bf sr ik mo od fa fo fi tr) (F : rF n tx cb db bb dg nw kn mo od fa fo fi) (hb : isIx c (cb 0) = false) : mOk E 6 zX8_cube [.ref 40, .int c, .int wh] h (rQ h (.int (-1)) (rI · n tx cb db bb dg nw kn bf sr ik mo od fa fo fi tr)) := by
  obtain ⟨t, wr, it, fg, ls, e40, e41, e42, e43, e44, e45, e46, e47, e48, e49, e50, e51, e52, e53, e54, e55⟩ := id H
  obtain ⟨hn, htx, hcb, hdb, hbb, ho, hnf, hca4, hca, hfr, hwk, hdg, hkn, hfa, hfo, hfi⟩ := id F
  refine mOk_w (L := [some (.ref 40), some (.int c), some (.int wh)]) pn_X8 rfl (Nat.le_of_ble_eq_true rfl) rfl ?_
  refine mG_aload_n dX8_cube_0 rfl ?_
  refine mG_iload_n dX8_cube_1 rfl ?_
  refine mG_cv1 vX8_148 dX8_cube_2 (mLe_of rfl) (Nat.le_of_ble_eq_true rfl) e40 (Nat.le_of_ble_eq_true rfl) (ok_X8_isCube e40 e42 hcb) ?_
  refine mG_if_neB dX8_cube_5 (fun c5 => Bool.noConfusion (c5.symm.trans hb)) (fun c5 => ?_)
  refine mG_iconst (v := (-1)) dX8_cube_8 (by decide) ?_
  exact mG_iret dX8_cube_9 rfl ⟨rfl, H, fun _ _ => rfl⟩
set_option maxRecDepth 100000 in
set_option maxHeartbeats 4000000 in
theorem rp_cube_no {E : mE} {h : mH} {n : Nat} {tx cb db bb dg nw kn bf sr : Nat → Nat} {ik : Nat → Bool} {mo : Nat} {od : Nat → Nat} {fa : Nat} {fo fi : Nat → Nat} {tr : Int64} {j : Nat} {wh : Int32} (H : rI h n tx cb db bb dg nw kn bf sr ik mo od fa fo fi tr) (F : rF n tx cb db bb dg nw kn mo od fa fo fi) (hj : j < cb 0) (hb : isIx wh 4 = false) : mOk E 6 zX8_cube [.ref 40, vN j, .int wh] h (rQ h (.int (-1)) (rI · n tx cb db bb dg nw kn bf sr ik mo od fa fo fi tr)) := by
  obtain ⟨t, wr, it, fg, ls, e40, e41, e42, e43, e44, e45, e46, e47, e48, e49, e50, e51, e52, e53, e54, e55⟩ := id H
  obtain ⟨hn, htx, hcb, hdb, hbb, ho, hnf, hca4, hca, hfr, hwk, hdg, hkn, hfa, hfo, hfi⟩ := id F
  have qj := isIx_nI (show cb 0 < 2 ^ 31 by omega) hj
  refine mOk_w (L := [some (.ref 40), some (vN j), some (.int wh)]) pn_X8 rfl (Nat.le_of_ble_eq_true rfl) rfl ?_
  refine mG_aload_n dX8_cube_0 rfl ?_
  refine mG_iload_n dX8_cube_1 rfl ?_
  refine mG_cv1 vX8_148 dX8_cube_2 (mLe_of rfl) (Nat.le_of_ble_eq_true rfl) e40 (Nat.le_of_ble_eq_true rfl) (ok_X8_isCube e40 e42 hcb) ?_
  refine mG_if_neB dX8_cube_5 (fun c5 => ?_) (fun c5 => Bool.noConfusion (c5.symm.trans qj))
  refine mG_iload_n dX8_cube_10 rfl ?_
  refine mG_tableOut (tgt := 68) dX8_cube_11 (by have := ix_out (by decide) hb; omega) (by decide) ?_
  refine mG_iconst (v := (-1)) dX8_cube_68 (by decide) ?_
  exact mG_iret dX8_cube_69 rfl ⟨rfl, H, fun _ _ => rfl⟩
set_option maxRecDepth 100000 in
set_option maxHeartbeats 4000000 in
theorem rp_cube_0 {E : mE} {h : mH} {n : Nat} {tx cb db bb dg nw kn bf sr : Nat → Nat} {ik : Nat → Bool} {mo : Nat} {od : Nat → Nat} {fa : Nat} {fo fi : Nat → Nat} {tr : Int64} {j : Nat} (H : rI h n tx cb db bb dg nw kn bf sr ik mo od fa fo fi tr) (F : rF n tx cb db bb dg nw kn mo od fa fo fi) (hj : j < cb 0) : mOk E 6 zX8_cube [.ref 40, vN j, vN 0] h (rQ h (vN (plF (fun p => nw (24 + p)) j (cb 0))) (rI · n tx cb db bb dg nw kn bf sr ik mo od fa fo fi tr)) := by
  obtain ⟨t, wr, it, fg, ls, e40, e41, e42, e43, e44, e45, e46, e47, e48, e49, e50, e51, e52, e53, e54, e55⟩ := id H
  obtain ⟨hn, htx, hcb, hdb, hbb, ho, hnf, hca4, hca, hfr, hwk, hdg, hkn, hfa, hfo, hfi⟩ := id F
  have qj := isIx_nI (show cb 0 < 2 ^ 31 by omega) hj
  refine mOk_w (L := [some (.ref 40), some (vN j), some (vN 0)]) pn_X8 rfl (Nat.le_of_ble_eq_true rfl) rfl ?_
  refine mG_aload_n dX8_cube_0 rfl ?_
  refine mG_iload_n dX8_cube_1 rfl ?_
  refine mG_cv1 vX8_148 dX8_cube_2 (mLe_of rfl) (Nat.le_of_ble_eq_true rfl) e40 (Nat.le_of_ble_eq_true rfl) (ok_X8_isCube e40 e42 hcb) ?_
  refine mG_if_neB dX8_cube_5 (fun c5 => ?_) (fun c5 => Bool.noConfusion (c5.symm.trans qj))
  refine mG_iload_n dX8_cube_10 rfl ?_
  refine mG_tableIn (off := 29) (tgt := 40) dX8_cube_11 (by decide) (by decide) (by decide) (by decide) ?_
  refine mG_aload_n dX8_cube_40 rfl ?_
  refine mG_iload_n dX8_cube_41 rfl ?_
  refine mG_cv1 vX8_154 dX8_cube_42 (mLe_of rfl) (Nat.le_of_ble_eq_true rfl) e40 (Nat.le_of_ble_eq_true rfl) (ok_X8_placeOf e40 e42 hcb e47 (by omega) (fun j hj => Nat.lt_trans (hca4 j hj) (by decide))) ?_
  exact mG_iret dX8_cube_45 rfl ⟨rfl, H, fun _ _ => rfl⟩
set_option maxRecDepth 100000 in
set_option maxHeartbeats 4000000 in
theorem rp_cube_1 {E : mE} {h : mH} {n : Nat} {tx cb db bb dg nw kn bf sr : Nat → Nat} {ik : Nat → Bool} {mo : Nat} {od : Nat → Nat} {fa : Nat} {fo fi : Nat → Nat} {tr : Int64} {j : Nat} (H : rI h n tx cb db bb dg nw kn bf sr ik mo od fa fo fi tr) (F : rF n tx cb db bb dg nw kn mo od fa fo fi) (hj : j < cb 0) : mOk E 6 zX8_cube [.ref 40, vN j, vN 1] h (rQ h (vN (nw (28 + j))) (rI · n tx cb db bb dg nw kn bf sr ik mo od fa fo fi tr)) := by
  obtain ⟨t, wr, it, fg, ls, e40, e41, e42, e43, e44, e45, e46, e47, e48, e49, e50, e51, e52, e53, e54, e55⟩ := id H
  obtain ⟨hn, htx, hcb, hdb, hbb, ho, hnf, hca4, hca, hfr, hwk, hdg, hkn, hfa, hfo, hfi⟩ := id F
  have qj := isIx_nI (show cb 0 < 2 ^ 31 by omega) hj
  refine mOk_w (L := [some (.ref 40), some (vN j), some (vN 1)]) pn_X8 rfl (Nat.le_of_ble_eq_true rfl) rfl ?_
  refine mG_aload_n dX8_cube_0 rfl ?_
  refine mG_iload_n dX8_cube_1 rfl ?_
  refine mG_cv1 vX8_148 dX8_cube_2 (mLe_of rfl) (Nat.le_of_ble_eq_true rfl) e40 (Nat.le_of_ble_eq_true rfl) (ok_X8_isCube e40 e42 hcb) ?_
  refine mG_if_neB dX8_cube_5 (fun c5 => ?_) (fun c5 => Bool.noConfusion (c5.symm.trans qj))
  refine mG_iload_n dX8_cube_10 rfl ?_
  refine mG_tableIn (off := 35) (tgt := 46) dX8_cube_11 (by decide) (by decide) (by decide) (by decide) ?_
  refine mG_aload_n dX8_cube_46 rfl ?_
  refine mG_get fX8_29 dX8_cube_47 e40 (Nat.le_of_ble_eq_true rfl) rfl ?_
  refine mG_bipush (v := nI 28) dX8_cube_50 (by decide) ?_
  refine mG_iload_n dX8_cube_52 rfl ?_
  refine mG_iaddN dX8_cube_53 ?_
  refine mG_ialdA dX8_cube_54 e47 (Nat.le_of_ble_eq_true rfl) (by decide) (by omega) ?_
  exact mG_iret dX8_cube_55 rfl ⟨rfl, H, fun _ _ => rfl⟩
set_option maxRecDepth 100000 in
set_option maxHeartbeats 4000000 in
theorem rp_cube_2 {E : mE} {h : mH} {n : Nat} {tx cb db bb dg nw kn bf sr : Nat → Nat} {ik : Nat → Bool} {mo : Nat} {od : Nat → Nat} {fa : Nat} {fo fi : Nat → Nat} {tr : Int64} {j : Nat} (H : rI h n tx cb db bb dg nw kn bf sr ik mo od fa fo fi tr) (F : rF n tx cb db bb dg nw kn mo od fa fo fi) (hj : j < cb 0) : mOk E 6 zX8_cube [.ref 40, vN j, vN 2] h (rQ h (vN (fgs nw j 6)) (rI · n tx cb db bb dg nw kn bf sr ik mo od fa fo fi tr)) := by
  obtain ⟨t, wr, it, fg, ls, e40, e41, e42, e43, e44, e45, e46, e47, e48, e49, e50, e51, e52, e53, e54, e55⟩ := id H
  obtain ⟨hn, htx, hcb, hdb, hbb, ho, hnf, hca4, hca, hfr, hwk, hdg, hkn, hfa, hfo, hfi⟩ := id F
  have qj := isIx_nI (show cb 0 < 2 ^ 31 by omega) hj
  refine mOk_w (L := [some (.ref 40), some (vN j), some (vN 2)]) pn_X8 rfl (Nat.le_of_ble_eq_true rfl) rfl ?_
  refine mG_aload_n dX8_cube_0 rfl ?_
  refine mG_iload_n dX8_cube_1 rfl ?_
  refine mG_cv1 vX8_148 dX8_cube_2 (mLe_of rfl) (Nat.le_of_ble_eq_true rfl) e40 (Nat.le_of_ble_eq_true rfl) (ok_X8_isCube e40 e42 hcb) ?_
  refine mG_if_neB dX8_cube_5 (fun c5 => ?_) (fun c5 => Bool.noConfusion (c5.symm.trans qj))
  refine mG_iload_n dX8_cube_10 rfl ?_
  refine mG_tableIn (off := 45) (tgt := 56) dX8_cube_11 (by decide) (by decide) (by decide) (by decide) ?_
  refine mG_aload_n dX8_cube_56 rfl ?_
  refine mG_iload_n dX8_cube_57 rfl ?_
  refine mG_cv1 vX8_157 dX8_cube_58 (mLe_of rfl) (Nat.le_of_ble_eq_true rfl) e40 (Nat.le_of_ble_eq_true rfl) (ok_X8_figuresOf e40 e47 (by omega) (fun i hi => hnf _ (by omega))) ?_
  exact mG_iret dX8_cube_61 rfl ⟨rfl, H, fun _ _ => rfl⟩
set_option maxRecDepth 100000 in
set_option maxHeartbeats 4000000 in
theorem rp_cube_3 {E : mE} {h : mH} {n : Nat} {tx cb db bb dg nw kn bf sr : Nat → Nat} {ik : Nat → Bool} {mo : Nat} {od : Nat → Nat} {fa : Nat} {fo fi : Nat → Nat} {tr : Int64} {j : Nat} (H : rI h n tx cb db bb dg nw kn bf sr ik mo od fa fo fi tr) (F : rF n tx cb db bb dg nw kn mo od fa fo fi) (hj : j < cb 0) : mOk E 6 zX8_cube [.ref 40, vN j, vN 3] h (rQ h (vN (ddG (fun s => exB (fun d => decide (ddG (fun d => canR nw (decide (bb 0 = 1)) (cb 0) mo od (dg d) 0 6) (db 0) >>> d &&& 1 = 1) && !(canR nw (decide (bb 0 = 1)) (cb 0) mo od (dg d) j s)) (db 0)) 6)) (rI · n tx cb db bb dg nw kn bf sr ik mo od fa fo fi tr)) := by
  obtain ⟨t, wr, it, fg, ls, e40, e41, e42, e43, e44, e45, e46, e47, e48, e49, e50, e51, e52, e53, e54, e55⟩ := id H
  obtain ⟨hn, htx, hcb, hdb, hbb, ho, hnf, hca4, hca, hfr, hwk, hdg, hkn, hfa, hfo, hfi⟩ := id F
  have qj := isIx_nI (show cb 0 < 2 ^ 31 by omega) hj
  refine mOk_w (L := [some (.ref 40), some (vN j), some (vN 3)]) pn_X8 rfl (Nat.le_of_ble_eq_true rfl) rfl ?_
  refine mG_aload_n dX8_cube_0 rfl ?_
  refine mG_iload_n dX8_cube_1 rfl ?_
  refine mG_cv1 vX8_148 dX8_cube_2 (mLe_of rfl) (Nat.le_of_ble_eq_true rfl) e40 (Nat.le_of_ble_eq_true rfl) (ok_X8_isCube e40 e42 hcb) ?_
  refine mG_if_neB dX8_cube_5 (fun c5 => ?_) (fun c5 => Bool.noConfusion (c5.symm.trans qj))
  refine mG_iload_n dX8_cube_10 rfl ?_
  refine mG_tableIn (off := 51) (tgt := 62) dX8_cube_11 (by decide) (by decide) (by decide) (by decide) ?_
  refine mG_aload_n dX8_cube_62 rfl ?_
  refine mG_iload_n dX8_cube_63 rfl ?_
  refine mG_cv1 vX8_160 dX8_cube_64 (mLe_of rfl) (Nat.le_of_ble_eq_true rfl) e40 (Nat.le_of_ble_eq_true rfl) (ok_X8_neededOf e40 e42 hcb e44 hbb e47 e53 ho hnf e43 hdb e46 hdg (by omega)) ?_
  exact mG_iret dX8_cube_67 rfl ⟨rfl, H, fun _ _ => rfl⟩
set_option maxRecDepth 100000 in
set_option maxHeartbeats 4000000 in
theorem rp_place_bad {E : mE} {h : mH} {n : Nat} {tx cb db bb dg nw kn bf sr : Nat → Nat} {ik : Nat → Bool} {mo : Nat} {od : Nat → Nat} {fa : Nat} {fo fi : Nat → Nat} {tr : Int64} {c : Int32} (H : rI h n tx cb db bb dg nw kn bf sr ik mo od fa fo fi tr) (F : rF n tx cb db bb dg nw kn mo od fa fo fi) (hb : isIx c (cb 0) = false) : mOk E 3 zX8_place [.ref 40, .int c] h (rQ h (.int (-1)) (rI · n tx cb db bb dg nw kn bf sr ik mo od fa fo fi tr)) := by
  obtain ⟨t, wr, it, fg, ls, e40, e41, e42, e43, e44, e45, e46, e47, e48, e49, e50, e51, e52, e53, e54, e55⟩ := id H
  obtain ⟨hn, htx, hcb, hdb, hbb, ho, hnf, hca4, hca, hfr, hwk, hdg, hkn, hfa, hfo, hfi⟩ := id F
  refine mOk_w (L := [some (.ref 40), some (.int c)]) pn_X8 rfl (Nat.le_of_ble_eq_true rfl) rfl ?_
  refine mG_aload_n dX8_place_0 rfl ?_
  refine mG_iload_n dX8_place_1 rfl ?_
  refine mG_cv1 vX8_148 dX8_place_2 (mLe_of rfl) (Nat.le_of_ble_eq_true rfl) e40 (Nat.le_of_ble_eq_true rfl) (ok_X8_isCube e40 e42 hcb) ?_
  refine mG_if_eqB dX8_place_5 (fun c5 => ?_) (fun c5 => Bool.noConfusion (c5.symm.trans hb))
  refine mG_iconst (v := (-1)) dX8_place_20 (by decide) ?_
  exact mG_iret dX8_place_21 rfl ⟨rfl, H, fun _ _ => rfl⟩
set_option maxRecDepth 100000 in
set_option maxHeartbeats 4000000 in
theorem rp_place_ok {E : mE} {h : mH} {n : Nat} {tx cb db bb dg nw kn bf sr : Nat → Nat} {ik : Nat → Bool} {mo : Nat} {od : Nat → Nat} {fa : Nat} {fo fi : Nat → Nat} {tr : Int64} {j : Nat} (H : rI h n tx cb db bb dg nw kn bf sr ik mo od fa fo fi tr) (F : rF n tx cb db bb dg nw kn mo od fa fo fi) (hj : j < cb 0) : mOk E 3 zX8_place [.ref 40, vN j] h (rQ h (vN (nw (24 + j))) (rI · n tx cb db bb dg nw kn bf sr ik mo od fa fo fi tr)) := by
  obtain ⟨t, wr, it, fg, ls, e40, e41, e42, e43, e44, e45, e46, e47, e48, e49, e50, e51, e52, e53, e54, e55⟩ := id H
  obtain ⟨hn, htx, hcb, hdb, hbb, ho, hnf, hca4, hca, hfr, hwk, hdg, hkn, hfa, hfo, hfi⟩ := id F
  have qj := isIx_nI (show cb 0 < 2 ^ 31 by omega) hj
  refine mOk_w (L := [some (.ref 40), some (vN j)]) pn_X8 rfl (Nat.le_of_ble_eq_true rfl) rfl ?_
  refine mG_aload_n dX8_place_0 rfl ?_
  refine mG_iload_n dX8_place_1 rfl ?_
  refine mG_cv1 vX8_148 dX8_place_2 (mLe_of rfl) (Nat.le_of_ble_eq_true rfl) e40 (Nat.le_of_ble_eq_true rfl) (ok_X8_isCube e40 e42 hcb) ?_
  refine mG_if_eqB dX8_place_5 (fun c5 => Bool.noConfusion (c5.symm.trans qj)) (fun c5 => ?_)
  refine mG_aload_n dX8_place_8 rfl ?_
  refine mG_get fX8_29 dX8_place_9 e40 (Nat.le_of_ble_eq_true rfl) rfl ?_
  refine mG_bipush (v := nI 24) dX8_place_12 (by decide) ?_
  refine mG_iload_n dX8_place_14 rfl ?_
  refine mG_iaddN dX8_place_15 ?_
  refine mG_ialdA dX8_place_16 e47 (Nat.le_of_ble_eq_true rfl) (by decide) (by omega) ?_
  refine mG_goto dX8_place_17 ?_
  exact mG_iret dX8_place_21 rfl ⟨rfl, H, fun _ _ => rfl⟩
set_option maxRecDepth 100000 in
set_option maxHeartbeats 4000000 in
theorem rp_day_bad {E : mE} {h : mH} {n : Nat} {tx cb db bb dg nw kn bf sr : Nat → Nat} {ik : Nat → Bool} {mo : Nat} {od : Nat → Nat} {fa : Nat} {fo fi : Nat → Nat} {tr : Int64} {c : Int32} (H : rI h n tx cb db bb dg nw kn bf sr ik mo od fa fo fi tr) (F : rF n tx cb db bb dg nw kn mo od fa fo fi) (hb : isIx c (db 0) = false) : mOk E 2 zX8_day [.ref 40, .int c] h (rQ h (.int (-1)) (rI · n tx cb db bb dg nw kn bf sr ik mo od fa fo fi tr)) := by
  obtain ⟨t, wr, it, fg, ls, e40, e41, e42, e43, e44, e45, e46, e47, e48, e49, e50, e51, e52, e53, e54, e55⟩ := id H
  obtain ⟨hn, htx, hcb, hdb, hbb, ho, hnf, hca4, hca, hfr, hwk, hdg, hkn, hfa, hfo, hfi⟩ := id F
  refine mOk_w (L := [some (.ref 40), some (.int c)]) pn_X8 rfl (Nat.le_of_ble_eq_true rfl) rfl ?_
  refine mG_iload_n dX8_day_0 rfl ?_
  refine mG_iconst (v := nI 0) dX8_day_1 (by decide) ?_
  refine mG_aload_n dX8_day_2 rfl ?_
  refine mG_get fX8_17 dX8_day_3 e40 (Nat.le_of_ble_eq_true rfl) rfl ?_
  refine mG_iconst (v := nI 0) dX8_day_6 (by decide) ?_
  refine mG_ialdA dX8_day_7 e43 (Nat.le_of_ble_eq_true rfl) (by decide) (by omega) ?_
  refine mG_iconst (v := nI 1) dX8_day_8 (by decide) ?_
  refine mG_isub dX8_day_9 ?_
  refine mG_cs3 sX8_63 dX8_day_10 (mLe_of rfl) (Nat.le_of_ble_eq_true rfl) (ok_X8_in) ?_
  rw [inI_m1 (by omega)]
  refine mG_if_eqB dX8_day_13 (fun c13 => ?_) (fun c13 => Bool.noConfusion (c13.symm.trans hb))
  refine mG_iconst (v := (-1)) dX8_day_25 (by decide) ?_
  exact mG_iret dX8_day_26 rfl ⟨rfl, H, fun _ _ => rfl⟩
set_option maxRecDepth 100000 in
set_option maxHeartbeats 4000000 in
theorem rp_day_ok {E : mE} {h : mH} {n : Nat} {tx cb db bb dg nw kn bf sr : Nat → Nat} {ik : Nat → Bool} {mo : Nat} {od : Nat → Nat} {fa : Nat} {fo fi : Nat → Nat} {tr : Int64} {j : Nat} (H : rI h n tx cb db bb dg nw kn bf sr ik mo od fa fo fi tr) (F : rF n tx cb db bb dg nw kn mo od fa fo fi) (hj : j < db 0) : mOk E 2 zX8_day [.ref 40, vN j] h (rQ h (vN (dg j)) (rI · n tx cb db bb dg nw kn bf sr ik mo od fa fo fi tr)) := by
  obtain ⟨t, wr, it, fg, ls, e40, e41, e42, e43, e44, e45, e46, e47, e48, e49, e50, e51, e52, e53, e54, e55⟩ := id H
  obtain ⟨hn, htx, hcb, hdb, hbb, ho, hnf, hca4, hca, hfr, hwk, hdg, hkn, hfa, hfo, hfi⟩ := id F
  have qj := isIx_nI (show db 0 < 2 ^ 31 by omega) hj
  refine mOk_w (L := [some (.ref 40), some (vN j)]) pn_X8 rfl (Nat.le_of_ble_eq_true rfl) rfl ?_
  refine mG_iload_n dX8_day_0 rfl ?_
  refine mG_iconst (v := nI 0) dX8_day_1 (by decide) ?_
  refine mG_aload_n dX8_day_2 rfl ?_
  refine mG_get fX8_17 dX8_day_3 e40 (Nat.le_of_ble_eq_true rfl) rfl ?_
  refine mG_iconst (v := nI 0) dX8_day_6 (by decide) ?_
  refine mG_ialdA dX8_day_7 e43 (Nat.le_of_ble_eq_true rfl) (by decide) (by omega) ?_
  refine mG_iconst (v := nI 1) dX8_day_8 (by decide) ?_
  refine mG_isub dX8_day_9 ?_
  refine mG_cs3 sX8_63 dX8_day_10 (mLe_of rfl) (Nat.le_of_ble_eq_true rfl) (ok_X8_in) ?_
  rw [inI_m1 (by omega)]
  refine mG_if_eqB dX8_day_13 (fun c13 => Bool.noConfusion (c13.symm.trans qj)) (fun c13 => ?_)
  refine mG_aload_n dX8_day_16 rfl ?_
  refine mG_get fX8_26 dX8_day_17 e40 (Nat.le_of_ble_eq_true rfl) rfl ?_
  refine mG_iload_n dX8_day_20 rfl ?_
  refine mG_ialdA dX8_day_21 e46 (Nat.le_of_ble_eq_true rfl) (by decide) (by omega) ?_
  refine mG_goto dX8_day_22 ?_
  exact mG_iret dX8_day_26 rfl ⟨rfl, H, fun _ _ => rfl⟩
set_option maxRecDepth 100000 in
set_option maxHeartbeats 4000000 in
theorem rp_turn_bad {E : mE} {h : mH} {n : Nat} {tx cb db bb dg nw kn bf sr : Nat → Nat} {ik : Nat → Bool} {mo : Nat} {od : Nat → Nat} {fa : Nat} {fo fi : Nat → Nat} {tr : Int64} {c s : Int32} (H : rI h n tx cb db bb dg nw kn bf sr ik mo od fa fo fi tr) (F : rF n tx cb db bb dg nw kn mo od fa fo fi) (hb : (isIx c (cb 0) && isIx s 6) = false) : mOk E 3 zX8_turn [.ref 40, .int c, .int s] h (rQ h (.int (-1)) (rI · n tx cb db bb dg nw kn bf sr ik mo od fa fo fi tr)) := by
  obtain ⟨t, wr, it, fg, ls, e40, e41, e42, e43, e44, e45, e46, e47, e48, e49, e50, e51, e52, e53, e54, e55⟩ := id H
  obtain ⟨hn, htx, hcb, hdb, hbb, ho, hnf, hca4, hca, hfr, hwk, hdg, hkn, hfa, hfo, hfi⟩ := id F
  refine mOk_w (L := [some (.ref 40), some (.int c), some (.int s), none]) pn_X8 rfl (Nat.le_of_ble_eq_true rfl) rfl ?_
  refine mG_aload_n dX8_turn_0 rfl ?_
  refine mG_iload_n dX8_turn_1 rfl ?_
  refine mG_cv1 vX8_148 dX8_turn_2 (mLe_of rfl) (Nat.le_of_ble_eq_true rfl) e40 (Nat.le_of_ble_eq_true rfl) (ok_X8_isCube e40 e42 hcb) ?_
  refine mG_if_eqB dX8_turn_5 (fun c5 => ?_) (fun c5 => ?_)
  · refine mG_iconst (v := (-1)) dX8_turn_15 (by decide) ?_
    exact mG_iret dX8_turn_16 rfl ⟨rfl, H, fun _ _ => rfl⟩
  · refine mG_iload_n dX8_turn_8 rfl ?_
    refine mG_cs1 sX8_151 dX8_turn_9 (mLe_of rfl) (Nat.le_of_ble_eq_true rfl) (ok_X8_isSide) ?_
    rw [c5, Bool.true_and] at hb
    refine mG_if_neB dX8_turn_12 (fun c12 => Bool.noConfusion (c12.symm.trans hb)) (fun c12 => ?_)
    refine mG_iconst (v := (-1)) dX8_turn_15 (by decide) ?_
    exact mG_iret dX8_turn_16 rfl ⟨rfl, H, fun _ _ => rfl⟩
set_option maxRecDepth 100000 in
set_option maxHeartbeats 4000000 in
theorem rp_turn_same {E : mE} {h : mH} {n : Nat} {tx cb db bb dg nw kn bf sr : Nat → Nat} {ik : Nat → Bool} {mo : Nat} {od : Nat → Nat} {fa : Nat} {fo fi : Nat → Nat} {tr : Int64} {j k : Nat} (H : rI h n tx cb db bb dg nw kn bf sr ik mo od fa fo fi tr) (F : rF n tx cb db bb dg nw kn mo od fa fo fi) (hj : j < cb 0) (hk : k < 6) (hs : nw (28 + j) = k) : mOk E 3 zX8_turn [.ref 40, vN j, vN k] h (rQ h (.int (-2)) (rI · n tx cb db bb dg nw kn bf sr ik mo od fa fo fi tr)) := by
  obtain ⟨t, wr, it, fg, ls, e40, e41, e42, e43, e44, e45, e46, e47, e48, e49, e50, e51, e52, e53, e54, e55⟩ := id H
  obtain ⟨hn, htx, hcb, hdb, hbb, ho, hnf, hca4, hca, hfr, hwk, hdg, hkn, hfa, hfo, hfi⟩ := id F
  have qj := isIx_nI (show cb 0 < 2 ^ 31 by omega) hj
  have qk := isIx_nI (show 6 < 2 ^ 31 by decide) hk
  have hfj := hfr j (by omega)
  refine mOk_w (L := [some (.ref 40), some (vN j), some (vN k), none]) pn_X8 rfl (Nat.le_of_ble_eq_true rfl) rfl ?_
  refine mG_aload_n dX8_turn_0 rfl ?_
  refine mG_iload_n dX8_turn_1 rfl ?_
  refine mG_cv1 vX8_148 dX8_turn_2 (mLe_of rfl) (Nat.le_of_ble_eq_true rfl) e40 (Nat.le_of_ble_eq_true rfl) (ok_X8_isCube e40 e42 hcb) ?_
  refine mG_if_eqB dX8_turn_5 (fun c5 => Bool.noConfusion (c5.symm.trans qj)) (fun c5 => ?_)
  refine mG_iload_n dX8_turn_8 rfl ?_
  refine mG_cs1 sX8_151 dX8_turn_9 (mLe_of rfl) (Nat.le_of_ble_eq_true rfl) (ok_X8_isSide) ?_
  refine mG_if_neB dX8_turn_12 (fun c12 => ?_) (fun c12 => Bool.noConfusion (c12.symm.trans qk))
  refine mG_aload_n dX8_turn_17 rfl ?_
  refine mG_get fX8_29 dX8_turn_18 e40 (Nat.le_of_ble_eq_true rfl) rfl ?_
  refine mG_bipush (v := nI 28) dX8_turn_21 (by decide) ?_
  refine mG_iload_n dX8_turn_23 rfl ?_
  refine mG_iaddN dX8_turn_24 ?_
  refine mG_ialdA dX8_turn_25 e47 (Nat.le_of_ble_eq_true rfl) (by decide) (by omega) ?_
  refine mG_istore_n dX8_turn_26 (Nat.le_of_ble_eq_true rfl) rfl rfl ?_
  refine mG_iload_n dX8_turn_27 rfl ?_
  refine mG_iload_n dX8_turn_28 rfl ?_
  refine mG_icmp_neN dX8_turn_29 (by omega) (by omega) (fun c29 => absurd hs c29) (fun c29 => ?_)
  refine mG_bipush (v := (-2)) dX8_turn_32 (by decide) ?_
  exact mG_iret dX8_turn_34 rfl ⟨rfl, H, fun _ _ => rfl⟩
set_option maxRecDepth 100000 in
set_option maxHeartbeats 4000000 in
theorem rp_turn_ok {E : mE} {h : mH} {n : Nat} {tx cb db bb dg nw kn bf sr : Nat → Nat} {ik : Nat → Bool} {mo : Nat} {od : Nat → Nat} {fa : Nat} {fo fi : Nat → Nat} {tr : Int64} {j k : Nat} (H : rI h n tx cb db bb dg nw kn bf sr ik mo od fa fo fi tr) (F : rF n tx cb db bb dg nw kn mo od fa fo fi) (hj : j < cb 0) (hk : k < 6) (hs : ¬ nw (28 + j) = k) : mOk E 3 zX8_turn [.ref 40, vN j, vN k] h (rQ h (vN (min (nw 32 + tW (nw (28 + j)) k) 9999)) (rI · n tx cb db bb dg (mUp (mUp nw (28 + j) k) 32 (min (nw 32 + tW (nw (28 + j)) k) 9999)) (mUp kn 0 (dn0 (kn 0) + 1)) (bfK (kn 0) bf nw) sr ik mo od fa fo fi tr)) := by
  obtain ⟨t, wr, it, fg, ls, e40, e41, e42, e43, e44, e45, e46, e47, e48, e49, e50, e51, e52, e53, e54, e55⟩ := id H
  obtain ⟨hn, htx, hcb, hdb, hbb, ho, hnf, hca4, hca, hfr, hwk, hdg, hkn, hfa, hfo, hfi⟩ := id F
  have qj := isIx_nI (show cb 0 < 2 ^ 31 by omega) hj
  have qk := isIx_nI (show 6 < 2 ^ 31 by decide) hk
  have hfj := hfr j (by omega)
  have htw := tW_le (nw (28 + j)) k
  have e32 : mUp nw (28 + j) k 32 = nw 32 := mUp_ne _ _ (by omega)
  refine mOk_w (L := [some (.ref 40), some (vN j), some (vN k), none]) pn_X8 rfl (Nat.le_of_ble_eq_true rfl) rfl ?_
  refine mG_aload_n dX8_turn_0 rfl ?_
  refine mG_iload_n dX8_turn_1 rfl ?_
  refine mG_cv1 vX8_148 dX8_turn_2 (mLe_of rfl) (Nat.le_of_ble_eq_true rfl) e40 (Nat.le_of_ble_eq_true rfl) (ok_X8_isCube e40 e42 hcb) ?_
  refine mG_if_eqB dX8_turn_5 (fun c5 => Bool.noConfusion (c5.symm.trans qj)) (fun c5 => ?_)
  refine mG_iload_n dX8_turn_8 rfl ?_
  refine mG_cs1 sX8_151 dX8_turn_9 (mLe_of rfl) (Nat.le_of_ble_eq_true rfl) (ok_X8_isSide) ?_
  refine mG_if_neB dX8_turn_12 (fun c12 => ?_) (fun c12 => Bool.noConfusion (c12.symm.trans qk))
  refine mG_aload_n dX8_turn_17 rfl ?_
  refine mG_get fX8_29 dX8_turn_18 e40 (Nat.le_of_ble_eq_true rfl) rfl ?_
  refine mG_bipush (v := nI 28) dX8_turn_21 (by decide) ?_
  refine mG_iload_n dX8_turn_23 rfl ?_
  refine mG_iaddN dX8_turn_24 ?_
  refine mG_ialdA dX8_turn_25 e47 (Nat.le_of_ble_eq_true rfl) (by decide) (by omega) ?_
  refine mG_istore_n dX8_turn_26 (Nat.le_of_ble_eq_true rfl) rfl rfl ?_
  refine mG_iload_n dX8_turn_27 rfl ?_
  refine mG_iload_n dX8_turn_28 rfl ?_
  refine mG_icmp_neN dX8_turn_29 (by omega) (by omega) (fun c29 => ?_) (fun c29 => absurd c29 hs)
  refine mG_aload_n dX8_turn_35 rfl ?_
  refine mG_cw0 vX8_163 dX8_turn_36 (mLe_of rfl) (Nat.le_of_ble_eq_true rfl) e40 (Nat.le_of_ble_eq_true rfl) (ok_X8_know e40 e47 e48 e49 hkn) ?_
  refine mG_aload_n dX8_turn_39 rfl ?_
  refine mG_get fX8_29 dX8_turn_40 e40 (Nat.le_of_ble_eq_true rfl) rfl ?_
  refine mG_bipush (v := nI 28) dX8_turn_43 (by decide) ?_
  refine mG_iload_n dX8_turn_45 rfl ?_
  refine mG_iaddN dX8_turn_46 ?_
  refine mG_iload_n dX8_turn_47 rfl ?_
  refine mG_iastA dX8_turn_48 e47 (Nat.le_of_ble_eq_true rfl) (by decide) (by omega) ?_
  refine mG_aload_n dX8_turn_49 rfl ?_
  refine mG_iload_n dX8_turn_50 rfl ?_
  refine mG_iload_n dX8_turn_51 rfl ?_
  refine mG_cs2 sX8_166 dX8_turn_52 (mLe_of rfl) (Nat.le_of_ble_eq_true rfl) (ok_X8_turnsTo hfj hk) ?_
  refine mG_cv1 vX8_169 dX8_turn_55 (mLe_of rfl) (Nat.le_of_ble_eq_true rfl) e40 (Nat.le_of_ble_eq_true rfl) (ok_X8_worked e40 rfl (by rw [e32]; exact hwk) (by omega)) ?_
  exact mG_iret dX8_turn_58 rfl ⟨by rw [e32], ⟨t, wr, it, fg, ls, e40, e41, e42, e43, e44, e45, e46, (by rw [e32]; rfl), rfl, rfl, e50, e51, e52, e53, e54, e55⟩, fun b hb => by simp only [mU, show ¬ b = 48 from by omega, show ¬ b = 49 from by omega, show ¬ b = 47 from by omega, if_false]⟩
set_option maxRecDepth 100000 in
set_option maxHeartbeats 4000000 in
theorem rp_changes_bad {E : mE} {h : mH} {n : Nat} {tx cb db bb dg nw kn bf sr : Nat → Nat} {ik : Nat → Bool} {mo : Nat} {od : Nat → Nat} {fa : Nat} {fo fi : Nat → Nat} {tr : Int64} {c s : Int32} (H : rI h n tx cb db bb dg nw kn bf sr ik mo od fa fo fi tr) (F : rF n tx cb db bb dg nw kn mo od fa fo fi) (hb : isIx c (cb 0) = false ∨ isIx s (cb 0) = false ∨ c = s) : mOk E 3 zX8_changes [.ref 40, .int c, .int s] h (rQ h (.int (-1)) (rI · n tx cb db bb dg nw kn bf sr ik mo od fa fo fi tr)) := by
  obtain ⟨t, wr, it, fg, ls, e40, e41, e42, e43, e44, e45, e46, e47, e48, e49, e50, e51, e52, e53, e54, e55⟩ := id H
  obtain ⟨hn, htx, hcb, hdb, hbb, ho, hnf, hca4, hca, hfr, hwk, hdg, hkn, hfa, hfo, hfi⟩ := id F
  refine mOk_w (L := [some (.ref 40), some (.int c), some (.int s), none]) pn_X8 rfl (Nat.le_of_ble_eq_true rfl) rfl ?_
  refine mG_aload_n dX8_changes_0 rfl ?_
  refine mG_iload_n dX8_changes_1 rfl ?_
  refine mG_cv1 vX8_148 dX8_changes_2 (mLe_of rfl) (Nat.le_of_ble_eq_true rfl) e40 (Nat.le_of_ble_eq_true rfl) (ok_X8_isCube e40 e42 hcb) ?_
  refine mG_if_eqB dX8_changes_5 (fun c5 => ?_) (fun c5 => ?_)
  · refine mG_iconst (v := (-1)) dX8_changes_21 (by decide) ?_
    exact mG_iret dX8_changes_22 rfl ⟨rfl, H, fun _ _ => rfl⟩
  · refine mG_aload_n dX8_changes_8 rfl ?_
    refine mG_iload_n dX8_changes_9 rfl ?_
    refine mG_cv1 vX8_148 dX8_changes_10 (mLe_of rfl) (Nat.le_of_ble_eq_true rfl) e40 (Nat.le_of_ble_eq_true rfl) (ok_X8_isCube e40 e42 hcb) ?_
    refine mG_if_eqB dX8_changes_13 (fun c13 => ?_) (fun c13 => ?_)
    · refine mG_iconst (v := (-1)) dX8_changes_21 (by decide) ?_
      exact mG_iret dX8_changes_22 rfl ⟨rfl, H, fun _ _ => rfl⟩
    · refine mG_iload_n dX8_changes_16 rfl ?_
      refine mG_iload_n dX8_changes_17 rfl ?_
      refine mG_icmp_ne dX8_changes_18 (fun c18 => by (rcases hb with q | q | q; (exact Bool.noConfusion (c5.symm.trans q)); (exact Bool.noConfusion (c13.symm.trans q)); (exact absurd q c18))) (fun c18 => ?_)
      refine mG_iconst (v := (-1)) dX8_changes_21 (by decide) ?_
      exact mG_iret dX8_changes_22 rfl ⟨rfl, H, fun _ _ => rfl⟩
set_option maxRecDepth 100000 in
set_option maxHeartbeats 4000000 in
theorem rp_changes_ok {E : mE} {h : mH} {n : Nat} {tx cb db bb dg nw kn bf sr : Nat → Nat} {ik : Nat → Bool} {mo : Nat} {od : Nat → Nat} {fa : Nat} {fo fi : Nat → Nat} {tr : Int64} {j k : Nat} (H : rI h n tx cb db bb dg nw kn bf sr ik mo od fa fo fi tr) (F : rF n tx cb db bb dg nw kn mo od fa fo fi) (hj : j < cb 0) (hk : k < cb 0) (hs : ¬ j = k) : mOk E 3 zX8_changes [.ref 40, vN j, vN k] h (rQ h (vN (min (nw 32 + 1) 9999)) (rI · n tx cb db bb dg (mUp (mUp (mUp nw (24 + j) (nw (24 + k))) (24 + k) (nw (24 + j))) 32 (min (nw 32 + 1) 9999)) (mUp kn 0 (dn0 (kn 0) + 1)) (bfK (kn 0) bf nw) sr ik mo od fa fo fi tr)) := by
  obtain ⟨t, wr, it, fg, ls, e40, e41, e42, e43, e44, e45, e46, e47, e48, e49, e50, e51, e52, e53, e54, e55⟩ := id H
  obtain ⟨hn, htx, hcb, hdb, hbb, ho, hnf, hca4, hca, hfr, hwk, hdg, hkn, hfa, hfo, hfi⟩ := id F
  have qj := isIx_nI (show cb 0 < 2 ^ 31 by omega) hj
  have qk := isIx_nI (show cb 0 < 2 ^ 31 by omega) hk
  have e32 : mUp (mUp nw (24 + j) (nw (24 + k))) (24 + k) (nw (24 + j)) 32 = nw 32 := by rw [mUp_ne _ _ (by omega), mUp_ne _ _ (by omega)]
  refine mOk_w (L := [some (.ref 40), some (vN j), some (vN k), none]) pn_X8 rfl (Nat.le_of_ble_eq_true rfl) rfl ?_
  refine mG_aload_n dX8_changes_0 rfl ?_
  refine mG_iload_n dX8_changes_1 rfl ?_
  refine mG_cv1 vX8_148 dX8_changes_2 (mLe_of rfl) (Nat.le_of_ble_eq_true rfl) e40 (Nat.le_of_ble_eq_true rfl) (ok_X8_isCube e40 e42 hcb) ?_
  refine mG_if_eqB dX8_changes_5 (fun c5 => Bool.noConfusion (c5.symm.trans qj)) (fun c5 => ?_)
  refine mG_aload_n dX8_changes_8 rfl ?_
  refine mG_iload_n dX8_changes_9 rfl ?_
  refine mG_cv1 vX8_148 dX8_changes_10 (mLe_of rfl) (Nat.le_of_ble_eq_true rfl) e40 (Nat.le_of_ble_eq_true rfl) (ok_X8_isCube e40 e42 hcb) ?_
  refine mG_if_eqB dX8_changes_13 (fun c13 => Bool.noConfusion (c13.symm.trans qk)) (fun c13 => ?_)
  refine mG_iload_n dX8_changes_16 rfl ?_
  refine mG_iload_n dX8_changes_17 rfl ?_
  refine mG_icmp_neN dX8_changes_18 (by omega) (by omega) (fun c18 => ?_) (fun c18 => absurd c18 hs)
  refine mG_aload_n dX8_changes_23 rfl ?_
  refine mG_cw0 vX8_163 dX8_changes_24 (mLe_of rfl) (Nat.le_of_ble_eq_true rfl) e40 (Nat.le_of_ble_eq_true rfl) (ok_X8_know e40 e47 e48 e49 hkn) ?_
  refine mG_aload_n dX8_changes_27 rfl ?_
  refine mG_get fX8_29 dX8_changes_28 e40 (Nat.le_of_ble_eq_true rfl) rfl ?_
  refine mG_bipush (v := nI 24) dX8_changes_31 (by decide) ?_
  refine mG_iload_n dX8_changes_33 rfl ?_
  refine mG_iaddN dX8_changes_34 ?_
  refine mG_ialdA dX8_changes_35 e47 (Nat.le_of_ble_eq_true rfl) (by decide) (by omega) ?_
  refine mG_istore_n dX8_changes_36 (Nat.le_of_ble_eq_true rfl) rfl rfl ?_
  refine mG_aload_n dX8_changes_37 rfl ?_
  refine mG_get fX8_29 dX8_changes_38 e40 (Nat.le_of_ble_eq_true rfl) rfl ?_
  refine mG_bipush (v := nI 24) dX8_changes_41 (by decide) ?_
  refine mG_iload_n dX8_changes_43 rfl ?_
  refine mG_iaddN dX8_changes_44 ?_
  refine mG_aload_n dX8_changes_45 rfl ?_
  refine mG_get fX8_29 dX8_changes_46 e40 (Nat.le_of_ble_eq_true rfl) rfl ?_
  refine mG_bipush (v := nI 24) dX8_changes_49 (by decide) ?_
  refine mG_iload_n dX8_changes_51 rfl ?_
  refine mG_iaddN dX8_changes_52 ?_
  refine mG_ialdA dX8_changes_53 e47 (Nat.le_of_ble_eq_true rfl) (by decide) (by omega) ?_
  refine mG_iastA dX8_changes_54 e47 (Nat.le_of_ble_eq_true rfl) (by decide) (by omega) ?_
  refine mG_aload_n dX8_changes_55 rfl ?_
  refine mG_get fX8_29 dX8_changes_56 e40 (Nat.le_of_ble_eq_true rfl) rfl ?_
  refine mG_bipush (v := nI 24) dX8_changes_59 (by decide) ?_
  refine mG_iload_n dX8_changes_61 rfl ?_
  refine mG_iaddN dX8_changes_62 ?_
  refine mG_iload_n dX8_changes_63 rfl ?_
  refine mG_iastA dX8_changes_64 rfl (Nat.le_of_ble_eq_true rfl) (by decide) (by omega) ?_
  refine mG_aload_n dX8_changes_65 rfl ?_
  refine mG_iconst (v := nI 1) dX8_changes_66 (by decide) ?_
  refine mG_cv1 vX8_169 dX8_changes_67 (mLe_of rfl) (Nat.le_of_ble_eq_true rfl) e40 (Nat.le_of_ble_eq_true rfl) (ok_X8_worked e40 rfl (by rw [e32]; exact hwk) (by decide)) ?_
  exact mG_iret dX8_changes_70 rfl ⟨by rw [e32], ⟨t, wr, it, fg, ls, e40, e41, e42, e43, e44, e45, e46, (by rw [e32]; rfl), rfl, rfl, e50, e51, e52, e53, e54, e55⟩, fun b hb => by simp only [mU, show ¬ b = 48 from by omega, show ¬ b = 49 from by omega, show ¬ b = 47 from by omega, if_false]⟩
set_option maxRecDepth 100000 in
set_option maxHeartbeats 4000000 in
theorem rp_pastes_bad {E : mE} {h : mH} {n : Nat} {tx cb db bb dg nw kn bf sr : Nat → Nat} {ik : Nat → Bool} {mo : Nat} {od : Nat → Nat} {fa : Nat} {fo fi : Nat → Nat} {tr : Int64} {c s f : Int32} (H : rI h n tx cb db bb dg nw kn bf sr ik mo od fa fo fi tr) (F : rF n tx cb db bb dg nw kn mo od fa fo fi) (hb : (isIx c (cb 0) && (isIx s 6 && isIx f 10)) = false) : mOk E 3 zX8_pastes [.ref 40, .int c, .int s, .int f] h (rQ h (.int (-1)) (rI · n tx cb db bb dg nw kn bf sr ik mo od fa fo fi tr)) := by
  obtain ⟨t, wr, it, fg, ls, e40, e41, e42, e43, e44, e45, e46, e47, e48, e49, e50, e51, e52, e53, e54, e55⟩ := id H
  obtain ⟨hn, htx, hcb, hdb, hbb, ho, hnf, hca4, hca, hfr, hwk, hdg, hkn, hfa, hfo, hfi⟩ := id F
  refine mOk_w (L := [some (.ref 40), some (.int c), some (.int s), some (.int f), none]) pn_X8 rfl (Nat.le_of_ble_eq_true rfl) rfl ?_
  refine mG_aload_n dX8_pastes_0 rfl ?_
  refine mG_iload_n dX8_pastes_1 rfl ?_
  refine mG_cv1 vX8_148 dX8_pastes_2 (mLe_of rfl) (Nat.le_of_ble_eq_true rfl) e40 (Nat.le_of_ble_eq_true rfl) (ok_X8_isCube e40 e42 hcb) ?_
  refine mG_if_eqB dX8_pastes_5 (fun c5 => ?_) (fun c5 => ?_)
  · refine mG_iconst (v := (-1)) dX8_pastes_25 (by decide) ?_
    exact mG_iret dX8_pastes_26 rfl ⟨rfl, H, fun _ _ => rfl⟩
  · refine mG_iload_n dX8_pastes_8 rfl ?_
    refine mG_cs1 sX8_151 dX8_pastes_9 (mLe_of rfl) (Nat.le_of_ble_eq_true rfl) (ok_X8_isSide) ?_
    refine mG_if_eqB dX8_pastes_12 (fun c12 => ?_) (fun c12 => ?_)
    · refine mG_iconst (v := (-1)) dX8_pastes_25 (by decide) ?_
      exact mG_iret dX8_pastes_26 rfl ⟨rfl, H, fun _ _ => rfl⟩
    · refine mG_iload_n dX8_pastes_15 rfl ?_
      refine mG_iconst (v := nI 0) dX8_pastes_16 (by decide) ?_
      refine mG_bipush (v := nI 9) dX8_pastes_17 (by decide) ?_
      refine mG_cs3 sX8_63 dX8_pastes_19 (mLe_of rfl) (Nat.le_of_ble_eq_true rfl) (ok_X8_in) ?_
      rw [inI_ix (by decide)]
      rw [c5, c12, Bool.true_and, Bool.true_and] at hb
      refine mG_if_neB dX8_pastes_22 (fun c22 => Bool.noConfusion (c22.symm.trans hb)) (fun c22 => ?_)
      refine mG_iconst (v := (-1)) dX8_pastes_25 (by decide) ?_
      exact mG_iret dX8_pastes_26 rfl ⟨rfl, H, fun _ _ => rfl⟩
set_option maxRecDepth 100000 in
set_option maxHeartbeats 4000000 in
theorem rp_pastes_same {E : mE} {h : mH} {n : Nat} {tx cb db bb dg nw kn bf sr : Nat → Nat} {ik : Nat → Bool} {mo : Nat} {od : Nat → Nat} {fa : Nat} {fo fi : Nat → Nat} {tr : Int64} {j k f : Nat} (H : rI h n tx cb db bb dg nw kn bf sr ik mo od fa fo fi tr) (F : rF n tx cb db bb dg nw kn mo od fa fo fi) (hj : j < cb 0) (hk : k < 6) (hf : f < 10) (hs : nw (6 * j + k) = f) : mOk E 3 zX8_pastes [.ref 40, vN j, vN k, vN f] h (rQ h (.int (-2)) (rI · n tx cb db bb dg nw kn bf sr ik mo od fa fo fi tr)) := by
  obtain ⟨t, wr, it, fg, ls, e40, e41, e42, e43, e44, e45, e46, e47, e48, e49, e50, e51, e52, e53, e54, e55⟩ := id H
  obtain ⟨hn, htx, hcb, hdb, hbb, ho, hnf, hca4, hca, hfr, hwk, hdg, hkn, hfa, hfo, hfi⟩ := id F
  have qj := isIx_nI (show cb 0 < 2 ^ 31 by omega) hj
  have qk := isIx_nI (show 6 < 2 ^ 31 by decide) hk
  have qf := isIx_nI (show 10 < 2 ^ 31 by decide) hf
  have hnj := hnf (6 * j + k) (by omega)
  refine mOk_w (L := [some (.ref 40), some (vN j), some (vN k), some (vN f), none]) pn_X8 rfl (Nat.le_of_ble_eq_true rfl) rfl ?_
  refine mG_aload_n dX8_pastes_0 rfl ?_
  refine mG_iload_n dX8_pastes_1 rfl ?_
  refine mG_cv1 vX8_148 dX8_pastes_2 (mLe_of rfl) (Nat.le_of_ble_eq_true rfl) e40 (Nat.le_of_ble_eq_true rfl) (ok_X8_isCube e40 e42 hcb) ?_
  refine mG_if_eqB dX8_pastes_5 (fun c5 => Bool.noConfusion (c5.symm.trans qj)) (fun c5 => ?_)
  refine mG_iload_n dX8_pastes_8 rfl ?_
  refine mG_cs1 sX8_151 dX8_pastes_9 (mLe_of rfl) (Nat.le_of_ble_eq_true rfl) (ok_X8_isSide) ?_
  refine mG_if_eqB dX8_pastes_12 (fun c12 => Bool.noConfusion (c12.symm.trans qk)) (fun c12 => ?_)
  refine mG_iload_n dX8_pastes_15 rfl ?_
  refine mG_iconst (v := nI 0) dX8_pastes_16 (by decide) ?_
  refine mG_bipush (v := nI 9) dX8_pastes_17 (by decide) ?_
  refine mG_cs3 sX8_63 dX8_pastes_19 (mLe_of rfl) (Nat.le_of_ble_eq_true rfl) (ok_X8_in) ?_
  rw [inI_ix (by decide)]
  refine mG_if_neB dX8_pastes_22 (fun c22 => ?_) (fun c22 => Bool.noConfusion (c22.symm.trans qf))
  refine mG_aload_n dX8_pastes_27 rfl ?_
  refine mG_get fX8_29 dX8_pastes_28 e40 (Nat.le_of_ble_eq_true rfl) rfl ?_
  refine mG_bipush (v := nI 6) dX8_pastes_31 (by decide) ?_
  refine mG_iload_n dX8_pastes_33 rfl ?_
  refine mG_imulN dX8_pastes_34 ?_
  refine mG_iload_n dX8_pastes_35 rfl ?_
  refine mG_iaddN dX8_pastes_36 ?_
  refine mG_ialdA dX8_pastes_37 e47 (Nat.le_of_ble_eq_true rfl) (by decide) (by omega) ?_
  refine mG_istore dX8_pastes_38 (Nat.le_of_ble_eq_true rfl) rfl rfl ?_
  refine mG_iload dX8_pastes_40 rfl ?_
  refine mG_iload_n dX8_pastes_42 rfl ?_
  refine mG_icmp_neN dX8_pastes_43 (by omega) (by omega) (fun c43 => absurd hs c43) (fun c43 => ?_)
  refine mG_bipush (v := (-2)) dX8_pastes_46 (by decide) ?_
  exact mG_iret dX8_pastes_48 rfl ⟨rfl, H, fun _ _ => rfl⟩
set_option maxRecDepth 100000 in
set_option maxHeartbeats 4000000 in
theorem rp_pastes_ok {E : mE} {h : mH} {n : Nat} {tx cb db bb dg nw kn bf sr : Nat → Nat} {ik : Nat → Bool} {mo : Nat} {od : Nat → Nat} {fa : Nat} {fo fi : Nat → Nat} {tr : Int64} {j k f : Nat} (H : rI h n tx cb db bb dg nw kn bf sr ik mo od fa fo fi tr) (F : rF n tx cb db bb dg nw kn mo od fa fo fi) (hj : j < cb 0) (hk : k < 6) (hf : f < 10) (hs : ¬ nw (6 * j + k) = f) : mOk E 3 zX8_pastes [.ref 40, vN j, vN k, vN f] h (rQ h (vN (nw (6 * j + k))) (rI · n tx cb db bb dg (mUp nw (6 * j + k) f) (mUp kn 0 (dn0 (kn 0) + 1)) (bfK (kn 0) bf nw) sr ik mo od fa fo fi tr)) := by
  obtain ⟨t, wr, it, fg, ls, e40, e41, e42, e43, e44, e45, e46, e47, e48, e49, e50, e51, e52, e53, e54, e55⟩ := id H
  obtain ⟨hn, htx, hcb, hdb, hbb, ho, hnf, hca4, hca, hfr, hwk, hdg, hkn, hfa, hfo, hfi⟩ := id F
  have qj := isIx_nI (show cb 0 < 2 ^ 31 by omega) hj
  have qk := isIx_nI (show 6 < 2 ^ 31 by decide) hk
  have qf := isIx_nI (show 10 < 2 ^ 31 by decide) hf
  have hnj := hnf (6 * j + k) (by omega)
  refine mOk_w (L := [some (.ref 40), some (vN j), some (vN k), some (vN f), none]) pn_X8 rfl (Nat.le_of_ble_eq_true rfl) rfl ?_
  refine mG_aload_n dX8_pastes_0 rfl ?_
  refine mG_iload_n dX8_pastes_1 rfl ?_
  refine mG_cv1 vX8_148 dX8_pastes_2 (mLe_of rfl) (Nat.le_of_ble_eq_true rfl) e40 (Nat.le_of_ble_eq_true rfl) (ok_X8_isCube e40 e42 hcb) ?_
  refine mG_if_eqB dX8_pastes_5 (fun c5 => Bool.noConfusion (c5.symm.trans qj)) (fun c5 => ?_)
  refine mG_iload_n dX8_pastes_8 rfl ?_
  refine mG_cs1 sX8_151 dX8_pastes_9 (mLe_of rfl) (Nat.le_of_ble_eq_true rfl) (ok_X8_isSide) ?_
  refine mG_if_eqB dX8_pastes_12 (fun c12 => Bool.noConfusion (c12.symm.trans qk)) (fun c12 => ?_)
  refine mG_iload_n dX8_pastes_15 rfl ?_
  refine mG_iconst (v := nI 0) dX8_pastes_16 (by decide) ?_
  refine mG_bipush (v := nI 9) dX8_pastes_17 (by decide) ?_
  refine mG_cs3 sX8_63 dX8_pastes_19 (mLe_of rfl) (Nat.le_of_ble_eq_true rfl) (ok_X8_in) ?_
  rw [inI_ix (by decide)]
  refine mG_if_neB dX8_pastes_22 (fun c22 => ?_) (fun c22 => Bool.noConfusion (c22.symm.trans qf))
  refine mG_aload_n dX8_pastes_27 rfl ?_
  refine mG_get fX8_29 dX8_pastes_28 e40 (Nat.le_of_ble_eq_true rfl) rfl ?_
  refine mG_bipush (v := nI 6) dX8_pastes_31 (by decide) ?_
  refine mG_iload_n dX8_pastes_33 rfl ?_
  refine mG_imulN dX8_pastes_34 ?_
  refine mG_iload_n dX8_pastes_35 rfl ?_
  refine mG_iaddN dX8_pastes_36 ?_
  refine mG_ialdA dX8_pastes_37 e47 (Nat.le_of_ble_eq_true rfl) (by decide) (by omega) ?_
  refine mG_istore dX8_pastes_38 (Nat.le_of_ble_eq_true rfl) rfl rfl ?_
  refine mG_iload dX8_pastes_40 rfl ?_
  refine mG_iload_n dX8_pastes_42 rfl ?_
  refine mG_icmp_neN dX8_pastes_43 (by omega) (by omega) (fun c43 => ?_) (fun c43 => absurd c43 hs)
  refine mG_aload_n dX8_pastes_49 rfl ?_
  refine mG_cw0 vX8_163 dX8_pastes_50 (mLe_of rfl) (Nat.le_of_ble_eq_true rfl) e40 (Nat.le_of_ble_eq_true rfl) (ok_X8_know e40 e47 e48 e49 hkn) ?_
  refine mG_aload_n dX8_pastes_53 rfl ?_
  refine mG_get fX8_29 dX8_pastes_54 e40 (Nat.le_of_ble_eq_true rfl) rfl ?_
  refine mG_bipush (v := nI 6) dX8_pastes_57 (by decide) ?_
  refine mG_iload_n dX8_pastes_59 rfl ?_
  refine mG_imulN dX8_pastes_60 ?_
  refine mG_iload_n dX8_pastes_61 rfl ?_
  refine mG_iaddN dX8_pastes_62 ?_
  refine mG_iload_n dX8_pastes_63 rfl ?_
  refine mG_iastA dX8_pastes_64 e47 (Nat.le_of_ble_eq_true rfl) (by decide) (by omega) ?_
  refine mG_iload dX8_pastes_65 rfl ?_
  exact mG_iret dX8_pastes_67 rfl ⟨rfl, ⟨t, wr, it, fg, ls, e40, e41, e42, e43, e44, e45, e46, rfl, rfl, rfl, e50, e51, e52, e53, e54, e55⟩, fun b hb => by simp only [mU, show ¬ b = 48 from by omega, show ¬ b = 49 from by omega, show ¬ b = 47 from by omega, if_false]⟩
set_option maxRecDepth 100000 in
set_option maxHeartbeats 4000000 in
theorem rp_undo_none {E : mE} {h : mH} {n : Nat} {tx cb db bb dg nw kn bf sr : Nat → Nat} {ik : Nat → Bool} {mo : Nat} {od : Nat → Nat} {fa : Nat} {fo fi : Nat → Nat} {tr : Int64} (H : rI h n tx cb db bb dg nw kn bf sr ik mo od fa fo fi tr) (F : rF n tx cb db bb dg nw kn mo od fa fo fi) (hd : kn 0 = 0) : mOk E 2 zX8_undo [.ref 40] h (rQ h (.int (-2)) (rI · n tx cb db bb dg nw kn bf sr ik mo od fa fo fi tr)) := by
  obtain ⟨t, wr, it, fg, ls, e40, e41, e42, e43, e44, e45, e46, e47, e48, e49, e50, e51, e52, e53, e54, e55⟩ := id H
  obtain ⟨hn, htx, hcb, hdb, hbb, ho, hnf, hca4, hca, hfr, hwk, hdg, hkn, hfa, hfo, hfi⟩ := id F
  refine mOk_w (L := [some (.ref 40), none]) pn_X8 rfl (Nat.le_of_ble_eq_true rfl) rfl ?_
  refine mG_aload_n dX8_undo_0 rfl ?_
  refine mG_get fX8_32 dX8_undo_1 e40 (Nat.le_of_ble_eq_true rfl) rfl ?_
  refine mG_iconst (v := nI 0) dX8_undo_4 (by decide) ?_
  refine mG_ialdA dX8_undo_5 e48 (Nat.le_of_ble_eq_true rfl) (by decide) (by omega) ?_
  refine mG_if_neN dX8_undo_6 (by omega) (fun c6 => absurd hd c6) (fun c6 => ?_)
  refine mG_bipush (v := (-2)) dX8_undo_9 (by decide) ?_
  exact mG_iret dX8_undo_11 rfl ⟨rfl, H, fun _ _ => rfl⟩
set_option maxRecDepth 100000 in
set_option maxHeartbeats 4000000 in
theorem rp_undo_ok {E : mE} {h : mH} {n : Nat} {tx cb db bb dg nw kn bf sr : Nat → Nat} {ik : Nat → Bool} {mo : Nat} {od : Nat → Nat} {fa : Nat} {fo fi : Nat → Nat} {tr : Int64} (H : rI h n tx cb db bb dg nw kn bf sr ik mo od fa fo fi tr) (F : rF n tx cb db bb dg nw kn mo od fa fo fi) (hd : ¬ kn 0 = 0) : mOk E 1 zX8_undo [.ref 40] h (rQ h (vN (kn 0 - 1)) (rI · n tx cb db bb dg (cpF bf nw (33 * (kn 0 - 1)) 0 33) (mUp kn 0 (kn 0 - 1)) bf sr ik mo od fa fo fi tr)) := by
  obtain ⟨t, wr, it, fg, ls, e40, e41, e42, e43, e44, e45, e46, e47, e48, e49, e50, e51, e52, e53, e54, e55⟩ := id H
  obtain ⟨hn, htx, hcb, hdb, hbb, ho, hnf, hca4, hca, hfr, hwk, hdg, hkn, hfa, hfo, hfi⟩ := id F
  refine mOk_imp (ok_X8_undo e40 e47 e48 e49 hkn hd) ?_
  rintro r h' ⟨rfl, rfl⟩
  exact ⟨rfl, ⟨t, wr, it, fg, ls, e40, e41, e42, e43, e44, e45, e46, rfl, rfl, e49, e50, e51, e52, e53, e54, e55⟩, fun b hb => by simp only [mU, show ¬ b = 48 from by omega, show ¬ b = 47 from by omega, if_false]⟩
set_option maxRecDepth 100000 in
set_option maxHeartbeats 4000000 in
theorem rp_now_no {E : mE} {h : mH} {n : Nat} {tx cb db bb dg nw kn bf sr : Nat → Nat} {ik : Nat → Bool} {mo : Nat} {od : Nat → Nat} {fa : Nat} {fo fi : Nat → Nat} {tr : Int64} {wh : Int32} (H : rI h n tx cb db bb dg nw kn bf sr ik mo od fa fo fi tr) (F : rF n tx cb db bb dg nw kn mo od fa fo fi) (hb : isIx wh 5 = false) : mOk E 5 zX8_now [.ref 40, .int wh] h (rQ h (.int (-1)) (rI · n tx cb db bb dg nw kn bf sr ik mo od fa fo fi tr)) := by
  obtain ⟨t, wr, it, fg, ls, e40, e41, e42, e43, e44, e45, e46, e47, e48, e49, e50, e51, e52, e53, e54, e55⟩ := id H
  obtain ⟨hn, htx, hcb, hdb, hbb, ho, hnf, hca4, hca, hfr, hwk, hdg, hkn, hfa, hfo, hfi⟩ := id F
  refine mOk_w (L := [some (.ref 40), some (.int wh), none, none]) pn_X8 rfl (Nat.le_of_ble_eq_true rfl) rfl ?_
  refine mG_iconst (v := nI 0) dX8_now_0 (by decide) ?_
  refine mG_istore_n dX8_now_1 (Nat.le_of_ble_eq_true rfl) rfl rfl ?_
  refine mG_iload_n dX8_now_2 rfl ?_
  refine mG_tableOut (tgt := 167) dX8_now_3 (by have := ix_out (by decide) hb; omega) (by decide) ?_
  refine mG_iconst (v := (-1)) dX8_now_167 (by decide) ?_
  exact mG_iret dX8_now_168 rfl ⟨rfl, H, fun _ _ => rfl⟩
set_option maxRecDepth 100000 in
set_option maxHeartbeats 4000000 in
theorem rp_now_0 {E : mE} {h : mH} {n : Nat} {tx cb db bb dg nw kn bf sr : Nat → Nat} {ik : Nat → Bool} {mo : Nat} {od : Nat → Nat} {fa : Nat} {fo fi : Nat → Nat} {tr : Int64} (H : rI h n tx cb db bb dg nw kn bf sr ik mo od fa fo fi tr) (F : rF n tx cb db bb dg nw kn mo od fa fo fi) : mOk E 5 zX8_now [.ref 40, vN 0] h (rQ h (vN (nw 32)) (rI · n tx cb db bb dg nw kn bf sr ik mo od fa fo fi tr)) := by
  obtain ⟨t, wr, it, fg, ls, e40, e41, e42, e43, e44, e45, e46, e47, e48, e49, e50, e51, e52, e53, e54, e55⟩ := id H
  obtain ⟨hn, htx, hcb, hdb, hbb, ho, hnf, hca4, hca, hfr, hwk, hdg, hkn, hfa, hfo, hfi⟩ := id F
  refine mOk_w (L := [some (.ref 40), some (vN 0), none, none]) pn_X8 rfl (Nat.le_of_ble_eq_true rfl) rfl ?_
  refine mG_iconst (v := nI 0) dX8_now_0 (by decide) ?_
  refine mG_istore_n dX8_now_1 (Nat.le_of_ble_eq_true rfl) rfl rfl ?_
  refine mG_iload_n dX8_now_2 rfl ?_
  refine mG_tableIn (off := 33) (tgt := 36) dX8_now_3 (by decide) (by decide) (by decide) (by decide) ?_
  refine mG_aload_n dX8_now_36 rfl ?_
  refine mG_get fX8_29 dX8_now_37 e40 (Nat.le_of_ble_eq_true rfl) rfl ?_
  refine mG_bipush (v := nI 32) dX8_now_40 (by decide) ?_
  refine mG_ialdA dX8_now_42 e47 (Nat.le_of_ble_eq_true rfl) (by decide) (by omega) ?_
  exact mG_iret dX8_now_43 rfl ⟨rfl, H, fun _ _ => rfl⟩
set_option maxRecDepth 100000 in
set_option maxHeartbeats 4000000 in
theorem rp_now_4 {E : mE} {h : mH} {n : Nat} {tx cb db bb dg nw kn bf sr : Nat → Nat} {ik : Nat → Bool} {mo : Nat} {od : Nat → Nat} {fa : Nat} {fo fi : Nat → Nat} {tr : Int64} (H : rI h n tx cb db bb dg nw kn bf sr ik mo od fa fo fi tr) (F : rF n tx cb db bb dg nw kn mo od fa fo fi) : mOk E 5 zX8_now [.ref 40, vN 4] h (rQ h (vN (ddG (fun d => canR nw (decide (bb 0 = 1)) (cb 0) mo od (dg d) 0 6) (db 0))) (rI · n tx cb db bb dg nw kn bf sr ik mo od fa fo fi tr)) := by
  obtain ⟨t, wr, it, fg, ls, e40, e41, e42, e43, e44, e45, e46, e47, e48, e49, e50, e51, e52, e53, e54, e55⟩ := id H
  obtain ⟨hn, htx, hcb, hdb, hbb, ho, hnf, hca4, hca, hfr, hwk, hdg, hkn, hfa, hfo, hfi⟩ := id F
  refine mOk_w (L := [some (.ref 40), some (vN 4), none, none]) pn_X8 rfl (Nat.le_of_ble_eq_true rfl) rfl ?_
  refine mG_iconst (v := nI 0) dX8_now_0 (by decide) ?_
  refine mG_istore_n dX8_now_1 (Nat.le_of_ble_eq_true rfl) rfl rfl ?_
  refine mG_iload_n dX8_now_2 rfl ?_
  refine mG_tableIn (off := 159) (tgt := 162) dX8_now_3 (by decide) (by decide) (by decide) (by decide) ?_
  refine mG_aload_n dX8_now_162 rfl ?_
  refine mG_cv0 vX8_142 dX8_now_163 (mLe_of rfl) (Nat.le_of_ble_eq_true rfl) e40 (Nat.le_of_ble_eq_true rfl) (ok_X8_doneNow e40 e42 hcb e44 hbb e47 e53 ho hnf e43 hdb e46 hdg) ?_
  exact mG_iret dX8_now_166 rfl ⟨rfl, H, fun _ _ => rfl⟩
def niR (nw : Nat → Nat) : Nat → Nat
  | 0 => 0
  | p + 1 => 10 * niR nw p + nw (6 * nw (24 + p) + nw (28 + nw (24 + p)))
def luR (f : Nat → Bool) : Nat → Nat → Int32
  | _, 0 => -9
  | n, k + 1 => if f n = true then luR f (n + 1) k else nI n
set_option maxRecDepth 100000 in
set_option maxHeartbeats 4000000 in
theorem lp_X8_now1 {E : mE} {h : mH} {ty a sd so va it mo fa : Nat} {wr : Bool} {tr : Int64} {cb nw : Nat → Nat} (e40 : h 40 = oMo ty a sd so va wr it mo fa tr) (e42 : h 42 = mAr 2 cb) (hcb : cb 0 ≤ 4) (e47 : h 47 = mAr 33 nw) (hca : ∀ j, j < cb 0 → nw (24 + j) < cb 0) (hfr : ∀ j, j < 4 → nw (28 + j) < 6) : ∀ (k i : Nat), i + k = cb 0 → mG E (mR 5, zX8_now) (mKq E (mR 5) mN (mX (some (vN (niR nw (cb 0)))) h)) 46 [some (.ref 40), some (vN 1), some (vN (niR nw i)), some (vN i)] [] (mN, 0, 0) h := by
  intro k
  induction k with
  | zero =>
    intro i hk
    refine mG_iload_n dX8_now_46 rfl ?_
    refine mG_aload_n dX8_now_47 rfl ?_
    refine mG_get fX8_13 dX8_now_48 e40 (Nat.le_of_ble_eq_true rfl) rfl ?_
    refine mG_iconst (v := nI 0) dX8_now_51 (by decide) ?_
    refine mG_ialdA dX8_now_52 e42 (Nat.le_of_ble_eq_true rfl) (by decide) (by omega) ?_
    refine mG_icmp_geN dX8_now_53 (by omega) (by omega) (fun c53 => ?_) (fun c53 => absurd c53 (by omega))
    refine mG_iload_n dX8_now_81 rfl ?_
    exact mG_iret dX8_now_82 rfl (mX_of (by rw [show i = cb 0 by omega]) rfl)
  | succ k ih =>
    intro i hk
    refine mG_iload_n dX8_now_46 rfl ?_
    refine mG_aload_n dX8_now_47 rfl ?_
    refine mG_get fX8_13 dX8_now_48 e40 (Nat.le_of_ble_eq_true rfl) rfl ?_
    refine mG_iconst (v := nI 0) dX8_now_51 (by decide) ?_
    refine mG_ialdA dX8_now_52 e42 (Nat.le_of_ble_eq_true rfl) (by decide) (by omega) ?_
    refine mG_icmp_geN dX8_now_53 (by omega) (by omega) (fun c53 => absurd c53 (by omega)) (fun c53 => ?_)
    refine mG_bipush (v := nI 10) dX8_now_56 (by decide) ?_
    refine mG_iload_n dX8_now_58 rfl ?_
    refine mG_imulN dX8_now_59 ?_
    refine mG_aload_n dX8_now_60 rfl ?_
    refine mG_aload_n dX8_now_61 rfl ?_
    refine mG_get fX8_29 dX8_now_62 e40 (Nat.le_of_ble_eq_true rfl) rfl ?_
    refine mG_bipush (v := nI 24) dX8_now_65 (by decide) ?_
    refine mG_iload_n dX8_now_67 rfl ?_
    refine mG_iaddN dX8_now_68 ?_
    refine mG_ialdA dX8_now_69 e47 (Nat.le_of_ble_eq_true rfl) (by decide) (by omega) ?_
    have hci := hca i c53
    refine mG_cv1 vX8_172 dX8_now_70 (mLe_of rfl) (Nat.le_of_ble_eq_true rfl) e40 (Nat.le_of_ble_eq_true rfl) (ok_X8_inFront e40 e47 (by omega) (hfr _ (by omega))) ?_
    refine mG_iaddN dX8_now_73 ?_
    refine mG_istore_n dX8_now_74 (Nat.le_of_ble_eq_true rfl) rfl rfl ?_
    refine mG_iincN dX8_now_75 rfl (Nat.le_of_ble_eq_true rfl) rfl rfl ?_
    refine mG_goto dX8_now_78 ?_
    exact ih (i + 1) (by omega)
set_option maxRecDepth 100000 in
set_option maxHeartbeats 4000000 in
theorem lp_X8_now2 {E : mE} {h : mH} {ty a sd so va it mo fa : Nat} {wr : Bool} {tr : Int64} {bb cb nw od : Nat → Nat} (e40 : h 40 = oMo ty a sd so va wr it mo fa tr) (e42 : h 42 = mAr 2 cb) (hcb : cb 0 ≤ 4) (e44 : h 44 = mAr 2 bb) (hbb : bb 0 ≤ 1) (e47 : h 47 = mAr 33 nw) (e53 : h 53 = mAr 24 od) (ho : oOK (cb 0) mo od) (hnf : ∀ j, j < cb 0 * 6 → nw j < 10) (h10 : 10 ^ cb 0 ≤ 10000) : ∀ (k i : Nat), i + k = 10 ^ cb 0 → mG E (mR 5, zX8_now) (mKq E (mR 5) mN (mX (some (vN (smG (fun v => (canR nw (decide (bb 0 = 1)) (cb 0) mo od v 0 6).toNat) (10 ^ cb 0)))) h)) 85 [some (.ref 40), some (vN 2), some (vN (smG (fun v => (canR nw (decide (bb 0 = 1)) (cb 0) mo od v 0 6).toNat) i)), some (vN i)] [] (mN, 0, 0) h := by
  intro k
  induction k with
  | zero =>
    intro i hk
    refine mG_iload_n dX8_now_85 rfl ?_
    refine mG_aload_n dX8_now_86 rfl ?_
    refine mG_get fX8_13 dX8_now_87 e40 (Nat.le_of_ble_eq_true rfl) rfl ?_
    refine mG_iconst (v := nI 0) dX8_now_90 (by decide) ?_
    refine mG_ialdA dX8_now_91 e42 (Nat.le_of_ble_eq_true rfl) (by decide) (by omega) ?_
    refine mG_cs1 sX8_102 dX8_now_92 (mLe_of rfl) (Nat.le_of_ble_eq_true rfl) (ok_X8_power (by omega)) ?_
    refine mG_icmp_geN dX8_now_95 (by omega) (by omega) (fun c95 => ?_) (fun c95 => absurd c95 (by omega))
    refine mG_iload_n dX8_now_123 rfl ?_
    exact mG_iret dX8_now_124 rfl (mX_of (by rw [show i = 10 ^ cb 0 by omega]) rfl)
  | succ k ih =>
    intro i hk
    refine mG_iload_n dX8_now_85 rfl ?_
    refine mG_aload_n dX8_now_86 rfl ?_
    refine mG_get fX8_13 dX8_now_87 e40 (Nat.le_of_ble_eq_true rfl) rfl ?_
    refine mG_iconst (v := nI 0) dX8_now_90 (by decide) ?_
    refine mG_ialdA dX8_now_91 e42 (Nat.le_of_ble_eq_true rfl) (by decide) (by omega) ?_
    refine mG_cs1 sX8_102 dX8_now_92 (mLe_of rfl) (Nat.le_of_ble_eq_true rfl) (ok_X8_power (by omega)) ?_
    refine mG_icmp_geN dX8_now_95 (by omega) (by omega) (fun c95 => absurd c95 (by omega)) (fun c95 => ?_)
    refine mG_iload_n dX8_now_98 rfl ?_
    refine mG_aload_n dX8_now_99 rfl ?_
    refine mG_iload_n dX8_now_100 rfl ?_
    refine mG_iconst (v := nI 0) dX8_now_101 (by decide) ?_
    refine mG_bipush (v := nI 6) dX8_now_102 (by decide) ?_
    refine mG_cv3 vX8_139 dX8_now_104 (mLe_of rfl) (Nat.le_of_ble_eq_true rfl) e40 (Nat.le_of_ble_eq_true rfl) (ok_X8_can e40 e42 hcb e44 hbb e47 e53 ho hnf (by omega) (by decide) (by decide)) ?_
    refine mG_if_eqB dX8_now_107 (fun c107 => ?_) (fun c107 => ?_)
    · refine mG_iconst (v := nI 0) dX8_now_114 (by decide) ?_
      refine mG_iaddN dX8_now_115 ?_
      refine mG_istore_n dX8_now_116 (Nat.le_of_ble_eq_true rfl) rfl rfl ?_
      refine mG_iincN dX8_now_117 rfl (Nat.le_of_ble_eq_true rfl) rfl rfl ?_
      refine mG_goto dX8_now_120 ?_
      have q := ih (i + 1) (by omega)
      rw [smG] at q
      rw [c107] at q
      exact q
    · refine mG_iconst (v := nI 1) dX8_now_110 (by decide) ?_
      refine mG_goto dX8_now_111 ?_
      refine mG_iaddN dX8_now_115 ?_
      refine mG_istore_n dX8_now_116 (Nat.le_of_ble_eq_true rfl) rfl rfl ?_
      refine mG_iincN dX8_now_117 rfl (Nat.le_of_ble_eq_true rfl) rfl rfl ?_
      refine mG_goto dX8_now_120 ?_
      have q := ih (i + 1) (by omega)
      rw [smG] at q
      rw [c107] at q
      exact q
set_option maxRecDepth 100000 in
set_option maxHeartbeats 4000000 in
theorem lp_X8_now3 {E : mE} {h : mH} {ty a sd so va it mo fa : Nat} {wr : Bool} {tr : Int64} {R : Int32} {bb cb nw od : Nat → Nat} (e40 : h 40 = oMo ty a sd so va wr it mo fa tr) (e42 : h 42 = mAr 2 cb) (hcb : cb 0 ≤ 4) (e44 : h 44 = mAr 2 bb) (hbb : bb 0 ≤ 1) (e47 : h 47 = mAr 33 nw) (e53 : h 53 = mAr 24 od) (ho : oOK (cb 0) mo od) (hnf : ∀ j, j < cb 0 * 6 → nw j < 10) (h10 : 10 ^ cb 0 ≤ 10000) : ∀ (k i : Nat), i + k = 10 ^ cb 0 → R = luR (fun v => canR nw (decide (bb 0 = 1)) (cb 0) mo od v 0 6) i k → mG E (mR 5, zX8_now) (mKq E (mR 5) mN (mX (some (.int R)) h)) 127 [some (.ref 40), some (vN 3), some (vN 0), some (vN i)] [] (mN, 0, 0) h := by
  intro k
  induction k with
  | zero =>
    intro i hk hR
    refine mG_iload_n dX8_now_127 rfl ?_
    refine mG_aload_n dX8_now_128 rfl ?_
    refine mG_get fX8_13 dX8_now_129 e40 (Nat.le_of_ble_eq_true rfl) rfl ?_
    refine mG_iconst (v := nI 0) dX8_now_132 (by decide) ?_
    refine mG_ialdA dX8_now_133 e42 (Nat.le_of_ble_eq_true rfl) (by decide) (by omega) ?_
    refine mG_cs1 sX8_102 dX8_now_134 (mLe_of rfl) (Nat.le_of_ble_eq_true rfl) (ok_X8_power (by omega)) ?_
    refine mG_icmp_geN dX8_now_137 (by omega) (by omega) (fun c137 => ?_) (fun c137 => absurd c137 (by omega))
    refine mG_bipush (v := (-9)) dX8_now_159 (by decide) ?_
    exact mG_iret dX8_now_161 rfl (mX_of (by subst hR; rfl) rfl)
  | succ k ih =>
    intro i hk hR
    refine mG_iload_n dX8_now_127 rfl ?_
    refine mG_aload_n dX8_now_128 rfl ?_
    refine mG_get fX8_13 dX8_now_129 e40 (Nat.le_of_ble_eq_true rfl) rfl ?_
    refine mG_iconst (v := nI 0) dX8_now_132 (by decide) ?_
    refine mG_ialdA dX8_now_133 e42 (Nat.le_of_ble_eq_true rfl) (by decide) (by omega) ?_
    refine mG_cs1 sX8_102 dX8_now_134 (mLe_of rfl) (Nat.le_of_ble_eq_true rfl) (ok_X8_power (by omega)) ?_
    refine mG_icmp_geN dX8_now_137 (by omega) (by omega) (fun c137 => absurd c137 (by omega)) (fun c137 => ?_)
    refine mG_aload_n dX8_now_140 rfl ?_
    refine mG_iload_n dX8_now_141 rfl ?_
    refine mG_iconst (v := nI 0) dX8_now_142 (by decide) ?_
    refine mG_bipush (v := nI 6) dX8_now_143 (by decide) ?_
    refine mG_cv3 vX8_139 dX8_now_145 (mLe_of rfl) (Nat.le_of_ble_eq_true rfl) e40 (Nat.le_of_ble_eq_true rfl) (ok_X8_can e40 e42 hcb e44 hbb e47 e53 ho hnf (by omega) (by decide) (by decide)) ?_
    refine mG_if_neB dX8_now_148 (fun c148 => ?_) (fun c148 => ?_)
    · refine mG_iincN dX8_now_153 rfl (Nat.le_of_ble_eq_true rfl) rfl rfl ?_
      refine mG_goto dX8_now_156 ?_
      exact ih (i + 1) (by omega) (by rw [hR, luR, if_pos c148])
    · refine mG_iload_n dX8_now_151 rfl ?_
      exact mG_iret dX8_now_152 rfl (mX_of (by rw [hR, luR, if_neg (by rw [c148]; exact Bool.noConfusion)]) rfl)
set_option maxRecDepth 100000 in
set_option maxHeartbeats 4000000 in
theorem ok_X8_now1 {E : mE} {h : mH} {ty a sd so va it mo fa : Nat} {wr : Bool} {tr : Int64} {cb nw : Nat → Nat} (e40 : h 40 = oMo ty a sd so va wr it mo fa tr) (e42 : h 42 = mAr 2 cb) (hcb : cb 0 ≤ 4) (e47 : h 47 = mAr 33 nw) (hca : ∀ j, j < cb 0 → nw (24 + j) < cb 0) (hfr : ∀ j, j < 4 → nw (28 + j) < 6) : mOk E 5 zX8_now [.ref 40, vN 1] h (mX (some (vN (niR nw (cb 0)))) h) := by
  refine mOk_w (L := [some (.ref 40), some (vN 1), none, none]) pn_X8 rfl (Nat.le_of_ble_eq_true rfl) rfl ?_
  refine mG_iconst (v := nI 0) dX8_now_0 (by decide) ?_
  refine mG_istore_n dX8_now_1 (Nat.le_of_ble_eq_true rfl) rfl rfl ?_
  refine mG_iload_n dX8_now_2 rfl ?_
  refine mG_tableIn (off := 41) (tgt := 44) dX8_now_3 (by decide) (by decide) (by decide) (by decide) ?_
  refine mG_iconst (v := nI 0) dX8_now_44 (by decide) ?_
  refine mG_istore_n dX8_now_45 (Nat.le_of_ble_eq_true rfl) rfl rfl ?_
  exact lp_X8_now1 e40 e42 hcb e47 hca hfr (cb 0) 0 (Nat.zero_add _)
set_option maxRecDepth 100000 in
set_option maxHeartbeats 4000000 in
theorem ok_X8_now2 {E : mE} {h : mH} {ty a sd so va it mo fa : Nat} {wr : Bool} {tr : Int64} {bb cb nw od : Nat → Nat} (e40 : h 40 = oMo ty a sd so va wr it mo fa tr) (e42 : h 42 = mAr 2 cb) (hcb : cb 0 ≤ 4) (e44 : h 44 = mAr 2 bb) (hbb : bb 0 ≤ 1) (e47 : h 47 = mAr 33 nw) (e53 : h 53 = mAr 24 od) (ho : oOK (cb 0) mo od) (hnf : ∀ j, j < cb 0 * 6 → nw j < 10)  : mOk E 5 zX8_now [.ref 40, vN 2] h (mX (some (vN (smG (fun v => (canR nw (decide (bb 0 = 1)) (cb 0) mo od v 0 6).toNat) (10 ^ cb 0)))) h) := by
  refine mOk_w (L := [some (.ref 40), some (vN 2), none, none]) pn_X8 rfl (Nat.le_of_ble_eq_true rfl) rfl ?_
  refine mG_iconst (v := nI 0) dX8_now_0 (by decide) ?_
  refine mG_istore_n dX8_now_1 (Nat.le_of_ble_eq_true rfl) rfl rfl ?_
  refine mG_iload_n dX8_now_2 rfl ?_
  refine mG_tableIn (off := 80) (tgt := 83) dX8_now_3 (by decide) (by decide) (by decide) (by decide) ?_
  refine mG_iconst (v := nI 0) dX8_now_83 (by decide) ?_
  refine mG_istore_n dX8_now_84 (Nat.le_of_ble_eq_true rfl) rfl rfl ?_
  exact lp_X8_now2 e40 e42 hcb e44 hbb e47 e53 ho hnf (ten_le hcb) (10 ^ cb 0) 0 (Nat.zero_add _)
set_option maxRecDepth 100000 in
set_option maxHeartbeats 4000000 in
theorem ok_X8_now3 {E : mE} {h : mH} {ty a sd so va it mo fa : Nat} {wr : Bool} {tr : Int64} {bb cb nw od : Nat → Nat} (e40 : h 40 = oMo ty a sd so va wr it mo fa tr) (e42 : h 42 = mAr 2 cb) (hcb : cb 0 ≤ 4) (e44 : h 44 = mAr 2 bb) (hbb : bb 0 ≤ 1) (e47 : h 47 = mAr 33 nw) (e53 : h 53 = mAr 24 od) (ho : oOK (cb 0) mo od) (hnf : ∀ j, j < cb 0 * 6 → nw j < 10)  : mOk E 5 zX8_now [.ref 40, vN 3] h (mX (some (.int (luR (fun v => canR nw (decide (bb 0 = 1)) (cb 0) mo od v 0 6) 0 (10 ^ cb 0)))) h) := by
  refine mOk_w (L := [some (.ref 40), some (vN 3), none, none]) pn_X8 rfl (Nat.le_of_ble_eq_true rfl) rfl ?_
  refine mG_iconst (v := nI 0) dX8_now_0 (by decide) ?_
  refine mG_istore_n dX8_now_1 (Nat.le_of_ble_eq_true rfl) rfl rfl ?_
  refine mG_iload_n dX8_now_2 rfl ?_
  refine mG_tableIn (off := 122) (tgt := 125) dX8_now_3 (by decide) (by decide) (by decide) (by decide) ?_
  refine mG_iconst (v := nI 0) dX8_now_125 (by decide) ?_
  refine mG_istore_n dX8_now_126 (Nat.le_of_ble_eq_true rfl) rfl rfl ?_
  exact lp_X8_now3 e40 e42 hcb e44 hbb e47 e53 ho hnf (ten_le hcb) (10 ^ cb 0) 0 (Nat.zero_add _) rfl
set_option maxRecDepth 100000 in
set_option maxHeartbeats 4000000 in
theorem rp_now_1 {E : mE} {h : mH} {n : Nat} {tx cb db bb dg nw kn bf sr : Nat → Nat} {ik : Nat → Bool} {mo : Nat} {od : Nat → Nat} {fa : Nat} {fo fi : Nat → Nat} {tr : Int64} (H : rI h n tx cb db bb dg nw kn bf sr ik mo od fa fo fi tr) (F : rF n tx cb db bb dg nw kn mo od fa fo fi) : mOk E 5 zX8_now [.ref 40, vN 1] h (rQ h (vN (niR nw (cb 0))) (rI · n tx cb db bb dg nw kn bf sr ik mo od fa fo fi tr)) := by
  obtain ⟨t, wr, it, fg, ls, e40, e41, e42, e43, e44, e45, e46, e47, e48, e49, e50, e51, e52, e53, e54, e55⟩ := id H
  obtain ⟨hn, htx, hcb, hdb, hbb, ho, hnf, hca4, hca, hfr, hwk, hdg, hkn, hfa, hfo, hfi⟩ := id F
  refine mOk_imp (ok_X8_now1 e40 e42 hcb e47 hca hfr) ?_
  rintro r h' ⟨rfl, rfl⟩
  exact ⟨rfl, H, fun _ _ => rfl⟩
set_option maxRecDepth 100000 in
set_option maxHeartbeats 4000000 in
theorem rp_now_2 {E : mE} {h : mH} {n : Nat} {tx cb db bb dg nw kn bf sr : Nat → Nat} {ik : Nat → Bool} {mo : Nat} {od : Nat → Nat} {fa : Nat} {fo fi : Nat → Nat} {tr : Int64} (H : rI h n tx cb db bb dg nw kn bf sr ik mo od fa fo fi tr) (F : rF n tx cb db bb dg nw kn mo od fa fo fi) : mOk E 5 zX8_now [.ref 40, vN 2] h (rQ h (vN (smG (fun v => (canR nw (decide (bb 0 = 1)) (cb 0) mo od v 0 6).toNat) (10 ^ cb 0))) (rI · n tx cb db bb dg nw kn bf sr ik mo od fa fo fi tr)) := by
  obtain ⟨t, wr, it, fg, ls, e40, e41, e42, e43, e44, e45, e46, e47, e48, e49, e50, e51, e52, e53, e54, e55⟩ := id H
  obtain ⟨hn, htx, hcb, hdb, hbb, ho, hnf, hca4, hca, hfr, hwk, hdg, hkn, hfa, hfo, hfi⟩ := id F
  refine mOk_imp (ok_X8_now2 e40 e42 hcb e44 hbb e47 e53 ho hnf) ?_
  rintro r h' ⟨rfl, rfl⟩
  exact ⟨rfl, H, fun _ _ => rfl⟩
set_option maxRecDepth 100000 in
set_option maxHeartbeats 4000000 in
theorem rp_now_3 {E : mE} {h : mH} {n : Nat} {tx cb db bb dg nw kn bf sr : Nat → Nat} {ik : Nat → Bool} {mo : Nat} {od : Nat → Nat} {fa : Nat} {fo fi : Nat → Nat} {tr : Int64} (H : rI h n tx cb db bb dg nw kn bf sr ik mo od fa fo fi tr) (F : rF n tx cb db bb dg nw kn mo od fa fo fi) : mOk E 5 zX8_now [.ref 40, vN 3] h (rQ h (.int (luR (fun v => canR nw (decide (bb 0 = 1)) (cb 0) mo od v 0 6) 0 (10 ^ cb 0))) (rI · n tx cb db bb dg nw kn bf sr ik mo od fa fo fi tr)) := by
  obtain ⟨t, wr, it, fg, ls, e40, e41, e42, e43, e44, e45, e46, e47, e48, e49, e50, e51, e52, e53, e54, e55⟩ := id H
  obtain ⟨hn, htx, hcb, hdb, hbb, ho, hnf, hca4, hca, hfr, hwk, hdg, hkn, hfa, hfo, hfi⟩ := id F
  refine mOk_imp (ok_X8_now3 e40 e42 hcb e44 hbb e47 e53 ho hnf) ?_
  rintro r h' ⟨rfl, rfl⟩
  exact ⟨rfl, H, fun _ _ => rfl⟩
