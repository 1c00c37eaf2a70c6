set_option maxRecDepth 100000 in
set_option maxHeartbeats 4000000 in
theorem pc_undo_none {E : mE} {h : mH} {n : Nat} {tx : Nat → Nat} {cu dc : Nat} {bo : Bool} {td : Nat → Nat} {dn wk : Nat} {nf ca fr ds : Nat → Nat} {x0 x1 : mSd} {kp : Nat → Bool} {sn : Nat} {sf st : Nat → Nat} {tr : Int64} (H : CI h n tx cu dc bo td dn wk nf ca fr ds x0 x1 kp sn sf st tr) (hd : dn = 0) : mOk E 4 zX7_undo [.ref 0] h (cQ h (.int (-2)) (CI · n tx cu dc bo td dn wk nf ca fr ds x0 x1 kp sn sf st tr)) := by
  obtain ⟨e0, hRd, hTo, hDr, hNo, hI0, hI1, hMi, hSe, hTe, hWk, hFa, hOK, hK0, hK1⟩ := id H
  obtain ⟨t, e1, e2, ht, hn, htx⟩ := id hRd
  obtain ⟨it, tf, e3, e4, e5, hcu, hdc, htd⟩ := id hTo
  obtain ⟨cu6, dc6, it6, bo6, df, dy, e6, e7, e8⟩ := id hDr
  obtain ⟨e9, e10, e11, e12, e13⟩ := id hNo
  obtain ⟨g14, e14, hg0, hg1, e15⟩ := id hMi
  obtain ⟨e16, e17, e18, hsn, hsf, hst⟩ := id hSe
  obtain ⟨c19, g20, e19, e20⟩ := id hTe
  obtain ⟨w, pl, y, hwk⟩ := id hWk
  obtain ⟨ftv, fnv, fup, flo, g29, e28, e29⟩ := id hFa
  obtain ⟨hdn, hw9, hnf, hca4, hinj, hcac, hfr6, hdeed⟩ := id hOK
  refine mOk_w (L := [some (.ref 0)]) pn_X7 rfl (Nat.le_of_ble_eq_true rfl) rfl ?_
  refine mG_aload_n dX7_undo_0 rfl ?_
  refine mG_get fX7_29 dX7_undo_1 e0 (Nat.le_of_ble_eq_true rfl) rfl ?_
  refine mG_get fX7_146 dX7_undo_4 e9 (Nat.le_of_ble_eq_true rfl) rfl ?_
  refine mG_if_neN dX7_undo_7 (by omega) (fun c7 => absurd hd c7) (fun c7 => ?_)
  refine mG_bipush (v := (-2)) dX7_undo_10 (by decide) ?_
  exact mG_iret dX7_undo_12 rfl ⟨rfl, H, fun _ _ => rfl⟩
set_option maxRecDepth 100000 in
set_option maxHeartbeats 4000000 in
theorem pc_undo_0 {E : mE} {h : mH} {n : Nat} {tx : Nat → Nat} {cu dc : Nat} {bo : Bool} {td : Nat → Nat} {dn wk : Nat} {nf ca fr ds : Nat → Nat} {x0 x1 : mSd} {kp : Nat → Bool} {sn : Nat} {sf st : Nat → Nat} {tr : Int64} (H : CI h n tx cu dc bo td dn wk nf ca fr ds x0 x1 kp sn sf st tr) (hd : ¬ dn = 0) (hx : ds ((dn - 1) * 4) = 0) : mOk E 4 zX7_undo [.ref 0] h (cQ h (vN (dn - 1)) (CI · n tx cu dc bo td (dn - 1) (ds ((dn - 1) * 4 + 3)) nf ca (mUp fr (ds ((dn - 1) * 4 + 1)) (ds ((dn - 1) * 4 + 2))) ds x0 x1 kp sn sf st tr)) := by
  obtain ⟨e0, hRd, hTo, hDr, hNo, hI0, hI1, hMi, hSe, hTe, hWk, hFa, hOK, hK0, hK1⟩ := id H
  obtain ⟨t, e1, e2, ht, hn, htx⟩ := id hRd
  obtain ⟨it, tf, e3, e4, e5, hcu, hdc, htd⟩ := id hTo
  obtain ⟨cu6, dc6, it6, bo6, df, dy, e6, e7, e8⟩ := id hDr
  obtain ⟨e9, e10, e11, e12, e13⟩ := id hNo
  obtain ⟨g14, e14, hg0, hg1, e15⟩ := id hMi
  obtain ⟨e16, e17, e18, hsn, hsf, hst⟩ := id hSe
  obtain ⟨c19, g20, e19, e20⟩ := id hTe
  obtain ⟨w, pl, y, hwk⟩ := id hWk
  obtain ⟨ftv, fnv, fup, flo, g29, e28, e29⟩ := id hFa
  obtain ⟨hdn, hw9, hnf, hca4, hinj, hcac, hfr6, hdeed⟩ := id hOK
  have hdd := hdeed (dn - 1) (by omega)
  have hd1 := hdd.1
  refine mOk_w (L := [some (.ref 0)]) pn_X7 rfl (Nat.le_of_ble_eq_true rfl) rfl ?_
  refine mG_aload_n dX7_undo_0 rfl ?_
  refine mG_get fX7_29 dX7_undo_1 e0 (Nat.le_of_ble_eq_true rfl) rfl ?_
  refine mG_get fX7_146 dX7_undo_4 e9 (Nat.le_of_ble_eq_true rfl) rfl ?_
  refine mG_if_neN dX7_undo_7 (by omega) (fun c7 => ?_) (fun c7 => absurd c7 hd)
  refine mG_aload_n dX7_undo_13 rfl ?_
  refine mG_get fX7_29 dX7_undo_14 e0 (Nat.le_of_ble_eq_true rfl) rfl ?_
  refine mG_cw0 vX7_149 dX7_undo_17 (mLe_of rfl) (Nat.le_of_ble_eq_true rfl) e9 (Nat.le_of_ble_eq_true rfl) (ok_X3_takeBack0 e9 e10 e11 e12 e13 (by omega) hdn hx (by omega)) ?_
  refine mG_aload_n dX7_undo_20 rfl ?_
  refine mG_get fX7_29 dX7_undo_21 e0 (Nat.le_of_ble_eq_true rfl) rfl ?_
  refine mG_get fX7_146 dX7_undo_24 rfl (Nat.le_of_ble_eq_true rfl) rfl ?_
  exact mG_iret dX7_undo_27 rfl ⟨rfl, ⟨e0, hRd, hTo, hDr, ⟨rfl, e10, e11, rfl, e13⟩, hI0, hI1, hMi, hSe, hTe, hWk, hFa, ⟨by omega, hdd.2, hnf, hca4, hinj, hcac, fun i hi => by
      by_cases q : i = ds ((dn - 1) * 4 + 1)
      · rw [q, mUp_eq]; omega
      · rw [mUp_ne _ _ q]; exact hfr6 i hi, fun i hi => hdeed i (by omega)⟩, hK0, hK1⟩, fun b hb => by simp only [mU, show ¬ b = 9 from by omega, show ¬ b = 12 from by omega, if_false]⟩
set_option maxRecDepth 100000 in
set_option maxHeartbeats 4000000 in
theorem pc_undo_1 {E : mE} {h : mH} {n : Nat} {tx : Nat → Nat} {cu dc : Nat} {bo : Bool} {td : Nat → Nat} {dn wk : Nat} {nf ca fr ds : Nat → Nat} {x0 x1 : mSd} {kp : Nat → Bool} {sn : Nat} {sf st : Nat → Nat} {tr : Int64} (H : CI h n tx cu dc bo td dn wk nf ca fr ds x0 x1 kp sn sf st tr) (hd : ¬ dn = 0) (hx : ds ((dn - 1) * 4) = 1) : mOk E 4 zX7_undo [.ref 0] h (cQ h (vN (dn - 1)) (CI · n tx cu dc bo td (dn - 1) (ds ((dn - 1) * 4 + 3)) nf (swp ca (ds ((dn - 1) * 4 + 1)) (ds ((dn - 1) * 4 + 2))) fr ds x0 x1 kp sn sf st tr)) := by
  obtain ⟨e0, hRd, hTo, hDr, hNo, hI0, hI1, hMi, hSe, hTe, hWk, hFa, hOK, hK0, hK1⟩ := id H
  obtain ⟨t, e1, e2, ht, hn, htx⟩ := id hRd
  obtain ⟨it, tf, e3, e4, e5, hcu, hdc, htd⟩ := id hTo
  obtain ⟨cu6, dc6, it6, bo6, df, dy, e6, e7, e8⟩ := id hDr
  obtain ⟨e9, e10, e11, e12, e13⟩ := id hNo
  obtain ⟨g14, e14, hg0, hg1, e15⟩ := id hMi
  obtain ⟨e16, e17, e18, hsn, hsf, hst⟩ := id hSe
  obtain ⟨c19, g20, e19, e20⟩ := id hTe
  obtain ⟨w, pl, y, hwk⟩ := id hWk
  obtain ⟨ftv, fnv, fup, flo, g29, e28, e29⟩ := id hFa
  obtain ⟨hdn, hw9, hnf, hca4, hinj, hcac, hfr6, hdeed⟩ := id hOK
  have hdd := hdeed (dn - 1) (by omega)
  have hd1 := hdd.1
  have hsw := swp_ok hcu (show ds ((dn - 1) * 4 + 1) < cu by omega) (show ds ((dn - 1) * 4 + 2) < cu by omega) hca4 hinj hcac
  refine mOk_w (L := [some (.ref 0)]) pn_X7 rfl (Nat.le_of_ble_eq_true rfl) rfl ?_
  refine mG_aload_n dX7_undo_0 rfl ?_
  refine mG_get fX7_29 dX7_undo_1 e0 (Nat.le_of_ble_eq_true rfl) rfl ?_
  refine mG_get fX7_146 dX7_undo_4 e9 (Nat.le_of_ble_eq_true rfl) rfl ?_
  refine mG_if_neN dX7_undo_7 (by omega) (fun c7 => ?_) (fun c7 => absurd c7 hd)
  refine mG_aload_n dX7_undo_13 rfl ?_
  refine mG_get fX7_29 dX7_undo_14 e0 (Nat.le_of_ble_eq_true rfl) rfl ?_
  refine mG_cw0 vX7_149 dX7_undo_17 (mLe_of rfl) (Nat.le_of_ble_eq_true rfl) e9 (Nat.le_of_ble_eq_true rfl) (ok_X3_takeBack1 e9 e10 e11 e12 e13 (by omega) hdn hx (by omega) (by omega)) ?_
  refine mG_aload_n dX7_undo_20 rfl ?_
  refine mG_get fX7_29 dX7_undo_21 e0 (Nat.le_of_ble_eq_true rfl) rfl ?_
  refine mG_get fX7_146 dX7_undo_24 rfl (Nat.le_of_ble_eq_true rfl) rfl ?_
  exact mG_iret dX7_undo_27 rfl ⟨rfl, ⟨e0, hRd, hTo, hDr, ⟨rfl, e10, rfl, e12, e13⟩, hI0, hI1, hMi, hSe, hTe, hWk, hFa, ⟨by omega, hdd.2, hnf, hsw.1, hsw.2.1, hsw.2.2, hfr6, fun i hi => hdeed i (by omega)⟩, hK0, hK1⟩, fun b hb => by simp only [mU, show ¬ b = 9 from by omega, show ¬ b = 11 from by omega, if_false]⟩
set_option maxRecDepth 100000 in
set_option maxHeartbeats 4000000 in
theorem pc_undo_2 {E : mE} {h : mH} {n : Nat} {tx : Nat → Nat} {cu dc : Nat} {bo : Bool} {td : Nat → Nat} {dn wk : Nat} {nf ca fr ds : Nat → Nat} {x0 x1 : mSd} {kp : Nat → Bool} {sn : Nat} {sf st : Nat → Nat} {tr : Int64} (H : CI h n tx cu dc bo td dn wk nf ca fr ds x0 x1 kp sn sf st tr) (hd : ¬ dn = 0) (hx : ds ((dn - 1) * 4) = 2) : mOk E 4 zX7_undo [.ref 0] h (cQ h (vN (dn - 1)) (CI · n tx cu dc bo td (dn - 1) (ds ((dn - 1) * 4 + 3)) (mUp nf (ds ((dn - 1) * 4 + 1)) (ds ((dn - 1) * 4 + 2))) ca fr ds x0 x1 kp sn sf st tr)) := by
  obtain ⟨e0, hRd, hTo, hDr, hNo, hI0, hI1, hMi, hSe, hTe, hWk, hFa, hOK, hK0, hK1⟩ := id H
  obtain ⟨t, e1, e2, ht, hn, htx⟩ := id hRd
  obtain ⟨it, tf, e3, e4, e5, hcu, hdc, htd⟩ := id hTo
  obtain ⟨cu6, dc6, it6, bo6, df, dy, e6, e7, e8⟩ := id hDr
  obtain ⟨e9, e10, e11, e12, e13⟩ := id hNo
  obtain ⟨g14, e14, hg0, hg1, e15⟩ := id hMi
  obtain ⟨e16, e17, e18, hsn, hsf, hst⟩ := id hSe
  obtain ⟨c19, g20, e19, e20⟩ := id hTe
  obtain ⟨w, pl, y, hwk⟩ := id hWk
  obtain ⟨ftv, fnv, fup, flo, g29, e28, e29⟩ := id hFa
  obtain ⟨hdn, hw9, hnf, hca4, hinj, hcac, hfr6, hdeed⟩ := id hOK
  have hdd := hdeed (dn - 1) (by omega)
  have hd1 := hdd.1
  refine mOk_w (L := [some (.ref 0)]) pn_X7 rfl (Nat.le_of_ble_eq_true rfl) rfl ?_
  refine mG_aload_n dX7_undo_0 rfl ?_
  refine mG_get fX7_29 dX7_undo_1 e0 (Nat.le_of_ble_eq_true rfl) rfl ?_
  refine mG_get fX7_146 dX7_undo_4 e9 (Nat.le_of_ble_eq_true rfl) rfl ?_
  refine mG_if_neN dX7_undo_7 (by omega) (fun c7 => ?_) (fun c7 => absurd c7 hd)
  refine mG_aload_n dX7_undo_13 rfl ?_
  refine mG_get fX7_29 dX7_undo_14 e0 (Nat.le_of_ble_eq_true rfl) rfl ?_
  refine mG_cw0 vX7_149 dX7_undo_17 (mLe_of rfl) (Nat.le_of_ble_eq_true rfl) e9 (Nat.le_of_ble_eq_true rfl) (ok_X3_takeBack2 e9 e10 e11 e12 e13 (by omega) hdn hx (by omega)) ?_
  refine mG_aload_n dX7_undo_20 rfl ?_
  refine mG_get fX7_29 dX7_undo_21 e0 (Nat.le_of_ble_eq_true rfl) rfl ?_
  refine mG_get fX7_146 dX7_undo_24 rfl (Nat.le_of_ble_eq_true rfl) rfl ?_
  exact mG_iret dX7_undo_27 rfl ⟨rfl, ⟨e0, hRd, hTo, hDr, ⟨rfl, rfl, e11, e12, e13⟩, hI0, hI1, hMi, hSe, hTe, hWk, hFa, ⟨by omega, hdd.2, fun i hi => by
      by_cases q : i = ds ((dn - 1) * 4 + 1)
      · rw [q, mUp_eq]; omega
      · rw [mUp_ne _ _ q]; exact hnf i hi, hca4, hinj, hcac, hfr6, fun i hi => hdeed i (by omega)⟩, hK0, hK1⟩, fun b hb => by simp only [mU, show ¬ b = 9 from by omega, show ¬ b = 10 from by omega, if_false]⟩
set_option maxRecDepth 100000 in
set_option maxHeartbeats 4000000 in
theorem pc_now_no {E : mE} {h : mH} {n : Nat} {tx : Nat → Nat} {cu dc : Nat} {bo : Bool} {td : Nat → Nat} {dn wk : Nat} {nf ca fr ds : Nat → Nat} {x0 x1 : mSd} {kp : Nat → Bool} {sn : Nat} {sf st : Nat → Nat} {tr : Int64} {wh : Int32} (H : CI h n tx cu dc bo td dn wk nf ca fr ds x0 x1 kp sn sf st tr) (hb : isIx wh 5 = false) : mOk E 9 zX7_now [.ref 0, .int wh] h (cQ h (.int (-1)) (CI · n tx cu dc bo td dn wk nf ca fr ds x0 x1 kp sn sf st tr)) := by
  obtain ⟨e0, hRd, hTo, hDr, hNo, hI0, hI1, hMi, hSe, hTe, hWk, hFa, hOK, hK0, hK1⟩ := id H
  obtain ⟨t, e1, e2, ht, hn, htx⟩ := id hRd
  obtain ⟨it, tf, e3, e4, e5, hcu, hdc, htd⟩ := id hTo
  obtain ⟨cu6, dc6, it6, bo6, df, dy, e6, e7, e8⟩ := id hDr
  obtain ⟨e9, e10, e11, e12, e13⟩ := id hNo
  obtain ⟨g14, e14, hg0, hg1, e15⟩ := id hMi
  obtain ⟨e16, e17, e18, hsn, hsf, hst⟩ := id hSe
  obtain ⟨c19, g20, e19, e20⟩ := id hTe
  obtain ⟨w, pl, y, hwk⟩ := id hWk
  obtain ⟨ftv, fnv, fup, flo, g29, e28, e29⟩ := id hFa
  obtain ⟨hdn, hw9, hnf, hca4, hinj, hcac, hfr6, hdeed⟩ := id hOK
  refine mOk_w (L := [some (.ref 0), some (.int wh)]) pn_X7 rfl (Nat.le_of_ble_eq_true rfl) rfl ?_
  refine mG_iload_n dX7_now_0 rfl ?_
  refine mG_tableOut (tgt := 80) dX7_now_1 (by have := ix_out (by decide) hb; omega) (by decide) ?_
  refine mG_iconst (v := (-1)) dX7_now_80 (by decide) ?_
  exact mG_iret dX7_now_81 rfl ⟨rfl, H, fun _ _ => rfl⟩
set_option maxRecDepth 100000 in
set_option maxHeartbeats 4000000 in
theorem pc_now_0 {E : mE} {h : mH} {n : Nat} {tx : Nat → Nat} {cu dc : Nat} {bo : Bool} {td : Nat → Nat} {dn wk : Nat} {nf ca fr ds : Nat → Nat} {x0 x1 : mSd} {kp : Nat → Bool} {sn : Nat} {sf st : Nat → Nat} {tr : Int64} (H : CI h n tx cu dc bo td dn wk nf ca fr ds x0 x1 kp sn sf st tr) : mOk E 9 zX7_now [.ref 0, vN 0] h (cQ h (vN wk) (CI · n tx cu dc bo td dn wk nf ca fr ds x0 x1 kp sn sf st tr)) := by
  obtain ⟨e0, hRd, hTo, hDr, hNo, hI0, hI1, hMi, hSe, hTe, hWk, hFa, hOK, hK0, hK1⟩ := id H
  obtain ⟨t, e1, e2, ht, hn, htx⟩ := id hRd
  obtain ⟨it, tf, e3, e4, e5, hcu, hdc, htd⟩ := id hTo
  obtain ⟨cu6, dc6, it6, bo6, df, dy, e6, e7, e8⟩ := id hDr
  obtain ⟨e9, e10, e11, e12, e13⟩ := id hNo
  obtain ⟨g14, e14, hg0, hg1, e15⟩ := id hMi
  obtain ⟨e16, e17, e18, hsn, hsf, hst⟩ := id hSe
  obtain ⟨c19, g20, e19, e20⟩ := id hTe
  obtain ⟨w, pl, y, hwk⟩ := id hWk
  obtain ⟨ftv, fnv, fup, flo, g29, e28, e29⟩ := id hFa
  obtain ⟨hdn, hw9, hnf, hca4, hinj, hcac, hfr6, hdeed⟩ := id hOK
  refine mOk_w (L := [some (.ref 0), some (vN 0)]) pn_X7 rfl (Nat.le_of_ble_eq_true rfl) rfl ?_
  refine mG_iload_n dX7_now_0 rfl ?_
  refine mG_tableIn (off := 35) (tgt := 36) dX7_now_1 (by decide) (by decide) (by decide) (by decide) ?_
  refine mG_aload_n dX7_now_36 rfl ?_
  refine mG_get fX7_29 dX7_now_37 e0 (Nat.le_of_ble_eq_true rfl) rfl ?_
  refine mG_get fX7_134 dX7_now_40 e9 (Nat.le_of_ble_eq_true rfl) rfl ?_
  exact mG_iret dX7_now_43 rfl ⟨rfl, H, fun _ _ => rfl⟩
set_option maxRecDepth 100000 in
set_option maxHeartbeats 4000000 in
theorem pc_now_1 {E : mE} {h : mH} {n : Nat} {tx : Nat → Nat} {cu dc : Nat} {bo : Bool} {td : Nat → Nat} {dn wk : Nat} {nf ca fr ds : Nat → Nat} {x0 x1 : mSd} {kp : Nat → Bool} {sn : Nat} {sf st : Nat → Nat} {tr : Int64} (H : CI h n tx cu dc bo td dn wk nf ca fr ds x0 x1 kp sn sf st tr) : mOk E 9 zX7_now [.ref 0, vN 1] h (cQ h (vN (nif nf ca fr cu)) (CI · n tx cu dc bo td dn wk nf ca fr ds x0 x1 kp sn sf st tr)) := by
  obtain ⟨e0, hRd, hTo, hDr, hNo, hI0, hI1, hMi, hSe, hTe, hWk, hFa, hOK, hK0, hK1⟩ := id H
  obtain ⟨t, e1, e2, ht, hn, htx⟩ := id hRd
  obtain ⟨it, tf, e3, e4, e5, hcu, hdc, htd⟩ := id hTo
  obtain ⟨cu6, dc6, it6, bo6, df, dy, e6, e7, e8⟩ := id hDr
  obtain ⟨e9, e10, e11, e12, e13⟩ := id hNo
  obtain ⟨g14, e14, hg0, hg1, e15⟩ := id hMi
  obtain ⟨e16, e17, e18, hsn, hsf, hst⟩ := id hSe
  obtain ⟨c19, g20, e19, e20⟩ := id hTe
  obtain ⟨w, pl, y, hwk⟩ := id hWk
  obtain ⟨ftv, fnv, fup, flo, g29, e28, e29⟩ := id hFa
  obtain ⟨hdn, hw9, hnf, hca4, hinj, hcac, hfr6, hdeed⟩ := id hOK
  refine mOk_w (L := [some (.ref 0), some (vN 1)]) pn_X7 rfl (Nat.le_of_ble_eq_true rfl) rfl ?_
  refine mG_iload_n dX7_now_0 rfl ?_
  refine mG_tableIn (off := 43) (tgt := 44) dX7_now_1 (by decide) (by decide) (by decide) (by decide) ?_
  refine mG_aload_n dX7_now_44 rfl ?_
  refine mG_cv0 vX7_152 dX7_now_45 (mLe_of rfl) (Nat.le_of_ble_eq_true rfl) e0 (Nat.le_of_ble_eq_true rfl) (ok_X7_nif e0 e3 e9 e10 e11 e12 hcu hcac (fun j hj => hfr6 j (by omega))) ?_
  exact mG_iret dX7_now_48 rfl ⟨rfl, H, fun _ _ => rfl⟩
set_option maxRecDepth 100000 in
set_option maxHeartbeats 4000000 in
theorem pc_now_2 {E : mE} {h : mH} {n : Nat} {tx : Nat → Nat} {cu dc : Nat} {bo : Bool} {td : Nat → Nat} {dn wk : Nat} {nf ca fr ds : Nat → Nat} {x0 x1 : mSd} {kp : Nat → Bool} {sn : Nat} {sf st : Nat → Nat} {tr : Int64} (H : CI h n tx cu dc bo td dn wk nf ca fr ds x0 x1 kp sn sf st tr) : mOk E 9 zX7_now [.ref 0, vN 2] h (cQ h (vN (mnF (cwT nf bo (-1) cu) cu cu 0 1 0 0 1)) (CI · n tx cu dc bo td dn wk nf ca fr ds x0 x1 kp sn sf st tr)) := by
  obtain ⟨e0, hRd, hTo, hDr, hNo, hI0, hI1, hMi, hSe, hTe, hWk, hFa, hOK, hK0, hK1⟩ := id H
  obtain ⟨t, e1, e2, ht, hn, htx⟩ := id hRd
  obtain ⟨it, tf, e3, e4, e5, hcu, hdc, htd⟩ := id hTo
  obtain ⟨cu6, dc6, it6, bo6, df, dy, e6, e7, e8⟩ := id hDr
  obtain ⟨e9, e10, e11, e12, e13⟩ := id hNo
  obtain ⟨g14, e14, hg0, hg1, e15⟩ := id hMi
  obtain ⟨e16, e17, e18, hsn, hsf, hst⟩ := id hSe
  obtain ⟨c19, g20, e19, e20⟩ := id hTe
  obtain ⟨w, pl, y, hwk⟩ := id hWk
  obtain ⟨ftv, fnv, fup, flo, g29, e28, e29⟩ := id hFa
  obtain ⟨hdn, hw9, hnf, hca4, hinj, hcac, hfr6, hdeed⟩ := id hOK
  refine mOk_w (L := [some (.ref 0), some (vN 2)]) pn_X7 rfl (Nat.le_of_ble_eq_true rfl) rfl ?_
  refine mG_iload_n dX7_now_0 rfl ?_
  refine mG_tableIn (off := 48) (tgt := 49) dX7_now_1 (by decide) (by decide) (by decide) (by decide) ?_
  refine mG_aload_n dX7_now_49 rfl ?_
  refine mG_iconst (v := (-1)) dX7_now_50 (by decide) ?_
  refine mG_cv1 vX7_156 dX7_now_51 (mLe_of rfl) (Nat.le_of_ble_eq_true rfl) e0 (Nat.le_of_ble_eq_true rfl) (ok_X7_tellers e0 e3 e9 e10 e19 e20 hcu hnf) ?_
  refine mG_cv0 vX7_160 dX7_now_54 (mLe_of rfl) (Nat.le_of_ble_eq_true rfl) rfl (Nat.le_of_ble_eq_true rfl) (ok_X4_many rfl rfl hcu (fun j _ => cwT_lt nf bo _ hcu j)) ?_
  exact mG_iret dX7_now_57 rfl ⟨rfl, ⟨e0, hRd, hTo, hDr, hNo, hI0, hI1, hMi, hSe, ⟨_, _, rfl, rfl⟩, hWk, hFa, hOK, hK0, hK1⟩, fun b hb => by simp only [hT, mU, show ¬ b = 19 from by omega, show ¬ b = 20 from by omega, if_false]⟩
set_option maxRecDepth 100000 in
set_option maxHeartbeats 4000000 in
theorem pc_now_3 {E : mE} {h : mH} {n : Nat} {tx : Nat → Nat} {cu dc : Nat} {bo : Bool} {td : Nat → Nat} {dn wk : Nat} {nf ca fr ds : Nat → Nat} {x0 x1 : mSd} {kp : Nat → Bool} {sn : Nat} {sf st : Nat → Nat} {tr : Int64} (H : CI h n tx cu dc bo td dn wk nf ca fr ds x0 x1 kp sn sf st tr) : mOk E 9 zX7_now [.ref 0, vN 3] h (cQ h (.int (lu (cwT nf bo (-1) cu) cu (10 ^ cu) 0)) (CI · n tx cu dc bo td dn wk nf ca fr ds x0 x1 kp sn sf st tr)) := by
  obtain ⟨e0, hRd, hTo, hDr, hNo, hI0, hI1, hMi, hSe, hTe, hWk, hFa, hOK, hK0, hK1⟩ := id H
  obtain ⟨t, e1, e2, ht, hn, htx⟩ := id hRd
  obtain ⟨it, tf, e3, e4, e5, hcu, hdc, htd⟩ := id hTo
  obtain ⟨cu6, dc6, it6, bo6, df, dy, e6, e7, e8⟩ := id hDr
  obtain ⟨e9, e10, e11, e12, e13⟩ := id hNo
  obtain ⟨g14, e14, hg0, hg1, e15⟩ := id hMi
  obtain ⟨e16, e17, e18, hsn, hsf, hst⟩ := id hSe
  obtain ⟨c19, g20, e19, e20⟩ := id hTe
  obtain ⟨w, pl, y, hwk⟩ := id hWk
  obtain ⟨ftv, fnv, fup, flo, g29, e28, e29⟩ := id hFa
  obtain ⟨hdn, hw9, hnf, hca4, hinj, hcac, hfr6, hdeed⟩ := id hOK
  refine mOk_w (L := [some (.ref 0), some (vN 3)]) pn_X7 rfl (Nat.le_of_ble_eq_true rfl) rfl ?_
  refine mG_iload_n dX7_now_0 rfl ?_
  refine mG_tableIn (off := 57) (tgt := 58) dX7_now_1 (by decide) (by decide) (by decide) (by decide) ?_
  refine mG_aload_n dX7_now_58 rfl ?_
  refine mG_iconst (v := (-1)) dX7_now_59 (by decide) ?_
  refine mG_cv1 vX7_156 dX7_now_60 (mLe_of rfl) (Nat.le_of_ble_eq_true rfl) e0 (Nat.le_of_ble_eq_true rfl) (ok_X7_tellers e0 e3 e9 e10 e19 e20 hcu hnf) ?_
  refine mG_cv0 vX7_163 dX7_now_63 (mLe_of rfl) (Nat.le_of_ble_eq_true rfl) rfl (Nat.le_of_ble_eq_true rfl) (ok_X4_least rfl rfl hcu (fun j _ => cwT_lt nf bo _ hcu j)) ?_
  exact mG_iret dX7_now_66 rfl ⟨rfl, ⟨e0, hRd, hTo, hDr, hNo, hI0, hI1, hMi, hSe, ⟨_, _, rfl, rfl⟩, hWk, hFa, hOK, hK0, hK1⟩, fun b hb => by simp only [hT, mU, show ¬ b = 19 from by omega, show ¬ b = 20 from by omega, if_false]⟩
set_option maxRecDepth 100000 in
set_option maxHeartbeats 4000000 in
theorem pc_now_4 {E : mE} {h : mH} {n : Nat} {tx : Nat → Nat} {cu dc : Nat} {bo : Bool} {td : Nat → Nat} {dn wk : Nat} {nf ca fr ds : Nat → Nat} {x0 x1 : mSd} {kp : Nat → Bool} {sn : Nat} {sf st : Nat → Nat} {tr : Int64} (H : CI h n tx cu dc bo td dn wk nf ca fr ds x0 x1 kp sn sf st tr) : mOk E 9 zX7_now [.ref 0, vN 4] h (cQ h (vN (dd (cwT nf bo (-1) cu) td cu dc)) (CI · n tx cu dc bo td dn wk nf ca fr ds x0 x1 kp sn sf st tr)) := by
  obtain ⟨e0, hRd, hTo, hDr, hNo, hI0, hI1, hMi, hSe, hTe, hWk, hFa, hOK, hK0, hK1⟩ := id H
  obtain ⟨t, e1, e2, ht, hn, htx⟩ := id hRd
  obtain ⟨it, tf, e3, e4, e5, hcu, hdc, htd⟩ := id hTo
  obtain ⟨cu6, dc6, it6, bo6, df, dy, e6, e7, e8⟩ := id hDr
  obtain ⟨e9, e10, e11, e12, e13⟩ := id hNo
  obtain ⟨g14, e14, hg0, hg1, e15⟩ := id hMi
  obtain ⟨e16, e17, e18, hsn, hsf, hst⟩ := id hSe
  obtain ⟨c19, g20, e19, e20⟩ := id hTe
  obtain ⟨w, pl, y, hwk⟩ := id hWk
  obtain ⟨ftv, fnv, fup, flo, g29, e28, e29⟩ := id hFa
  obtain ⟨hdn, hw9, hnf, hca4, hinj, hcac, hfr6, hdeed⟩ := id hOK
  have h10 := ten_le hcu
  refine mOk_w (L := [some (.ref 0), some (vN 4)]) pn_X7 rfl (Nat.le_of_ble_eq_true rfl) rfl ?_
  refine mG_iload_n dX7_now_0 rfl ?_
  refine mG_tableIn (off := 66) (tgt := 67) dX7_now_1 (by decide) (by decide) (by decide) (by decide) ?_
  refine mG_aload_n dX7_now_67 rfl ?_
  refine mG_iconst (v := (-1)) dX7_now_68 (by decide) ?_
  refine mG_cv1 vX7_156 dX7_now_69 (mLe_of rfl) (Nat.le_of_ble_eq_true rfl) e0 (Nat.le_of_ble_eq_true rfl) (ok_X7_tellers e0 e3 e9 e10 e19 e20 hcu hnf) ?_
  refine mG_aload_n dX7_now_72 rfl ?_
  refine mG_get fX7_19 dX7_now_73 e0 (Nat.le_of_ble_eq_true rfl) rfl ?_
  refine mG_cv1 vX7_166 dX7_now_76 (mLe_of rfl) (Nat.le_of_ble_eq_true rfl) rfl (Nat.le_of_ble_eq_true rfl) (ok_X4_done e3 e5 rfl rfl hcu (fun j _ => cwT_lt nf bo _ hcu j) hdc (fun i hi => by have := htd i hi; omega)) ?_
  exact mG_iret dX7_now_79 rfl ⟨rfl, ⟨e0, hRd, hTo, hDr, hNo, hI0, hI1, hMi, hSe, ⟨_, _, rfl, rfl⟩, hWk, hFa, hOK, hK0, hK1⟩, fun b hb => by simp only [hT, mU, show ¬ b = 19 from by omega, show ¬ b = 20 from by omega, if_false]⟩
set_option maxRecDepth 100000 in
set_option maxHeartbeats 4000000 in
theorem pc_number_bad {E : mE} {h : mH} {n : Nat} {tx : Nat → Nat} {cu dc : Nat} {bo : Bool} {td : Nat → Nat} {dn wk : Nat} {nf ca fr ds : Nat → Nat} {x0 x1 : mSd} {kp : Nat → Bool} {sn : Nat} {sf st : Nat → Nat} {tr : Int64} {c wh : Int32} (H : CI h n tx cu dc bo td dn wk nf ca fr ds x0 x1 kp sn sf st tr) (hb : isIx c (10 ^ cu) = false) : mOk E 46 zX7_number [.ref 0, .int c, .int wh] h (cQ h (.int (-1)) (CI · n tx cu dc bo td dn wk nf ca fr ds x0 x1 kp sn sf st tr)) := by
  obtain ⟨e0, hRd, hTo, hDr, hNo, hI0, hI1, hMi, hSe, hTe, hWk, hFa, hOK, hK0, hK1⟩ := id H
  obtain ⟨t, e1, e2, ht, hn, htx⟩ := id hRd
  obtain ⟨it, tf, e3, e4, e5, hcu, hdc, htd⟩ := id hTo
  obtain ⟨cu6, dc6, it6, bo6, df, dy, e6, e7, e8⟩ := id hDr
  obtain ⟨e9, e10, e11, e12, e13⟩ := id hNo
  obtain ⟨g14, e14, hg0, hg1, e15⟩ := id hMi
  obtain ⟨e16, e17, e18, hsn, hsf, hst⟩ := id hSe
  obtain ⟨c19, g20, e19, e20⟩ := id hTe
  obtain ⟨w, pl, y, hwk⟩ := id hWk
  obtain ⟨ftv, fnv, fup, flo, g29, e28, e29⟩ := id hFa
  obtain ⟨hdn, hw9, hnf, hca4, hinj, hcac, hfr6, hdeed⟩ := id hOK
  have h10 := ten_le hcu
  refine mOk_w (L := [some (.ref 0), some (.int c), some (.int wh)]) pn_X7 rfl (Nat.le_of_ble_eq_true rfl) rfl ?_
  refine mG_aload_n dX7_number_0 rfl ?_
  refine mG_iload_n dX7_number_1 rfl ?_
  refine mG_cv1 vX7_169 dX7_number_2 (mLe_of rfl) (Nat.le_of_ble_eq_true rfl) e0 (Nat.le_of_ble_eq_true rfl) (ok_X7_isNumber e0 e3 hcu) ?_
  refine mG_if_neB dX7_number_5 (fun c5 => Bool.noConfusion (hb.symm.trans c5)) (fun c5 => ?_)
  refine mG_iconst (v := (-1)) dX7_number_8 (by decide) ?_
  exact mG_iret dX7_number_9 rfl ⟨rfl, H, fun _ _ => rfl⟩
set_option maxRecDepth 100000 in
set_option maxHeartbeats 4000000 in
theorem pc_number_no {E : mE} {h : mH} {n : Nat} {tx : Nat → Nat} {cu dc : Nat} {bo : Bool} {td : Nat → Nat} {dn wk : Nat} {nf ca fr ds : Nat → Nat} {x0 x1 : mSd} {kp : Nat → Bool} {sn : Nat} {sf st : Nat → Nat} {tr : Int64} {j : Nat} {wh : Int32} (H : CI h n tx cu dc bo td dn wk nf ca fr ds x0 x1 kp sn sf st tr) (hj : j < 10 ^ cu) (hb : isIx wh 4 = false) : mOk E 46 zX7_number [.ref 0, vN j, .int wh] h (cQ h (.int (-1)) (CI · n tx cu dc bo td dn wk nf ca fr ds x0 x1 kp sn sf st tr)) := by
  obtain ⟨e0, hRd, hTo, hDr, hNo, hI0, hI1, hMi, hSe, hTe, hWk, hFa, hOK, hK0, hK1⟩ := id H
  obtain ⟨t, e1, e2, ht, hn, htx⟩ := id hRd
  obtain ⟨it, tf, e3, e4, e5, hcu, hdc, htd⟩ := id hTo
  obtain ⟨cu6, dc6, it6, bo6, df, dy, e6, e7, e8⟩ := id hDr
  obtain ⟨e9, e10, e11, e12, e13⟩ := id hNo
  obtain ⟨g14, e14, hg0, hg1, e15⟩ := id hMi
  obtain ⟨e16, e17, e18, hsn, hsf, hst⟩ := id hSe
  obtain ⟨c19, g20, e19, e20⟩ := id hTe
  obtain ⟨w, pl, y, hwk⟩ := id hWk
  obtain ⟨ftv, fnv, fup, flo, g29, e28, e29⟩ := id hFa
  obtain ⟨hdn, hw9, hnf, hca4, hinj, hcac, hfr6, hdeed⟩ := id hOK
  have h10 := ten_le hcu
  have qj := isIx_nI (show 10 ^ cu < 2 ^ 31 by omega) hj
  refine mOk_w (L := [some (.ref 0), some (vN j), some (.int wh)]) pn_X7 rfl (Nat.le_of_ble_eq_true rfl) rfl ?_
  refine mG_aload_n dX7_number_0 rfl ?_
  refine mG_iload_n dX7_number_1 rfl ?_
  refine mG_cv1 vX7_169 dX7_number_2 (mLe_of rfl) (Nat.le_of_ble_eq_true rfl) e0 (Nat.le_of_ble_eq_true rfl) (ok_X7_isNumber e0 e3 hcu) ?_
  refine mG_if_neB dX7_number_5 (fun c5 => ?_) (fun c5 => Bool.noConfusion (c5.symm.trans qj))
  refine mG_iload_n dX7_number_10 rfl ?_
  refine mG_tableOut (tgt := 89) dX7_number_11 (by have := ix_out (by decide) hb; omega) (by decide) ?_
  refine mG_iconst (v := (-1)) dX7_number_89 (by decide) ?_
  exact mG_iret dX7_number_90 rfl ⟨rfl, H, fun _ _ => rfl⟩
set_option maxRecDepth 100000 in
set_option maxHeartbeats 4000000 in
theorem pc_number_0 {E : mE} {h : mH} {n : Nat} {tx : Nat → Nat} {cu dc : Nat} {bo : Bool} {td : Nat → Nat} {dn wk : Nat} {nf ca fr ds : Nat → Nat} {x0 x1 : mSd} {kp : Nat → Bool} {sn : Nat} {sf st : Nat → Nat} {tr : Int64} {j : Nat} (H : CI h n tx cu dc bo td dn wk nf ca fr ds x0 x1 kp sn sf st tr) (hj : j < 10 ^ cu) : mOk E 46 zX7_number [.ref 0, vN j, vN 0] h (cQ h (vN (itF nf ca fr bo cu j).toNat) (CI · n tx cu dc bo td dn wk nf ca fr ds x0 x1 kp sn sf st tr)) := by
  obtain ⟨e0, hRd, hTo, hDr, hNo, hI0, hI1, hMi, hSe, hTe, hWk, hFa, hOK, hK0, hK1⟩ := id H
  obtain ⟨t, e1, e2, ht, hn, htx⟩ := id hRd
  obtain ⟨it, tf, e3, e4, e5, hcu, hdc, htd⟩ := id hTo
  obtain ⟨cu6, dc6, it6, bo6, df, dy, e6, e7, e8⟩ := id hDr
  obtain ⟨e9, e10, e11, e12, e13⟩ := id hNo
  obtain ⟨g14, e14, hg0, hg1, e15⟩ := id hMi
  obtain ⟨e16, e17, e18, hsn, hsf, hst⟩ := id hSe
  obtain ⟨c19, g20, e19, e20⟩ := id hTe
  obtain ⟨w, pl, y, hwk⟩ := id hWk
  obtain ⟨ftv, fnv, fup, flo, g29, e28, e29⟩ := id hFa
  obtain ⟨hdn, hw9, hnf, hca4, hinj, hcac, hfr6, hdeed⟩ := id hOK
  have h10 := ten_le hcu
  have qj := isIx_nI (show 10 ^ cu < 2 ^ 31 by omega) hj
  refine mOk_w (L := [some (.ref 0), some (vN j), some (vN 0)]) pn_X7 rfl (Nat.le_of_ble_eq_true rfl) rfl ?_
  refine mG_aload_n dX7_number_0 rfl ?_
  refine mG_iload_n dX7_number_1 rfl ?_
  refine mG_cv1 vX7_169 dX7_number_2 (mLe_of rfl) (Nat.le_of_ble_eq_true rfl) e0 (Nat.le_of_ble_eq_true rfl) (ok_X7_isNumber e0 e3 hcu) ?_
  refine mG_if_neB dX7_number_5 (fun c5 => ?_) (fun c5 => Bool.noConfusion (c5.symm.trans qj))
  refine mG_iload_n dX7_number_10 rfl ?_
  refine mG_tableIn (off := 29) (tgt := 40) dX7_number_11 (by decide) (by decide) (by decide) (by decide) ?_
  refine mG_aload_n dX7_number_40 rfl ?_
  refine mG_iload_n dX7_number_41 rfl ?_
  refine mG_cv1 vX7_172 dX7_number_42 (mLe_of rfl) (Nat.le_of_ble_eq_true rfl) e0 (Nat.le_of_ble_eq_true rfl) (ok_X7_told e0 e3 e9 e10 e11 e12 hcu hcac (fun j hj => hfr6 j (by omega)) hnf (by omega)) ?_
  refine mG_if_eqB dX7_number_45 (fun c45 => ?_) (fun c45 => ?_)
  · refine mG_iconst (v := nI 0) dX7_number_52 (by decide) ?_
    exact mG_iret dX7_number_53 rfl ⟨by rw [c45]; rfl, H, fun _ _ => rfl⟩
  · refine mG_iconst (v := nI 1) dX7_number_48 (by decide) ?_
    refine mG_goto dX7_number_49 ?_
    exact mG_iret dX7_number_53 rfl ⟨by rw [c45]; rfl, H, fun _ _ => rfl⟩
set_option maxRecDepth 100000 in
set_option maxHeartbeats 4000000 in
theorem pc_number_1 {E : mE} {h : mH} {n : Nat} {tx : Nat → Nat} {cu dc : Nat} {bo : Bool} {td : Nat → Nat} {dn wk : Nat} {nf ca fr ds : Nat → Nat} {x0 x1 : mSd} {kp : Nat → Bool} {sn : Nat} {sf st : Nat → Nat} {tr : Int64} {j : Nat} (H : CI h n tx cu dc bo td dn wk nf ca fr ds x0 x1 kp sn sf st tr) (hj : j < 10 ^ cu) : mOk E 46 zX7_number [.ref 0, vN j, vN 1] h (cQ h (vN (canT (cwT nf bo (-1) cu) cu j).toNat) (CI · n tx cu dc bo td dn wk nf ca fr ds x0 x1 kp sn sf st tr)) := by
  obtain ⟨e0, hRd, hTo, hDr, hNo, hI0, hI1, hMi, hSe, hTe, hWk, hFa, hOK, hK0, hK1⟩ := id H
  obtain ⟨t, e1, e2, ht, hn, htx⟩ := id hRd
  obtain ⟨it, tf, e3, e4, e5, hcu, hdc, htd⟩ := id hTo
  obtain ⟨cu6, dc6, it6, bo6, df, dy, e6, e7, e8⟩ := id hDr
  obtain ⟨e9, e10, e11, e12, e13⟩ := id hNo
  obtain ⟨g14, e14, hg0, hg1, e15⟩ := id hMi
  obtain ⟨e16, e17, e18, hsn, hsf, hst⟩ := id hSe
  obtain ⟨c19, g20, e19, e20⟩ := id hTe
  obtain ⟨w, pl, y, hwk⟩ := id hWk
  obtain ⟨ftv, fnv, fup, flo, g29, e28, e29⟩ := id hFa
  obtain ⟨hdn, hw9, hnf, hca4, hinj, hcac, hfr6, hdeed⟩ := id hOK
  have h10 := ten_le hcu
  have qj := isIx_nI (show 10 ^ cu < 2 ^ 31 by omega) hj
  refine mOk_w (L := [some (.ref 0), some (vN j), some (vN 1)]) pn_X7 rfl (Nat.le_of_ble_eq_true rfl) rfl ?_
  refine mG_aload_n dX7_number_0 rfl ?_
  refine mG_iload_n dX7_number_1 rfl ?_
  refine mG_cv1 vX7_169 dX7_number_2 (mLe_of rfl) (Nat.le_of_ble_eq_true rfl) e0 (Nat.le_of_ble_eq_true rfl) (ok_X7_isNumber e0 e3 hcu) ?_
  refine mG_if_neB dX7_number_5 (fun c5 => ?_) (fun c5 => Bool.noConfusion (c5.symm.trans qj))
  refine mG_iload_n dX7_number_10 rfl ?_
  refine mG_tableIn (off := 43) (tgt := 54) dX7_number_11 (by decide) (by decide) (by decide) (by decide) ?_
  refine mG_aload_n dX7_number_54 rfl ?_
  refine mG_iconst (v := (-1)) dX7_number_55 (by decide) ?_
  refine mG_cv1 vX7_156 dX7_number_56 (mLe_of rfl) (Nat.le_of_ble_eq_true rfl) e0 (Nat.le_of_ble_eq_true rfl) (ok_X7_tellers e0 e3 e9 e10 e19 e20 hcu hnf) ?_
  refine mG_iload_n dX7_number_59 rfl ?_
  refine mG_cv1 vX7_175 dX7_number_60 (mLe_of rfl) (Nat.le_of_ble_eq_true rfl) rfl (Nat.le_of_ble_eq_true rfl) (ok_X4_can rfl rfl hcu (fun j _ => cwT_lt nf bo _ hcu j) (by omega)) ?_
  refine mG_if_eqB dX7_number_63 (fun c63 => ?_) (fun c63 => ?_)
  · refine mG_iconst (v := nI 0) dX7_number_70 (by decide) ?_
    exact mG_iret dX7_number_71 rfl ⟨by rw [c63]; rfl, ⟨e0, hRd, hTo, hDr, hNo, hI0, hI1, hMi, hSe, ⟨_, _, rfl, rfl⟩, hWk, hFa, hOK, hK0, hK1⟩, fun b hb => by simp only [hT, mU, show ¬ b = 19 from by omega, show ¬ b = 20 from by omega, if_false]⟩
  · refine mG_iconst (v := nI 1) dX7_number_66 (by decide) ?_
    refine mG_goto dX7_number_67 ?_
    exact mG_iret dX7_number_71 rfl ⟨by rw [c63]; rfl, ⟨e0, hRd, hTo, hDr, hNo, hI0, hI1, hMi, hSe, ⟨_, _, rfl, rfl⟩, hWk, hFa, hOK, hK0, hK1⟩, fun b hb => by simp only [hT, mU, show ¬ b = 19 from by omega, show ¬ b = 20 from by omega, if_false]⟩
set_option maxRecDepth 100000 in
set_option maxHeartbeats 4000000 in
theorem pc_number_3 {E : mE} {h : mH} {n : Nat} {tx : Nat → Nat} {cu dc : Nat} {bo : Bool} {td : Nat → Nat} {dn wk : Nat} {nf ca fr ds : Nat → Nat} {x0 x1 : mSd} {kp : Nat → Bool} {sn : Nat} {sf st : Nat → Nat} {tr : Int64} {j : Nat} (H : CI h n tx cu dc bo td dn wk nf ca fr ds x0 x1 kp sn sf st tr) (hj : j < 10 ^ cu) : mOk E 46 zX7_number [.ref 0, vN j, vN 3] h (cQ h (.int (nI cu - nI (mxs (fpS (cwT nf bo (-1) cu) cu cu 1 j) 16))) (CI · n tx cu dc bo td dn wk nf ca fr ds x0 x1 kp sn sf st tr)) := by
  obtain ⟨e0, hRd, hTo, hDr, hNo, hI0, hI1, hMi, hSe, hTe, hWk, hFa, hOK, hK0, hK1⟩ := id H
  obtain ⟨t, e1, e2, ht, hn, htx⟩ := id hRd
  obtain ⟨it, tf, e3, e4, e5, hcu, hdc, htd⟩ := id hTo
  obtain ⟨cu6, dc6, it6, bo6, df, dy, e6, e7, e8⟩ := id hDr
  obtain ⟨e9, e10, e11, e12, e13⟩ := id hNo
  obtain ⟨g14, e14, hg0, hg1, e15⟩ := id hMi
  obtain ⟨e16, e17, e18, hsn, hsf, hst⟩ := id hSe
  obtain ⟨c19, g20, e19, e20⟩ := id hTe
  obtain ⟨w, pl, y, hwk⟩ := id hWk
  obtain ⟨ftv, fnv, fup, flo, g29, e28, e29⟩ := id hFa
  obtain ⟨hdn, hw9, hnf, hca4, hinj, hcac, hfr6, hdeed⟩ := id hOK
  have h10 := ten_le hcu
  have qj := isIx_nI (show 10 ^ cu < 2 ^ 31 by omega) hj
  refine mOk_w (L := [some (.ref 0), some (vN j), some (vN 3)]) pn_X7 rfl (Nat.le_of_ble_eq_true rfl) rfl ?_
  refine mG_aload_n dX7_number_0 rfl ?_
  refine mG_iload_n dX7_number_1 rfl ?_
  refine mG_cv1 vX7_169 dX7_number_2 (mLe_of rfl) (Nat.le_of_ble_eq_true rfl) e0 (Nat.le_of_ble_eq_true rfl) (ok_X7_isNumber e0 e3 hcu) ?_
  refine mG_if_neB dX7_number_5 (fun c5 => ?_) (fun c5 => Bool.noConfusion (c5.symm.trans qj))
  refine mG_iload_n dX7_number_10 rfl ?_
  refine mG_tableIn (off := 68) (tgt := 79) dX7_number_11 (by decide) (by decide) (by decide) (by decide) ?_
  refine mG_aload_n dX7_number_79 rfl ?_
  refine mG_iconst (v := (-1)) dX7_number_80 (by decide) ?_
  refine mG_cv1 vX7_156 dX7_number_81 (mLe_of rfl) (Nat.le_of_ble_eq_true rfl) e0 (Nat.le_of_ble_eq_true rfl) (ok_X7_tellers e0 e3 e9 e10 e19 e20 hcu hnf) ?_
  refine mG_iload_n dX7_number_84 rfl ?_
  refine mG_cv1 vX7_182 dX7_number_85 (mLe_of rfl) (Nat.le_of_ble_eq_true rfl) rfl (Nat.le_of_ble_eq_true rfl) (ok_X4_fp rfl rfl hcu (fun j _ => cwT_lt nf bo _ hcu j) (by omega)) ?_
  exact mG_iret dX7_number_88 rfl ⟨rfl, ⟨e0, hRd, hTo, hDr, hNo, hI0, hI1, hMi, hSe, ⟨_, _, rfl, rfl⟩, hWk, hFa, hOK, hK0, hK1⟩, fun b hb => by simp only [hT, mU, show ¬ b = 19 from by omega, show ¬ b = 20 from by omega, if_false]⟩
/-- WORK, THROUGH: an answer that the walk gives, whatever lay in its rows -/
def cQw (h : mH) (nf fr ca : Nat → Nat) (bo : Bool) (cu la fm : Nat) (C : mH → Prop) : Option Value → mH → Prop := fun r h' => (∃ w pl y, (∀ j, j < 16 → w j < 10) ∧ l4ok pl y ∧ r = some (.int (lwA nf fr ca bo cu la fm w pl y))) ∧ C h' ∧ ∀ b, 40 ≤ b → h' b = h b
set_option maxRecDepth 100000 in
set_option maxHeartbeats 4000000 in
theorem pc_number_2 {E : mE} {h : mH} {n : Nat} {tx : Nat → Nat} {cu dc : Nat} {bo : Bool} {td : Nat → Nat} {dn wk : Nat} {nf ca fr ds : Nat → Nat} {x0 x1 : mSd} {kp : Nat → Bool} {sn : Nat} {sf st : Nat → Nat} {tr : Int64} {j : Nat} (H : CI h n tx cu dc bo td dn wk nf ca fr ds x0 x1 kp sn sf st tr) (hj : j < 10 ^ cu) : mOk E 46 zX7_number [.ref 0, vN j, vN 2] h (cQw h nf fr ca bo cu 1 j (CI · n tx cu dc bo td dn wk nf ca fr ds x0 x1 kp sn sf st tr)) := by
  obtain ⟨e0, hRd, hTo, hDr, hNo, hI0, hI1, hMi, hSe, hTe, hWk, hFa, hOK, hK0, hK1⟩ := id H
  obtain ⟨t, e1, e2, ht, hn, htx⟩ := id hRd
  obtain ⟨it, tf, e3, e4, e5, hcu, hdc, htd⟩ := id hTo
  obtain ⟨cu6, dc6, it6, bo6, df, dy, e6, e7, e8⟩ := id hDr
  obtain ⟨e9, e10, e11, e12, e13⟩ := id hNo
  obtain ⟨g14, e14, hg0, hg1, e15⟩ := id hMi
  obtain ⟨e16, e17, e18, hsn, hsf, hst⟩ := id hSe
  obtain ⟨c19, g20, e19, e20⟩ := id hTe
  obtain ⟨w, pl, y, hwk⟩ := id hWk
  obtain ⟨ftv, fnv, fup, flo, g29, e28, e29⟩ := id hFa
  obtain ⟨hdn, hw9, hnf, hca4, hinj, hcac, hfr6, hdeed⟩ := id hOK
  have h10 := ten_le hcu
  have qj := isIx_nI (show 10 ^ cu < 2 ^ 31 by omega) hj
  refine mOk_w (L := [some (.ref 0), some (vN j), some (vN 2)]) pn_X7 rfl (Nat.le_of_ble_eq_true rfl) rfl ?_
  refine mG_aload_n dX7_number_0 rfl ?_
  refine mG_iload_n dX7_number_1 rfl ?_
  refine mG_cv1 vX7_169 dX7_number_2 (mLe_of rfl) (Nat.le_of_ble_eq_true rfl) e0 (Nat.le_of_ble_eq_true rfl) (ok_X7_isNumber e0 e3 hcu) ?_
  refine mG_if_neB dX7_number_5 (fun c5 => ?_) (fun c5 => Bool.noConfusion (c5.symm.trans qj))
  refine mG_iload_n dX7_number_10 rfl ?_
  refine mG_tableIn (off := 61) (tgt := 72) dX7_number_11 (by decide) (by decide) (by decide) (by decide) ?_
  refine mG_aload_n dX7_number_72 rfl ?_
  refine mG_iload_n dX7_number_73 rfl ?_
  refine mG_iconst (v := nI 1) dX7_number_74 (by decide) ?_
  refine mG_cq2 vX7_178 dX7_number_75 (mLe_of rfl) (Nat.le_of_ble_eq_true rfl) e0 (Nat.le_of_ble_eq_true rfl) (ok_X7_lw e0 e3 e9 e10 e11 e12 e19 e20 hwk hcu (by decide) (by decide) hnf (fun j hj => hfr6 j (by omega)) (fun j hj => hca4 j (by omega)) (by omega)) (fun r h' q => ?_)
  obtain ⟨rfl, w1, p1, y1, q1, ⟨g, q2, q3⟩, q4⟩ := q
  have e0' := (q4 0 (by omega)).trans e0
  have R1 : ∀ b, b < 19 ∨ 28 ≤ b → h' b = h b := q4
  refine mG_iret dX7_number_78 rfl ⟨⟨w, pl, y, hwk.2.2.2.2.2.2.2.1, hwk.2.2.2.2.2.2.2.2, rfl⟩, ⟨e0', ⟨t, (R1 1 (by omega)).trans e1, (R1 2 (by omega)).trans e2, ht, hn, htx⟩, ⟨it, tf, (R1 3 (by omega)).trans e3, (R1 4 (by omega)).trans e4, (R1 5 (by omega)).trans e5, hcu, hdc, htd⟩, ⟨cu6, dc6, it6, bo6, df, dy, (R1 6 (by omega)).trans e6, (R1 7 (by omega)).trans e7, (R1 8 (by omega)).trans e8⟩, ⟨(R1 9 (by omega)).trans e9, (R1 10 (by omega)).trans e10, (R1 11 (by omega)).trans e11, (R1 12 (by omega)).trans e12, (R1 13 (by omega)).trans e13⟩, ⟨(R1 30 (by omega)).trans hI0.1, (R1 31 (by omega)).trans hI0.2.1, (R1 32 (by omega)).trans hI0.2.2.1, (R1 33 (by omega)).trans hI0.2.2.2.1, (R1 34 (by omega)).trans hI0.2.2.2.2⟩, ⟨(R1 35 (by omega)).trans hI1.1, (R1 36 (by omega)).trans hI1.2.1, (R1 37 (by omega)).trans hI1.2.2.1, (R1 38 (by omega)).trans hI1.2.2.2.1, (R1 39 (by omega)).trans hI1.2.2.2.2⟩, ⟨g14, (R1 14 (by omega)).trans e14, hg0, hg1, (R1 15 (by omega)).trans e15⟩, ⟨(R1 16 (by omega)).trans e16, (R1 17 (by omega)).trans e17, (R1 18 (by omega)).trans e18, hsn, hsf, hst⟩, ⟨_, _, q2, q3⟩, ⟨w1, p1, y1, q1⟩, ⟨ftv, fnv, fup, flo, g29, (R1 28 (by omega)).trans e28, (R1 29 (by omega)).trans e29⟩, hOK, hK0, hK1⟩, fun b hb => R1 b (by omega)⟩
set_option maxRecDepth 100000 in
set_option maxHeartbeats 4000000 in
theorem pc_through_bad {E : mE} {h : mH} {n : Nat} {tx : Nat → Nat} {cu dc : Nat} {bo : Bool} {td : Nat → Nat} {dn wk : Nat} {nf ca fr ds : Nat → Nat} {x0 x1 : mSd} {kp : Nat → Bool} {sn : Nat} {sf st : Nat → Nat} {tr : Int64} {c m : Int32} (H : CI h n tx cu dc bo td dn wk nf ca fr ds x0 x1 kp sn sf st tr) (hb : isIx c (10 ^ cu) = false ∨ m < nI 1 ∨ nI 3 < m) : mOk E 46 zX7_through [.ref 0, .int c, .int m] h (cQ h (.int (-1)) (CI · n tx cu dc bo td dn wk nf ca fr ds x0 x1 kp sn sf st tr)) := by
  obtain ⟨e0, hRd, hTo, hDr, hNo, hI0, hI1, hMi, hSe, hTe, hWk, hFa, hOK, hK0, hK1⟩ := id H
  obtain ⟨t, e1, e2, ht, hn, htx⟩ := id hRd
  obtain ⟨it, tf, e3, e4, e5, hcu, hdc, htd⟩ := id hTo
  obtain ⟨cu6, dc6, it6, bo6, df, dy, e6, e7, e8⟩ := id hDr
  obtain ⟨e9, e10, e11, e12, e13⟩ := id hNo
  obtain ⟨g14, e14, hg0, hg1, e15⟩ := id hMi
  obtain ⟨e16, e17, e18, hsn, hsf, hst⟩ := id hSe
  obtain ⟨c19, g20, e19, e20⟩ := id hTe
  obtain ⟨w, pl, y, hwk⟩ := id hWk
  obtain ⟨ftv, fnv, fup, flo, g29, e28, e29⟩ := id hFa
  obtain ⟨hdn, hw9, hnf, hca4, hinj, hcac, hfr6, hdeed⟩ := id hOK
  have h10 := ten_le hcu
  refine mOk_w (L := [some (.ref 0), some (.int c), some (.int m)]) pn_X7 rfl (Nat.le_of_ble_eq_true rfl) rfl ?_
  refine mG_aload_n dX7_through_0 rfl ?_
  refine mG_iload_n dX7_through_1 rfl ?_
  refine mG_cv1 vX7_169 dX7_through_2 (mLe_of rfl) (Nat.le_of_ble_eq_true rfl) e0 (Nat.le_of_ble_eq_true rfl) (ok_X7_isNumber e0 e3 hcu) ?_
  refine mG_if_eqB dX7_through_5 (fun c5 => ?_) (fun c5 => ?_)
  · refine mG_iconst (v := (-1)) dX7_through_18 (by decide) ?_
    exact mG_iret dX7_through_19 rfl ⟨rfl, H, fun _ _ => rfl⟩
  · refine mG_iload_n dX7_through_8 rfl ?_
    refine mG_iconst (v := nI 1) dX7_through_9 (by decide) ?_
    refine mG_icmp_lt dX7_through_10 (fun c10 => ?_) (fun c10 => ?_)
    · refine mG_iconst (v := (-1)) dX7_through_18 (by decide) ?_
      exact mG_iret dX7_through_19 rfl ⟨rfl, H, fun _ _ => rfl⟩
    · refine mG_iload_n dX7_through_13 rfl ?_
      refine mG_iconst (v := nI 3) dX7_through_14 (by decide) ?_
      refine mG_icmp_le dX7_through_15 (fun c15 => (by
      rcases hb with q | q | q
      · rw [c5] at q; cases q
      · exact absurd q c10
      · exact absurd c15 (Int32.not_le.mpr q))) (fun c15 => ?_)
      refine mG_iconst (v := (-1)) dX7_through_18 (by decide) ?_
      exact mG_iret dX7_through_19 rfl ⟨rfl, H, fun _ _ => rfl⟩
set_option maxRecDepth 100000 in
set_option maxHeartbeats 4000000 in
theorem pc_through_none {E : mE} {h : mH} {n : Nat} {tx : Nat → Nat} {cu dc : Nat} {bo : Bool} {td : Nat → Nat} {dn wk : Nat} {nf ca fr ds : Nat → Nat} {x0 x1 : mSd} {kp : Nat → Bool} {sn : Nat} {sf st : Nat → Nat} {tr : Int64} {j k : Nat} (H : CI h n tx cu dc bo td dn wk nf ca fr ds x0 x1 kp sn sf st tr) (hj : j < 10 ^ cu) (hk1 : 1 ≤ k) (hk3 : k ≤ 3) (hn1 : ¬ j + k - 1 < 10 ^ cu) : mOk E 46 zX7_through [.ref 0, vN j, vN k] h (cQ h (.int (-9)) (CI · n tx cu dc bo td dn wk nf ca fr ds x0 x1 kp sn sf st tr)) := by
  obtain ⟨e0, hRd, hTo, hDr, hNo, hI0, hI1, hMi, hSe, hTe, hWk, hFa, hOK, hK0, hK1⟩ := id H
  obtain ⟨t, e1, e2, ht, hn, htx⟩ := id hRd
  obtain ⟨it, tf, e3, e4, e5, hcu, hdc, htd⟩ := id hTo
  obtain ⟨cu6, dc6, it6, bo6, df, dy, e6, e7, e8⟩ := id hDr
  obtain ⟨e9, e10, e11, e12, e13⟩ := id hNo
  obtain ⟨g14, e14, hg0, hg1, e15⟩ := id hMi
  obtain ⟨e16, e17, e18, hsn, hsf, hst⟩ := id hSe
  obtain ⟨c19, g20, e19, e20⟩ := id hTe
  obtain ⟨w, pl, y, hwk⟩ := id hWk
  obtain ⟨ftv, fnv, fup, flo, g29, e28, e29⟩ := id hFa
  obtain ⟨hdn, hw9, hnf, hca4, hinj, hcac, hfr6, hdeed⟩ := id hOK
  have h10 := ten_le hcu
  have qj := isIx_nI (show 10 ^ cu < 2 ^ 31 by omega) hj
  refine mOk_w (L := [some (.ref 0), some (vN j), some (vN k)]) pn_X7 rfl (Nat.le_of_ble_eq_true rfl) rfl ?_
  refine mG_aload_n dX7_through_0 rfl ?_
  refine mG_iload_n dX7_through_1 rfl ?_
  refine mG_cv1 vX7_169 dX7_through_2 (mLe_of rfl) (Nat.le_of_ble_eq_true rfl) e0 (Nat.le_of_ble_eq_true rfl) (ok_X7_isNumber e0 e3 hcu) ?_
  refine mG_if_eqB dX7_through_5 (fun c5 => Bool.noConfusion (c5.symm.trans qj)) (fun c5 => ?_)
  refine mG_iload_n dX7_through_8 rfl ?_
  refine mG_iconst (v := nI 1) dX7_through_9 (by decide) ?_
  refine mG_icmp_ltN dX7_through_10 (by omega) (by omega) (fun c10 => absurd c10 (by omega)) (fun c10 => ?_)
  refine mG_iload_n dX7_through_13 rfl ?_
  refine mG_iconst (v := nI 3) dX7_through_14 (by decide) ?_
  refine mG_icmp_leN dX7_through_15 (by omega) (by omega) (fun c15 => ?_) (fun c15 => absurd c15 (by omega))
  refine mG_aload_n dX7_through_20 rfl ?_
  refine mG_iload_n dX7_through_21 rfl ?_
  refine mG_iload_n dX7_through_22 rfl ?_
  refine mG_iaddN dX7_through_23 ?_
  refine mG_iconst (v := nI 1) dX7_through_24 (by decide) ?_
  refine mG_isubN dX7_through_25 (by omega) ?_
  refine mG_cv1 vX7_169 dX7_through_26 (mLe_of rfl) (Nat.le_of_ble_eq_true rfl) e0 (Nat.le_of_ble_eq_true rfl) (ok_X7_isNumber e0 e3 hcu) ?_
  refine mG_if_eqB dX7_through_29 (fun c29 => ?_) (fun c29 => (by
    obtain ⟨i, hi, q⟩ := (isIx_iff (by omega)).mp c29
    have := (nI_eq (by omega) (by omega)).mp q
    omega))
  refine mG_bipush (v := (-9)) dX7_through_41 (by decide) ?_
  exact mG_iret dX7_through_43 rfl ⟨rfl, H, fun _ _ => rfl⟩
set_option maxRecDepth 100000 in
set_option maxHeartbeats 4000000 in
theorem pc_through_ok {E : mE} {h : mH} {n : Nat} {tx : Nat → Nat} {cu dc : Nat} {bo : Bool} {td : Nat → Nat} {dn wk : Nat} {nf ca fr ds : Nat → Nat} {x0 x1 : mSd} {kp : Nat → Bool} {sn : Nat} {sf st : Nat → Nat} {tr : Int64} {j k : Nat} (H : CI h n tx cu dc bo td dn wk nf ca fr ds x0 x1 kp sn sf st tr) (hj : j < 10 ^ cu) (hk1 : 1 ≤ k) (hk3 : k ≤ 3) (hn1 : j + k - 1 < 10 ^ cu) : mOk E 46 zX7_through [.ref 0, vN j, vN k] h (cQw h nf fr ca bo cu k j (CI · n tx cu dc bo td dn wk nf ca fr ds x0 x1 kp sn sf st tr)) := by
  obtain ⟨e0, hRd, hTo, hDr, hNo, hI0, hI1, hMi, hSe, hTe, hWk, hFa, hOK, hK0, hK1⟩ := id H
  obtain ⟨t, e1, e2, ht, hn, htx⟩ := id hRd
  obtain ⟨it, tf, e3, e4, e5, hcu, hdc, htd⟩ := id hTo
  obtain ⟨cu6, dc6, it6, bo6, df, dy, e6, e7, e8⟩ := id hDr
  obtain ⟨e9, e10, e11, e12, e13⟩ := id hNo
  obtain ⟨g14, e14, hg0, hg1, e15⟩ := id hMi
  obtain ⟨e16, e17, e18, hsn, hsf, hst⟩ := id hSe
  obtain ⟨c19, g20, e19, e20⟩ := id hTe
  obtain ⟨w, pl, y, hwk⟩ := id hWk
  obtain ⟨ftv, fnv, fup, flo, g29, e28, e29⟩ := id hFa
  obtain ⟨hdn, hw9, hnf, hca4, hinj, hcac, hfr6, hdeed⟩ := id hOK
  have h10 := ten_le hcu
  have qj := isIx_nI (show 10 ^ cu < 2 ^ 31 by omega) hj
  have qn := isIx_nI (show 10 ^ cu < 2 ^ 31 by omega) hn1
  refine mOk_w (L := [some (.ref 0), some (vN j), some (vN k)]) pn_X7 rfl (Nat.le_of_ble_eq_true rfl) rfl ?_
  refine mG_aload_n dX7_through_0 rfl ?_
  refine mG_iload_n dX7_through_1 rfl ?_
  refine mG_cv1 vX7_169 dX7_through_2 (mLe_of rfl) (Nat.le_of_ble_eq_true rfl) e0 (Nat.le_of_ble_eq_true rfl) (ok_X7_isNumber e0 e3 hcu) ?_
  refine mG_if_eqB dX7_through_5 (fun c5 => Bool.noConfusion (c5.symm.trans qj)) (fun c5 => ?_)
  refine mG_iload_n dX7_through_8 rfl ?_
  refine mG_iconst (v := nI 1) dX7_through_9 (by decide) ?_
  refine mG_icmp_ltN dX7_through_10 (by omega) (by omega) (fun c10 => absurd c10 (by omega)) (fun c10 => ?_)
  refine mG_iload_n dX7_through_13 rfl ?_
  refine mG_iconst (v := nI 3) dX7_through_14 (by decide) ?_
  refine mG_icmp_leN dX7_through_15 (by omega) (by omega) (fun c15 => ?_) (fun c15 => absurd c15 (by omega))
  refine mG_aload_n dX7_through_20 rfl ?_
  refine mG_iload_n dX7_through_21 rfl ?_
  refine mG_iload_n dX7_through_22 rfl ?_
  refine mG_iaddN dX7_through_23 ?_
  refine mG_iconst (v := nI 1) dX7_through_24 (by decide) ?_
  refine mG_isubN dX7_through_25 (by omega) ?_
  refine mG_cv1 vX7_169 dX7_through_26 (mLe_of rfl) (Nat.le_of_ble_eq_true rfl) e0 (Nat.le_of_ble_eq_true rfl) (ok_X7_isNumber e0 e3 hcu) ?_
  refine mG_if_eqB dX7_through_29 (fun c29 => Bool.noConfusion (c29.symm.trans qn)) (fun c29 => ?_)
  refine mG_aload_n dX7_through_32 rfl ?_
  refine mG_iload_n dX7_through_33 rfl ?_
  refine mG_iload_n dX7_through_34 rfl ?_
  refine mG_cq2 vX7_178 dX7_through_35 (mLe_of rfl) (Nat.le_of_ble_eq_true rfl) e0 (Nat.le_of_ble_eq_true rfl) (ok_X7_lw e0 e3 e9 e10 e11 e12 e19 e20 hwk hcu hk3 hk1 hnf (fun j hj => hfr6 j (by omega)) (fun j hj => hca4 j (by omega)) (by omega)) (fun r h' q => ?_)
  obtain ⟨rfl, w1, p1, y1, q1, ⟨g, q2, q3⟩, q4⟩ := q
  refine mG_goto dX7_through_38 ?_
  have e0' := (q4 0 (by omega)).trans e0
  have R1 : ∀ b, b < 19 ∨ 28 ≤ b → h' b = h b := q4
  refine mG_iret dX7_through_43 rfl ⟨⟨w, pl, y, hwk.2.2.2.2.2.2.2.1, hwk.2.2.2.2.2.2.2.2, rfl⟩, ⟨e0', ⟨t, (R1 1 (by omega)).trans e1, (R1 2 (by omega)).trans e2, ht, hn, htx⟩, ⟨it, tf, (R1 3 (by omega)).trans e3, (R1 4 (by omega)).trans e4, (R1 5 (by omega)).trans e5, hcu, hdc, htd⟩, ⟨cu6, dc6, it6, bo6, df, dy, (R1 6 (by omega)).trans e6, (R1 7 (by omega)).trans e7, (R1 8 (by omega)).trans e8⟩, ⟨(R1 9 (by omega)).trans e9, (R1 10 (by omega)).trans e10, (R1 11 (by omega)).trans e11, (R1 12 (by omega)).trans e12, (R1 13 (by omega)).trans e13⟩, ⟨(R1 30 (by omega)).trans hI0.1, (R1 31 (by omega)).trans hI0.2.1, (R1 32 (by omega)).trans hI0.2.2.1, (R1 33 (by omega)).trans hI0.2.2.2.1, (R1 34 (by omega)).trans hI0.2.2.2.2⟩, ⟨(R1 35 (by omega)).trans hI1.1, (R1 36 (by omega)).trans hI1.2.1, (R1 37 (by omega)).trans hI1.2.2.1, (R1 38 (by omega)).trans hI1.2.2.2.1, (R1 39 (by omega)).trans hI1.2.2.2.2⟩, ⟨g14, (R1 14 (by omega)).trans e14, hg0, hg1, (R1 15 (by omega)).trans e15⟩, ⟨(R1 16 (by omega)).trans e16, (R1 17 (by omega)).trans e17, (R1 18 (by omega)).trans e18, hsn, hsf, hst⟩, ⟨_, _, q2, q3⟩, ⟨w1, p1, y1, q1⟩, ⟨ftv, fnv, fup, flo, g29, (R1 28 (by omega)).trans e28, (R1 29 (by omega)).trans e29⟩, hOK, hK0, hK1⟩, fun b hb => R1 b (by omega)⟩
set_option maxRecDepth 100000 in
set_option maxHeartbeats 4000000 in
theorem pc_odds_bad {E : mE} {h : mH} {n : Nat} {tx : Nat → Nat} {cu dc : Nat} {bo : Bool} {td : Nat → Nat} {dn wk : Nat} {nf ca fr ds : Nat → Nat} {x0 x1 : mSd} {kp : Nat → Bool} {sn : Nat} {sf st : Nat → Nat} {tr : Int64} {c m : Int32} (H : CI h n tx cu dc bo td dn wk nf ca fr ds x0 x1 kp sn sf st tr) (hb : isIx c (10 ^ cu) = false ∨ m < 0 ∨ nI 1 < m) : mOk E 8 zX7_odds [.ref 0, .int c, .int m] h (cQ h (.int (-1)) (CI · n tx cu dc bo td dn wk nf ca fr ds x0 x1 kp sn sf st tr)) := by
  obtain ⟨e0, hRd, hTo, hDr, hNo, hI0, hI1, hMi, hSe, hTe, hWk, hFa, hOK, hK0, hK1⟩ := id H
  obtain ⟨t, e1, e2, ht, hn, htx⟩ := id hRd
  obtain ⟨it, tf, e3, e4, e5, hcu, hdc, htd⟩ := id hTo
  obtain ⟨cu6, dc6, it6, bo6, df, dy, e6, e7, e8⟩ := id hDr
  obtain ⟨e9, e10, e11, e12, e13⟩ := id hNo
  obtain ⟨g14, e14, hg0, hg1, e15⟩ := id hMi
  obtain ⟨e16, e17, e18, hsn, hsf, hst⟩ := id hSe
  obtain ⟨c19, g20, e19, e20⟩ := id hTe
  obtain ⟨w, pl, y, hwk⟩ := id hWk
  obtain ⟨ftv, fnv, fup, flo, g29, e28, e29⟩ := id hFa
  obtain ⟨hdn, hw9, hnf, hca4, hinj, hcac, hfr6, hdeed⟩ := id hOK
  have h10 := ten_le hcu
  refine mOk_w (L := [some (.ref 0), some (.int c), some (.int m)]) pn_X7 rfl (Nat.le_of_ble_eq_true rfl) rfl ?_
  refine mG_aload_n dX7_odds_0 rfl ?_
  refine mG_iload_n dX7_odds_1 rfl ?_
  refine mG_cv1 vX7_169 dX7_odds_2 (mLe_of rfl) (Nat.le_of_ble_eq_true rfl) e0 (Nat.le_of_ble_eq_true rfl) (ok_X7_isNumber e0 e3 hcu) ?_
  refine mG_if_eqB dX7_odds_5 (fun c5 => ?_) (fun c5 => ?_)
  · refine mG_iconst (v := (-1)) dX7_odds_17 (by decide) ?_
    exact mG_iret dX7_odds_18 rfl ⟨rfl, H, fun _ _ => rfl⟩
  · refine mG_iload_n dX7_odds_8 rfl ?_
    refine mG_if_lt dX7_odds_9 (fun c9 => ?_) (fun c9 => ?_)
    · refine mG_iconst (v := (-1)) dX7_odds_17 (by decide) ?_
      exact mG_iret dX7_odds_18 rfl ⟨rfl, H, fun _ _ => rfl⟩
    · refine mG_iload_n dX7_odds_12 rfl ?_
      refine mG_iconst (v := nI 1) dX7_odds_13 (by decide) ?_
      refine mG_icmp_le dX7_odds_14 (fun c14 => (by
      rcases hb with q | q | q
      · rw [c5] at q; cases q
      · exact absurd q c9
      · exact absurd c14 (Int32.not_le.mpr q))) (fun c14 => ?_)
      refine mG_iconst (v := (-1)) dX7_odds_17 (by decide) ?_
      exact mG_iret dX7_odds_18 rfl ⟨rfl, H, fun _ _ => rfl⟩
set_option maxRecDepth 100000 in
set_option maxHeartbeats 4000000 in
theorem pc_odds_0 {E : mE} {h : mH} {n : Nat} {tx : Nat → Nat} {cu dc : Nat} {bo : Bool} {td : Nat → Nat} {dn wk : Nat} {nf ca fr ds : Nat → Nat} {x0 x1 : mSd} {kp : Nat → Bool} {sn : Nat} {sf st : Nat → Nat} {tr : Int64} {j : Nat} (H : CI h n tx cu dc bo td dn wk nf ca fr ds x0 x1 kp sn sf st tr) (hj : j < 10 ^ cu) : mOk E 8 zX7_odds [.ref 0, vN j, vN 0] h (cQ h (vN (odT nf bo cu j).1) (CI · n tx cu dc bo td dn wk nf ca fr ds x0 x1 kp sn sf st tr)) := by
  obtain ⟨e0, hRd, hTo, hDr, hNo, hI0, hI1, hMi, hSe, hTe, hWk, hFa, hOK, hK0, hK1⟩ := id H
  obtain ⟨t, e1, e2, ht, hn, htx⟩ := id hRd
  obtain ⟨it, tf, e3, e4, e5, hcu, hdc, htd⟩ := id hTo
  obtain ⟨cu6, dc6, it6, bo6, df, dy, e6, e7, e8⟩ := id hDr
  obtain ⟨e9, e10, e11, e12, e13⟩ := id hNo
  obtain ⟨g14, e14, hg0, hg1, e15⟩ := id hMi
  obtain ⟨e16, e17, e18, hsn, hsf, hst⟩ := id hSe
  obtain ⟨c19, g20, e19, e20⟩ := id hTe
  obtain ⟨w, pl, y, hwk⟩ := id hWk
  obtain ⟨ftv, fnv, fup, flo, g29, e28, e29⟩ := id hFa
  obtain ⟨hdn, hw9, hnf, hca4, hinj, hcac, hfr6, hdeed⟩ := id hOK
  have h10 := ten_le hcu
  have qj := isIx_nI (show 10 ^ cu < 2 ^ 31 by omega) hj
  refine mOk_w (L := [some (.ref 0), some (vN j), some (vN 0)]) pn_X7 rfl (Nat.le_of_ble_eq_true rfl) rfl ?_
  refine mG_aload_n dX7_odds_0 rfl ?_
  refine mG_iload_n dX7_odds_1 rfl ?_
  refine mG_cv1 vX7_169 dX7_odds_2 (mLe_of rfl) (Nat.le_of_ble_eq_true rfl) e0 (Nat.le_of_ble_eq_true rfl) (ok_X7_isNumber e0 e3 hcu) ?_
  refine mG_if_eqB dX7_odds_5 (fun c5 => Bool.noConfusion (c5.symm.trans qj)) (fun c5 => ?_)
  refine mG_iload_n dX7_odds_8 rfl ?_
  refine mG_if_ltN dX7_odds_9 (by omega) (fun c9 => c9.elim) (fun c9 => ?_)
  refine mG_iload_n dX7_odds_12 rfl ?_
  refine mG_iconst (v := nI 1) dX7_odds_13 (by decide) ?_
  refine mG_icmp_leN dX7_odds_14 (by omega) (by omega) (fun c14 => ?_) (fun c14 => absurd c14 (by omega))
  refine mG_aload_n dX7_odds_19 rfl ?_
  refine mG_get fX7_65 dX7_odds_20 e0 (Nat.le_of_ble_eq_true rfl) rfl ?_
  refine mG_aload_n dX7_odds_23 rfl ?_
  refine mG_get fX7_19 dX7_odds_24 e0 (Nat.le_of_ble_eq_true rfl) rfl ?_
  refine mG_aload_n dX7_odds_27 rfl ?_
  refine mG_get fX7_29 dX7_odds_28 e0 (Nat.le_of_ble_eq_true rfl) rfl ?_
  refine mG_iload_n dX7_odds_31 rfl ?_
  refine mG_cw3 vX7_185 dX7_odds_32 (mLe_of rfl) (Nat.le_of_ble_eq_true rfl) e28 (Nat.le_of_ble_eq_true rfl) (ok_X0_reckon e3 e9 e10 e28 e29 hcu hnf (by omega)) ?_
  refine mG_iload_n dX7_odds_35 rfl ?_
  refine mG_if_neN dX7_odds_36 (by omega) (fun c36 => absurd c36 (by omega)) (fun c36 => ?_)
  refine mG_aload_n dX7_odds_39 rfl ?_
  refine mG_get fX7_65 dX7_odds_40 e0 (Nat.le_of_ble_eq_true rfl) rfl ?_
  refine mG_get fX7_189 dX7_odds_43 rfl (Nat.le_of_ble_eq_true rfl) rfl ?_
  refine mG_goto dX7_odds_46 ?_
  exact mG_iret dX7_odds_56 rfl ⟨rfl, ⟨e0, hRd, hTo, hDr, hNo, hI0, hI1, hMi, hSe, hTe, hWk, ⟨_, _, _, _, _, rfl, rfl⟩, hOK, hK0, hK1⟩, fun b hb => by simp only [mU, show ¬ b = 28 from by omega, show ¬ b = 29 from by omega, if_false]⟩
set_option maxRecDepth 100000 in
set_option maxHeartbeats 4000000 in
theorem pc_odds_1 {E : mE} {h : mH} {n : Nat} {tx : Nat → Nat} {cu dc : Nat} {bo : Bool} {td : Nat → Nat} {dn wk : Nat} {nf ca fr ds : Nat → Nat} {x0 x1 : mSd} {kp : Nat → Bool} {sn : Nat} {sf st : Nat → Nat} {tr : Int64} {j : Nat} (H : CI h n tx cu dc bo td dn wk nf ca fr ds x0 x1 kp sn sf st tr) (hj : j < 10 ^ cu) : mOk E 8 zX7_odds [.ref 0, vN j, vN 1] h (cQ h (vN (odT nf bo cu j).2) (CI · n tx cu dc bo td dn wk nf ca fr ds x0 x1 kp sn sf st tr)) := by
  obtain ⟨e0, hRd, hTo, hDr, hNo, hI0, hI1, hMi, hSe, hTe, hWk, hFa, hOK, hK0, hK1⟩ := id H
  obtain ⟨t, e1, e2, ht, hn, htx⟩ := id hRd
  obtain ⟨it, tf, e3, e4, e5, hcu, hdc, htd⟩ := id hTo
  obtain ⟨cu6, dc6, it6, bo6, df, dy, e6, e7, e8⟩ := id hDr
  obtain ⟨e9, e10, e11, e12, e13⟩ := id hNo
  obtain ⟨g14, e14, hg0, hg1, e15⟩ := id hMi
  obtain ⟨e16, e17, e18, hsn, hsf, hst⟩ := id hSe
  obtain ⟨c19, g20, e19, e20⟩ := id hTe
  obtain ⟨w, pl, y, hwk⟩ := id hWk
  obtain ⟨ftv, fnv, fup, flo, g29, e28, e29⟩ := id hFa
  obtain ⟨hdn, hw9, hnf, hca4, hinj, hcac, hfr6, hdeed⟩ := id hOK
  have h10 := ten_le hcu
  have qj := isIx_nI (show 10 ^ cu < 2 ^ 31 by omega) hj
  refine mOk_w (L := [some (.ref 0), some (vN j), some (vN 1)]) pn_X7 rfl (Nat.le_of_ble_eq_true rfl) rfl ?_
  refine mG_aload_n dX7_odds_0 rfl ?_
  refine mG_iload_n dX7_odds_1 rfl ?_
  refine mG_cv1 vX7_169 dX7_odds_2 (mLe_of rfl) (Nat.le_of_ble_eq_true rfl) e0 (Nat.le_of_ble_eq_true rfl) (ok_X7_isNumber e0 e3 hcu) ?_
  refine mG_if_eqB dX7_odds_5 (fun c5 => Bool.noConfusion (c5.symm.trans qj)) (fun c5 => ?_)
  refine mG_iload_n dX7_odds_8 rfl ?_
  refine mG_if_ltN dX7_odds_9 (by omega) (fun c9 => c9.elim) (fun c9 => ?_)
  refine mG_iload_n dX7_odds_12 rfl ?_
  refine mG_iconst (v := nI 1) dX7_odds_13 (by decide) ?_
  refine mG_icmp_leN dX7_odds_14 (by omega) (by omega) (fun c14 => ?_) (fun c14 => absurd c14 (by omega))
  refine mG_aload_n dX7_odds_19 rfl ?_
  refine mG_get fX7_65 dX7_odds_20 e0 (Nat.le_of_ble_eq_true rfl) rfl ?_
  refine mG_aload_n dX7_odds_23 rfl ?_
  refine mG_get fX7_19 dX7_odds_24 e0 (Nat.le_of_ble_eq_true rfl) rfl ?_
  refine mG_aload_n dX7_odds_27 rfl ?_
  refine mG_get fX7_29 dX7_odds_28 e0 (Nat.le_of_ble_eq_true rfl) rfl ?_
  refine mG_iload_n dX7_odds_31 rfl ?_
  refine mG_cw3 vX7_185 dX7_odds_32 (mLe_of rfl) (Nat.le_of_ble_eq_true rfl) e28 (Nat.le_of_ble_eq_true rfl) (ok_X0_reckon e3 e9 e10 e28 e29 hcu hnf (by omega)) ?_
  refine mG_iload_n dX7_odds_35 rfl ?_
  refine mG_if_neN dX7_odds_36 (by omega) (fun c36 => ?_) (fun c36 => absurd c36 (by omega))
  refine mG_aload_n dX7_odds_49 rfl ?_
  refine mG_get fX7_65 dX7_odds_50 e0 (Nat.le_of_ble_eq_true rfl) rfl ?_
  refine mG_get fX7_192 dX7_odds_53 rfl (Nat.le_of_ble_eq_true rfl) rfl ?_
  exact mG_iret dX7_odds_56 rfl ⟨rfl, ⟨e0, hRd, hTo, hDr, hNo, hI0, hI1, hMi, hSe, hTe, hWk, ⟨_, _, _, _, _, rfl, rfl⟩, hOK, hK0, hK1⟩, fun b hb => by simp only [mU, show ¬ b = 28 from by omega, show ¬ b = 29 from by omega, if_false]⟩
set_option maxRecDepth 100000 in
set_option maxHeartbeats 4000000 in
theorem pc_sees_bad {E : mE} {h : mH} {n : Nat} {tx : Nat → Nat} {cu dc : Nat} {bo : Bool} {td : Nat → Nat} {dn wk : Nat} {nf ca fr ds : Nat → Nat} {x0 x1 : mSd} {kp : Nat → Bool} {sn : Nat} {sf st : Nat → Nat} {tr : Int64} {c m : Int32} (H : CI h n tx cu dc bo td dn wk nf ca fr ds x0 x1 kp sn sf st tr) (hb : isIx c 10 = false ∨ m < 0 ∨ nI 1 < m) : mOk E 2 zX7_sees [.ref 0, .int c, .int m] h (cQ h (.int (-1)) (CI · n tx cu dc bo td dn wk nf ca fr ds x0 x1 kp sn sf st tr)) := by
  obtain ⟨e0, hRd, hTo, hDr, hNo, hI0, hI1, hMi, hSe, hTe, hWk, hFa, hOK, hK0, hK1⟩ := id H
  obtain ⟨t, e1, e2, ht, hn, htx⟩ := id hRd
  obtain ⟨it, tf, e3, e4, e5, hcu, hdc, htd⟩ := id hTo
  obtain ⟨cu6, dc6, it6, bo6, df, dy, e6, e7, e8⟩ := id hDr
  obtain ⟨e9, e10, e11, e12, e13⟩ := id hNo
  obtain ⟨g14, e14, hg0, hg1, e15⟩ := id hMi
  obtain ⟨e16, e17, e18, hsn, hsf, hst⟩ := id hSe
  obtain ⟨c19, g20, e19, e20⟩ := id hTe
  obtain ⟨w, pl, y, hwk⟩ := id hWk
  obtain ⟨ftv, fnv, fup, flo, g29, e28, e29⟩ := id hFa
  obtain ⟨hdn, hw9, hnf, hca4, hinj, hcac, hfr6, hdeed⟩ := id hOK
  refine mOk_w (L := [some (.ref 0), some (.int c), some (.int m)]) pn_X7 rfl (Nat.le_of_ble_eq_true rfl) rfl ?_
  refine mG_iload_n dX7_sees_0 rfl ?_
  refine mG_cs1 sX7_140 dX7_sees_1 (mLe_of rfl) (Nat.le_of_ble_eq_true rfl) (ok_X7_isFigure) ?_
  refine mG_if_eqB dX7_sees_4 (fun c4 => ?_) (fun c4 => ?_)
  · refine mG_iconst (v := (-1)) dX7_sees_16 (by decide) ?_
    exact mG_iret dX7_sees_17 rfl ⟨rfl, H, fun _ _ => rfl⟩
  · refine mG_iload_n dX7_sees_7 rfl ?_
    refine mG_if_lt dX7_sees_8 (fun c8 => ?_) (fun c8 => ?_)
    · refine mG_iconst (v := (-1)) dX7_sees_16 (by decide) ?_
      exact mG_iret dX7_sees_17 rfl ⟨rfl, H, fun _ _ => rfl⟩
    · refine mG_iload_n dX7_sees_11 rfl ?_
      refine mG_iconst (v := nI 1) dX7_sees_12 (by decide) ?_
      refine mG_icmp_le dX7_sees_13 (fun c13 => (by
      rcases hb with q | q | q
      · rw [c4] at q; cases q
      · exact absurd q c8
      · exact absurd c13 (Int32.not_le.mpr q))) (fun c13 => ?_)
      refine mG_iconst (v := (-1)) dX7_sees_16 (by decide) ?_
      exact mG_iret dX7_sees_17 rfl ⟨rfl, H, fun _ _ => rfl⟩
set_option maxRecDepth 100000 in
set_option maxHeartbeats 4000000 in
theorem pc_sees_full {E : mE} {h : mH} {n : Nat} {tx : Nat → Nat} {cu dc : Nat} {bo : Bool} {td : Nat → Nat} {dn wk : Nat} {nf ca fr ds : Nat → Nat} {x0 x1 : mSd} {kp : Nat → Bool} {sn : Nat} {sf st : Nat → Nat} {tr : Int64} {j k : Nat} (H : CI h n tx cu dc bo td dn wk nf ca fr ds x0 x1 kp sn sf st tr) (hj : j < 10) (hk : k < 2) (hf : sn = 6) : mOk E 2 zX7_sees [.ref 0, vN j, vN k] h (cQ h (.int (-3)) (CI · n tx cu dc bo td dn wk nf ca fr ds x0 x1 kp sn sf st tr)) := by
  obtain ⟨e0, hRd, hTo, hDr, hNo, hI0, hI1, hMi, hSe, hTe, hWk, hFa, hOK, hK0, hK1⟩ := id H
  obtain ⟨t, e1, e2, ht, hn, htx⟩ := id hRd
  obtain ⟨it, tf, e3, e4, e5, hcu, hdc, htd⟩ := id hTo
  obtain ⟨cu6, dc6, it6, bo6, df, dy, e6, e7, e8⟩ := id hDr
  obtain ⟨e9, e10, e11, e12, e13⟩ := id hNo
  obtain ⟨g14, e14, hg0, hg1, e15⟩ := id hMi
  obtain ⟨e16, e17, e18, hsn, hsf, hst⟩ := id hSe
  obtain ⟨c19, g20, e19, e20⟩ := id hTe
  obtain ⟨w, pl, y, hwk⟩ := id hWk
  obtain ⟨ftv, fnv, fup, flo, g29, e28, e29⟩ := id hFa
  obtain ⟨hdn, hw9, hnf, hca4, hinj, hcac, hfr6, hdeed⟩ := id hOK
  have qj := isIx_nI (show 10 < 2 ^ 31 by decide) hj
  refine mOk_w (L := [some (.ref 0), some (vN j), some (vN k)]) pn_X7 rfl (Nat.le_of_ble_eq_true rfl) rfl ?_
  refine mG_iload_n dX7_sees_0 rfl ?_
  refine mG_cs1 sX7_140 dX7_sees_1 (mLe_of rfl) (Nat.le_of_ble_eq_true rfl) (ok_X7_isFigure) ?_
  refine mG_if_eqB dX7_sees_4 (fun c4 => Bool.noConfusion (c4.symm.trans qj)) (fun c4 => ?_)
  refine mG_iload_n dX7_sees_7 rfl ?_
  refine mG_if_ltN dX7_sees_8 (by omega) (fun c8 => c8.elim) (fun c8 => ?_)
  refine mG_iload_n dX7_sees_11 rfl ?_
  refine mG_iconst (v := nI 1) dX7_sees_12 (by decide) ?_
  refine mG_icmp_leN dX7_sees_13 (by omega) (by omega) (fun c13 => ?_) (fun c13 => absurd c13 (by omega))
  refine mG_aload_n dX7_sees_18 rfl ?_
  refine mG_get fX7_44 dX7_sees_19 e0 (Nat.le_of_ble_eq_true rfl) rfl ?_
  refine mG_get fX7_85 dX7_sees_22 e16 (Nat.le_of_ble_eq_true rfl) rfl ?_
  refine mG_bipush (v := nI 6) dX7_sees_25 (by decide) ?_
  refine mG_icmp_ltN dX7_sees_27 (by omega) (by omega) (fun c27 => absurd c27 (by omega)) (fun c27 => ?_)
  refine mG_bipush (v := (-3)) dX7_sees_30 (by decide) ?_
  exact mG_iret dX7_sees_32 rfl ⟨rfl, H, fun _ _ => rfl⟩
set_option maxRecDepth 100000 in
set_option maxHeartbeats 4000000 in
theorem pc_sees_ok {E : mE} {h : mH} {n : Nat} {tx : Nat → Nat} {cu dc : Nat} {bo : Bool} {td : Nat → Nat} {dn wk : Nat} {nf ca fr ds : Nat → Nat} {x0 x1 : mSd} {kp : Nat → Bool} {sn : Nat} {sf st : Nat → Nat} {tr : Int64} {j k : Nat} (H : CI h n tx cu dc bo td dn wk nf ca fr ds x0 x1 kp sn sf st tr) (hj : j < 10) (hk : k < 2) (hf : sn < 6) : mOk E 2 zX7_sees [.ref 0, vN j, vN k] h (cQ h (vN (sn + 1)) (CI · n tx cu dc bo td dn wk nf ca fr ds x0 x1 kp (sn + 1) (mUp sf sn j) (mUp st sn k) tr)) := by
  obtain ⟨e0, hRd, hTo, hDr, hNo, hI0, hI1, hMi, hSe, hTe, hWk, hFa, hOK, hK0, hK1⟩ := id H
  obtain ⟨t, e1, e2, ht, hn, htx⟩ := id hRd
  obtain ⟨it, tf, e3, e4, e5, hcu, hdc, htd⟩ := id hTo
  obtain ⟨cu6, dc6, it6, bo6, df, dy, e6, e7, e8⟩ := id hDr
  obtain ⟨e9, e10, e11, e12, e13⟩ := id hNo
  obtain ⟨g14, e14, hg0, hg1, e15⟩ := id hMi
  obtain ⟨e16, e17, e18, hsn, hsf, hst⟩ := id hSe
  obtain ⟨c19, g20, e19, e20⟩ := id hTe
  obtain ⟨w, pl, y, hwk⟩ := id hWk
  obtain ⟨ftv, fnv, fup, flo, g29, e28, e29⟩ := id hFa
  obtain ⟨hdn, hw9, hnf, hca4, hinj, hcac, hfr6, hdeed⟩ := id hOK
  have qj := isIx_nI (show 10 < 2 ^ 31 by decide) hj
  refine mOk_w (L := [some (.ref 0), some (vN j), some (vN k)]) pn_X7 rfl (Nat.le_of_ble_eq_true rfl) rfl ?_
  refine mG_iload_n dX7_sees_0 rfl ?_
  refine mG_cs1 sX7_140 dX7_sees_1 (mLe_of rfl) (Nat.le_of_ble_eq_true rfl) (ok_X7_isFigure) ?_
  refine mG_if_eqB dX7_sees_4 (fun c4 => Bool.noConfusion (c4.symm.trans qj)) (fun c4 => ?_)
  refine mG_iload_n dX7_sees_7 rfl ?_
  refine mG_if_ltN dX7_sees_8 (by omega) (fun c8 => c8.elim) (fun c8 => ?_)
  refine mG_iload_n dX7_sees_11 rfl ?_
  refine mG_iconst (v := nI 1) dX7_sees_12 (by decide) ?_
  refine mG_icmp_leN dX7_sees_13 (by omega) (by omega) (fun c13 => ?_) (fun c13 => absurd c13 (by omega))
  refine mG_aload_n dX7_sees_18 rfl ?_
  refine mG_get fX7_44 dX7_sees_19 e0 (Nat.le_of_ble_eq_true rfl) rfl ?_
  refine mG_get fX7_85 dX7_sees_22 e16 (Nat.le_of_ble_eq_true rfl) rfl ?_
  refine mG_bipush (v := nI 6) dX7_sees_25 (by decide) ?_
  refine mG_icmp_ltN dX7_sees_27 (by omega) (by omega) (fun c27 => ?_) (fun c27 => absurd c27 (by omega))
  refine mG_aload_n dX7_sees_33 rfl ?_
  refine mG_get fX7_44 dX7_sees_34 e0 (Nat.le_of_ble_eq_true rfl) rfl ?_
  refine mG_iload_n dX7_sees_37 rfl ?_
  refine mG_iload_n dX7_sees_38 rfl ?_
  refine mG_cw2 vX7_195 dX7_sees_39 (mLe_of rfl) (Nat.le_of_ble_eq_true rfl) e16 (Nat.le_of_ble_eq_true rfl) (ok_X2_append e16 e17 e18 hf) ?_
  refine mG_aload_n dX7_sees_42 rfl ?_
  refine mG_get fX7_44 dX7_sees_43 e0 (Nat.le_of_ble_eq_true rfl) rfl ?_
  refine mG_get fX7_85 dX7_sees_46 rfl (Nat.le_of_ble_eq_true rfl) rfl ?_
  exact mG_iret dX7_sees_49 rfl ⟨rfl, ⟨e0, hRd, hTo, hDr, hNo, hI0, hI1, hMi, ⟨rfl, rfl, rfl, by omega, fun i hi => by
      by_cases q : i = sn
      · rw [q, mUp_eq]; exact hj
      · rw [mUp_ne _ _ q]; exact hsf i (by omega), fun i hi => by
      by_cases q : i = sn
      · rw [q, mUp_eq]; exact hk
      · rw [mUp_ne _ _ q]; exact hst i (by omega)⟩, hTe, hWk, hFa, hOK, hK0, hK1⟩, fun b hb => by simp only [mU, show ¬ b = 16 from by omega, show ¬ b = 17 from by omega, show ¬ b = 18 from by omega, if_false]⟩
set_option maxRecDepth 100000 in
set_option maxHeartbeats 4000000 in
theorem pc_forget {E : mE} {h : mH} {n : Nat} {tx : Nat → Nat} {cu dc : Nat} {bo : Bool} {td : Nat → Nat} {dn wk : Nat} {nf ca fr ds : Nat → Nat} {x0 x1 : mSd} {kp : Nat → Bool} {sn : Nat} {sf st : Nat → Nat} {tr : Int64} (H : CI h n tx cu dc bo td dn wk nf ca fr ds x0 x1 kp sn sf st tr) : mOk E 1 zX7_forget [.ref 0] h (cQ h (vN sn) (CI · n tx cu dc bo td dn wk nf ca fr ds x0 x1 kp 0 sf st tr)) := by
  obtain ⟨e0, hRd, hTo, hDr, hNo, hI0, hI1, hMi, hSe, hTe, hWk, hFa, hOK, hK0, hK1⟩ := id H
  obtain ⟨t, e1, e2, ht, hn, htx⟩ := id hRd
  obtain ⟨it, tf, e3, e4, e5, hcu, hdc, htd⟩ := id hTo
  obtain ⟨cu6, dc6, it6, bo6, df, dy, e6, e7, e8⟩ := id hDr
  obtain ⟨e9, e10, e11, e12, e13⟩ := id hNo
  obtain ⟨g14, e14, hg0, hg1, e15⟩ := id hMi
  obtain ⟨e16, e17, e18, hsn, hsf, hst⟩ := id hSe
  obtain ⟨c19, g20, e19, e20⟩ := id hTe
  obtain ⟨w, pl, y, hwk⟩ := id hWk
  obtain ⟨ftv, fnv, fup, flo, g29, e28, e29⟩ := id hFa
  obtain ⟨hdn, hw9, hnf, hca4, hinj, hcac, hfr6, hdeed⟩ := id hOK
  refine mOk_w (L := [some (.ref 0), none]) pn_X7 rfl (Nat.le_of_ble_eq_true rfl) rfl ?_
  refine mG_aload_n dX7_forget_0 rfl ?_
  refine mG_get fX7_44 dX7_forget_1 e0 (Nat.le_of_ble_eq_true rfl) rfl ?_
  refine mG_get fX7_85 dX7_forget_4 e16 (Nat.le_of_ble_eq_true rfl) rfl ?_
  refine mG_istore_n dX7_forget_7 (Nat.le_of_ble_eq_true rfl) rfl rfl ?_
  refine mG_aload_n dX7_forget_8 rfl ?_
  refine mG_get fX7_44 dX7_forget_9 e0 (Nat.le_of_ble_eq_true rfl) rfl ?_
  refine mG_iconst (v := nI 0) dX7_forget_12 (by decide) ?_
  refine mG_putI pX7_85 dX7_forget_13 e16 (Nat.le_of_ble_eq_true rfl) (Nat.le_of_ble_eq_true rfl) ?_
  refine mG_iload_n dX7_forget_16 rfl ?_
  exact mG_iret dX7_forget_17 rfl ⟨rfl, ⟨e0, hRd, hTo, hDr, hNo, hI0, hI1, hMi, ⟨rfl, e17, e18, Nat.zero_le _, fun i hi => absurd hi (Nat.not_lt_zero _), fun i hi => absurd hi (Nat.not_lt_zero _)⟩, hTe, hWk, hFa, hOK, hK0, hK1⟩, fun b hb => by simp only [mU, show ¬ b = 16 from by omega, if_false]⟩
set_option maxRecDepth 100000 in
set_option maxHeartbeats 4000000 in
theorem pc_which {E : mE} {h : mH} {n : Nat} {tx : Nat → Nat} {cu dc : Nat} {bo : Bool} {td : Nat → Nat} {dn wk : Nat} {nf ca fr ds : Nat → Nat} {x0 x1 : mSd} {kp : Nat → Bool} {sn : Nat} {sf st : Nat → Nat} {tr : Int64} (H : CI h n tx cu dc bo td dn wk nf ca fr ds x0 x1 kp sn sf st tr) : mOk E 3 zX7_which [.ref 0] h (cQ h (vN (wch nf sf st sn cu)) (CI · n tx cu dc bo td dn wk nf ca fr ds x0 x1 kp sn sf st tr)) := by
  obtain ⟨e0, hRd, hTo, hDr, hNo, hI0, hI1, hMi, hSe, hTe, hWk, hFa, hOK, hK0, hK1⟩ := id H
  obtain ⟨t, e1, e2, ht, hn, htx⟩ := id hRd
  obtain ⟨it, tf, e3, e4, e5, hcu, hdc, htd⟩ := id hTo
  obtain ⟨cu6, dc6, it6, bo6, df, dy, e6, e7, e8⟩ := id hDr
  obtain ⟨e9, e10, e11, e12, e13⟩ := id hNo
  obtain ⟨g14, e14, hg0, hg1, e15⟩ := id hMi
  obtain ⟨e16, e17, e18, hsn, hsf, hst⟩ := id hSe
  obtain ⟨c19, g20, e19, e20⟩ := id hTe
  obtain ⟨w, pl, y, hwk⟩ := id hWk
  obtain ⟨ftv, fnv, fup, flo, g29, e28, e29⟩ := id hFa
  obtain ⟨hdn, hw9, hnf, hca4, hinj, hcac, hfr6, hdeed⟩ := id hOK
  refine mOk_w (L := [some (.ref 0)]) pn_X7 rfl (Nat.le_of_ble_eq_true rfl) rfl ?_
  refine mG_aload_n dX7_which_0 rfl ?_
  refine mG_get fX7_44 dX7_which_1 e0 (Nat.le_of_ble_eq_true rfl) rfl ?_
  refine mG_aload_n dX7_which_4 rfl ?_
  refine mG_get fX7_19 dX7_which_5 e0 (Nat.le_of_ble_eq_true rfl) rfl ?_
  refine mG_get fX7_197 dX7_which_8 e3 (Nat.le_of_ble_eq_true rfl) rfl ?_
  refine mG_aload_n dX7_which_11 rfl ?_
  refine mG_get fX7_29 dX7_which_12 e0 (Nat.le_of_ble_eq_true rfl) rfl ?_
  refine mG_cv2 vX7_200 dX7_which_15 (mLe_of rfl) (Nat.le_of_ble_eq_true rfl) e16 (Nat.le_of_ble_eq_true rfl) (ok_X2_cubes e9 e10 e16 e17 e18 hsn hsf hst hcu hnf) ?_
  exact mG_iret dX7_which_18 rfl ⟨rfl, H, fun _ _ => rfl⟩
set_option maxRecDepth 100000 in
set_option maxHeartbeats 4000000 in
theorem pc_look {E : mE} {h : mH} {n : Nat} {tx : Nat → Nat} {cu dc : Nat} {bo : Bool} {td : Nat → Nat} {dn wk : Nat} {nf ca fr ds : Nat → Nat} {x0 x1 : mSd} {kp : Nat → Bool} {sn : Nat} {sf st : Nat → Nat} {tr : Int64} (H : CI h n tx cu dc bo td dn wk nf ca fr ds x0 x1 kp sn sf st tr) : mOk E 4 zX7_look [.ref 0] h (cQ h (.int (look nf sf st sn cu)) (CI · n tx cu dc bo td dn wk nf ca fr ds x0 x1 kp sn sf st tr)) := by
  obtain ⟨e0, hRd, hTo, hDr, hNo, hI0, hI1, hMi, hSe, hTe, hWk, hFa, hOK, hK0, hK1⟩ := id H
  obtain ⟨t, e1, e2, ht, hn, htx⟩ := id hRd
  obtain ⟨it, tf, e3, e4, e5, hcu, hdc, htd⟩ := id hTo
  obtain ⟨cu6, dc6, it6, bo6, df, dy, e6, e7, e8⟩ := id hDr
  obtain ⟨e9, e10, e11, e12, e13⟩ := id hNo
  obtain ⟨g14, e14, hg0, hg1, e15⟩ := id hMi
  obtain ⟨e16, e17, e18, hsn, hsf, hst⟩ := id hSe
  obtain ⟨c19, g20, e19, e20⟩ := id hTe
  obtain ⟨w, pl, y, hwk⟩ := id hWk
  obtain ⟨ftv, fnv, fup, flo, g29, e28, e29⟩ := id hFa
  obtain ⟨hdn, hw9, hnf, hca4, hinj, hcac, hfr6, hdeed⟩ := id hOK
  refine mOk_w (L := [some (.ref 0)]) pn_X7 rfl (Nat.le_of_ble_eq_true rfl) rfl ?_
  refine mG_aload_n dX7_look_0 rfl ?_
  refine mG_get fX7_44 dX7_look_1 e0 (Nat.le_of_ble_eq_true rfl) rfl ?_
  refine mG_aload_n dX7_look_4 rfl ?_
  refine mG_get fX7_19 dX7_look_5 e0 (Nat.le_of_ble_eq_true rfl) rfl ?_
  refine mG_get fX7_197 dX7_look_8 e3 (Nat.le_of_ble_eq_true rfl) rfl ?_
  refine mG_aload_n dX7_look_11 rfl ?_
  refine mG_get fX7_29 dX7_look_12 e0 (Nat.le_of_ble_eq_true rfl) rfl ?_
  refine mG_cv2 vX7_204 dX7_look_15 (mLe_of rfl) (Nat.le_of_ble_eq_true rfl) e16 (Nat.le_of_ble_eq_true rfl) (ok_X2_best e9 e10 e16 e17 e18 hsn hsf hst hcu hnf) ?_
  exact mG_iret dX7_look_18 rfl ⟨rfl, H, fun _ _ => rfl⟩
set_option maxRecDepth 100000 in
set_option maxHeartbeats 4000000 in
theorem pc_mark_bad {E : mE} {h : mH} {n : Nat} {tx : Nat → Nat} {cu dc : Nat} {bo : Bool} {td : Nat → Nat} {dn wk : Nat} {nf ca fr ds : Nat → Nat} {x0 x1 : mSd} {kp : Nat → Bool} {sn : Nat} {sf st : Nat → Nat} {tr : Int64} {c m : Int32} (H : CI h n tx cu dc bo td dn wk nf ca fr ds x0 x1 kp sn sf st tr) (hb : m < 0 ∨ nI 5 < m ∨ isIx c cu = false) : mOk E 5 zX7_mark [.ref 0, .int m, .int c] h (cQ h (.int (-1000000)) (CI · n tx cu dc bo td dn wk nf ca fr ds x0 x1 kp sn sf st tr)) := by
  obtain ⟨e0, hRd, hTo, hDr, hNo, hI0, hI1, hMi, hSe, hTe, hWk, hFa, hOK, hK0, hK1⟩ := id H
  obtain ⟨t, e1, e2, ht, hn, htx⟩ := id hRd
  obtain ⟨it, tf, e3, e4, e5, hcu, hdc, htd⟩ := id hTo
  obtain ⟨cu6, dc6, it6, bo6, df, dy, e6, e7, e8⟩ := id hDr
  obtain ⟨e9, e10, e11, e12, e13⟩ := id hNo
  obtain ⟨g14, e14, hg0, hg1, e15⟩ := id hMi
  obtain ⟨e16, e17, e18, hsn, hsf, hst⟩ := id hSe
  obtain ⟨c19, g20, e19, e20⟩ := id hTe
  obtain ⟨w, pl, y, hwk⟩ := id hWk
  obtain ⟨ftv, fnv, fup, flo, g29, e28, e29⟩ := id hFa
  obtain ⟨hdn, hw9, hnf, hca4, hinj, hcac, hfr6, hdeed⟩ := id hOK
  refine mOk_w (L := [some (.ref 0), some (.int m), some (.int c)]) pn_X7 rfl (Nat.le_of_ble_eq_true rfl) rfl ?_
  refine mG_iload_n dX7_mark_0 rfl ?_
  refine mG_if_lt dX7_mark_1 (fun c1 => ?_) (fun c1 => ?_)
  · refine mG_ldc dX7_mark_17 kX7_207 ?_
    exact mG_iret dX7_mark_19 rfl ⟨rfl, H, fun _ _ => rfl⟩
  · refine mG_iload_n dX7_mark_4 rfl ?_
    refine mG_iconst (v := nI 5) dX7_mark_5 (by decide) ?_
    refine mG_icmp_gt dX7_mark_6 (fun c6 => ?_) (fun c6 => ?_)
    · refine mG_ldc dX7_mark_17 kX7_207 ?_
      exact mG_iret dX7_mark_19 rfl ⟨rfl, H, fun _ _ => rfl⟩
    · refine mG_aload_n dX7_mark_9 rfl ?_
      refine mG_iload_n dX7_mark_10 rfl ?_
      refine mG_cv1 vX7_94 dX7_mark_11 (mLe_of rfl) (Nat.le_of_ble_eq_true rfl) e0 (Nat.le_of_ble_eq_true rfl) (ok_X7_isCube e0 e3) ?_
      refine mG_if_neB dX7_mark_14 (fun c14 => (by
      rcases hb with q | q | q
      · exact absurd q c1
      · exact absurd q c6
      · rw [c14] at q; cases q)) (fun c14 => ?_)
      refine mG_ldc dX7_mark_17 kX7_207 ?_
      exact mG_iret dX7_mark_19 rfl ⟨rfl, H, fun _ _ => rfl⟩
set_option maxRecDepth 100000 in
set_option maxHeartbeats 4000000 in
theorem pc_mark_0 {E : mE} {h : mH} {n : Nat} {tx : Nat → Nat} {cu dc : Nat} {bo : Bool} {td : Nat → Nat} {dn wk : Nat} {nf ca fr ds : Nat → Nat} {x0 x1 : mSd} {kp : Nat → Bool} {sn : Nat} {sf st : Nat → Nat} {tr : Int64} {c p : Nat} (H : CI h n tx cu dc bo td dn wk nf ca fr ds x0 x1 kp sn sf st tr) (hj : c < cu) (hp : p < cu) (hpc : ca p = c) : mOk E 5 zX7_mark [.ref 0, vN 0, vN c] h (cQ h (.int (nI (nf (c * 6 + fr c)))) (CI · n tx cu dc bo td dn wk nf ca fr ds x0 x1 kp sn sf st (tr + kT 0))) := by
  obtain ⟨e0, hRd, hTo, hDr, hNo, hI0, hI1, hMi, hSe, hTe, hWk, hFa, hOK, hK0, hK1⟩ := id H
  obtain ⟨t, e1, e2, ht, hn, htx⟩ := id hRd
  obtain ⟨it, tf, e3, e4, e5, hcu, hdc, htd⟩ := id hTo
  obtain ⟨cu6, dc6, it6, bo6, df, dy, e6, e7, e8⟩ := id hDr
  obtain ⟨e9, e10, e11, e12, e13⟩ := id hNo
  obtain ⟨g14, e14, hg0, hg1, e15⟩ := id hMi
  obtain ⟨e16, e17, e18, hsn, hsf, hst⟩ := id hSe
  obtain ⟨c19, g20, e19, e20⟩ := id hTe
  obtain ⟨w, pl, y, hwk⟩ := id hWk
  obtain ⟨ftv, fnv, fup, flo, g29, e28, e29⟩ := id hFa
  obtain ⟨hdn, hw9, hnf, hca4, hinj, hcac, hfr6, hdeed⟩ := id hOK
  have qj := isIx_nI (show cu < 2 ^ 31 by omega) hj
  refine mOk_w (L := [some (.ref 0), some (vN 0), some (vN c)]) pn_X7 rfl (Nat.le_of_ble_eq_true rfl) rfl ?_
  refine mG_iload_n dX7_mark_0 rfl ?_
  refine mG_if_ltN dX7_mark_1 (by omega) (fun c1 => c1.elim) (fun c1 => ?_)
  refine mG_iload_n dX7_mark_4 rfl ?_
  refine mG_iconst (v := nI 5) dX7_mark_5 (by decide) ?_
  refine mG_icmp_gtN dX7_mark_6 (by omega) (by omega) (fun c6 => absurd c6 (by omega)) (fun c6 => ?_)
  refine mG_aload_n dX7_mark_9 rfl ?_
  refine mG_iload_n dX7_mark_10 rfl ?_
  refine mG_cv1 vX7_94 dX7_mark_11 (mLe_of rfl) (Nat.le_of_ble_eq_true rfl) e0 (Nat.le_of_ble_eq_true rfl) (ok_X7_isCube e0 e3) ?_
  refine mG_if_neB dX7_mark_14 (fun c14 => ?_) (fun c14 => Bool.noConfusion (c14.symm.trans qj))
  refine mG_aload_n dX7_mark_20 rfl ?_
  refine mG_iload_n dX7_mark_21 rfl ?_
  refine mG_iload_n dX7_mark_22 rfl ?_
  refine mG_cv2 vX7_208 dX7_mark_23 (mLe_of rfl) (Nat.le_of_ble_eq_true rfl) e0 (Nat.le_of_ble_eq_true rfl) (ok_mark0 e0 e9 e10 e11 e12 (by omega) (hfr6 c (by omega)) (by omega) hpc (fun i hi z => absurd (hinj i p (by omega) hp (z.trans hpc.symm)) (by omega)) hca4 (fun i hi => hnf _ (by omega))) ?_
  exact mG_iret dX7_mark_26 rfl ⟨rfl, ⟨rfl, hRd, hTo, hDr, hNo, hI0, hI1, hMi, hSe, hTe, hWk, hFa, hOK, hK0, hK1⟩, fun b hb => by simp only [mU, show ¬ b = 0 from by omega, if_false]⟩
set_option maxRecDepth 100000 in
set_option maxHeartbeats 4000000 in
theorem pc_mark_1 {E : mE} {h : mH} {n : Nat} {tx : Nat → Nat} {cu dc : Nat} {bo : Bool} {td : Nat → Nat} {dn wk : Nat} {nf ca fr ds : Nat → Nat} {x0 x1 : mSd} {kp : Nat → Bool} {sn : Nat} {sf st : Nat → Nat} {tr : Int64} {c p : Nat} (H : CI h n tx cu dc bo td dn wk nf ca fr ds x0 x1 kp sn sf st tr) (hj : c < cu) (hp : p < cu) (hpc : ca p = c) : mOk E 5 zX7_mark [.ref 0, vN 1, vN c] h (cQ h (.int (nI (nf (c * 6 + fr c)) + nI p)) (CI · n tx cu dc bo td dn wk nf ca fr ds x0 x1 kp sn sf st (tr + kT 1 + kT 0))) := by
  obtain ⟨e0, hRd, hTo, hDr, hNo, hI0, hI1, hMi, hSe, hTe, hWk, hFa, hOK, hK0, hK1⟩ := id H
  obtain ⟨t, e1, e2, ht, hn, htx⟩ := id hRd
  obtain ⟨it, tf, e3, e4, e5, hcu, hdc, htd⟩ := id hTo
  obtain ⟨cu6, dc6, it6, bo6, df, dy, e6, e7, e8⟩ := id hDr
  obtain ⟨e9, e10, e11, e12, e13⟩ := id hNo
  obtain ⟨g14, e14, hg0, hg1, e15⟩ := id hMi
  obtain ⟨e16, e17, e18, hsn, hsf, hst⟩ := id hSe
  obtain ⟨c19, g20, e19, e20⟩ := id hTe
  obtain ⟨w, pl, y, hwk⟩ := id hWk
  obtain ⟨ftv, fnv, fup, flo, g29, e28, e29⟩ := id hFa
  obtain ⟨hdn, hw9, hnf, hca4, hinj, hcac, hfr6, hdeed⟩ := id hOK
  have qj := isIx_nI (show cu < 2 ^ 31 by omega) hj
  refine mOk_w (L := [some (.ref 0), some (vN 1), some (vN c)]) pn_X7 rfl (Nat.le_of_ble_eq_true rfl) rfl ?_
  refine mG_iload_n dX7_mark_0 rfl ?_
  refine mG_if_ltN dX7_mark_1 (by omega) (fun c1 => c1.elim) (fun c1 => ?_)
  refine mG_iload_n dX7_mark_4 rfl ?_
  refine mG_iconst (v := nI 5) dX7_mark_5 (by decide) ?_
  refine mG_icmp_gtN dX7_mark_6 (by omega) (by omega) (fun c6 => absurd c6 (by omega)) (fun c6 => ?_)
  refine mG_aload_n dX7_mark_9 rfl ?_
  refine mG_iload_n dX7_mark_10 rfl ?_
  refine mG_cv1 vX7_94 dX7_mark_11 (mLe_of rfl) (Nat.le_of_ble_eq_true rfl) e0 (Nat.le_of_ble_eq_true rfl) (ok_X7_isCube e0 e3) ?_
  refine mG_if_neB dX7_mark_14 (fun c14 => ?_) (fun c14 => Bool.noConfusion (c14.symm.trans qj))
  refine mG_aload_n dX7_mark_20 rfl ?_
  refine mG_iload_n dX7_mark_21 rfl ?_
  refine mG_iload_n dX7_mark_22 rfl ?_
  refine mG_cv2 vX7_208 dX7_mark_23 (mLe_of rfl) (Nat.le_of_ble_eq_true rfl) e0 (Nat.le_of_ble_eq_true rfl) (ok_mark1 e0 e9 e10 e11 e12 (by omega) (hfr6 c (by omega)) (by omega) hpc (fun i hi z => absurd (hinj i p (by omega) hp (z.trans hpc.symm)) (by omega)) hca4 (fun i hi => hnf _ (by omega))) ?_
  exact mG_iret dX7_mark_26 rfl ⟨rfl, ⟨rfl, hRd, hTo, hDr, hNo, hI0, hI1, hMi, hSe, hTe, hWk, hFa, hOK, hK0, hK1⟩, fun b hb => by simp only [mU, show ¬ b = 0 from by omega, if_false]⟩
set_option maxRecDepth 100000 in
set_option maxHeartbeats 4000000 in
theorem pc_mark_2 {E : mE} {h : mH} {n : Nat} {tx : Nat → Nat} {cu dc : Nat} {bo : Bool} {td : Nat → Nat} {dn wk : Nat} {nf ca fr ds : Nat → Nat} {x0 x1 : mSd} {kp : Nat → Bool} {sn : Nat} {sf st : Nat → Nat} {tr : Int64} {c p : Nat} (H : CI h n tx cu dc bo td dn wk nf ca fr ds x0 x1 kp sn sf st tr) (hj : c < cu) (hp : p < cu) (hpc : ca p = c) : mOk E 5 zX7_mark [.ref 0, vN 2, vN c] h (cQ h (.int (nI (nf (c * 6 + fr c)) - nI (popc (fgs nf c 6) 10))) (CI · n tx cu dc bo td dn wk nf ca fr ds x0 x1 kp sn sf st (tr + kT 2 + kT 0))) := by
  obtain ⟨e0, hRd, hTo, hDr, hNo, hI0, hI1, hMi, hSe, hTe, hWk, hFa, hOK, hK0, hK1⟩ := id H
  obtain ⟨t, e1, e2, ht, hn, htx⟩ := id hRd
  obtain ⟨it, tf, e3, e4, e5, hcu, hdc, htd⟩ := id hTo
  obtain ⟨cu6, dc6, it6, bo6, df, dy, e6, e7, e8⟩ := id hDr
  obtain ⟨e9, e10, e11, e12, e13⟩ := id hNo
  obtain ⟨g14, e14, hg0, hg1, e15⟩ := id hMi
  obtain ⟨e16, e17, e18, hsn, hsf, hst⟩ := id hSe
  obtain ⟨c19, g20, e19, e20⟩ := id hTe
  obtain ⟨w, pl, y, hwk⟩ := id hWk
  obtain ⟨ftv, fnv, fup, flo, g29, e28, e29⟩ := id hFa
  obtain ⟨hdn, hw9, hnf, hca4, hinj, hcac, hfr6, hdeed⟩ := id hOK
  have qj := isIx_nI (show cu < 2 ^ 31 by omega) hj
  refine mOk_w (L := [some (.ref 0), some (vN 2), some (vN c)]) pn_X7 rfl (Nat.le_of_ble_eq_true rfl) rfl ?_
  refine mG_iload_n dX7_mark_0 rfl ?_
  refine mG_if_ltN dX7_mark_1 (by omega) (fun c1 => c1.elim) (fun c1 => ?_)
  refine mG_iload_n dX7_mark_4 rfl ?_
  refine mG_iconst (v := nI 5) dX7_mark_5 (by decide) ?_
  refine mG_icmp_gtN dX7_mark_6 (by omega) (by omega) (fun c6 => absurd c6 (by omega)) (fun c6 => ?_)
  refine mG_aload_n dX7_mark_9 rfl ?_
  refine mG_iload_n dX7_mark_10 rfl ?_
  refine mG_cv1 vX7_94 dX7_mark_11 (mLe_of rfl) (Nat.le_of_ble_eq_true rfl) e0 (Nat.le_of_ble_eq_true rfl) (ok_X7_isCube e0 e3) ?_
  refine mG_if_neB dX7_mark_14 (fun c14 => ?_) (fun c14 => Bool.noConfusion (c14.symm.trans qj))
  refine mG_aload_n dX7_mark_20 rfl ?_
  refine mG_iload_n dX7_mark_21 rfl ?_
  refine mG_iload_n dX7_mark_22 rfl ?_
  refine mG_cv2 vX7_208 dX7_mark_23 (mLe_of rfl) (Nat.le_of_ble_eq_true rfl) e0 (Nat.le_of_ble_eq_true rfl) (ok_mark2 e0 e9 e10 e11 e12 (by omega) (hfr6 c (by omega)) (by omega) hpc (fun i hi z => absurd (hinj i p (by omega) hp (z.trans hpc.symm)) (by omega)) hca4 (fun i hi => hnf _ (by omega))) ?_
  exact mG_iret dX7_mark_26 rfl ⟨rfl, ⟨rfl, hRd, hTo, hDr, hNo, hI0, hI1, hMi, hSe, hTe, hWk, hFa, hOK, hK0, hK1⟩, fun b hb => by simp only [mU, show ¬ b = 0 from by omega, if_false]⟩
set_option maxRecDepth 100000 in
set_option maxHeartbeats 4000000 in
theorem pc_mark_3 {E : mE} {h : mH} {n : Nat} {tx : Nat → Nat} {cu dc : Nat} {bo : Bool} {td : Nat → Nat} {dn wk : Nat} {nf ca fr ds : Nat → Nat} {x0 x1 : mSd} {kp : Nat → Bool} {sn : Nat} {sf st : Nat → Nat} {tr : Int64} {c p : Nat} (H : CI h n tx cu dc bo td dn wk nf ca fr ds x0 x1 kp sn sf st tr) (hj : c < cu) (hp : p < cu) (hpc : ca p = c) : mOk E 5 zX7_mark [.ref 0, vN 3, vN c] h (cQ h (.int ((nI (nf (c * 6 + fr c)) + nI p) * nI 2)) (CI · n tx cu dc bo td dn wk nf ca fr ds x0 x1 kp sn sf st (tr + kT 3 + kT 1 + kT 0))) := by
  obtain ⟨e0, hRd, hTo, hDr, hNo, hI0, hI1, hMi, hSe, hTe, hWk, hFa, hOK, hK0, hK1⟩ := id H
  obtain ⟨t, e1, e2, ht, hn, htx⟩ := id hRd
  obtain ⟨it, tf, e3, e4, e5, hcu, hdc, htd⟩ := id hTo
  obtain ⟨cu6, dc6, it6, bo6, df, dy, e6, e7, e8⟩ := id hDr
  obtain ⟨e9, e10, e11, e12, e13⟩ := id hNo
  obtain ⟨g14, e14, hg0, hg1, e15⟩ := id hMi
  obtain ⟨e16, e17, e18, hsn, hsf, hst⟩ := id hSe
  obtain ⟨c19, g20, e19, e20⟩ := id hTe
  obtain ⟨w, pl, y, hwk⟩ := id hWk
  obtain ⟨ftv, fnv, fup, flo, g29, e28, e29⟩ := id hFa
  obtain ⟨hdn, hw9, hnf, hca4, hinj, hcac, hfr6, hdeed⟩ := id hOK
  have qj := isIx_nI (show cu < 2 ^ 31 by omega) hj
  refine mOk_w (L := [some (.ref 0), some (vN 3), some (vN c)]) pn_X7 rfl (Nat.le_of_ble_eq_true rfl) rfl ?_
  refine mG_iload_n dX7_mark_0 rfl ?_
  refine mG_if_ltN dX7_mark_1 (by omega) (fun c1 => c1.elim) (fun c1 => ?_)
  refine mG_iload_n dX7_mark_4 rfl ?_
  refine mG_iconst (v := nI 5) dX7_mark_5 (by decide) ?_
  refine mG_icmp_gtN dX7_mark_6 (by omega) (by omega) (fun c6 => absurd c6 (by omega)) (fun c6 => ?_)
  refine mG_aload_n dX7_mark_9 rfl ?_
  refine mG_iload_n dX7_mark_10 rfl ?_
  refine mG_cv1 vX7_94 dX7_mark_11 (mLe_of rfl) (Nat.le_of_ble_eq_true rfl) e0 (Nat.le_of_ble_eq_true rfl) (ok_X7_isCube e0 e3) ?_
  refine mG_if_neB dX7_mark_14 (fun c14 => ?_) (fun c14 => Bool.noConfusion (c14.symm.trans qj))
  refine mG_aload_n dX7_mark_20 rfl ?_
  refine mG_iload_n dX7_mark_21 rfl ?_
  refine mG_iload_n dX7_mark_22 rfl ?_
  refine mG_cv2 vX7_208 dX7_mark_23 (mLe_of rfl) (Nat.le_of_ble_eq_true rfl) e0 (Nat.le_of_ble_eq_true rfl) (ok_mark3 e0 e9 e10 e11 e12 (by omega) (hfr6 c (by omega)) (by omega) hpc (fun i hi z => absurd (hinj i p (by omega) hp (z.trans hpc.symm)) (by omega)) hca4 (fun i hi => hnf _ (by omega))) ?_
  exact mG_iret dX7_mark_26 rfl ⟨rfl, ⟨rfl, hRd, hTo, hDr, hNo, hI0, hI1, hMi, hSe, hTe, hWk, hFa, hOK, hK0, hK1⟩, fun b hb => by simp only [mU, show ¬ b = 0 from by omega, if_false]⟩
set_option maxRecDepth 100000 in
set_option maxHeartbeats 4000000 in
theorem pc_mark_4 {E : mE} {h : mH} {n : Nat} {tx : Nat → Nat} {cu dc : Nat} {bo : Bool} {td : Nat → Nat} {dn wk : Nat} {nf ca fr ds : Nat → Nat} {x0 x1 : mSd} {kp : Nat → Bool} {sn : Nat} {sf st : Nat → Nat} {tr : Int64} {c p : Nat} (H : CI h n tx cu dc bo td dn wk nf ca fr ds x0 x1 kp sn sf st tr) (hj : c < cu) (hp : p < cu) (hpc : ca p = c) : mOk E 5 zX7_mark [.ref 0, vN 4, vN c] h (cQ h (.int ((nI (nf (c * 6 + fr c)) - nI (popc (fgs nf c 6) 10)) + nI c)) (CI · n tx cu dc bo td dn wk nf ca fr ds x0 x1 kp sn sf st (tr + kT 4 + kT 2 + kT 0))) := by
  obtain ⟨e0, hRd, hTo, hDr, hNo, hI0, hI1, hMi, hSe, hTe, hWk, hFa, hOK, hK0, hK1⟩ := id H
  obtain ⟨t, e1, e2, ht, hn, htx⟩ := id hRd
  obtain ⟨it, tf, e3, e4, e5, hcu, hdc, htd⟩ := id hTo
  obtain ⟨cu6, dc6, it6, bo6, df, dy, e6, e7, e8⟩ := id hDr
  obtain ⟨e9, e10, e11, e12, e13⟩ := id hNo
  obtain ⟨g14, e14, hg0, hg1, e15⟩ := id hMi
  obtain ⟨e16, e17, e18, hsn, hsf, hst⟩ := id hSe
  obtain ⟨c19, g20, e19, e20⟩ := id hTe
  obtain ⟨w, pl, y, hwk⟩ := id hWk
  obtain ⟨ftv, fnv, fup, flo, g29, e28, e29⟩ := id hFa
  obtain ⟨hdn, hw9, hnf, hca4, hinj, hcac, hfr6, hdeed⟩ := id hOK
  have qj := isIx_nI (show cu < 2 ^ 31 by omega) hj
  refine mOk_w (L := [some (.ref 0), some (vN 4), some (vN c)]) pn_X7 rfl (Nat.le_of_ble_eq_true rfl) rfl ?_
  refine mG_iload_n dX7_mark_0 rfl ?_
  refine mG_if_ltN dX7_mark_1 (by omega) (fun c1 => c1.elim) (fun c1 => ?_)
  refine mG_iload_n dX7_mark_4 rfl ?_
  refine mG_iconst (v := nI 5) dX7_mark_5 (by decide) ?_
  refine mG_icmp_gtN dX7_mark_6 (by omega) (by omega) (fun c6 => absurd c6 (by omega)) (fun c6 => ?_)
  refine mG_aload_n dX7_mark_9 rfl ?_
  refine mG_iload_n dX7_mark_10 rfl ?_
  refine mG_cv1 vX7_94 dX7_mark_11 (mLe_of rfl) (Nat.le_of_ble_eq_true rfl) e0 (Nat.le_of_ble_eq_true rfl) (ok_X7_isCube e0 e3) ?_
  refine mG_if_neB dX7_mark_14 (fun c14 => ?_) (fun c14 => Bool.noConfusion (c14.symm.trans qj))
  refine mG_aload_n dX7_mark_20 rfl ?_
  refine mG_iload_n dX7_mark_21 rfl ?_
  refine mG_iload_n dX7_mark_22 rfl ?_
  refine mG_cv2 vX7_208 dX7_mark_23 (mLe_of rfl) (Nat.le_of_ble_eq_true rfl) e0 (Nat.le_of_ble_eq_true rfl) (ok_mark4 e0 e9 e10 e11 e12 (by omega) (hfr6 c (by omega)) (by omega) hpc (fun i hi z => absurd (hinj i p (by omega) hp (z.trans hpc.symm)) (by omega)) hca4 (fun i hi => hnf _ (by omega))) ?_
  exact mG_iret dX7_mark_26 rfl ⟨rfl, ⟨rfl, hRd, hTo, hDr, hNo, hI0, hI1, hMi, hSe, hTe, hWk, hFa, hOK, hK0, hK1⟩, fun b hb => by simp only [mU, show ¬ b = 0 from by omega, if_false]⟩
set_option maxRecDepth 100000 in
set_option maxHeartbeats 4000000 in
theorem pc_mark_5 {E : mE} {h : mH} {n : Nat} {tx : Nat → Nat} {cu dc : Nat} {bo : Bool} {td : Nat → Nat} {dn wk : Nat} {nf ca fr ds : Nat → Nat} {x0 x1 : mSd} {kp : Nat → Bool} {sn : Nat} {sf st : Nat → Nat} {tr : Int64} {c p : Nat} (H : CI h n tx cu dc bo td dn wk nf ca fr ds x0 x1 kp sn sf st tr) (hj : c < cu) (hp : p < cu) (hpc : ca p = c) : mOk E 5 zX7_mark [.ref 0, vN 5, vN c] h (cQ h (.int (nI (nf (c * 6 + fr c)) + nI wk)) (CI · n tx cu dc bo td dn wk nf ca fr ds x0 x1 kp sn sf st (tr + kT 5 + kT 0))) := by
  obtain ⟨e0, hRd, hTo, hDr, hNo, hI0, hI1, hMi, hSe, hTe, hWk, hFa, hOK, hK0, hK1⟩ := id H
  obtain ⟨t, e1, e2, ht, hn, htx⟩ := id hRd
  obtain ⟨it, tf, e3, e4, e5, hcu, hdc, htd⟩ := id hTo
  obtain ⟨cu6, dc6, it6, bo6, df, dy, e6, e7, e8⟩ := id hDr
  obtain ⟨e9, e10, e11, e12, e13⟩ := id hNo
  obtain ⟨g14, e14, hg0, hg1, e15⟩ := id hMi
  obtain ⟨e16, e17, e18, hsn, hsf, hst⟩ := id hSe
  obtain ⟨c19, g20, e19, e20⟩ := id hTe
  obtain ⟨w, pl, y, hwk⟩ := id hWk
  obtain ⟨ftv, fnv, fup, flo, g29, e28, e29⟩ := id hFa
  obtain ⟨hdn, hw9, hnf, hca4, hinj, hcac, hfr6, hdeed⟩ := id hOK
  have qj := isIx_nI (show cu < 2 ^ 31 by omega) hj
  refine mOk_w (L := [some (.ref 0), some (vN 5), some (vN c)]) pn_X7 rfl (Nat.le_of_ble_eq_true rfl) rfl ?_
  refine mG_iload_n dX7_mark_0 rfl ?_
  refine mG_if_ltN dX7_mark_1 (by omega) (fun c1 => c1.elim) (fun c1 => ?_)
  refine mG_iload_n dX7_mark_4 rfl ?_
  refine mG_iconst (v := nI 5) dX7_mark_5 (by decide) ?_
  refine mG_icmp_gtN dX7_mark_6 (by omega) (by omega) (fun c6 => absurd c6 (by omega)) (fun c6 => ?_)
  refine mG_aload_n dX7_mark_9 rfl ?_
  refine mG_iload_n dX7_mark_10 rfl ?_
  refine mG_cv1 vX7_94 dX7_mark_11 (mLe_of rfl) (Nat.le_of_ble_eq_true rfl) e0 (Nat.le_of_ble_eq_true rfl) (ok_X7_isCube e0 e3) ?_
  refine mG_if_neB dX7_mark_14 (fun c14 => ?_) (fun c14 => Bool.noConfusion (c14.symm.trans qj))
  refine mG_aload_n dX7_mark_20 rfl ?_
  refine mG_iload_n dX7_mark_21 rfl ?_
  refine mG_iload_n dX7_mark_22 rfl ?_
  refine mG_cv2 vX7_208 dX7_mark_23 (mLe_of rfl) (Nat.le_of_ble_eq_true rfl) e0 (Nat.le_of_ble_eq_true rfl) (ok_mark5 e0 e9 e10 e11 e12 (by omega) (hfr6 c (by omega)) (by omega) hpc (fun i hi z => absurd (hinj i p (by omega) hp (z.trans hpc.symm)) (by omega)) hca4 (fun i hi => hnf _ (by omega))) ?_
  exact mG_iret dX7_mark_26 rfl ⟨rfl, ⟨rfl, hRd, hTo, hDr, hNo, hI0, hI1, hMi, hSe, hTe, hWk, hFa, hOK, hK0, hK1⟩, fun b hb => by simp only [mU, show ¬ b = 0 from by omega, if_false]⟩
set_option maxRecDepth 100000 in
set_option maxHeartbeats 4000000 in
theorem pc_keep_bad {E : mE} {h : mH} {n : Nat} {tx : Nat → Nat} {cu dc : Nat} {bo : Bool} {td : Nat → Nat} {dn wk : Nat} {nf ca fr ds : Nat → Nat} {x0 x1 : mSd} {kp : Nat → Bool} {sn : Nat} {sf st : Nat → Nat} {tr : Int64} {c : Int32} (H : CI h n tx cu dc bo td dn wk nf ca fr ds x0 x1 kp sn sf st tr) (hb : isIx c 2 = false) : mOk E 2 zX7_keep [.ref 0, .int c] h (cQ h (.int (-1)) (CI · n tx cu dc bo td dn wk nf ca fr ds x0 x1 kp sn sf st tr)) := by
  obtain ⟨e0, hRd, hTo, hDr, hNo, hI0, hI1, hMi, hSe, hTe, hWk, hFa, hOK, hK0, hK1⟩ := id H
  obtain ⟨t, e1, e2, ht, hn, htx⟩ := id hRd
  obtain ⟨it, tf, e3, e4, e5, hcu, hdc, htd⟩ := id hTo
  obtain ⟨cu6, dc6, it6, bo6, df, dy, e6, e7, e8⟩ := id hDr
  obtain ⟨e9, e10, e11, e12, e13⟩ := id hNo
  obtain ⟨g14, e14, hg0, hg1, e15⟩ := id hMi
  obtain ⟨e16, e17, e18, hsn, hsf, hst⟩ := id hSe
  obtain ⟨c19, g20, e19, e20⟩ := id hTe
  obtain ⟨w, pl, y, hwk⟩ := id hWk
  obtain ⟨ftv, fnv, fup, flo, g29, e28, e29⟩ := id hFa
  obtain ⟨hdn, hw9, hnf, hca4, hinj, hcac, hfr6, hdeed⟩ := id hOK
  refine mOk_w (L := [some (.ref 0), some (.int c)]) pn_X7 rfl (Nat.le_of_ble_eq_true rfl) rfl ?_
  refine mG_iload_n dX7_keep_0 rfl ?_
  refine mG_cs1 sX7_211 dX7_keep_1 (mLe_of rfl) (Nat.le_of_ble_eq_true rfl) (ok_X7_isImage) ?_
  refine mG_if_neB dX7_keep_4 (fun c4 => Bool.noConfusion (hb.symm.trans c4)) (fun c4 => ?_)
  refine mG_iconst (v := (-1)) dX7_keep_7 (by decide) ?_
  exact mG_iret dX7_keep_8 rfl ⟨rfl, H, fun _ _ => rfl⟩
set_option maxRecDepth 100000 in
set_option maxHeartbeats 4000000 in
theorem pc_back_bad {E : mE} {h : mH} {n : Nat} {tx : Nat → Nat} {cu dc : Nat} {bo : Bool} {td : Nat → Nat} {dn wk : Nat} {nf ca fr ds : Nat → Nat} {x0 x1 : mSd} {kp : Nat → Bool} {sn : Nat} {sf st : Nat → Nat} {tr : Int64} {c : Int32} (H : CI h n tx cu dc bo td dn wk nf ca fr ds x0 x1 kp sn sf st tr) (hb : isIx c 2 = false) : mOk E 2 zX7_back [.ref 0, .int c] h (cQ h (.int (-1)) (CI · n tx cu dc bo td dn wk nf ca fr ds x0 x1 kp sn sf st tr)) := by
  obtain ⟨e0, hRd, hTo, hDr, hNo, hI0, hI1, hMi, hSe, hTe, hWk, hFa, hOK, hK0, hK1⟩ := id H
  obtain ⟨t, e1, e2, ht, hn, htx⟩ := id hRd
  obtain ⟨it, tf, e3, e4, e5, hcu, hdc, htd⟩ := id hTo
  obtain ⟨cu6, dc6, it6, bo6, df, dy, e6, e7, e8⟩ := id hDr
  obtain ⟨e9, e10, e11, e12, e13⟩ := id hNo
  obtain ⟨g14, e14, hg0, hg1, e15⟩ := id hMi
  obtain ⟨e16, e17, e18, hsn, hsf, hst⟩ := id hSe
  obtain ⟨c19, g20, e19, e20⟩ := id hTe
  obtain ⟨w, pl, y, hwk⟩ := id hWk
  obtain ⟨ftv, fnv, fup, flo, g29, e28, e29⟩ := id hFa
  obtain ⟨hdn, hw9, hnf, hca4, hinj, hcac, hfr6, hdeed⟩ := id hOK
  refine mOk_w (L := [some (.ref 0), some (.int c)]) pn_X7 rfl (Nat.le_of_ble_eq_true rfl) rfl ?_
  refine mG_iload_n dX7_back_0 rfl ?_
  refine mG_cs1 sX7_211 dX7_back_1 (mLe_of rfl) (Nat.le_of_ble_eq_true rfl) (ok_X7_isImage) ?_
  refine mG_if_neB dX7_back_4 (fun c4 => Bool.noConfusion (hb.symm.trans c4)) (fun c4 => ?_)
  refine mG_iconst (v := (-1)) dX7_back_7 (by decide) ?_
  exact mG_iret dX7_back_8 rfl ⟨rfl, H, fun _ _ => rfl⟩
set_option maxRecDepth 100000 in
set_option maxHeartbeats 4000000 in
theorem pc_keep_0 {E : mE} {h : mH} {n : Nat} {tx : Nat → Nat} {cu dc : Nat} {bo : Bool} {td : Nat → Nat} {dn wk : Nat} {nf ca fr ds : Nat → Nat} {x0 x1 : mSd} {kp : Nat → Bool} {sn : Nat} {sf st : Nat → Nat} {tr : Int64} (H : CI h n tx cu dc bo td dn wk nf ca fr ds x0 x1 kp sn sf st tr) : mOk E 2 zX7_keep [.ref 0, vN 0] h (cQ h (vN wk) (CI · n tx cu dc bo td dn wk nf ca fr ds (dn, wk, nf, ca, fr, ds) x1 (mUb kp 0 true) sn sf st tr)) := by
  obtain ⟨e0, hRd, hTo, hDr, hNo, hI0, hI1, hMi, hSe, hTe, hWk, hFa, hOK, hK0, hK1⟩ := id H
  obtain ⟨t, e1, e2, ht, hn, htx⟩ := id hRd
  obtain ⟨it, tf, e3, e4, e5, hcu, hdc, htd⟩ := id hTo
  obtain ⟨cu6, dc6, it6, bo6, df, dy, e6, e7, e8⟩ := id hDr
  obtain ⟨e9, e10, e11, e12, e13⟩ := id hNo
  obtain ⟨g14, e14, hg0, hg1, e15⟩ := id hMi
  obtain ⟨e16, e17, e18, hsn, hsf, hst⟩ := id hSe
  obtain ⟨c19, g20, e19, e20⟩ := id hTe
  obtain ⟨w, pl, y, hwk⟩ := id hWk
  obtain ⟨ftv, fnv, fup, flo, g29, e28, e29⟩ := id hFa
  obtain ⟨hdn, hw9, hnf, hca4, hinj, hcac, hfr6, hdeed⟩ := id hOK
  have qj := isIx_nI (show 2 < 2 ^ 31 by decide) (show 0 < 2 by decide)
  obtain ⟨i1, i2, i3, i4, i5⟩ := id hI0
  have e30 := i1
  have e31 := i2
  have e32 := i3
  have e33 := i4
  have e34 := i5
  refine mOk_w (L := [some (.ref 0), some (vN 0)]) pn_X7 rfl (Nat.le_of_ble_eq_true rfl) rfl ?_
  refine mG_iload_n dX7_keep_0 rfl ?_
  refine mG_cs1 sX7_211 dX7_keep_1 (mLe_of rfl) (Nat.le_of_ble_eq_true rfl) (ok_X7_isImage) ?_
  refine mG_if_neB dX7_keep_4 (fun c4 => ?_) (fun c4 => Bool.noConfusion (c4.symm.trans qj))
  refine mG_aload_n dX7_keep_9 rfl ?_
  refine mG_get fX7_33 dX7_keep_10 e0 (Nat.le_of_ble_eq_true rfl) rfl ?_
  refine mG_iload_n dX7_keep_13 rfl ?_
  refine mG_aaldN dX7_keep_14 e14 (Nat.le_of_ble_eq_true rfl) (by decide) (by decide) (hg0) ?_
  refine mG_aload_n dX7_keep_15 rfl ?_
  refine mG_get fX7_29 dX7_keep_16 e0 (Nat.le_of_ble_eq_true rfl) rfl ?_
  refine mG_cw1 vX7_214 dX7_keep_19 (mLe_of rfl) (Nat.le_of_ble_eq_true rfl) e30 (Nat.le_of_ble_eq_true rfl) (ok_X3_copy30_9 e9 e10 e11 e12 e13 e30 e31 e32 e33 e34) ?_
  refine mG_aload_n dX7_keep_22 rfl ?_
  refine mG_get fX7_37 dX7_keep_23 e0 (Nat.le_of_ble_eq_true rfl) rfl ?_
  refine mG_iload_n dX7_keep_26 rfl ?_
  refine mG_iconst (v := mb true) dX7_keep_27 (by decide) ?_
  refine mG_zastA dX7_keep_28 e15 (Nat.le_of_ble_eq_true rfl) (by decide) (by decide) ?_
  refine mG_aload_n dX7_keep_29 rfl ?_
  refine mG_get fX7_29 dX7_keep_30 e0 (Nat.le_of_ble_eq_true rfl) rfl ?_
  refine mG_get fX7_134 dX7_keep_33 e9 (Nat.le_of_ble_eq_true rfl) rfl ?_
  exact mG_iret dX7_keep_36 rfl ⟨rfl, ⟨e0, hRd, hTo, hDr, hNo, ⟨rfl, rfl, rfl, rfl, rfl⟩, hI1, ⟨g14, e14, hg0, hg1, rfl⟩, hSe, hTe, hWk, hFa, hOK, fun _ => hOK, hK1⟩, fun b hb => by simp only [mU, show ¬ b = 15 from by omega, show ¬ b = 30 from by omega, show ¬ b = 31 from by omega, show ¬ b = 32 from by omega, show ¬ b = 33 from by omega, show ¬ b = 34 from by omega, if_false]⟩
set_option maxRecDepth 100000 in
set_option maxHeartbeats 4000000 in
theorem pc_back_none_0 {E : mE} {h : mH} {n : Nat} {tx : Nat → Nat} {cu dc : Nat} {bo : Bool} {td : Nat → Nat} {dn wk : Nat} {nf ca fr ds : Nat → Nat} {x0 x1 : mSd} {kp : Nat → Bool} {sn : Nat} {sf st : Nat → Nat} {tr : Int64} (H : CI h n tx cu dc bo td dn wk nf ca fr ds x0 x1 kp sn sf st tr) (hk : kp 0 = false) : mOk E 2 zX7_back [.ref 0, vN 0] h (cQ h (.int (-2)) (CI · n tx cu dc bo td dn wk nf ca fr ds x0 x1 kp sn sf st tr)) := by
  obtain ⟨e0, hRd, hTo, hDr, hNo, hI0, hI1, hMi, hSe, hTe, hWk, hFa, hOK, hK0, hK1⟩ := id H
  obtain ⟨t, e1, e2, ht, hn, htx⟩ := id hRd
  obtain ⟨it, tf, e3, e4, e5, hcu, hdc, htd⟩ := id hTo
  obtain ⟨cu6, dc6, it6, bo6, df, dy, e6, e7, e8⟩ := id hDr
  obtain ⟨e9, e10, e11, e12, e13⟩ := id hNo
  obtain ⟨g14, e14, hg0, hg1, e15⟩ := id hMi
  obtain ⟨e16, e17, e18, hsn, hsf, hst⟩ := id hSe
  obtain ⟨c19, g20, e19, e20⟩ := id hTe
  obtain ⟨w, pl, y, hwk⟩ := id hWk
  obtain ⟨ftv, fnv, fup, flo, g29, e28, e29⟩ := id hFa
  obtain ⟨hdn, hw9, hnf, hca4, hinj, hcac, hfr6, hdeed⟩ := id hOK
  have qj := isIx_nI (show 2 < 2 ^ 31 by decide) (show 0 < 2 by decide)
  obtain ⟨i1, i2, i3, i4, i5⟩ := id hI0
  have e30 := i1
  have e31 := i2
  have e32 := i3
  have e33 := i4
  have e34 := i5
  refine mOk_w (L := [some (.ref 0), some (vN 0)]) pn_X7 rfl (Nat.le_of_ble_eq_true rfl) rfl ?_
  refine mG_iload_n dX7_back_0 rfl ?_
  refine mG_cs1 sX7_211 dX7_back_1 (mLe_of rfl) (Nat.le_of_ble_eq_true rfl) (ok_X7_isImage) ?_
  refine mG_if_neB dX7_back_4 (fun c4 => ?_) (fun c4 => Bool.noConfusion (c4.symm.trans qj))
  refine mG_aload_n dX7_back_9 rfl ?_
  refine mG_get fX7_37 dX7_back_10 e0 (Nat.le_of_ble_eq_true rfl) rfl ?_
  refine mG_iload_n dX7_back_13 rfl ?_
  refine mG_zaldA dX7_back_14 e15 (Nat.le_of_ble_eq_true rfl) (by decide) (by decide) ?_
  refine mG_if_neB dX7_back_15 (fun c15 => Bool.noConfusion (hk.symm.trans c15)) (fun c15 => ?_)
  refine mG_bipush (v := (-2)) dX7_back_18 (by decide) ?_
  exact mG_iret dX7_back_20 rfl ⟨rfl, H, fun _ _ => rfl⟩
set_option maxRecDepth 100000 in
set_option maxHeartbeats 4000000 in
theorem pc_back_0 {E : mE} {h : mH} {n : Nat} {tx : Nat → Nat} {cu dc : Nat} {bo : Bool} {td : Nat → Nat} {dn wk : Nat} {nf ca fr ds : Nat → Nat} {x0 x1 : mSd} {kp : Nat → Bool} {sn : Nat} {sf st : Nat → Nat} {tr : Int64} (H : CI h n tx cu dc bo td dn wk nf ca fr ds x0 x1 kp sn sf st tr) (hk : kp 0 = true) : mOk E 2 zX7_back [.ref 0, vN 0] h (cQ h (vN x0.2.1) (CI · n tx cu dc bo td x0.1 x0.2.1 x0.2.2.1 x0.2.2.2.1 x0.2.2.2.2.1 x0.2.2.2.2.2 x0 x1 kp sn sf st tr)) := by
  obtain ⟨e0, hRd, hTo, hDr, hNo, hI0, hI1, hMi, hSe, hTe, hWk, hFa, hOK, hK0, hK1⟩ := id H
  obtain ⟨t, e1, e2, ht, hn, htx⟩ := id hRd
  obtain ⟨it, tf, e3, e4, e5, hcu, hdc, htd⟩ := id hTo
  obtain ⟨cu6, dc6, it6, bo6, df, dy, e6, e7, e8⟩ := id hDr
  obtain ⟨e9, e10, e11, e12, e13⟩ := id hNo
  obtain ⟨g14, e14, hg0, hg1, e15⟩ := id hMi
  obtain ⟨e16, e17, e18, hsn, hsf, hst⟩ := id hSe
  obtain ⟨c19, g20, e19, e20⟩ := id hTe
  obtain ⟨w, pl, y, hwk⟩ := id hWk
  obtain ⟨ftv, fnv, fup, flo, g29, e28, e29⟩ := id hFa
  obtain ⟨hdn, hw9, hnf, hca4, hinj, hcac, hfr6, hdeed⟩ := id hOK
  have qj := isIx_nI (show 2 < 2 ^ 31 by decide) (show 0 < 2 by decide)
  obtain ⟨i1, i2, i3, i4, i5⟩ := id hI0
  have e30 := i1
  have e31 := i2
  have e32 := i3
  have e33 := i4
  have e34 := i5
  refine mOk_w (L := [some (.ref 0), some (vN 0)]) pn_X7 rfl (Nat.le_of_ble_eq_true rfl) rfl ?_
  refine mG_iload_n dX7_back_0 rfl ?_
  refine mG_cs1 sX7_211 dX7_back_1 (mLe_of rfl) (Nat.le_of_ble_eq_true rfl) (ok_X7_isImage) ?_
  refine mG_if_neB dX7_back_4 (fun c4 => ?_) (fun c4 => Bool.noConfusion (c4.symm.trans qj))
  refine mG_aload_n dX7_back_9 rfl ?_
  refine mG_get fX7_37 dX7_back_10 e0 (Nat.le_of_ble_eq_true rfl) rfl ?_
  refine mG_iload_n dX7_back_13 rfl ?_
  refine mG_zaldA dX7_back_14 e15 (Nat.le_of_ble_eq_true rfl) (by decide) (by decide) ?_
  refine mG_if_neB dX7_back_15 (fun c15 => ?_) (fun c15 => Bool.noConfusion (c15.symm.trans hk))
  refine mG_aload_n dX7_back_21 rfl ?_
  refine mG_get fX7_29 dX7_back_22 e0 (Nat.le_of_ble_eq_true rfl) rfl ?_
  refine mG_aload_n dX7_back_25 rfl ?_
  refine mG_get fX7_33 dX7_back_26 e0 (Nat.le_of_ble_eq_true rfl) rfl ?_
  refine mG_iload_n dX7_back_29 rfl ?_
  refine mG_aaldN dX7_back_30 e14 (Nat.le_of_ble_eq_true rfl) (by decide) (by decide) (hg0) ?_
  refine mG_cw1 vX7_214 dX7_back_31 (mLe_of rfl) (Nat.le_of_ble_eq_true rfl) e9 (Nat.le_of_ble_eq_true rfl) (ok_X3_copy9_30 e30 e31 e32 e33 e34 e9 e10 e11 e12 e13) ?_
  refine mG_aload_n dX7_back_34 rfl ?_
  refine mG_get fX7_29 dX7_back_35 e0 (Nat.le_of_ble_eq_true rfl) rfl ?_
  refine mG_get fX7_134 dX7_back_38 rfl (Nat.le_of_ble_eq_true rfl) rfl ?_
  exact mG_iret dX7_back_41 rfl ⟨rfl, ⟨e0, hRd, hTo, hDr, ⟨rfl, rfl, rfl, rfl, rfl⟩, hI0, hI1, hMi, hSe, hTe, hWk, hFa, hK0 hk, hK0, hK1⟩, fun b hb => by simp only [mU, show ¬ b = 9 from by omega, show ¬ b = 10 from by omega, show ¬ b = 11 from by omega, show ¬ b = 12 from by omega, show ¬ b = 13 from by omega, if_false]⟩
set_option maxRecDepth 100000 in
set_option maxHeartbeats 4000000 in
theorem pc_keep_1 {E : mE} {h : mH} {n : Nat} {tx : Nat → Nat} {cu dc : Nat} {bo : Bool} {td : Nat → Nat} {dn wk : Nat} {nf ca fr ds : Nat → Nat} {x0 x1 : mSd} {kp : Nat → Bool} {sn : Nat} {sf st : Nat → Nat} {tr : Int64} (H : CI h n tx cu dc bo td dn wk nf ca fr ds x0 x1 kp sn sf st tr) : mOk E 2 zX7_keep [.ref 0, vN 1] h (cQ h (vN wk) (CI · n tx cu dc bo td dn wk nf ca fr ds x0 (dn, wk, nf, ca, fr, ds) (mUb kp 1 true) sn sf st tr)) := by
  obtain ⟨e0, hRd, hTo, hDr, hNo, hI0, hI1, hMi, hSe, hTe, hWk, hFa, hOK, hK0, hK1⟩ := id H
  obtain ⟨t, e1, e2, ht, hn, htx⟩ := id hRd
  obtain ⟨it, tf, e3, e4, e5, hcu, hdc, htd⟩ := id hTo
  obtain ⟨cu6, dc6, it6, bo6, df, dy, e6, e7, e8⟩ := id hDr
  obtain ⟨e9, e10, e11, e12, e13⟩ := id hNo
  obtain ⟨g14, e14, hg0, hg1, e15⟩ := id hMi
  obtain ⟨e16, e17, e18, hsn, hsf, hst⟩ := id hSe
  obtain ⟨c19, g20, e19, e20⟩ := id hTe
  obtain ⟨w, pl, y, hwk⟩ := id hWk
  obtain ⟨ftv, fnv, fup, flo, g29, e28, e29⟩ := id hFa
  obtain ⟨hdn, hw9, hnf, hca4, hinj, hcac, hfr6, hdeed⟩ := id hOK
  have qj := isIx_nI (show 2 < 2 ^ 31 by decide) (show 1 < 2 by decide)
  obtain ⟨i1, i2, i3, i4, i5⟩ := id hI1
  have e35 := i1
  have e36 := i2
  have e37 := i3
  have e38 := i4
  have e39 := i5
  refine mOk_w (L := [some (.ref 0), some (vN 1)]) pn_X7 rfl (Nat.le_of_ble_eq_true rfl) rfl ?_
  refine mG_iload_n dX7_keep_0 rfl ?_
  refine mG_cs1 sX7_211 dX7_keep_1 (mLe_of rfl) (Nat.le_of_ble_eq_true rfl) (ok_X7_isImage) ?_
  refine mG_if_neB dX7_keep_4 (fun c4 => ?_) (fun c4 => Bool.noConfusion (c4.symm.trans qj))
  refine mG_aload_n dX7_keep_9 rfl ?_
  refine mG_get fX7_33 dX7_keep_10 e0 (Nat.le_of_ble_eq_true rfl) rfl ?_
  refine mG_iload_n dX7_keep_13 rfl ?_
  refine mG_aaldN dX7_keep_14 e14 (Nat.le_of_ble_eq_true rfl) (by decide) (by decide) (hg1) ?_
  refine mG_aload_n dX7_keep_15 rfl ?_
  refine mG_get fX7_29 dX7_keep_16 e0 (Nat.le_of_ble_eq_true rfl) rfl ?_
  refine mG_cw1 vX7_214 dX7_keep_19 (mLe_of rfl) (Nat.le_of_ble_eq_true rfl) e35 (Nat.le_of_ble_eq_true rfl) (ok_X3_copy35_9 e9 e10 e11 e12 e13 e35 e36 e37 e38 e39) ?_
  refine mG_aload_n dX7_keep_22 rfl ?_
  refine mG_get fX7_37 dX7_keep_23 e0 (Nat.le_of_ble_eq_true rfl) rfl ?_
  refine mG_iload_n dX7_keep_26 rfl ?_
  refine mG_iconst (v := mb true) dX7_keep_27 (by decide) ?_
  refine mG_zastA dX7_keep_28 e15 (Nat.le_of_ble_eq_true rfl) (by decide) (by decide) ?_
  refine mG_aload_n dX7_keep_29 rfl ?_
  refine mG_get fX7_29 dX7_keep_30 e0 (Nat.le_of_ble_eq_true rfl) rfl ?_
  refine mG_get fX7_134 dX7_keep_33 e9 (Nat.le_of_ble_eq_true rfl) rfl ?_
  exact mG_iret dX7_keep_36 rfl ⟨rfl, ⟨e0, hRd, hTo, hDr, hNo, hI0, ⟨rfl, rfl, rfl, rfl, rfl⟩, ⟨g14, e14, hg0, hg1, rfl⟩, hSe, hTe, hWk, hFa, hOK, hK0, fun _ => hOK⟩, fun b hb => by simp only [mU, show ¬ b = 15 from by omega, show ¬ b = 35 from by omega, show ¬ b = 36 from by omega, show ¬ b = 37 from by omega, show ¬ b = 38 from by omega, show ¬ b = 39 from by omega, if_false]⟩
set_option maxRecDepth 100000 in
set_option maxHeartbeats 4000000 in
theorem pc_back_none_1 {E : mE} {h : mH} {n : Nat} {tx : Nat → Nat} {cu dc : Nat} {bo : Bool} {td : Nat → Nat} {dn wk : Nat} {nf ca fr ds : Nat → Nat} {x0 x1 : mSd} {kp : Nat → Bool} {sn : Nat} {sf st : Nat → Nat} {tr : Int64} (H : CI h n tx cu dc bo td dn wk nf ca fr ds x0 x1 kp sn sf st tr) (hk : kp 1 = false) : mOk E 2 zX7_back [.ref 0, vN 1] h (cQ h (.int (-2)) (CI · n tx cu dc bo td dn wk nf ca fr ds x0 x1 kp sn sf st tr)) := by
  obtain ⟨e0, hRd, hTo, hDr, hNo, hI0, hI1, hMi, hSe, hTe, hWk, hFa, hOK, hK0, hK1⟩ := id H
  obtain ⟨t, e1, e2, ht, hn, htx⟩ := id hRd
  obtain ⟨it, tf, e3, e4, e5, hcu, hdc, htd⟩ := id hTo
  obtain ⟨cu6, dc6, it6, bo6, df, dy, e6, e7, e8⟩ := id hDr
  obtain ⟨e9, e10, e11, e12, e13⟩ := id hNo
  obtain ⟨g14, e14, hg0, hg1, e15⟩ := id hMi
  obtain ⟨e16, e17, e18, hsn, hsf, hst⟩ := id hSe
  obtain ⟨c19, g20, e19, e20⟩ := id hTe
  obtain ⟨w, pl, y, hwk⟩ := id hWk
  obtain ⟨ftv, fnv, fup, flo, g29, e28, e29⟩ := id hFa
  obtain ⟨hdn, hw9, hnf, hca4, hinj, hcac, hfr6, hdeed⟩ := id hOK
  have qj := isIx_nI (show 2 < 2 ^ 31 by decide) (show 1 < 2 by decide)
  obtain ⟨i1, i2, i3, i4, i5⟩ := id hI1
  have e35 := i1
  have e36 := i2
  have e37 := i3
  have e38 := i4
  have e39 := i5
  refine mOk_w (L := [some (.ref 0), some (vN 1)]) pn_X7 rfl (Nat.le_of_ble_eq_true rfl) rfl ?_
  refine mG_iload_n dX7_back_0 rfl ?_
  refine mG_cs1 sX7_211 dX7_back_1 (mLe_of rfl) (Nat.le_of_ble_eq_true rfl) (ok_X7_isImage) ?_
  refine mG_if_neB dX7_back_4 (fun c4 => ?_) (fun c4 => Bool.noConfusion (c4.symm.trans qj))
  refine mG_aload_n dX7_back_9 rfl ?_
  refine mG_get fX7_37 dX7_back_10 e0 (Nat.le_of_ble_eq_true rfl) rfl ?_
  refine mG_iload_n dX7_back_13 rfl ?_
  refine mG_zaldA dX7_back_14 e15 (Nat.le_of_ble_eq_true rfl) (by decide) (by decide) ?_
  refine mG_if_neB dX7_back_15 (fun c15 => Bool.noConfusion (hk.symm.trans c15)) (fun c15 => ?_)
  refine mG_bipush (v := (-2)) dX7_back_18 (by decide) ?_
  exact mG_iret dX7_back_20 rfl ⟨rfl, H, fun _ _ => rfl⟩
set_option maxRecDepth 100000 in
set_option maxHeartbeats 4000000 in
theorem pc_back_1 {E : mE} {h : mH} {n : Nat} {tx : Nat → Nat} {cu dc : Nat} {bo : Bool} {td : Nat → Nat} {dn wk : Nat} {nf ca fr ds : Nat → Nat} {x0 x1 : mSd} {kp : Nat → Bool} {sn : Nat} {sf st : Nat → Nat} {tr : Int64} (H : CI h n tx cu dc bo td dn wk nf ca fr ds x0 x1 kp sn sf st tr) (hk : kp 1 = true) : mOk E 2 zX7_back [.ref 0, vN 1] h (cQ h (vN x1.2.1) (CI · n tx cu dc bo td x1.1 x1.2.1 x1.2.2.1 x1.2.2.2.1 x1.2.2.2.2.1 x1.2.2.2.2.2 x0 x1 kp sn sf st tr)) := by
  obtain ⟨e0, hRd, hTo, hDr, hNo, hI0, hI1, hMi, hSe, hTe, hWk, hFa, hOK, hK0, hK1⟩ := id H
  obtain ⟨t, e1, e2, ht, hn, htx⟩ := id hRd
  obtain ⟨it, tf, e3, e4, e5, hcu, hdc, htd⟩ := id hTo
  obtain ⟨cu6, dc6, it6, bo6, df, dy, e6, e7, e8⟩ := id hDr
  obtain ⟨e9, e10, e11, e12, e13⟩ := id hNo
  obtain ⟨g14, e14, hg0, hg1, e15⟩ := id hMi
  obtain ⟨e16, e17, e18, hsn, hsf, hst⟩ := id hSe
  obtain ⟨c19, g20, e19, e20⟩ := id hTe
  obtain ⟨w, pl, y, hwk⟩ := id hWk
  obtain ⟨ftv, fnv, fup, flo, g29, e28, e29⟩ := id hFa
  obtain ⟨hdn, hw9, hnf, hca4, hinj, hcac, hfr6, hdeed⟩ := id hOK
  have qj := isIx_nI (show 2 < 2 ^ 31 by decide) (show 1 < 2 by decide)
  obtain ⟨i1, i2, i3, i4, i5⟩ := id hI1
  have e35 := i1
  have e36 := i2
  have e37 := i3
  have e38 := i4
  have e39 := i5
  refine mOk_w (L := [some (.ref 0), some (vN 1)]) pn_X7 rfl (Nat.le_of_ble_eq_true rfl) rfl ?_
  refine mG_iload_n dX7_back_0 rfl ?_
  refine mG_cs1 sX7_211 dX7_back_1 (mLe_of rfl) (Nat.le_of_ble_eq_true rfl) (ok_X7_isImage) ?_
  refine mG_if_neB dX7_back_4 (fun c4 => ?_) (fun c4 => Bool.noConfusion (c4.symm.trans qj))
  refine mG_aload_n dX7_back_9 rfl ?_
  refine mG_get fX7_37 dX7_back_10 e0 (Nat.le_of_ble_eq_true rfl) rfl ?_
  refine mG_iload_n dX7_back_13 rfl ?_
  refine mG_zaldA dX7_back_14 e15 (Nat.le_of_ble_eq_true rfl) (by decide) (by decide) ?_
  refine mG_if_neB dX7_back_15 (fun c15 => ?_) (fun c15 => Bool.noConfusion (c15.symm.trans hk))
  refine mG_aload_n dX7_back_21 rfl ?_
  refine mG_get fX7_29 dX7_back_22 e0 (Nat.le_of_ble_eq_true rfl) rfl ?_
  refine mG_aload_n dX7_back_25 rfl ?_
  refine mG_get fX7_33 dX7_back_26 e0 (Nat.le_of_ble_eq_true rfl) rfl ?_
  refine mG_iload_n dX7_back_29 rfl ?_
  refine mG_aaldN dX7_back_30 e14 (Nat.le_of_ble_eq_true rfl) (by decide) (by decide) (hg1) ?_
  refine mG_cw1 vX7_214 dX7_back_31 (mLe_of rfl) (Nat.le_of_ble_eq_true rfl) e9 (Nat.le_of_ble_eq_true rfl) (ok_X3_copy9_35 e35 e36 e37 e38 e39 e9 e10 e11 e12 e13) ?_
  refine mG_aload_n dX7_back_34 rfl ?_
  refine mG_get fX7_29 dX7_back_35 e0 (Nat.le_of_ble_eq_true rfl) rfl ?_
  refine mG_get fX7_134 dX7_back_38 rfl (Nat.le_of_ble_eq_true rfl) rfl ?_
  exact mG_iret dX7_back_41 rfl ⟨rfl, ⟨e0, hRd, hTo, hDr, ⟨rfl, rfl, rfl, rfl, rfl⟩, hI0, hI1, hMi, hSe, hTe, hWk, hFa, hK1 hk, hK0, hK1⟩, fun b hb => by simp only [mU, show ¬ b = 9 from by omega, show ¬ b = 10 from by omega, show ¬ b = 11 from by omega, show ¬ b = 12 from by omega, show ¬ b = 13 from by omega, if_false]⟩
set_option maxRecDepth 100000 in
set_option maxHeartbeats 4000000 in
theorem pc_count_no {E : mE} {h : mH} {n : Nat} {tx : Nat → Nat} {cu dc : Nat} {bo : Bool} {td : Nat → Nat} {dn wk : Nat} {nf ca fr ds : Nat → Nat} {x0 x1 : mSd} {kp : Nat → Bool} {sn : Nat} {sf st : Nat → Nat} {tr : Int64} {wh : Int32} (H : CI h n tx cu dc bo td dn wk nf ca fr ds x0 x1 kp sn sf st tr) (hb : isIx wh 6 = false) : mOk E 1 zX7_count [.ref 0, .int wh] h (cQ h (.int (-1)) (CI · n tx cu dc bo td dn wk nf ca fr ds x0 x1 kp sn sf st tr)) := by
  obtain ⟨e0, hRd, hTo, hDr, hNo, hI0, hI1, hMi, hSe, hTe, hWk, hFa, hOK, hK0, hK1⟩ := id H
  obtain ⟨t, e1, e2, ht, hn, htx⟩ := id hRd
  obtain ⟨it, tf, e3, e4, e5, hcu, hdc, htd⟩ := id hTo
  obtain ⟨cu6, dc6, it6, bo6, df, dy, e6, e7, e8⟩ := id hDr
  obtain ⟨e9, e10, e11, e12, e13⟩ := id hNo
  obtain ⟨g14, e14, hg0, hg1, e15⟩ := id hMi
  obtain ⟨e16, e17, e18, hsn, hsf, hst⟩ := id hSe
  obtain ⟨c19, g20, e19, e20⟩ := id hTe
  obtain ⟨w, pl, y, hwk⟩ := id hWk
  obtain ⟨ftv, fnv, fup, flo, g29, e28, e29⟩ := id hFa
  obtain ⟨hdn, hw9, hnf, hca4, hinj, hcac, hfr6, hdeed⟩ := id hOK
  refine mOk_w (L := [some (.ref 0), some (.int wh)]) pn_X7 rfl (Nat.le_of_ble_eq_true rfl) rfl ?_
  refine mG_iload_n dX7_count_0 rfl ?_
  refine mG_tableOut (tgt := 96) dX7_count_1 (by have := ix_out (by decide) hb; omega) (by decide) ?_
  refine mG_iconst (v := (-1)) dX7_count_96 (by decide) ?_
  exact mG_iret dX7_count_97 rfl ⟨rfl, H, fun _ _ => rfl⟩
set_option maxRecDepth 100000 in
set_option maxHeartbeats 4000000 in
theorem pc_count_0 {E : mE} {h : mH} {n : Nat} {tx : Nat → Nat} {cu dc : Nat} {bo : Bool} {td : Nat → Nat} {dn wk : Nat} {nf ca fr ds : Nat → Nat} {x0 x1 : mSd} {kp : Nat → Bool} {sn : Nat} {sf st : Nat → Nat} {tr : Int64} (H : CI h n tx cu dc bo td dn wk nf ca fr ds x0 x1 kp sn sf st tr) : mOk E 1 zX7_count [.ref 0, vN 0] h (cQ h (vN cu) (CI · n tx cu dc bo td dn wk nf ca fr ds x0 x1 kp sn sf st tr)) := by
  obtain ⟨e0, hRd, hTo, hDr, hNo, hI0, hI1, hMi, hSe, hTe, hWk, hFa, hOK, hK0, hK1⟩ := id H
  obtain ⟨t, e1, e2, ht, hn, htx⟩ := id hRd
  obtain ⟨it, tf, e3, e4, e5, hcu, hdc, htd⟩ := id hTo
  obtain ⟨cu6, dc6, it6, bo6, df, dy, e6, e7, e8⟩ := id hDr
  obtain ⟨e9, e10, e11, e12, e13⟩ := id hNo
  obtain ⟨g14, e14, hg0, hg1, e15⟩ := id hMi
  obtain ⟨e16, e17, e18, hsn, hsf, hst⟩ := id hSe
  obtain ⟨c19, g20, e19, e20⟩ := id hTe
  obtain ⟨w, pl, y, hwk⟩ := id hWk
  obtain ⟨ftv, fnv, fup, flo, g29, e28, e29⟩ := id hFa
  obtain ⟨hdn, hw9, hnf, hca4, hinj, hcac, hfr6, hdeed⟩ := id hOK
  refine mOk_w (L := [some (.ref 0), some (vN 0)]) pn_X7 rfl (Nat.le_of_ble_eq_true rfl) rfl ?_
  refine mG_iload_n dX7_count_0 rfl ?_
  refine mG_tableIn (off := 39) (tgt := 40) dX7_count_1 (by decide) (by decide) (by decide) (by decide) ?_
  refine mG_aload_n dX7_count_40 rfl ?_
  refine mG_get fX7_19 dX7_count_41 e0 (Nat.le_of_ble_eq_true rfl) rfl ?_
  refine mG_get fX7_197 dX7_count_44 e3 (Nat.le_of_ble_eq_true rfl) rfl ?_
  exact mG_iret dX7_count_47 rfl ⟨rfl, H, fun _ _ => rfl⟩
set_option maxRecDepth 100000 in
set_option maxHeartbeats 4000000 in
theorem pc_count_1 {E : mE} {h : mH} {n : Nat} {tx : Nat → Nat} {cu dc : Nat} {bo : Bool} {td : Nat → Nat} {dn wk : Nat} {nf ca fr ds : Nat → Nat} {x0 x1 : mSd} {kp : Nat → Bool} {sn : Nat} {sf st : Nat → Nat} {tr : Int64} (H : CI h n tx cu dc bo td dn wk nf ca fr ds x0 x1 kp sn sf st tr) : mOk E 1 zX7_count [.ref 0, vN 1] h (cQ h (vN dc) (CI · n tx cu dc bo td dn wk nf ca fr ds x0 x1 kp sn sf st tr)) := by
  obtain ⟨e0, hRd, hTo, hDr, hNo, hI0, hI1, hMi, hSe, hTe, hWk, hFa, hOK, hK0, hK1⟩ := id H
  obtain ⟨t, e1, e2, ht, hn, htx⟩ := id hRd
  obtain ⟨it, tf, e3, e4, e5, hcu, hdc, htd⟩ := id hTo
  obtain ⟨cu6, dc6, it6, bo6, df, dy, e6, e7, e8⟩ := id hDr
  obtain ⟨e9, e10, e11, e12, e13⟩ := id hNo
  obtain ⟨g14, e14, hg0, hg1, e15⟩ := id hMi
  obtain ⟨e16, e17, e18, hsn, hsf, hst⟩ := id hSe
  obtain ⟨c19, g20, e19, e20⟩ := id hTe
  obtain ⟨w, pl, y, hwk⟩ := id hWk
  obtain ⟨ftv, fnv, fup, flo, g29, e28, e29⟩ := id hFa
  obtain ⟨hdn, hw9, hnf, hca4, hinj, hcac, hfr6, hdeed⟩ := id hOK
  refine mOk_w (L := [some (.ref 0), some (vN 1)]) pn_X7 rfl (Nat.le_of_ble_eq_true rfl) rfl ?_
  refine mG_iload_n dX7_count_0 rfl ?_
  refine mG_tableIn (off := 47) (tgt := 48) dX7_count_1 (by decide) (by decide) (by decide) (by decide) ?_
  refine mG_aload_n dX7_count_48 rfl ?_
  refine mG_get fX7_19 dX7_count_49 e0 (Nat.le_of_ble_eq_true rfl) rfl ?_
  refine mG_get fX7_124 dX7_count_52 e3 (Nat.le_of_ble_eq_true rfl) rfl ?_
  exact mG_iret dX7_count_55 rfl ⟨rfl, H, fun _ _ => rfl⟩
set_option maxRecDepth 100000 in
set_option maxHeartbeats 4000000 in
theorem pc_count_2 {E : mE} {h : mH} {n : Nat} {tx : Nat → Nat} {cu dc : Nat} {bo : Bool} {td : Nat → Nat} {dn wk : Nat} {nf ca fr ds : Nat → Nat} {x0 x1 : mSd} {kp : Nat → Bool} {sn : Nat} {sf st : Nat → Nat} {tr : Int64} (H : CI h n tx cu dc bo td dn wk nf ca fr ds x0 x1 kp sn sf st tr) : mOk E 1 zX7_count [.ref 0, vN 2] h (cQ h (vN bo.toNat) (CI · n tx cu dc bo td dn wk nf ca fr ds x0 x1 kp sn sf st tr)) := by
  obtain ⟨e0, hRd, hTo, hDr, hNo, hI0, hI1, hMi, hSe, hTe, hWk, hFa, hOK, hK0, hK1⟩ := id H
  obtain ⟨t, e1, e2, ht, hn, htx⟩ := id hRd
  obtain ⟨it, tf, e3, e4, e5, hcu, hdc, htd⟩ := id hTo
  obtain ⟨cu6, dc6, it6, bo6, df, dy, e6, e7, e8⟩ := id hDr
  obtain ⟨e9, e10, e11, e12, e13⟩ := id hNo
  obtain ⟨g14, e14, hg0, hg1, e15⟩ := id hMi
  obtain ⟨e16, e17, e18, hsn, hsf, hst⟩ := id hSe
  obtain ⟨c19, g20, e19, e20⟩ := id hTe
  obtain ⟨w, pl, y, hwk⟩ := id hWk
  obtain ⟨ftv, fnv, fup, flo, g29, e28, e29⟩ := id hFa
  obtain ⟨hdn, hw9, hnf, hca4, hinj, hcac, hfr6, hdeed⟩ := id hOK
  refine mOk_w (L := [some (.ref 0), some (vN 2)]) pn_X7 rfl (Nat.le_of_ble_eq_true rfl) rfl ?_
  refine mG_iload_n dX7_count_0 rfl ?_
  refine mG_tableIn (off := 55) (tgt := 56) dX7_count_1 (by decide) (by decide) (by decide) (by decide) ?_
  refine mG_aload_n dX7_count_56 rfl ?_
  refine mG_get fX7_19 dX7_count_57 e0 (Nat.le_of_ble_eq_true rfl) rfl ?_
  refine mG_get fX7_218 dX7_count_60 e3 (Nat.le_of_ble_eq_true rfl) rfl ?_
  refine mG_if_eqB dX7_count_63 (fun c63 => ?_) (fun c63 => ?_)
  · refine mG_iconst (v := nI 0) dX7_count_70 (by decide) ?_
    exact mG_iret dX7_count_71 rfl ⟨by rw [c63]; rfl, H, fun _ _ => rfl⟩
  · refine mG_iconst (v := nI 1) dX7_count_66 (by decide) ?_
    refine mG_goto dX7_count_67 ?_
    exact mG_iret dX7_count_71 rfl ⟨by rw [c63]; rfl, H, fun _ _ => rfl⟩
set_option maxRecDepth 100000 in
set_option maxHeartbeats 4000000 in
theorem pc_count_3 {E : mE} {h : mH} {n : Nat} {tx : Nat → Nat} {cu dc : Nat} {bo : Bool} {td : Nat → Nat} {dn wk : Nat} {nf ca fr ds : Nat → Nat} {x0 x1 : mSd} {kp : Nat → Bool} {sn : Nat} {sf st : Nat → Nat} {tr : Int64} (H : CI h n tx cu dc bo td dn wk nf ca fr ds x0 x1 kp sn sf st tr) : mOk E 1 zX7_count [.ref 0, vN 3] h (cQ h (vN sn) (CI · n tx cu dc bo td dn wk nf ca fr ds x0 x1 kp sn sf st tr)) := by
  obtain ⟨e0, hRd, hTo, hDr, hNo, hI0, hI1, hMi, hSe, hTe, hWk, hFa, hOK, hK0, hK1⟩ := id H
  obtain ⟨t, e1, e2, ht, hn, htx⟩ := id hRd
  obtain ⟨it, tf, e3, e4, e5, hcu, hdc, htd⟩ := id hTo
  obtain ⟨cu6, dc6, it6, bo6, df, dy, e6, e7, e8⟩ := id hDr
  obtain ⟨e9, e10, e11, e12, e13⟩ := id hNo
  obtain ⟨g14, e14, hg0, hg1, e15⟩ := id hMi
  obtain ⟨e16, e17, e18, hsn, hsf, hst⟩ := id hSe
  obtain ⟨c19, g20, e19, e20⟩ := id hTe
  obtain ⟨w, pl, y, hwk⟩ := id hWk
  obtain ⟨ftv, fnv, fup, flo, g29, e28, e29⟩ := id hFa
  obtain ⟨hdn, hw9, hnf, hca4, hinj, hcac, hfr6, hdeed⟩ := id hOK
  refine mOk_w (L := [some (.ref 0), some (vN 3)]) pn_X7 rfl (Nat.le_of_ble_eq_true rfl) rfl ?_
  refine mG_iload_n dX7_count_0 rfl ?_
  refine mG_tableIn (off := 71) (tgt := 72) dX7_count_1 (by decide) (by decide) (by decide) (by decide) ?_
  refine mG_aload_n dX7_count_72 rfl ?_
  refine mG_get fX7_44 dX7_count_73 e0 (Nat.le_of_ble_eq_true rfl) rfl ?_
  refine mG_get fX7_85 dX7_count_76 e16 (Nat.le_of_ble_eq_true rfl) rfl ?_
  exact mG_iret dX7_count_79 rfl ⟨rfl, H, fun _ _ => rfl⟩
set_option maxRecDepth 100000 in
set_option maxHeartbeats 4000000 in
theorem pc_count_4 {E : mE} {h : mH} {n : Nat} {tx : Nat → Nat} {cu dc : Nat} {bo : Bool} {td : Nat → Nat} {dn wk : Nat} {nf ca fr ds : Nat → Nat} {x0 x1 : mSd} {kp : Nat → Bool} {sn : Nat} {sf st : Nat → Nat} {tr : Int64} (H : CI h n tx cu dc bo td dn wk nf ca fr ds x0 x1 kp sn sf st tr) : mOk E 1 zX7_count [.ref 0, vN 4] h (cQ h (vN dn) (CI · n tx cu dc bo td dn wk nf ca fr ds x0 x1 kp sn sf st tr)) := by
  obtain ⟨e0, hRd, hTo, hDr, hNo, hI0, hI1, hMi, hSe, hTe, hWk, hFa, hOK, hK0, hK1⟩ := id H
  obtain ⟨t, e1, e2, ht, hn, htx⟩ := id hRd
  obtain ⟨it, tf, e3, e4, e5, hcu, hdc, htd⟩ := id hTo
  obtain ⟨cu6, dc6, it6, bo6, df, dy, e6, e7, e8⟩ := id hDr
  obtain ⟨e9, e10, e11, e12, e13⟩ := id hNo
  obtain ⟨g14, e14, hg0, hg1, e15⟩ := id hMi
  obtain ⟨e16, e17, e18, hsn, hsf, hst⟩ := id hSe
  obtain ⟨c19, g20, e19, e20⟩ := id hTe
  obtain ⟨w, pl, y, hwk⟩ := id hWk
  obtain ⟨ftv, fnv, fup, flo, g29, e28, e29⟩ := id hFa
  obtain ⟨hdn, hw9, hnf, hca4, hinj, hcac, hfr6, hdeed⟩ := id hOK
  refine mOk_w (L := [some (.ref 0), some (vN 4)]) pn_X7 rfl (Nat.le_of_ble_eq_true rfl) rfl ?_
  refine mG_iload_n dX7_count_0 rfl ?_
  refine mG_tableIn (off := 79) (tgt := 80) dX7_count_1 (by decide) (by decide) (by decide) (by decide) ?_
  refine mG_aload_n dX7_count_80 rfl ?_
  refine mG_get fX7_29 dX7_count_81 e0 (Nat.le_of_ble_eq_true rfl) rfl ?_
  refine mG_get fX7_146 dX7_count_84 e9 (Nat.le_of_ble_eq_true rfl) rfl ?_
  exact mG_iret dX7_count_87 rfl ⟨rfl, H, fun _ _ => rfl⟩
set_option maxRecDepth 100000 in
set_option maxHeartbeats 4000000 in
theorem pc_count_5 {E : mE} {h : mH} {n : Nat} {tx : Nat → Nat} {cu dc : Nat} {bo : Bool} {td : Nat → Nat} {dn wk : Nat} {nf ca fr ds : Nat → Nat} {x0 x1 : mSd} {kp : Nat → Bool} {sn : Nat} {sf st : Nat → Nat} {tr : Int64} (H : CI h n tx cu dc bo td dn wk nf ca fr ds x0 x1 kp sn sf st tr) : mOk E 1 zX7_count [.ref 0, vN 5] h (cQ h (vN n) (CI · n tx cu dc bo td dn wk nf ca fr ds x0 x1 kp sn sf st tr)) := by
  obtain ⟨e0, hRd, hTo, hDr, hNo, hI0, hI1, hMi, hSe, hTe, hWk, hFa, hOK, hK0, hK1⟩ := id H
  obtain ⟨t, e1, e2, ht, hn, htx⟩ := id hRd
  obtain ⟨it, tf, e3, e4, e5, hcu, hdc, htd⟩ := id hTo
  obtain ⟨cu6, dc6, it6, bo6, df, dy, e6, e7, e8⟩ := id hDr
  obtain ⟨e9, e10, e11, e12, e13⟩ := id hNo
  obtain ⟨g14, e14, hg0, hg1, e15⟩ := id hMi
  obtain ⟨e16, e17, e18, hsn, hsf, hst⟩ := id hSe
  obtain ⟨c19, g20, e19, e20⟩ := id hTe
  obtain ⟨w, pl, y, hwk⟩ := id hWk
  obtain ⟨ftv, fnv, fup, flo, g29, e28, e29⟩ := id hFa
  obtain ⟨hdn, hw9, hnf, hca4, hinj, hcac, hfr6, hdeed⟩ := id hOK
  refine mOk_w (L := [some (.ref 0), some (vN 5)]) pn_X7 rfl (Nat.le_of_ble_eq_true rfl) rfl ?_
  refine mG_iload_n dX7_count_0 rfl ?_
  refine mG_tableIn (off := 87) (tgt := 88) dX7_count_1 (by decide) (by decide) (by decide) (by decide) ?_
  refine mG_aload_n dX7_count_88 rfl ?_
  refine mG_get fX7_10 dX7_count_89 e0 (Nat.le_of_ble_eq_true rfl) rfl ?_
  refine mG_get fX7_69 dX7_count_92 e1 (Nat.le_of_ble_eq_true rfl) rfl ?_
  exact mG_iret dX7_count_95 rfl ⟨rfl, H, fun _ _ => rfl⟩
set_option maxRecDepth 100000 in
set_option maxHeartbeats 4000000 in
theorem pc_trace {E : mE} {h : mH} {n : Nat} {tx : Nat → Nat} {cu dc : Nat} {bo : Bool} {td : Nat → Nat} {dn wk : Nat} {nf ca fr ds : Nat → Nat} {x0 x1 : mSd} {kp : Nat → Bool} {sn : Nat} {sf st : Nat → Nat} {tr : Int64} (H : CI h n tx cu dc bo td dn wk nf ca fr ds x0 x1 kp sn sf st tr) : mOk E 1 zX7_trace [.ref 0] h (cQ h (.long tr) (CI · n tx cu dc bo td dn wk nf ca fr ds x0 x1 kp sn sf st tr)) := by
  obtain ⟨e0, -⟩ := id H
  refine mOk_w (L := [some (.ref 0)]) pn_X7 rfl (Nat.le_of_ble_eq_true rfl) rfl ?_
  refine mG_aload_n dX7_trace_0 rfl ?_
  refine mG_get fX7_222 dX7_trace_1 e0 (Nat.le_of_ble_eq_true rfl) rfl ?_
  exact mG_lret dX7_trace_4 rfl ⟨rfl, H, fun _ _ => rfl⟩
