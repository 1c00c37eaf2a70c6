-- needs: 33 34 35 36 37 38 39 40 41 42
/-! the reference: desk -/
def rK (x y : mRx) : Prop := y.2.2.1 0 = x.2.2.1 0 ∧ y.2.2.2.1 0 = x.2.2.2.1 0 ∧ y.2.2.2.2.1 0 = x.2.2.2.2.1 0 ∧ ∀ j, j < 6 → y.2.2.2.2.2.2 j = x.2.2.2.2.2.2 j
theorem rK.tr {x y z : mRx} (h : rK x y) (k : rK y z) : rK x z := ⟨k.1.trans h.1, k.2.1.trans h.2.1, k.2.2.1.trans h.2.2.1, fun j hj => (k.2.2.2 j hj).trans (h.2.2.2 j hj)⟩
theorem itX_rK {tx : Nat → Nat} {n w : Nat} {y : mRx} : rK y (itX tx n w y) := by
  unfold itX
  split
  · exact ⟨rfl, rfl, mUp_10 _ 1, fun _ _ => rfl⟩
  · split
    · exact ⟨mUp_10 _ (y.2.2.1 1 + 1), rfl, rfl, fun _ _ => rfl⟩
    · exact ⟨rfl, mUp_10 _ (y.2.2.2.1 1 + 1), rfl, fun j hj => mUp_ne _ _ (by omega)⟩
theorem rrS_rK {tx : Nat → Nat} {n : Nat} {y : mRx} : rK y (rrS tx n y) := by
  unfold rrS
  split
  · exact itX_rK (y := ((stT tx n y.1.1.1, false), y.2))
  · exact ⟨rfl, rfl, rfl, fun _ _ => rfl⟩
theorem rrS_rB {tx : Nat → Nat} {n : Nat} {y : mRx} (h : rB y) : rB (rrS tx n y) := by
  unfold rrS
  split
  · rename_i q
    exact itX_rB (y := ((stT tx n y.1.1.1, false), y.2)) h q.2
  · exact h
theorem rrF_rK {tx : Nat → Nat} {n : Nat} : ∀ k y, rK y (rrF tx n k y) ∧ (rB y → rB (rrF tx n k y)) := by
  intro k
  induction k with
  | zero => intro y; exact ⟨⟨rfl, rfl, rfl, fun _ _ => rfl⟩, id⟩
  | succ k ih =>
    intro y
    unfold rrF
    split
    · exact ⟨⟨rfl, rfl, rfl, fun _ _ => rfl⟩, id⟩
    · exact ⟨rrS_rK.tr (ih _).1, fun h => (ih _).2 (rrS_rB h)⟩
theorem rrZ_rK {tx : Nat → Nat} {n : Nat} {cb db bb fg dg : Nat → Nat} : (rrZ tx n cb db bb fg dg).2.2.1 0 = cb 0 ∧ (rrZ tx n cb db bb fg dg).2.2.2.1 0 = db 0 ∧ (rrZ tx n cb db bb fg dg).2.2.2.2.1 0 = bb 0 ∧ (∀ j, j < 6 → (rrZ tx n cb db bb fg dg).2.2.2.2.2.2 j = dg j) ∧ rB (rrZ tx n cb db bb fg dg) := by
  have h := rrF_rK (tx := tx) (n := n) n ((stT tx n 0, false), 0, mUp cb 1 0, mUp db 1 0, mUp bb 1 0, fg, dg)
  refine ⟨h.1.1.trans (mUp_10 cb 0), h.1.2.1.trans (mUp_10 db 0), h.1.2.2.1.trans (mUp_10 bb 0), h.1.2.2.2, h.2 ⟨Nat.le_trans (Nat.le_of_eq (mUp_eq cb 1 0)) (Nat.zero_le _), Nat.le_trans (Nat.le_of_eq (mUp_eq db 1 0)) (Nat.zero_le _), Nat.le_trans (Nat.le_of_eq (mUp_eq bb 1 0)) (Nat.zero_le _)⟩⟩
set_option maxRecDepth 100000 in
set_option maxHeartbeats 4000000 in
theorem rp_desk_fault {E : mE} {h : mH} {n : Nat} {tx cb db bb dg nw kn bf sr : Nat → Nat} {ik : Nat → Bool} {mo : Nat} {od : Nat → Nat} {fa : Nat} {fo fi : Nat → Nat} {tr : Int64} {t : mTk} {wr : Bool} {it : Nat} {fg ls : Nat → Nat} (e40 : h 40 = oMt n t wr it mo fa tr) (e41 : h 41 = mBy tx) (e42 : h 42 = mAr 2 cb) (e43 : h 43 = mAr 2 db) (e44 : h 44 = mAr 2 bb) (e45 : h 45 = mAr 48 fg) (e46 : h 46 = mAr 12 dg) (e47 : h 47 = mAr 33 nw) (e48 : h 48 = mAr 3 kn) (e49 : h 49 = mAr 990 bf) (e50 : h 50 = mAr 66 sr) (e51 : h 51 = mZr 2 ik) (e52 : h 52 = mAr 256 ls) (e53 : h 53 = mAr 24 od) (e54 : h 54 = mAr 6 fo) (e55 : h 55 = mAr 6 fi) (F : rF n tx cb db bb dg nw kn mo od fa fo fi) (hz : (rrZ tx n cb db bb fg dg).1.2 = true) : mOk E 7 zX8_desk [.ref 40] h (rQ h (.int ((-10) - nI (rrZ tx n cb db bb fg dg).1.1.2.2.1)) (rI · n tx ((rrZ tx n cb db bb fg dg).2.2.1) ((rrZ tx n cb db bb fg dg).2.2.2.1) ((rrZ tx n cb db bb fg dg).2.2.2.2.1) ((rrZ tx n cb db bb fg dg).2.2.2.2.2.2) nw kn bf sr ik mo od fa fo fi tr)) := by
  obtain ⟨hn, htx, hcb, hdb, hbb, ho, hnf, hca4, hca, hfr, hwk, hdg, hkn, hfa, hfo, hfi⟩ := id F
  have hr := ok_X8_read (E := E) (h := h) (ty := n) (mo := mo) (fa := fa) (it := it) (t := t) (tr := tr) (wr := wr) (tx := tx) (cb := cb) (db := db) (bb := bb) (fg := fg) (dg := dg) e41 hn htx
  rw [hN_self e40 e42 e43 e44 e45 e46] at hr
  have hB : rB (rrZ tx n cb db bb fg dg) := rrZ_rK.2.2.2.2
  refine mOk_w (L := [some (.ref 40), none]) pn_X8 rfl (Nat.le_of_ble_eq_true rfl) rfl ?_
  refine mG_aload_n dX8_desk_0 rfl ?_
  refine mG_cw0 vX8_117 dX8_desk_1 (mLe_of rfl) (Nat.le_of_ble_eq_true rfl) e40 (Nat.le_of_ble_eq_true rfl) (hr) ?_
  generalize hZ : rrZ tx n cb db bb fg dg = Z at hz hB ⊢
  obtain ⟨⟨zt, zw⟩, zi, zc, zd, zb, zf, zg⟩ := Z
  obtain ⟨hb1, hb2, hb3⟩ := id hB
  dsimp only at hz hb1 hb2 hb3
  dsimp only [hM]
  subst hz
  refine mG_aload_n dX8_desk_4 rfl ?_
  refine mG_get fX8_87 dX8_desk_5 rfl (Nat.le_of_ble_eq_true rfl) rfl ?_
  refine mG_if_eqB dX8_desk_8 (fun c8 => Bool.noConfusion c8) (fun c8 => ?_)
  refine mG_bipush (v := (-10)) dX8_desk_11 (by decide) ?_
  refine mG_aload_n dX8_desk_13 rfl ?_
  refine mG_get fX8_78 dX8_desk_14 rfl (Nat.le_of_ble_eq_true rfl) rfl ?_
  refine mG_isub dX8_desk_17 ?_
  exact mG_iret dX8_desk_18 rfl ⟨rfl, ⟨zt, true, zi, zf, ls, rfl, e41, rfl, rfl, rfl, rfl, rfl, e47, e48, e49, e50, e51, e52, e53, e54, e55⟩, fun b hb => by simp only [hN, mU, show ¬ b = 40 from by omega, show ¬ b = 42 from by omega, show ¬ b = 43 from by omega, show ¬ b = 44 from by omega, show ¬ b = 45 from by omega, show ¬ b = 46 from by omega, if_false]⟩
set_option maxRecDepth 100000 in
set_option maxHeartbeats 4000000 in
theorem lp_X8_dk1 {E : mE} {h : mH} {K : mKt} {ty a sd so va it mo fa : Nat} {wr : Bool} {tr : Int64} {fg : Nat → Nat} (e40 : h 40 = oMo ty a sd so va wr it mo fa tr) (hK : mG E (mR 7, zX8_desk) K 84 [some (.ref 40), some (vN 24)] [] (mN, 0, 0) (mU h 45 (mAr 48 (cpF fg fg 24 0 24)))) : ∀ (k i : Nat), i + k = 24 → mG E (mR 7, zX8_desk) K 57 [some (.ref 40), some (vN i)] [] (mN, 0, 0) (mU h 45 (mAr 48 (cpF fg fg 24 0 i))) := by
  intro k
  induction k with
  | zero =>
    intro i hk
    refine mG_iload_n dX8_desk_57 rfl ?_
    refine mG_bipush (v := nI 24) dX8_desk_58 (by decide) ?_
    refine mG_icmp_geN dX8_desk_60 (by omega) (by omega) (fun c60 => ?_) (fun c60 => absurd c60 (by omega))
    obtain rfl : i = 24 := by omega
    exact hK
  | succ k ih =>
    intro i hk
    refine mG_iload_n dX8_desk_57 rfl ?_
    refine mG_bipush (v := nI 24) dX8_desk_58 (by decide) ?_
    refine mG_icmp_geN dX8_desk_60 (by omega) (by omega) (fun c60 => absurd c60 (by omega)) (fun c60 => ?_)
    refine mG_aload_n dX8_desk_63 rfl ?_
    refine mG_get fX8_23 dX8_desk_64 e40 (Nat.le_of_ble_eq_true rfl) rfl ?_
    refine mG_iload_n dX8_desk_67 rfl ?_
    refine mG_aload_n dX8_desk_68 rfl ?_
    refine mG_get fX8_23 dX8_desk_69 e40 (Nat.le_of_ble_eq_true rfl) rfl ?_
    refine mG_bipush (v := nI 24) dX8_desk_72 (by decide) ?_
    refine mG_iload_n dX8_desk_74 rfl ?_
    refine mG_iaddN dX8_desk_75 ?_
    refine mG_ialdA dX8_desk_76 rfl (Nat.le_of_ble_eq_true rfl) (by decide) (by omega) ?_
    rw [cpF_out (show ¬ (0 ≤ 24 + i ∧ 24 + i < 0 + i) by omega)]
    refine mG_iastA dX8_desk_77 rfl (Nat.le_of_ble_eq_true rfl) (by decide) (by omega) ?_
    rw [mU_same, cpF_s0]
    refine mG_iincN dX8_desk_78 rfl (Nat.le_of_ble_eq_true rfl) rfl rfl ?_
    refine mG_goto dX8_desk_81 ?_
    exact ih (i + 1) (by omega)
set_option maxRecDepth 100000 in
set_option maxHeartbeats 4000000 in
theorem lp_X8_dk2 {E : mE} {h : mH} {K : mKt} {ty a sd so va it mo fa : Nat} {wr : Bool} {tr : Int64} {dg : Nat → Nat} (e40 : h 40 = oMo ty a sd so va wr it mo fa tr) (hK : mG E (mR 7, zX8_desk) K 113 [some (.ref 40), some (vN 6)] [] (mN, 0, 0) (mU h 46 (mAr 12 (cpF dg dg 6 0 6)))) : ∀ (k i : Nat), i + k = 6 → mG E (mR 7, zX8_desk) K 86 [some (.ref 40), some (vN i)] [] (mN, 0, 0) (mU h 46 (mAr 12 (cpF dg dg 6 0 i))) := by
  intro k
  induction k with
  | zero =>
    intro i hk
    refine mG_iload_n dX8_desk_86 rfl ?_
    refine mG_bipush (v := nI 6) dX8_desk_87 (by decide) ?_
    refine mG_icmp_geN dX8_desk_89 (by omega) (by omega) (fun c89 => ?_) (fun c89 => absurd c89 (by omega))
    obtain rfl : i = 6 := by omega
    exact hK
  | succ k ih =>
    intro i hk
    refine mG_iload_n dX8_desk_86 rfl ?_
    refine mG_bipush (v := nI 6) dX8_desk_87 (by decide) ?_
    refine mG_icmp_geN dX8_desk_89 (by omega) (by omega) (fun c89 => absurd c89 (by omega)) (fun c89 => ?_)
    refine mG_aload_n dX8_desk_92 rfl ?_
    refine mG_get fX8_26 dX8_desk_93 e40 (Nat.le_of_ble_eq_true rfl) rfl ?_
    refine mG_iload_n dX8_desk_96 rfl ?_
    refine mG_aload_n dX8_desk_97 rfl ?_
    refine mG_get fX8_26 dX8_desk_98 e40 (Nat.le_of_ble_eq_true rfl) rfl ?_
    refine mG_bipush (v := nI 6) dX8_desk_101 (by decide) ?_
    refine mG_iload_n dX8_desk_103 rfl ?_
    refine mG_iaddN dX8_desk_104 ?_
    refine mG_ialdA dX8_desk_105 rfl (Nat.le_of_ble_eq_true rfl) (by decide) (by omega) ?_
    rw [cpF_out (show ¬ (0 ≤ 6 + i ∧ 6 + i < 0 + i) by omega)]
    refine mG_iastA dX8_desk_106 rfl (Nat.le_of_ble_eq_true rfl) (by decide) (by omega) ?_
    rw [mU_same, cpF_s0]
    refine mG_iincN dX8_desk_107 rfl (Nat.le_of_ble_eq_true rfl) rfl rfl ?_
    refine mG_goto dX8_desk_110 ?_
    exact ih (i + 1) (by omega)
set_option maxRecDepth 100000 in
set_option maxHeartbeats 4000000 in
theorem rp_desk_ok {E : mE} {h : mH} {n : Nat} {tx cb db bb dg nw kn bf sr : Nat → Nat} {ik : Nat → Bool} {mo : Nat} {od : Nat → Nat} {fa : Nat} {fo fi : Nat → Nat} {tr : Int64} {t : mTk} {wr : Bool} {it : Nat} {fg ls : Nat → Nat} (e40 : h 40 = oMt n t wr it mo fa tr) (e41 : h 41 = mBy tx) (e42 : h 42 = mAr 2 cb) (e43 : h 43 = mAr 2 db) (e44 : h 44 = mAr 2 bb) (e45 : h 45 = mAr 48 fg) (e46 : h 46 = mAr 12 dg) (e47 : h 47 = mAr 33 nw) (e48 : h 48 = mAr 3 kn) (e49 : h 49 = mAr 990 bf) (e50 : h 50 = mAr 66 sr) (e51 : h 51 = mZr 2 ik) (e52 : h 52 = mAr 256 ls) (e53 : h 53 = mAr 24 od) (e54 : h 54 = mAr 6 fo) (e55 : h 55 = mAr 6 fi) (F : rF n tx cb db bb dg nw kn mo od fa fo fi) (hz : (rrZ tx n cb db bb fg dg).1.2 = false) : mOk E 7 zX8_desk [.ref 40] h (rQ h (vN (rrZ tx n cb db bb fg dg).2.1) (rI · 0 tx (mUp (rrZ tx n cb db bb fg dg).2.2.1 0 ((rrZ tx n cb db bb fg dg).2.2.1 1)) (mUp (rrZ tx n cb db bb fg dg).2.2.2.1 0 ((rrZ tx n cb db bb fg dg).2.2.2.1 1)) (mUp (rrZ tx n cb db bb fg dg).2.2.2.2.1 0 ((rrZ tx n cb db bb fg dg).2.2.2.2.1 1)) (cpF (rrZ tx n cb db bb fg dg).2.2.2.2.2.2 (rrZ tx n cb db bb fg dg).2.2.2.2.2.2 6 0 6) (bgF (cpF (rrZ tx n cb db bb fg dg).2.2.2.2.2.1 (rrZ tx n cb db bb fg dg).2.2.2.2.2.1 24 0 24) nw) (mUp kn 0 0) bf sr (mUb (mUb ik 0 false) 1 false) ((toR ((rrZ tx n cb db bb fg dg).2.2.1 1) od).1) ((toR ((rrZ tx n cb db bb fg dg).2.2.1 1) od).2) 0 fo fi tr)) := by
  obtain ⟨hn, htx, hcb, hdb, hbb, ho, hnf, hca4, hca, hfr, hwk, hdg, hkn, hfa, hfo, hfi⟩ := id F
  have hr := ok_X8_read (E := E) (h := h) (ty := n) (mo := mo) (fa := fa) (it := it) (t := t) (tr := tr) (wr := wr) (tx := tx) (cb := cb) (db := db) (bb := bb) (fg := fg) (dg := dg) e41 hn htx
  rw [hN_self e40 e42 e43 e44 e45 e46] at hr
  have hB : rB (rrZ tx n cb db bb fg dg) := rrZ_rK.2.2.2.2
  refine mOk_w (L := [some (.ref 40), none]) pn_X8 rfl (Nat.le_of_ble_eq_true rfl) rfl ?_
  refine mG_aload_n dX8_desk_0 rfl ?_
  refine mG_cw0 vX8_117 dX8_desk_1 (mLe_of rfl) (Nat.le_of_ble_eq_true rfl) e40 (Nat.le_of_ble_eq_true rfl) (hr) ?_
  generalize hZ : rrZ tx n cb db bb fg dg = Z at hz hB ⊢
  obtain ⟨⟨zt, zw⟩, zi, zc, zd, zb, zf, zg⟩ := Z
  obtain ⟨hb1, hb2, hb3⟩ := id hB
  dsimp only at hz hb1 hb2 hb3
  dsimp only [hM]
  subst hz
  refine mG_aload_n dX8_desk_4 rfl ?_
  refine mG_get fX8_87 dX8_desk_5 rfl (Nat.le_of_ble_eq_true rfl) rfl ?_
  refine mG_if_eqB dX8_desk_8 (fun c8 => ?_) (fun c8 => Bool.noConfusion c8)
  refine mG_aload_n dX8_desk_19 rfl ?_
  refine mG_get fX8_13 dX8_desk_20 rfl (Nat.le_of_ble_eq_true rfl) rfl ?_
  refine mG_iconst (v := nI 0) dX8_desk_23 (by decide) ?_
  refine mG_aload_n dX8_desk_24 rfl ?_
  refine mG_get fX8_13 dX8_desk_25 rfl (Nat.le_of_ble_eq_true rfl) rfl ?_
  refine mG_iconst (v := nI 1) dX8_desk_28 (by decide) ?_
  refine mG_ialdA dX8_desk_29 rfl (Nat.le_of_ble_eq_true rfl) (by decide) (by omega) ?_
  refine mG_iastA dX8_desk_30 rfl (Nat.le_of_ble_eq_true rfl) (by decide) (by omega) ?_
  rw [hN_42]
  refine mG_aload_n dX8_desk_31 rfl ?_
  refine mG_get fX8_17 dX8_desk_32 rfl (Nat.le_of_ble_eq_true rfl) rfl ?_
  refine mG_iconst (v := nI 0) dX8_desk_35 (by decide) ?_
  refine mG_aload_n dX8_desk_36 rfl ?_
  refine mG_get fX8_17 dX8_desk_37 rfl (Nat.le_of_ble_eq_true rfl) rfl ?_
  refine mG_iconst (v := nI 1) dX8_desk_40 (by decide) ?_
  refine mG_ialdA dX8_desk_41 rfl (Nat.le_of_ble_eq_true rfl) (by decide) (by omega) ?_
  refine mG_iastA dX8_desk_42 rfl (Nat.le_of_ble_eq_true rfl) (by decide) (by omega) ?_
  rw [hN_43]
  refine mG_aload_n dX8_desk_43 rfl ?_
  refine mG_get fX8_20 dX8_desk_44 rfl (Nat.le_of_ble_eq_true rfl) rfl ?_
  refine mG_iconst (v := nI 0) dX8_desk_47 (by decide) ?_
  refine mG_aload_n dX8_desk_48 rfl ?_
  refine mG_get fX8_20 dX8_desk_49 rfl (Nat.le_of_ble_eq_true rfl) rfl ?_
  refine mG_iconst (v := nI 1) dX8_desk_52 (by decide) ?_
  refine mG_ialdA dX8_desk_53 rfl (Nat.le_of_ble_eq_true rfl) (by decide) (by omega) ?_
  refine mG_iastA dX8_desk_54 rfl (Nat.le_of_ble_eq_true rfl) (by decide) (by omega) ?_
  rw [hN_44]
  refine mG_iconst (v := nI 0) dX8_desk_55 (by decide) ?_
  refine mG_istore_n dX8_desk_56 (Nat.le_of_ble_eq_true rfl) rfl rfl ?_
  generalize hH1 : hN h n zt false zi mo fa tr (mUp zc 0 (zc 1)) (mUp zd 0 (zd 1)) (mUp zb 0 (zb 1)) zf zg = H1
  have f40 : H1 40 = oMt n zt false zi mo fa tr := by rw [← hH1]; rfl
  have f45 : H1 45 = mAr 48 zf := by rw [← hH1]; rfl
  have q := lp_X8_dk1 (E := E) (h := H1) (K := mKq E (mR 7) mN (rQ h (vN zi) (rI · 0 tx (mUp zc 0 (zc 1)) (mUp zd 0 (zd 1)) (mUp zb 0 (zb 1)) (cpF zg zg 6 0 6) (bgF (cpF zf zf 24 0 24) nw) (mUp kn 0 0) bf sr (mUb (mUb ik 0 false) 1 false) ((toR (zc 1) od).1) ((toR (zc 1) od).2) 0 fo fi tr))) (fg := zf) f40 ?_ 24 0 rfl
  · rw [cpF_0, mU_self H1 45 _ f45] at q
    exact q
  generalize hH2 : mU H1 45 (mAr 48 (cpF zf zf 24 0 24)) = H2
  have g40 : H2 40 = oMt n zt false zi mo fa tr := by rw [← hH2, ← hH1]; rfl
  have g46 : H2 46 = mAr 12 zg := by rw [← hH2, ← hH1]; rfl
  refine mG_iconst (v := nI 0) dX8_desk_84 (by decide) ?_
  refine mG_istore_n dX8_desk_85 (Nat.le_of_ble_eq_true rfl) rfl rfl ?_
  have q := lp_X8_dk2 (E := E) (h := H2) (K := mKq E (mR 7) mN (rQ h (vN zi) (rI · 0 tx (mUp zc 0 (zc 1)) (mUp zd 0 (zd 1)) (mUp zb 0 (zb 1)) (cpF zg zg 6 0 6) (bgF (cpF zf zf 24 0 24) nw) (mUp kn 0 0) bf sr (mUb (mUb ik 0 false) 1 false) ((toR (zc 1) od).1) ((toR (zc 1) od).2) 0 fo fi tr))) (dg := zg) g40 ?_ 6 0 rfl
  · rw [cpF_0, mU_self H2 46 _ g46] at q
    exact q
  subst hH2
  subst hH1
  refine mG_aload_n dX8_desk_113 rfl ?_
  refine mG_cw0 vX8_57 dX8_desk_114 (mLe_of rfl) (Nat.le_of_ble_eq_true rfl) rfl (Nat.le_of_ble_eq_true rfl) (ok_X8_begin rfl rfl e47) ?_
  refine mG_aload_n dX8_desk_117 rfl ?_
  refine mG_cw0 vX8_60 dX8_desk_118 (mLe_of rfl) (Nat.le_of_ble_eq_true rfl) rfl (Nat.le_of_ble_eq_true rfl) (ok_X8_tellOrders rfl rfl (by rw [mUp_eq]; exact hb1) e53) ?_
  rw [mUp_eq]
  refine mG_aload_n dX8_desk_121 rfl ?_
  refine mG_get fX8_32 dX8_desk_122 rfl (Nat.le_of_ble_eq_true rfl) rfl ?_
  refine mG_iconst (v := nI 0) dX8_desk_125 (by decide) ?_
  refine mG_iconst (v := nI 0) dX8_desk_126 (by decide) ?_
  refine mG_iastA dX8_desk_127 e48 (Nat.le_of_ble_eq_true rfl) (by decide) (by omega) ?_
  refine mG_aload_n dX8_desk_128 rfl ?_
  refine mG_get fX8_41 dX8_desk_129 rfl (Nat.le_of_ble_eq_true rfl) rfl ?_
  refine mG_iconst (v := nI 0) dX8_desk_132 (by decide) ?_
  refine mG_iconst (v := mb false) dX8_desk_133 (by decide) ?_
  refine mG_zastA (x := false) dX8_desk_134 e51 (Nat.le_of_ble_eq_true rfl) (by decide) (by decide) ?_
  refine mG_aload_n dX8_desk_135 rfl ?_
  refine mG_get fX8_41 dX8_desk_136 rfl (Nat.le_of_ble_eq_true rfl) rfl ?_
  refine mG_iconst (v := nI 1) dX8_desk_139 (by decide) ?_
  refine mG_iconst (v := mb false) dX8_desk_140 (by decide) ?_
  refine mG_zastA (x := false) dX8_desk_141 rfl (Nat.le_of_ble_eq_true rfl) (by decide) (by decide) ?_
  refine mG_aload_n dX8_desk_142 rfl ?_
  refine mG_iconst (v := nI 0) dX8_desk_143 (by decide) ?_
  refine mG_putI pX8_120 dX8_desk_144 rfl (Nat.le_of_ble_eq_true rfl) (Nat.le_of_ble_eq_true rfl) ?_
  refine mG_aload_n dX8_desk_147 rfl ?_
  refine mG_iconst (v := nI 0) dX8_desk_148 (by decide) ?_
  refine mG_putI pX8_67 dX8_desk_149 rfl (Nat.le_of_ble_eq_true rfl) (Nat.le_of_ble_eq_true rfl) ?_
  refine mG_aload_n dX8_desk_152 rfl ?_
  refine mG_get fX8_106 dX8_desk_153 rfl (Nat.le_of_ble_eq_true rfl) rfl ?_
  exact mG_iret dX8_desk_156 rfl ⟨rfl, ⟨zt, false, zi, _, ls, rfl, e41, rfl, rfl, rfl, rfl, rfl, rfl, rfl, e49, e50, rfl, e52, rfl, e54, e55⟩, fun b hb => by simp only [hN, mU, show ¬ b = 40 from by omega, show ¬ b = 42 from by omega, show ¬ b = 43 from by omega, show ¬ b = 44 from by omega, show ¬ b = 45 from by omega, show ¬ b = 46 from by omega, show ¬ b = 47 from by omega, show ¬ b = 48 from by omega, show ¬ b = 51 from by omega, show ¬ b = 53 from by omega, if_false]⟩
