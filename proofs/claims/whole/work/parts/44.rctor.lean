-- needs: 33 34 35 36 37 38 39 40 41 42 43
/-! the reference is made -/
def RZ (h : mH) : Prop := rI h 0 z0 z0 z0 z0 z0 (bgF z0 z0) z0 z0 z0 (fun _ => false) (toR 0 z0).1 (toR 0 z0).2 0 z0 z0 0
theorem by_z : (fun _ => (0 : Int32)) = fun j : Nat => (nI (z0 j)).toInt8.toInt32 := by
  funext j
  show (0 : Int32) = (nI 0).toInt8.toInt32
  decide
theorem z_z : (fun _ => (0 : Int32)) = fun j : Nat => mb ((fun _ => false) j) := by
  funext j
  rfl
set_option maxRecDepth 100000 in
set_option maxHeartbeats 4000000 in
theorem ct_X8 {E : mE} {h : mH} (hb : E.2.2.2.2.2.2 = false) (e40 : h 40 = mOb 8 [.null, vN 0, .null, .null, .null, .null, .null, vN 0, vN 0, vN 0, vN 0, vB false, vN 0, .null, .null, .null, .null, .null, .null, .null, vN 0, .null, .null, vN 0, .long 0]) : mOkR E (mRa 4 15 1552) zX8_init [.ref 40] 41 56 h (fun r h' => r = none ∧ RZ h' ∧ ∀ b, b < 40 → h' b = h b) := by
  refine mOkR_w (L := [some (.ref 40)]) pn_X8 rfl (Nat.le_of_ble_eq_true rfl) rfl ?_
  refine mG_aload_n dX8_init_0 rfl ?_
  refine mG_oinit dX8_init_1 oX8_1 (by decide) (Nat.le_of_ble_eq_true rfl) ?_
  refine mG_aload_n dX8_init_4 rfl ?_
  refine mG_bipush (v := nI 100) dX8_init_5 (by decide) ?_
  refine mG_newB dX8_init_7 hb (by decide) (by decide) (Nat.le_of_ble_eq_true rfl) (Nat.le_of_ble_eq_true rfl) ?_
  refine mG_at (42, 1, 100) rfl ?_
  refine mG_putFO pX8_7 dX8_init_9 rfl e40 (Nat.le_of_ble_eq_true rfl) (Nat.le_of_ble_eq_true rfl) rfl rfl ?_
  refine mG_aload_n dX8_init_12 rfl ?_
  refine mG_iconst (v := nI 2) dX8_init_13 (by decide) ?_
  refine mG_newI dX8_init_14 hb (by decide) (by decide) (Nat.le_of_ble_eq_true rfl) (Nat.le_of_ble_eq_true rfl) ?_
  refine mG_at (43, 2, 102) rfl ?_
  refine mG_putFO pX8_13 dX8_init_16 rfl rfl (Nat.le_of_ble_eq_true rfl) (Nat.le_of_ble_eq_true rfl) rfl rfl ?_
  refine mG_aload_n dX8_init_19 rfl ?_
  refine mG_iconst (v := nI 2) dX8_init_20 (by decide) ?_
  refine mG_newI dX8_init_21 hb (by decide) (by decide) (Nat.le_of_ble_eq_true rfl) (Nat.le_of_ble_eq_true rfl) ?_
  refine mG_at (44, 3, 104) rfl ?_
  refine mG_putFO pX8_17 dX8_init_23 rfl rfl (Nat.le_of_ble_eq_true rfl) (Nat.le_of_ble_eq_true rfl) rfl rfl ?_
  refine mG_aload_n dX8_init_26 rfl ?_
  refine mG_iconst (v := nI 2) dX8_init_27 (by decide) ?_
  refine mG_newI dX8_init_28 hb (by decide) (by decide) (Nat.le_of_ble_eq_true rfl) (Nat.le_of_ble_eq_true rfl) ?_
  refine mG_at (45, 4, 106) rfl ?_
  refine mG_putFO pX8_20 dX8_init_30 rfl rfl (Nat.le_of_ble_eq_true rfl) (Nat.le_of_ble_eq_true rfl) rfl rfl ?_
  refine mG_aload_n dX8_init_33 rfl ?_
  refine mG_bipush (v := nI 48) dX8_init_34 (by decide) ?_
  refine mG_newI dX8_init_36 hb (by decide) (by decide) (Nat.le_of_ble_eq_true rfl) (Nat.le_of_ble_eq_true rfl) ?_
  refine mG_at (46, 5, 154) rfl ?_
  refine mG_putFO pX8_23 dX8_init_38 rfl rfl (Nat.le_of_ble_eq_true rfl) (Nat.le_of_ble_eq_true rfl) rfl rfl ?_
  refine mG_aload_n dX8_init_41 rfl ?_
  refine mG_bipush (v := nI 12) dX8_init_42 (by decide) ?_
  refine mG_newI dX8_init_44 hb (by decide) (by decide) (Nat.le_of_ble_eq_true rfl) (Nat.le_of_ble_eq_true rfl) ?_
  refine mG_at (47, 6, 166) rfl ?_
  refine mG_putFO pX8_26 dX8_init_46 rfl rfl (Nat.le_of_ble_eq_true rfl) (Nat.le_of_ble_eq_true rfl) rfl rfl ?_
  refine mG_aload_n dX8_init_49 rfl ?_
  refine mG_bipush (v := nI 33) dX8_init_50 (by decide) ?_
  refine mG_newI dX8_init_52 hb (by decide) (by decide) (Nat.le_of_ble_eq_true rfl) (Nat.le_of_ble_eq_true rfl) ?_
  refine mG_at (48, 7, 199) rfl ?_
  refine mG_putFO pX8_29 dX8_init_54 rfl rfl (Nat.le_of_ble_eq_true rfl) (Nat.le_of_ble_eq_true rfl) rfl rfl ?_
  refine mG_aload_n dX8_init_57 rfl ?_
  refine mG_iconst (v := nI 3) dX8_init_58 (by decide) ?_
  refine mG_newI dX8_init_59 hb (by decide) (by decide) (Nat.le_of_ble_eq_true rfl) (Nat.le_of_ble_eq_true rfl) ?_
  refine mG_at (49, 8, 202) rfl ?_
  refine mG_putFO pX8_32 dX8_init_61 rfl rfl (Nat.le_of_ble_eq_true rfl) (Nat.le_of_ble_eq_true rfl) rfl rfl ?_
  refine mG_aload_n dX8_init_64 rfl ?_
  refine mG_sipush (v := nI 990) dX8_init_65 (by decide) ?_
  refine mG_newI dX8_init_68 hb (by decide) (by decide) (Nat.le_of_ble_eq_true rfl) (Nat.le_of_ble_eq_true rfl) ?_
  refine mG_at (50, 9, 1192) rfl ?_
  refine mG_putFO pX8_35 dX8_init_70 rfl rfl (Nat.le_of_ble_eq_true rfl) (Nat.le_of_ble_eq_true rfl) rfl rfl ?_
  refine mG_aload_n dX8_init_73 rfl ?_
  refine mG_bipush (v := nI 66) dX8_init_74 (by decide) ?_
  refine mG_newI dX8_init_76 hb (by decide) (by decide) (Nat.le_of_ble_eq_true rfl) (Nat.le_of_ble_eq_true rfl) ?_
  refine mG_at (51, 10, 1258) rfl ?_
  refine mG_putFO pX8_38 dX8_init_78 rfl rfl (Nat.le_of_ble_eq_true rfl) (Nat.le_of_ble_eq_true rfl) rfl rfl ?_
  refine mG_aload_n dX8_init_81 rfl ?_
  refine mG_iconst (v := nI 2) dX8_init_82 (by decide) ?_
  refine mG_newZ dX8_init_83 hb (by decide) (by decide) (Nat.le_of_ble_eq_true rfl) (Nat.le_of_ble_eq_true rfl) ?_
  refine mG_at (52, 11, 1260) rfl ?_
  refine mG_putFO pX8_41 dX8_init_85 rfl rfl (Nat.le_of_ble_eq_true rfl) (Nat.le_of_ble_eq_true rfl) rfl rfl ?_
  refine mG_aload_n dX8_init_88 rfl ?_
  refine mG_sipush (v := nI 256) dX8_init_89 (by decide) ?_
  refine mG_newI dX8_init_92 hb (by decide) (by decide) (Nat.le_of_ble_eq_true rfl) (Nat.le_of_ble_eq_true rfl) ?_
  refine mG_at (53, 12, 1516) rfl ?_
  refine mG_putFO pX8_45 dX8_init_94 rfl rfl (Nat.le_of_ble_eq_true rfl) (Nat.le_of_ble_eq_true rfl) rfl rfl ?_
  refine mG_aload_n dX8_init_97 rfl ?_
  refine mG_bipush (v := nI 24) dX8_init_98 (by decide) ?_
  refine mG_newI dX8_init_100 hb (by decide) (by decide) (Nat.le_of_ble_eq_true rfl) (Nat.le_of_ble_eq_true rfl) ?_
  refine mG_at (54, 13, 1540) rfl ?_
  refine mG_putFO pX8_48 dX8_init_102 rfl rfl (Nat.le_of_ble_eq_true rfl) (Nat.le_of_ble_eq_true rfl) rfl rfl ?_
  refine mG_aload_n dX8_init_105 rfl ?_
  refine mG_bipush (v := nI 6) dX8_init_106 (by decide) ?_
  refine mG_newI dX8_init_108 hb (by decide) (by decide) (Nat.le_of_ble_eq_true rfl) (Nat.le_of_ble_eq_true rfl) ?_
  refine mG_at (55, 14, 1546) rfl ?_
  refine mG_putFO pX8_51 dX8_init_110 rfl rfl (Nat.le_of_ble_eq_true rfl) (Nat.le_of_ble_eq_true rfl) rfl rfl ?_
  refine mG_aload_n dX8_init_113 rfl ?_
  refine mG_bipush (v := nI 6) dX8_init_114 (by decide) ?_
  refine mG_newI dX8_init_116 hb (by decide) (by decide) (Nat.le_of_ble_eq_true rfl) (Nat.le_of_ble_eq_true rfl) ?_
  refine mG_at (56, 15, 1552) rfl ?_
  refine mG_putFO pX8_54 dX8_init_118 rfl rfl (Nat.le_of_ble_eq_true rfl) (Nat.le_of_ble_eq_true rfl) rfl rfl ?_
  refine mG_aload_n dX8_init_121 rfl ?_
  refine mG_callV (R' := mR 1) (av := []) vX8_57 dX8_init_122 ⟨Nat.le_of_ble_eq_true rfl, Nat.le_of_ble_eq_true rfl⟩ (Nat.le_of_ble_eq_true rfl) ⟨Nat.le_of_ble_eq_true rfl, Nat.le_of_ble_eq_true rfl⟩ rfl (Nat.le_of_ble_eq_true rfl) rfl rfl (fun q => by rw [hb] at q; cases q) (ok_X8_begin (fg := z0) (nw := z0) rfl rfl rfl) (fun r h' q => ?_)
  obtain ⟨rfl, rfl⟩ := q
  refine mG_at (56, 15, 1552) rfl ?_
  refine mG_aload_n dX8_init_125 rfl ?_
  refine mG_callV (R' := mR 3) (av := []) vX8_60 dX8_init_126 ⟨Nat.le_of_ble_eq_true rfl, Nat.le_of_ble_eq_true rfl⟩ (Nat.le_of_ble_eq_true rfl) ⟨Nat.le_of_ble_eq_true rfl, Nat.le_of_ble_eq_true rfl⟩ rfl (Nat.le_of_ble_eq_true rfl) rfl rfl (fun q => by rw [hb] at q; cases q) (ok_X8_tellOrders (cb := z0) (od := z0) rfl rfl (by decide) rfl) (fun r h' q => ?_)
  obtain ⟨rfl, rfl⟩ := q
  refine mG_at (56, 15, 1552) rfl ?_
  exact mG_vret dX8_init_129 rfl ⟨rfl, ⟨(0, 0, 0, 0), false, 0, z0, z0, rfl, by_z ▸ rfl, rfl, rfl, rfl, rfl, rfl, rfl, rfl, rfl, rfl, z_z ▸ rfl, rfl, rfl, rfl, rfl⟩, fun b hb => by simp only [mU, show ¬ b = 40 from by omega, show ¬ b = 41 from by omega, show ¬ b = 42 from by omega, show ¬ b = 43 from by omega, show ¬ b = 44 from by omega, show ¬ b = 45 from by omega, show ¬ b = 46 from by omega, show ¬ b = 47 from by omega, show ¬ b = 48 from by omega, show ¬ b = 49 from by omega, show ¬ b = 50 from by omega, show ¬ b = 51 from by omega, show ¬ b = 52 from by omega, show ¬ b = 53 from by omega, show ¬ b = 54 from by omega, show ¬ b = 55 from by omega, if_false]⟩ rfl (Nat.le_refl _) (Nat.le_refl _)
