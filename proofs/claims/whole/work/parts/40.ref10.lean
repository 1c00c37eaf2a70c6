-- needs: 33 34 35 36 37 38 39
/-! the reference: what was seen, odds, marks -/
theorem mbEq {x y : Bool} : mb x = mb y ↔ x = y := by cases x <;> cases y <;> decide
def seB (nw fo fi : Nat → Nat) (c k : Nat) : Bool := decide (fgs nw c 6 >>> fo k &&& 1 = fi k)
def whR (nw fo fi : Nat → Nat) (fa cu : Nat) : Nat := ddG (fun c => alB (seB nw fo fi c) fa) cu
theorem bit_le (x k : Nat) : x >>> k &&& 1 ≤ 1 := Nat.and_le_right
set_option maxRecDepth 100000 in
set_option maxHeartbeats 4000000 in
theorem lp_X8_whI {E : mE} {h : mH} {K : mKt} {ty a sd so va it mo fa : Nat} {wr : Bool} {tr : Int64} {c z : Nat} {cb nw fo fi : Nat → Nat} (e40 : h 40 = oMo ty a sd so va wr it mo fa tr) (e42 : h 42 = mAr 2 cb) (hcb : cb 0 ≤ 4) (e47 : h 47 = mAr 33 nw) (hnf : ∀ j, j < cb 0 * 6 → nw j < 10) (e54 : h 54 = mAr 6 fo) (hfo : ∀ j, j < fa → fo j < 10) (e55 : h 55 = mAr 6 fi) (hfi : ∀ j, j < fa → fi j < 2) (hfa : fa ≤ 6) (hc : c < cb 0) (hK : ∀ x, mG E (mR 2, zX8_which) K 78 [some (.ref 40), some (vN z), some (vN c), some (vB (alB (seB nw fo fi c) fa)), some (vN x)] [] (mN, 0, 0) h) : ∀ (k i : Nat), i + k = fa → mG E (mR 2, zX8_which) K 19 [some (.ref 40), some (vN z), some (vN c), some (vB (alB (seB nw fo fi c) i)), some (vN i)] [] (mN, 0, 0) h := by
  intro k
  induction k with
  | zero =>
    intro i hk
    refine mG_iload dX8_which_19 rfl ?_
    refine mG_aload_n dX8_which_21 rfl ?_
    refine mG_get fX8_120 dX8_which_22 e40 (Nat.le_of_ble_eq_true rfl) rfl ?_
    refine mG_icmp_geN dX8_which_25 (by omega) (by omega) (fun c25 => ?_) (fun c25 => absurd c25 (by omega))
    obtain rfl : i = fa := by omega
    exact hK _
  | succ k ih =>
    intro i hk
    refine mG_iload dX8_which_19 rfl ?_
    refine mG_aload_n dX8_which_21 rfl ?_
    refine mG_get fX8_120 dX8_which_22 e40 (Nat.le_of_ble_eq_true rfl) rfl ?_
    refine mG_icmp_geN dX8_which_25 (by omega) (by omega) (fun c25 => absurd c25 (by omega)) (fun c25 => ?_)
    refine mG_iload_n dX8_which_28 rfl ?_
    refine mG_if_eqB dX8_which_29 (fun c29 => ?_) (fun c29 => ?_)
    · refine mG_iconst (v := mb false) dX8_which_70 (by decide) ?_
      refine mG_istore_n dX8_which_71 (Nat.le_of_ble_eq_true rfl) rfl rfl ?_
      refine mG_iincN dX8_which_72 rfl (Nat.le_of_ble_eq_true rfl) rfl rfl ?_
      refine mG_goto dX8_which_75 ?_
      have q := ih (i + 1) (by omega)
      rw [alB] at q
      first
        | (rw [c29, Bool.false_and] at q; exact q)
        | (rw [c29, show seB nw fo fi c i = true from decide_eq_true (by have := of_decide_eq_true (mbEq.mp c63); omega)] at q; exact q)
        | (rw [c29, show seB nw fo fi c i = true from decide_eq_true (by have := of_decide_eq_false (mbEq.mp c63); omega)] at q; exact q)
        | (rw [c29, show seB nw fo fi c i = false from decide_eq_false (by intro w; exact c63 (mbEq.mpr (decide_eq_true (by omega))))] at q; exact q)
        | (rw [c29, show seB nw fo fi c i = false from decide_eq_false (by intro w; exact c63 (mbEq.mpr (decide_eq_false (by omega))))] at q; exact q)
    · refine mG_aload_n dX8_which_32 rfl ?_
      refine mG_iload_n dX8_which_33 rfl ?_
      refine mG_cv1 vX8_157 dX8_which_34 (mLe_of rfl) (Nat.le_of_ble_eq_true rfl) e40 (Nat.le_of_ble_eq_true rfl) (ok_X8_figuresOf e40 e47 (by omega) (fun j hj => hnf _ (by omega))) ?_
      refine mG_aload_n dX8_which_37 rfl ?_
      refine mG_get fX8_51 dX8_which_38 e40 (Nat.le_of_ble_eq_true rfl) rfl ?_
      refine mG_iload dX8_which_41 rfl ?_
      refine mG_ialdA dX8_which_43 e54 (Nat.le_of_ble_eq_true rfl) (by decide) (by omega) ?_
      have h1 := hfo i c25
      have h2 := hfi i c25
      have h3 := fgs_lt (nf := nw) (c := c) 6 (fun j hj => hnf _ (by omega))
      have h4 := bit_le (fgs nw c 6) (fo i)
      refine mG_cs2 sX8_145 dX8_which_44 (mLe_of rfl) (Nat.le_of_ble_eq_true rfl) (ok_X8_has (by omega) (by omega)) ?_
      refine mG_aload_n dX8_which_47 rfl ?_
      refine mG_get fX8_54 dX8_which_48 e40 (Nat.le_of_ble_eq_true rfl) rfl ?_
      refine mG_iload dX8_which_51 rfl ?_
      refine mG_ialdA dX8_which_53 e55 (Nat.le_of_ble_eq_true rfl) (by decide) (by omega) ?_
      refine mG_iconst (v := nI 1) dX8_which_54 (by decide) ?_
      refine mG_icmp_neN dX8_which_55 (by omega) (by omega) (fun c55 => ?_) (fun c55 => ?_)
      · refine mG_iconst (v := mb false) dX8_which_62 (by decide) ?_
        refine mG_icmp_ne dX8_which_63 (fun c63 => ?_) (fun c63 => ?_)
        · refine mG_iconst (v := mb false) dX8_which_70 (by decide) ?_
          refine mG_istore_n dX8_which_71 (Nat.le_of_ble_eq_true rfl) rfl rfl ?_
          refine mG_iincN dX8_which_72 rfl (Nat.le_of_ble_eq_true rfl) rfl rfl ?_
          refine mG_goto dX8_which_75 ?_
          have q := ih (i + 1) (by omega)
          rw [alB] at q
          first
            | (rw [c29, Bool.false_and] at q; exact q)
            | (rw [c29, show seB nw fo fi c i = true from decide_eq_true (by have := of_decide_eq_true (mbEq.mp c63); omega)] at q; exact q)
            | (rw [c29, show seB nw fo fi c i = true from decide_eq_true (by have := of_decide_eq_false (mbEq.mp c63); omega)] at q; exact q)
            | (rw [c29, show seB nw fo fi c i = false from decide_eq_false (by intro w; exact c63 (mbEq.mpr (decide_eq_true (by omega))))] at q; exact q)
            | (rw [c29, show seB nw fo fi c i = false from decide_eq_false (by intro w; exact c63 (mbEq.mpr (decide_eq_false (by omega))))] at q; exact q)
        · refine mG_iconst (v := mb true) dX8_which_66 (by decide) ?_
          refine mG_goto dX8_which_67 ?_
          refine mG_istore_n dX8_which_71 (Nat.le_of_ble_eq_true rfl) rfl rfl ?_
          refine mG_iincN dX8_which_72 rfl (Nat.le_of_ble_eq_true rfl) rfl rfl ?_
          refine mG_goto dX8_which_75 ?_
          have q := ih (i + 1) (by omega)
          rw [alB] at q
          first
            | (rw [c29, Bool.false_and] at q; exact q)
            | (rw [c29, show seB nw fo fi c i = true from decide_eq_true (by have := of_decide_eq_true (mbEq.mp c63); omega)] at q; exact q)
            | (rw [c29, show seB nw fo fi c i = true from decide_eq_true (by have := of_decide_eq_false (mbEq.mp c63); omega)] at q; exact q)
            | (rw [c29, show seB nw fo fi c i = false from decide_eq_false (by intro w; exact c63 (mbEq.mpr (decide_eq_true (by omega))))] at q; exact q)
            | (rw [c29, show seB nw fo fi c i = false from decide_eq_false (by intro w; exact c63 (mbEq.mpr (decide_eq_false (by omega))))] at q; exact q)
      · refine mG_iconst (v := mb true) dX8_which_58 (by decide) ?_
        refine mG_goto dX8_which_59 ?_
        refine mG_icmp_ne dX8_which_63 (fun c63 => ?_) (fun c63 => ?_)
        · refine mG_iconst (v := mb false) dX8_which_70 (by decide) ?_
          refine mG_istore_n dX8_which_71 (Nat.le_of_ble_eq_true rfl) rfl rfl ?_
          refine mG_iincN dX8_which_72 rfl (Nat.le_of_ble_eq_true rfl) rfl rfl ?_
          refine mG_goto dX8_which_75 ?_
          have q := ih (i + 1) (by omega)
          rw [alB] at q
          first
            | (rw [c29, Bool.false_and] at q; exact q)
            | (rw [c29, show seB nw fo fi c i = true from decide_eq_true (by have := of_decide_eq_true (mbEq.mp c63); omega)] at q; exact q)
            | (rw [c29, show seB nw fo fi c i = true from decide_eq_true (by have := of_decide_eq_false (mbEq.mp c63); omega)] at q; exact q)
            | (rw [c29, show seB nw fo fi c i = false from decide_eq_false (by intro w; exact c63 (mbEq.mpr (decide_eq_true (by omega))))] at q; exact q)
            | (rw [c29, show seB nw fo fi c i = false from decide_eq_false (by intro w; exact c63 (mbEq.mpr (decide_eq_false (by omega))))] at q; exact q)
        · refine mG_iconst (v := mb true) dX8_which_66 (by decide) ?_
          refine mG_goto dX8_which_67 ?_
          refine mG_istore_n dX8_which_71 (Nat.le_of_ble_eq_true rfl) rfl rfl ?_
          refine mG_iincN dX8_which_72 rfl (Nat.le_of_ble_eq_true rfl) rfl rfl ?_
          refine mG_goto dX8_which_75 ?_
          have q := ih (i + 1) (by omega)
          rw [alB] at q
          first
            | (rw [c29, Bool.false_and] at q; exact q)
            | (rw [c29, show seB nw fo fi c i = true from decide_eq_true (by have := of_decide_eq_true (mbEq.mp c63); omega)] at q; exact q)
            | (rw [c29, show seB nw fo fi c i = true from decide_eq_true (by have := of_decide_eq_false (mbEq.mp c63); omega)] at q; exact q)
            | (rw [c29, show seB nw fo fi c i = false from decide_eq_false (by intro w; exact c63 (mbEq.mpr (decide_eq_true (by omega))))] at q; exact q)
            | (rw [c29, show seB nw fo fi c i = false from decide_eq_false (by intro w; exact c63 (mbEq.mpr (decide_eq_false (by omega))))] at q; exact q)
set_option maxRecDepth 100000 in
set_option maxHeartbeats 4000000 in
theorem lp_X8_wh {E : mE} {h : mH} {ty a sd so va it mo fa : Nat} {wr : Bool} {tr : Int64} {cb nw fo fi : Nat → Nat} (e40 : h 40 = oMo ty a sd so va wr it mo fa tr) (e42 : h 42 = mAr 2 cb) (hcb : cb 0 ≤ 4) (e47 : h 47 = mAr 33 nw) (hnf : ∀ j, j < cb 0 * 6 → nw j < 10) (e54 : h 54 = mAr 6 fo) (hfo : ∀ j, j < fa → fo j < 10) (e55 : h 55 = mAr 6 fi) (hfi : ∀ j, j < fa → fi j < 2) (hfa : fa ≤ 6)  : ∀ (k i : Nat) (x3 x4 : Option Value), i + k = cb 0 → mG E (mR 2, zX8_which) (mKq E (mR 2) mN (mX (some (vN (whR nw fo fi fa (cb 0)))) h)) 4 [some (.ref 40), some (vN (whR nw fo fi fa i)), some (vN i), x3, x4] [] (mN, 0, 0) h := by
  intro k
  induction k with
  | zero =>
    intro i x3 x4 hk
    refine mG_iload_n dX8_which_4 rfl ?_
    refine mG_aload_n dX8_which_5 rfl ?_
    refine mG_get fX8_13 dX8_which_6 e40 (Nat.le_of_ble_eq_true rfl) rfl ?_
    refine mG_iconst (v := nI 0) dX8_which_9 (by decide) ?_
    refine mG_ialdA dX8_which_10 e42 (Nat.le_of_ble_eq_true rfl) (by decide) (by omega) ?_
    refine mG_icmp_geN dX8_which_11 (by omega) (by omega) (fun c11 => ?_) (fun c11 => absurd c11 (by omega))
    refine mG_iload_n dX8_which_98 rfl ?_
    exact mG_iret dX8_which_99 rfl (mX_of (by rw [show i = cb 0 by omega]) rfl)
  | succ k ih =>
    intro i x3 x4 hk
    refine mG_iload_n dX8_which_4 rfl ?_
    refine mG_aload_n dX8_which_5 rfl ?_
    refine mG_get fX8_13 dX8_which_6 e40 (Nat.le_of_ble_eq_true rfl) rfl ?_
    refine mG_iconst (v := nI 0) dX8_which_9 (by decide) ?_
    refine mG_ialdA dX8_which_10 e42 (Nat.le_of_ble_eq_true rfl) (by decide) (by omega) ?_
    refine mG_icmp_geN dX8_which_11 (by omega) (by omega) (fun c11 => absurd c11 (by omega)) (fun c11 => ?_)
    refine mG_iconst (v := mb true) dX8_which_14 (by decide) ?_
    refine mG_istore_n dX8_which_15 (Nat.le_of_ble_eq_true rfl) rfl rfl ?_
    refine mG_iconst (v := nI 0) dX8_which_16 (by decide) ?_
    refine mG_istore dX8_which_17 (Nat.le_of_ble_eq_true rfl) rfl rfl ?_
    refine lp_X8_whI e40 e42 hcb e47 hnf e54 hfo e55 hfi hfa c11 (fun x => ?_) fa 0 (Nat.zero_add _)
    refine mG_iload_n dX8_which_78 rfl ?_
    refine mG_iload_n dX8_which_79 rfl ?_
    refine mG_if_eqB dX8_which_80 (fun c80 => ?_) (fun c80 => ?_)
    · refine mG_iconst (v := nI 0) dX8_which_89 (by decide) ?_
      refine mG_iorN dX8_which_90 ?_
      refine mG_istore_n dX8_which_91 (Nat.le_of_ble_eq_true rfl) rfl rfl ?_
      refine mG_iincN dX8_which_92 rfl (Nat.le_of_ble_eq_true rfl) rfl rfl ?_
      refine mG_goto dX8_which_95 ?_
      have q := ih (i + 1) (some (vB (alB (seB nw fo fi i) fa))) (some (vN x)) (by omega)
      unfold whR at q ⊢
      first
        | (rw [ddG_t (d := i) c80] at q; exact q)
        | (rw [ddG_f (d := i) c80] at q; rw [Nat.or_zero]; exact q)
    · refine mG_iconst (v := nI 1) dX8_which_83 (by decide) ?_
      refine mG_iload_n dX8_which_84 rfl ?_
      refine mG_ishlN dX8_which_85 (by omega) (shl1_lt2 (by omega)) ?_
      refine mG_goto dX8_which_86 ?_
      refine mG_iorN dX8_which_90 ?_
      refine mG_istore_n dX8_which_91 (Nat.le_of_ble_eq_true rfl) rfl rfl ?_
      refine mG_iincN dX8_which_92 rfl (Nat.le_of_ble_eq_true rfl) rfl rfl ?_
      refine mG_goto dX8_which_95 ?_
      have q := ih (i + 1) (some (vB (alB (seB nw fo fi i) fa))) (some (vN x)) (by omega)
      unfold whR at q ⊢
      first
        | (rw [ddG_t (d := i) c80] at q; exact q)
        | (rw [ddG_f (d := i) c80] at q; rw [Nat.or_zero]; exact q)
set_option maxRecDepth 100000 in
set_option maxHeartbeats 4000000 in
theorem ok_X8_which {E : mE} {h : mH} {ty a sd so va it mo fa : Nat} {wr : Bool} {tr : Int64} {cb nw fo fi : Nat → Nat} (e40 : h 40 = oMo ty a sd so va wr it mo fa tr) (e42 : h 42 = mAr 2 cb) (hcb : cb 0 ≤ 4) (e47 : h 47 = mAr 33 nw) (hnf : ∀ j, j < cb 0 * 6 → nw j < 10) (e54 : h 54 = mAr 6 fo) (hfo : ∀ j, j < fa → fo j < 10) (e55 : h 55 = mAr 6 fi) (hfi : ∀ j, j < fa → fi j < 2) (hfa : fa ≤ 6)  : mOk E 2 zX8_which [.ref 40] h (mX (some (vN (whR nw fo fi fa (cb 0)))) h) := by
  refine mOk_w (L := [some (.ref 40), none, none, none, none]) pn_X8 rfl (Nat.le_of_ble_eq_true rfl) rfl ?_
  refine mG_iconst (v := nI 0) dX8_which_0 (by decide) ?_
  refine mG_istore_n dX8_which_1 (Nat.le_of_ble_eq_true rfl) rfl rfl ?_
  refine mG_iconst (v := nI 0) dX8_which_2 (by decide) ?_
  refine mG_istore_n dX8_which_3 (Nat.le_of_ble_eq_true rfl) rfl rfl ?_
  exact lp_X8_wh e40 e42 hcb e47 hnf e54 hfo e55 hfi hfa (cb 0) 0 _ _ (Nat.zero_add _)
theorem rpopc_le (x : Nat) : ∀ k, popc x k ≤ k := by
  intro k
  induction k with
  | zero => exact Nat.le_refl _
  | succ k ih => unfold popc; have := bit_le x k; omega
theorem rhmh_le (nw : Nat → Nat) (f l : Nat) : ∀ k, hmh nw f l k ≤ k := by
  intro k
  induction k with
  | zero => exact Nat.le_refl _
  | succ k ih => unfold hmh; have := bit_le (fgs nw k 6) f; split <;> omega
theorem hmh_pop (nw : Nat → Nat) (f l : Nat) : ∀ k, hmh nw f l k ≤ popc l k := by
  intro k
  induction k with
  | zero => exact Nat.le_refl _
  | succ k ih => unfold hmh popc; have := bit_le (fgs nw k 6) f; split <;> omega
theorem rpopc_mono (x : Nat) : ∀ k i, popc x i ≤ popc x (i + k) := by
  intro k
  induction k with
  | zero => intro i; exact Nat.le_refl _
  | succ k ih => intro i; exact Nat.le_trans (ih i) (Nat.le_add_right _ _)
theorem rlk_le (nw : Nat → Nat) (l a c : Nat) : ∀ k, (lk nw l a c k).2 ≤ a := by
  intro k
  induction k with
  | zero => exact Nat.le_refl _
  | succ k ih =>
    unfold lk
    split
    · rename_i h; exact Nat.le_trans (Nat.le_of_lt h) ih
    · exact ih
set_option maxRecDepth 100000 in
set_option maxHeartbeats 4000000 in
theorem lp_X8_lookI {E : mE} {h : mH} {K : mKt} {ty a sd so va it mo fa : Nat} {wr : Bool} {tr : Int64} {f l all : Nat} {cb nw : Nat → Nat} (e40 : h 40 = oMo ty a sd so va wr it mo fa tr) (e42 : h 42 = mAr 2 cb) (hcb : cb 0 ≤ 4) (e47 : h 47 = mAr 33 nw) (hnf : ∀ j, j < cb 0 * 6 → nw j < 10) (hl : l < 16) (hall : all = popc l 10) (hf : f < 10) (hK : mG E (mR 3, zX8_look) K 82 [some (.ref 40), some (vN l), some (vN all), some (.int (lk nw l all (cb 0) f).1), some (vN (lk nw l all (cb 0) f).2), some (vN f), some (vN (hmh nw f l (cb 0))), some (vN (cb 0))] [] (mN, 0, 0) h) : ∀ (k i : Nat), i + k = cb 0 → mG E (mR 3, zX8_look) K 32 [some (.ref 40), some (vN l), some (vN all), some (.int (lk nw l all (cb 0) f).1), some (vN (lk nw l all (cb 0) f).2), some (vN f), some (vN (hmh nw f l i)), some (vN i)] [] (mN, 0, 0) h := by
  intro k
  induction k with
  | zero =>
    intro i hk
    refine mG_iload dX8_look_32 rfl ?_
    refine mG_aload_n dX8_look_34 rfl ?_
    refine mG_get fX8_13 dX8_look_35 e40 (Nat.le_of_ble_eq_true rfl) rfl ?_
    refine mG_iconst (v := nI 0) dX8_look_38 (by decide) ?_
    refine mG_ialdA dX8_look_39 e42 (Nat.le_of_ble_eq_true rfl) (by decide) (by omega) ?_
    refine mG_icmp_geN dX8_look_40 (by omega) (by omega) (fun c40 => ?_) (fun c40 => absurd c40 (by omega))
    obtain rfl : i = cb 0 := by omega
    exact hK
  | succ k ih =>
    intro i hk
    refine mG_iload dX8_look_32 rfl ?_
    refine mG_aload_n dX8_look_34 rfl ?_
    refine mG_get fX8_13 dX8_look_35 e40 (Nat.le_of_ble_eq_true rfl) rfl ?_
    refine mG_iconst (v := nI 0) dX8_look_38 (by decide) ?_
    refine mG_ialdA dX8_look_39 e42 (Nat.le_of_ble_eq_true rfl) (by decide) (by omega) ?_
    refine mG_icmp_geN dX8_look_40 (by omega) (by omega) (fun c40 => absurd c40 (by omega)) (fun c40 => ?_)
    refine mG_iload dX8_look_43 rfl ?_
    refine mG_iload_n dX8_look_45 rfl ?_
    refine mG_iload dX8_look_46 rfl ?_
    refine mG_cs2 sX8_145 dX8_look_48 (mLe_of rfl) (Nat.le_of_ble_eq_true rfl) (ok_X8_has (by omega) (by omega)) ?_
    refine mG_if_eqB dX8_look_51 (fun c51 => ?_) (fun c51 => ?_)
    · refine mG_iconst (v := nI 0) dX8_look_72 (by decide) ?_
      refine mG_iaddN dX8_look_73 ?_
      refine mG_istore dX8_look_74 (Nat.le_of_ble_eq_true rfl) rfl rfl ?_
      refine mG_iincN dX8_look_76 rfl (Nat.le_of_ble_eq_true rfl) rfl rfl ?_
      refine mG_goto dX8_look_79 ?_
      have q := ih (i + 1) (by omega)
      rw [hmh] at q
      first
        | (rw [if_pos (of_decide_eq_true c51), show fgs nw i 6 >>> f &&& 1 = 1 from of_decide_eq_true c65] at q; exact q)
        | (rw [if_pos (of_decide_eq_true c51), show fgs nw i 6 >>> f &&& 1 = 0 from by have := of_decide_eq_false c65; omega] at q; exact q)
        | (rw [if_neg (of_decide_eq_false c51)] at q; exact q)
    · refine mG_aload_n dX8_look_54 rfl ?_
      refine mG_iload dX8_look_55 rfl ?_
      refine mG_cv1 vX8_157 dX8_look_57 (mLe_of rfl) (Nat.le_of_ble_eq_true rfl) e40 (Nat.le_of_ble_eq_true rfl) (ok_X8_figuresOf e40 e47 (by omega) (fun j hj => hnf _ (by omega))) ?_
      refine mG_iload dX8_look_60 rfl ?_
      have h3 := fgs_lt (nf := nw) (c := i) 6 (fun j hj => hnf _ (by omega))
      have h4 := bit_le (fgs nw i 6) f
      refine mG_cs2 sX8_145 dX8_look_62 (mLe_of rfl) (Nat.le_of_ble_eq_true rfl) (ok_X8_has (by omega) (by omega)) ?_
      refine mG_if_eqB dX8_look_65 (fun c65 => ?_) (fun c65 => ?_)
      · refine mG_iconst (v := nI 0) dX8_look_72 (by decide) ?_
        refine mG_iaddN dX8_look_73 ?_
        refine mG_istore dX8_look_74 (Nat.le_of_ble_eq_true rfl) rfl rfl ?_
        refine mG_iincN dX8_look_76 rfl (Nat.le_of_ble_eq_true rfl) rfl rfl ?_
        refine mG_goto dX8_look_79 ?_
        have q := ih (i + 1) (by omega)
        rw [hmh] at q
        first
          | (rw [if_pos (of_decide_eq_true c51), show fgs nw i 6 >>> f &&& 1 = 1 from of_decide_eq_true c65] at q; exact q)
          | (rw [if_pos (of_decide_eq_true c51), show fgs nw i 6 >>> f &&& 1 = 0 from by have := of_decide_eq_false c65; omega] at q; exact q)
          | (rw [if_neg (of_decide_eq_false c51)] at q; exact q)
      · refine mG_iconst (v := nI 1) dX8_look_68 (by decide) ?_
        refine mG_goto dX8_look_69 ?_
        refine mG_iaddN dX8_look_73 ?_
        refine mG_istore dX8_look_74 (Nat.le_of_ble_eq_true rfl) rfl rfl ?_
        refine mG_iincN dX8_look_76 rfl (Nat.le_of_ble_eq_true rfl) rfl rfl ?_
        refine mG_goto dX8_look_79 ?_
        have q := ih (i + 1) (by omega)
        rw [hmh] at q
        first
          | (rw [if_pos (of_decide_eq_true c51), show fgs nw i 6 >>> f &&& 1 = 1 from of_decide_eq_true c65] at q; exact q)
          | (rw [if_pos (of_decide_eq_true c51), show fgs nw i 6 >>> f &&& 1 = 0 from by have := of_decide_eq_false c65; omega] at q; exact q)
          | (rw [if_neg (of_decide_eq_false c51)] at q; exact q)
set_option maxRecDepth 100000 in
set_option maxHeartbeats 4000000 in
theorem lp_X8_look {E : mE} {h : mH} {ty a sd so va it mo fa : Nat} {wr : Bool} {tr : Int64} {l all : Nat} {cb nw : Nat → Nat} (e40 : h 40 = oMo ty a sd so va wr it mo fa tr) (e42 : h 42 = mAr 2 cb) (hcb : cb 0 ≤ 4) (e47 : h 47 = mAr 33 nw) (hnf : ∀ j, j < cb 0 * 6 → nw j < 10) (hl : l < 16) (hall : all = popc l 10)  : ∀ (k i : Nat) (x6 x7 : Option Value), i + k = 10 → mG E (mR 3, zX8_look) (mKq E (mR 3) mN (mX (some (.int (lk nw l all (cb 0) 10).1)) h)) 19 [some (.ref 40), some (vN l), some (vN all), some (.int (lk nw l all (cb 0) i).1), some (vN (lk nw l all (cb 0) i).2), some (vN i), x6, x7] [] (mN, 0, 0) h := by
  intro k
  induction k with
  | zero =>
    intro i x6 x7 hk
    refine mG_iload dX8_look_19 rfl ?_
    refine mG_bipush (v := nI 9) dX8_look_21 (by decide) ?_
    refine mG_icmp_gtN dX8_look_23 (by omega) (by omega) (fun c23 => ?_) (fun c23 => absurd c23 (by omega))
    refine mG_iload_n dX8_look_138 rfl ?_
    exact mG_iret dX8_look_139 rfl (mX_of (by rw [show i = 10 by omega]) rfl)
  | succ k ih =>
    intro i x6 x7 hk
    refine mG_iload dX8_look_19 rfl ?_
    refine mG_bipush (v := nI 9) dX8_look_21 (by decide) ?_
    refine mG_icmp_gtN dX8_look_23 (by omega) (by omega) (fun c23 => absurd c23 (by omega)) (fun c23 => ?_)
    refine mG_iconst (v := nI 0) dX8_look_26 (by decide) ?_
    refine mG_istore dX8_look_27 (Nat.le_of_ble_eq_true rfl) rfl rfl ?_
    refine mG_iconst (v := nI 0) dX8_look_29 (by decide) ?_
    refine mG_istore dX8_look_30 (Nat.le_of_ble_eq_true rfl) rfl rfl ?_
    have hp1 := hmh_pop nw i l (cb 0)
    have hp2 := rpopc_mono l (10 - cb 0) (cb 0)
    rw [show cb 0 + (10 - cb 0) = 10 by omega, ← hall] at hp2
    have hp3 := rhmh_le nw i l (cb 0)
    have hp4 := rpopc_le l 10
    have hp5 := rlk_le nw l all (cb 0) i
    refine lp_X8_lookI e40 e42 hcb e47 hnf hl hall (by omega) ?_ (cb 0) 0 (Nat.zero_add _)
    refine mG_iload dX8_look_82 rfl ?_
    refine mG_iload_n dX8_look_84 rfl ?_
    refine mG_iload dX8_look_85 rfl ?_
    refine mG_isubN dX8_look_87 (by omega) ?_
    refine mG_icmp_leN dX8_look_88 (by omega) (by omega) (fun c88 => ?_) (fun c88 => ?_)
    · refine mG_iload_n dX8_look_96 rfl ?_
      refine mG_iload dX8_look_97 rfl ?_
      refine mG_isubN dX8_look_99 (by omega) ?_
      refine mG_istore dX8_look_100 (Nat.le_of_ble_eq_true rfl) rfl rfl ?_
      refine mG_iload dX8_look_102 rfl ?_
      refine mG_iload dX8_look_104 rfl ?_
      refine mG_icmp_geN dX8_look_106 (by omega) (by omega) (fun c106 => ?_) (fun c106 => ?_)
      · refine mG_iload_n dX8_look_114 rfl ?_
        refine mG_istore_n dX8_look_115 (Nat.le_of_ble_eq_true rfl) rfl rfl ?_
        refine mG_iload dX8_look_116 rfl ?_
        refine mG_iload dX8_look_118 rfl ?_
        refine mG_icmp_geN dX8_look_120 (by omega) (by omega) (fun c120 => ?_) (fun c120 => ?_)
        · refine mG_iload dX8_look_128 rfl ?_
          refine mG_istore dX8_look_130 (Nat.le_of_ble_eq_true rfl) rfl rfl ?_
          refine mG_iincN dX8_look_132 rfl (Nat.le_of_ble_eq_true rfl) rfl rfl ?_
          refine mG_goto dX8_look_135 ?_
          have q := ih (i + 1) (some (vN (hmh nw i l (cb 0)))) (some (vN (max (hmh nw i l (cb 0)) (all - hmh nw i l (cb 0))))) (by omega)
          have hS : lk nw l all (cb 0) (i + 1) = if max (hmh nw i l (cb 0)) (all - hmh nw i l (cb 0)) < (lk nw l all (cb 0) i).2 then (nI i, max (hmh nw i l (cb 0)) (all - hmh nw i l (cb 0))) else lk nw l all (cb 0) i := rfl
          rw [hS] at q
          first
            | (rw [Nat.max_eq_left (Nat.le_of_lt c88)] at q; (first | (rw [if_pos c106] at q; first | exact q | exact absurd c106 (Nat.not_lt.mpr c120)) | (rw [if_neg (Nat.not_lt.mpr c106)] at q; first | exact q | exact absurd c120 (Nat.not_lt.mpr c106))))
            | (rw [Nat.max_eq_right c88] at q; (first | (rw [if_pos c106] at q; first | exact q | exact absurd c106 (Nat.not_lt.mpr c120)) | (rw [if_neg (Nat.not_lt.mpr c106)] at q; first | exact q | exact absurd c120 (Nat.not_lt.mpr c106))))
        · refine mG_iload dX8_look_123 rfl ?_
          refine mG_goto dX8_look_125 ?_
          refine mG_istore dX8_look_130 (Nat.le_of_ble_eq_true rfl) rfl rfl ?_
          refine mG_iincN dX8_look_132 rfl (Nat.le_of_ble_eq_true rfl) rfl rfl ?_
          refine mG_goto dX8_look_135 ?_
          have q := ih (i + 1) (some (vN (hmh nw i l (cb 0)))) (some (vN (max (hmh nw i l (cb 0)) (all - hmh nw i l (cb 0))))) (by omega)
          have hS : lk nw l all (cb 0) (i + 1) = if max (hmh nw i l (cb 0)) (all - hmh nw i l (cb 0)) < (lk nw l all (cb 0) i).2 then (nI i, max (hmh nw i l (cb 0)) (all - hmh nw i l (cb 0))) else lk nw l all (cb 0) i := rfl
          rw [hS] at q
          first
            | (rw [Nat.max_eq_left (Nat.le_of_lt c88)] at q; (first | (rw [if_pos c106] at q; first | exact q | exact absurd c106 (Nat.not_lt.mpr c120)) | (rw [if_neg (Nat.not_lt.mpr c106)] at q; first | exact q | exact absurd c120 (Nat.not_lt.mpr c106))))
            | (rw [Nat.max_eq_right c88] at q; (first | (rw [if_pos c106] at q; first | exact q | exact absurd c106 (Nat.not_lt.mpr c120)) | (rw [if_neg (Nat.not_lt.mpr c106)] at q; first | exact q | exact absurd c120 (Nat.not_lt.mpr c106))))
      · refine mG_iload dX8_look_109 rfl ?_
        refine mG_goto dX8_look_111 ?_
        refine mG_istore_n dX8_look_115 (Nat.le_of_ble_eq_true rfl) rfl rfl ?_
        refine mG_iload dX8_look_116 rfl ?_
        refine mG_iload dX8_look_118 rfl ?_
        refine mG_icmp_geN dX8_look_120 (by omega) (by omega) (fun c120 => ?_) (fun c120 => ?_)
        · refine mG_iload dX8_look_128 rfl ?_
          refine mG_istore dX8_look_130 (Nat.le_of_ble_eq_true rfl) rfl rfl ?_
          refine mG_iincN dX8_look_132 rfl (Nat.le_of_ble_eq_true rfl) rfl rfl ?_
          refine mG_goto dX8_look_135 ?_
          have q := ih (i + 1) (some (vN (hmh nw i l (cb 0)))) (some (vN (max (hmh nw i l (cb 0)) (all - hmh nw i l (cb 0))))) (by omega)
          have hS : lk nw l all (cb 0) (i + 1) = if max (hmh nw i l (cb 0)) (all - hmh nw i l (cb 0)) < (lk nw l all (cb 0) i).2 then (nI i, max (hmh nw i l (cb 0)) (all - hmh nw i l (cb 0))) else lk nw l all (cb 0) i := rfl
          rw [hS] at q
          first
            | (rw [Nat.max_eq_left (Nat.le_of_lt c88)] at q; (first | (rw [if_pos c106] at q; first | exact q | exact absurd c106 (Nat.not_lt.mpr c120)) | (rw [if_neg (Nat.not_lt.mpr c106)] at q; first | exact q | exact absurd c120 (Nat.not_lt.mpr c106))))
            | (rw [Nat.max_eq_right c88] at q; (first | (rw [if_pos c106] at q; first | exact q | exact absurd c106 (Nat.not_lt.mpr c120)) | (rw [if_neg (Nat.not_lt.mpr c106)] at q; first | exact q | exact absurd c120 (Nat.not_lt.mpr c106))))
        · refine mG_iload dX8_look_123 rfl ?_
          refine mG_goto dX8_look_125 ?_
          refine mG_istore dX8_look_130 (Nat.le_of_ble_eq_true rfl) rfl rfl ?_
          refine mG_iincN dX8_look_132 rfl (Nat.le_of_ble_eq_true rfl) rfl rfl ?_
          refine mG_goto dX8_look_135 ?_
          have q := ih (i + 1) (some (vN (hmh nw i l (cb 0)))) (some (vN (max (hmh nw i l (cb 0)) (all - hmh nw i l (cb 0))))) (by omega)
          have hS : lk nw l all (cb 0) (i + 1) = if max (hmh nw i l (cb 0)) (all - hmh nw i l (cb 0)) < (lk nw l all (cb 0) i).2 then (nI i, max (hmh nw i l (cb 0)) (all - hmh nw i l (cb 0))) else lk nw l all (cb 0) i := rfl
          rw [hS] at q
          first
            | (rw [Nat.max_eq_left (Nat.le_of_lt c88)] at q; (first | (rw [if_pos c106] at q; first | exact q | exact absurd c106 (Nat.not_lt.mpr c120)) | (rw [if_neg (Nat.not_lt.mpr c106)] at q; first | exact q | exact absurd c120 (Nat.not_lt.mpr c106))))
            | (rw [Nat.max_eq_right c88] at q; (first | (rw [if_pos c106] at q; first | exact q | exact absurd c106 (Nat.not_lt.mpr c120)) | (rw [if_neg (Nat.not_lt.mpr c106)] at q; first | exact q | exact absurd c120 (Nat.not_lt.mpr c106))))
    · refine mG_iload dX8_look_91 rfl ?_
      refine mG_goto dX8_look_93 ?_
      refine mG_istore dX8_look_100 (Nat.le_of_ble_eq_true rfl) rfl rfl ?_
      refine mG_iload dX8_look_102 rfl ?_
      refine mG_iload dX8_look_104 rfl ?_
      refine mG_icmp_geN dX8_look_106 (by omega) (by omega) (fun c106 => ?_) (fun c106 => ?_)
      · refine mG_iload_n dX8_look_114 rfl ?_
        refine mG_istore_n dX8_look_115 (Nat.le_of_ble_eq_true rfl) rfl rfl ?_
        refine mG_iload dX8_look_116 rfl ?_
        refine mG_iload dX8_look_118 rfl ?_
        refine mG_icmp_geN dX8_look_120 (by omega) (by omega) (fun c120 => ?_) (fun c120 => ?_)
        · refine mG_iload dX8_look_128 rfl ?_
          refine mG_istore dX8_look_130 (Nat.le_of_ble_eq_true rfl) rfl rfl ?_
          refine mG_iincN dX8_look_132 rfl (Nat.le_of_ble_eq_true rfl) rfl rfl ?_
          refine mG_goto dX8_look_135 ?_
          have q := ih (i + 1) (some (vN (hmh nw i l (cb 0)))) (some (vN (max (hmh nw i l (cb 0)) (all - hmh nw i l (cb 0))))) (by omega)
          have hS : lk nw l all (cb 0) (i + 1) = if max (hmh nw i l (cb 0)) (all - hmh nw i l (cb 0)) < (lk nw l all (cb 0) i).2 then (nI i, max (hmh nw i l (cb 0)) (all - hmh nw i l (cb 0))) else lk nw l all (cb 0) i := rfl
          rw [hS] at q
          first
            | (rw [Nat.max_eq_left (Nat.le_of_lt c88)] at q; (first | (rw [if_pos c106] at q; first | exact q | exact absurd c106 (Nat.not_lt.mpr c120)) | (rw [if_neg (Nat.not_lt.mpr c106)] at q; first | exact q | exact absurd c120 (Nat.not_lt.mpr c106))))
            | (rw [Nat.max_eq_right c88] at q; (first | (rw [if_pos c106] at q; first | exact q | exact absurd c106 (Nat.not_lt.mpr c120)) | (rw [if_neg (Nat.not_lt.mpr c106)] at q; first | exact q | exact absurd c120 (Nat.not_lt.mpr c106))))
        · refine mG_iload dX8_look_123 rfl ?_
          refine mG_goto dX8_look_125 ?_
          refine mG_istore dX8_look_130 (Nat.le_of_ble_eq_true rfl) rfl rfl ?_
          refine mG_iincN dX8_look_132 rfl (Nat.le_of_ble_eq_true rfl) rfl rfl ?_
          refine mG_goto dX8_look_135 ?_
          have q := ih (i + 1) (some (vN (hmh nw i l (cb 0)))) (some (vN (max (hmh nw i l (cb 0)) (all - hmh nw i l (cb 0))))) (by omega)
          have hS : lk nw l all (cb 0) (i + 1) = if max (hmh nw i l (cb 0)) (all - hmh nw i l (cb 0)) < (lk nw l all (cb 0) i).2 then (nI i, max (hmh nw i l (cb 0)) (all - hmh nw i l (cb 0))) else lk nw l all (cb 0) i := rfl
          rw [hS] at q
          first
            | (rw [Nat.max_eq_left (Nat.le_of_lt c88)] at q; (first | (rw [if_pos c106] at q; first | exact q | exact absurd c106 (Nat.not_lt.mpr c120)) | (rw [if_neg (Nat.not_lt.mpr c106)] at q; first | exact q | exact absurd c120 (Nat.not_lt.mpr c106))))
            | (rw [Nat.max_eq_right c88] at q; (first | (rw [if_pos c106] at q; first | exact q | exact absurd c106 (Nat.not_lt.mpr c120)) | (rw [if_neg (Nat.not_lt.mpr c106)] at q; first | exact q | exact absurd c120 (Nat.not_lt.mpr c106))))
      · refine mG_iload dX8_look_109 rfl ?_
        refine mG_goto dX8_look_111 ?_
        refine mG_istore_n dX8_look_115 (Nat.le_of_ble_eq_true rfl) rfl rfl ?_
        refine mG_iload dX8_look_116 rfl ?_
        refine mG_iload dX8_look_118 rfl ?_
        refine mG_icmp_geN dX8_look_120 (by omega) (by omega) (fun c120 => ?_) (fun c120 => ?_)
        · refine mG_iload dX8_look_128 rfl ?_
          refine mG_istore dX8_look_130 (Nat.le_of_ble_eq_true rfl) rfl rfl ?_
          refine mG_iincN dX8_look_132 rfl (Nat.le_of_ble_eq_true rfl) rfl rfl ?_
          refine mG_goto dX8_look_135 ?_
          have q := ih (i + 1) (some (vN (hmh nw i l (cb 0)))) (some (vN (max (hmh nw i l (cb 0)) (all - hmh nw i l (cb 0))))) (by omega)
          have hS : lk nw l all (cb 0) (i + 1) = if max (hmh nw i l (cb 0)) (all - hmh nw i l (cb 0)) < (lk nw l all (cb 0) i).2 then (nI i, max (hmh nw i l (cb 0)) (all - hmh nw i l (cb 0))) else lk nw l all (cb 0) i := rfl
          rw [hS] at q
          first
            | (rw [Nat.max_eq_left (Nat.le_of_lt c88)] at q; (first | (rw [if_pos c106] at q; first | exact q | exact absurd c106 (Nat.not_lt.mpr c120)) | (rw [if_neg (Nat.not_lt.mpr c106)] at q; first | exact q | exact absurd c120 (Nat.not_lt.mpr c106))))
            | (rw [Nat.max_eq_right c88] at q; (first | (rw [if_pos c106] at q; first | exact q | exact absurd c106 (Nat.not_lt.mpr c120)) | (rw [if_neg (Nat.not_lt.mpr c106)] at q; first | exact q | exact absurd c120 (Nat.not_lt.mpr c106))))
        · refine mG_iload dX8_look_123 rfl ?_
          refine mG_goto dX8_look_125 ?_
          refine mG_istore dX8_look_130 (Nat.le_of_ble_eq_true rfl) rfl rfl ?_
          refine mG_iincN dX8_look_132 rfl (Nat.le_of_ble_eq_true rfl) rfl rfl ?_
          refine mG_goto dX8_look_135 ?_
          have q := ih (i + 1) (some (vN (hmh nw i l (cb 0)))) (some (vN (max (hmh nw i l (cb 0)) (all - hmh nw i l (cb 0))))) (by omega)
          have hS : lk nw l all (cb 0) (i + 1) = if max (hmh nw i l (cb 0)) (all - hmh nw i l (cb 0)) < (lk nw l all (cb 0) i).2 then (nI i, max (hmh nw i l (cb 0)) (all - hmh nw i l (cb 0))) else lk nw l all (cb 0) i := rfl
          rw [hS] at q
          first
            | (rw [Nat.max_eq_left (Nat.le_of_lt c88)] at q; (first | (rw [if_pos c106] at q; first | exact q | exact absurd c106 (Nat.not_lt.mpr c120)) | (rw [if_neg (Nat.not_lt.mpr c106)] at q; first | exact q | exact absurd c120 (Nat.not_lt.mpr c106))))
            | (rw [Nat.max_eq_right c88] at q; (first | (rw [if_pos c106] at q; first | exact q | exact absurd c106 (Nat.not_lt.mpr c120)) | (rw [if_neg (Nat.not_lt.mpr c106)] at q; first | exact q | exact absurd c120 (Nat.not_lt.mpr c106))))
set_option maxRecDepth 100000 in
set_option maxHeartbeats 4000000 in
theorem ok_X8_look {E : mE} {h : mH} {ty a sd so va it mo fa : Nat} {wr : Bool} {tr : Int64} {cb nw fo fi : Nat → Nat} (e40 : h 40 = oMo ty a sd so va wr it mo fa tr) (e42 : h 42 = mAr 2 cb) (hcb : cb 0 ≤ 4) (e47 : h 47 = mAr 33 nw) (hnf : ∀ j, j < cb 0 * 6 → nw j < 10) (e54 : h 54 = mAr 6 fo) (hfo : ∀ j, j < fa → fo j < 10) (e55 : h 55 = mAr 6 fi) (hfi : ∀ j, j < fa → fi j < 2) (hfa : fa ≤ 6)  : mOk E 3 zX8_look [.ref 40] h (mX (some (.int (lk nw (whR nw fo fi fa (cb 0)) (popc (whR nw fo fi fa (cb 0)) 10) (cb 0) 10).1)) h) := by
  have hwl := ddG_lt (fun c => alB (seB nw fo fi c) fa) (cb 0)
  have hw2 : 2 ^ cb 0 ≤ 2 ^ 4 := Nat.pow_le_pow_right (by decide) hcb
  have hw3 : whR nw fo fi fa (cb 0) < 16 := Nat.lt_of_lt_of_le hwl hw2
  refine mOk_w (L := [some (.ref 40), none, none, none, none, none, none, none]) pn_X8 rfl (Nat.le_of_ble_eq_true rfl) rfl ?_
  refine mG_aload_n dX8_look_0 rfl ?_
  refine mG_cv0 vX8_218 dX8_look_1 (mLe_of rfl) (Nat.le_of_ble_eq_true rfl) e40 (Nat.le_of_ble_eq_true rfl) (ok_X8_which e40 e42 hcb e47 hnf e54 hfo e55 hfi hfa) ?_
  refine mG_istore_n dX8_look_4 (Nat.le_of_ble_eq_true rfl) rfl rfl ?_
  refine mG_iload_n dX8_look_5 rfl ?_
  refine mG_cs1 sX8_221 dX8_look_6 (mLe_of rfl) (Nat.le_of_ble_eq_true rfl) (ok_X8_bits (by omega)) ?_
  refine mG_istore_n dX8_look_9 (Nat.le_of_ble_eq_true rfl) rfl rfl ?_
  refine mG_bipush (v := (-9)) dX8_look_10 (by decide) ?_
  refine mG_istore_n dX8_look_12 (Nat.le_of_ble_eq_true rfl) rfl rfl ?_
  refine mG_iload_n dX8_look_13 rfl ?_
  refine mG_istore dX8_look_14 (Nat.le_of_ble_eq_true rfl) rfl rfl ?_
  refine mG_iconst (v := nI 0) dX8_look_16 (by decide) ?_
  refine mG_istore dX8_look_17 (Nat.le_of_ble_eq_true rfl) rfl rfl ?_
  exact lp_X8_look e40 e42 hcb e47 hnf hw3 rfl 10 0 _ _ rfl
theorem gcd_st (a b : Nat) : Nat.gcd a b = Nat.gcd b (a % b) := by
  rw [Nat.gcd_comm a b, Nat.gcd_rec b a, Nat.gcd_comm]
set_option maxRecDepth 100000 in
set_option maxHeartbeats 4000000 in
theorem lp_X8_gcd0 {E : mE} {h : mH} {n u d : Nat} (hu : u ≤ 1296) (hd : d ≤ 1296) (hd0 : 0 < d) : ∀ (k a b : Nat) (x7 : Option Value), b ≤ k → a ≤ 1296 → b ≤ 1296 → Nat.gcd a b = Nat.gcd u d → mG E (mR 4, zX8_odds) (mKq E (mR 4) mN (mX (some (vN (u / Nat.gcd u d))) h)) 91 [some (.ref 40), some (vN n), some (vN 0), some (vN d), some (vN u), some (vN a), some (vN b), x7] [] (mN, 0, 0) h := by
  intro k
  induction k with
  | zero =>
    intro a b x7 hk ha hb hG
    refine mG_iload dX8_odds_91 rfl ?_
    refine mG_if_eqN dX8_odds_93 (by omega) (fun c93 => ?_) (fun c93 => absurd c93 (by omega))
    refine mG_iload_n dX8_odds_114 rfl ?_
    refine mG_if_neN dX8_odds_115 (by omega) (fun c115 => absurd c115 (by decide)) (fun c115 => ?_)
    refine mG_iload dX8_odds_118 rfl ?_
    refine mG_iload dX8_odds_120 rfl ?_
    obtain rfl : b = 0 := by omega
    rw [Nat.gcd_zero_right] at hG
    have hgp := Nat.gcd_pos_of_pos_right u hd0
    refine mG_idivN dX8_odds_122 (by omega) (by omega) (by omega) ?_
    refine mG_goto dX8_odds_123 ?_
    exact mG_iret dX8_odds_130 rfl (mX_of (by rw [hG]) rfl)
  | succ k ih =>
    intro a b x7 hk ha hb hG
    refine mG_iload dX8_odds_91 rfl ?_
    refine mG_if_eqN dX8_odds_93 (by omega) (fun c93 => ?_) (fun c93 => ?_)
    · refine mG_iload_n dX8_odds_114 rfl ?_
      refine mG_if_neN dX8_odds_115 (by omega) (fun c115 => absurd c115 (by decide)) (fun c115 => ?_)
      refine mG_iload dX8_odds_118 rfl ?_
      refine mG_iload dX8_odds_120 rfl ?_
      subst c93
      rw [Nat.gcd_zero_right] at hG
      have hgp := Nat.gcd_pos_of_pos_right u hd0
      refine mG_idivN dX8_odds_122 (by omega) (by omega) (by omega) ?_
      refine mG_goto dX8_odds_123 ?_
      exact mG_iret dX8_odds_130 rfl (mX_of (by rw [hG]) rfl)
    · refine mG_iload dX8_odds_96 rfl ?_
      refine mG_iload dX8_odds_98 rfl ?_
      refine mG_iremN dX8_odds_100 (by omega) (by omega) (by omega) ?_
      refine mG_istore dX8_odds_101 (Nat.le_of_ble_eq_true rfl) rfl rfl ?_
      refine mG_iload dX8_odds_103 rfl ?_
      refine mG_istore dX8_odds_105 (Nat.le_of_ble_eq_true rfl) rfl rfl ?_
      refine mG_iload dX8_odds_107 rfl ?_
      refine mG_istore dX8_odds_109 (Nat.le_of_ble_eq_true rfl) rfl rfl ?_
      refine mG_goto dX8_odds_111 ?_
      have hml := Nat.mod_lt a (show 0 < b by omega)
      exact ih b (a % b) _ (by omega) (by omega) (by omega) (by rw [← hG, gcd_st a b])
set_option maxRecDepth 100000 in
set_option maxHeartbeats 4000000 in
theorem lp_X8_od2_0 {E : mE} {h : mH} {ty a sd so va it mo fa : Nat} {wr : Bool} {tr : Int64} {n : Nat} {bb cb nw od : Nat → Nat} (e40 : h 40 = oMo ty a sd so va wr it mo fa tr) (e42 : h 42 = mAr 2 cb) (hcb : cb 0 ≤ 4) (e44 : h 44 = mAr 2 bb) (hbb : bb 0 ≤ 1) (e47 : h 47 = mAr 33 nw) (e53 : h 53 = mAr 24 od) (ho : oOK (cb 0) mo od) (hnf : ∀ j, j < cb 0 * 6 → nw j < 10) (hn : n < 2 ^ 31) (h6 : 6 ^ cb 0 ≤ 1296) (h60 : 0 < 6 ^ cb 0) : ∀ (k i : Nat), i + k = 6 ^ cb 0 → smG (fun s => (byR nw (decide (bb 0 = 1)) (cb 0) mo od s n).toNat) i ≤ i → mG E (mR 4, zX8_odds) (mKq E (mR 4) mN (mX (some (vN ((smG (fun s => (byR nw (decide (bb 0 = 1)) (cb 0) mo od s n).toNat) (6 ^ cb 0)) / Nat.gcd (smG (fun s => (byR nw (decide (bb 0 = 1)) (cb 0) mo od s n).toNat) (6 ^ cb 0)) (6 ^ cb 0)))) h)) 52 [some (.ref 40), some (vN n), some (vN 0), some (vN (6 ^ cb 0)), some (vN (smG (fun s => (byR nw (decide (bb 0 = 1)) (cb 0) mo od s n).toNat) i)), some (vN i), none, none] [] (mN, 0, 0) h := by
  intro k
  induction k with
  | zero =>
    intro i hk hs
    refine mG_iload dX8_odds_52 rfl ?_
    refine mG_iload_n dX8_odds_54 rfl ?_
    refine mG_icmp_geN dX8_odds_55 (by omega) (by omega) (fun c55 => ?_) (fun c55 => absurd c55 (by omega))
    refine mG_iload dX8_odds_84 rfl ?_
    refine mG_istore dX8_odds_86 (Nat.le_of_ble_eq_true rfl) rfl rfl ?_
    refine mG_iload_n dX8_odds_88 rfl ?_
    refine mG_istore dX8_odds_89 (Nat.le_of_ble_eq_true rfl) rfl rfl ?_
    obtain rfl : i = 6 ^ cb 0 := by omega
    exact lp_X8_gcd0 (by omega) h6 h60 (6 ^ cb 0) _ _ _ (Nat.le_refl _) (by omega) h6 rfl
  | succ k ih =>
    intro i hk hs
    refine mG_iload dX8_odds_52 rfl ?_
    refine mG_iload_n dX8_odds_54 rfl ?_
    refine mG_icmp_geN dX8_odds_55 (by omega) (by omega) (fun c55 => absurd c55 (by omega)) (fun c55 => ?_)
    refine mG_iload dX8_odds_58 rfl ?_
    refine mG_aload_n dX8_odds_60 rfl ?_
    refine mG_iload dX8_odds_61 rfl ?_
    refine mG_iload_n dX8_odds_63 rfl ?_
    refine mG_cv2 vX8_215 dX8_odds_64 (mLe_of rfl) (Nat.le_of_ble_eq_true rfl) e40 (Nat.le_of_ble_eq_true rfl) (ok_X8_isBy e40 e42 hcb e44 hbb e47 e53 ho hnf hn (by omega)) ?_
    refine mG_if_eqB dX8_odds_67 (fun c67 => ?_) (fun c67 => ?_)
    · refine mG_iconst (v := nI 0) dX8_odds_74 (by decide) ?_
      refine mG_iaddN dX8_odds_75 ?_
      refine mG_istore dX8_odds_76 (Nat.le_of_ble_eq_true rfl) rfl rfl ?_
      refine mG_iincN dX8_odds_78 rfl (Nat.le_of_ble_eq_true rfl) rfl rfl ?_
      refine mG_goto dX8_odds_81 ?_
      have q := ih (i + 1) (by omega)
      rw [smG] at q
      first
        | (rw [c67] at q; exact q (by show _ + 1 ≤ _; omega))
        | (rw [c67] at q; exact q (by show _ + 0 ≤ _; omega))
    · refine mG_iconst (v := nI 1) dX8_odds_70 (by decide) ?_
      refine mG_goto dX8_odds_71 ?_
      refine mG_iaddN dX8_odds_75 ?_
      refine mG_istore dX8_odds_76 (Nat.le_of_ble_eq_true rfl) rfl rfl ?_
      refine mG_iincN dX8_odds_78 rfl (Nat.le_of_ble_eq_true rfl) rfl rfl ?_
      refine mG_goto dX8_odds_81 ?_
      have q := ih (i + 1) (by omega)
      rw [smG] at q
      first
        | (rw [c67] at q; exact q (by show _ + 1 ≤ _; omega))
        | (rw [c67] at q; exact q (by show _ + 0 ≤ _; omega))
set_option maxRecDepth 100000 in
set_option maxHeartbeats 4000000 in
theorem lp_X8_od1_0 {E : mE} {h : mH} {ty a sd so va it mo fa : Nat} {wr : Bool} {tr : Int64} {n : Nat} {bb cb nw od : Nat → Nat} (e40 : h 40 = oMo ty a sd so va wr it mo fa tr) (e42 : h 42 = mAr 2 cb) (hcb : cb 0 ≤ 4) (e44 : h 44 = mAr 2 bb) (hbb : bb 0 ≤ 1) (e47 : h 47 = mAr 33 nw) (e53 : h 53 = mAr 24 od) (ho : oOK (cb 0) mo od) (hnf : ∀ j, j < cb 0 * 6 → nw j < 10) (hn : n < 2 ^ 31) (h6 : 6 ^ cb 0 ≤ 1296) (h60 : 0 < 6 ^ cb 0) : ∀ (k i : Nat), i + k = cb 0 → mG E (mR 4, zX8_odds) (mKq E (mR 4) mN (mX (some (vN ((smG (fun s => (byR nw (decide (bb 0 = 1)) (cb 0) mo od s n).toNat) (6 ^ cb 0)) / Nat.gcd (smG (fun s => (byR nw (decide (bb 0 = 1)) (cb 0) mo od s n).toNat) (6 ^ cb 0)) (6 ^ cb 0)))) h)) 24 [some (.ref 40), some (vN n), some (vN 0), some (vN (6 ^ i)), some (vN i), none, none, none] [] (mN, 0, 0) h := by
  intro k
  induction k with
  | zero =>
    intro i hk
    refine mG_iload dX8_odds_24 rfl ?_
    refine mG_aload_n dX8_odds_26 rfl ?_
    refine mG_get fX8_13 dX8_odds_27 e40 (Nat.le_of_ble_eq_true rfl) rfl ?_
    refine mG_iconst (v := nI 0) dX8_odds_30 (by decide) ?_
    refine mG_ialdA dX8_odds_31 e42 (Nat.le_of_ble_eq_true rfl) (by decide) (by omega) ?_
    refine mG_icmp_geN dX8_odds_32 (by omega) (by omega) (fun c32 => ?_) (fun c32 => absurd c32 (by omega))
    refine mG_iconst (v := nI 0) dX8_odds_46 (by decide) ?_
    refine mG_istore dX8_odds_47 (Nat.le_of_ble_eq_true rfl) rfl rfl ?_
    refine mG_iconst (v := nI 0) dX8_odds_49 (by decide) ?_
    refine mG_istore dX8_odds_50 (Nat.le_of_ble_eq_true rfl) rfl rfl ?_
    obtain rfl : i = cb 0 := by omega
    exact lp_X8_od2_0 e40 e42 hcb e44 hbb e47 e53 ho hnf hn h6 h60 (6 ^ cb 0) 0 (Nat.zero_add _) (Nat.le_refl _)
  | succ k ih =>
    intro i hk
    refine mG_iload dX8_odds_24 rfl ?_
    refine mG_aload_n dX8_odds_26 rfl ?_
    refine mG_get fX8_13 dX8_odds_27 e40 (Nat.le_of_ble_eq_true rfl) rfl ?_
    refine mG_iconst (v := nI 0) dX8_odds_30 (by decide) ?_
    refine mG_ialdA dX8_odds_31 e42 (Nat.le_of_ble_eq_true rfl) (by decide) (by omega) ?_
    refine mG_icmp_geN dX8_odds_32 (by omega) (by omega) (fun c32 => absurd c32 (by omega)) (fun c32 => ?_)
    refine mG_iload_n dX8_odds_35 rfl ?_
    refine mG_bipush (v := nI 6) dX8_odds_36 (by decide) ?_
    refine mG_imulN dX8_odds_38 ?_
    refine mG_istore_n dX8_odds_39 (Nat.le_of_ble_eq_true rfl) rfl rfl ?_
    refine mG_iincN dX8_odds_40 rfl (Nat.le_of_ble_eq_true rfl) rfl rfl ?_
    refine mG_goto dX8_odds_43 ?_
    have q := ih (i + 1) (by omega)
    rw [Nat.pow_succ] at q
    exact q
set_option maxRecDepth 100000 in
set_option maxHeartbeats 4000000 in
theorem ok_X8_odds_0 {E : mE} {h : mH} {ty a sd so va it mo fa : Nat} {wr : Bool} {tr : Int64} {n : Nat} {bb cb nw od : Nat → Nat} (e40 : h 40 = oMo ty a sd so va wr it mo fa tr) (e42 : h 42 = mAr 2 cb) (hcb : cb 0 ≤ 4) (e44 : h 44 = mAr 2 bb) (hbb : bb 0 ≤ 1) (e47 : h 47 = mAr 33 nw) (e53 : h 53 = mAr 24 od) (ho : oOK (cb 0) mo od) (hnf : ∀ j, j < cb 0 * 6 → nw j < 10) (hn : n < 10 ^ cb 0) : mOk E 4 zX8_odds [.ref 40, vN n, vN 0] h (mX (some (vN ((smG (fun s => (byR nw (decide (bb 0 = 1)) (cb 0) mo od s n).toNat) (6 ^ cb 0)) / Nat.gcd (smG (fun s => (byR nw (decide (bb 0 = 1)) (cb 0) mo od s n).toNat) (6 ^ cb 0)) (6 ^ cb 0)))) h) := by
  have h10 := ten_le hcb
  have h6 : 6 ^ cb 0 ≤ 6 ^ 4 := Nat.pow_le_pow_right (by decide) hcb
  have h60 : 0 < 6 ^ cb 0 := Nat.pow_pos (by decide)
  have qn := isIx_nI (show 10 ^ cb 0 < 2 ^ 31 by omega) hn
  refine mOk_w (L := [some (.ref 40), some (vN n), some (vN 0), none, none, none, none, none]) pn_X8 rfl (Nat.le_of_ble_eq_true rfl) rfl ?_
  refine mG_aload_n dX8_odds_0 rfl ?_
  refine mG_iload_n dX8_odds_1 rfl ?_
  refine mG_cv1 vX8_203 dX8_odds_2 (mLe_of rfl) (Nat.le_of_ble_eq_true rfl) e40 (Nat.le_of_ble_eq_true rfl) (ok_X8_isNumber e40 e42 hcb) ?_
  refine mG_if_eqB dX8_odds_5 (fun c5 => Bool.noConfusion (c5.symm.trans qn)) (fun c5 => ?_)
  refine mG_iload_n dX8_odds_8 rfl ?_
  refine mG_iconst (v := nI 0) dX8_odds_9 (by decide) ?_
  refine mG_iconst (v := nI 1) dX8_odds_10 (by decide) ?_
  refine mG_cs3 sX8_63 dX8_odds_11 (mLe_of rfl) (Nat.le_of_ble_eq_true rfl) (ok_X8_in) ?_
  refine mG_if_neB dX8_odds_14 (fun c14 => ?_) (fun c14 => absurd c14 (by decide))
  refine mG_iconst (v := nI 1) dX8_odds_19 (by decide) ?_
  refine mG_istore_n dX8_odds_20 (Nat.le_of_ble_eq_true rfl) rfl rfl ?_
  refine mG_iconst (v := nI 0) dX8_odds_21 (by decide) ?_
  refine mG_istore dX8_odds_22 (Nat.le_of_ble_eq_true rfl) rfl rfl ?_
  exact lp_X8_od1_0 e40 e42 hcb e44 hbb e47 e53 ho hnf (by omega) h6 h60 (cb 0) 0 (Nat.zero_add _)
set_option maxRecDepth 100000 in
set_option maxHeartbeats 4000000 in
theorem lp_X8_gcd1 {E : mE} {h : mH} {n u d : Nat} (hu : u ≤ 1296) (hd : d ≤ 1296) (hd0 : 0 < d) : ∀ (k a b : Nat) (x7 : Option Value), b ≤ k → a ≤ 1296 → b ≤ 1296 → Nat.gcd a b = Nat.gcd u d → mG E (mR 4, zX8_odds) (mKq E (mR 4) mN (mX (some (vN (d / Nat.gcd u d))) h)) 91 [some (.ref 40), some (vN n), some (vN 1), some (vN d), some (vN u), some (vN a), some (vN b), x7] [] (mN, 0, 0) h := by
  intro k
  induction k with
  | zero =>
    intro a b x7 hk ha hb hG
    refine mG_iload dX8_odds_91 rfl ?_
    refine mG_if_eqN dX8_odds_93 (by omega) (fun c93 => ?_) (fun c93 => absurd c93 (by omega))
    refine mG_iload_n dX8_odds_114 rfl ?_
    refine mG_if_neN dX8_odds_115 (by omega) (fun c115 => ?_) (fun c115 => absurd c115 (by decide))
    refine mG_iload_n dX8_odds_126 rfl ?_
    refine mG_iload dX8_odds_127 rfl ?_
    obtain rfl : b = 0 := by omega
    rw [Nat.gcd_zero_right] at hG
    have hgp := Nat.gcd_pos_of_pos_right u hd0
    refine mG_idivN dX8_odds_129 (by omega) (by omega) (by omega) ?_
    exact mG_iret dX8_odds_130 rfl (mX_of (by rw [hG]) rfl)
  | succ k ih =>
    intro a b x7 hk ha hb hG
    refine mG_iload dX8_odds_91 rfl ?_
    refine mG_if_eqN dX8_odds_93 (by omega) (fun c93 => ?_) (fun c93 => ?_)
    · refine mG_iload_n dX8_odds_114 rfl ?_
      refine mG_if_neN dX8_odds_115 (by omega) (fun c115 => ?_) (fun c115 => absurd c115 (by decide))
      refine mG_iload_n dX8_odds_126 rfl ?_
      refine mG_iload dX8_odds_127 rfl ?_
      subst c93
      rw [Nat.gcd_zero_right] at hG
      have hgp := Nat.gcd_pos_of_pos_right u hd0
      refine mG_idivN dX8_odds_129 (by omega) (by omega) (by omega) ?_
      exact mG_iret dX8_odds_130 rfl (mX_of (by rw [hG]) rfl)
    · refine mG_iload dX8_odds_96 rfl ?_
      refine mG_iload dX8_odds_98 rfl ?_
      refine mG_iremN dX8_odds_100 (by omega) (by omega) (by omega) ?_
      refine mG_istore dX8_odds_101 (Nat.le_of_ble_eq_true rfl) rfl rfl ?_
      refine mG_iload dX8_odds_103 rfl ?_
      refine mG_istore dX8_odds_105 (Nat.le_of_ble_eq_true rfl) rfl rfl ?_
      refine mG_iload dX8_odds_107 rfl ?_
      refine mG_istore dX8_odds_109 (Nat.le_of_ble_eq_true rfl) rfl rfl ?_
      refine mG_goto dX8_odds_111 ?_
      have hml := Nat.mod_lt a (show 0 < b by omega)
      exact ih b (a % b) _ (by omega) (by omega) (by omega) (by rw [← hG, gcd_st a b])
set_option maxRecDepth 100000 in
set_option maxHeartbeats 4000000 in
theorem lp_X8_od2_1 {E : mE} {h : mH} {ty a sd so va it mo fa : Nat} {wr : Bool} {tr : Int64} {n : Nat} {bb cb nw od : Nat → Nat} (e40 : h 40 = oMo ty a sd so va wr it mo fa tr) (e42 : h 42 = mAr 2 cb) (hcb : cb 0 ≤ 4) (e44 : h 44 = mAr 2 bb) (hbb : bb 0 ≤ 1) (e47 : h 47 = mAr 33 nw) (e53 : h 53 = mAr 24 od) (ho : oOK (cb 0) mo od) (hnf : ∀ j, j < cb 0 * 6 → nw j < 10) (hn : n < 2 ^ 31) (h6 : 6 ^ cb 0 ≤ 1296) (h60 : 0 < 6 ^ cb 0) : ∀ (k i : Nat), i + k = 6 ^ cb 0 → smG (fun s => (byR nw (decide (bb 0 = 1)) (cb 0) mo od s n).toNat) i ≤ i → mG E (mR 4, zX8_odds) (mKq E (mR 4) mN (mX (some (vN (6 ^ cb 0 / Nat.gcd (smG (fun s => (byR nw (decide (bb 0 = 1)) (cb 0) mo od s n).toNat) (6 ^ cb 0)) (6 ^ cb 0)))) h)) 52 [some (.ref 40), some (vN n), some (vN 1), some (vN (6 ^ cb 0)), some (vN (smG (fun s => (byR nw (decide (bb 0 = 1)) (cb 0) mo od s n).toNat) i)), some (vN i), none, none] [] (mN, 0, 0) h := by
  intro k
  induction k with
  | zero =>
    intro i hk hs
    refine mG_iload dX8_odds_52 rfl ?_
    refine mG_iload_n dX8_odds_54 rfl ?_
    refine mG_icmp_geN dX8_odds_55 (by omega) (by omega) (fun c55 => ?_) (fun c55 => absurd c55 (by omega))
    refine mG_iload dX8_odds_84 rfl ?_
    refine mG_istore dX8_odds_86 (Nat.le_of_ble_eq_true rfl) rfl rfl ?_
    refine mG_iload_n dX8_odds_88 rfl ?_
    refine mG_istore dX8_odds_89 (Nat.le_of_ble_eq_true rfl) rfl rfl ?_
    obtain rfl : i = 6 ^ cb 0 := by omega
    exact lp_X8_gcd1 (by omega) h6 h60 (6 ^ cb 0) _ _ _ (Nat.le_refl _) (by omega) h6 rfl
  | succ k ih =>
    intro i hk hs
    refine mG_iload dX8_odds_52 rfl ?_
    refine mG_iload_n dX8_odds_54 rfl ?_
    refine mG_icmp_geN dX8_odds_55 (by omega) (by omega) (fun c55 => absurd c55 (by omega)) (fun c55 => ?_)
    refine mG_iload dX8_odds_58 rfl ?_
    refine mG_aload_n dX8_odds_60 rfl ?_
    refine mG_iload dX8_odds_61 rfl ?_
    refine mG_iload_n dX8_odds_63 rfl ?_
    refine mG_cv2 vX8_215 dX8_odds_64 (mLe_of rfl) (Nat.le_of_ble_eq_true rfl) e40 (Nat.le_of_ble_eq_true rfl) (ok_X8_isBy e40 e42 hcb e44 hbb e47 e53 ho hnf hn (by omega)) ?_
    refine mG_if_eqB dX8_odds_67 (fun c67 => ?_) (fun c67 => ?_)
    · refine mG_iconst (v := nI 0) dX8_odds_74 (by decide) ?_
      refine mG_iaddN dX8_odds_75 ?_
      refine mG_istore dX8_odds_76 (Nat.le_of_ble_eq_true rfl) rfl rfl ?_
      refine mG_iincN dX8_odds_78 rfl (Nat.le_of_ble_eq_true rfl) rfl rfl ?_
      refine mG_goto dX8_odds_81 ?_
      have q := ih (i + 1) (by omega)
      rw [smG] at q
      first
        | (rw [c67] at q; exact q (by show _ + 1 ≤ _; omega))
        | (rw [c67] at q; exact q (by show _ + 0 ≤ _; omega))
    · refine mG_iconst (v := nI 1) dX8_odds_70 (by decide) ?_
      refine mG_goto dX8_odds_71 ?_
      refine mG_iaddN dX8_odds_75 ?_
      refine mG_istore dX8_odds_76 (Nat.le_of_ble_eq_true rfl) rfl rfl ?_
      refine mG_iincN dX8_odds_78 rfl (Nat.le_of_ble_eq_true rfl) rfl rfl ?_
      refine mG_goto dX8_odds_81 ?_
      have q := ih (i + 1) (by omega)
      rw [smG] at q
      first
        | (rw [c67] at q; exact q (by show _ + 1 ≤ _; omega))
        | (rw [c67] at q; exact q (by show _ + 0 ≤ _; omega))
set_option maxRecDepth 100000 in
set_option maxHeartbeats 4000000 in
theorem lp_X8_od1_1 {E : mE} {h : mH} {ty a sd so va it mo fa : Nat} {wr : Bool} {tr : Int64} {n : Nat} {bb cb nw od : Nat → Nat} (e40 : h 40 = oMo ty a sd so va wr it mo fa tr) (e42 : h 42 = mAr 2 cb) (hcb : cb 0 ≤ 4) (e44 : h 44 = mAr 2 bb) (hbb : bb 0 ≤ 1) (e47 : h 47 = mAr 33 nw) (e53 : h 53 = mAr 24 od) (ho : oOK (cb 0) mo od) (hnf : ∀ j, j < cb 0 * 6 → nw j < 10) (hn : n < 2 ^ 31) (h6 : 6 ^ cb 0 ≤ 1296) (h60 : 0 < 6 ^ cb 0) : ∀ (k i : Nat), i + k = cb 0 → mG E (mR 4, zX8_odds) (mKq E (mR 4) mN (mX (some (vN (6 ^ cb 0 / Nat.gcd (smG (fun s => (byR nw (decide (bb 0 = 1)) (cb 0) mo od s n).toNat) (6 ^ cb 0)) (6 ^ cb 0)))) h)) 24 [some (.ref 40), some (vN n), some (vN 1), some (vN (6 ^ i)), some (vN i), none, none, none] [] (mN, 0, 0) h := by
  intro k
  induction k with
  | zero =>
    intro i hk
    refine mG_iload dX8_odds_24 rfl ?_
    refine mG_aload_n dX8_odds_26 rfl ?_
    refine mG_get fX8_13 dX8_odds_27 e40 (Nat.le_of_ble_eq_true rfl) rfl ?_
    refine mG_iconst (v := nI 0) dX8_odds_30 (by decide) ?_
    refine mG_ialdA dX8_odds_31 e42 (Nat.le_of_ble_eq_true rfl) (by decide) (by omega) ?_
    refine mG_icmp_geN dX8_odds_32 (by omega) (by omega) (fun c32 => ?_) (fun c32 => absurd c32 (by omega))
    refine mG_iconst (v := nI 0) dX8_odds_46 (by decide) ?_
    refine mG_istore dX8_odds_47 (Nat.le_of_ble_eq_true rfl) rfl rfl ?_
    refine mG_iconst (v := nI 0) dX8_odds_49 (by decide) ?_
    refine mG_istore dX8_odds_50 (Nat.le_of_ble_eq_true rfl) rfl rfl ?_
    obtain rfl : i = cb 0 := by omega
    exact lp_X8_od2_1 e40 e42 hcb e44 hbb e47 e53 ho hnf hn h6 h60 (6 ^ cb 0) 0 (Nat.zero_add _) (Nat.le_refl _)
  | succ k ih =>
    intro i hk
    refine mG_iload dX8_odds_24 rfl ?_
    refine mG_aload_n dX8_odds_26 rfl ?_
    refine mG_get fX8_13 dX8_odds_27 e40 (Nat.le_of_ble_eq_true rfl) rfl ?_
    refine mG_iconst (v := nI 0) dX8_odds_30 (by decide) ?_
    refine mG_ialdA dX8_odds_31 e42 (Nat.le_of_ble_eq_true rfl) (by decide) (by omega) ?_
    refine mG_icmp_geN dX8_odds_32 (by omega) (by omega) (fun c32 => absurd c32 (by omega)) (fun c32 => ?_)
    refine mG_iload_n dX8_odds_35 rfl ?_
    refine mG_bipush (v := nI 6) dX8_odds_36 (by decide) ?_
    refine mG_imulN dX8_odds_38 ?_
    refine mG_istore_n dX8_odds_39 (Nat.le_of_ble_eq_true rfl) rfl rfl ?_
    refine mG_iincN dX8_odds_40 rfl (Nat.le_of_ble_eq_true rfl) rfl rfl ?_
    refine mG_goto dX8_odds_43 ?_
    have q := ih (i + 1) (by omega)
    rw [Nat.pow_succ] at q
    exact q
set_option maxRecDepth 100000 in
set_option maxHeartbeats 4000000 in
theorem ok_X8_odds_1 {E : mE} {h : mH} {ty a sd so va it mo fa : Nat} {wr : Bool} {tr : Int64} {n : Nat} {bb cb nw od : Nat → Nat} (e40 : h 40 = oMo ty a sd so va wr it mo fa tr) (e42 : h 42 = mAr 2 cb) (hcb : cb 0 ≤ 4) (e44 : h 44 = mAr 2 bb) (hbb : bb 0 ≤ 1) (e47 : h 47 = mAr 33 nw) (e53 : h 53 = mAr 24 od) (ho : oOK (cb 0) mo od) (hnf : ∀ j, j < cb 0 * 6 → nw j < 10) (hn : n < 10 ^ cb 0) : mOk E 4 zX8_odds [.ref 40, vN n, vN 1] h (mX (some (vN (6 ^ cb 0 / Nat.gcd (smG (fun s => (byR nw (decide (bb 0 = 1)) (cb 0) mo od s n).toNat) (6 ^ cb 0)) (6 ^ cb 0)))) h) := by
  have h10 := ten_le hcb
  have h6 : 6 ^ cb 0 ≤ 6 ^ 4 := Nat.pow_le_pow_right (by decide) hcb
  have h60 : 0 < 6 ^ cb 0 := Nat.pow_pos (by decide)
  have qn := isIx_nI (show 10 ^ cb 0 < 2 ^ 31 by omega) hn
  refine mOk_w (L := [some (.ref 40), some (vN n), some (vN 1), none, none, none, none, none]) pn_X8 rfl (Nat.le_of_ble_eq_true rfl) rfl ?_
  refine mG_aload_n dX8_odds_0 rfl ?_
  refine mG_iload_n dX8_odds_1 rfl ?_
  refine mG_cv1 vX8_203 dX8_odds_2 (mLe_of rfl) (Nat.le_of_ble_eq_true rfl) e40 (Nat.le_of_ble_eq_true rfl) (ok_X8_isNumber e40 e42 hcb) ?_
  refine mG_if_eqB dX8_odds_5 (fun c5 => Bool.noConfusion (c5.symm.trans qn)) (fun c5 => ?_)
  refine mG_iload_n dX8_odds_8 rfl ?_
  refine mG_iconst (v := nI 0) dX8_odds_9 (by decide) ?_
  refine mG_iconst (v := nI 1) dX8_odds_10 (by decide) ?_
  refine mG_cs3 sX8_63 dX8_odds_11 (mLe_of rfl) (Nat.le_of_ble_eq_true rfl) (ok_X8_in) ?_
  refine mG_if_neB dX8_odds_14 (fun c14 => ?_) (fun c14 => absurd c14 (by decide))
  refine mG_iconst (v := nI 1) dX8_odds_19 (by decide) ?_
  refine mG_istore_n dX8_odds_20 (Nat.le_of_ble_eq_true rfl) rfl rfl ?_
  refine mG_iconst (v := nI 0) dX8_odds_21 (by decide) ?_
  refine mG_istore dX8_odds_22 (Nat.le_of_ble_eq_true rfl) rfl rfl ?_
  exact lp_X8_od1_1 e40 e42 hcb e44 hbb e47 e53 ho hnf (by omega) h6 h60 (cb 0) 0 (Nat.zero_add _)
def u10 : Nat → Int64
  | 0 => 1
  | i + 1 => u10 i * 10
def trF (b : Nat) (tr : Int64) : Nat → Int64
  | 0 => tr
  | i + 1 => trF b tr i + (if decide (b >>> i &&& 1 = 1) = true then u10 i else 0)
theorem l0 : Int64.ofNat ((0 : Fin 2) : Nat) = 0 := by decide
set_option maxRecDepth 100000 in
set_option maxHeartbeats 4000000 in
theorem lp_X8_mk_0 {E : mE} {h : mH} {K : mKt} {ty a sd so va it mo fa : Nat} {wr : Bool} {tr : Int64} {c : Nat} (hK : ∀ u, mG E (mR 3, zX8_mark) K 76 [some (.ref 40), some (vN 0), some (vN c), some (vN 1), u, none, some (vN 6)] [] (mN, 0, 0) (mU h 40 (oMo ty a sd so va wr it mo fa (trF 1 tr 6)))) : ∀ (k i : Nat), i + k = 6 → mG E (mR 3, zX8_mark) K 31 [some (.ref 40), some (vN 0), some (vN c), some (vN 1), some (.long (u10 i)), none, some (vN i)] [] (mN, 0, 0) (mU h 40 (oMo ty a sd so va wr it mo fa (trF 1 tr i))) := by
  intro k
  induction k with
  | zero =>
    intro i hk
    refine mG_iload dX8_mark_31 rfl ?_
    refine mG_bipush (v := nI 6) dX8_mark_33 (by decide) ?_
    refine mG_icmp_geN dX8_mark_35 (by omega) (by omega) (fun c35 => ?_) (fun c35 => absurd c35 (by omega))
    obtain rfl : i = 6 := by omega
    exact hK _
  | succ k ih =>
    intro i hk
    refine mG_iload dX8_mark_31 rfl ?_
    refine mG_bipush (v := nI 6) dX8_mark_33 (by decide) ?_
    refine mG_icmp_geN dX8_mark_35 (by omega) (by omega) (fun c35 => absurd c35 (by omega)) (fun c35 => ?_)
    refine mG_aload_n dX8_mark_38 rfl ?_
    refine mG_dup dX8_mark_39 rfl ?_
    refine mG_get fX8_228 dX8_mark_40 rfl (Nat.le_of_ble_eq_true rfl) rfl ?_
    refine mG_iload_n dX8_mark_43 rfl ?_
    refine mG_iload dX8_mark_44 rfl ?_
    refine mG_cs2 sX8_145 dX8_mark_46 (mLe_of rfl) (Nat.le_of_ble_eq_true rfl) (ok_X8_has (by decide) (by omega)) ?_
    refine mG_if_eqB dX8_mark_49 (fun c49 => ?_) (fun c49 => ?_)
    · refine mG_lconst dX8_mark_57 l0 ?_
      refine mG_ladd dX8_mark_58 ?_
      refine mG_putJ pX8_228 dX8_mark_59 rfl (Nat.le_of_ble_eq_true rfl) (Nat.le_of_ble_eq_true rfl) ?_
      refine mG_lload dX8_mark_62 rfl ?_
      refine mG_ldc2 dX8_mark_64 kX8_232 ?_
      refine mG_lmul dX8_mark_67 ?_
      refine mG_lstore dX8_mark_68 (Nat.le_of_ble_eq_true rfl) rfl rfl ?_
      refine mG_iincN dX8_mark_70 rfl (Nat.le_of_ble_eq_true rfl) rfl rfl ?_
      refine mG_goto dX8_mark_73 ?_
      rw [mU_same]
      have q := ih (i + 1) (by omega)
      rw [trF] at q
      first
        | (rw [if_pos c49] at q; exact q)
        | (rw [if_neg (by rw [c49]; exact Bool.noConfusion)] at q; exact q)
    · refine mG_lload dX8_mark_52 rfl ?_
      refine mG_goto dX8_mark_54 ?_
      refine mG_ladd dX8_mark_58 ?_
      refine mG_putJ pX8_228 dX8_mark_59 rfl (Nat.le_of_ble_eq_true rfl) (Nat.le_of_ble_eq_true rfl) ?_
      refine mG_lload dX8_mark_62 rfl ?_
      refine mG_ldc2 dX8_mark_64 kX8_232 ?_
      refine mG_lmul dX8_mark_67 ?_
      refine mG_lstore dX8_mark_68 (Nat.le_of_ble_eq_true rfl) rfl rfl ?_
      refine mG_iincN dX8_mark_70 rfl (Nat.le_of_ble_eq_true rfl) rfl rfl ?_
      refine mG_goto dX8_mark_73 ?_
      rw [mU_same]
      have q := ih (i + 1) (by omega)
      rw [trF] at q
      first
        | (rw [if_pos c49] at q; exact q)
        | (rw [if_neg (by rw [c49]; exact Bool.noConfusion)] at q; exact q)
set_option maxRecDepth 100000 in
set_option maxHeartbeats 4000000 in
theorem ok_X8_bodies_0 {E : mE} {h : mH}  : mOk E 1 zX8_bodiesOf [vN 0] h (mX (some (vN 1)) h) := by
  refine mOk_w (L := [some (vN 0)]) pn_X8 rfl (Nat.le_of_ble_eq_true rfl) rfl ?_
  refine mG_iload_n dX8_bodiesOf_0 rfl ?_
  refine mG_tableIn (off := 35) (tgt := 36) dX8_bodiesOf_1 (by decide) (by decide) (by decide) (by decide) ?_
  refine mG_iconst (v := nI 1) dX8_bodiesOf_36 (by decide) ?_
  exact mG_iret dX8_bodiesOf_37 rfl (mX_of rfl rfl)
set_option maxRecDepth 100000 in
set_option maxHeartbeats 4000000 in
theorem ok_X8_mark_0 {E : mE} {h : mH} {ty a sd so va it mo fa : Nat} {wr : Bool} {tr : Int64} {c : Nat} {cb nw : Nat → Nat} (e40 : h 40 = oMo ty a sd so va wr it mo fa tr) (e42 : h 42 = mAr 2 cb) (hcb : cb 0 ≤ 4) (e47 : h 47 = mAr 33 nw) (hnf : ∀ j, j < cb 0 * 6 → nw j < 10) (hca : ∀ j, j < 4 → nw (24 + j) < 4) (hfr : ∀ j, j < 4 → nw (28 + j) < 6) (hc : c < cb 0) : mOk E 3 zX8_mark [.ref 40, vN 0, vN c] h (mX (some (.int (nI (nw (6 * c + nw (28 + c)))))) (mU h 40 (oMo ty a sd so va wr it mo fa (trF 1 tr 6)))) := by
  have qc := isIx_nI (show cb 0 < 2 ^ 31 by omega) hc
  refine mOk_w (L := [some (.ref 40), some (vN 0), some (vN c), none, none, none, none]) pn_X8 rfl (Nat.le_of_ble_eq_true rfl) rfl ?_
  refine mG_iload_n dX8_mark_0 rfl ?_
  refine mG_iconst (v := nI 0) dX8_mark_1 (by decide) ?_
  refine mG_iconst (v := nI 5) dX8_mark_2 (by decide) ?_
  refine mG_cs3 sX8_63 dX8_mark_3 (mLe_of rfl) (Nat.le_of_ble_eq_true rfl) (ok_X8_in) ?_
  refine mG_if_eqB dX8_mark_6 (fun c6 => absurd c6 (by decide)) (fun c6 => ?_)
  refine mG_aload_n dX8_mark_9 rfl ?_
  refine mG_iload_n dX8_mark_10 rfl ?_
  refine mG_cv1 vX8_148 dX8_mark_11 (mLe_of rfl) (Nat.le_of_ble_eq_true rfl) e40 (Nat.le_of_ble_eq_true rfl) (ok_X8_isCube e40 e42 hcb) ?_
  refine mG_if_neB dX8_mark_14 (fun c14 => ?_) (fun c14 => Bool.noConfusion (c14.symm.trans qc))
  refine mG_iload_n dX8_mark_20 rfl ?_
  refine mG_cs1 sX8_225 dX8_mark_21 (mLe_of rfl) (Nat.le_of_ble_eq_true rfl) (ok_X8_bodies_0) ?_
  refine mG_istore_n dX8_mark_24 (Nat.le_of_ble_eq_true rfl) rfl rfl ?_
  refine mG_lconst dX8_mark_25 rfl ?_
  refine mG_lstore dX8_mark_26 (Nat.le_of_ble_eq_true rfl) rfl rfl ?_
  refine mG_iconst (v := nI 0) dX8_mark_28 (by decide) ?_
  refine mG_istore dX8_mark_29 (Nat.le_of_ble_eq_true rfl) rfl rfl ?_
  have q := lp_X8_mk_0 (E := E) (h := h) (ty := ty) (a := a) (sd := sd) (so := so) (va := va) (it := it) (mo := mo) (fa := fa) (wr := wr) (tr := tr) (c := c) (K := mKq E (mR 3) mN (mX (some (.int (nI (nw (6 * c + nw (28 + c)))))) (mU h 40 (oMo ty a sd so va wr it mo fa (trF 1 tr 6))))) (fun u => ?_) 6 0 rfl
  · rw [show mU h 40 (oMo ty a sd so va wr it mo fa (trF 1 tr 0)) = h from mU_self h 40 _ e40] at q
    exact q
  refine mG_aload_n dX8_mark_76 rfl ?_
  refine mG_iload_n dX8_mark_77 rfl ?_
  refine mG_cv1 vX8_172 dX8_mark_78 (mLe_of rfl) (Nat.le_of_ble_eq_true rfl) rfl (Nat.le_of_ble_eq_true rfl) (ok_X8_inFront rfl e47 (by omega) (hfr c (by omega))) ?_
  refine mG_istore dX8_mark_81 (Nat.le_of_ble_eq_true rfl) rfl rfl ?_
  refine mG_iload dX8_mark_83 rfl ?_
  refine mG_iload_n dX8_mark_85 rfl ?_
  refine mG_iconst (v := nI 1) dX8_mark_86 (by decide) ?_
  refine mG_cs2 sX8_145 dX8_mark_87 (mLe_of rfl) (Nat.le_of_ble_eq_true rfl) (ok_X8_has (by decide) (by decide)) ?_
  refine mG_if_eqB dX8_mark_90 (fun c90 => ?_) (fun c90 => absurd c90 (by decide))
  refine mG_iconst (v := nI 0) dX8_mark_101 (by decide) ?_
  refine mG_iadd dX8_mark_102 ?_
  refine mG_istore dX8_mark_103 (Nat.le_of_ble_eq_true rfl) rfl rfl ?_
  refine mG_iload dX8_mark_105 rfl ?_
  refine mG_iload_n dX8_mark_107 rfl ?_
  refine mG_iconst (v := nI 2) dX8_mark_108 (by decide) ?_
  refine mG_cs2 sX8_145 dX8_mark_109 (mLe_of rfl) (Nat.le_of_ble_eq_true rfl) (ok_X8_has (by decide) (by decide)) ?_
  refine mG_if_eqB dX8_mark_112 (fun c112 => ?_) (fun c112 => absurd c112 (by decide))
  refine mG_iconst (v := nI 0) dX8_mark_126 (by decide) ?_
  refine mG_isub dX8_mark_127 ?_
  refine mG_istore dX8_mark_128 (Nat.le_of_ble_eq_true rfl) rfl rfl ?_
  refine mG_iload_n dX8_mark_130 rfl ?_
  refine mG_iconst (v := nI 3) dX8_mark_131 (by decide) ?_
  refine mG_cs2 sX8_145 dX8_mark_132 (mLe_of rfl) (Nat.le_of_ble_eq_true rfl) (ok_X8_has (by decide) (by decide)) ?_
  refine mG_if_eqB dX8_mark_135 (fun c135 => ?_) (fun c135 => absurd c135 (by decide))
  refine mG_iload dX8_mark_145 rfl ?_
  refine mG_istore dX8_mark_147 (Nat.le_of_ble_eq_true rfl) rfl rfl ?_
  refine mG_iload dX8_mark_149 rfl ?_
  refine mG_iload_n dX8_mark_151 rfl ?_
  refine mG_iconst (v := nI 4) dX8_mark_152 (by decide) ?_
  refine mG_cs2 sX8_145 dX8_mark_153 (mLe_of rfl) (Nat.le_of_ble_eq_true rfl) (ok_X8_has (by decide) (by decide)) ?_
  refine mG_if_eqB dX8_mark_156 (fun c156 => ?_) (fun c156 => absurd c156 (by decide))
  refine mG_iconst (v := nI 0) dX8_mark_163 (by decide) ?_
  refine mG_iadd dX8_mark_164 ?_
  refine mG_istore dX8_mark_165 (Nat.le_of_ble_eq_true rfl) rfl rfl ?_
  refine mG_iload dX8_mark_167 rfl ?_
  refine mG_iload_n dX8_mark_169 rfl ?_
  refine mG_iconst (v := nI 5) dX8_mark_170 (by decide) ?_
  refine mG_cs2 sX8_145 dX8_mark_171 (mLe_of rfl) (Nat.le_of_ble_eq_true rfl) (ok_X8_has (by decide) (by decide)) ?_
  refine mG_if_eqB dX8_mark_174 (fun c174 => ?_) (fun c174 => absurd c174 (by decide))
  refine mG_iconst (v := nI 0) dX8_mark_187 (by decide) ?_
  refine mG_iadd dX8_mark_188 ?_
  refine mG_istore dX8_mark_189 (Nat.le_of_ble_eq_true rfl) rfl rfl ?_
  refine mG_iload dX8_mark_191 rfl ?_
  exact mG_iret dX8_mark_193 rfl (mX_of (by simp only [nI_0, Int32.add_zero, Int32.sub_zero, Int32.mul_comm (nI 2)]) rfl)
set_option maxRecDepth 100000 in
set_option maxHeartbeats 4000000 in
theorem lp_X8_mk_1 {E : mE} {h : mH} {K : mKt} {ty a sd so va it mo fa : Nat} {wr : Bool} {tr : Int64} {c : Nat} (hK : ∀ u, mG E (mR 3, zX8_mark) K 76 [some (.ref 40), some (vN 1), some (vN c), some (vN 3), u, none, some (vN 6)] [] (mN, 0, 0) (mU h 40 (oMo ty a sd so va wr it mo fa (trF 3 tr 6)))) : ∀ (k i : Nat), i + k = 6 → mG E (mR 3, zX8_mark) K 31 [some (.ref 40), some (vN 1), some (vN c), some (vN 3), some (.long (u10 i)), none, some (vN i)] [] (mN, 0, 0) (mU h 40 (oMo ty a sd so va wr it mo fa (trF 3 tr i))) := by
  intro k
  induction k with
  | zero =>
    intro i hk
    refine mG_iload dX8_mark_31 rfl ?_
    refine mG_bipush (v := nI 6) dX8_mark_33 (by decide) ?_
    refine mG_icmp_geN dX8_mark_35 (by omega) (by omega) (fun c35 => ?_) (fun c35 => absurd c35 (by omega))
    obtain rfl : i = 6 := by omega
    exact hK _
  | succ k ih =>
    intro i hk
    refine mG_iload dX8_mark_31 rfl ?_
    refine mG_bipush (v := nI 6) dX8_mark_33 (by decide) ?_
    refine mG_icmp_geN dX8_mark_35 (by omega) (by omega) (fun c35 => absurd c35 (by omega)) (fun c35 => ?_)
    refine mG_aload_n dX8_mark_38 rfl ?_
    refine mG_dup dX8_mark_39 rfl ?_
    refine mG_get fX8_228 dX8_mark_40 rfl (Nat.le_of_ble_eq_true rfl) rfl ?_
    refine mG_iload_n dX8_mark_43 rfl ?_
    refine mG_iload dX8_mark_44 rfl ?_
    refine mG_cs2 sX8_145 dX8_mark_46 (mLe_of rfl) (Nat.le_of_ble_eq_true rfl) (ok_X8_has (by decide) (by omega)) ?_
    refine mG_if_eqB dX8_mark_49 (fun c49 => ?_) (fun c49 => ?_)
    · refine mG_lconst dX8_mark_57 l0 ?_
      refine mG_ladd dX8_mark_58 ?_
      refine mG_putJ pX8_228 dX8_mark_59 rfl (Nat.le_of_ble_eq_true rfl) (Nat.le_of_ble_eq_true rfl) ?_
      refine mG_lload dX8_mark_62 rfl ?_
      refine mG_ldc2 dX8_mark_64 kX8_232 ?_
      refine mG_lmul dX8_mark_67 ?_
      refine mG_lstore dX8_mark_68 (Nat.le_of_ble_eq_true rfl) rfl rfl ?_
      refine mG_iincN dX8_mark_70 rfl (Nat.le_of_ble_eq_true rfl) rfl rfl ?_
      refine mG_goto dX8_mark_73 ?_
      rw [mU_same]
      have q := ih (i + 1) (by omega)
      rw [trF] at q
      first
        | (rw [if_pos c49] at q; exact q)
        | (rw [if_neg (by rw [c49]; exact Bool.noConfusion)] at q; exact q)
    · refine mG_lload dX8_mark_52 rfl ?_
      refine mG_goto dX8_mark_54 ?_
      refine mG_ladd dX8_mark_58 ?_
      refine mG_putJ pX8_228 dX8_mark_59 rfl (Nat.le_of_ble_eq_true rfl) (Nat.le_of_ble_eq_true rfl) ?_
      refine mG_lload dX8_mark_62 rfl ?_
      refine mG_ldc2 dX8_mark_64 kX8_232 ?_
      refine mG_lmul dX8_mark_67 ?_
      refine mG_lstore dX8_mark_68 (Nat.le_of_ble_eq_true rfl) rfl rfl ?_
      refine mG_iincN dX8_mark_70 rfl (Nat.le_of_ble_eq_true rfl) rfl rfl ?_
      refine mG_goto dX8_mark_73 ?_
      rw [mU_same]
      have q := ih (i + 1) (by omega)
      rw [trF] at q
      first
        | (rw [if_pos c49] at q; exact q)
        | (rw [if_neg (by rw [c49]; exact Bool.noConfusion)] at q; exact q)
set_option maxRecDepth 100000 in
set_option maxHeartbeats 4000000 in
theorem ok_X8_bodies_1 {E : mE} {h : mH}  : mOk E 1 zX8_bodiesOf [vN 1] h (mX (some (vN 3)) h) := by
  refine mOk_w (L := [some (vN 1)]) pn_X8 rfl (Nat.le_of_ble_eq_true rfl) rfl ?_
  refine mG_iload_n dX8_bodiesOf_0 rfl ?_
  refine mG_tableIn (off := 37) (tgt := 38) dX8_bodiesOf_1 (by decide) (by decide) (by decide) (by decide) ?_
  refine mG_iconst (v := nI 3) dX8_bodiesOf_38 (by decide) ?_
  exact mG_iret dX8_bodiesOf_39 rfl (mX_of rfl rfl)
set_option maxRecDepth 100000 in
set_option maxHeartbeats 4000000 in
theorem ok_X8_mark_1 {E : mE} {h : mH} {ty a sd so va it mo fa : Nat} {wr : Bool} {tr : Int64} {c : Nat} {cb nw : Nat → Nat} (e40 : h 40 = oMo ty a sd so va wr it mo fa tr) (e42 : h 42 = mAr 2 cb) (hcb : cb 0 ≤ 4) (e47 : h 47 = mAr 33 nw) (hnf : ∀ j, j < cb 0 * 6 → nw j < 10) (hca : ∀ j, j < 4 → nw (24 + j) < 4) (hfr : ∀ j, j < 4 → nw (28 + j) < 6) (hc : c < cb 0) : mOk E 3 zX8_mark [.ref 40, vN 1, vN c] h (mX (some (.int (nI (nw (6 * c + nw (28 + c))) + nI (plF (fun p => nw (24 + p)) c (cb 0))))) (mU h 40 (oMo ty a sd so va wr it mo fa (trF 3 tr 6)))) := by
  have qc := isIx_nI (show cb 0 < 2 ^ 31 by omega) hc
  refine mOk_w (L := [some (.ref 40), some (vN 1), some (vN c), none, none, none, none]) pn_X8 rfl (Nat.le_of_ble_eq_true rfl) rfl ?_
  refine mG_iload_n dX8_mark_0 rfl ?_
  refine mG_iconst (v := nI 0) dX8_mark_1 (by decide) ?_
  refine mG_iconst (v := nI 5) dX8_mark_2 (by decide) ?_
  refine mG_cs3 sX8_63 dX8_mark_3 (mLe_of rfl) (Nat.le_of_ble_eq_true rfl) (ok_X8_in) ?_
  refine mG_if_eqB dX8_mark_6 (fun c6 => absurd c6 (by decide)) (fun c6 => ?_)
  refine mG_aload_n dX8_mark_9 rfl ?_
  refine mG_iload_n dX8_mark_10 rfl ?_
  refine mG_cv1 vX8_148 dX8_mark_11 (mLe_of rfl) (Nat.le_of_ble_eq_true rfl) e40 (Nat.le_of_ble_eq_true rfl) (ok_X8_isCube e40 e42 hcb) ?_
  refine mG_if_neB dX8_mark_14 (fun c14 => ?_) (fun c14 => Bool.noConfusion (c14.symm.trans qc))
  refine mG_iload_n dX8_mark_20 rfl ?_
  refine mG_cs1 sX8_225 dX8_mark_21 (mLe_of rfl) (Nat.le_of_ble_eq_true rfl) (ok_X8_bodies_1) ?_
  refine mG_istore_n dX8_mark_24 (Nat.le_of_ble_eq_true rfl) rfl rfl ?_
  refine mG_lconst dX8_mark_25 rfl ?_
  refine mG_lstore dX8_mark_26 (Nat.le_of_ble_eq_true rfl) rfl rfl ?_
  refine mG_iconst (v := nI 0) dX8_mark_28 (by decide) ?_
  refine mG_istore dX8_mark_29 (Nat.le_of_ble_eq_true rfl) rfl rfl ?_
  have q := lp_X8_mk_1 (E := E) (h := h) (ty := ty) (a := a) (sd := sd) (so := so) (va := va) (it := it) (mo := mo) (fa := fa) (wr := wr) (tr := tr) (c := c) (K := mKq E (mR 3) mN (mX (some (.int (nI (nw (6 * c + nw (28 + c))) + nI (plF (fun p => nw (24 + p)) c (cb 0))))) (mU h 40 (oMo ty a sd so va wr it mo fa (trF 3 tr 6))))) (fun u => ?_) 6 0 rfl
  · rw [show mU h 40 (oMo ty a sd so va wr it mo fa (trF 3 tr 0)) = h from mU_self h 40 _ e40] at q
    exact q
  refine mG_aload_n dX8_mark_76 rfl ?_
  refine mG_iload_n dX8_mark_77 rfl ?_
  refine mG_cv1 vX8_172 dX8_mark_78 (mLe_of rfl) (Nat.le_of_ble_eq_true rfl) rfl (Nat.le_of_ble_eq_true rfl) (ok_X8_inFront rfl e47 (by omega) (hfr c (by omega))) ?_
  refine mG_istore dX8_mark_81 (Nat.le_of_ble_eq_true rfl) rfl rfl ?_
  refine mG_iload dX8_mark_83 rfl ?_
  refine mG_iload_n dX8_mark_85 rfl ?_
  refine mG_iconst (v := nI 1) dX8_mark_86 (by decide) ?_
  refine mG_cs2 sX8_145 dX8_mark_87 (mLe_of rfl) (Nat.le_of_ble_eq_true rfl) (ok_X8_has (by decide) (by decide)) ?_
  refine mG_if_eqB dX8_mark_90 (fun c90 => absurd c90 (by decide)) (fun c90 => ?_)
  refine mG_aload_n dX8_mark_93 rfl ?_
  refine mG_iload_n dX8_mark_94 rfl ?_
  refine mG_cv1 vX8_154 dX8_mark_95 (mLe_of rfl) (Nat.le_of_ble_eq_true rfl) rfl (Nat.le_of_ble_eq_true rfl) (ok_X8_placeOf rfl e42 hcb e47 (by omega) (fun j hj => Nat.lt_trans (hca j hj) (by decide))) ?_
  refine mG_goto dX8_mark_98 ?_
  refine mG_iadd dX8_mark_102 ?_
  refine mG_istore dX8_mark_103 (Nat.le_of_ble_eq_true rfl) rfl rfl ?_
  refine mG_iload dX8_mark_105 rfl ?_
  refine mG_iload_n dX8_mark_107 rfl ?_
  refine mG_iconst (v := nI 2) dX8_mark_108 (by decide) ?_
  refine mG_cs2 sX8_145 dX8_mark_109 (mLe_of rfl) (Nat.le_of_ble_eq_true rfl) (ok_X8_has (by decide) (by decide)) ?_
  refine mG_if_eqB dX8_mark_112 (fun c112 => ?_) (fun c112 => absurd c112 (by decide))
  refine mG_iconst (v := nI 0) dX8_mark_126 (by decide) ?_
  refine mG_isub dX8_mark_127 ?_
  refine mG_istore dX8_mark_128 (Nat.le_of_ble_eq_true rfl) rfl rfl ?_
  refine mG_iload_n dX8_mark_130 rfl ?_
  refine mG_iconst (v := nI 3) dX8_mark_131 (by decide) ?_
  refine mG_cs2 sX8_145 dX8_mark_132 (mLe_of rfl) (Nat.le_of_ble_eq_true rfl) (ok_X8_has (by decide) (by decide)) ?_
  refine mG_if_eqB dX8_mark_135 (fun c135 => ?_) (fun c135 => absurd c135 (by decide))
  refine mG_iload dX8_mark_145 rfl ?_
  refine mG_istore dX8_mark_147 (Nat.le_of_ble_eq_true rfl) rfl rfl ?_
  refine mG_iload dX8_mark_149 rfl ?_
  refine mG_iload_n dX8_mark_151 rfl ?_
  refine mG_iconst (v := nI 4) dX8_mark_152 (by decide) ?_
  refine mG_cs2 sX8_145 dX8_mark_153 (mLe_of rfl) (Nat.le_of_ble_eq_true rfl) (ok_X8_has (by decide) (by decide)) ?_
  refine mG_if_eqB dX8_mark_156 (fun c156 => ?_) (fun c156 => absurd c156 (by decide))
  refine mG_iconst (v := nI 0) dX8_mark_163 (by decide) ?_
  refine mG_iadd dX8_mark_164 ?_
  refine mG_istore dX8_mark_165 (Nat.le_of_ble_eq_true rfl) rfl rfl ?_
  refine mG_iload dX8_mark_167 rfl ?_
  refine mG_iload_n dX8_mark_169 rfl ?_
  refine mG_iconst (v := nI 5) dX8_mark_170 (by decide) ?_
  refine mG_cs2 sX8_145 dX8_mark_171 (mLe_of rfl) (Nat.le_of_ble_eq_true rfl) (ok_X8_has (by decide) (by decide)) ?_
  refine mG_if_eqB dX8_mark_174 (fun c174 => ?_) (fun c174 => absurd c174 (by decide))
  refine mG_iconst (v := nI 0) dX8_mark_187 (by decide) ?_
  refine mG_iadd dX8_mark_188 ?_
  refine mG_istore dX8_mark_189 (Nat.le_of_ble_eq_true rfl) rfl rfl ?_
  refine mG_iload dX8_mark_191 rfl ?_
  exact mG_iret dX8_mark_193 rfl (mX_of (by simp only [nI_0, Int32.add_zero, Int32.sub_zero, Int32.mul_comm (nI 2)]) rfl)
set_option maxRecDepth 100000 in
set_option maxHeartbeats 4000000 in
theorem lp_X8_mk_2 {E : mE} {h : mH} {K : mKt} {ty a sd so va it mo fa : Nat} {wr : Bool} {tr : Int64} {c : Nat} (hK : ∀ u, mG E (mR 3, zX8_mark) K 76 [some (.ref 40), some (vN 2), some (vN c), some (vN 5), u, none, some (vN 6)] [] (mN, 0, 0) (mU h 40 (oMo ty a sd so va wr it mo fa (trF 5 tr 6)))) : ∀ (k i : Nat), i + k = 6 → mG E (mR 3, zX8_mark) K 31 [some (.ref 40), some (vN 2), some (vN c), some (vN 5), some (.long (u10 i)), none, some (vN i)] [] (mN, 0, 0) (mU h 40 (oMo ty a sd so va wr it mo fa (trF 5 tr i))) := by
  intro k
  induction k with
  | zero =>
    intro i hk
    refine mG_iload dX8_mark_31 rfl ?_
    refine mG_bipush (v := nI 6) dX8_mark_33 (by decide) ?_
    refine mG_icmp_geN dX8_mark_35 (by omega) (by omega) (fun c35 => ?_) (fun c35 => absurd c35 (by omega))
    obtain rfl : i = 6 := by omega
    exact hK _
  | succ k ih =>
    intro i hk
    refine mG_iload dX8_mark_31 rfl ?_
    refine mG_bipush (v := nI 6) dX8_mark_33 (by decide) ?_
    refine mG_icmp_geN dX8_mark_35 (by omega) (by omega) (fun c35 => absurd c35 (by omega)) (fun c35 => ?_)
    refine mG_aload_n dX8_mark_38 rfl ?_
    refine mG_dup dX8_mark_39 rfl ?_
    refine mG_get fX8_228 dX8_mark_40 rfl (Nat.le_of_ble_eq_true rfl) rfl ?_
    refine mG_iload_n dX8_mark_43 rfl ?_
    refine mG_iload dX8_mark_44 rfl ?_
    refine mG_cs2 sX8_145 dX8_mark_46 (mLe_of rfl) (Nat.le_of_ble_eq_true rfl) (ok_X8_has (by decide) (by omega)) ?_
    refine mG_if_eqB dX8_mark_49 (fun c49 => ?_) (fun c49 => ?_)
    · refine mG_lconst dX8_mark_57 l0 ?_
      refine mG_ladd dX8_mark_58 ?_
      refine mG_putJ pX8_228 dX8_mark_59 rfl (Nat.le_of_ble_eq_true rfl) (Nat.le_of_ble_eq_true rfl) ?_
      refine mG_lload dX8_mark_62 rfl ?_
      refine mG_ldc2 dX8_mark_64 kX8_232 ?_
      refine mG_lmul dX8_mark_67 ?_
      refine mG_lstore dX8_mark_68 (Nat.le_of_ble_eq_true rfl) rfl rfl ?_
      refine mG_iincN dX8_mark_70 rfl (Nat.le_of_ble_eq_true rfl) rfl rfl ?_
      refine mG_goto dX8_mark_73 ?_
      rw [mU_same]
      have q := ih (i + 1) (by omega)
      rw [trF] at q
      first
        | (rw [if_pos c49] at q; exact q)
        | (rw [if_neg (by rw [c49]; exact Bool.noConfusion)] at q; exact q)
    · refine mG_lload dX8_mark_52 rfl ?_
      refine mG_goto dX8_mark_54 ?_
      refine mG_ladd dX8_mark_58 ?_
      refine mG_putJ pX8_228 dX8_mark_59 rfl (Nat.le_of_ble_eq_true rfl) (Nat.le_of_ble_eq_true rfl) ?_
      refine mG_lload dX8_mark_62 rfl ?_
      refine mG_ldc2 dX8_mark_64 kX8_232 ?_
      refine mG_lmul dX8_mark_67 ?_
      refine mG_lstore dX8_mark_68 (Nat.le_of_ble_eq_true rfl) rfl rfl ?_
      refine mG_iincN dX8_mark_70 rfl (Nat.le_of_ble_eq_true rfl) rfl rfl ?_
      refine mG_goto dX8_mark_73 ?_
      rw [mU_same]
      have q := ih (i + 1) (by omega)
      rw [trF] at q
      first
        | (rw [if_pos c49] at q; exact q)
        | (rw [if_neg (by rw [c49]; exact Bool.noConfusion)] at q; exact q)
set_option maxRecDepth 100000 in
set_option maxHeartbeats 4000000 in
theorem ok_X8_bodies_2 {E : mE} {h : mH}  : mOk E 1 zX8_bodiesOf [vN 2] h (mX (some (vN 5)) h) := by
  refine mOk_w (L := [some (vN 2)]) pn_X8 rfl (Nat.le_of_ble_eq_true rfl) rfl ?_
  refine mG_iload_n dX8_bodiesOf_0 rfl ?_
  refine mG_tableIn (off := 39) (tgt := 40) dX8_bodiesOf_1 (by decide) (by decide) (by decide) (by decide) ?_
  refine mG_iconst (v := nI 5) dX8_bodiesOf_40 (by decide) ?_
  exact mG_iret dX8_bodiesOf_41 rfl (mX_of rfl rfl)
set_option maxRecDepth 100000 in
set_option maxHeartbeats 4000000 in
theorem ok_X8_mark_2 {E : mE} {h : mH} {ty a sd so va it mo fa : Nat} {wr : Bool} {tr : Int64} {c : Nat} {cb nw : Nat → Nat} (e40 : h 40 = oMo ty a sd so va wr it mo fa tr) (e42 : h 42 = mAr 2 cb) (hcb : cb 0 ≤ 4) (e47 : h 47 = mAr 33 nw) (hnf : ∀ j, j < cb 0 * 6 → nw j < 10) (hca : ∀ j, j < 4 → nw (24 + j) < 4) (hfr : ∀ j, j < 4 → nw (28 + j) < 6) (hc : c < cb 0) : mOk E 3 zX8_mark [.ref 40, vN 2, vN c] h (mX (some (.int (nI (nw (6 * c + nw (28 + c))) - nI (popc (fgs nw c 6) 10)))) (mU h 40 (oMo ty a sd so va wr it mo fa (trF 5 tr 6)))) := by
  have qc := isIx_nI (show cb 0 < 2 ^ 31 by omega) hc
  refine mOk_w (L := [some (.ref 40), some (vN 2), some (vN c), none, none, none, none]) pn_X8 rfl (Nat.le_of_ble_eq_true rfl) rfl ?_
  refine mG_iload_n dX8_mark_0 rfl ?_
  refine mG_iconst (v := nI 0) dX8_mark_1 (by decide) ?_
  refine mG_iconst (v := nI 5) dX8_mark_2 (by decide) ?_
  refine mG_cs3 sX8_63 dX8_mark_3 (mLe_of rfl) (Nat.le_of_ble_eq_true rfl) (ok_X8_in) ?_
  refine mG_if_eqB dX8_mark_6 (fun c6 => absurd c6 (by decide)) (fun c6 => ?_)
  refine mG_aload_n dX8_mark_9 rfl ?_
  refine mG_iload_n dX8_mark_10 rfl ?_
  refine mG_cv1 vX8_148 dX8_mark_11 (mLe_of rfl) (Nat.le_of_ble_eq_true rfl) e40 (Nat.le_of_ble_eq_true rfl) (ok_X8_isCube e40 e42 hcb) ?_
  refine mG_if_neB dX8_mark_14 (fun c14 => ?_) (fun c14 => Bool.noConfusion (c14.symm.trans qc))
  refine mG_iload_n dX8_mark_20 rfl ?_
  refine mG_cs1 sX8_225 dX8_mark_21 (mLe_of rfl) (Nat.le_of_ble_eq_true rfl) (ok_X8_bodies_2) ?_
  refine mG_istore_n dX8_mark_24 (Nat.le_of_ble_eq_true rfl) rfl rfl ?_
  refine mG_lconst dX8_mark_25 rfl ?_
  refine mG_lstore dX8_mark_26 (Nat.le_of_ble_eq_true rfl) rfl rfl ?_
  refine mG_iconst (v := nI 0) dX8_mark_28 (by decide) ?_
  refine mG_istore dX8_mark_29 (Nat.le_of_ble_eq_true rfl) rfl rfl ?_
  have q := lp_X8_mk_2 (E := E) (h := h) (ty := ty) (a := a) (sd := sd) (so := so) (va := va) (it := it) (mo := mo) (fa := fa) (wr := wr) (tr := tr) (c := c) (K := mKq E (mR 3) mN (mX (some (.int (nI (nw (6 * c + nw (28 + c))) - nI (popc (fgs nw c 6) 10)))) (mU h 40 (oMo ty a sd so va wr it mo fa (trF 5 tr 6))))) (fun u => ?_) 6 0 rfl
  · rw [show mU h 40 (oMo ty a sd so va wr it mo fa (trF 5 tr 0)) = h from mU_self h 40 _ e40] at q
    exact q
  refine mG_aload_n dX8_mark_76 rfl ?_
  refine mG_iload_n dX8_mark_77 rfl ?_
  refine mG_cv1 vX8_172 dX8_mark_78 (mLe_of rfl) (Nat.le_of_ble_eq_true rfl) rfl (Nat.le_of_ble_eq_true rfl) (ok_X8_inFront rfl e47 (by omega) (hfr c (by omega))) ?_
  refine mG_istore dX8_mark_81 (Nat.le_of_ble_eq_true rfl) rfl rfl ?_
  refine mG_iload dX8_mark_83 rfl ?_
  refine mG_iload_n dX8_mark_85 rfl ?_
  refine mG_iconst (v := nI 1) dX8_mark_86 (by decide) ?_
  refine mG_cs2 sX8_145 dX8_mark_87 (mLe_of rfl) (Nat.le_of_ble_eq_true rfl) (ok_X8_has (by decide) (by decide)) ?_
  refine mG_if_eqB dX8_mark_90 (fun c90 => ?_) (fun c90 => absurd c90 (by decide))
  refine mG_iconst (v := nI 0) dX8_mark_101 (by decide) ?_
  refine mG_iadd dX8_mark_102 ?_
  refine mG_istore dX8_mark_103 (Nat.le_of_ble_eq_true rfl) rfl rfl ?_
  refine mG_iload dX8_mark_105 rfl ?_
  refine mG_iload_n dX8_mark_107 rfl ?_
  refine mG_iconst (v := nI 2) dX8_mark_108 (by decide) ?_
  refine mG_cs2 sX8_145 dX8_mark_109 (mLe_of rfl) (Nat.le_of_ble_eq_true rfl) (ok_X8_has (by decide) (by decide)) ?_
  refine mG_if_eqB dX8_mark_112 (fun c112 => absurd c112 (by decide)) (fun c112 => ?_)
  refine mG_aload_n dX8_mark_115 rfl ?_
  refine mG_iload_n dX8_mark_116 rfl ?_
  refine mG_cv1 vX8_157 dX8_mark_117 (mLe_of rfl) (Nat.le_of_ble_eq_true rfl) rfl (Nat.le_of_ble_eq_true rfl) (ok_X8_figuresOf rfl e47 (by omega) (fun j hj => hnf _ (by omega))) ?_
  have h3 := fgs_lt (nf := nw) (c := c) 6 (fun j hj => hnf _ (by omega))
  refine mG_cs1 sX8_221 dX8_mark_120 (mLe_of rfl) (Nat.le_of_ble_eq_true rfl) (ok_X8_bits (by omega)) ?_
  refine mG_goto dX8_mark_123 ?_
  refine mG_isub dX8_mark_127 ?_
  refine mG_istore dX8_mark_128 (Nat.le_of_ble_eq_true rfl) rfl rfl ?_
  refine mG_iload_n dX8_mark_130 rfl ?_
  refine mG_iconst (v := nI 3) dX8_mark_131 (by decide) ?_
  refine mG_cs2 sX8_145 dX8_mark_132 (mLe_of rfl) (Nat.le_of_ble_eq_true rfl) (ok_X8_has (by decide) (by decide)) ?_
  refine mG_if_eqB dX8_mark_135 (fun c135 => ?_) (fun c135 => absurd c135 (by decide))
  refine mG_iload dX8_mark_145 rfl ?_
  refine mG_istore dX8_mark_147 (Nat.le_of_ble_eq_true rfl) rfl rfl ?_
  refine mG_iload dX8_mark_149 rfl ?_
  refine mG_iload_n dX8_mark_151 rfl ?_
  refine mG_iconst (v := nI 4) dX8_mark_152 (by decide) ?_
  refine mG_cs2 sX8_145 dX8_mark_153 (mLe_of rfl) (Nat.le_of_ble_eq_true rfl) (ok_X8_has (by decide) (by decide)) ?_
  refine mG_if_eqB dX8_mark_156 (fun c156 => ?_) (fun c156 => absurd c156 (by decide))
  refine mG_iconst (v := nI 0) dX8_mark_163 (by decide) ?_
  refine mG_iadd dX8_mark_164 ?_
  refine mG_istore dX8_mark_165 (Nat.le_of_ble_eq_true rfl) rfl rfl ?_
  refine mG_iload dX8_mark_167 rfl ?_
  refine mG_iload_n dX8_mark_169 rfl ?_
  refine mG_iconst (v := nI 5) dX8_mark_170 (by decide) ?_
  refine mG_cs2 sX8_145 dX8_mark_171 (mLe_of rfl) (Nat.le_of_ble_eq_true rfl) (ok_X8_has (by decide) (by decide)) ?_
  refine mG_if_eqB dX8_mark_174 (fun c174 => ?_) (fun c174 => absurd c174 (by decide))
  refine mG_iconst (v := nI 0) dX8_mark_187 (by decide) ?_
  refine mG_iadd dX8_mark_188 ?_
  refine mG_istore dX8_mark_189 (Nat.le_of_ble_eq_true rfl) rfl rfl ?_
  refine mG_iload dX8_mark_191 rfl ?_
  exact mG_iret dX8_mark_193 rfl (mX_of (by simp only [nI_0, Int32.add_zero, Int32.sub_zero, Int32.mul_comm (nI 2)]) rfl)
set_option maxRecDepth 100000 in
set_option maxHeartbeats 4000000 in
theorem lp_X8_mk_3 {E : mE} {h : mH} {K : mKt} {ty a sd so va it mo fa : Nat} {wr : Bool} {tr : Int64} {c : Nat} (hK : ∀ u, mG E (mR 3, zX8_mark) K 76 [some (.ref 40), some (vN 3), some (vN c), some (vN 11), u, none, some (vN 6)] [] (mN, 0, 0) (mU h 40 (oMo ty a sd so va wr it mo fa (trF 11 tr 6)))) : ∀ (k i : Nat), i + k = 6 → mG E (mR 3, zX8_mark) K 31 [some (.ref 40), some (vN 3), some (vN c), some (vN 11), some (.long (u10 i)), none, some (vN i)] [] (mN, 0, 0) (mU h 40 (oMo ty a sd so va wr it mo fa (trF 11 tr i))) := by
  intro k
  induction k with
  | zero =>
    intro i hk
    refine mG_iload dX8_mark_31 rfl ?_
    refine mG_bipush (v := nI 6) dX8_mark_33 (by decide) ?_
    refine mG_icmp_geN dX8_mark_35 (by omega) (by omega) (fun c35 => ?_) (fun c35 => absurd c35 (by omega))
    obtain rfl : i = 6 := by omega
    exact hK _
  | succ k ih =>
    intro i hk
    refine mG_iload dX8_mark_31 rfl ?_
    refine mG_bipush (v := nI 6) dX8_mark_33 (by decide) ?_
    refine mG_icmp_geN dX8_mark_35 (by omega) (by omega) (fun c35 => absurd c35 (by omega)) (fun c35 => ?_)
    refine mG_aload_n dX8_mark_38 rfl ?_
    refine mG_dup dX8_mark_39 rfl ?_
    refine mG_get fX8_228 dX8_mark_40 rfl (Nat.le_of_ble_eq_true rfl) rfl ?_
    refine mG_iload_n dX8_mark_43 rfl ?_
    refine mG_iload dX8_mark_44 rfl ?_
    refine mG_cs2 sX8_145 dX8_mark_46 (mLe_of rfl) (Nat.le_of_ble_eq_true rfl) (ok_X8_has (by decide) (by omega)) ?_
    refine mG_if_eqB dX8_mark_49 (fun c49 => ?_) (fun c49 => ?_)
    · refine mG_lconst dX8_mark_57 l0 ?_
      refine mG_ladd dX8_mark_58 ?_
      refine mG_putJ pX8_228 dX8_mark_59 rfl (Nat.le_of_ble_eq_true rfl) (Nat.le_of_ble_eq_true rfl) ?_
      refine mG_lload dX8_mark_62 rfl ?_
      refine mG_ldc2 dX8_mark_64 kX8_232 ?_
      refine mG_lmul dX8_mark_67 ?_
      refine mG_lstore dX8_mark_68 (Nat.le_of_ble_eq_true rfl) rfl rfl ?_
      refine mG_iincN dX8_mark_70 rfl (Nat.le_of_ble_eq_true rfl) rfl rfl ?_
      refine mG_goto dX8_mark_73 ?_
      rw [mU_same]
      have q := ih (i + 1) (by omega)
      rw [trF] at q
      first
        | (rw [if_pos c49] at q; exact q)
        | (rw [if_neg (by rw [c49]; exact Bool.noConfusion)] at q; exact q)
    · refine mG_lload dX8_mark_52 rfl ?_
      refine mG_goto dX8_mark_54 ?_
      refine mG_ladd dX8_mark_58 ?_
      refine mG_putJ pX8_228 dX8_mark_59 rfl (Nat.le_of_ble_eq_true rfl) (Nat.le_of_ble_eq_true rfl) ?_
      refine mG_lload dX8_mark_62 rfl ?_
      refine mG_ldc2 dX8_mark_64 kX8_232 ?_
      refine mG_lmul dX8_mark_67 ?_
      refine mG_lstore dX8_mark_68 (Nat.le_of_ble_eq_true rfl) rfl rfl ?_
      refine mG_iincN dX8_mark_70 rfl (Nat.le_of_ble_eq_true rfl) rfl rfl ?_
      refine mG_goto dX8_mark_73 ?_
      rw [mU_same]
      have q := ih (i + 1) (by omega)
      rw [trF] at q
      first
        | (rw [if_pos c49] at q; exact q)
        | (rw [if_neg (by rw [c49]; exact Bool.noConfusion)] at q; exact q)
set_option maxRecDepth 100000 in
set_option maxHeartbeats 4000000 in
theorem ok_X8_bodies_3 {E : mE} {h : mH}  : mOk E 1 zX8_bodiesOf [vN 3] h (mX (some (vN 11)) h) := by
  refine mOk_w (L := [some (vN 3)]) pn_X8 rfl (Nat.le_of_ble_eq_true rfl) rfl ?_
  refine mG_iload_n dX8_bodiesOf_0 rfl ?_
  refine mG_tableIn (off := 41) (tgt := 42) dX8_bodiesOf_1 (by decide) (by decide) (by decide) (by decide) ?_
  refine mG_bipush (v := nI 11) dX8_bodiesOf_42 (by decide) ?_
  exact mG_iret dX8_bodiesOf_44 rfl (mX_of rfl rfl)
set_option maxRecDepth 100000 in
set_option maxHeartbeats 4000000 in
theorem ok_X8_mark_3 {E : mE} {h : mH} {ty a sd so va it mo fa : Nat} {wr : Bool} {tr : Int64} {c : Nat} {cb nw : Nat → Nat} (e40 : h 40 = oMo ty a sd so va wr it mo fa tr) (e42 : h 42 = mAr 2 cb) (hcb : cb 0 ≤ 4) (e47 : h 47 = mAr 33 nw) (hnf : ∀ j, j < cb 0 * 6 → nw j < 10) (hca : ∀ j, j < 4 → nw (24 + j) < 4) (hfr : ∀ j, j < 4 → nw (28 + j) < 6) (hc : c < cb 0) : mOk E 3 zX8_mark [.ref 40, vN 3, vN c] h (mX (some (.int ((nI (nw (6 * c + nw (28 + c))) + nI (plF (fun p => nw (24 + p)) c (cb 0))) * nI 2))) (mU h 40 (oMo ty a sd so va wr it mo fa (trF 11 tr 6)))) := by
  have qc := isIx_nI (show cb 0 < 2 ^ 31 by omega) hc
  refine mOk_w (L := [some (.ref 40), some (vN 3), some (vN c), none, none, none, none]) pn_X8 rfl (Nat.le_of_ble_eq_true rfl) rfl ?_
  refine mG_iload_n dX8_mark_0 rfl ?_
  refine mG_iconst (v := nI 0) dX8_mark_1 (by decide) ?_
  refine mG_iconst (v := nI 5) dX8_mark_2 (by decide) ?_
  refine mG_cs3 sX8_63 dX8_mark_3 (mLe_of rfl) (Nat.le_of_ble_eq_true rfl) (ok_X8_in) ?_
  refine mG_if_eqB dX8_mark_6 (fun c6 => absurd c6 (by decide)) (fun c6 => ?_)
  refine mG_aload_n dX8_mark_9 rfl ?_
  refine mG_iload_n dX8_mark_10 rfl ?_
  refine mG_cv1 vX8_148 dX8_mark_11 (mLe_of rfl) (Nat.le_of_ble_eq_true rfl) e40 (Nat.le_of_ble_eq_true rfl) (ok_X8_isCube e40 e42 hcb) ?_
  refine mG_if_neB dX8_mark_14 (fun c14 => ?_) (fun c14 => Bool.noConfusion (c14.symm.trans qc))
  refine mG_iload_n dX8_mark_20 rfl ?_
  refine mG_cs1 sX8_225 dX8_mark_21 (mLe_of rfl) (Nat.le_of_ble_eq_true rfl) (ok_X8_bodies_3) ?_
  refine mG_istore_n dX8_mark_24 (Nat.le_of_ble_eq_true rfl) rfl rfl ?_
  refine mG_lconst dX8_mark_25 rfl ?_
  refine mG_lstore dX8_mark_26 (Nat.le_of_ble_eq_true rfl) rfl rfl ?_
  refine mG_iconst (v := nI 0) dX8_mark_28 (by decide) ?_
  refine mG_istore dX8_mark_29 (Nat.le_of_ble_eq_true rfl) rfl rfl ?_
  have q := lp_X8_mk_3 (E := E) (h := h) (ty := ty) (a := a) (sd := sd) (so := so) (va := va) (it := it) (mo := mo) (fa := fa) (wr := wr) (tr := tr) (c := c) (K := mKq E (mR 3) mN (mX (some (.int ((nI (nw (6 * c + nw (28 + c))) + nI (plF (fun p => nw (24 + p)) c (cb 0))) * nI 2))) (mU h 40 (oMo ty a sd so va wr it mo fa (trF 11 tr 6))))) (fun u => ?_) 6 0 rfl
  · rw [show mU h 40 (oMo ty a sd so va wr it mo fa (trF 11 tr 0)) = h from mU_self h 40 _ e40] at q
    exact q
  refine mG_aload_n dX8_mark_76 rfl ?_
  refine mG_iload_n dX8_mark_77 rfl ?_
  refine mG_cv1 vX8_172 dX8_mark_78 (mLe_of rfl) (Nat.le_of_ble_eq_true rfl) rfl (Nat.le_of_ble_eq_true rfl) (ok_X8_inFront rfl e47 (by omega) (hfr c (by omega))) ?_
  refine mG_istore dX8_mark_81 (Nat.le_of_ble_eq_true rfl) rfl rfl ?_
  refine mG_iload dX8_mark_83 rfl ?_
  refine mG_iload_n dX8_mark_85 rfl ?_
  refine mG_iconst (v := nI 1) dX8_mark_86 (by decide) ?_
  refine mG_cs2 sX8_145 dX8_mark_87 (mLe_of rfl) (Nat.le_of_ble_eq_true rfl) (ok_X8_has (by decide) (by decide)) ?_
  refine mG_if_eqB dX8_mark_90 (fun c90 => absurd c90 (by decide)) (fun c90 => ?_)
  refine mG_aload_n dX8_mark_93 rfl ?_
  refine mG_iload_n dX8_mark_94 rfl ?_
  refine mG_cv1 vX8_154 dX8_mark_95 (mLe_of rfl) (Nat.le_of_ble_eq_true rfl) rfl (Nat.le_of_ble_eq_true rfl) (ok_X8_placeOf rfl e42 hcb e47 (by omega) (fun j hj => Nat.lt_trans (hca j hj) (by decide))) ?_
  refine mG_goto dX8_mark_98 ?_
  refine mG_iadd dX8_mark_102 ?_
  refine mG_istore dX8_mark_103 (Nat.le_of_ble_eq_true rfl) rfl rfl ?_
  refine mG_iload dX8_mark_105 rfl ?_
  refine mG_iload_n dX8_mark_107 rfl ?_
  refine mG_iconst (v := nI 2) dX8_mark_108 (by decide) ?_
  refine mG_cs2 sX8_145 dX8_mark_109 (mLe_of rfl) (Nat.le_of_ble_eq_true rfl) (ok_X8_has (by decide) (by decide)) ?_
  refine mG_if_eqB dX8_mark_112 (fun c112 => ?_) (fun c112 => absurd c112 (by decide))
  refine mG_iconst (v := nI 0) dX8_mark_126 (by decide) ?_
  refine mG_isub dX8_mark_127 ?_
  refine mG_istore dX8_mark_128 (Nat.le_of_ble_eq_true rfl) rfl rfl ?_
  refine mG_iload_n dX8_mark_130 rfl ?_
  refine mG_iconst (v := nI 3) dX8_mark_131 (by decide) ?_
  refine mG_cs2 sX8_145 dX8_mark_132 (mLe_of rfl) (Nat.le_of_ble_eq_true rfl) (ok_X8_has (by decide) (by decide)) ?_
  refine mG_if_eqB dX8_mark_135 (fun c135 => absurd c135 (by decide)) (fun c135 => ?_)
  refine mG_iconst (v := nI 2) dX8_mark_138 (by decide) ?_
  refine mG_iload dX8_mark_139 rfl ?_
  refine mG_imul dX8_mark_141 ?_
  refine mG_goto dX8_mark_142 ?_
  refine mG_istore dX8_mark_147 (Nat.le_of_ble_eq_true rfl) rfl rfl ?_
  refine mG_iload dX8_mark_149 rfl ?_
  refine mG_iload_n dX8_mark_151 rfl ?_
  refine mG_iconst (v := nI 4) dX8_mark_152 (by decide) ?_
  refine mG_cs2 sX8_145 dX8_mark_153 (mLe_of rfl) (Nat.le_of_ble_eq_true rfl) (ok_X8_has (by decide) (by decide)) ?_
  refine mG_if_eqB dX8_mark_156 (fun c156 => ?_) (fun c156 => absurd c156 (by decide))
  refine mG_iconst (v := nI 0) dX8_mark_163 (by decide) ?_
  refine mG_iadd dX8_mark_164 ?_
  refine mG_istore dX8_mark_165 (Nat.le_of_ble_eq_true rfl) rfl rfl ?_
  refine mG_iload dX8_mark_167 rfl ?_
  refine mG_iload_n dX8_mark_169 rfl ?_
  refine mG_iconst (v := nI 5) dX8_mark_170 (by decide) ?_
  refine mG_cs2 sX8_145 dX8_mark_171 (mLe_of rfl) (Nat.le_of_ble_eq_true rfl) (ok_X8_has (by decide) (by decide)) ?_
  refine mG_if_eqB dX8_mark_174 (fun c174 => ?_) (fun c174 => absurd c174 (by decide))
  refine mG_iconst (v := nI 0) dX8_mark_187 (by decide) ?_
  refine mG_iadd dX8_mark_188 ?_
  refine mG_istore dX8_mark_189 (Nat.le_of_ble_eq_true rfl) rfl rfl ?_
  refine mG_iload dX8_mark_191 rfl ?_
  exact mG_iret dX8_mark_193 rfl (mX_of (by simp only [nI_0, Int32.add_zero, Int32.sub_zero, Int32.mul_comm (nI 2)]) rfl)
set_option maxRecDepth 100000 in
set_option maxHeartbeats 4000000 in
theorem lp_X8_mk_4 {E : mE} {h : mH} {K : mKt} {ty a sd so va it mo fa : Nat} {wr : Bool} {tr : Int64} {c : Nat} (hK : ∀ u, mG E (mR 3, zX8_mark) K 76 [some (.ref 40), some (vN 4), some (vN c), some (vN 21), u, none, some (vN 6)] [] (mN, 0, 0) (mU h 40 (oMo ty a sd so va wr it mo fa (trF 21 tr 6)))) : ∀ (k i : Nat), i + k = 6 → mG E (mR 3, zX8_mark) K 31 [some (.ref 40), some (vN 4), some (vN c), some (vN 21), some (.long (u10 i)), none, some (vN i)] [] (mN, 0, 0) (mU h 40 (oMo ty a sd so va wr it mo fa (trF 21 tr i))) := by
  intro k
  induction k with
  | zero =>
    intro i hk
    refine mG_iload dX8_mark_31 rfl ?_
    refine mG_bipush (v := nI 6) dX8_mark_33 (by decide) ?_
    refine mG_icmp_geN dX8_mark_35 (by omega) (by omega) (fun c35 => ?_) (fun c35 => absurd c35 (by omega))
    obtain rfl : i = 6 := by omega
    exact hK _
  | succ k ih =>
    intro i hk
    refine mG_iload dX8_mark_31 rfl ?_
    refine mG_bipush (v := nI 6) dX8_mark_33 (by decide) ?_
    refine mG_icmp_geN dX8_mark_35 (by omega) (by omega) (fun c35 => absurd c35 (by omega)) (fun c35 => ?_)
    refine mG_aload_n dX8_mark_38 rfl ?_
    refine mG_dup dX8_mark_39 rfl ?_
    refine mG_get fX8_228 dX8_mark_40 rfl (Nat.le_of_ble_eq_true rfl) rfl ?_
    refine mG_iload_n dX8_mark_43 rfl ?_
    refine mG_iload dX8_mark_44 rfl ?_
    refine mG_cs2 sX8_145 dX8_mark_46 (mLe_of rfl) (Nat.le_of_ble_eq_true rfl) (ok_X8_has (by decide) (by omega)) ?_
    refine mG_if_eqB dX8_mark_49 (fun c49 => ?_) (fun c49 => ?_)
    · refine mG_lconst dX8_mark_57 l0 ?_
      refine mG_ladd dX8_mark_58 ?_
      refine mG_putJ pX8_228 dX8_mark_59 rfl (Nat.le_of_ble_eq_true rfl) (Nat.le_of_ble_eq_true rfl) ?_
      refine mG_lload dX8_mark_62 rfl ?_
      refine mG_ldc2 dX8_mark_64 kX8_232 ?_
      refine mG_lmul dX8_mark_67 ?_
      refine mG_lstore dX8_mark_68 (Nat.le_of_ble_eq_true rfl) rfl rfl ?_
      refine mG_iincN dX8_mark_70 rfl (Nat.le_of_ble_eq_true rfl) rfl rfl ?_
      refine mG_goto dX8_mark_73 ?_
      rw [mU_same]
      have q := ih (i + 1) (by omega)
      rw [trF] at q
      first
        | (rw [if_pos c49] at q; exact q)
        | (rw [if_neg (by rw [c49]; exact Bool.noConfusion)] at q; exact q)
    · refine mG_lload dX8_mark_52 rfl ?_
      refine mG_goto dX8_mark_54 ?_
      refine mG_ladd dX8_mark_58 ?_
      refine mG_putJ pX8_228 dX8_mark_59 rfl (Nat.le_of_ble_eq_true rfl) (Nat.le_of_ble_eq_true rfl) ?_
      refine mG_lload dX8_mark_62 rfl ?_
      refine mG_ldc2 dX8_mark_64 kX8_232 ?_
      refine mG_lmul dX8_mark_67 ?_
      refine mG_lstore dX8_mark_68 (Nat.le_of_ble_eq_true rfl) rfl rfl ?_
      refine mG_iincN dX8_mark_70 rfl (Nat.le_of_ble_eq_true rfl) rfl rfl ?_
      refine mG_goto dX8_mark_73 ?_
      rw [mU_same]
      have q := ih (i + 1) (by omega)
      rw [trF] at q
      first
        | (rw [if_pos c49] at q; exact q)
        | (rw [if_neg (by rw [c49]; exact Bool.noConfusion)] at q; exact q)
set_option maxRecDepth 100000 in
set_option maxHeartbeats 4000000 in
theorem ok_X8_bodies_4 {E : mE} {h : mH}  : mOk E 1 zX8_bodiesOf [vN 4] h (mX (some (vN 21)) h) := by
  refine mOk_w (L := [some (vN 4)]) pn_X8 rfl (Nat.le_of_ble_eq_true rfl) rfl ?_
  refine mG_iload_n dX8_bodiesOf_0 rfl ?_
  refine mG_tableIn (off := 44) (tgt := 45) dX8_bodiesOf_1 (by decide) (by decide) (by decide) (by decide) ?_
  refine mG_bipush (v := nI 21) dX8_bodiesOf_45 (by decide) ?_
  exact mG_iret dX8_bodiesOf_47 rfl (mX_of rfl rfl)
set_option maxRecDepth 100000 in
set_option maxHeartbeats 4000000 in
theorem ok_X8_mark_4 {E : mE} {h : mH} {ty a sd so va it mo fa : Nat} {wr : Bool} {tr : Int64} {c : Nat} {cb nw : Nat → Nat} (e40 : h 40 = oMo ty a sd so va wr it mo fa tr) (e42 : h 42 = mAr 2 cb) (hcb : cb 0 ≤ 4) (e47 : h 47 = mAr 33 nw) (hnf : ∀ j, j < cb 0 * 6 → nw j < 10) (hca : ∀ j, j < 4 → nw (24 + j) < 4) (hfr : ∀ j, j < 4 → nw (28 + j) < 6) (hc : c < cb 0) : mOk E 3 zX8_mark [.ref 40, vN 4, vN c] h (mX (some (.int ((nI (nw (6 * c + nw (28 + c))) - nI (popc (fgs nw c 6) 10)) + nI c))) (mU h 40 (oMo ty a sd so va wr it mo fa (trF 21 tr 6)))) := by
  have qc := isIx_nI (show cb 0 < 2 ^ 31 by omega) hc
  refine mOk_w (L := [some (.ref 40), some (vN 4), some (vN c), none, none, none, none]) pn_X8 rfl (Nat.le_of_ble_eq_true rfl) rfl ?_
  refine mG_iload_n dX8_mark_0 rfl ?_
  refine mG_iconst (v := nI 0) dX8_mark_1 (by decide) ?_
  refine mG_iconst (v := nI 5) dX8_mark_2 (by decide) ?_
  refine mG_cs3 sX8_63 dX8_mark_3 (mLe_of rfl) (Nat.le_of_ble_eq_true rfl) (ok_X8_in) ?_
  refine mG_if_eqB dX8_mark_6 (fun c6 => absurd c6 (by decide)) (fun c6 => ?_)
  refine mG_aload_n dX8_mark_9 rfl ?_
  refine mG_iload_n dX8_mark_10 rfl ?_
  refine mG_cv1 vX8_148 dX8_mark_11 (mLe_of rfl) (Nat.le_of_ble_eq_true rfl) e40 (Nat.le_of_ble_eq_true rfl) (ok_X8_isCube e40 e42 hcb) ?_
  refine mG_if_neB dX8_mark_14 (fun c14 => ?_) (fun c14 => Bool.noConfusion (c14.symm.trans qc))
  refine mG_iload_n dX8_mark_20 rfl ?_
  refine mG_cs1 sX8_225 dX8_mark_21 (mLe_of rfl) (Nat.le_of_ble_eq_true rfl) (ok_X8_bodies_4) ?_
  refine mG_istore_n dX8_mark_24 (Nat.le_of_ble_eq_true rfl) rfl rfl ?_
  refine mG_lconst dX8_mark_25 rfl ?_
  refine mG_lstore dX8_mark_26 (Nat.le_of_ble_eq_true rfl) rfl rfl ?_
  refine mG_iconst (v := nI 0) dX8_mark_28 (by decide) ?_
  refine mG_istore dX8_mark_29 (Nat.le_of_ble_eq_true rfl) rfl rfl ?_
  have q := lp_X8_mk_4 (E := E) (h := h) (ty := ty) (a := a) (sd := sd) (so := so) (va := va) (it := it) (mo := mo) (fa := fa) (wr := wr) (tr := tr) (c := c) (K := mKq E (mR 3) mN (mX (some (.int ((nI (nw (6 * c + nw (28 + c))) - nI (popc (fgs nw c 6) 10)) + nI c))) (mU h 40 (oMo ty a sd so va wr it mo fa (trF 21 tr 6))))) (fun u => ?_) 6 0 rfl
  · rw [show mU h 40 (oMo ty a sd so va wr it mo fa (trF 21 tr 0)) = h from mU_self h 40 _ e40] at q
    exact q
  refine mG_aload_n dX8_mark_76 rfl ?_
  refine mG_iload_n dX8_mark_77 rfl ?_
  refine mG_cv1 vX8_172 dX8_mark_78 (mLe_of rfl) (Nat.le_of_ble_eq_true rfl) rfl (Nat.le_of_ble_eq_true rfl) (ok_X8_inFront rfl e47 (by omega) (hfr c (by omega))) ?_
  refine mG_istore dX8_mark_81 (Nat.le_of_ble_eq_true rfl) rfl rfl ?_
  refine mG_iload dX8_mark_83 rfl ?_
  refine mG_iload_n dX8_mark_85 rfl ?_
  refine mG_iconst (v := nI 1) dX8_mark_86 (by decide) ?_
  refine mG_cs2 sX8_145 dX8_mark_87 (mLe_of rfl) (Nat.le_of_ble_eq_true rfl) (ok_X8_has (by decide) (by decide)) ?_
  refine mG_if_eqB dX8_mark_90 (fun c90 => ?_) (fun c90 => absurd c90 (by decide))
  refine mG_iconst (v := nI 0) dX8_mark_101 (by decide) ?_
  refine mG_iadd dX8_mark_102 ?_
  refine mG_istore dX8_mark_103 (Nat.le_of_ble_eq_true rfl) rfl rfl ?_
  refine mG_iload dX8_mark_105 rfl ?_
  refine mG_iload_n dX8_mark_107 rfl ?_
  refine mG_iconst (v := nI 2) dX8_mark_108 (by decide) ?_
  refine mG_cs2 sX8_145 dX8_mark_109 (mLe_of rfl) (Nat.le_of_ble_eq_true rfl) (ok_X8_has (by decide) (by decide)) ?_
  refine mG_if_eqB dX8_mark_112 (fun c112 => absurd c112 (by decide)) (fun c112 => ?_)
  refine mG_aload_n dX8_mark_115 rfl ?_
  refine mG_iload_n dX8_mark_116 rfl ?_
  refine mG_cv1 vX8_157 dX8_mark_117 (mLe_of rfl) (Nat.le_of_ble_eq_true rfl) rfl (Nat.le_of_ble_eq_true rfl) (ok_X8_figuresOf rfl e47 (by omega) (fun j hj => hnf _ (by omega))) ?_
  have h3 := fgs_lt (nf := nw) (c := c) 6 (fun j hj => hnf _ (by omega))
  refine mG_cs1 sX8_221 dX8_mark_120 (mLe_of rfl) (Nat.le_of_ble_eq_true rfl) (ok_X8_bits (by omega)) ?_
  refine mG_goto dX8_mark_123 ?_
  refine mG_isub dX8_mark_127 ?_
  refine mG_istore dX8_mark_128 (Nat.le_of_ble_eq_true rfl) rfl rfl ?_
  refine mG_iload_n dX8_mark_130 rfl ?_
  refine mG_iconst (v := nI 3) dX8_mark_131 (by decide) ?_
  refine mG_cs2 sX8_145 dX8_mark_132 (mLe_of rfl) (Nat.le_of_ble_eq_true rfl) (ok_X8_has (by decide) (by decide)) ?_
  refine mG_if_eqB dX8_mark_135 (fun c135 => ?_) (fun c135 => absurd c135 (by decide))
  refine mG_iload dX8_mark_145 rfl ?_
  refine mG_istore dX8_mark_147 (Nat.le_of_ble_eq_true rfl) rfl rfl ?_
  refine mG_iload dX8_mark_149 rfl ?_
  refine mG_iload_n dX8_mark_151 rfl ?_
  refine mG_iconst (v := nI 4) dX8_mark_152 (by decide) ?_
  refine mG_cs2 sX8_145 dX8_mark_153 (mLe_of rfl) (Nat.le_of_ble_eq_true rfl) (ok_X8_has (by decide) (by decide)) ?_
  refine mG_if_eqB dX8_mark_156 (fun c156 => absurd c156 (by decide)) (fun c156 => ?_)
  refine mG_iload_n dX8_mark_159 rfl ?_
  refine mG_goto dX8_mark_160 ?_
  refine mG_iadd dX8_mark_164 ?_
  refine mG_istore dX8_mark_165 (Nat.le_of_ble_eq_true rfl) rfl rfl ?_
  refine mG_iload dX8_mark_167 rfl ?_
  refine mG_iload_n dX8_mark_169 rfl ?_
  refine mG_iconst (v := nI 5) dX8_mark_170 (by decide) ?_
  refine mG_cs2 sX8_145 dX8_mark_171 (mLe_of rfl) (Nat.le_of_ble_eq_true rfl) (ok_X8_has (by decide) (by decide)) ?_
  refine mG_if_eqB dX8_mark_174 (fun c174 => ?_) (fun c174 => absurd c174 (by decide))
  refine mG_iconst (v := nI 0) dX8_mark_187 (by decide) ?_
  refine mG_iadd dX8_mark_188 ?_
  refine mG_istore dX8_mark_189 (Nat.le_of_ble_eq_true rfl) rfl rfl ?_
  refine mG_iload dX8_mark_191 rfl ?_
  exact mG_iret dX8_mark_193 rfl (mX_of (by simp only [nI_0, Int32.add_zero, Int32.sub_zero, Int32.mul_comm (nI 2)]) rfl)
set_option maxRecDepth 100000 in
set_option maxHeartbeats 4000000 in
theorem lp_X8_mk_5 {E : mE} {h : mH} {K : mKt} {ty a sd so va it mo fa : Nat} {wr : Bool} {tr : Int64} {c : Nat} (hK : ∀ u, mG E (mR 3, zX8_mark) K 76 [some (.ref 40), some (vN 5), some (vN c), some (vN 33), u, none, some (vN 6)] [] (mN, 0, 0) (mU h 40 (oMo ty a sd so va wr it mo fa (trF 33 tr 6)))) : ∀ (k i : Nat), i + k = 6 → mG E (mR 3, zX8_mark) K 31 [some (.ref 40), some (vN 5), some (vN c), some (vN 33), some (.long (u10 i)), none, some (vN i)] [] (mN, 0, 0) (mU h 40 (oMo ty a sd so va wr it mo fa (trF 33 tr i))) := by
  intro k
  induction k with
  | zero =>
    intro i hk
    refine mG_iload dX8_mark_31 rfl ?_
    refine mG_bipush (v := nI 6) dX8_mark_33 (by decide) ?_
    refine mG_icmp_geN dX8_mark_35 (by omega) (by omega) (fun c35 => ?_) (fun c35 => absurd c35 (by omega))
    obtain rfl : i = 6 := by omega
    exact hK _
  | succ k ih =>
    intro i hk
    refine mG_iload dX8_mark_31 rfl ?_
    refine mG_bipush (v := nI 6) dX8_mark_33 (by decide) ?_
    refine mG_icmp_geN dX8_mark_35 (by omega) (by omega) (fun c35 => absurd c35 (by omega)) (fun c35 => ?_)
    refine mG_aload_n dX8_mark_38 rfl ?_
    refine mG_dup dX8_mark_39 rfl ?_
    refine mG_get fX8_228 dX8_mark_40 rfl (Nat.le_of_ble_eq_true rfl) rfl ?_
    refine mG_iload_n dX8_mark_43 rfl ?_
    refine mG_iload dX8_mark_44 rfl ?_
    refine mG_cs2 sX8_145 dX8_mark_46 (mLe_of rfl) (Nat.le_of_ble_eq_true rfl) (ok_X8_has (by decide) (by omega)) ?_
    refine mG_if_eqB dX8_mark_49 (fun c49 => ?_) (fun c49 => ?_)
    · refine mG_lconst dX8_mark_57 l0 ?_
      refine mG_ladd dX8_mark_58 ?_
      refine mG_putJ pX8_228 dX8_mark_59 rfl (Nat.le_of_ble_eq_true rfl) (Nat.le_of_ble_eq_true rfl) ?_
      refine mG_lload dX8_mark_62 rfl ?_
      refine mG_ldc2 dX8_mark_64 kX8_232 ?_
      refine mG_lmul dX8_mark_67 ?_
      refine mG_lstore dX8_mark_68 (Nat.le_of_ble_eq_true rfl) rfl rfl ?_
      refine mG_iincN dX8_mark_70 rfl (Nat.le_of_ble_eq_true rfl) rfl rfl ?_
      refine mG_goto dX8_mark_73 ?_
      rw [mU_same]
      have q := ih (i + 1) (by omega)
      rw [trF] at q
      first
        | (rw [if_pos c49] at q; exact q)
        | (rw [if_neg (by rw [c49]; exact Bool.noConfusion)] at q; exact q)
    · refine mG_lload dX8_mark_52 rfl ?_
      refine mG_goto dX8_mark_54 ?_
      refine mG_ladd dX8_mark_58 ?_
      refine mG_putJ pX8_228 dX8_mark_59 rfl (Nat.le_of_ble_eq_true rfl) (Nat.le_of_ble_eq_true rfl) ?_
      refine mG_lload dX8_mark_62 rfl ?_
      refine mG_ldc2 dX8_mark_64 kX8_232 ?_
      refine mG_lmul dX8_mark_67 ?_
      refine mG_lstore dX8_mark_68 (Nat.le_of_ble_eq_true rfl) rfl rfl ?_
      refine mG_iincN dX8_mark_70 rfl (Nat.le_of_ble_eq_true rfl) rfl rfl ?_
      refine mG_goto dX8_mark_73 ?_
      rw [mU_same]
      have q := ih (i + 1) (by omega)
      rw [trF] at q
      first
        | (rw [if_pos c49] at q; exact q)
        | (rw [if_neg (by rw [c49]; exact Bool.noConfusion)] at q; exact q)
set_option maxRecDepth 100000 in
set_option maxHeartbeats 4000000 in
theorem ok_X8_bodies_5 {E : mE} {h : mH}  : mOk E 1 zX8_bodiesOf [vN 5] h (mX (some (vN 33)) h) := by
  refine mOk_w (L := [some (vN 5)]) pn_X8 rfl (Nat.le_of_ble_eq_true rfl) rfl ?_
  refine mG_iload_n dX8_bodiesOf_0 rfl ?_
  refine mG_tableOut (tgt := 48) dX8_bodiesOf_1 (by decide) (by decide) ?_
  refine mG_bipush (v := nI 33) dX8_bodiesOf_48 (by decide) ?_
  exact mG_iret dX8_bodiesOf_50 rfl (mX_of rfl rfl)
set_option maxRecDepth 100000 in
set_option maxHeartbeats 4000000 in
theorem ok_X8_mark_5 {E : mE} {h : mH} {ty a sd so va it mo fa : Nat} {wr : Bool} {tr : Int64} {c : Nat} {cb nw : Nat → Nat} (e40 : h 40 = oMo ty a sd so va wr it mo fa tr) (e42 : h 42 = mAr 2 cb) (hcb : cb 0 ≤ 4) (e47 : h 47 = mAr 33 nw) (hnf : ∀ j, j < cb 0 * 6 → nw j < 10) (hca : ∀ j, j < 4 → nw (24 + j) < 4) (hfr : ∀ j, j < 4 → nw (28 + j) < 6) (hc : c < cb 0) : mOk E 3 zX8_mark [.ref 40, vN 5, vN c] h (mX (some (.int (nI (nw (6 * c + nw (28 + c))) + nI (nw 32)))) (mU h 40 (oMo ty a sd so va wr it mo fa (trF 33 tr 6)))) := by
  have qc := isIx_nI (show cb 0 < 2 ^ 31 by omega) hc
  refine mOk_w (L := [some (.ref 40), some (vN 5), some (vN c), none, none, none, none]) pn_X8 rfl (Nat.le_of_ble_eq_true rfl) rfl ?_
  refine mG_iload_n dX8_mark_0 rfl ?_
  refine mG_iconst (v := nI 0) dX8_mark_1 (by decide) ?_
  refine mG_iconst (v := nI 5) dX8_mark_2 (by decide) ?_
  refine mG_cs3 sX8_63 dX8_mark_3 (mLe_of rfl) (Nat.le_of_ble_eq_true rfl) (ok_X8_in) ?_
  refine mG_if_eqB dX8_mark_6 (fun c6 => absurd c6 (by decide)) (fun c6 => ?_)
  refine mG_aload_n dX8_mark_9 rfl ?_
  refine mG_iload_n dX8_mark_10 rfl ?_
  refine mG_cv1 vX8_148 dX8_mark_11 (mLe_of rfl) (Nat.le_of_ble_eq_true rfl) e40 (Nat.le_of_ble_eq_true rfl) (ok_X8_isCube e40 e42 hcb) ?_
  refine mG_if_neB dX8_mark_14 (fun c14 => ?_) (fun c14 => Bool.noConfusion (c14.symm.trans qc))
  refine mG_iload_n dX8_mark_20 rfl ?_
  refine mG_cs1 sX8_225 dX8_mark_21 (mLe_of rfl) (Nat.le_of_ble_eq_true rfl) (ok_X8_bodies_5) ?_
  refine mG_istore_n dX8_mark_24 (Nat.le_of_ble_eq_true rfl) rfl rfl ?_
  refine mG_lconst dX8_mark_25 rfl ?_
  refine mG_lstore dX8_mark_26 (Nat.le_of_ble_eq_true rfl) rfl rfl ?_
  refine mG_iconst (v := nI 0) dX8_mark_28 (by decide) ?_
  refine mG_istore dX8_mark_29 (Nat.le_of_ble_eq_true rfl) rfl rfl ?_
  have q := lp_X8_mk_5 (E := E) (h := h) (ty := ty) (a := a) (sd := sd) (so := so) (va := va) (it := it) (mo := mo) (fa := fa) (wr := wr) (tr := tr) (c := c) (K := mKq E (mR 3) mN (mX (some (.int (nI (nw (6 * c + nw (28 + c))) + nI (nw 32)))) (mU h 40 (oMo ty a sd so va wr it mo fa (trF 33 tr 6))))) (fun u => ?_) 6 0 rfl
  · rw [show mU h 40 (oMo ty a sd so va wr it mo fa (trF 33 tr 0)) = h from mU_self h 40 _ e40] at q
    exact q
  refine mG_aload_n dX8_mark_76 rfl ?_
  refine mG_iload_n dX8_mark_77 rfl ?_
  refine mG_cv1 vX8_172 dX8_mark_78 (mLe_of rfl) (Nat.le_of_ble_eq_true rfl) rfl (Nat.le_of_ble_eq_true rfl) (ok_X8_inFront rfl e47 (by omega) (hfr c (by omega))) ?_
  refine mG_istore dX8_mark_81 (Nat.le_of_ble_eq_true rfl) rfl rfl ?_
  refine mG_iload dX8_mark_83 rfl ?_
  refine mG_iload_n dX8_mark_85 rfl ?_
  refine mG_iconst (v := nI 1) dX8_mark_86 (by decide) ?_
  refine mG_cs2 sX8_145 dX8_mark_87 (mLe_of rfl) (Nat.le_of_ble_eq_true rfl) (ok_X8_has (by decide) (by decide)) ?_
  refine mG_if_eqB dX8_mark_90 (fun c90 => ?_) (fun c90 => absurd c90 (by decide))
  refine mG_iconst (v := nI 0) dX8_mark_101 (by decide) ?_
  refine mG_iadd dX8_mark_102 ?_
  refine mG_istore dX8_mark_103 (Nat.le_of_ble_eq_true rfl) rfl rfl ?_
  refine mG_iload dX8_mark_105 rfl ?_
  refine mG_iload_n dX8_mark_107 rfl ?_
  refine mG_iconst (v := nI 2) dX8_mark_108 (by decide) ?_
  refine mG_cs2 sX8_145 dX8_mark_109 (mLe_of rfl) (Nat.le_of_ble_eq_true rfl) (ok_X8_has (by decide) (by decide)) ?_
  refine mG_if_eqB dX8_mark_112 (fun c112 => ?_) (fun c112 => absurd c112 (by decide))
  refine mG_iconst (v := nI 0) dX8_mark_126 (by decide) ?_
  refine mG_isub dX8_mark_127 ?_
  refine mG_istore dX8_mark_128 (Nat.le_of_ble_eq_true rfl) rfl rfl ?_
  refine mG_iload_n dX8_mark_130 rfl ?_
  refine mG_iconst (v := nI 3) dX8_mark_131 (by decide) ?_
  refine mG_cs2 sX8_145 dX8_mark_132 (mLe_of rfl) (Nat.le_of_ble_eq_true rfl) (ok_X8_has (by decide) (by decide)) ?_
  refine mG_if_eqB dX8_mark_135 (fun c135 => ?_) (fun c135 => absurd c135 (by decide))
  refine mG_iload dX8_mark_145 rfl ?_
  refine mG_istore dX8_mark_147 (Nat.le_of_ble_eq_true rfl) rfl rfl ?_
  refine mG_iload dX8_mark_149 rfl ?_
  refine mG_iload_n dX8_mark_151 rfl ?_
  refine mG_iconst (v := nI 4) dX8_mark_152 (by decide) ?_
  refine mG_cs2 sX8_145 dX8_mark_153 (mLe_of rfl) (Nat.le_of_ble_eq_true rfl) (ok_X8_has (by decide) (by decide)) ?_
  refine mG_if_eqB dX8_mark_156 (fun c156 => ?_) (fun c156 => absurd c156 (by decide))
  refine mG_iconst (v := nI 0) dX8_mark_163 (by decide) ?_
  refine mG_iadd dX8_mark_164 ?_
  refine mG_istore dX8_mark_165 (Nat.le_of_ble_eq_true rfl) rfl rfl ?_
  refine mG_iload dX8_mark_167 rfl ?_
  refine mG_iload_n dX8_mark_169 rfl ?_
  refine mG_iconst (v := nI 5) dX8_mark_170 (by decide) ?_
  refine mG_cs2 sX8_145 dX8_mark_171 (mLe_of rfl) (Nat.le_of_ble_eq_true rfl) (ok_X8_has (by decide) (by decide)) ?_
  refine mG_if_eqB dX8_mark_174 (fun c174 => absurd c174 (by decide)) (fun c174 => ?_)
  refine mG_aload_n dX8_mark_177 rfl ?_
  refine mG_get fX8_29 dX8_mark_178 rfl (Nat.le_of_ble_eq_true rfl) rfl ?_
  refine mG_bipush (v := nI 32) dX8_mark_181 (by decide) ?_
  refine mG_ialdA dX8_mark_183 e47 (Nat.le_of_ble_eq_true rfl) (by decide) (by omega) ?_
  refine mG_goto dX8_mark_184 ?_
  refine mG_iadd dX8_mark_188 ?_
  refine mG_istore dX8_mark_189 (Nat.le_of_ble_eq_true rfl) rfl rfl ?_
  refine mG_iload dX8_mark_191 rfl ?_
  exact mG_iret dX8_mark_193 rfl (mX_of (by simp only [nI_0, Int32.add_zero, Int32.sub_zero, Int32.mul_comm (nI 2)]) rfl)
