-- needs: 33 34 35
/-! the reference: orders, work -/
def msk (p : Nat) : Nat := 4294967295 - 3 <<< (2 * p)
def cgN (a p q x y : Nat) : Nat := ((a &&& msk p) &&& msk q) ||| y <<< (2 * p) ||| x <<< (2 * q)
def cgS (cu to p : Nat) (s : Nat × Nat) : Nat × Nat := if cIn s.1 p = cIn to p then s else (cgN s.1 p (plF (cIn s.1) (cIn to p) cu) (cIn s.1 p) (cIn to p), s.2 + 1)
def cgF (cu fm to : Nat) : Nat := (iterF (cgS cu to) 0 cu (fm, 0)).2
theorem m1x {p : Nat} (hp : p < 4) : nI (3 <<< (2 * p)) ^^^ (-1) = nI (msk p) := by
  have key : ∀ x : Fin 4, nI (3 <<< (2 * x.val)) ^^^ (-1) = nI (msk x.val) := by decide +kernel
  exact key ⟨p, hp⟩
theorem cgN_lt {a p q x y : Nat} (ha : a < 256) (hp : p < 4) (hq : q < 4) (hx : x < 4) (hy : y < 4) : cgN a p q x y < 256 := by
  unfold cgN
  refine or_lt (k := 8) (or_lt (k := 8) (Nat.lt_of_le_of_lt Nat.and_le_left (Nat.lt_of_le_of_lt Nat.and_le_left ha)) (shl3 hy hp)) (shl3 hx hq)
theorem plF_n {g : Nat → Nat} {c n : Nat} (hn : 0 < n) : plF g c n < n := by
  have : ∀ p, plF g c (p + 1) < p + 1 := by
    intro p
    induction p with
    | zero => unfold plF; split <;> exact Nat.zero_lt_one
    | succ p ih => unfold plF; split <;> omega
  have h := this (n - 1)
  rw [Nat.sub_add_cancel hn] at h
  exact h
set_option maxRecDepth 100000 in
set_option maxHeartbeats 4000000 in
theorem lp_X8_chI {E : mE} {h : mH} {K : mKt} {ty a sd so va it mo fa : Nat} {wr : Bool} {tr : Int64} {fm to a1 p m : Nat} {cb : Nat → Nat} (e40 : h 40 = oMo ty a sd so va wr it mo fa tr) (e42 : h 42 = mAr 2 cb) (hcb : cb 0 ≤ 4) (hto : to < 256) (ha : a1 < 256) (hp : p < cb 0) (hK : ∀ x, mG E (mR 2, zX8_changesTo) K 87 [some (.ref 40), some (vN fm), some (vN to), some (vN m), some (vN a1), some (vN p), some (vN (cIn a1 p)), some (vN (cIn to p)), some (vN (plF (cIn a1) (cIn to p) (cb 0))), some (vN x)] [] (mN, 0, 0) h) : ∀ (k i : Nat), i + k = cb 0 → mG E (mR 2, zX8_changesTo) K 49 [some (.ref 40), some (vN fm), some (vN to), some (vN m), some (vN a1), some (vN p), some (vN (cIn a1 p)), some (vN (cIn to p)), some (vN (plF (cIn a1) (cIn to p) i)), some (vN i)] [] (mN, 0, 0) h := by
  intro k
  induction k with
  | zero =>
    intro i hk
    refine mG_iload dX8_changesTo_49 rfl ?_
    refine mG_aload_n dX8_changesTo_51 rfl ?_
    refine mG_get fX8_13 dX8_changesTo_52 e40 (Nat.le_of_ble_eq_true rfl) rfl ?_
    refine mG_iconst (v := nI 0) dX8_changesTo_55 (by decide) ?_
    refine mG_ialdA dX8_changesTo_56 e42 (Nat.le_of_ble_eq_true rfl) (by decide) (by omega) ?_
    refine mG_icmp_geN dX8_changesTo_57 (by omega) (by omega) (fun c57 => ?_) (fun c57 => absurd c57 (by omega))
    obtain rfl : i = cb 0 := by omega
    exact hK _
  | succ k ih =>
    intro i hk
    refine mG_iload dX8_changesTo_49 rfl ?_
    refine mG_aload_n dX8_changesTo_51 rfl ?_
    refine mG_get fX8_13 dX8_changesTo_52 e40 (Nat.le_of_ble_eq_true rfl) rfl ?_
    refine mG_iconst (v := nI 0) dX8_changesTo_55 (by decide) ?_
    refine mG_ialdA dX8_changesTo_56 e42 (Nat.le_of_ble_eq_true rfl) (by decide) (by omega) ?_
    refine mG_icmp_geN dX8_changesTo_57 (by omega) (by omega) (fun c57 => absurd c57 (by omega)) (fun c57 => ?_)
    refine mG_iload dX8_changesTo_60 rfl ?_
    refine mG_iload dX8_changesTo_62 rfl ?_
    refine mG_cs2 sX8_127 dX8_changesTo_64 (mLe_of rfl) (Nat.le_of_ble_eq_true rfl) (ok_X8_cubeIn (by omega) (by omega)) ?_
    refine mG_iload dX8_changesTo_67 rfl ?_
    have hl1 := cIn_lt a1 i
    have hl2 := cIn_lt to p
    refine mG_icmp_neN dX8_changesTo_69 (by omega) (by omega) (fun c69 => ?_) (fun c69 => ?_)
    · refine mG_iload dX8_changesTo_77 rfl ?_
      refine mG_istore dX8_changesTo_79 (Nat.le_of_ble_eq_true rfl) rfl rfl ?_
      refine mG_iincN dX8_changesTo_81 rfl (Nat.le_of_ble_eq_true rfl) rfl rfl ?_
      refine mG_goto dX8_changesTo_84 ?_
      have q := ih (i + 1) (by omega)
      rw [plF] at q
      first
        | (rw [if_pos c69] at q; exact q)
        | (rw [if_neg c69] at q; exact q)
    · refine mG_iload dX8_changesTo_72 rfl ?_
      refine mG_goto dX8_changesTo_74 ?_
      refine mG_istore dX8_changesTo_79 (Nat.le_of_ble_eq_true rfl) rfl rfl ?_
      refine mG_iincN dX8_changesTo_81 rfl (Nat.le_of_ble_eq_true rfl) rfl rfl ?_
      refine mG_goto dX8_changesTo_84 ?_
      have q := ih (i + 1) (by omega)
      rw [plF] at q
      first
        | (rw [if_pos c69] at q; exact q)
        | (rw [if_neg c69] at q; exact q)
set_option maxRecDepth 100000 in
set_option maxHeartbeats 4000000 in
theorem lp_X8_ch {E : mE} {h : mH} {ty a sd so va it mo fa : Nat} {wr : Bool} {tr : Int64} {fm to R : Nat} {cb : Nat → Nat} (e40 : h 40 = oMo ty a sd so va wr it mo fa tr) (e42 : h 42 = mAr 2 cb) (hcb : cb 0 ≤ 4) (hto : to < 256)  : ∀ (k i a1 m : Nat) (x6 x7 x8 x9 : Option Value), i + k = cb 0 → a1 < 256 → R = (iterF (cgS (cb 0) to) i k (a1, m)).2 → mG E (mR 2, zX8_changesTo) (mKq E (mR 2) mN (mX (some (vN R)) h)) 8 [some (.ref 40), some (vN fm), some (vN to), some (vN m), some (vN a1), some (vN i), x6, x7, x8, x9] [] (mN, 0, 0) h := by
  intro k
  induction k with
  | zero =>
    intro i a1 m x6 x7 x8 x9 hk ha hR
    refine mG_iload dX8_changesTo_8 rfl ?_
    refine mG_aload_n dX8_changesTo_10 rfl ?_
    refine mG_get fX8_13 dX8_changesTo_11 e40 (Nat.le_of_ble_eq_true rfl) rfl ?_
    refine mG_iconst (v := nI 0) dX8_changesTo_14 (by decide) ?_
    refine mG_ialdA dX8_changesTo_15 e42 (Nat.le_of_ble_eq_true rfl) (by decide) (by omega) ?_
    refine mG_icmp_geN dX8_changesTo_16 (by omega) (by omega) (fun c16 => ?_) (fun c16 => absurd c16 (by omega))
    refine mG_iload_n dX8_changesTo_134 rfl ?_
    exact mG_iret dX8_changesTo_135 rfl (mX_of (by subst hR; rfl) rfl)
  | succ k ih =>
    intro i a1 m x6 x7 x8 x9 hk ha hR
    refine mG_iload dX8_changesTo_8 rfl ?_
    refine mG_aload_n dX8_changesTo_10 rfl ?_
    refine mG_get fX8_13 dX8_changesTo_11 e40 (Nat.le_of_ble_eq_true rfl) rfl ?_
    refine mG_iconst (v := nI 0) dX8_changesTo_14 (by decide) ?_
    refine mG_ialdA dX8_changesTo_15 e42 (Nat.le_of_ble_eq_true rfl) (by decide) (by omega) ?_
    refine mG_icmp_geN dX8_changesTo_16 (by omega) (by omega) (fun c16 => absurd c16 (by omega)) (fun c16 => ?_)
    refine mG_iload dX8_changesTo_19 rfl ?_
    refine mG_iload dX8_changesTo_21 rfl ?_
    refine mG_cs2 sX8_127 dX8_changesTo_23 (mLe_of rfl) (Nat.le_of_ble_eq_true rfl) (ok_X8_cubeIn (by omega) (by omega)) ?_
    refine mG_istore dX8_changesTo_26 (Nat.le_of_ble_eq_true rfl) rfl rfl ?_
    refine mG_iload_n dX8_changesTo_28 rfl ?_
    refine mG_iload dX8_changesTo_29 rfl ?_
    refine mG_cs2 sX8_127 dX8_changesTo_31 (mLe_of rfl) (Nat.le_of_ble_eq_true rfl) (ok_X8_cubeIn (by omega) (by omega)) ?_
    refine mG_istore dX8_changesTo_34 (Nat.le_of_ble_eq_true rfl) rfl rfl ?_
    refine mG_iload dX8_changesTo_36 rfl ?_
    refine mG_iload dX8_changesTo_38 rfl ?_
    have hl1 := cIn_lt a1 i
    have hl2 := cIn_lt to i
    refine mG_icmp_eqN dX8_changesTo_40 (by omega) (by omega) (fun c40 => ?_) (fun c40 => ?_)
    · refine mG_iincN dX8_changesTo_128 rfl (Nat.le_of_ble_eq_true rfl) rfl rfl ?_
      refine mG_goto dX8_changesTo_131 ?_
      exact ih (i + 1) _ _ _ _ _ _ (by omega) ha (by rw [hR]; show (iterF (cgS (cb 0) to) (i + 1) k (cgS (cb 0) to i (a1, m))).2 = _; rw [cgS, if_pos c40])
    · refine mG_iconst (v := nI 0) dX8_changesTo_43 (by decide) ?_
      refine mG_istore dX8_changesTo_44 (Nat.le_of_ble_eq_true rfl) rfl rfl ?_
      refine mG_iconst (v := nI 0) dX8_changesTo_46 (by decide) ?_
      refine mG_istore dX8_changesTo_47 (Nat.le_of_ble_eq_true rfl) rfl rfl ?_
      refine lp_X8_chI e40 e42 hcb hto ha c16 (fun x => ?_) (cb 0) 0 (Nat.zero_add _)
      have hq := plF_4 (g := cIn a1) (c := cIn to i) hcb
      refine mG_iload dX8_changesTo_87 rfl ?_
      refine mG_iconst (v := nI 3) dX8_changesTo_89 (by decide) ?_
      refine mG_iconst (v := nI 2) dX8_changesTo_90 (by decide) ?_
      refine mG_iload dX8_changesTo_91 rfl ?_
      refine mG_imulN dX8_changesTo_93 ?_
      refine mG_ishlN dX8_changesTo_94 (by omega) (Nat.lt_trans (shl3 (by decide) (by omega)) (by decide)) ?_
      refine mG_iconst (v := (-1)) dX8_changesTo_95 (by decide) ?_
      refine mG_ixor dX8_changesTo_96 ?_
      rw [m1x (show i < 4 by omega)]
      refine mG_iandN dX8_changesTo_97 ?_
      refine mG_iconst (v := nI 3) dX8_changesTo_98 (by decide) ?_
      refine mG_iconst (v := nI 2) dX8_changesTo_99 (by decide) ?_
      refine mG_iload dX8_changesTo_100 rfl ?_
      refine mG_imulN dX8_changesTo_102 ?_
      refine mG_ishlN dX8_changesTo_103 (by omega) (Nat.lt_trans (shl3 (by decide) hq) (by decide)) ?_
      refine mG_iconst (v := (-1)) dX8_changesTo_104 (by decide) ?_
      refine mG_ixor dX8_changesTo_105 ?_
      rw [m1x hq]
      refine mG_iandN dX8_changesTo_106 ?_
      refine mG_iload dX8_changesTo_107 rfl ?_
      refine mG_iconst (v := nI 2) dX8_changesTo_109 (by decide) ?_
      refine mG_iload dX8_changesTo_110 rfl ?_
      refine mG_imulN dX8_changesTo_112 ?_
      refine mG_ishlN dX8_changesTo_113 (by omega) (Nat.lt_trans (shl3 hl2 (by omega)) (by decide)) ?_
      refine mG_iorN dX8_changesTo_114 ?_
      refine mG_iload dX8_changesTo_115 rfl ?_
      refine mG_iconst (v := nI 2) dX8_changesTo_117 (by decide) ?_
      refine mG_iload dX8_changesTo_118 rfl ?_
      refine mG_imulN dX8_changesTo_120 ?_
      refine mG_ishlN dX8_changesTo_121 (by omega) (Nat.lt_trans (shl3 hl1 hq) (by decide)) ?_
      refine mG_iorN dX8_changesTo_122 ?_
      refine mG_istore dX8_changesTo_123 (Nat.le_of_ble_eq_true rfl) rfl rfl ?_
      refine mG_iincN dX8_changesTo_125 rfl (Nat.le_of_ble_eq_true rfl) rfl rfl ?_
      refine mG_iincN dX8_changesTo_128 rfl (Nat.le_of_ble_eq_true rfl) rfl rfl ?_
      refine mG_goto dX8_changesTo_131 ?_
      exact ih (i + 1) _ _ _ _ _ _ (by omega) (cgN_lt ha (by omega) hq hl1 hl2) (by rw [hR]; show (iterF (cgS (cb 0) to) (i + 1) k (cgS (cb 0) to i (a1, m))).2 = _; rw [cgS, if_neg c40]; rfl)
set_option maxRecDepth 100000 in
set_option maxHeartbeats 4000000 in
theorem ok_X8_changesTo {E : mE} {h : mH} {ty a sd so va it mo fa : Nat} {wr : Bool} {tr : Int64} {fm to : Nat} {cb : Nat → Nat} (e40 : h 40 = oMo ty a sd so va wr it mo fa tr) (e42 : h 42 = mAr 2 cb) (hcb : cb 0 ≤ 4) (hto : to < 256) (hfm : fm < 256) : mOk E 2 zX8_changesTo [.ref 40, vN fm, vN to] h (mX (some (vN (cgF (cb 0) fm to))) h) := by
  refine mOk_w (L := [some (.ref 40), some (vN fm), some (vN to), none, none, none, none, none, none, none]) pn_X8 rfl (Nat.le_of_ble_eq_true rfl) rfl ?_
  refine mG_iconst (v := nI 0) dX8_changesTo_0 (by decide) ?_
  refine mG_istore_n dX8_changesTo_1 (Nat.le_of_ble_eq_true rfl) rfl rfl ?_
  refine mG_iload_n dX8_changesTo_2 rfl ?_
  refine mG_istore dX8_changesTo_3 (Nat.le_of_ble_eq_true rfl) rfl rfl ?_
  refine mG_iconst (v := nI 0) dX8_changesTo_5 (by decide) ?_
  refine mG_istore dX8_changesTo_6 (Nat.le_of_ble_eq_true rfl) rfl rfl ?_
  exact lp_X8_ch e40 e42 hcb hto (cb 0) 0 fm 0 _ _ _ _ (Nat.zero_add _) hfm rfl
set_option maxRecDepth 100000 in
set_option maxHeartbeats 4000000 in
theorem lp_X8_placeIn {E : mE} {h : mH} {ty a sd so va it mo fa : Nat} {wr : Bool} {tr : Int64} {o c : Nat} {cb : Nat → Nat} (e40 : h 40 = oMo ty a sd so va wr it mo fa tr) (e42 : h 42 = mAr 2 cb) (hcb : cb 0 ≤ 4) (hoo : o < 256) (hc : c < 4) : ∀ (k i : Nat), i + k = cb 0 → mG E (mR 2, zX8_placeIn) (mKq E (mR 2) mN (mX (some (vN (plF (cIn o) c (cb 0)))) h)) 5 [some (.ref 40), some (vN o), some (vN c), some (vN (plF (cIn o) c i)), some (vN i)] [] (mN, 0, 0) h := by
  intro k
  induction k with
  | zero =>
    intro i hk
    refine mG_iload dX8_placeIn_5 rfl ?_
    refine mG_aload_n dX8_placeIn_7 rfl ?_
    refine mG_get fX8_13 dX8_placeIn_8 e40 (Nat.le_of_ble_eq_true rfl) rfl ?_
    refine mG_iconst (v := nI 0) dX8_placeIn_11 (by decide) ?_
    refine mG_ialdA dX8_placeIn_12 e42 (Nat.le_of_ble_eq_true rfl) (by decide) (by omega) ?_
    refine mG_icmp_geN dX8_placeIn_13 (by omega) (by omega) (fun c13 => ?_) (fun c13 => absurd c13 (by omega))
    refine mG_iload_n dX8_placeIn_39 rfl ?_
    exact mG_iret dX8_placeIn_40 rfl (mX_of (by rw [show i = cb 0 by omega]) rfl)
  | succ k ih =>
    intro i hk
    refine mG_iload dX8_placeIn_5 rfl ?_
    refine mG_aload_n dX8_placeIn_7 rfl ?_
    refine mG_get fX8_13 dX8_placeIn_8 e40 (Nat.le_of_ble_eq_true rfl) rfl ?_
    refine mG_iconst (v := nI 0) dX8_placeIn_11 (by decide) ?_
    refine mG_ialdA dX8_placeIn_12 e42 (Nat.le_of_ble_eq_true rfl) (by decide) (by omega) ?_
    refine mG_icmp_geN dX8_placeIn_13 (by omega) (by omega) (fun c13 => absurd c13 (by omega)) (fun c13 => ?_)
    refine mG_iload_n dX8_placeIn_16 rfl ?_
    refine mG_iload dX8_placeIn_17 rfl ?_
    refine mG_cs2 sX8_127 dX8_placeIn_19 (mLe_of rfl) (Nat.le_of_ble_eq_true rfl) (ok_X8_cubeIn (by omega) (by omega)) ?_
    refine mG_iload_n dX8_placeIn_22 rfl ?_
    have hl1 := cIn_lt o i
    refine mG_icmp_neN dX8_placeIn_23 (by omega) (by omega) (fun c23 => ?_) (fun c23 => ?_)
    · refine mG_iload_n dX8_placeIn_31 rfl ?_
      refine mG_istore_n dX8_placeIn_32 (Nat.le_of_ble_eq_true rfl) rfl rfl ?_
      refine mG_iincN dX8_placeIn_33 rfl (Nat.le_of_ble_eq_true rfl) rfl rfl ?_
      refine mG_goto dX8_placeIn_36 ?_
      have q := ih (i + 1) (by omega)
      rw [plF] at q
      first
        | (rw [if_pos c23] at q; exact q)
        | (rw [if_neg c23] at q; exact q)
    · refine mG_iload dX8_placeIn_26 rfl ?_
      refine mG_goto dX8_placeIn_28 ?_
      refine mG_istore_n dX8_placeIn_32 (Nat.le_of_ble_eq_true rfl) rfl rfl ?_
      refine mG_iincN dX8_placeIn_33 rfl (Nat.le_of_ble_eq_true rfl) rfl rfl ?_
      refine mG_goto dX8_placeIn_36 ?_
      have q := ih (i + 1) (by omega)
      rw [plF] at q
      first
        | (rw [if_pos c23] at q; exact q)
        | (rw [if_neg c23] at q; exact q)
set_option maxRecDepth 100000 in
set_option maxHeartbeats 4000000 in
theorem ok_X8_placeIn {E : mE} {h : mH} {ty a sd so va it mo fa : Nat} {wr : Bool} {tr : Int64} {o c : Nat} {cb : Nat → Nat} (e40 : h 40 = oMo ty a sd so va wr it mo fa tr) (e42 : h 42 = mAr 2 cb) (hcb : cb 0 ≤ 4) (hoo : o < 256) (hc : c < 4) : mOk E 2 zX8_placeIn [.ref 40, vN o, vN c] h (mX (some (vN (plF (cIn o) c (cb 0)))) h) := by
  refine mOk_w (L := [some (.ref 40), some (vN o), some (vN c), none, none]) pn_X8 rfl (Nat.le_of_ble_eq_true rfl) rfl ?_
  refine mG_iconst (v := nI 0) dX8_placeIn_0 (by decide) ?_
  refine mG_istore_n dX8_placeIn_1 (Nat.le_of_ble_eq_true rfl) rfl rfl ?_
  refine mG_iconst (v := nI 0) dX8_placeIn_2 (by decide) ?_
  refine mG_istore dX8_placeIn_3 (Nat.le_of_ble_eq_true rfl) rfl rfl ?_
  exact lp_X8_placeIn e40 e42 hcb hoo hc (cb 0) 0 (Nat.zero_add _)
def wbF (ls : Nat → Nat) (cu a b c o : Nat) : Nat := ls (64 * o + 16 * plF (cIn a) o cu + 4 * plF (cIn b) o cu + plF (cIn c) o cu)
def wbR (ls : Nat → Nat) (cu a b c : Nat) : Nat := smG (wbF ls cu a b c) cu
set_option maxRecDepth 100000 in
set_option maxHeartbeats 4000000 in
theorem lp_X8_workBy {E : mE} {h : mH} {ty a sd so va it mo fa : Nat} {wr : Bool} {tr : Int64} {x y z : Nat} {cb ls : Nat → Nat} (e40 : h 40 = oMo ty a sd so va wr it mo fa tr) (e42 : h 42 = mAr 2 cb) (hcb : cb 0 ≤ 4) (e52 : h 52 = mAr 256 ls) (hA : x < 256) (hB : y < 256) (hC : z < 256) : ∀ (k i : Nat), i + k = cb 0 → mG E (mR 3, zX8_workBy) (mKq E (mR 3) mN (mX (some (vN (wbR ls (cb 0) x y z))) h)) 6 [some (.ref 40), some (vN x), some (vN y), some (vN z), some (vN (smG (wbF ls (cb 0) x y z) i)), some (vN i)] [] (mN, 0, 0) h := by
  intro k
  induction k with
  | zero =>
    intro i hk
    refine mG_iload dX8_workBy_6 rfl ?_
    refine mG_aload_n dX8_workBy_8 rfl ?_
    refine mG_get fX8_13 dX8_workBy_9 e40 (Nat.le_of_ble_eq_true rfl) rfl ?_
    refine mG_iconst (v := nI 0) dX8_workBy_12 (by decide) ?_
    refine mG_ialdA dX8_workBy_13 e42 (Nat.le_of_ble_eq_true rfl) (by decide) (by omega) ?_
    refine mG_icmp_geN dX8_workBy_14 (by omega) (by omega) (fun c14 => ?_) (fun c14 => absurd c14 (by omega))
    refine mG_iload dX8_workBy_67 rfl ?_
    exact mG_iret dX8_workBy_69 rfl (mX_of (by rw [show i = cb 0 by omega]; rfl) rfl)
  | succ k ih =>
    intro i hk
    refine mG_iload dX8_workBy_6 rfl ?_
    refine mG_aload_n dX8_workBy_8 rfl ?_
    refine mG_get fX8_13 dX8_workBy_9 e40 (Nat.le_of_ble_eq_true rfl) rfl ?_
    refine mG_iconst (v := nI 0) dX8_workBy_12 (by decide) ?_
    refine mG_ialdA dX8_workBy_13 e42 (Nat.le_of_ble_eq_true rfl) (by decide) (by omega) ?_
    refine mG_icmp_geN dX8_workBy_14 (by omega) (by omega) (fun c14 => absurd c14 (by omega)) (fun c14 => ?_)
    refine mG_iload dX8_workBy_17 rfl ?_
    refine mG_aload_n dX8_workBy_19 rfl ?_
    refine mG_get fX8_45 dX8_workBy_20 e40 (Nat.le_of_ble_eq_true rfl) rfl ?_
    refine mG_bipush (v := nI 64) dX8_workBy_23 (by decide) ?_
    refine mG_iload dX8_workBy_25 rfl ?_
    refine mG_imulN dX8_workBy_27 ?_
    refine mG_bipush (v := nI 16) dX8_workBy_28 (by decide) ?_
    refine mG_aload_n dX8_workBy_30 rfl ?_
    refine mG_iload_n dX8_workBy_31 rfl ?_
    refine mG_iload dX8_workBy_32 rfl ?_
    refine mG_cv2 vX8_186 dX8_workBy_34 (mLe_of rfl) (Nat.le_of_ble_eq_true rfl) e40 (Nat.le_of_ble_eq_true rfl) (ok_X8_placeIn e40 e42 hcb hA (by omega)) ?_
    refine mG_imulN dX8_workBy_37 ?_
    refine mG_iaddN dX8_workBy_38 ?_
    refine mG_iconst (v := nI 4) dX8_workBy_39 (by decide) ?_
    refine mG_aload_n dX8_workBy_40 rfl ?_
    refine mG_iload_n dX8_workBy_41 rfl ?_
    refine mG_iload dX8_workBy_42 rfl ?_
    refine mG_cv2 vX8_186 dX8_workBy_44 (mLe_of rfl) (Nat.le_of_ble_eq_true rfl) e40 (Nat.le_of_ble_eq_true rfl) (ok_X8_placeIn e40 e42 hcb hB (by omega)) ?_
    refine mG_imulN dX8_workBy_47 ?_
    refine mG_iaddN dX8_workBy_48 ?_
    refine mG_aload_n dX8_workBy_49 rfl ?_
    refine mG_iload_n dX8_workBy_50 rfl ?_
    refine mG_iload dX8_workBy_51 rfl ?_
    refine mG_cv2 vX8_186 dX8_workBy_53 (mLe_of rfl) (Nat.le_of_ble_eq_true rfl) e40 (Nat.le_of_ble_eq_true rfl) (ok_X8_placeIn e40 e42 hcb hC (by omega)) ?_
    refine mG_iaddN dX8_workBy_56 ?_
    have p1 := plF_4 (g := cIn x) (c := i) hcb
    have p2 := plF_4 (g := cIn y) (c := i) hcb
    have p3 := plF_4 (g := cIn z) (c := i) hcb
    refine mG_ialdA dX8_workBy_57 e52 (Nat.le_of_ble_eq_true rfl) (by decide) (by omega) ?_
    refine mG_iaddN dX8_workBy_58 ?_
    refine mG_istore dX8_workBy_59 (Nat.le_of_ble_eq_true rfl) rfl rfl ?_
    refine mG_iincN dX8_workBy_61 rfl (Nat.le_of_ble_eq_true rfl) rfl rfl ?_
    refine mG_goto dX8_workBy_64 ?_
    exact ih (i + 1) (by omega)
set_option maxRecDepth 100000 in
set_option maxHeartbeats 4000000 in
theorem ok_X8_workBy {E : mE} {h : mH} {ty a sd so va it mo fa : Nat} {wr : Bool} {tr : Int64} {x y z : Nat} {cb ls : Nat → Nat} (e40 : h 40 = oMo ty a sd so va wr it mo fa tr) (e42 : h 42 = mAr 2 cb) (hcb : cb 0 ≤ 4) (e52 : h 52 = mAr 256 ls) (hA : x < 256) (hB : y < 256) (hC : z < 256) : mOk E 3 zX8_workBy [.ref 40, vN x, vN y, vN z] h (mX (some (vN (wbR ls (cb 0) x y z))) h) := by
  refine mOk_w (L := [some (.ref 40), some (vN x), some (vN y), some (vN z), none, none]) pn_X8 rfl (Nat.le_of_ble_eq_true rfl) rfl ?_
  refine mG_iconst (v := nI 0) dX8_workBy_0 (by decide) ?_
  refine mG_istore dX8_workBy_1 (Nat.le_of_ble_eq_true rfl) rfl rfl ?_
  refine mG_iconst (v := nI 0) dX8_workBy_3 (by decide) ?_
  refine mG_istore dX8_workBy_4 (Nat.le_of_ble_eq_true rfl) rfl rfl ?_
  exact lp_X8_workBy e40 e42 hcb e52 hA hB hC (cb 0) 0 (Nat.zero_add _)
def ptP (nw : Nat → Nat) (bo : Bool) (cu n o p : Nat) : Nat := if hfB nw bo (cIn o p) (fgo cu n p) 6 6 = true then 0 else 1
def ptS (nw : Nat → Nat) (bo : Bool) (cu n : Nat) (od : Nat → Nat) (k b : Nat) : Nat := min b (smG (ptP nw bo cu n (od k)) cu)
def ptR (nw : Nat → Nat) (bo : Bool) (cu mo : Nat) (od : Nat → Nat) (n : Nat) : Nat := iterF (ptS nw bo cu n od) 0 mo 100000
theorem smG_le {f : Nat → Nat} {m : Nat} : ∀ n, (∀ j, j < n → f j ≤ m) → smG f n ≤ n * m := by
  intro n
  induction n with
  | zero => intro _; exact Nat.zero_le _
  | succ n ih =>
    intro h
    unfold smG
    have h1 := ih (fun j hj => h j (by omega))
    have h2 := h n (by omega)
    rw [Nat.succ_mul]
    omega
theorem ptP_le {nw : Nat → Nat} {bo : Bool} {cu n o p : Nat} : ptP nw bo cu n o p ≤ 1 := by unfold ptP; split <;> omega
set_option maxRecDepth 100000 in
set_option maxHeartbeats 4000000 in
theorem lp_X8_ptI {E : mE} {h : mH} {K : mKt} {ty a sd so va it mo fa : Nat} {wr : Bool} {tr : Int64} {n be kk : Nat} {bb cb nw od : Nat → Nat} (e40 : h 40 = oMo ty a sd so va wr it mo fa tr) (e42 : h 42 = mAr 2 cb) (hcb : cb 0 ≤ 4) (e44 : h 44 = mAr 2 bb) (hbb : bb 0 ≤ 1) (e47 : h 47 = mAr 33 nw) (e53 : h 53 = mAr 24 od) (ho : oOK (cb 0) mo od) (hnf : ∀ j, j < cb 0 * 6 → nw j < 10) (hn : n < 2 ^ 31) (hkk : kk < mo) (hK : ∀ x, mG E (mR 3, zX8_pastesFor) K 73 [some (.ref 40), some (vN n), some (vN be), some (vN kk), some (vN (smG (ptP nw (decide (bb 0 = 1)) (cb 0) n (od kk)) (cb 0))), some (vN x)] [] (mN, 0, 0) h) : ∀ (k i : Nat), i + k = cb 0 → mG E (mR 3, zX8_pastesFor) K 19 [some (.ref 40), some (vN n), some (vN be), some (vN kk), some (vN (smG (ptP nw (decide (bb 0 = 1)) (cb 0) n (od kk)) i)), some (vN i)] [] (mN, 0, 0) h := by
  intro k
  induction k with
  | zero =>
    intro i hk
    refine mG_iload dX8_pastesFor_19 rfl ?_
    refine mG_aload_n dX8_pastesFor_21 rfl ?_
    refine mG_get fX8_13 dX8_pastesFor_22 e40 (Nat.le_of_ble_eq_true rfl) rfl ?_
    refine mG_iconst (v := nI 0) dX8_pastesFor_25 (by decide) ?_
    refine mG_ialdA dX8_pastesFor_26 e42 (Nat.le_of_ble_eq_true rfl) (by decide) (by omega) ?_
    refine mG_icmp_geN dX8_pastesFor_27 (by omega) (by omega) (fun c27 => ?_) (fun c27 => absurd c27 (by omega))
    obtain rfl : i = cb 0 := by omega
    exact hK _
  | succ k ih =>
    intro i hk
    refine mG_iload dX8_pastesFor_19 rfl ?_
    refine mG_aload_n dX8_pastesFor_21 rfl ?_
    refine mG_get fX8_13 dX8_pastesFor_22 e40 (Nat.le_of_ble_eq_true rfl) rfl ?_
    refine mG_iconst (v := nI 0) dX8_pastesFor_25 (by decide) ?_
    refine mG_ialdA dX8_pastesFor_26 e42 (Nat.le_of_ble_eq_true rfl) (by decide) (by omega) ?_
    refine mG_icmp_geN dX8_pastesFor_27 (by omega) (by omega) (fun c27 => absurd c27 (by omega)) (fun c27 => ?_)
    refine mG_iload dX8_pastesFor_30 rfl ?_
    refine mG_aload_n dX8_pastesFor_32 rfl ?_
    refine mG_aload_n dX8_pastesFor_33 rfl ?_
    refine mG_get fX8_48 dX8_pastesFor_34 e40 (Nat.le_of_ble_eq_true rfl) rfl ?_
    refine mG_iload_n dX8_pastesFor_37 rfl ?_
    refine mG_ialdA dX8_pastesFor_38 e53 (Nat.le_of_ble_eq_true rfl) (by decide) (Nat.lt_of_lt_of_le hkk ho.1) ?_
    refine mG_iload dX8_pastesFor_39 rfl ?_
    refine mG_cs2 sX8_127 dX8_pastesFor_41 (mLe_of rfl) (Nat.le_of_ble_eq_true rfl) (ok_X8_cubeIn (Nat.lt_trans (ho.2.1 kk hkk) (by decide)) (by omega)) ?_
    have hoc := ho.2.2 kk i hkk c27
    have ho4 := cIn_lt (od kk) i
    refine mG_aload_n dX8_pastesFor_44 rfl ?_
    refine mG_iload_n dX8_pastesFor_45 rfl ?_
    refine mG_iload dX8_pastesFor_46 rfl ?_
    refine mG_cv2 vX8_133 dX8_pastesFor_48 (mLe_of rfl) (Nat.le_of_ble_eq_true rfl) e40 (Nat.le_of_ble_eq_true rfl) (ok_X8_figureOf e40 e42 hcb hn c27) ?_
    refine mG_bipush (v := nI 6) dX8_pastesFor_51 (by decide) ?_
    have hfl := fgo_lt (cb 0) n i
    refine mG_cv3 vX8_136 dX8_pastesFor_53 (mLe_of rfl) (Nat.le_of_ble_eq_true rfl) e40 (Nat.le_of_ble_eq_true rfl) (ok_X8_hasFit e40 e44 hbb e47 ho4 (by omega) (by decide) (fun j hj => Nat.lt_trans (hnf _ (by omega)) (by decide))) ?_
    refine mG_if_eqB dX8_pastesFor_56 (fun c56 => ?_) (fun c56 => ?_)
    · refine mG_iconst (v := nI 1) dX8_pastesFor_63 (by decide) ?_
      refine mG_iaddN dX8_pastesFor_64 ?_
      refine mG_istore dX8_pastesFor_65 (Nat.le_of_ble_eq_true rfl) rfl rfl ?_
      refine mG_iincN dX8_pastesFor_67 rfl (Nat.le_of_ble_eq_true rfl) rfl rfl ?_
      refine mG_goto dX8_pastesFor_70 ?_
      have q := ih (i + 1) (by omega)
      rw [smG] at q
      unfold ptP at q ⊢
      first
        | (rw [if_pos c56] at q; exact q)
        | (rw [if_neg (by rw [c56]; exact Bool.noConfusion)] at q; exact q)
    · refine mG_iconst (v := nI 0) dX8_pastesFor_59 (by decide) ?_
      refine mG_goto dX8_pastesFor_60 ?_
      refine mG_iaddN dX8_pastesFor_64 ?_
      refine mG_istore dX8_pastesFor_65 (Nat.le_of_ble_eq_true rfl) rfl rfl ?_
      refine mG_iincN dX8_pastesFor_67 rfl (Nat.le_of_ble_eq_true rfl) rfl rfl ?_
      refine mG_goto dX8_pastesFor_70 ?_
      have q := ih (i + 1) (by omega)
      rw [smG] at q
      unfold ptP at q ⊢
      first
        | (rw [if_pos c56] at q; exact q)
        | (rw [if_neg (by rw [c56]; exact Bool.noConfusion)] at q; exact q)
set_option maxRecDepth 100000 in
set_option maxHeartbeats 4000000 in
theorem lp_X8_pt {E : mE} {h : mH} {ty a sd so va it mo fa : Nat} {wr : Bool} {tr : Int64} {n R : Nat} {bb cb nw od : Nat → Nat} (e40 : h 40 = oMo ty a sd so va wr it mo fa tr) (e42 : h 42 = mAr 2 cb) (hcb : cb 0 ≤ 4) (e44 : h 44 = mAr 2 bb) (hbb : bb 0 ≤ 1) (e47 : h 47 = mAr 33 nw) (e53 : h 53 = mAr 24 od) (ho : oOK (cb 0) mo od) (hnf : ∀ j, j < cb 0 * 6 → nw j < 10) (hn : n < 2 ^ 31) : ∀ (k i b : Nat) (x4 x5 : Option Value), i + k = mo → b ≤ 100000 → R = iterF (ptS nw (decide (bb 0 = 1)) (cb 0) n od) i k b → mG E (mR 3, zX8_pastesFor) (mKq E (mR 3) mN (mX (some (vN R)) h)) 5 [some (.ref 40), some (vN n), some (vN b), some (vN i), x4, x5] [] (mN, 0, 0) h := by
  intro k
  induction k with
  | zero =>
    intro i b x4 x5 hk hb hR
    refine mG_iload_n dX8_pastesFor_5 rfl ?_
    refine mG_aload_n dX8_pastesFor_6 rfl ?_
    refine mG_get fX8_130 dX8_pastesFor_7 e40 (Nat.le_of_ble_eq_true rfl) rfl ?_
    have hmo := ho.1
    refine mG_icmp_geN dX8_pastesFor_10 (by omega) (by omega) (fun c10 => ?_) (fun c10 => absurd c10 (by omega))
    refine mG_iload_n dX8_pastesFor_92 rfl ?_
    exact mG_iret dX8_pastesFor_93 rfl (mX_of (by subst hR; rfl) rfl)
  | succ k ih =>
    intro i b x4 x5 hk hb hR
    refine mG_iload_n dX8_pastesFor_5 rfl ?_
    refine mG_aload_n dX8_pastesFor_6 rfl ?_
    refine mG_get fX8_130 dX8_pastesFor_7 e40 (Nat.le_of_ble_eq_true rfl) rfl ?_
    have hmo := ho.1
    refine mG_icmp_geN dX8_pastesFor_10 (by omega) (by omega) (fun c10 => absurd c10 (by omega)) (fun c10 => ?_)
    refine mG_iconst (v := nI 0) dX8_pastesFor_13 (by decide) ?_
    refine mG_istore dX8_pastesFor_14 (Nat.le_of_ble_eq_true rfl) rfl rfl ?_
    refine mG_iconst (v := nI 0) dX8_pastesFor_16 (by decide) ?_
    refine mG_istore dX8_pastesFor_17 (Nat.le_of_ble_eq_true rfl) rfl rfl ?_
    refine lp_X8_ptI (kk := i) e40 e42 hcb e44 hbb e47 e53 ho hnf hn c10 (fun x => ?_) (cb 0) 0 (Nat.zero_add _)
    have hsm := smG_le (f := ptP nw (decide (bb 0 = 1)) (cb 0) n (od i)) (m := 1) (cb 0) (fun _ _ => ptP_le)
    refine mG_iload dX8_pastesFor_73 rfl ?_
    refine mG_iload_n dX8_pastesFor_75 rfl ?_
    refine mG_icmp_geN dX8_pastesFor_76 (by omega) (by omega) (fun c76 => ?_) (fun c76 => ?_)
    · refine mG_iload_n dX8_pastesFor_84 rfl ?_
      refine mG_istore_n dX8_pastesFor_85 (Nat.le_of_ble_eq_true rfl) rfl rfl ?_
      refine mG_iincN dX8_pastesFor_86 rfl (Nat.le_of_ble_eq_true rfl) rfl rfl ?_
      refine mG_goto dX8_pastesFor_89 ?_
      have e : iterF (ptS nw (decide (bb 0 = 1)) (cb 0) n od) i (k + 1) b = iterF (ptS nw (decide (bb 0 = 1)) (cb 0) n od) (i + 1) k (min b (smG (ptP nw (decide (bb 0 = 1)) (cb 0) n (od i)) (cb 0))) := rfl
      rw [e] at hR
      first
        | (rw [Nat.min_eq_left c76] at hR; exact ih (i + 1) _ _ _ (by omega) (by omega) hR)
        | (rw [Nat.min_eq_right (Nat.le_of_lt c76)] at hR; exact ih (i + 1) _ _ _ (by omega) (by omega) hR)
    · refine mG_iload dX8_pastesFor_79 rfl ?_
      refine mG_goto dX8_pastesFor_81 ?_
      refine mG_istore_n dX8_pastesFor_85 (Nat.le_of_ble_eq_true rfl) rfl rfl ?_
      refine mG_iincN dX8_pastesFor_86 rfl (Nat.le_of_ble_eq_true rfl) rfl rfl ?_
      refine mG_goto dX8_pastesFor_89 ?_
      have e : iterF (ptS nw (decide (bb 0 = 1)) (cb 0) n od) i (k + 1) b = iterF (ptS nw (decide (bb 0 = 1)) (cb 0) n od) (i + 1) k (min b (smG (ptP nw (decide (bb 0 = 1)) (cb 0) n (od i)) (cb 0))) := rfl
      rw [e] at hR
      first
        | (rw [Nat.min_eq_left c76] at hR; exact ih (i + 1) _ _ _ (by omega) (by omega) hR)
        | (rw [Nat.min_eq_right (Nat.le_of_lt c76)] at hR; exact ih (i + 1) _ _ _ (by omega) (by omega) hR)
set_option maxRecDepth 100000 in
set_option maxHeartbeats 4000000 in
theorem ok_X8_pastesFor {E : mE} {h : mH} {ty a sd so va it mo fa : Nat} {wr : Bool} {tr : Int64} {n : Nat} {bb cb nw od : Nat → Nat} (e40 : h 40 = oMo ty a sd so va wr it mo fa tr) (e42 : h 42 = mAr 2 cb) (hcb : cb 0 ≤ 4) (e44 : h 44 = mAr 2 bb) (hbb : bb 0 ≤ 1) (e47 : h 47 = mAr 33 nw) (e53 : h 53 = mAr 24 od) (ho : oOK (cb 0) mo od) (hnf : ∀ j, j < cb 0 * 6 → nw j < 10) (hn : n < 2 ^ 31) : mOk E 3 zX8_pastesFor [.ref 40, vN n] h (mX (some (vN (ptR nw (decide (bb 0 = 1)) (cb 0) mo od n))) h) := by
  refine mOk_w (L := [some (.ref 40), some (vN n), none, none, none, none]) pn_X8 rfl (Nat.le_of_ble_eq_true rfl) rfl ?_
  refine mG_ldc dX8_pastesFor_0 kX8_175 ?_
  refine mG_istore_n dX8_pastesFor_2 (Nat.le_of_ble_eq_true rfl) rfl rfl ?_
  refine mG_iconst (v := nI 0) dX8_pastesFor_3 (by decide) ?_
  refine mG_istore_n dX8_pastesFor_4 (Nat.le_of_ble_eq_true rfl) rfl rfl ?_
  exact lp_X8_pt e40 e42 hcb e44 hbb e47 e53 ho hnf hn mo 0 100000 _ _ (Nat.zero_add _) (Nat.le_refl _) rfl
def byP (nw : Nat → Nat) (bo : Bool) (cu sd n o p : Nat) : Bool := fit bo (nw (6 * cIn o p + sd / 6 ^ cIn o p % 6)) (fgo cu n p)
def byR (nw : Nat → Nat) (bo : Bool) (cu mo : Nat) (od : Nat → Nat) (sd n : Nat) : Bool := anyF (fun k => allF (byP nw bo cu sd n (od k)) 0 cu) 0 mo
set_option maxRecDepth 100000 in
set_option maxHeartbeats 4000000 in
theorem le_X8_isByF {E : mE} {h : mH} {K : mKt} {ty a sd so va it mo fa : Nat} {wr : Bool} {tr : Int64} {q0 n kk i : Nat} {R : Bool} {o6 o7 o8 : Option Value} {cb : Nat → Nat} (e40 : h 40 = oMo ty a sd so va wr it mo fa tr) (e42 : h 42 = mAr 2 cb) (hcb : cb 0 ≤ 4) (hR : R = false) (hK : ∀ x y6 y7 y8, mG E (mR 3, zX8_isBy) K 106 [some (.ref 40), some (vN q0), some (vN n), some (vN kk), some (vB R), some (vN x), y6, y7, y8] [] (mN, 0, 0) h) (hi : i < 2 ^ 31) : mG E (mR 3, zX8_isBy) K 16 [some (.ref 40), some (vN q0), some (vN n), some (vN kk), some (vB false), some (vN i), o6, o7, o8] [] (mN, 0, 0) h := by
  subst hR
  refine mG_iload dX8_isBy_16 rfl ?_
  refine mG_aload_n dX8_isBy_18 rfl ?_
  refine mG_get fX8_13 dX8_isBy_19 e40 (Nat.le_of_ble_eq_true rfl) rfl ?_
  refine mG_iconst (v := nI 0) dX8_isBy_22 (by decide) ?_
  refine mG_ialdA dX8_isBy_23 e42 (Nat.le_of_ble_eq_true rfl) (by decide) (by omega) ?_
  refine mG_icmp_geN dX8_isBy_24 (by omega) (by omega) (fun c24 => ?_) (fun c24 => ?_)
  · exact hK i _ _ _
  · refine mG_iload dX8_isBy_27 rfl ?_
    refine mG_if_eqB dX8_isBy_29 (fun c29 => ?_) (fun c29 => Bool.noConfusion c29)
    exact hK i _ _ _
set_option maxRecDepth 100000 in
set_option maxHeartbeats 4000000 in
theorem lp_X8_isByD {E : mE} {h : mH} {K : mKt} {q0 n kk p c : Nat} {is : Bool} (hc : c < 4) (hq : q0 < 2 ^ 31) (hK : ∀ x, mG E (mR 3, zX8_isBy) K 71 [some (.ref 40), some (vN q0), some (vN n), some (vN kk), some (vB is), some (vN p), some (vN c), some (vN (q0 / 6 ^ c)), some (vN x)] [] (mN, 0, 0) h) : ∀ (k i : Nat), i + k = c → mG E (mR 3, zX8_isBy) K 51 [some (.ref 40), some (vN q0), some (vN n), some (vN kk), some (vB is), some (vN p), some (vN c), some (vN (q0 / 6 ^ i)), some (vN i)] [] (mN, 0, 0) h := by
  intro k
  induction k with
  | zero =>
    intro i hk
    refine mG_iload dX8_isBy_51 rfl ?_
    refine mG_iload dX8_isBy_53 rfl ?_
    refine mG_icmp_geN dX8_isBy_55 (by omega) (by omega) (fun c55 => ?_) (fun c55 => absurd c55 (by omega))
    obtain rfl : i = c := by omega
    exact hK _
  | succ k ih =>
    intro i hk
    refine mG_iload dX8_isBy_51 rfl ?_
    refine mG_iload dX8_isBy_53 rfl ?_
    refine mG_icmp_geN dX8_isBy_55 (by omega) (by omega) (fun c55 => absurd c55 (by omega)) (fun c55 => ?_)
    refine mG_iload dX8_isBy_58 rfl ?_
    refine mG_bipush (v := nI 6) dX8_isBy_60 (by decide) ?_
    refine mG_idivN dX8_isBy_62 (Nat.lt_of_le_of_lt (Nat.div_le_self _ _) hq) (by decide) (by decide) ?_
    refine mG_istore dX8_isBy_63 (Nat.le_of_ble_eq_true rfl) rfl rfl ?_
    refine mG_iincN dX8_isBy_65 rfl (Nat.le_of_ble_eq_true rfl) rfl rfl ?_
    refine mG_goto dX8_isBy_68 ?_
    have q := ih (i + 1) (by omega)
    rw [Nat.pow_succ, ← Nat.div_div_eq_div_mul] at q
    exact q
set_option maxRecDepth 100000 in
set_option maxHeartbeats 4000000 in
theorem lp_X8_isByI {E : mE} {h : mH} {K : mKt} {ty a sd so va it mo fa : Nat} {wr : Bool} {tr : Int64} {q0 n kk : Nat} {R : Bool} {bb cb nw od : Nat → Nat} (e40 : h 40 = oMo ty a sd so va wr it mo fa tr) (e42 : h 42 = mAr 2 cb) (hcb : cb 0 ≤ 4) (e44 : h 44 = mAr 2 bb) (hbb : bb 0 ≤ 1) (e47 : h 47 = mAr 33 nw) (e53 : h 53 = mAr 24 od) (ho : oOK (cb 0) mo od) (hnf : ∀ j, j < cb 0 * 6 → nw j < 10) (hn : n < 2 ^ 31) (hq : q0 < 2 ^ 31) (hkk : kk < mo) (hK : ∀ x y6 y7 y8, mG E (mR 3, zX8_isBy) K 106 [some (.ref 40), some (vN q0), some (vN n), some (vN kk), some (vB R), some (vN x), y6, y7, y8] [] (mN, 0, 0) h) : ∀ (k i : Nat) (o6 o7 o8 : Option Value), i + k = cb 0 → R = allF (byP nw (decide (bb 0 = 1)) (cb 0) q0 n (od kk)) i k → mG E (mR 3, zX8_isBy) K 16 [some (.ref 40), some (vN q0), some (vN n), some (vN kk), some (vB true), some (vN i), o6, o7, o8] [] (mN, 0, 0) h := by
  intro k
  induction k with
  | zero =>
    intro i o6 o7 o8 hk hR
    refine mG_iload dX8_isBy_16 rfl ?_
    refine mG_aload_n dX8_isBy_18 rfl ?_
    refine mG_get fX8_13 dX8_isBy_19 e40 (Nat.le_of_ble_eq_true rfl) rfl ?_
    refine mG_iconst (v := nI 0) dX8_isBy_22 (by decide) ?_
    refine mG_ialdA dX8_isBy_23 e42 (Nat.le_of_ble_eq_true rfl) (by decide) (by omega) ?_
    refine mG_icmp_geN dX8_isBy_24 (by omega) (by omega) (fun c24 => ?_) (fun c24 => absurd c24 (by omega))
    subst hR
    exact hK i _ _ _
  | succ k ih =>
    intro i o6 o7 o8 hk hR
    refine mG_iload dX8_isBy_16 rfl ?_
    refine mG_aload_n dX8_isBy_18 rfl ?_
    refine mG_get fX8_13 dX8_isBy_19 e40 (Nat.le_of_ble_eq_true rfl) rfl ?_
    refine mG_iconst (v := nI 0) dX8_isBy_22 (by decide) ?_
    refine mG_ialdA dX8_isBy_23 e42 (Nat.le_of_ble_eq_true rfl) (by decide) (by omega) ?_
    refine mG_icmp_geN dX8_isBy_24 (by omega) (by omega) (fun c24 => absurd c24 (by omega)) (fun c24 => ?_)
    refine mG_iload dX8_isBy_27 rfl ?_
    refine mG_if_eqB dX8_isBy_29 (fun c29 => Bool.noConfusion c29) (fun c29 => ?_)
    refine mG_aload_n dX8_isBy_32 rfl ?_
    refine mG_get fX8_48 dX8_isBy_33 e40 (Nat.le_of_ble_eq_true rfl) rfl ?_
    refine mG_iload_n dX8_isBy_36 rfl ?_
    refine mG_ialdA dX8_isBy_37 e53 (Nat.le_of_ble_eq_true rfl) (by decide) (Nat.lt_of_lt_of_le hkk ho.1) ?_
    refine mG_iload dX8_isBy_38 rfl ?_
    refine mG_cs2 sX8_127 dX8_isBy_40 (mLe_of rfl) (Nat.le_of_ble_eq_true rfl) (ok_X8_cubeIn (Nat.lt_trans (ho.2.1 kk hkk) (by decide)) (by omega)) ?_
    refine mG_istore dX8_isBy_43 (Nat.le_of_ble_eq_true rfl) rfl rfl ?_
    refine mG_iload_n dX8_isBy_45 rfl ?_
    refine mG_istore dX8_isBy_46 (Nat.le_of_ble_eq_true rfl) rfl rfl ?_
    refine mG_iconst (v := nI 0) dX8_isBy_48 (by decide) ?_
    refine mG_istore dX8_isBy_49 (Nat.le_of_ble_eq_true rfl) rfl rfl ?_
    have hoc := ho.2.2 kk i hkk c24
    have ho4 := cIn_lt (od kk) i
    have q06 : q0 / 6 ^ 0 = q0 := by rw [Nat.pow_zero, Nat.div_one]
    have hh := lp_X8_isByD (E := E) (h := h) (K := K) (q0 := q0) (n := n) (kk := kk) (p := i) (is := true) ho4 hq (fun x => ?_) (cIn (od kk) i) 0 (Nat.zero_add _)
    · rw [q06] at hh
      exact hh
    refine mG_aload_n dX8_isBy_71 rfl ?_
    refine mG_aload_n dX8_isBy_72 rfl ?_
    refine mG_get fX8_29 dX8_isBy_73 e40 (Nat.le_of_ble_eq_true rfl) rfl ?_
    refine mG_bipush (v := nI 6) dX8_isBy_76 (by decide) ?_
    refine mG_iload dX8_isBy_78 rfl ?_
    refine mG_imulN dX8_isBy_80 ?_
    refine mG_iload dX8_isBy_81 rfl ?_
    refine mG_bipush (v := nI 6) dX8_isBy_83 (by decide) ?_
    refine mG_iremN dX8_isBy_85 (Nat.lt_of_le_of_lt (Nat.div_le_self _ _) hq) (by decide) (by decide) ?_
    refine mG_iaddN dX8_isBy_86 ?_
    have hm6 := Nat.mod_lt (q0 / 6 ^ cIn (od kk) i) (show 0 < 6 by decide)
    have hnn := hnf (6 * cIn (od kk) i + q0 / 6 ^ cIn (od kk) i % 6) (by omega)
    refine mG_ialdA dX8_isBy_87 e47 (Nat.le_of_ble_eq_true rfl) (by decide) (by omega) ?_
    refine mG_aload_n dX8_isBy_88 rfl ?_
    refine mG_iload_n dX8_isBy_89 rfl ?_
    refine mG_iload dX8_isBy_90 rfl ?_
    refine mG_cv2 vX8_133 dX8_isBy_92 (mLe_of rfl) (Nat.le_of_ble_eq_true rfl) e40 (Nat.le_of_ble_eq_true rfl) (ok_X8_figureOf e40 e42 hcb hn c24) ?_
    have hfl := fgo_lt (cb 0) n i
    refine mG_cv2 vX8_123 dX8_isBy_95 (mLe_of rfl) (Nat.le_of_ble_eq_true rfl) e40 (Nat.le_of_ble_eq_true rfl) (ok_X8_fits e40 e44 hbb (by omega) (by omega)) ?_
    refine mG_istore dX8_isBy_98 (Nat.le_of_ble_eq_true rfl) rfl rfl ?_
    refine mG_iincN dX8_isBy_100 rfl (Nat.le_of_ble_eq_true rfl) rfl rfl ?_
    refine mG_goto dX8_isBy_103 ?_
    have hqq : byP nw (decide (bb 0 = 1)) (cb 0) q0 n (od kk) i = fit (decide (bb 0 = 1)) (nw (6 * cIn (od kk) i + q0 / 6 ^ cIn (od kk) i % 6)) (fgo (cb 0) n i) := rfl
    rw [← hqq]
    cases hb : byP nw (decide (bb 0 = 1)) (cb 0) q0 n (od kk) i with
    | true => exact ih (i + 1) _ _ _ (by omega) (by rw [hR, allF, hb]; rfl)
    | false => exact le_X8_isByF e40 e42 hcb (by rw [hR, allF, hb]; rfl) hK (by omega)
set_option maxRecDepth 100000 in
set_option maxHeartbeats 4000000 in
theorem lp_X8_isBy {E : mE} {h : mH} {ty a sd so va it mo fa : Nat} {wr : Bool} {tr : Int64} {q0 n : Nat} {R : Bool} {bb cb nw od : Nat → Nat} (e40 : h 40 = oMo ty a sd so va wr it mo fa tr) (e42 : h 42 = mAr 2 cb) (hcb : cb 0 ≤ 4) (e44 : h 44 = mAr 2 bb) (hbb : bb 0 ≤ 1) (e47 : h 47 = mAr 33 nw) (e53 : h 53 = mAr 24 od) (ho : oOK (cb 0) mo od) (hnf : ∀ j, j < cb 0 * 6 → nw j < 10) (hn : n < 2 ^ 31) (hq : q0 < 2 ^ 31) : ∀ (k i : Nat) (x4 x5 x6 x7 x8 : Option Value), i + k = mo → R = anyF (fun k => allF (byP nw (decide (bb 0 = 1)) (cb 0) q0 n (od k)) 0 (cb 0)) i k → mG E (mR 3, zX8_isBy) (mKq E (mR 3) mN (mX (some (vB R)) h)) 2 [some (.ref 40), some (vN q0), some (vN n), some (vN i), x4, x5, x6, x7, x8] [] (mN, 0, 0) h := by
  intro k
  induction k with
  | zero =>
    intro i x4 x5 x6 x7 x8 hk hR
    refine mG_iload_n dX8_isBy_2 rfl ?_
    refine mG_aload_n dX8_isBy_3 rfl ?_
    refine mG_get fX8_130 dX8_isBy_4 e40 (Nat.le_of_ble_eq_true rfl) rfl ?_
    have hmo := ho.1
    refine mG_icmp_geN dX8_isBy_7 (by omega) (by omega) (fun c7 => ?_) (fun c7 => absurd c7 (by omega))
    refine mG_iconst (v := mb false) dX8_isBy_119 (by decide) ?_
    exact mG_zret dX8_isBy_120 rfl (mX_of (by subst hR; rfl) rfl)
  | succ k ih =>
    intro i x4 x5 x6 x7 x8 hk hR
    refine mG_iload_n dX8_isBy_2 rfl ?_
    refine mG_aload_n dX8_isBy_3 rfl ?_
    refine mG_get fX8_130 dX8_isBy_4 e40 (Nat.le_of_ble_eq_true rfl) rfl ?_
    have hmo := ho.1
    refine mG_icmp_geN dX8_isBy_7 (by omega) (by omega) (fun c7 => absurd c7 (by omega)) (fun c7 => ?_)
    refine mG_iconst (v := mb true) dX8_isBy_10 (by decide) ?_
    refine mG_istore dX8_isBy_11 (Nat.le_of_ble_eq_true rfl) rfl rfl ?_
    refine mG_iconst (v := nI 0) dX8_isBy_13 (by decide) ?_
    refine mG_istore dX8_isBy_14 (Nat.le_of_ble_eq_true rfl) rfl rfl ?_
    refine lp_X8_isByI (R := allF (byP nw (decide (bb 0 = 1)) (cb 0) q0 n (od i)) 0 (cb 0)) e40 e42 hcb e44 hbb e47 e53 ho hnf hn hq c7 (fun x y6 y7 y8 => ?_) (cb 0) 0 _ _ _ (Nat.zero_add _) rfl
    refine mG_iload dX8_isBy_106 rfl ?_
    refine mG_if_eqB dX8_isBy_108 (fun c108 => ?_) (fun c108 => ?_)
    · refine mG_iincN dX8_isBy_113 rfl (Nat.le_of_ble_eq_true rfl) rfl rfl ?_
      refine mG_goto dX8_isBy_116 ?_
      exact ih (i + 1) _ _ _ _ _ (by omega) (by rw [hR, anyF, c108]; rfl)
    · refine mG_iconst (v := mb true) dX8_isBy_111 (by decide) ?_
      exact mG_zret dX8_isBy_112 rfl (mX_of (by rw [hR, anyF, c108]; rfl) rfl)
set_option maxRecDepth 100000 in
set_option maxHeartbeats 4000000 in
theorem ok_X8_isBy {E : mE} {h : mH} {ty a sd so va it mo fa : Nat} {wr : Bool} {tr : Int64} {q0 n : Nat} {bb cb nw od : Nat → Nat} (e40 : h 40 = oMo ty a sd so va wr it mo fa tr) (e42 : h 42 = mAr 2 cb) (hcb : cb 0 ≤ 4) (e44 : h 44 = mAr 2 bb) (hbb : bb 0 ≤ 1) (e47 : h 47 = mAr 33 nw) (e53 : h 53 = mAr 24 od) (ho : oOK (cb 0) mo od) (hnf : ∀ j, j < cb 0 * 6 → nw j < 10) (hn : n < 2 ^ 31) (hq : q0 < 2 ^ 31) : mOk E 3 zX8_isBy [.ref 40, vN q0, vN n] h (mX (some (vB (byR nw (decide (bb 0 = 1)) (cb 0) mo od q0 n))) h) := by
  refine mOk_w (L := [some (.ref 40), some (vN q0), some (vN n), none, none, none, none, none, none]) pn_X8 rfl (Nat.le_of_ble_eq_true rfl) rfl ?_
  refine mG_iconst (v := nI 0) dX8_isBy_0 (by decide) ?_
  refine mG_istore_n dX8_isBy_1 (Nat.le_of_ble_eq_true rfl) rfl rfl ?_
  exact lp_X8_isBy e40 e42 hcb e44 hbb e47 e53 ho hnf hn hq mo 0 _ _ _ _ _ (Nat.zero_add _) rfl
