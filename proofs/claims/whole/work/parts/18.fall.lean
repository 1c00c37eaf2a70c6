/-! Fall -/
abbrev oFall (tv nv : Value) (up lo : Nat) : mC := mOb 0 [.ref 29, tv, nv, vN up, vN lo]
def rdB (p : Nat) (x : Nat × Nat) : Nat × Nat := if x.1 % p = 0 ∧ x.2 % p = 0 then (x.1 / p, x.2 / p) else x
theorem rdB_le (p : Nat) (x : Nat × Nat) : (rdB p x).1 ≤ x.1 ∧ (rdB p x).2 ≤ x.2 := by
  unfold rdB
  split
  · exact ⟨Nat.div_le_self _ _, Nat.div_le_self _ _⟩
  · exact ⟨Nat.le_refl _, Nat.le_refl _⟩
set_option maxRecDepth 100000 in
set_option maxHeartbeats 4000000 in
theorem ok_X0_reduceBy {E : mE} {h : mH} {tv nv : Value} {up lo p : Nat} (e28 : h 28 = oFall tv nv up lo) (hu : up < 2 ^ 31) (hl : lo < 2 ^ 31) (hp : 0 < p) (hp2 : p < 2 ^ 31) : mOk E 1 zX0_reduceBy [.ref 28, vN p] h (mX none (mU h 28 (oFall tv nv (rdB p (up, lo)).1 (rdB p (up, lo)).2))) := by
  have m1 := Nat.mod_lt up hp
  have m2 := Nat.mod_lt lo hp
  refine mOk_w (L := [some (.ref 28), some (vN p)]) pn_X0 rfl (Nat.le_of_ble_eq_true rfl) rfl ?_
  refine mG_iload_n dX0_reduceBy_0 rfl ?_
  refine mG_if_leN dX0_reduceBy_1 (by omega) (fun c1 => absurd c1 (by omega)) (fun c1 => ?_)
  refine mG_aload_n dX0_reduceBy_4 rfl ?_
  refine mG_get fX0_42 dX0_reduceBy_5 e28 (Nat.le_of_ble_eq_true rfl) rfl ?_
  refine mG_iload_n dX0_reduceBy_8 rfl ?_
  refine mG_iremN dX0_reduceBy_9 (by omega) (by omega) (by omega) ?_
  refine mG_if_neN dX0_reduceBy_10 (by omega) (fun c10 => ?_) (fun c10 => ?_)
  · exact mG_vret dX0_reduceBy_42 rfl (mX_of rfl (by first | (have q : rdB p (up, lo) = (up / p, lo / p) := if_pos ⟨c10, c19⟩; rw [q, mU_same]; rfl) | (have q : rdB p (up, lo) = (up, lo) := if_neg (fun z => by first | exact c19 z.2 | exact c10 z.1); rw [q]; exact (mU_self h 28 _ e28).symm)))
  · refine mG_aload_n dX0_reduceBy_13 rfl ?_
    refine mG_get fX0_48 dX0_reduceBy_14 e28 (Nat.le_of_ble_eq_true rfl) rfl ?_
    refine mG_iload_n dX0_reduceBy_17 rfl ?_
    refine mG_iremN dX0_reduceBy_18 (by omega) (by omega) (by omega) ?_
    refine mG_if_neN dX0_reduceBy_19 (by omega) (fun c19 => ?_) (fun c19 => ?_)
    · exact mG_vret dX0_reduceBy_42 rfl (mX_of rfl (by first | (have q : rdB p (up, lo) = (up / p, lo / p) := if_pos ⟨c10, c19⟩; rw [q, mU_same]; rfl) | (have q : rdB p (up, lo) = (up, lo) := if_neg (fun z => by first | exact c19 z.2 | exact c10 z.1); rw [q]; exact (mU_self h 28 _ e28).symm)))
    · refine mG_aload_n dX0_reduceBy_22 rfl ?_
      refine mG_dup dX0_reduceBy_23 rfl ?_
      refine mG_get fX0_42 dX0_reduceBy_24 e28 (Nat.le_of_ble_eq_true rfl) rfl ?_
      refine mG_iload_n dX0_reduceBy_27 rfl ?_
      refine mG_idivN dX0_reduceBy_28 (by omega) (by omega) (by omega) ?_
      refine mG_putI pX0_42 dX0_reduceBy_29 e28 (Nat.le_of_ble_eq_true rfl) (Nat.le_of_ble_eq_true rfl) ?_
      refine mG_aload_n dX0_reduceBy_32 rfl ?_
      refine mG_dup dX0_reduceBy_33 rfl ?_
      refine mG_get fX0_48 dX0_reduceBy_34 rfl (Nat.le_of_ble_eq_true rfl) rfl ?_
      refine mG_iload_n dX0_reduceBy_37 rfl ?_
      refine mG_idivN dX0_reduceBy_38 (by omega) (by omega) (by omega) ?_
      refine mG_putI pX0_48 dX0_reduceBy_39 rfl (Nat.le_of_ble_eq_true rfl) (Nat.le_of_ble_eq_true rfl) ?_
      exact mG_vret dX0_reduceBy_42 rfl (mX_of rfl (by first | (have q : rdB p (up, lo) = (up / p, lo / p) := if_pos ⟨c10, c19⟩; rw [q, mU_same]; rfl) | (have q : rdB p (up, lo) = (up, lo) := if_neg (fun z => by first | exact c19 z.2 | exact c10 z.1); rw [q]; exact (mU_self h 28 _ e28).symm)))
def rdL : Nat → Nat × Nat → Nat × Nat
  | 0, x => x
  | k + 1, x => rdL k (rdB 3 (rdB 2 x))
set_option maxRecDepth 100000 in
set_option maxHeartbeats 4000000 in
theorem lp_X0_reduce {E : mE} {h : mH} {cu dc it : Nat} {bo : Bool} {nv : Value} {T : Nat × Nat} (e3 : h 3 = oTold cu dc it bo) (hc : cu ≤ 4) : ∀ (k i u l : Nat), i + k = cu → u < 2 ^ 31 → l < 2 ^ 31 → T = rdL k (u, l) → mG E (mR 2, zX0_reduce) (mKq E (mR 2) mN (mX none (mU h 28 (oFall (.ref 3) nv T.1 T.2)))) 2 [some (.ref 28), some (vN i)] [] (mN, 0, 0) (mU h 28 (oFall (.ref 3) nv u l)) := by
  intro k
  induction k with
  | zero =>
    intro i u l hk hx1 hx2 hT
    refine mG_iload_n dX0_reduce_2 rfl ?_
    refine mG_aload_n dX0_reduce_3 rfl ?_
    refine mG_get fX0_15 dX0_reduce_4 rfl (Nat.le_of_ble_eq_true rfl) rfl ?_
    refine mG_get fX0_29 dX0_reduce_7 e3 (Nat.le_of_ble_eq_true rfl) rfl ?_
    refine mG_icmp_geN dX0_reduce_10 (by omega) (by omega) (fun c10 => ?_) (fun c10 => absurd c10 (by omega))
    exact mG_vret dX0_reduce_29 rfl (mX_of rfl (by rw [hT]; rfl))
  | succ k ih =>
    intro i u l hk hx1 hx2 hT
    refine mG_iload_n dX0_reduce_2 rfl ?_
    refine mG_aload_n dX0_reduce_3 rfl ?_
    refine mG_get fX0_15 dX0_reduce_4 rfl (Nat.le_of_ble_eq_true rfl) rfl ?_
    refine mG_get fX0_29 dX0_reduce_7 e3 (Nat.le_of_ble_eq_true rfl) rfl ?_
    have b2 := rdB_le 2 (u, l)
    have b3 := rdB_le 3 ((rdB 2 (u, l)).1, (rdB 2 (u, l)).2)
    dsimp only at b2 b3
    refine mG_icmp_geN dX0_reduce_10 (by omega) (by omega) (fun c10 => absurd c10 (by omega)) (fun c10 => ?_)
    refine mG_aload_n dX0_reduce_13 rfl ?_
    refine mG_iconst (v := nI 2) dX0_reduce_14 (by decide) ?_
    refine mG_cw1 vX0_59 dX0_reduce_15 (mLe_of rfl) (Nat.le_of_ble_eq_true rfl) rfl (Nat.le_of_ble_eq_true rfl) (ok_X0_reduceBy rfl hx1 hx2 (by decide) (by decide)) ?_
    refine mG_aload_n dX0_reduce_18 rfl ?_
    refine mG_iconst (v := nI 3) dX0_reduce_19 (by decide) ?_
    refine mG_cw1 vX0_59 dX0_reduce_20 (mLe_of rfl) (Nat.le_of_ble_eq_true rfl) rfl (Nat.le_of_ble_eq_true rfl) (ok_X0_reduceBy rfl (by omega) (by omega) (by decide) (by decide)) ?_
    refine mG_iincN dX0_reduce_23 rfl (Nat.le_of_ble_eq_true rfl) rfl rfl ?_
    refine mG_goto dX0_reduce_26 ?_
    rw [mU_same, mU_same]
    exact ih (i + 1) _ _ (by omega) (by omega) (by omega) hT
set_option maxRecDepth 100000 in
set_option maxHeartbeats 4000000 in
theorem ok_X0_reduce {E : mE} {h : mH} {cu dc it up lo : Nat} {bo : Bool} {nv : Value} (e3 : h 3 = oTold cu dc it bo) (e28 : h 28 = oFall (.ref 3) nv up lo) (hc : cu ≤ 4) (hu : up < 2 ^ 31) (hl : lo < 2 ^ 31) : mOk E 2 zX0_reduce [.ref 28] h (mX none (mU h 28 (oFall (.ref 3) nv (rdL cu (up, lo)).1 (rdL cu (up, lo)).2))) := by
  refine mOk_w (L := [some (.ref 28), none]) pn_X0 rfl (Nat.le_of_ble_eq_true rfl) rfl ?_
  refine mG_iconst (v := nI 0) dX0_reduce_0 (by decide) ?_
  refine mG_istore_n dX0_reduce_1 (Nat.le_of_ble_eq_true rfl) rfl rfl ?_
  have q := lp_X0_reduce (E := E) (nv := nv) (T := rdL cu (up, lo)) e3 hc cu 0 up lo (Nat.zero_add _) hu hl rfl
  rw [mU_self h 28 _ e28] at q
  exact q
/-- in how many ways CUBES from c on (r of them) fall as what is missing -/
def ff (nf : Nat → Nat) (bo : Bool) : Nat → Nat → (Nat → Nat) → Nat
  | 0, _, _ => 1
  | r + 1, c, g => sumF (fun s => if 0 < g (upr bo (nf (c * 6 + s))) then ff nf bo r (c + 1) (mUp g (upr bo (nf (c * 6 + s))) (g (upr bo (nf (c * 6 + s))) - 1)) else 0) 0 6
theorem mUp_back (g : Nat → Nat) {i : Nat} (hi : 0 < g i) : mUp (mUp g i (g i - 1)) i (mUp g i (g i - 1) i + 1) = g := by
  funext j
  by_cases q : j = i
  · rw [q, mUp_eq, mUp_eq]; omega
  · rw [mUp_ne _ _ q, mUp_ne _ _ q]
set_option maxRecDepth 100000 in
set_option maxHeartbeats 4000000 in
theorem lp_X0_falls {E : mE} {h : mH} {r c cu dc it dn wk up lo T : Nat} {bo : Bool} {nf g : Nat → Nat} {G : (Nat → Nat) → Nat} (e3 : h 3 = oTold cu dc it bo) (e9 : h 9 = oNow dn wk) (e10 : h 10 = mAr 24 nf) (e28 : h 28 = oFall (.ref 3) (.ref 9) up lo) (e29 : h 29 = mAr 10 g) (hc : c < 4) (hf : ∀ j, j < 6 → nf (c * 6 + j) < 10) (hg : ∀ j, g j ≤ 4) (hrec : ∀ g, (∀ j, g j ≤ 4) → mOk E (r + 2) zX0_fallsFrom [.ref 28, vN (c + 1)] (mU h 29 (mAr 10 g)) (mX (some (vN (G g))) (mU h 29 (mAr 10 g)))) : ∀ (k i m : Nat) (x4 : Option Value), i + k = 6 → mOkS [x4] 1 = true → T = m + sumF (fun s => if 0 < g (upr bo (nf (c * 6 + s))) then G (mUp g (upr bo (nf (c * 6 + s))) (g (upr bo (nf (c * 6 + s))) - 1)) else 0) i k → mG E (mR (r + 3), zX0_fallsFrom) (mKq E (mR (r + 3)) mN (mX (some (vN T)) h)) 17 [some (.ref 28), some (vN c), some (vN m), some (vN i), x4] [] (mN, 0, 0) h := by
  intro k
  induction k with
  | zero =>
    intro i m x4 hk hx4 hT
    refine mG_iload_n dX0_fallsFrom_17 rfl ?_
    refine mG_bipush (v := nI 6) dX0_fallsFrom_18 (by decide) ?_
    refine mG_icmp_geN dX0_fallsFrom_20 (by omega) (by omega) (fun c20 => ?_) (fun c20 => absurd c20 (by omega))
    refine mG_iload_n dX0_fallsFrom_94 rfl ?_
    exact mG_iret dX0_fallsFrom_95 rfl (mX_of (by rw [hT]; simp [sumF]) rfl)
  | succ k ih =>
    intro i m x4 hk hx4 hT
    refine mG_iload_n dX0_fallsFrom_17 rfl ?_
    refine mG_bipush (v := nI 6) dX0_fallsFrom_18 (by decide) ?_
    have hfi := hf i (by omega)
    have hu := upr_le bo (nf (c * 6 + i))
    have hgi := hg (upr bo (nf (c * 6 + i)))
    refine mG_icmp_geN dX0_fallsFrom_20 (by omega) (by omega) (fun c20 => absurd c20 (by omega)) (fun c20 => ?_)
    refine mG_aload_n dX0_fallsFrom_23 rfl ?_
    refine mG_get fX0_15 dX0_fallsFrom_24 e28 (Nat.le_of_ble_eq_true rfl) rfl ?_
    refine mG_aload_n dX0_fallsFrom_27 rfl ?_
    refine mG_get fX0_19 dX0_fallsFrom_28 e28 (Nat.le_of_ble_eq_true rfl) rfl ?_
    refine mG_get fX0_54 dX0_fallsFrom_31 e9 (Nat.le_of_ble_eq_true rfl) rfl ?_
    refine mG_iload_n dX0_fallsFrom_34 rfl ?_
    refine mG_bipush (v := nI 6) dX0_fallsFrom_35 (by decide) ?_
    refine mG_imulN dX0_fallsFrom_37 ?_
    refine mG_iload_n dX0_fallsFrom_38 rfl ?_
    refine mG_iaddN dX0_fallsFrom_39 ?_
    refine mG_ialdA dX0_fallsFrom_40 e10 (Nat.le_of_ble_eq_true rfl) (by decide) (by omega) ?_
    refine mG_cv1 vX0_35 dX0_fallsFrom_41 (mLe_s (by omega) (by decide)) (Nat.le_of_ble_eq_true rfl) e3 (Nat.le_of_ble_eq_true rfl) (ok_X5_upright e3 (by omega)) ?_
    refine mG_istore dX0_fallsFrom_44 (Nat.le_of_ble_eq_true rfl) rfl rfl ?_
    refine mG_aload_n dX0_fallsFrom_46 rfl ?_
    refine mG_get fX0_9 dX0_fallsFrom_47 e28 (Nat.le_of_ble_eq_true rfl) rfl ?_
    refine mG_iload dX0_fallsFrom_50 rfl ?_
    refine mG_ialdA dX0_fallsFrom_52 e29 (Nat.le_of_ble_eq_true rfl) (by decide) (by omega) ?_
    refine mG_if_leN dX0_fallsFrom_53 (by omega) (fun c53 => ?_) (fun c53 => ?_)
    · refine mG_iincN dX0_fallsFrom_88 rfl (Nat.le_of_ble_eq_true rfl) rfl rfl ?_
      refine mG_goto dX0_fallsFrom_91 ?_
      first
        | (rw [mU_same, mUp_back g (by omega), mU_self h 29 _ e29]
           refine ih (i + 1) _ _ (by omega) rfl ?_
           rw [hT]
           simp only [sumF, if_pos c53]
           omega)
        | (refine ih (i + 1) _ _ (by omega) rfl ?_
           rw [hT]
           simp only [sumF, c53, Nat.lt_irrefl, if_false]
           omega)
    · refine mG_aload_n dX0_fallsFrom_56 rfl ?_
      refine mG_get fX0_9 dX0_fallsFrom_57 e28 (Nat.le_of_ble_eq_true rfl) rfl ?_
      refine mG_iload dX0_fallsFrom_60 rfl ?_
      refine mG_dup2 dX0_fallsFrom_62 rfl rfl ?_
      refine mG_ialdA dX0_fallsFrom_63 e29 (Nat.le_of_ble_eq_true rfl) (by decide) (by omega) ?_
      refine mG_iconst (v := nI 1) dX0_fallsFrom_64 (by decide) ?_
      refine mG_isubN dX0_fallsFrom_65 (by omega) ?_
      refine mG_iastA dX0_fallsFrom_66 e29 (Nat.le_of_ble_eq_true rfl) (by decide) (by omega) ?_
      refine mG_iload_n dX0_fallsFrom_67 rfl ?_
      refine mG_aload_n dX0_fallsFrom_68 rfl ?_
      refine mG_iload_n dX0_fallsFrom_69 rfl ?_
      refine mG_iconst (v := nI 1) dX0_fallsFrom_70 (by decide) ?_
      refine mG_iaddN dX0_fallsFrom_71 ?_
      refine mG_cv1 vX0_39 dX0_fallsFrom_72 (mLe_s (by omega) (by decide)) (Nat.le_of_ble_eq_true rfl) e28 (Nat.le_of_ble_eq_true rfl) (hrec _ (fun j => by
      by_cases q : j = upr bo (nf (c * 6 + i))
      · rw [q, mUp_eq]; omega
      · rw [mUp_ne _ _ q]; exact hg j)) ?_
      refine mG_iaddN dX0_fallsFrom_75 ?_
      refine mG_istore_n dX0_fallsFrom_76 (Nat.le_of_ble_eq_true rfl) rfl rfl ?_
      refine mG_aload_n dX0_fallsFrom_77 rfl ?_
      refine mG_get fX0_9 dX0_fallsFrom_78 e28 (Nat.le_of_ble_eq_true rfl) rfl ?_
      refine mG_iload dX0_fallsFrom_81 rfl ?_
      refine mG_dup2 dX0_fallsFrom_83 rfl rfl ?_
      refine mG_ialdA dX0_fallsFrom_84 rfl (Nat.le_of_ble_eq_true rfl) (by decide) (by omega) ?_
      refine mG_iconst (v := nI 1) dX0_fallsFrom_85 (by decide) ?_
      refine mG_iaddN dX0_fallsFrom_86 ?_
      refine mG_iastA dX0_fallsFrom_87 rfl (Nat.le_of_ble_eq_true rfl) (by decide) (by omega) ?_
      refine mG_iincN dX0_fallsFrom_88 rfl (Nat.le_of_ble_eq_true rfl) rfl rfl ?_
      refine mG_goto dX0_fallsFrom_91 ?_
      first
        | (rw [mU_same, mUp_back g (by omega), mU_self h 29 _ e29]
           refine ih (i + 1) _ _ (by omega) rfl ?_
           rw [hT]
           simp only [sumF, if_pos c53]
           omega)
        | (refine ih (i + 1) _ _ (by omega) rfl ?_
           rw [hT]
           simp only [sumF, c53, Nat.lt_irrefl, if_false]
           omega)
set_option maxRecDepth 100000 in
set_option maxHeartbeats 4000000 in
theorem ok_X0_falls {E : mE} {cu dc it dn wk up lo : Nat} {bo : Bool} {nf : Nat → Nat} (hc : cu ≤ 4) (hf : ∀ j, j < cu * 6 → nf j < 10) : ∀ (r c : Nat) (g : Nat → Nat) (h : mH), c + r = cu → h 3 = oTold cu dc it bo → h 9 = oNow dn wk → h 10 = mAr 24 nf → h 28 = oFall (.ref 3) (.ref 9) up lo → h 29 = mAr 10 g → (∀ j, g j ≤ 4) → mOk E (r + 2) zX0_fallsFrom [.ref 28, vN c] h (mX (some (vN (ff nf bo r c g))) h) := by
  intro r
  induction r with
  | zero =>
    intro c g h hk e3 e9 e10 e28 e29 hg
    refine mOk_w (L := [some (.ref 28), some (vN c), none, none, none]) pn_X0 rfl (Nat.le_of_ble_eq_true rfl) rfl ?_
    refine mG_iload_n dX0_fallsFrom_0 rfl ?_
    refine mG_aload_n dX0_fallsFrom_1 rfl ?_
    refine mG_get fX0_15 dX0_fallsFrom_2 e28 (Nat.le_of_ble_eq_true rfl) rfl ?_
    refine mG_get fX0_29 dX0_fallsFrom_5 e3 (Nat.le_of_ble_eq_true rfl) rfl ?_
    refine mG_icmp_ltN dX0_fallsFrom_8 (by omega) (by omega) (fun c8 => absurd c8 (by omega)) (fun c8 => ?_)
    refine mG_iconst (v := nI 1) dX0_fallsFrom_11 (by decide) ?_
    exact mG_iret dX0_fallsFrom_12 rfl (mX_of rfl rfl)
  | succ r ih =>
    intro c g h hk e3 e9 e10 e28 e29 hg
    refine mOk_w (L := [some (.ref 28), some (vN c), none, none, none]) pn_X0 rfl (Nat.le_of_ble_eq_true rfl) rfl ?_
    refine mG_iload_n dX0_fallsFrom_0 rfl ?_
    refine mG_aload_n dX0_fallsFrom_1 rfl ?_
    refine mG_get fX0_15 dX0_fallsFrom_2 e28 (Nat.le_of_ble_eq_true rfl) rfl ?_
    refine mG_get fX0_29 dX0_fallsFrom_5 e3 (Nat.le_of_ble_eq_true rfl) rfl ?_
    refine mG_icmp_ltN dX0_fallsFrom_8 (by omega) (by omega) (fun c8 => ?_) (fun c8 => absurd c8 (by omega))
    refine mG_iconst (v := nI 0) dX0_fallsFrom_13 (by decide) ?_
    refine mG_istore_n dX0_fallsFrom_14 (Nat.le_of_ble_eq_true rfl) rfl rfl ?_
    refine mG_iconst (v := nI 0) dX0_fallsFrom_15 (by decide) ?_
    refine mG_istore_n dX0_fallsFrom_16 (Nat.le_of_ble_eq_true rfl) rfl rfl ?_
    exact lp_X0_falls (G := ff nf bo r (c + 1)) e3 e9 e10 e28 e29 (by omega) (fun j hj => hf _ (by omega)) hg (fun g' hg' => ih (c + 1) g' (mU h 29 (mAr 10 g')) (by omega) e3 e9 e10 e28 rfl hg') 6 0 0 none rfl rfl (by simp [ff])
/-- the figures of a number, each as often as it is there -/
def msF (bo : Bool) : Nat → (Nat → Nat) → Nat → Nat → Nat
  | 0, g, _ => g
  | k + 1, g, r => msF bo k (mUp g (upr bo (r % 10)) (g (upr bo (r % 10)) + 1)) (r / 10)
theorem ff_le (nf : Nat → Nat) (bo : Bool) : ∀ r c g, ff nf bo r c g ≤ 6 ^ r := by
  intro r
  induction r with
  | zero => intro c g; exact Nat.le_refl _
  | succ r ih =>
    intro c g
    have key : ∀ (f : Nat → Nat) (B : Nat), (∀ s, f s ≤ B) → ∀ k i, sumF f i k ≤ k * B := by
      intro f B hf k
      induction k with
      | zero => intro i; simp [sumF]
      | succ k ihk =>
        intro i
        have h1 := hf i
        have h2 := ihk (i + 1)
        simp only [sumF, Nat.succ_mul]
        omega
    have := key (fun s => if 0 < g (upr bo (nf (c * 6 + s))) then ff nf bo r (c + 1) (mUp g (upr bo (nf (c * 6 + s))) (g (upr bo (nf (c * 6 + s))) - 1)) else 0) (6 ^ r) (fun s => by
      show (if _ then _ else _) ≤ _
      split
      · exact ih _ _
      · exact Nat.zero_le _) 6 0
    show sumF _ 0 6 ≤ _
    rw [Nat.pow_succ]
    omega
/-- ODDS: upper and lower number -/
def odT (nf : Nat → Nat) (bo : Bool) (cu n : Nat) : Nat × Nat := rdL cu (ff nf bo cu 0 (msF bo cu (fun _ => 0) n), 6 ^ cu)
theorem six_le {cu : Nat} (hc : cu ≤ 4) : 6 ^ cu ≤ 1296 := by
  rcases (show cu = 0 ∨ cu = 1 ∨ cu = 2 ∨ cu = 3 ∨ cu = 4 by omega) with rfl | rfl | rfl | rfl | rfl <;> decide
set_option maxRecDepth 100000 in
set_option maxHeartbeats 4000000 in
theorem lp_X0_reckon {E : mE} {h : mH} {cu dc it dn wk up lo n : Nat} {bo : Bool} {nf : Nat → Nat} (e3 : h 3 = oTold cu dc it bo) (e9 : h 9 = oNow dn wk) (e10 : h 10 = mAr 24 nf) (hc : cu ≤ 4) (hf : ∀ j, j < cu * 6 → nf j < 10) : ∀ (k i r : Nat) (g : Nat → Nat), i + k = cu → r < 2 ^ 31 → (∀ j, g j ≤ i) → msF bo cu (fun _ => 0) n = msF bo k g r → mG E (mR 7, zX0_reckon) (mKq E (mR 7) mN (mX none (mU (mU h 28 (oFall (.ref 3) (.ref 9) (odT nf bo cu n).1 (odT nf bo cu n).2)) 29 (mAr 10 (msF bo cu (fun _ => 0) n))))) 24 [some (.ref 28), some (.ref 3), some (.ref 9), some (vN n), some (vN r), some (vN i)] [] (mN, 0, 0) (mU (mU h 28 (oFall (.ref 3) (.ref 9) up lo)) 29 (mAr 10 g)) := by
  intro k
  induction k with
  | zero =>
    intro i r g hk hr hg hT
    refine mG_iload dX0_reckon_24 rfl ?_
    refine mG_aload_n dX0_reckon_26 rfl ?_
    refine mG_get fX0_15 dX0_reckon_27 rfl (Nat.le_of_ble_eq_true rfl) rfl ?_
    refine mG_get fX0_29 dX0_reckon_30 e3 (Nat.le_of_ble_eq_true rfl) rfl ?_
    have hm : msF bo cu (fun _ => 0) n = g := hT
    have h6 := six_le hc
    have hff := ff_le nf bo cu 0 g
    refine mG_icmp_geN dX0_reckon_33 (by omega) (by omega) (fun c33 => ?_) (fun c33 => absurd c33 (by omega))
    refine mG_aload_n dX0_reckon_70 rfl ?_
    refine mG_aload_n dX0_reckon_71 rfl ?_
    refine mG_iconst (v := nI 0) dX0_reckon_72 (by decide) ?_
    refine mG_cv1 vX0_39 dX0_reckon_73 (mLe_s (by omega) (by decide)) (Nat.le_of_ble_eq_true rfl) rfl (Nat.le_of_ble_eq_true rfl) (ok_X0_falls hc hf cu 0 g _ (Nat.zero_add _) e3 e9 e10 rfl rfl (fun j => by have := hg j; omega)) ?_
    refine mG_putI pX0_42 dX0_reckon_76 rfl (Nat.le_of_ble_eq_true rfl) (Nat.le_of_ble_eq_true rfl) ?_
    refine mG_aload_n dX0_reckon_79 rfl ?_
    refine mG_getsN (t := 1) dX0_reckon_80 (by decide) (by decide) ?_
    refine mG_aload_n dX0_reckon_83 rfl ?_
    refine mG_get fX0_15 dX0_reckon_84 rfl (Nat.le_of_ble_eq_true rfl) rfl ?_
    refine mG_get fX0_29 dX0_reckon_87 e3 (Nat.le_of_ble_eq_true rfl) rfl ?_
    refine mG_tald (t := 1) dX0_reckon_90 (by decide) (Nat.le_of_ble_eq_true rfl) (by show cu < 5; omega) ?_
    rw [mTF_six E hc]
    refine mG_putI pX0_48 dX0_reckon_91 rfl (Nat.le_of_ble_eq_true rfl) (Nat.le_of_ble_eq_true rfl) ?_
    refine mG_aload_n dX0_reckon_94 rfl ?_
    refine mG_cw0 vX0_51 dX0_reckon_95 (mLe_s (by omega) (by decide)) (Nat.le_of_ble_eq_true rfl) rfl (Nat.le_of_ble_eq_true rfl) (ok_X0_reduce e3 rfl hc (by omega) (by omega)) ?_
    exact mG_vret dX0_reckon_98 rfl (mX_of rfl (by
      unfold odT
      rw [hm]
      funext j
      unfold mU
      by_cases q9 : j = 28
      · subst q9; rfl
      · by_cases q13 : j = 29
        · subst q13; rfl
        · simp only [q9, q13, if_false]))
  | succ k ih =>
    intro i r g hk hr hg hT
    refine mG_iload dX0_reckon_24 rfl ?_
    refine mG_aload_n dX0_reckon_26 rfl ?_
    refine mG_get fX0_15 dX0_reckon_27 rfl (Nat.le_of_ble_eq_true rfl) rfl ?_
    refine mG_get fX0_29 dX0_reckon_30 e3 (Nat.le_of_ble_eq_true rfl) rfl ?_
    refine mG_icmp_geN dX0_reckon_33 (by omega) (by omega) (fun c33 => absurd c33 (by omega)) (fun c33 => ?_)
    refine mG_aload_n dX0_reckon_36 rfl ?_
    refine mG_get fX0_9 dX0_reckon_37 rfl (Nat.le_of_ble_eq_true rfl) rfl ?_
    refine mG_aload_n dX0_reckon_40 rfl ?_
    refine mG_get fX0_15 dX0_reckon_41 rfl (Nat.le_of_ble_eq_true rfl) rfl ?_
    refine mG_iload dX0_reckon_44 rfl ?_
    refine mG_bipush (v := nI 10) dX0_reckon_46 (by decide) ?_
    refine mG_iremN dX0_reckon_48 (by omega) (by omega) (by omega) ?_
    refine mG_cv1 vX0_35 dX0_reckon_49 (mLe_s (by omega) (by decide)) (Nat.le_of_ble_eq_true rfl) e3 (Nat.le_of_ble_eq_true rfl) (ok_X5_upright e3 (by omega)) ?_
    refine mG_dup2 dX0_reckon_52 rfl rfl ?_
    have hu := upr_le bo (r % 10)
    refine mG_ialdA dX0_reckon_53 rfl (Nat.le_of_ble_eq_true rfl) (by decide) (by omega) ?_
    refine mG_iconst (v := nI 1) dX0_reckon_54 (by decide) ?_
    refine mG_iaddN dX0_reckon_55 ?_
    refine mG_iastA dX0_reckon_56 rfl (Nat.le_of_ble_eq_true rfl) (by decide) (by omega) ?_
    refine mG_iload dX0_reckon_57 rfl ?_
    refine mG_bipush (v := nI 10) dX0_reckon_59 (by decide) ?_
    refine mG_idivN dX0_reckon_61 (by omega) (by omega) (by omega) ?_
    refine mG_istore dX0_reckon_62 (Nat.le_of_ble_eq_true rfl) rfl rfl ?_
    refine mG_iincN dX0_reckon_64 rfl (Nat.le_of_ble_eq_true rfl) rfl rfl ?_
    refine mG_goto dX0_reckon_67 ?_
    rw [mU_same]
    exact ih (i + 1) _ _ (by omega) (by omega) (fun j => by
      by_cases q : j = upr bo (r % 10)
      · rw [q, mUp_eq]; have := hg (upr bo (r % 10)); omega
      · rw [mUp_ne _ _ q]; have := hg j; omega) hT
set_option maxRecDepth 100000 in
set_option maxHeartbeats 4000000 in
theorem ok_X0_reckon {E : mE} {h : mH} {cu dc it dn wk up lo n : Nat} {bo : Bool} {nf g0 : Nat → Nat} {tv nv : Value} (e3 : h 3 = oTold cu dc it bo) (e9 : h 9 = oNow dn wk) (e10 : h 10 = mAr 24 nf) (e28 : h 28 = oFall tv nv up lo) (e29 : h 29 = mAr 10 g0) (hc : cu ≤ 4) (hf : ∀ j, j < cu * 6 → nf j < 10) (hn : n < 2 ^ 31) : mOk E 7 zX0_reckon [.ref 28, .ref 3, .ref 9, vN n] h (mX none (mU (mU h 28 (oFall (.ref 3) (.ref 9) (odT nf bo cu n).1 (odT nf bo cu n).2)) 29 (mAr 10 (msF bo cu (fun _ => 0) n)))) := by
  refine mOk_w (L := [some (.ref 28), some (.ref 3), some (.ref 9), some (vN n), none, none]) pn_X0 rfl (Nat.le_of_ble_eq_true rfl) rfl ?_
  refine mG_aload_n dX0_reckon_0 rfl ?_
  refine mG_aload_n dX0_reckon_1 rfl ?_
  refine mG_putO pX0_15 dX0_reckon_2 e28 (Nat.le_of_ble_eq_true rfl) (Nat.le_of_ble_eq_true rfl) ?_
  refine mG_aload_n dX0_reckon_5 rfl ?_
  refine mG_aload_n dX0_reckon_6 rfl ?_
  refine mG_putO pX0_19 dX0_reckon_7 rfl (Nat.le_of_ble_eq_true rfl) (Nat.le_of_ble_eq_true rfl) ?_
  refine mG_aload_n dX0_reckon_10 rfl ?_
  refine mG_get fX0_9 dX0_reckon_11 rfl (Nat.le_of_ble_eq_true rfl) rfl ?_
  refine mG_iconst (v := nI 0) dX0_reckon_14 (by decide) ?_
  refine mG_ct2 sX0_23 dX0_reckon_15 (mLe_of rfl) (Nat.le_of_ble_eq_true rfl) (ok_fill29 e29) ?_
  refine mG_iload_n dX0_reckon_18 rfl ?_
  refine mG_istore dX0_reckon_19 (Nat.le_of_ble_eq_true rfl) rfl rfl ?_
  refine mG_iconst (v := nI 0) dX0_reckon_21 (by decide) ?_
  refine mG_istore dX0_reckon_22 (Nat.le_of_ble_eq_true rfl) rfl rfl ?_
  rw [mU_same]
  exact lp_X0_reckon e3 e9 e10 hc hf cu 0 n _ (Nat.zero_add _) hn (fun _ => Nat.le_refl _) rfl
