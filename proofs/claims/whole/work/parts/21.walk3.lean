/-! how many CHANGES from one number of a walk to the next -/
def inL (ca pl : Nat → Nat) (k : Nat) : Nat → Nat → Nat → Nat
  | 0, l, _ => l
  | i + 1, l, q => if l >>> q &&& 1 = 0 then inL ca pl k i (l ||| 1 <<< q) (pl (k * 4 + ca ((k - 1) * 4 + q))) else l
def chS (ca pl : Nat → Nat) (k cu p : Nat) (x : Nat × Nat) : Nat × Nat := (inL ca pl k cu x.1 p, if x.1 >>> p &&& 1 = 0 then x.2 + 1 else x.2)
def chT (ca pl : Nat → Nat) (k cu : Nat) : Nat := cu - (iterF (chS ca pl k cu) 0 cu (0, 0)).2
theorem or_bit_lt {l q : Nat} (hl : l < 16) (hq : q < 4) : l ||| 1 <<< q < 16 := by
  refine Nat.or_lt_two_pow (n := 4) hl ?_
  rw [Nat.one_shiftLeft]
  exact Nat.pow_lt_pow_right (by decide) hq
theorem inL_lt {ca pl : Nat → Nat} {k : Nat} (hk3 : k ≤ 3) (hca : ∀ j, j < 16 → ca j < 4) (hpl : ∀ j, j < 16 → pl j < 4) : ∀ n l q, l < 16 → q < 4 → inL ca pl k n l q < 16 := by
  intro n
  induction n with
  | zero => intro l q hl _; exact hl
  | succ n ih =>
    intro l q hl hq
    unfold inL
    split
    · have h1 := hca ((k - 1) * 4 + q) (by omega)
      exact ih _ _ (or_bit_lt hl hq) (hpl _ (by omega))
    · exact hl
set_option maxRecDepth 100000 in
set_option maxHeartbeats 4000000 in
theorem lp_X6_ring {E : mE} {K : mKt} {h : mH} {k r p FL cu la : Nat} {tv nv : Value} {be : Int32} {ca pl : Nat → Nat} (e21 : h 21 = oWalk tv nv cu la be) (e23 : h 23 = mAr 16 ca) (e24 : h 24 = mAr 16 pl) (hk1 : 1 ≤ k) (hk3 : k ≤ 3) (hcu : cu ≤ 4) (hca : ∀ j, j < 16 → ca j < 4) (hpl : ∀ j, j < 16 → pl j < 4) (kx : ∀ x5 x6, mG E (mR 1, zX6_changesTo) K 90 [some (.ref 21), some (vN k), some (vN FL), some (vN r), some (vN p), x5, x6] [] (mN, 0, 0) h) : ∀ (n i l q : Nat), i + n = cu → l < 16 → q < 4 → FL = inL ca pl k n l q → mG E (mR 1, zX6_changesTo) K 35 [some (.ref 21), some (vN k), some (vN l), some (vN r), some (vN p), some (vN q), some (vN i)] [] (mN, 0, 0) h := by
  intro n
  induction n with
  | zero =>
    intro i l q hk hl hq hT
    refine mG_iload dX6_changesTo_35 rfl ?_
    refine mG_aload_n dX6_changesTo_37 rfl ?_
    refine mG_get fX6_44 dX6_changesTo_38 e21 (Nat.le_of_ble_eq_true rfl) rfl ?_
    refine mG_icmp_geN dX6_changesTo_41 (by omega) (by omega) (fun c41 => ?_) (fun c41 => absurd c41 (by omega))
    obtain rfl : FL = l := hT
    exact kx _ _
  | succ n ih =>
    intro i l q hk hl hq hT
    refine mG_iload dX6_changesTo_35 rfl ?_
    refine mG_aload_n dX6_changesTo_37 rfl ?_
    refine mG_get fX6_44 dX6_changesTo_38 e21 (Nat.le_of_ble_eq_true rfl) rfl ?_
    have hb : l >>> q &&& 1 ≤ 1 := Nat.and_le_right
    have h1 := hca ((k - 1) * 4 + q) (by omega)
    refine mG_icmp_geN dX6_changesTo_41 (by omega) (by omega) (fun c41 => absurd c41 (by omega)) (fun c41 => ?_)
    refine mG_iload_n dX6_changesTo_44 rfl ?_
    refine mG_iload dX6_changesTo_45 rfl ?_
    refine mG_ishrN dX6_changesTo_47 (by omega) (by omega) ?_
    refine mG_iconst (v := nI 1) dX6_changesTo_48 (by decide) ?_
    refine mG_iandN dX6_changesTo_49 ?_
    refine mG_if_neN dX6_changesTo_50 (by omega) (fun c50 => ?_) (fun c50 => ?_)
    · have e : FL = l := by rw [hT]; simp only [inL, if_neg c50]
      rw [← e]
      exact kx _ _
    · refine mG_iload_n dX6_changesTo_53 rfl ?_
      refine mG_iconst (v := nI 1) dX6_changesTo_54 (by decide) ?_
      refine mG_iload dX6_changesTo_55 rfl ?_
      refine mG_ishlN dX6_changesTo_57 (by omega) (shl1_lt2 (by omega)) ?_
      refine mG_iorN dX6_changesTo_58 ?_
      refine mG_istore_n dX6_changesTo_59 (Nat.le_of_ble_eq_true rfl) rfl rfl ?_
      refine mG_aload_n dX6_changesTo_60 rfl ?_
      refine mG_get fX6_18 dX6_changesTo_61 e21 (Nat.le_of_ble_eq_true rfl) rfl ?_
      refine mG_iload_n dX6_changesTo_64 rfl ?_
      refine mG_iconst (v := nI 4) dX6_changesTo_65 (by decide) ?_
      refine mG_imulN dX6_changesTo_66 ?_
      refine mG_aload_n dX6_changesTo_67 rfl ?_
      refine mG_get fX6_15 dX6_changesTo_68 e21 (Nat.le_of_ble_eq_true rfl) rfl ?_
      refine mG_iload_n dX6_changesTo_71 rfl ?_
      refine mG_iconst (v := nI 1) dX6_changesTo_72 (by decide) ?_
      refine mG_isubN dX6_changesTo_73 (by omega) ?_
      refine mG_iconst (v := nI 4) dX6_changesTo_74 (by decide) ?_
      refine mG_imulN dX6_changesTo_75 ?_
      refine mG_iload dX6_changesTo_76 rfl ?_
      refine mG_iaddN dX6_changesTo_78 ?_
      refine mG_ialdA dX6_changesTo_79 e23 (Nat.le_of_ble_eq_true rfl) (by decide) (by omega) ?_
      refine mG_iaddN dX6_changesTo_80 ?_
      refine mG_ialdA dX6_changesTo_81 e24 (Nat.le_of_ble_eq_true rfl) (by decide) (by omega) ?_
      refine mG_istore dX6_changesTo_82 (Nat.le_of_ble_eq_true rfl) rfl rfl ?_
      refine mG_iincN dX6_changesTo_84 rfl (Nat.le_of_ble_eq_true rfl) rfl rfl ?_
      refine mG_goto dX6_changesTo_87 ?_
      exact ih (i + 1) _ _ (by omega) (or_bit_lt hl hq) (hpl _ (by omega)) (by rw [hT]; simp only [inL, if_pos c50])
set_option maxRecDepth 100000 in
set_option maxHeartbeats 4000000 in
theorem lp_X6_changes {E : mE} {h : mH} {k cu la : Nat} {tv nv : Value} {be : Int32} {ca pl : Nat → Nat} {T : Nat × Nat} (e21 : h 21 = oWalk tv nv cu la be) (e23 : h 23 = mAr 16 ca) (e24 : h 24 = mAr 16 pl) (hk1 : 1 ≤ k) (hk3 : k ≤ 3) (hcu : cu ≤ 4) (hca : ∀ j, j < 16 → ca j < 4) (hpl : ∀ j, j < 16 → pl j < 4) : ∀ (n i l r : Nat) (x5 x6 : Option Value), i + n = cu → l < 16 → r ≤ i → T = iterF (chS ca pl k cu) i n (l, r) → mG E (mR 1, zX6_changesTo) (mKq E (mR 1) mN (mX (some (vN (cu - T.2))) h)) 7 [some (.ref 21), some (vN k), some (vN l), some (vN r), some (vN i), x5, x6] [] (mN, 0, 0) h := by
  intro n
  induction n with
  | zero =>
    intro i l r x5 x6 hk hl hr hT
    refine mG_iload dX6_changesTo_7 rfl ?_
    refine mG_aload_n dX6_changesTo_9 rfl ?_
    refine mG_get fX6_44 dX6_changesTo_10 e21 (Nat.le_of_ble_eq_true rfl) rfl ?_
    refine mG_icmp_geN dX6_changesTo_13 (by omega) (by omega) (fun c13 => ?_) (fun c13 => absurd c13 (by omega))
    refine mG_aload_n dX6_changesTo_96 rfl ?_
    refine mG_get fX6_44 dX6_changesTo_97 e21 (Nat.le_of_ble_eq_true rfl) rfl ?_
    refine mG_iload_n dX6_changesTo_100 rfl ?_
    refine mG_isubN dX6_changesTo_101 (by omega) ?_
    exact mG_iret dX6_changesTo_102 rfl (mX_of (by rw [hT]; rfl) rfl)
  | succ n ih =>
    intro i l r x5 x6 hk hl hr hT
    refine mG_iload dX6_changesTo_7 rfl ?_
    refine mG_aload_n dX6_changesTo_9 rfl ?_
    refine mG_get fX6_44 dX6_changesTo_10 e21 (Nat.le_of_ble_eq_true rfl) rfl ?_
    have hb : l >>> i &&& 1 ≤ 1 := Nat.and_le_right
    refine mG_icmp_geN dX6_changesTo_13 (by omega) (by omega) (fun c13 => absurd c13 (by omega)) (fun c13 => ?_)
    refine mG_iload_n dX6_changesTo_16 rfl ?_
    refine mG_iload dX6_changesTo_17 rfl ?_
    refine mG_ishrN dX6_changesTo_19 (by omega) (by omega) ?_
    refine mG_iconst (v := nI 1) dX6_changesTo_20 (by decide) ?_
    refine mG_iandN dX6_changesTo_21 ?_
    refine mG_if_neN dX6_changesTo_22 (by omega) (fun c22 => ?_) (fun c22 => ?_)
    · refine mG_iload dX6_changesTo_28 rfl ?_
      refine mG_istore dX6_changesTo_30 (Nat.le_of_ble_eq_true rfl) rfl rfl ?_
      refine mG_iconst (v := nI 0) dX6_changesTo_32 (by decide) ?_
      refine mG_istore dX6_changesTo_33 (Nat.le_of_ble_eq_true rfl) rfl rfl ?_
      refine lp_X6_ring (E := E) (h := h) (FL := inL ca pl k cu l i) e21 e23 e24 hk1 hk3 hcu hca hpl (fun x5' x6' => ?_) cu 0 l i (Nat.zero_add _) hl (by omega) rfl
      refine mG_iincN dX6_changesTo_90 rfl (Nat.le_of_ble_eq_true rfl) rfl rfl ?_
      refine mG_goto dX6_changesTo_93 ?_
      exact ih (i + 1) _ _ _ _ (by omega) (inL_lt hk3 hca hpl _ _ _ hl (by omega)) (by omega) (by rw [hT]; first | (simp only [iterF, chS, if_pos c22]; done) | (simp only [iterF, chS, if_neg c22]; done))
    · refine mG_iincN dX6_changesTo_25 rfl (Nat.le_of_ble_eq_true rfl) rfl rfl ?_
      refine mG_iload dX6_changesTo_28 rfl ?_
      refine mG_istore dX6_changesTo_30 (Nat.le_of_ble_eq_true rfl) rfl rfl ?_
      refine mG_iconst (v := nI 0) dX6_changesTo_32 (by decide) ?_
      refine mG_istore dX6_changesTo_33 (Nat.le_of_ble_eq_true rfl) rfl rfl ?_
      refine lp_X6_ring (E := E) (h := h) (FL := inL ca pl k cu l i) e21 e23 e24 hk1 hk3 hcu hca hpl (fun x5' x6' => ?_) cu 0 l i (Nat.zero_add _) hl (by omega) rfl
      refine mG_iincN dX6_changesTo_90 rfl (Nat.le_of_ble_eq_true rfl) rfl rfl ?_
      refine mG_goto dX6_changesTo_93 ?_
      exact ih (i + 1) _ _ _ _ (by omega) (inL_lt hk3 hca hpl _ _ _ hl (by omega)) (by omega) (by rw [hT]; first | (simp only [iterF, chS, if_pos c22]; done) | (simp only [iterF, chS, if_neg c22]; done))
set_option maxRecDepth 100000 in
set_option maxHeartbeats 4000000 in
theorem ok_X6_changes {E : mE} {h : mH} {k cu la : Nat} {tv nv : Value} {be : Int32} {ca pl : Nat → Nat} (e21 : h 21 = oWalk tv nv cu la be) (e23 : h 23 = mAr 16 ca) (e24 : h 24 = mAr 16 pl) (hk1 : 1 ≤ k) (hk3 : k ≤ 3) (hcu : cu ≤ 4) (hca : ∀ j, j < 16 → ca j < 4) (hpl : ∀ j, j < 16 → pl j < 4) : mOk E 1 zX6_changesTo [.ref 21, vN k] h (mX (some (vN (chT ca pl k cu))) h) := by
  refine mOk_w (L := [some (.ref 21), some (vN k), none, none, none, none, none]) pn_X6 rfl (Nat.le_of_ble_eq_true rfl) rfl ?_
  refine mG_iconst (v := nI 0) dX6_changesTo_0 (by decide) ?_
  refine mG_istore_n dX6_changesTo_1 (Nat.le_of_ble_eq_true rfl) rfl rfl ?_
  refine mG_iconst (v := nI 0) dX6_changesTo_2 (by decide) ?_
  refine mG_istore_n dX6_changesTo_3 (Nat.le_of_ble_eq_true rfl) rfl rfl ?_
  refine mG_iconst (v := nI 0) dX6_changesTo_4 (by decide) ?_
  refine mG_istore dX6_changesTo_5 (Nat.le_of_ble_eq_true rfl) rfl rfl ?_
  exact lp_X6_changes (E := E) (T := iterF (chS ca pl k cu) 0 cu (0, 0)) e21 e23 e24 hk1 hk3 hcu hca hpl cu 0 0 0 none none (Nat.zero_add _) (by decide) (Nat.le_refl _) rfl
/-! choosing CUBES for PLACES: cubeAt, placeOf, path, best -/
abbrev mT4 : Type := (Nat → Nat) × (Nat → Nat) × (Nat → Nat) × Int32
def t4ok (x : mT4) : Prop := (∀ j, j < 16 → x.1 j < 4) ∧ (∀ j, j < 16 → x.2.1 j < 4) ∧ ∀ k c, k ≤ 3 → c < 4 → x.2.2.1 (k * 4 + c) ≤ Bd k
def t4up (k p c : Nat) (x : mT4) : mT4 := (mUp x.1 (k * 4 + p) c, mUp x.2.1 (k * 4 + c) p, mUp x.2.2.1 (k * 4 + c) (x.2.2.1 ((k - 1) * 4 + c) * 4 + p + 1), x.2.2.2)
theorem t4up_ok {k p c : Nat} {x : mT4} (hk1 : 1 ≤ k) (hk3 : k ≤ 3) (hp : p < 4) (hc : c < 4) (h : t4ok x) : t4ok (t4up k p c x) := by
  refine ⟨fun j hj => ?_, fun j hj => ?_, fun k' c' hk' hc' => ?_⟩
  · show mUp x.1 (k * 4 + p) c j < 4
    by_cases q : j = k * 4 + p
    · rw [q, mUp_eq]; exact hc
    · rw [mUp_ne _ _ q]; exact h.1 j hj
  · show mUp x.2.1 (k * 4 + c) p j < 4
    by_cases q : j = k * 4 + c
    · rw [q, mUp_eq]; exact hp
    · rw [mUp_ne _ _ q]; exact h.2.1 j hj
  · show mUp x.2.2.1 (k * 4 + c) (x.2.2.1 ((k - 1) * 4 + c) * 4 + p + 1) (k' * 4 + c') ≤ Bd k'
    by_cases q : k' * 4 + c' = k * 4 + c
    · rw [q, mUp_eq]
      obtain rfl : k' = k := by omega
      exact (Bd_le hk1 hk3 (h.2.2 (k' - 1) c (by omega) hc) hp).1
    · rw [mUp_ne _ _ q]; exact h.2.2 k' c' hk' hc'
def chM (T : Nat → Nat) (k p c : Nat) (x : mT4) : Int32 := nI (T (c * 85 + (x.2.2.1 ((k - 1) * 4 + c) * 4 + p + 1))) - nI (T (c * 85 + x.2.2.1 ((k - 1) * 4 + c)))
def chF (T : Nat → Nat) (cu la : Nat) : Nat → Nat → Nat → Nat → Int32 → mT4 → mT4
  | 0, _, _, _, _, x => x
  | f + 1, k, p, us, sp, x => if sp < x.2.2.2 then (if p < cu then iterF (fun c y => if us >>> c &&& 1 = 0 then chF T cu la f k (p + 1) (us ||| 1 <<< c) (sp + chM T k p c y) (t4up k p c y) else y) 0 cu x
      else if k < la then chF T cu la f (k + 1) 0 0 (sp + nI (chT x.1 x.2.1 k cu)) x
      else (x.1, x.2.1, x.2.2.1, if sp + nI (chT x.1 x.2.1 k cu) < x.2.2.2 then sp + nI (chT x.1 x.2.1 k cu) else x.2.2.2)) else x
theorem iterF_inv2 {σ : Type} (I : σ → Prop) (f : Nat → σ → σ) {N : Nat} (hf : ∀ i x, i < N → I x → I (f i x)) : ∀ n i x, i + n ≤ N → I x → I (iterF f i n x) := by
  intro n
  induction n with
  | zero => intro i x _ h; exact h
  | succ n ih => intro i x hi h; exact ih (i + 1) _ (by omega) (hf i x (by omega) h)
theorem chF_ok (T : Nat → Nat) {cu la : Nat} (hcu : cu ≤ 4) (hla : la ≤ 3) : ∀ f k p us sp x, 1 ≤ k → k ≤ la → p ≤ 4 → t4ok x → t4ok (chF T cu la f k p us sp x) := by
  intro f
  induction f with
  | zero => intro k p us sp x _ _ _ h; exact h
  | succ f ih =>
    intro k p us sp x hk1 hkl hp h
    unfold chF
    split
    · split
      · refine iterF_inv2 t4ok _ (N := cu) (fun c y hc hy => ?_) cu 0 x (by omega) h
        split
        · exact ih _ _ _ _ _ hk1 hkl (by omega) (t4up_ok hk1 (by omega) (by omega) (by omega) hy)
        · exact hy
      · split
        · exact ih _ _ _ _ _ (by omega) (by omega) (by omega) h
        · exact h
    · exact h
/-- the heap with these four -/
def hW (h : mH) (cu la : Nat) (x : mT4) : mH := mU (mU (mU (mU h 21 (oWalk (.ref 3) (.ref 9) cu la x.2.2.2)) 23 (mAr 16 x.1)) 24 (mAr 16 x.2.1)) 25 (mAr 16 x.2.2.1)
theorem hW_upd (h : mH) (w a b c a' b' c' : mC) : mU (mU (mU (mU (mU (mU (mU h 21 w) 23 a) 24 b) 25 c) 23 a') 24 b') 25 c' = mU (mU (mU (mU h 21 w) 23 a') 24 b') 25 c' := by
  funext j
  unfold mU
  by_cases q : j = 25
  · simp [q]
  · by_cases q2 : j = 24
    · simp [q2]
    · by_cases q3 : j = 23 <;> simp [q, q2, q3]
theorem hW_best (h : mH) (w a b c w' : mC) : mU (mU (mU (mU (mU h 21 w) 23 a) 24 b) 25 c) 21 w' = mU (mU (mU (mU h 21 w') 23 a) 24 b) 25 c := by
  funext j
  unfold mU
  by_cases q : j = 21
  · simp [q]
  · simp [q]
set_option maxRecDepth 100000 in
set_option maxHeartbeats 4000000 in
theorem ok_X6_goOnA {E : mE} {h : mH} {d k cu la : Nat} {sp : Int32} {x : mT4} {Q : Option Value → mH → Prop} (hk : k < la) (hla : la ≤ 3) (hrec : mOk E d zX6_choose [.ref 21, vN (k + 1), vN 0, vN 0, .int sp] (hW h cu la x) Q) (hq : ∀ r h', Q r h' → r = none) : mOk E (d + 1) zX6_goOn [.ref 21, vN k, .int sp] (hW h cu la x) Q := by
  refine mOk_w (L := [some (.ref 21), some (vN k), some (.int sp)]) pn_X6 rfl (Nat.le_of_ble_eq_true rfl) rfl ?_
  refine mG_iload_n dX6_goOn_0 rfl ?_
  refine mG_aload_n dX6_goOn_1 rfl ?_
  refine mG_get fX6_45 dX6_goOn_2 rfl (Nat.le_of_ble_eq_true rfl) rfl ?_
  refine mG_icmp_geN dX6_goOn_5 (by omega) (by omega) (fun c5 => absurd c5 (by omega)) (fun c5 => ?_)
  refine mG_aload_n dX6_goOn_8 rfl ?_
  refine mG_iload_n dX6_goOn_9 rfl ?_
  refine mG_iconst (v := nI 1) dX6_goOn_10 (by decide) ?_
  refine mG_iaddN dX6_goOn_11 ?_
  refine mG_iconst (v := nI 0) dX6_goOn_12 (by decide) ?_
  refine mG_iconst (v := nI 0) dX6_goOn_13 (by decide) ?_
  refine mG_iload_n dX6_goOn_14 rfl ?_
  refine mG_cq4 vX6_62 dX6_goOn_15 (mLe_s (by omega) (by decide)) (Nat.le_of_ble_eq_true rfl) rfl (Nat.le_of_ble_eq_true rfl) hrec (fun r h' q => ?_)
  obtain rfl := hq r h' q
  refine mG_goto dX6_goOn_18 ?_
  exact mG_vret dX6_goOn_33 rfl q
set_option maxRecDepth 100000 in
set_option maxHeartbeats 4000000 in
theorem ok_X6_goOnB {E : mE} {h : mH} {d k cu la : Nat} {sp : Int32} {x : mT4} (hk : ¬ k < la) (hk3 : k ≤ 3) (hla : la ≤ 3) : mOk E (d + 1) zX6_goOn [.ref 21, vN k, .int sp] (hW h cu la x) (mX none (hW h cu la (x.1, x.2.1, x.2.2.1, if sp < x.2.2.2 then sp else x.2.2.2))) := by
  refine mOk_w (L := [some (.ref 21), some (vN k), some (.int sp)]) pn_X6 rfl (Nat.le_of_ble_eq_true rfl) rfl ?_
  refine mG_iload_n dX6_goOn_0 rfl ?_
  refine mG_aload_n dX6_goOn_1 rfl ?_
  refine mG_get fX6_45 dX6_goOn_2 rfl (Nat.le_of_ble_eq_true rfl) rfl ?_
  refine mG_icmp_geN dX6_goOn_5 (by omega) (by omega) (fun c5 => ?_) (fun c5 => absurd c5 (by omega))
  refine mG_aload_n dX6_goOn_21 rfl ?_
  refine mG_aload_n dX6_goOn_22 rfl ?_
  refine mG_get fX6_59 dX6_goOn_23 rfl (Nat.le_of_ble_eq_true rfl) rfl ?_
  refine mG_iload_n dX6_goOn_26 rfl ?_
  refine mG_mmin dX6_goOn_27 aX6_91 w_min.1 w_min.2.1 w_min.2.2 (Nat.le_add_left _ _) (by show _ + 13 ≤ 60 * (d + 1); simp [Value.category]; omega) (Nat.zero_le _) (Nat.zero_le _) ?_
  refine mG_putI pX6_59 dX6_goOn_30 rfl (Nat.le_of_ble_eq_true rfl) (Nat.le_of_ble_eq_true rfl) ?_
  exact mG_vret dX6_goOn_33 rfl (mX_of rfl (hW_best _ _ _ _ _ _))
theorem chF_us {us : Nat} {c : Nat} (hu : us < 16) (hc : c < 4) : us ||| 1 <<< c < 16 := or_bit_lt hu hc
theorem mul_step {la k cu : Nat} (hk : k < la) : (la - k) * (cu + 2) = (la - (k + 1)) * (cu + 2) + (cu + 2) := by
  rw [show la - k = (la - (k + 1)) + 1 by omega, Nat.succ_mul]
set_option maxRecDepth 100000 in
set_option maxHeartbeats 4000000 in
theorem lp_X6_choose {E : mE} {h : mH} {f k p us cu la : Nat} {sp : Int32} {T : Nat → Nat} {Z : mT4} (e27 : h 27 = mAr 340 T) (hcu : cu ≤ 4) (hla : la ≤ 3) (hk1 : 1 ≤ k) (hkl : k ≤ la) (hp : p < cu) (hu : us < 16) (hrec : ∀ us sp y, us < 16 → t4ok y → mOk E (2 * f + 3) zX6_choose [.ref 21, vN k, vN (p + 1), vN us, .int sp] (hW h cu la y) (mX none (hW h cu la (chF T cu la f k (p + 1) us sp y)))) : ∀ (n i : Nat) (y : mT4) (x6 x7 x8 : Option Value), i + n = cu → t4ok y → Z = iterF (fun c y => if us >>> c &&& 1 = 0 then chF T cu la f k (p + 1) (us ||| 1 <<< c) (sp + chM T k p c y) (t4up k p c y) else y) i n y → mG E (mR (2 * f + 5), zX6_choose) (mKq E (mR (2 * f + 5)) mN (mX none (hW h cu la Z))) 35 [some (.ref 21), some (vN k), some (vN p), some (vN us), some (.int sp), some (vN i), x6, x7, x8] [] (mN, 0, 0) (hW h cu la y) := by
  intro n
  induction n with
  | zero =>
    intro i y x6 x7 x8 hk hy hZ
    refine mG_iload dX6_choose_35 rfl ?_
    refine mG_aload_n dX6_choose_37 rfl ?_
    refine mG_get fX6_44 dX6_choose_38 rfl (Nat.le_of_ble_eq_true rfl) rfl ?_
    refine mG_icmp_geN dX6_choose_41 (by omega) (by omega) (fun c41 => ?_) (fun c41 => absurd c41 (by omega))
    exact mG_vret dX6_choose_167 rfl (mX_of rfl (by rw [hZ]; rfl))
  | succ n ih =>
    intro i y x6 x7 x8 hk hy hZ
    refine mG_iload dX6_choose_35 rfl ?_
    refine mG_aload_n dX6_choose_37 rfl ?_
    refine mG_get fX6_44 dX6_choose_38 rfl (Nat.le_of_ble_eq_true rfl) rfl ?_
    have hb : us >>> i &&& 1 ≤ 1 := Nat.and_le_right
    have hbd := hy.2.2 (k - 1) i (by omega) (by omega)
    have hB := Bd_le hk1 (show k ≤ 3 by omega) hbd (show p < 4 by omega)
    have hB0 : y.2.2.1 ((k - 1) * 4 + i) ≤ 84 := by omega
    refine mG_icmp_geN dX6_choose_41 (by omega) (by omega) (fun c41 => absurd c41 (by omega)) (fun c41 => ?_)
    refine mG_iload_n dX6_choose_44 rfl ?_
    refine mG_iload dX6_choose_45 rfl ?_
    refine mG_ishrN dX6_choose_47 (by omega) (by omega) ?_
    refine mG_iconst (v := nI 1) dX6_choose_48 (by decide) ?_
    refine mG_iandN dX6_choose_49 ?_
    refine mG_if_neN dX6_choose_50 (by omega) (fun c50 => ?_) (fun c50 => ?_)
    · refine mG_iincN dX6_choose_161 rfl (Nat.le_of_ble_eq_true rfl) rfl rfl ?_
      refine mG_goto dX6_choose_164 ?_
      first
        | exact ih (i + 1) y _ _ _ (by omega) hy (by rw [hZ]; simp only [iterF, if_neg c50]; done)
        | exact ih (i + 1) (chF T cu la f k (p + 1) (us ||| 1 <<< i) (sp + chM T k p i y) (t4up k p i y)) _ _ _ (by omega) (chF_ok T hcu hla _ _ _ _ _ _ hk1 hkl (by omega) (t4up_ok hk1 (by omega) (by omega) (by omega) hy)) (by rw [hZ]; simp only [iterF, if_pos c50]; done)
    · refine mG_aload_n dX6_choose_53 rfl ?_
      refine mG_get fX6_21 dX6_choose_54 rfl (Nat.le_of_ble_eq_true rfl) rfl ?_
      refine mG_iload_n dX6_choose_57 rfl ?_
      refine mG_iconst (v := nI 1) dX6_choose_58 (by decide) ?_
      refine mG_isubN dX6_choose_59 (by omega) ?_
      refine mG_iconst (v := nI 4) dX6_choose_60 (by decide) ?_
      refine mG_imulN dX6_choose_61 ?_
      refine mG_iload dX6_choose_62 rfl ?_
      refine mG_iaddN dX6_choose_64 ?_
      refine mG_ialdA dX6_choose_65 rfl (Nat.le_of_ble_eq_true rfl) (by decide) (by omega) ?_
      refine mG_istore dX6_choose_66 (Nat.le_of_ble_eq_true rfl) rfl rfl ?_
      refine mG_iload dX6_choose_68 rfl ?_
      refine mG_iload_n dX6_choose_70 rfl ?_
      refine mG_cs2 sX6_73 dX6_choose_71 (mLe_s (by omega) (by decide)) (Nat.le_of_ble_eq_true rfl) (ok_X6_longer) ?_
      refine mG_istore dX6_choose_74 (Nat.le_of_ble_eq_true rfl) rfl rfl ?_
      refine mG_aload_n dX6_choose_76 rfl ?_
      refine mG_get fX6_27 dX6_choose_77 rfl (Nat.le_of_ble_eq_true rfl) rfl ?_
      refine mG_iload dX6_choose_80 rfl ?_
      refine mG_bipush (v := nI 85) dX6_choose_82 (by decide) ?_
      refine mG_imulN dX6_choose_84 ?_
      refine mG_iload dX6_choose_85 rfl ?_
      refine mG_iaddN dX6_choose_87 ?_
      refine mG_ialdA dX6_choose_88 e27 (Nat.le_of_ble_eq_true rfl) (by decide) (by omega) ?_
      refine mG_aload_n dX6_choose_89 rfl ?_
      refine mG_get fX6_27 dX6_choose_90 rfl (Nat.le_of_ble_eq_true rfl) rfl ?_
      refine mG_iload dX6_choose_93 rfl ?_
      refine mG_bipush (v := nI 85) dX6_choose_95 (by decide) ?_
      refine mG_imulN dX6_choose_97 ?_
      refine mG_iload dX6_choose_98 rfl ?_
      refine mG_iaddN dX6_choose_100 ?_
      refine mG_ialdA dX6_choose_101 e27 (Nat.le_of_ble_eq_true rfl) (by decide) (by omega) ?_
      refine mG_isub dX6_choose_102 ?_
      refine mG_istore dX6_choose_103 (Nat.le_of_ble_eq_true rfl) rfl rfl ?_
      refine mG_aload_n dX6_choose_105 rfl ?_
      refine mG_get fX6_15 dX6_choose_106 rfl (Nat.le_of_ble_eq_true rfl) rfl ?_
      refine mG_iload_n dX6_choose_109 rfl ?_
      refine mG_iconst (v := nI 4) dX6_choose_110 (by decide) ?_
      refine mG_imulN dX6_choose_111 ?_
      refine mG_iload_n dX6_choose_112 rfl ?_
      refine mG_iaddN dX6_choose_113 ?_
      refine mG_iload dX6_choose_114 rfl ?_
      refine mG_iastA dX6_choose_116 rfl (Nat.le_of_ble_eq_true rfl) (by decide) (by omega) ?_
      refine mG_aload_n dX6_choose_117 rfl ?_
      refine mG_get fX6_18 dX6_choose_118 rfl (Nat.le_of_ble_eq_true rfl) rfl ?_
      refine mG_iload_n dX6_choose_121 rfl ?_
      refine mG_iconst (v := nI 4) dX6_choose_122 (by decide) ?_
      refine mG_imulN dX6_choose_123 ?_
      refine mG_iload dX6_choose_124 rfl ?_
      refine mG_iaddN dX6_choose_126 ?_
      refine mG_iload_n dX6_choose_127 rfl ?_
      refine mG_iastA dX6_choose_128 rfl (Nat.le_of_ble_eq_true rfl) (by decide) (by omega) ?_
      refine mG_aload_n dX6_choose_129 rfl ?_
      refine mG_get fX6_21 dX6_choose_130 rfl (Nat.le_of_ble_eq_true rfl) rfl ?_
      refine mG_iload_n dX6_choose_133 rfl ?_
      refine mG_iconst (v := nI 4) dX6_choose_134 (by decide) ?_
      refine mG_imulN dX6_choose_135 ?_
      refine mG_iload dX6_choose_136 rfl ?_
      refine mG_iaddN dX6_choose_138 ?_
      refine mG_iload dX6_choose_139 rfl ?_
      refine mG_iastA dX6_choose_141 rfl (Nat.le_of_ble_eq_true rfl) (by decide) (by omega) ?_
      refine mG_aload_n dX6_choose_142 rfl ?_
      refine mG_iload_n dX6_choose_143 rfl ?_
      refine mG_iload_n dX6_choose_144 rfl ?_
      refine mG_iconst (v := nI 1) dX6_choose_145 (by decide) ?_
      refine mG_iaddN dX6_choose_146 ?_
      refine mG_iload_n dX6_choose_147 rfl ?_
      refine mG_iconst (v := nI 1) dX6_choose_148 (by decide) ?_
      refine mG_iload dX6_choose_149 rfl ?_
      refine mG_ishlN dX6_choose_151 (by omega) (shl1_lt2 (by omega)) ?_
      refine mG_iorN dX6_choose_152 ?_
      refine mG_iload dX6_choose_153 rfl ?_
      refine mG_iload dX6_choose_155 rfl ?_
      refine mG_iadd dX6_choose_157 ?_
      refine mG_heap (h' := hW h cu la (t4up k p i y)) (hW_upd _ _ _ _ _ _ _ _) ?_
      refine mG_cw4 vX6_62 dX6_choose_158 (mLe_s (by omega) (by decide)) (Nat.le_of_ble_eq_true rfl) rfl (Nat.le_of_ble_eq_true rfl) (hrec _ _ (t4up k p i y) (chF_us hu (by omega)) (t4up_ok hk1 (by omega) (by omega) (by omega) hy)) ?_
      refine mG_iincN dX6_choose_161 rfl (Nat.le_of_ble_eq_true rfl) rfl rfl ?_
      refine mG_goto dX6_choose_164 ?_
      first
        | exact ih (i + 1) y _ _ _ (by omega) hy (by rw [hZ]; simp only [iterF, if_neg c50]; done)
        | exact ih (i + 1) (chF T cu la f k (p + 1) (us ||| 1 <<< i) (sp + chM T k p i y) (t4up k p i y)) _ _ _ (by omega) (chF_ok T hcu hla _ _ _ _ _ _ hk1 hkl (by omega) (t4up_ok hk1 (by omega) (by omega) (by omega) hy)) (by rw [hZ]; simp only [iterF, if_pos c50]; done)
set_option maxRecDepth 100000 in
set_option maxHeartbeats 4000000 in
theorem ok_X6_choose {E : mE} {h : mH} {cu la : Nat} {T : Nat → Nat} (e27 : h 27 = mAr 340 T) (hcu : cu ≤ 4) (hla : la ≤ 3) : ∀ (f k p us : Nat) (sp : Int32) (x : mT4), 1 ≤ k → k ≤ la → p ≤ cu → us < 16 → (la - k) * (cu + 2) + (cu - p) < f → t4ok x → mOk E (2 * f + 3) zX6_choose [.ref 21, vN k, vN p, vN us, .int sp] (hW h cu la x) (mX none (hW h cu la (chF T cu la f k p us sp x))) := by
  intro f
  induction f with
  | zero => intro k p us sp x _ _ _ _ hf _; exact absurd hf (Nat.not_lt_zero _)
  | succ f ih =>
    intro k p us sp x hk1 hkl hp hu hf hx
    refine mOk_w (L := [some (.ref 21), some (vN k), some (vN p), some (vN us), some (.int sp), none, none, none, none]) pn_X6 rfl (Nat.le_of_ble_eq_true rfl) rfl ?_
    refine mG_iload dX6_choose_0 rfl ?_
    refine mG_aload_n dX6_choose_2 rfl ?_
    refine mG_get fX6_59 dX6_choose_3 rfl (Nat.le_of_ble_eq_true rfl) rfl ?_
    refine mG_icmp_lt dX6_choose_6 (fun c6 => ?_) (fun c6 => ?_)
    · refine mG_iload_n dX6_choose_10 rfl ?_
      refine mG_aload_n dX6_choose_11 rfl ?_
      refine mG_get fX6_44 dX6_choose_12 rfl (Nat.le_of_ble_eq_true rfl) rfl ?_
      refine mG_icmp_ltN dX6_choose_15 (by omega) (by omega) (fun c15 => ?_) (fun c15 => ?_)
      · refine mG_iconst (v := nI 0) dX6_choose_32 (by decide) ?_
        refine mG_istore dX6_choose_33 (Nat.le_of_ble_eq_true rfl) rfl rfl ?_
        exact lp_X6_choose (E := E) (h := h) (f := f) (T := T) (Z := chF T cu la (f + 1) k p us sp x) e27 hcu hla hk1 hkl c15 hu (fun us' sp' y hu' hy => ih k (p + 1) us' sp' y hk1 hkl (by omega) hu' (by omega) hy) cu 0 x none none none (Nat.zero_add _) hx (by simp only [chF, if_pos c6, if_pos c15])
      · refine mG_aload_n dX6_choose_18 rfl ?_
        refine mG_iload_n dX6_choose_19 rfl ?_
        refine mG_iload dX6_choose_20 rfl ?_
        refine mG_aload_n dX6_choose_22 rfl ?_
        refine mG_iload_n dX6_choose_23 rfl ?_
        refine mG_cv1 vX6_96 dX6_choose_24 (mLe_s (by omega) (by decide)) (Nat.le_of_ble_eq_true rfl) rfl (Nat.le_of_ble_eq_true rfl) (ok_X6_changes rfl rfl rfl hk1 (by omega) hcu hx.1 hx.2.1) ?_
        refine mG_iadd dX6_choose_27 ?_
        by_cases qk : k < la
        · have q := ih (k + 1) 0 0 (sp + nI (chT x.1 x.2.1 k cu)) x (by omega) (by omega) (by omega) (by decide) (by rw [mul_step qk] at hf; omega) hx
          refine mG_cw2 vX6_100 dX6_choose_28 (mLe_s (by omega) (by decide)) (Nat.le_of_ble_eq_true rfl) rfl (Nat.le_of_ble_eq_true rfl) (ok_X6_goOnA qk hla q (fun r h' z => z.1)) ?_
          exact mG_vret dX6_choose_31 rfl (mX_of rfl (by simp only [chF, if_pos c6, if_neg (Nat.not_lt.mpr c15), if_pos qk]))
        · refine mG_cw2 vX6_100 dX6_choose_28 (mLe_s (d' := 2 * f + 3 + 1) (by omega) (by decide)) (Nat.le_of_ble_eq_true rfl) rfl (Nat.le_of_ble_eq_true rfl) (ok_X6_goOnB qk (by omega) hla) ?_
          exact mG_vret dX6_choose_31 rfl (mX_of rfl (by simp only [chF, if_pos c6, if_neg (Nat.not_lt.mpr c15), if_neg qk]))
    · exact mG_vret dX6_choose_9 rfl (mX_of rfl (by simp only [chF, if_neg c6]))
