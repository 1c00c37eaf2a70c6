/-! the figures of number k of a walk -/
def twF (k : Nat) : Nat → (Nat → Nat) → Nat → Nat → Nat
  | 0, w, _ => w
  | q + 1, w, r => twF k q (mUp w (k * 4 + q) (r % 10)) (r / 10)
theorem mIm (x : Int32) : x + Int32.ofInt (-1) = x - nI 1 := by
  have e : Int32.ofInt (-1) = -(nI 1) := by decide
  rw [e, Int32.sub_eq_add_neg]
theorem nI_m1 (q : Nat) : nI (q + 1) - nI 1 = nI q := by rw [pk_sub (by omega)]; rfl
set_option maxRecDepth 100000 in
set_option maxHeartbeats 4000000 in
theorem lp_X6_wanted {E : mE} {h : mH} {cu la k n : Nat} {tv nv : Value} {be : Int32} {T : Nat → Nat} (e21 : h 21 = oWalk tv nv cu la be) (hk3 : k ≤ 3) : ∀ (q r : Nat) (w : Nat → Nat), q ≤ 4 → r < 2 ^ 31 → T = twF k q w r → mG E (mR 1, zX6_takeWanted) (mKq E (mR 1) mN (mX none (mU h 22 (mAr 16 T)))) 10 [some (.ref 21), some (vN k), some (vN n), some (vN r), some (.int (nI q - nI 1))] [] (mN, 0, 0) (mU h 22 (mAr 16 w)) := by
  intro q
  induction q with
  | zero =>
    intro r w hq hr hT
    refine mG_iload dX6_takeWanted_10 rfl ?_
    refine mG_if_lt dX6_takeWanted_12 (fun c12 => ?_) (fun c12 => absurd (by decide) c12)
    exact mG_vret dX6_takeWanted_41 rfl (mX_of rfl (by rw [hT]; rfl))
  | succ q ih =>
    intro r w hq hr hT
    rw [nI_m1]
    refine mG_iload dX6_takeWanted_10 rfl ?_
    refine mG_if_ltN dX6_takeWanted_12 (by omega) (fun c12 => c12.elim) (fun c12 => ?_)
    refine mG_aload_n dX6_takeWanted_15 rfl ?_
    refine mG_get fX6_9 dX6_takeWanted_16 e21 (Nat.le_of_ble_eq_true rfl) rfl ?_
    refine mG_iload_n dX6_takeWanted_19 rfl ?_
    refine mG_iconst (v := nI 4) dX6_takeWanted_20 (by decide) ?_
    refine mG_imulN dX6_takeWanted_21 ?_
    refine mG_iload dX6_takeWanted_22 rfl ?_
    refine mG_iaddN dX6_takeWanted_24 ?_
    refine mG_iload_n dX6_takeWanted_25 rfl ?_
    refine mG_bipush (v := nI 10) dX6_takeWanted_26 (by decide) ?_
    refine mG_iremN dX6_takeWanted_28 (by omega) (by omega) (by omega) ?_
    refine mG_iastA dX6_takeWanted_29 rfl (Nat.le_of_ble_eq_true rfl) (by decide) (by omega) ?_
    refine mG_iload_n dX6_takeWanted_30 rfl ?_
    refine mG_bipush (v := nI 10) dX6_takeWanted_31 (by decide) ?_
    refine mG_idivN dX6_takeWanted_33 (by omega) (by omega) (by omega) ?_
    refine mG_istore_n dX6_takeWanted_34 (Nat.le_of_ble_eq_true rfl) rfl rfl ?_
    refine mG_iinc dX6_takeWanted_35 rfl (mIm _) (Nat.le_of_ble_eq_true rfl) rfl rfl ?_
    refine mG_goto dX6_takeWanted_38 ?_
    rw [mU_same]
    exact ih _ _ (by omega) (by omega) hT
set_option maxRecDepth 100000 in
set_option maxHeartbeats 4000000 in
theorem ok_X6_wanted {E : mE} {h : mH} {cu la k n : Nat} {tv nv : Value} {be : Int32} {w : Nat → Nat} (e21 : h 21 = oWalk tv nv cu la be) (e22 : h 22 = mAr 16 w) (hk3 : k ≤ 3) (hc : cu ≤ 4) (hn : n < 2 ^ 31) : mOk E 1 zX6_takeWanted [.ref 21, vN k, vN n] h (mX none (mU h 22 (mAr 16 (twF k cu w n)))) := by
  refine mOk_w (L := [some (.ref 21), some (vN k), some (vN n), none, none]) pn_X6 rfl (Nat.le_of_ble_eq_true rfl) rfl ?_
  refine mG_iload_n dX6_takeWanted_0 rfl ?_
  refine mG_istore_n dX6_takeWanted_1 (Nat.le_of_ble_eq_true rfl) rfl rfl ?_
  refine mG_aload_n dX6_takeWanted_2 rfl ?_
  refine mG_get fX6_44 dX6_takeWanted_3 e21 (Nat.le_of_ble_eq_true rfl) rfl ?_
  refine mG_iconst (v := nI 1) dX6_takeWanted_6 (by decide) ?_
  refine mG_isub dX6_takeWanted_7 ?_
  refine mG_istore dX6_takeWanted_8 (Nat.le_of_ble_eq_true rfl) rfl rfl ?_
  have q := lp_X6_wanted (E := E) (n := n) (T := twF k cu w n) e21 hk3 cu n w hc hn rfl
  rw [mU_self h 22 _ e22] at q
  exact q
/-! paths of a CUBE -/
def rpS (nf : Nat → Nat) (bo : Bool) (wa : Nat → Nat) (c k b : Nat) (rec : Nat → (Nat → Nat) × (Nat → Nat) → (Nat → Nat) × (Nat → Nat)) (p : Nat) (x : (Nat → Nat) × (Nat → Nat)) : (Nat → Nat) × (Nat → Nat) :=
  if (rsT nf bo c k (wa (k * 4 + p)) x.1).2 < 1000 then rec (b * 4 + p + 1) ((rsT nf bo c k (wa (k * 4 + p)) x.1).1, mUp x.2 (c * 85 + (b * 4 + p + 1)) (rsT nf bo c k (wa (k * 4 + p)) x.1).2)
  else ((rsT nf bo c k (wa (k * 4 + p)) x.1).1, mUp x.2 (c * 85 + (b * 4 + p + 1)) (rsT nf bo c k (wa (k * 4 + p)) x.1).2)
def rpF (nf : Nat → Nat) (bo : Bool) (cu : Nat) (wa : Nat → Nat) (c : Nat) : Nat → Nat → Nat → (Nat → Nat) × (Nat → Nat) → (Nat → Nat) × (Nat → Nat)
  | 0, _, _, x => x
  | r + 1, k, b, x => iterF (rpS nf bo wa c k b (fun b' y => rpF nf bo cu wa c r (k + 1) b' y)) 0 cu x
theorem iterF_inv {σ : Type} (I : σ → Prop) (f : Nat → σ → σ) (hf : ∀ i x, I x → I (f i x)) : ∀ n i x, I x → I (iterF f i n x) := by
  intro n
  induction n with
  | zero => intro i x h; exact h
  | succ n ih => intro i x h; exact ih (i + 1) _ (hf i x h)
theorem rpF_le (nf : Nat → Nat) (bo : Bool) (cu : Nat) (wa : Nat → Nat) (c : Nat) : ∀ r k b x, (∀ j, j < 24 → x.1 j ≤ 1000) → ∀ j, j < 24 → (rpF nf bo cu wa c r k b x).1 j ≤ 1000 := by
  intro r
  induction r with
  | zero => intro k b x h; exact h
  | succ r ih =>
    intro k b x h
    refine iterF_inv (fun y : (Nat → Nat) × (Nat → Nat) => ∀ j, j < 24 → y.1 j ≤ 1000) _ (fun p y hy => ?_) cu 0 x h
    unfold rpS
    split
    · exact ih _ _ _ (rsT_le nf bo c k _ y.1 hy).1
    · exact (rsT_le nf bo c k _ y.1 hy).1
theorem hP_upd (h : mH) (a b a' b' : mC) : mU (mU (mU (mU h 26 a) 27 b) 26 a') 27 b' = mU (mU h 26 a') 27 b' := by
  funext j
  unfold mU
  by_cases q : j = 27
  · simp [q]
  · by_cases q2 : j = 26 <;> simp [q, q2]
set_option maxRecDepth 100000 in
set_option maxHeartbeats 4000000 in
theorem lp_X6_paths {E : mE} {h : mH} {c k b r : Nat} {T : (Nat → Nat) × (Nat → Nat)} {rec : Nat → (Nat → Nat) × (Nat → Nat) → (Nat → Nat) × (Nat → Nat)} {cu dc it dn wk la : Nat} {bo : Bool} {be : Int32} {nf wa : Nat → Nat} (e3 : h 3 = oTold cu dc it bo) (e9 : h 9 = oNow dn wk) (e10 : h 10 = mAr 24 nf) (e21 : h 21 = oWalk (.ref 3) (.ref 9) cu la be) (e22 : h 22 = mAr 16 wa) (hcu : cu ≤ 4) (hc : c < cu) (hf : ∀ j, j < cu * 6 → nf j < 10) (hwa : ∀ j, j < 16 → wa j < 10) (hk1 : 1 ≤ k) (hk3 : k ≤ 3) (hbd : b ≤ Bd (k - 1)) (hle : ∀ b x, (∀ j, j < 24 → x.1 j ≤ 1000) → ∀ j, j < 24 → (rec b x).1 j ≤ 1000) (hrec : ∀ b (x : (Nat → Nat) × (Nat → Nat)), b ≤ Bd k → (∀ j, j < 24 → x.1 j ≤ 1000) → mOk E (r + 4) zX6_reckonPathsFrom [.ref 21, vN c, vN b, vN (k + 1)] (mU (mU h 26 (mAr 24 x.1)) 27 (mAr 340 x.2)) (mX none (mU (mU h 26 (mAr 24 (rec b x).1)) 27 (mAr 340 (rec b x).2)))) : ∀ (n i : Nat) (x : (Nat → Nat) × (Nat → Nat)) (x5 x6 : Option Value), i + n = cu → (∀ j, j < 24 → x.1 j ≤ 1000) → T = iterF (rpS nf bo wa c k b rec) i n x → mG E (mR (r + 5), zX6_reckonPathsFrom) (mKq E (mR (r + 5)) mN (mX none (mU (mU h 26 (mAr 24 T.1)) 27 (mAr 340 T.2)))) 12 [some (.ref 21), some (vN c), some (vN b), some (vN k), some (vN i), x5, x6] [] (mN, 0, 0) (mU (mU h 26 (mAr 24 x.1)) 27 (mAr 340 x.2)) := by
  intro n
  induction n with
  | zero =>
    intro i x x5 x6 hk hx hT
    refine mG_iload dX6_reckonPathsFrom_12 rfl ?_
    refine mG_aload_n dX6_reckonPathsFrom_14 rfl ?_
    refine mG_get fX6_44 dX6_reckonPathsFrom_15 e21 (Nat.le_of_ble_eq_true rfl) rfl ?_
    refine mG_icmp_geN dX6_reckonPathsFrom_18 (by omega) (by omega) (fun c18 => ?_) (fun c18 => absurd c18 (by omega))
    exact mG_vret dX6_reckonPathsFrom_86 rfl (mX_of rfl (by rw [hT]; rfl))
  | succ n ih =>
    intro i x x5 x6 hk hx hT
    refine mG_iload dX6_reckonPathsFrom_12 rfl ?_
    refine mG_aload_n dX6_reckonPathsFrom_14 rfl ?_
    refine mG_get fX6_44 dX6_reckonPathsFrom_15 e21 (Nat.le_of_ble_eq_true rfl) rfl ?_
    have hB := Bd_le hk1 hk3 hbd (show i < 4 by omega)
    have hfg := hwa (k * 4 + i) (by omega)
    have hrs := rsT_le nf bo c k (wa (k * 4 + i)) x.1 hx
    refine mG_icmp_geN dX6_reckonPathsFrom_18 (by omega) (by omega) (fun c18 => absurd c18 (by omega)) (fun c18 => ?_)
    refine mG_iload_n dX6_reckonPathsFrom_21 rfl ?_
    refine mG_iload dX6_reckonPathsFrom_22 rfl ?_
    refine mG_cs2 sX6_73 dX6_reckonPathsFrom_24 (mLe_s (by omega) (by decide)) (Nat.le_of_ble_eq_true rfl) (ok_X6_longer) ?_
    refine mG_istore dX6_reckonPathsFrom_27 (Nat.le_of_ble_eq_true rfl) rfl rfl ?_
    refine mG_aload_n dX6_reckonPathsFrom_29 rfl ?_
    refine mG_iload_n dX6_reckonPathsFrom_30 rfl ?_
    refine mG_iload_n dX6_reckonPathsFrom_31 rfl ?_
    refine mG_aload_n dX6_reckonPathsFrom_32 rfl ?_
    refine mG_get fX6_9 dX6_reckonPathsFrom_33 e21 (Nat.le_of_ble_eq_true rfl) rfl ?_
    refine mG_iload_n dX6_reckonPathsFrom_36 rfl ?_
    refine mG_iconst (v := nI 4) dX6_reckonPathsFrom_37 (by decide) ?_
    refine mG_imulN dX6_reckonPathsFrom_38 ?_
    refine mG_iload dX6_reckonPathsFrom_39 rfl ?_
    refine mG_iaddN dX6_reckonPathsFrom_41 ?_
    refine mG_ialdA dX6_reckonPathsFrom_42 e22 (Nat.le_of_ble_eq_true rfl) (by decide) (by omega) ?_
    refine mG_cv3 vX6_77 dX6_reckonPathsFrom_43 (mLe_s (by omega) (by decide)) (Nat.le_of_ble_eq_true rfl) e21 (Nat.le_of_ble_eq_true rfl) (ok_X6_sides e3 e9 e10 e21 rfl hk1 hk3 (by omega) (fun j hj => hf _ (by omega)) hfg hx) ?_
    refine mG_istore dX6_reckonPathsFrom_46 (Nat.le_of_ble_eq_true rfl) rfl rfl ?_
    refine mG_aload_n dX6_reckonPathsFrom_48 rfl ?_
    refine mG_get fX6_27 dX6_reckonPathsFrom_49 e21 (Nat.le_of_ble_eq_true rfl) rfl ?_
    refine mG_iload_n dX6_reckonPathsFrom_52 rfl ?_
    refine mG_bipush (v := nI 85) dX6_reckonPathsFrom_53 (by decide) ?_
    refine mG_imulN dX6_reckonPathsFrom_55 ?_
    refine mG_iload dX6_reckonPathsFrom_56 rfl ?_
    refine mG_iaddN dX6_reckonPathsFrom_58 ?_
    refine mG_iload dX6_reckonPathsFrom_59 rfl ?_
    refine mG_iastA dX6_reckonPathsFrom_61 rfl (Nat.le_of_ble_eq_true rfl) (by decide) (by omega) ?_
    refine mG_iload dX6_reckonPathsFrom_62 rfl ?_
    refine mG_sipush (v := nI 1000) dX6_reckonPathsFrom_64 (by decide) ?_
    have hrs2 := hrs.2
    refine mG_icmp_geN dX6_reckonPathsFrom_67 (by omega) (by omega) (fun c67 => ?_) (fun c67 => ?_)
    · refine mG_iincN dX6_reckonPathsFrom_80 rfl (Nat.le_of_ble_eq_true rfl) rfl rfl ?_
      refine mG_goto dX6_reckonPathsFrom_83 ?_
      first
        | (refine mG_heap (h' := mU (mU h 26 (mAr 24 (rsT nf bo c k (wa (k * 4 + i)) x.1).1)) 27 (mAr 340 (mUp x.2 (c * 85 + (b * 4 + i + 1)) (rsT nf bo c k (wa (k * 4 + i)) x.1).2))) (hP_upd _ _ _ _ _) ?_
           exact ih (i + 1) ((rsT nf bo c k (wa (k * 4 + i)) x.1).1, mUp x.2 (c * 85 + (b * 4 + i + 1)) (rsT nf bo c k (wa (k * 4 + i)) x.1).2) _ _ (by omega) hrs.1 (by rw [hT]; simp only [iterF, rpS, if_neg (Nat.not_lt.mpr c67)]))
        | exact ih (i + 1) (rec (b * 4 + i + 1) ((rsT nf bo c k (wa (k * 4 + i)) x.1).1, mUp x.2 (c * 85 + (b * 4 + i + 1)) (rsT nf bo c k (wa (k * 4 + i)) x.1).2)) _ _ (by omega) (hle _ _ hrs.1) (by rw [hT]; simp only [iterF, rpS, if_pos c67])
    · refine mG_aload_n dX6_reckonPathsFrom_70 rfl ?_
      refine mG_iload_n dX6_reckonPathsFrom_71 rfl ?_
      refine mG_iload dX6_reckonPathsFrom_72 rfl ?_
      refine mG_iload_n dX6_reckonPathsFrom_74 rfl ?_
      refine mG_iconst (v := nI 1) dX6_reckonPathsFrom_75 (by decide) ?_
      refine mG_iaddN dX6_reckonPathsFrom_76 ?_
      refine mG_heap (h' := mU (mU h 26 (mAr 24 (rsT nf bo c k (wa (k * 4 + i)) x.1).1)) 27 (mAr 340 (mUp x.2 (c * 85 + (b * 4 + i + 1)) (rsT nf bo c k (wa (k * 4 + i)) x.1).2))) (hP_upd _ _ _ _ _) ?_
      refine mG_cw3 vX6_69 dX6_reckonPathsFrom_77 (mLe_s (by omega) (by decide)) (Nat.le_of_ble_eq_true rfl) e21 (Nat.le_of_ble_eq_true rfl) (hrec (b * 4 + i + 1) ((rsT nf bo c k (wa (k * 4 + i)) x.1).1, mUp x.2 (c * 85 + (b * 4 + i + 1)) (rsT nf bo c k (wa (k * 4 + i)) x.1).2) hB.1 hrs.1) ?_
      refine mG_iincN dX6_reckonPathsFrom_80 rfl (Nat.le_of_ble_eq_true rfl) rfl rfl ?_
      refine mG_goto dX6_reckonPathsFrom_83 ?_
      first
        | (refine mG_heap (h' := mU (mU h 26 (mAr 24 (rsT nf bo c k (wa (k * 4 + i)) x.1).1)) 27 (mAr 340 (mUp x.2 (c * 85 + (b * 4 + i + 1)) (rsT nf bo c k (wa (k * 4 + i)) x.1).2))) (hP_upd _ _ _ _ _) ?_
           exact ih (i + 1) ((rsT nf bo c k (wa (k * 4 + i)) x.1).1, mUp x.2 (c * 85 + (b * 4 + i + 1)) (rsT nf bo c k (wa (k * 4 + i)) x.1).2) _ _ (by omega) hrs.1 (by rw [hT]; simp only [iterF, rpS, if_neg (Nat.not_lt.mpr c67)]))
        | exact ih (i + 1) (rec (b * 4 + i + 1) ((rsT nf bo c k (wa (k * 4 + i)) x.1).1, mUp x.2 (c * 85 + (b * 4 + i + 1)) (rsT nf bo c k (wa (k * 4 + i)) x.1).2)) _ _ (by omega) (hle _ _ hrs.1) (by rw [hT]; simp only [iterF, rpS, if_pos c67])
set_option maxRecDepth 100000 in
set_option maxHeartbeats 4000000 in
theorem ok_X6_paths {E : mE} {h : mH} {c : Nat} {cu dc it dn wk la : Nat} {bo : Bool} {be : Int32} {nf wa : Nat → Nat} (e3 : h 3 = oTold cu dc it bo) (e9 : h 9 = oNow dn wk) (e10 : h 10 = mAr 24 nf) (e21 : h 21 = oWalk (.ref 3) (.ref 9) cu la be) (e22 : h 22 = mAr 16 wa) (hcu : cu ≤ 4) (hc : c < cu) (hf : ∀ j, j < cu * 6 → nf j < 10) (hwa : ∀ j, j < 16 → wa j < 10) (hla : la ≤ 3) : ∀ (r k b : Nat) (x : (Nat → Nat) × (Nat → Nat)), k + r = la + 1 → 1 ≤ k → b ≤ Bd (k - 1) → (∀ j, j < 24 → x.1 j ≤ 1000) → mOk E (r + 4) zX6_reckonPathsFrom [.ref 21, vN c, vN b, vN k] (mU (mU h 26 (mAr 24 x.1)) 27 (mAr 340 x.2)) (mX none (mU (mU h 26 (mAr 24 (rpF nf bo cu wa c r k b x).1)) 27 (mAr 340 (rpF nf bo cu wa c r k b x).2))) := by
  intro r
  induction r with
  | zero =>
    intro k b x hk hk1 hbd hx
    refine mOk_w (L := [some (.ref 21), some (vN c), some (vN b), some (vN k), none, none, none]) pn_X6 rfl (Nat.le_of_ble_eq_true rfl) rfl ?_
    refine mG_iload_n dX6_reckonPathsFrom_0 rfl ?_
    refine mG_aload_n dX6_reckonPathsFrom_1 rfl ?_
    refine mG_get fX6_45 dX6_reckonPathsFrom_2 e21 (Nat.le_of_ble_eq_true rfl) rfl ?_
    refine mG_icmp_leN dX6_reckonPathsFrom_5 (by omega) (by omega) (fun c5 => absurd c5 (by omega)) (fun c5 => ?_)
    exact mG_vret dX6_reckonPathsFrom_8 rfl (mX_of rfl rfl)
  | succ r ih =>
    intro k b x hk hk1 hbd hx
    refine mOk_w (L := [some (.ref 21), some (vN c), some (vN b), some (vN k), none, none, none]) pn_X6 rfl (Nat.le_of_ble_eq_true rfl) rfl ?_
    refine mG_iload_n dX6_reckonPathsFrom_0 rfl ?_
    refine mG_aload_n dX6_reckonPathsFrom_1 rfl ?_
    refine mG_get fX6_45 dX6_reckonPathsFrom_2 e21 (Nat.le_of_ble_eq_true rfl) rfl ?_
    refine mG_icmp_leN dX6_reckonPathsFrom_5 (by omega) (by omega) (fun c5 => ?_) (fun c5 => absurd c5 (by omega))
    refine mG_iconst (v := nI 0) dX6_reckonPathsFrom_9 (by decide) ?_
    refine mG_istore dX6_reckonPathsFrom_10 (Nat.le_of_ble_eq_true rfl) rfl rfl ?_
    exact lp_X6_paths (E := E) (h := h) (r := r) (rec := fun b' y => rpF nf bo cu wa c r (k + 1) b' y) e3 e9 e10 e21 e22 hcu hc hf hwa hk1 (by omega) hbd (fun b' y hy => rpF_le nf bo cu wa c r (k + 1) b' y hy) (fun b' y hb' hy => ih (k + 1) b' y (by omega) (by omega) hb' hy) cu 0 x none none (Nat.zero_add _) hx rfl
/-! all turns of a CUBE -/
def rtI (fr : Nat → Nat) (c s : Nat) (g : Nat → Nat) : Nat → Nat := mUp g s (if s = fr c then 0 else 1000)
def rtF (nf fr : Nat → Nat) (bo : Bool) (cu : Nat) (wa : Nat → Nat) (la c : Nat) (x : (Nat → Nat) × (Nat → Nat)) : (Nat → Nat) × (Nat → Nat) := rpF nf bo cu wa c la 1 0 (iterF (rtI fr c) 0 6 x.1, mUp x.2 (c * 85 + 0) 0)
theorem rtI_le (fr : Nat → Nat) (c n i : Nat) (g : Nat → Nat) (hg : ∀ j, j < 24 → g j ≤ 1000) : ∀ j, j < 24 → iterF (rtI fr c) i n g j ≤ 1000 := by
  refine iterF_inv (fun y : Nat → Nat => ∀ j, j < 24 → y j ≤ 1000) _ (fun s y hy j hj => ?_) n i g hg
  unfold rtI
  by_cases q : j = s
  · rw [q, mUp_eq]
    split <;> omega
  · rw [mUp_ne _ _ q]; exact hy j hj
set_option maxRecDepth 100000 in
set_option maxHeartbeats 4000000 in
theorem lp_X6_turns {E : mE} {h : mH} {c : Nat} {fr T : Nat → Nat} {t27 : Nat → Nat} {cu dc it dn wk la : Nat} {bo : Bool} {be : Int32} {nf wa : Nat → Nat} (e3 : h 3 = oTold cu dc it bo) (e9 : h 9 = oNow dn wk) (e10 : h 10 = mAr 24 nf) (e21 : h 21 = oWalk (.ref 3) (.ref 9) cu la be) (e22 : h 22 = mAr 16 wa) (e12 : h 12 = mAr 4 fr) (e27 : h 27 = mAr 340 t27) (hcu : cu ≤ 4) (hc : c < cu) (hf : ∀ j, j < cu * 6 → nf j < 10) (hwa : ∀ j, j < 16 → wa j < 10) (hfr : ∀ j, j < cu → fr j < 6) (hla : la ≤ 3) : ∀ (n i : Nat) (g : Nat → Nat), i + n = 6 → (∀ j, j < 24 → g j ≤ 1000) → T = iterF (rtI fr c) i n g → mG E (mR (la + 5), zX6_reckonTurns) (mKq E (mR (la + 5)) mN (mX none (mU (mU h 26 (mAr 24 (rpF nf bo cu wa c la 1 0 (T, mUp t27 (c * 85 + 0) 0)).1)) 27 (mAr 340 (rpF nf bo cu wa c la 1 0 (T, mUp t27 (c * 85 + 0) 0)).2)))) 2 [some (.ref 21), some (vN c), some (vN i)] [] (mN, 0, 0) (mU h 26 (mAr 24 g)) := by
  intro n
  induction n with
  | zero =>
    intro i g hk hg hT
    refine mG_iload_n dX6_reckonTurns_2 rfl ?_
    refine mG_bipush (v := nI 6) dX6_reckonTurns_3 (by decide) ?_
    refine mG_icmp_geN dX6_reckonTurns_5 (by omega) (by omega) (fun c5 => ?_) (fun c5 => absurd c5 (by omega))
    refine mG_aload_n dX6_reckonTurns_40 rfl ?_
    refine mG_get fX6_27 dX6_reckonTurns_41 e21 (Nat.le_of_ble_eq_true rfl) rfl ?_
    refine mG_iload_n dX6_reckonTurns_44 rfl ?_
    refine mG_bipush (v := nI 85) dX6_reckonTurns_45 (by decide) ?_
    refine mG_imulN dX6_reckonTurns_47 ?_
    refine mG_iconst (v := nI 0) dX6_reckonTurns_48 (by decide) ?_
    refine mG_iaddN dX6_reckonTurns_49 ?_
    refine mG_iconst (v := nI 0) dX6_reckonTurns_50 (by decide) ?_
    refine mG_iastA dX6_reckonTurns_51 e27 (Nat.le_of_ble_eq_true rfl) (by decide) (by omega) ?_
    refine mG_aload_n dX6_reckonTurns_52 rfl ?_
    refine mG_iload_n dX6_reckonTurns_53 rfl ?_
    refine mG_iconst (v := nI 0) dX6_reckonTurns_54 (by decide) ?_
    refine mG_iconst (v := nI 1) dX6_reckonTurns_55 (by decide) ?_
    obtain rfl : T = g := hT
    refine mG_cw3 vX6_69 dX6_reckonTurns_56 (mLe_s (by omega) (by decide)) (Nat.le_of_ble_eq_true rfl) e21 (Nat.le_of_ble_eq_true rfl) (ok_X6_paths e3 e9 e10 e21 e22 hcu hc hf hwa hla la 1 0 (_, _) (by omega) (Nat.le_refl _) (Nat.zero_le _) hg) ?_
    exact mG_vret dX6_reckonTurns_59 rfl (mX_of rfl rfl)
  | succ n ih =>
    intro i g hk hg hT
    refine mG_iload_n dX6_reckonTurns_2 rfl ?_
    refine mG_bipush (v := nI 6) dX6_reckonTurns_3 (by decide) ?_
    have hfc := hfr c hc
    refine mG_icmp_geN dX6_reckonTurns_5 (by omega) (by omega) (fun c5 => absurd c5 (by omega)) (fun c5 => ?_)
    refine mG_aload_n dX6_reckonTurns_8 rfl ?_
    refine mG_get fX6_24 dX6_reckonTurns_9 e21 (Nat.le_of_ble_eq_true rfl) rfl ?_
    refine mG_iload_n dX6_reckonTurns_12 rfl ?_
    refine mG_iload_n dX6_reckonTurns_13 rfl ?_
    refine mG_aload_n dX6_reckonTurns_14 rfl ?_
    refine mG_get fX6_34 dX6_reckonTurns_15 e21 (Nat.le_of_ble_eq_true rfl) rfl ?_
    refine mG_get fX6_66 dX6_reckonTurns_18 e9 (Nat.le_of_ble_eq_true rfl) rfl ?_
    refine mG_iload_n dX6_reckonTurns_21 rfl ?_
    refine mG_ialdA dX6_reckonTurns_22 e12 (Nat.le_of_ble_eq_true rfl) (by decide) (by omega) ?_
    refine mG_icmp_neN dX6_reckonTurns_23 (by omega) (by omega) (fun c23 => ?_) (fun c23 => ?_)
    · refine mG_sipush (v := nI 1000) dX6_reckonTurns_30 (by decide) ?_
      refine mG_iastA dX6_reckonTurns_33 rfl (Nat.le_of_ble_eq_true rfl) (by decide) (by omega) ?_
      refine mG_iincN dX6_reckonTurns_34 rfl (Nat.le_of_ble_eq_true rfl) rfl rfl ?_
      refine mG_goto dX6_reckonTurns_37 ?_
      rw [mU_same]
      refine ih (i + 1) _ (by omega) (fun j hj => ?_) (by rw [hT]; first | (simp only [iterF, rtI, if_pos c23]; done) | (simp only [iterF, rtI, if_neg c23]; done))
      by_cases q : j = i
      · rw [q, mUp_eq]; decide
      · rw [mUp_ne _ _ q]; exact hg j hj
    · refine mG_iconst (v := nI 0) dX6_reckonTurns_26 (by decide) ?_
      refine mG_goto dX6_reckonTurns_27 ?_
      refine mG_iastA dX6_reckonTurns_33 rfl (Nat.le_of_ble_eq_true rfl) (by decide) (by omega) ?_
      refine mG_iincN dX6_reckonTurns_34 rfl (Nat.le_of_ble_eq_true rfl) rfl rfl ?_
      refine mG_goto dX6_reckonTurns_37 ?_
      rw [mU_same]
      refine ih (i + 1) _ (by omega) (fun j hj => ?_) (by rw [hT]; first | (simp only [iterF, rtI, if_pos c23]; done) | (simp only [iterF, rtI, if_neg c23]; done))
      by_cases q : j = i
      · rw [q, mUp_eq]; decide
      · rw [mUp_ne _ _ q]; exact hg j hj
set_option maxRecDepth 100000 in
set_option maxHeartbeats 4000000 in
theorem ok_X6_turns {E : mE} {h : mH} {c : Nat} {fr g : Nat → Nat} {t27 : Nat → Nat} {cu dc it dn wk la : Nat} {bo : Bool} {be : Int32} {nf wa : Nat → Nat} (e3 : h 3 = oTold cu dc it bo) (e9 : h 9 = oNow dn wk) (e10 : h 10 = mAr 24 nf) (e21 : h 21 = oWalk (.ref 3) (.ref 9) cu la be) (e22 : h 22 = mAr 16 wa) (e12 : h 12 = mAr 4 fr) (e26 : h 26 = mAr 24 g) (e27 : h 27 = mAr 340 t27) (hcu : cu ≤ 4) (hc : c < cu) (hf : ∀ j, j < cu * 6 → nf j < 10) (hwa : ∀ j, j < 16 → wa j < 10) (hfr : ∀ j, j < cu → fr j < 6) (hla : la ≤ 3) (hg : ∀ j, j < 24 → g j ≤ 1000) : mOk E (la + 5) zX6_reckonTurns [.ref 21, vN c] h (mX none (mU (mU h 26 (mAr 24 (rtF nf fr bo cu wa la c (g, t27)).1)) 27 (mAr 340 (rtF nf fr bo cu wa la c (g, t27)).2))) := by
  refine mOk_w (L := [some (.ref 21), some (vN c), none]) pn_X6 rfl (Nat.le_of_ble_eq_true rfl) rfl ?_
  refine mG_iconst (v := nI 0) dX6_reckonTurns_0 (by decide) ?_
  refine mG_istore_n dX6_reckonTurns_1 (Nat.le_of_ble_eq_true rfl) rfl rfl ?_
  have q := lp_X6_turns (E := E) (T := iterF (rtI fr c) 0 6 g) e3 e9 e10 e21 e22 e12 e27 hcu hc hf hwa hfr hla 6 0 g rfl hg rfl
  rw [mU_self h 26 _ e26] at q
  exact q
