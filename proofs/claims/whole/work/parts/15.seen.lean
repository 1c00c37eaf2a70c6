/-! the JDK's own: fill, bitCount -/
def us (x : Int32) (k : Nat) : Int32 := (x.toUInt32 >>> ((nI k).toUInt32 &&& Int32.toUInt32 31)).toInt32
def bc1 (x : Int32) : Int32 := x - (us x 1 &&& 1431655765)
def bc2 (x : Int32) : Int32 := (x &&& 858993459) + (us x 2 &&& 858993459)
def bc3 (x : Int32) : Int32 := (x + us x 4) &&& 252645135
def bc4 (x : Int32) : Int32 := x + us x 8
def bc5 (x : Int32) : Int32 := x + us x 16
def popc (x : Nat) : Nat → Nat
  | 0 => 0
  | k + 1 => popc x k + (x >>> k &&& 1)
theorem bc_all : ∀ x : Fin 1024, bc5 (bc4 (bc3 (bc2 (bc1 (nI x.val))))) &&& nI 63 = nI (popc x.val 10) := by decide +kernel
set_option maxRecDepth 100000 in
set_option maxHeartbeats 4000000 in
theorem ok_bitCount {E : mE} {h : mH} {x : Nat} (hx : x < 1024) : mOk E 1 zJ6_bitCount_0f7a4 [vN x] h (mX (some (vN (popc x 10))) h) := by
  refine mOk_w (L := [some (vN x)]) pn_J6 rfl (Nat.le_of_ble_eq_true rfl) rfl ?_
  refine mG_iload_n dJ6_bitCount_0f7a4_0 rfl ?_
  refine mG_iload_n dJ6_bitCount_0f7a4_1 rfl ?_
  refine mG_iconst (v := nI 1) dJ6_bitCount_0f7a4_2 (by decide) ?_
  refine mG_iushr dJ6_bitCount_0f7a4_3 rfl ?_
  refine mG_ldcw dJ6_bitCount_0f7a4_4 kJ6_265 ?_
  refine mG_iand dJ6_bitCount_0f7a4_7 ?_
  refine mG_isub dJ6_bitCount_0f7a4_8 ?_
  refine mG_istore_n dJ6_bitCount_0f7a4_9 (Nat.le_of_ble_eq_true rfl) rfl rfl ?_
  refine mG_iload_n dJ6_bitCount_0f7a4_10 rfl ?_
  refine mG_ldcw dJ6_bitCount_0f7a4_11 kJ6_266 ?_
  refine mG_iand dJ6_bitCount_0f7a4_14 ?_
  refine mG_iload_n dJ6_bitCount_0f7a4_15 rfl ?_
  refine mG_iconst (v := nI 2) dJ6_bitCount_0f7a4_16 (by decide) ?_
  refine mG_iushr dJ6_bitCount_0f7a4_17 rfl ?_
  refine mG_ldcw dJ6_bitCount_0f7a4_18 kJ6_266 ?_
  refine mG_iand dJ6_bitCount_0f7a4_21 ?_
  refine mG_iadd dJ6_bitCount_0f7a4_22 ?_
  refine mG_istore_n dJ6_bitCount_0f7a4_23 (Nat.le_of_ble_eq_true rfl) rfl rfl ?_
  refine mG_iload_n dJ6_bitCount_0f7a4_24 rfl ?_
  refine mG_iload_n dJ6_bitCount_0f7a4_25 rfl ?_
  refine mG_iconst (v := nI 4) dJ6_bitCount_0f7a4_26 (by decide) ?_
  refine mG_iushr dJ6_bitCount_0f7a4_27 rfl ?_
  refine mG_iadd dJ6_bitCount_0f7a4_28 ?_
  refine mG_ldcw dJ6_bitCount_0f7a4_29 kJ6_267 ?_
  refine mG_iand dJ6_bitCount_0f7a4_32 ?_
  refine mG_istore_n dJ6_bitCount_0f7a4_33 (Nat.le_of_ble_eq_true rfl) rfl rfl ?_
  refine mG_iload_n dJ6_bitCount_0f7a4_34 rfl ?_
  refine mG_iload_n dJ6_bitCount_0f7a4_35 rfl ?_
  refine mG_bipush (v := nI 8) dJ6_bitCount_0f7a4_36 (by decide) ?_
  refine mG_iushr dJ6_bitCount_0f7a4_38 rfl ?_
  refine mG_iadd dJ6_bitCount_0f7a4_39 ?_
  refine mG_istore_n dJ6_bitCount_0f7a4_40 (Nat.le_of_ble_eq_true rfl) rfl rfl ?_
  refine mG_iload_n dJ6_bitCount_0f7a4_41 rfl ?_
  refine mG_iload_n dJ6_bitCount_0f7a4_42 rfl ?_
  refine mG_bipush (v := nI 16) dJ6_bitCount_0f7a4_43 (by decide) ?_
  refine mG_iushr dJ6_bitCount_0f7a4_45 rfl ?_
  refine mG_iadd dJ6_bitCount_0f7a4_46 ?_
  refine mG_istore_n dJ6_bitCount_0f7a4_47 (Nat.le_of_ble_eq_true rfl) rfl rfl ?_
  refine mG_iload_n dJ6_bitCount_0f7a4_48 rfl ?_
  refine mG_bipush (v := nI 63) dJ6_bitCount_0f7a4_49 (by decide) ?_
  refine mG_iand dJ6_bitCount_0f7a4_51 ?_
  exact mG_iret dJ6_bitCount_0f7a4_52 rfl (mX_of (congrArg (fun z => some (Value.int z)) (bc_all ⟨x, hx⟩)) rfl)
set_option maxRecDepth 100000 in
set_option maxHeartbeats 4000000 in
theorem lp_fill20 {E : mE} {h0 : mH}  : ∀ (k i : Nat) (h : mH) (g : Nat → Nat), i + k = 10 → h = mU h0 20 (mAr 10 g) → (∀ j, j < i → g j = 0) → mG E (mR 1, zJ7_fill_53178) (mKq E (mR 1) mN (mX none (mU h0 20 (mAr 10 (fun _ => 0))))) 5 [some (.ref 20), some (vN 0), some (vN i), some (vN 10)] [] (mN, 0, 0) h := by
  intro k
  induction k with
  | zero =>
    intro i h g hk hh hg
    refine mG_iload_n dJ7_fill_53178_5 rfl ?_
    refine mG_iload_n dJ7_fill_53178_6 rfl ?_
    refine mG_icmp_geN dJ7_fill_53178_7 (by omega) (by omega) (fun c7 => ?_) (fun c7 => absurd c7 (by omega))
    refine mG_cong (mU h0 20 (mAr 10 (fun _ => 0))) (fun b _ => by rw [hh]; exact mEq_U mEq_h _ (mEq_ar (fun j hj => hg j (by omega))) b) ?_
    exact mG_vret dJ7_fill_53178_20 rfl (mX_of rfl rfl)
  | succ k ih =>
    intro i h g hk hh hg
    refine mG_iload_n dJ7_fill_53178_5 rfl ?_
    refine mG_iload_n dJ7_fill_53178_6 rfl ?_
    refine mG_icmp_geN dJ7_fill_53178_7 (by omega) (by omega) (fun c7 => absurd c7 (by omega)) (fun c7 => ?_)
    refine mG_aload_n dJ7_fill_53178_10 rfl ?_
    refine mG_iload_n dJ7_fill_53178_11 rfl ?_
    refine mG_iload_n dJ7_fill_53178_12 rfl ?_
    refine mG_iastA (x := 0) dJ7_fill_53178_13 (show h 20 = mAr 10 g by rw [hh]; rfl) (Nat.le_of_ble_eq_true rfl) (by decide) (by omega) ?_
    refine mG_iincN dJ7_fill_53178_14 rfl (Nat.le_of_ble_eq_true rfl) rfl rfl ?_
    refine mG_goto dJ7_fill_53178_17 ?_
    exact ih (i + 1) _ (mUp g i 0) (by omega) (by rw [hh, mU_same]) (fun j hj => by
      by_cases q : j = i
      · rw [q, mUp_eq]
      · rw [mUp_ne _ _ q]; exact hg j (by omega))
set_option maxRecDepth 100000 in
set_option maxHeartbeats 4000000 in
theorem ok_fill20 {E : mE} {h : mH} {g : Nat → Nat} (e20 : h 20 = mAr 10 g) : mOk E 1 zJ7_fill_53178 [.ref 20, vN 0] h (mX none (mU h 20 (mAr 10 (fun _ => 0)))) := by
  refine mOk_w (L := [some (.ref 20), some (vN 0), none, none]) pn_J7 rfl (Nat.le_of_ble_eq_true rfl) rfl ?_
  refine mG_iconst (v := nI 0) dJ7_fill_53178_0 (by decide) ?_
  refine mG_istore_n dJ7_fill_53178_1 (Nat.le_of_ble_eq_true rfl) rfl rfl ?_
  refine mG_aload_n dJ7_fill_53178_2 rfl ?_
  refine mG_alen dJ7_fill_53178_3 e20 (Nat.le_of_ble_eq_true rfl) (by decide) ?_
  refine mG_istore_n dJ7_fill_53178_4 (Nat.le_of_ble_eq_true rfl) rfl rfl ?_
  exact lp_fill20 10 0 h g rfl (mU_self h 20 _ e20).symm (fun _ z => absurd z (Nat.not_lt_zero _))
set_option maxRecDepth 100000 in
set_option maxHeartbeats 4000000 in
theorem lp_fill29 {E : mE} {h0 : mH}  : ∀ (k i : Nat) (h : mH) (g : Nat → Nat), i + k = 10 → h = mU h0 29 (mAr 10 g) → (∀ j, j < i → g j = 0) → mG E (mR 1, zJ7_fill_53178) (mKq E (mR 1) mN (mX none (mU h0 29 (mAr 10 (fun _ => 0))))) 5 [some (.ref 29), some (vN 0), some (vN i), some (vN 10)] [] (mN, 0, 0) h := by
  intro k
  induction k with
  | zero =>
    intro i h g hk hh hg
    refine mG_iload_n dJ7_fill_53178_5 rfl ?_
    refine mG_iload_n dJ7_fill_53178_6 rfl ?_
    refine mG_icmp_geN dJ7_fill_53178_7 (by omega) (by omega) (fun c7 => ?_) (fun c7 => absurd c7 (by omega))
    refine mG_cong (mU h0 29 (mAr 10 (fun _ => 0))) (fun b _ => by rw [hh]; exact mEq_U mEq_h _ (mEq_ar (fun j hj => hg j (by omega))) b) ?_
    exact mG_vret dJ7_fill_53178_20 rfl (mX_of rfl rfl)
  | succ k ih =>
    intro i h g hk hh hg
    refine mG_iload_n dJ7_fill_53178_5 rfl ?_
    refine mG_iload_n dJ7_fill_53178_6 rfl ?_
    refine mG_icmp_geN dJ7_fill_53178_7 (by omega) (by omega) (fun c7 => absurd c7 (by omega)) (fun c7 => ?_)
    refine mG_aload_n dJ7_fill_53178_10 rfl ?_
    refine mG_iload_n dJ7_fill_53178_11 rfl ?_
    refine mG_iload_n dJ7_fill_53178_12 rfl ?_
    refine mG_iastA (x := 0) dJ7_fill_53178_13 (show h 29 = mAr 10 g by rw [hh]; rfl) (Nat.le_of_ble_eq_true rfl) (by decide) (by omega) ?_
    refine mG_iincN dJ7_fill_53178_14 rfl (Nat.le_of_ble_eq_true rfl) rfl rfl ?_
    refine mG_goto dJ7_fill_53178_17 ?_
    exact ih (i + 1) _ (mUp g i 0) (by omega) (by rw [hh, mU_same]) (fun j hj => by
      by_cases q : j = i
      · rw [q, mUp_eq]
      · rw [mUp_ne _ _ q]; exact hg j (by omega))
set_option maxRecDepth 100000 in
set_option maxHeartbeats 4000000 in
theorem ok_fill29 {E : mE} {h : mH} {g : Nat → Nat} (e29 : h 29 = mAr 10 g) : mOk E 1 zJ7_fill_53178 [.ref 29, vN 0] h (mX none (mU h 29 (mAr 10 (fun _ => 0)))) := by
  refine mOk_w (L := [some (.ref 29), some (vN 0), none, none]) pn_J7 rfl (Nat.le_of_ble_eq_true rfl) rfl ?_
  refine mG_iconst (v := nI 0) dJ7_fill_53178_0 (by decide) ?_
  refine mG_istore_n dJ7_fill_53178_1 (Nat.le_of_ble_eq_true rfl) rfl rfl ?_
  refine mG_aload_n dJ7_fill_53178_2 rfl ?_
  refine mG_alen dJ7_fill_53178_3 e29 (Nat.le_of_ble_eq_true rfl) (by decide) ?_
  refine mG_istore_n dJ7_fill_53178_4 (Nat.le_of_ble_eq_true rfl) rfl rfl ?_
  exact lp_fill29 10 0 h g rfl (mU_self h 29 _ e29).symm (fun _ z => absurd z (Nat.not_lt_zero _))
abbrev mZr (n : Nat) (g : Nat → Bool) : mC := .inl (2, n, fun j => mb (g j))
def mUb (g : Nat → Bool) (i : Nat) (v : Bool) : Nat → Bool := fun j => if j = i then v else g j
theorem mUb_mb (g : Nat → Bool) (i : Nat) (v : Bool) : upd (fun j => mb (g j)) i (mb v) = fun j => mb (mUb g i v j) := by
  funext j
  unfold upd mUb
  by_cases e : j = i <;> simp [e]
theorem mEq_zr {n : Nat} {g g' : Nat → Bool} (e : ∀ j, j < n → g j = g' j) : mEq (mZr n g) (mZr n g') := Or.inr ⟨2, n, _, _, rfl, rfl, fun j hj => by rw [e j hj]⟩
theorem mG_zaldA {E : mE} {M : mM} {K : mKt} {pc pc' : Nat} {L : List (Option Value)} {st : List Value} {h : mH} {a : Nat × Nat × Nat} {b n i : Nat} {g : Nat → Bool} (hd : mD M.2.2.1 pc .baload 1 pc') (hh : h b = mZr n g) (hn : b < a.1) (hm : n < 2 ^ 31) (hi : i < n) (kk : mG E M K pc' L (.int (mb (g i)) :: st) a h) : mG E M K pc L (.int (nI i) :: .ref b :: st) a h := mG_zaldN hd hh hn hm hi kk
theorem mG_zastA {E : mE} {M : mM} {K : mKt} {pc pc' : Nat} {L : List (Option Value)} {st : List Value} {h : mH} {a : Nat × Nat × Nat} {b n i : Nat} {x : Bool} {g : Nat → Bool} (hd : mD M.2.2.1 pc .bastore 1 pc') (hh : h b = mZr n g) (hn : b < a.1) (hm : n < 2 ^ 31) (hi : i < n) (kk : mG E M K pc' L st a (mU h b (mZr n (mUb g i x)))) : mG E M K pc L (.int (mb x) :: .int (nI i) :: .ref b :: st) a h := mG_zastN hd hh hn hm hi (by rw [mUb_mb]; exact kk)
/-! Seen -/
abbrev oSeen (n : Nat) : mC := mOb 2 [.ref 17, .ref 18, vN n]
theorem fgs_lt {nf : Nat → Nat} {c : Nat} : ∀ i, (∀ j, j < i → nf (c * 6 + j) < 10) → fgs nf c i < 1024 := by
  intro i
  induction i with
  | zero => intro _; show (0 : Nat) < 1024; decide
  | succ i ih =>
    intro q
    refine Nat.or_lt_two_pow (n := 10) (ih (fun j hj => q j (by omega))) ?_
    rw [Nat.one_shiftLeft]
    exact Nat.pow_lt_pow_right (by decide) (q i (by omega))
/-- whether all that was SEEN is so of FIGURES f -/
def mayB (sf st : Nat → Nat) (n f : Nat) : Bool := allF (fun i => decide (f >>> sf i &&& 1 = st i)) 0 n
set_option maxRecDepth 100000 in
set_option maxHeartbeats 4000000 in
theorem ok_X2_append {E : mE} {h : mH} {n f t : Nat} {sf st : Nat → Nat} (e16 : h 16 = oSeen n) (e17 : h 17 = mAr 6 sf) (e18 : h 18 = mAr 6 st) (hn : n < 6) : mOk E 1 zX2_append [.ref 16, vN f, vN t] h (mX none (mU (mU (mU h 17 (mAr 6 (mUp sf n f))) 18 (mAr 6 (mUp st n t))) 16 (oSeen (n + 1)))) := by
  refine mOk_w (L := [some (.ref 16), some (vN f), some (vN t)]) pn_X2 rfl (Nat.le_of_ble_eq_true rfl) rfl ?_
  refine mG_aload_n dX2_append_0 rfl ?_
  refine mG_get fX2_9 dX2_append_1 e16 (Nat.le_of_ble_eq_true rfl) rfl ?_
  refine mG_aload_n dX2_append_4 rfl ?_
  refine mG_get fX2_18 dX2_append_5 e16 (Nat.le_of_ble_eq_true rfl) rfl ?_
  refine mG_iload_n dX2_append_8 rfl ?_
  refine mG_iastA dX2_append_9 e17 (Nat.le_of_ble_eq_true rfl) (by decide) (by omega) ?_
  refine mG_aload_n dX2_append_10 rfl ?_
  refine mG_get fX2_15 dX2_append_11 e16 (Nat.le_of_ble_eq_true rfl) rfl ?_
  refine mG_aload_n dX2_append_14 rfl ?_
  refine mG_get fX2_18 dX2_append_15 e16 (Nat.le_of_ble_eq_true rfl) rfl ?_
  refine mG_iload_n dX2_append_18 rfl ?_
  refine mG_iastA dX2_append_19 e18 (Nat.le_of_ble_eq_true rfl) (by decide) (by omega) ?_
  refine mG_aload_n dX2_append_20 rfl ?_
  refine mG_dup dX2_append_21 rfl ?_
  refine mG_get fX2_18 dX2_append_22 e16 (Nat.le_of_ble_eq_true rfl) rfl ?_
  refine mG_iconst (v := nI 1) dX2_append_25 (by decide) ?_
  refine mG_iaddN dX2_append_26 ?_
  refine mG_putI pX2_18 dX2_append_27 e16 (Nat.le_of_ble_eq_true rfl) (Nat.le_of_ble_eq_true rfl) ?_
  exact mG_vret dX2_append_30 rfl (mX_of rfl rfl)
set_option maxRecDepth 100000 in
set_option maxHeartbeats 4000000 in
theorem lp_X2_mayBe {E : mE} {h : mH} {r : Bool} {n f : Nat} {sf st : Nat → Nat} (e16 : h 16 = oSeen n) (e17 : h 17 = mAr 6 sf) (e18 : h 18 = mAr 6 st) (hn : n ≤ 6) (hsf : ∀ j, j < n → sf j < 10) (hst : ∀ j, j < n → st j < 2) (hf : f < 1024) : ∀ (k i : Nat), i + k = n → r = allF (fun i => decide (f >>> sf i &&& 1 = st i)) i k → mG E (mR 1, zX2_mayBe) (mKq E (mR 1) mN (mX (some (vB r)) h)) 2 [some (.ref 16), some (vN f), some (vN i)] [] (mN, 0, 0) h := by
  intro k
  induction k with
  | zero =>
    intro i hk hr
    refine mG_iload_n dX2_mayBe_2 rfl ?_
    refine mG_aload_n dX2_mayBe_3 rfl ?_
    refine mG_get fX2_18 dX2_mayBe_4 e16 (Nat.le_of_ble_eq_true rfl) rfl ?_
    refine mG_icmp_geN dX2_mayBe_7 (by omega) (by omega) (fun c7 => ?_) (fun c7 => absurd c7 (by omega))
    refine mG_iconst (v := mb true) dX2_mayBe_37 (by decide) ?_
    exact mG_zret dX2_mayBe_38 rfl (mX_of (by rw [hr]; rfl) rfl)
  | succ k ih =>
    intro i hk hr
    refine mG_iload_n dX2_mayBe_2 rfl ?_
    refine mG_aload_n dX2_mayBe_3 rfl ?_
    refine mG_get fX2_18 dX2_mayBe_4 e16 (Nat.le_of_ble_eq_true rfl) rfl ?_
    refine mG_icmp_geN dX2_mayBe_7 (by omega) (by omega) (fun c7 => absurd c7 (by omega)) (fun c7 => ?_)
    refine mG_iload_n dX2_mayBe_10 rfl ?_
    refine mG_aload_n dX2_mayBe_11 rfl ?_
    refine mG_get fX2_9 dX2_mayBe_12 e16 (Nat.le_of_ble_eq_true rfl) rfl ?_
    refine mG_iload_n dX2_mayBe_15 rfl ?_
    refine mG_ialdA dX2_mayBe_16 e17 (Nat.le_of_ble_eq_true rfl) (by decide) (by omega) ?_
    have h1 := hsf i (by omega)
    have h2 := hst i (by omega)
    have h3 : f >>> sf i &&& 1 ≤ 1 := Nat.and_le_right
    refine mG_ishrN dX2_mayBe_17 (by omega) (by omega) ?_
    refine mG_iconst (v := nI 1) dX2_mayBe_18 (by decide) ?_
    refine mG_iandN dX2_mayBe_19 ?_
    refine mG_aload_n dX2_mayBe_20 rfl ?_
    refine mG_get fX2_15 dX2_mayBe_21 e16 (Nat.le_of_ble_eq_true rfl) rfl ?_
    refine mG_iload_n dX2_mayBe_24 rfl ?_
    refine mG_ialdA dX2_mayBe_25 e18 (Nat.le_of_ble_eq_true rfl) (by decide) (by omega) ?_
    refine mG_icmp_eqN dX2_mayBe_26 (by omega) (by omega) (fun c26 => ?_) (fun c26 => ?_)
    · refine mG_iincN dX2_mayBe_31 rfl (Nat.le_of_ble_eq_true rfl) rfl rfl ?_
      refine mG_goto dX2_mayBe_34 ?_
      exact ih (i + 1) (by omega) (by rw [hr]; simp only [allF, decide_eq_true c26, Bool.true_and])
    · refine mG_iconst (v := mb false) dX2_mayBe_29 (by decide) ?_
      exact mG_zret dX2_mayBe_30 rfl (mX_of (by rw [hr]; simp only [allF, decide_eq_false c26, Bool.false_and]) rfl)
set_option maxRecDepth 100000 in
set_option maxHeartbeats 4000000 in
theorem ok_X2_mayBe {E : mE} {h : mH} {n f : Nat} {sf st : Nat → Nat} (e16 : h 16 = oSeen n) (e17 : h 17 = mAr 6 sf) (e18 : h 18 = mAr 6 st) (hn : n ≤ 6) (hsf : ∀ j, j < n → sf j < 10) (hst : ∀ j, j < n → st j < 2) (hf : f < 1024) : mOk E 1 zX2_mayBe [.ref 16, vN f] h (mX (some (vB (mayB sf st n f))) h) := by
  refine mOk_w (L := [some (.ref 16), some (vN f), none]) pn_X2 rfl (Nat.le_of_ble_eq_true rfl) rfl ?_
  refine mG_iconst (v := nI 0) dX2_mayBe_0 (by decide) ?_
  refine mG_istore_n dX2_mayBe_1 (Nat.le_of_ble_eq_true rfl) rfl rfl ?_
  exact lp_X2_mayBe e16 e17 e18 hn hsf hst hf n 0 (Nat.zero_add _) rfl
/-- WHICH -/
def wch (nf sf st : Nat → Nat) (n : Nat) : Nat → Nat
  | 0 => 0
  | c + 1 => if mayB sf st n (fgs nf c 6) = true then wch nf sf st n c ||| 1 <<< c else wch nf sf st n c
theorem wch_lt (nf sf st : Nat → Nat) (n : Nat) : ∀ c, wch nf sf st n c < 2 ^ c := by
  intro c
  induction c with
  | zero => show (0 : Nat) < 2 ^ 0; decide
  | succ c ih =>
    have h1 : wch nf sf st n c < 2 ^ (c + 1) := Nat.lt_trans ih (Nat.pow_lt_pow_right (by decide) (by omega))
    unfold wch
    split
    · refine Nat.or_lt_two_pow h1 ?_
      rw [Nat.one_shiftLeft]
      exact Nat.pow_lt_pow_right (by decide) (by omega)
    · exact h1
/-- how many of some CUBES have a FIGURE -/
def hmh (nf : Nat → Nat) (f left : Nat) : Nat → Nat
  | 0 => 0
  | c + 1 => if left >>> c &&& 1 = 1 then hmh nf f left c + (fgs nf c 6 >>> f &&& 1) else hmh nf f left c
theorem hmh_le (nf : Nat → Nat) (f left : Nat) : ∀ c, hmh nf f left c ≤ popc left c := by
  intro c
  induction c with
  | zero => exact Nat.le_refl _
  | succ c ih =>
    unfold hmh popc
    have h1 : fgs nf c 6 >>> f &&& 1 ≤ 1 := Nat.and_le_right
    split <;> omega
theorem popc_le (x : Nat) : ∀ k, popc x k ≤ k := by
  intro k
  induction k with
  | zero => exact Nat.le_refl _
  | succ k ih =>
    unfold popc
    have h1 : x >>> k &&& 1 ≤ 1 := Nat.and_le_right
    omega
theorem popc_mono (x : Nat) {a b : Nat} (hab : a ≤ b) : popc x a ≤ popc x b := by
  induction b with
  | zero => rw [Nat.le_zero.mp hab]; exact Nat.le_refl _
  | succ b ih =>
    rcases Nat.eq_or_lt_of_le hab with e | e
    · rw [e]; exact Nat.le_refl _
    · show popc x a ≤ popc x b + (x >>> b &&& 1)
      have := ih (by omega)
      omega
set_option maxRecDepth 100000 in
set_option maxHeartbeats 4000000 in
theorem lp_X2_cubes {E : mE} {h : mH} {n cu dn wk : Nat} {nf sf st : Nat → Nat} (e9 : h 9 = oNow dn wk) (e10 : h 10 = mAr 24 nf) (e16 : h 16 = oSeen n) (e17 : h 17 = mAr 6 sf) (e18 : h 18 = mAr 6 st) (hn : n ≤ 6) (hsf : ∀ j, j < n → sf j < 10) (hst : ∀ j, j < n → st j < 2) (hc : cu ≤ 4) (hf : ∀ j, j < cu * 6 → nf j < 10) : ∀ (k i : Nat), i + k = cu → mG E (mR 2, zX2_cubesThatMayBe) (mKq E (mR 2) mN (mX (some (vN (wch nf sf st n cu))) h)) 5 [some (.ref 16), some (vN cu), some (.ref 9), some (vN (wch nf sf st n i)), some (vN i)] [] (mN, 0, 0) h := by
  intro k
  induction k with
  | zero =>
    intro i hk
    refine mG_iload dX2_cubesThatMayBe_5 rfl ?_
    refine mG_iload_n dX2_cubesThatMayBe_7 rfl ?_
    refine mG_icmp_geN dX2_cubesThatMayBe_8 (by omega) (by omega) (fun c8 => ?_) (fun c8 => absurd c8 (by omega))
    refine mG_iload_n dX2_cubesThatMayBe_37 rfl ?_
    exact mG_iret dX2_cubesThatMayBe_38 rfl (mX_of (by rw [show i = cu by omega]) rfl)
  | succ k ih =>
    intro i hk
    refine mG_iload dX2_cubesThatMayBe_5 rfl ?_
    refine mG_iload_n dX2_cubesThatMayBe_7 rfl ?_
    have hfi : ∀ j, j < 6 → nf (i * 6 + j) < 10 := fun j hj => hf _ (by omega)
    refine mG_icmp_geN dX2_cubesThatMayBe_8 (by omega) (by omega) (fun c8 => absurd c8 (by omega)) (fun c8 => ?_)
    refine mG_aload_n dX2_cubesThatMayBe_11 rfl ?_
    refine mG_aload_n dX2_cubesThatMayBe_12 rfl ?_
    refine mG_iload dX2_cubesThatMayBe_13 rfl ?_
    refine mG_cv1 vX2_22 dX2_cubesThatMayBe_15 (mLe_of rfl) (Nat.le_of_ble_eq_true rfl) e9 (Nat.le_of_ble_eq_true rfl) (ok_X3_figuresOf e9 e10 (by omega) hfi) ?_
    refine mG_cv1 vX2_28 dX2_cubesThatMayBe_18 (mLe_of rfl) (Nat.le_of_ble_eq_true rfl) e16 (Nat.le_of_ble_eq_true rfl) (ok_X2_mayBe e16 e17 e18 hn hsf hst (fgs_lt 6 hfi)) ?_
    refine mG_if_eqB dX2_cubesThatMayBe_21 (fun c21 => ?_) (fun c21 => ?_)
    · refine mG_iincN dX2_cubesThatMayBe_31 rfl (Nat.le_of_ble_eq_true rfl) rfl rfl ?_
      refine mG_goto dX2_cubesThatMayBe_34 ?_
      have q := ih (i + 1) (by omega)
      simp only [wch, c21, if_true, if_false, Bool.false_eq_true] at q
      exact q
    · refine mG_iload_n dX2_cubesThatMayBe_24 rfl ?_
      refine mG_iconst (v := nI 1) dX2_cubesThatMayBe_25 (by decide) ?_
      refine mG_iload dX2_cubesThatMayBe_26 rfl ?_
      refine mG_ishlN dX2_cubesThatMayBe_28 (by omega) (shl1_lt2 (by omega)) ?_
      refine mG_iorN dX2_cubesThatMayBe_29 ?_
      refine mG_istore_n dX2_cubesThatMayBe_30 (Nat.le_of_ble_eq_true rfl) rfl rfl ?_
      refine mG_iincN dX2_cubesThatMayBe_31 rfl (Nat.le_of_ble_eq_true rfl) rfl rfl ?_
      refine mG_goto dX2_cubesThatMayBe_34 ?_
      have q := ih (i + 1) (by omega)
      simp only [wch, c21, if_true, if_false, Bool.false_eq_true] at q
      exact q
set_option maxRecDepth 100000 in
set_option maxHeartbeats 4000000 in
theorem ok_X2_cubes {E : mE} {h : mH} {n cu dn wk : Nat} {nf sf st : Nat → Nat} (e9 : h 9 = oNow dn wk) (e10 : h 10 = mAr 24 nf) (e16 : h 16 = oSeen n) (e17 : h 17 = mAr 6 sf) (e18 : h 18 = mAr 6 st) (hn : n ≤ 6) (hsf : ∀ j, j < n → sf j < 10) (hst : ∀ j, j < n → st j < 2) (hc : cu ≤ 4) (hf : ∀ j, j < cu * 6 → nf j < 10) : mOk E 2 zX2_cubesThatMayBe [.ref 16, vN cu, .ref 9] h (mX (some (vN (wch nf sf st n cu))) h) := by
  refine mOk_w (L := [some (.ref 16), some (vN cu), some (.ref 9), none, none]) pn_X2 rfl (Nat.le_of_ble_eq_true rfl) rfl ?_
  refine mG_iconst (v := nI 0) dX2_cubesThatMayBe_0 (by decide) ?_
  refine mG_istore_n dX2_cubesThatMayBe_1 (Nat.le_of_ble_eq_true rfl) rfl rfl ?_
  refine mG_iconst (v := nI 0) dX2_cubesThatMayBe_2 (by decide) ?_
  refine mG_istore dX2_cubesThatMayBe_3 (Nat.le_of_ble_eq_true rfl) rfl rfl ?_
  exact lp_X2_cubes e9 e10 e16 e17 e18 hn hsf hst hc hf cu 0 (Nat.zero_add _)
set_option maxRecDepth 100000 in
set_option maxHeartbeats 4000000 in
theorem lp_X2_howMany {E : mE} {h : mH} {cu dn wk f left : Nat} {nf : Nat → Nat} (e9 : h 9 = oNow dn wk) (e10 : h 10 = mAr 24 nf) (hc : cu ≤ 4) (hf : ∀ j, j < cu * 6 → nf j < 10) (hfl : f < 10) (hl : left < 16) : ∀ (k i : Nat), i + k = cu → mG E (mR 2, zX2_howManyHave) (mKq E (mR 2) mN (mX (some (vN (hmh nf f left cu))) h)) 6 [some (vN f), some (vN left), some (vN cu), some (.ref 9), some (vN (hmh nf f left i)), some (vN i)] [] (mN, 0, 0) h := by
  intro k
  induction k with
  | zero =>
    intro i hk
    refine mG_iload dX2_howManyHave_6 rfl ?_
    refine mG_iload_n dX2_howManyHave_8 rfl ?_
    refine mG_icmp_geN dX2_howManyHave_9 (by omega) (by omega) (fun c9 => ?_) (fun c9 => absurd c9 (by omega))
    refine mG_iload dX2_howManyHave_43 rfl ?_
    exact mG_iret dX2_howManyHave_45 rfl (mX_of (by rw [show i = cu by omega]) rfl)
  | succ k ih =>
    intro i hk
    refine mG_iload dX2_howManyHave_6 rfl ?_
    refine mG_iload_n dX2_howManyHave_8 rfl ?_
    have hfi : ∀ j, j < 6 → nf (i * 6 + j) < 10 := fun j hj => hf _ (by omega)
    have hb1 : left >>> i &&& 1 ≤ 1 := Nat.and_le_right
    have hb2 := fgs_lt 6 hfi
    refine mG_icmp_geN dX2_howManyHave_9 (by omega) (by omega) (fun c9 => absurd c9 (by omega)) (fun c9 => ?_)
    refine mG_iload_n dX2_howManyHave_12 rfl ?_
    refine mG_iload dX2_howManyHave_13 rfl ?_
    refine mG_ishrN dX2_howManyHave_15 (by omega) (by omega) ?_
    refine mG_iconst (v := nI 1) dX2_howManyHave_16 (by decide) ?_
    refine mG_iandN dX2_howManyHave_17 ?_
    refine mG_iconst (v := nI 1) dX2_howManyHave_18 (by decide) ?_
    refine mG_icmp_neN dX2_howManyHave_19 (by omega) (by omega) (fun c19 => ?_) (fun c19 => ?_)
    · refine mG_iincN dX2_howManyHave_37 rfl (Nat.le_of_ble_eq_true rfl) rfl rfl ?_
      refine mG_goto dX2_howManyHave_40 ?_
      have q := ih (i + 1) (by omega)
      simp only [hmh, c19, if_true, if_false] at q
      exact q
    · refine mG_iload dX2_howManyHave_22 rfl ?_
      refine mG_aload_n dX2_howManyHave_24 rfl ?_
      refine mG_iload dX2_howManyHave_25 rfl ?_
      refine mG_cv1 vX2_22 dX2_howManyHave_27 (mLe_of rfl) (Nat.le_of_ble_eq_true rfl) e9 (Nat.le_of_ble_eq_true rfl) (ok_X3_figuresOf e9 e10 (by omega) hfi) ?_
      refine mG_iload_n dX2_howManyHave_30 rfl ?_
      refine mG_ishrN dX2_howManyHave_31 (by omega) (by omega) ?_
      refine mG_iconst (v := nI 1) dX2_howManyHave_32 (by decide) ?_
      refine mG_iandN dX2_howManyHave_33 ?_
      refine mG_iaddN dX2_howManyHave_34 ?_
      refine mG_istore dX2_howManyHave_35 (Nat.le_of_ble_eq_true rfl) rfl rfl ?_
      refine mG_iincN dX2_howManyHave_37 rfl (Nat.le_of_ble_eq_true rfl) rfl rfl ?_
      refine mG_goto dX2_howManyHave_40 ?_
      have q := ih (i + 1) (by omega)
      simp only [hmh, c19, if_true, if_false] at q
      exact q
set_option maxRecDepth 100000 in
set_option maxHeartbeats 4000000 in
theorem ok_X2_howMany {E : mE} {h : mH} {cu dn wk f left : Nat} {nf : Nat → Nat} (e9 : h 9 = oNow dn wk) (e10 : h 10 = mAr 24 nf) (hc : cu ≤ 4) (hf : ∀ j, j < cu * 6 → nf j < 10) (hfl : f < 10) (hl : left < 16) : mOk E 2 zX2_howManyHave [vN f, vN left, vN cu, .ref 9] h (mX (some (vN (hmh nf f left cu))) h) := by
  refine mOk_w (L := [some (vN f), some (vN left), some (vN cu), some (.ref 9), none, none]) pn_X2 rfl (Nat.le_of_ble_eq_true rfl) rfl ?_
  refine mG_iconst (v := nI 0) dX2_howManyHave_0 (by decide) ?_
  refine mG_istore dX2_howManyHave_1 (Nat.le_of_ble_eq_true rfl) rfl rfl ?_
  refine mG_iconst (v := nI 0) dX2_howManyHave_3 (by decide) ?_
  refine mG_istore dX2_howManyHave_4 (Nat.le_of_ble_eq_true rfl) rfl rfl ?_
  exact lp_X2_howMany e9 e10 hc hf hfl hl cu 0 (Nat.zero_add _)
/-- LOOK: what was best, and how great its greater part, behind so many FIGURES -/
def lk (nf : Nat → Nat) (left all cu : Nat) : Nat → Int32 × Nat
  | 0 => (-9, all)
  | f + 1 => if max (hmh nf f left cu) (all - hmh nf f left cu) < (lk nf left all cu f).2 then (nI f, max (hmh nf f left cu) (all - hmh nf f left cu)) else lk nf left all cu f
theorem lk_le (nf : Nat → Nat) (left all cu : Nat) : ∀ f, (lk nf left all cu f).2 ≤ all := by
  intro f
  induction f with
  | zero => exact Nat.le_refl _
  | succ f ih =>
    unfold lk
    split
    · rename_i q
      show max _ _ ≤ all
      omega
    · exact ih
def look (nf sf st : Nat → Nat) (n cu : Nat) : Int32 := (lk nf (wch nf sf st n cu) (popc (wch nf sf st n cu) 10) cu 10).1
set_option maxRecDepth 100000 in
set_option maxHeartbeats 4000000 in
theorem lp_X2_best {E : mE} {h : mH} {cu dn wk left all : Nat} {nf : Nat → Nat} (e9 : h 9 = oNow dn wk) (e10 : h 10 = mAr 24 nf) (hc : cu ≤ 4) (hf : ∀ j, j < cu * 6 → nf j < 10) (hl : left < 16) (ha : all = popc left 10) : ∀ (k i : Nat) (x8 x9 : Option Value), i + k = 10 → mOkS [some (.ref 16), some (vN cu), some (.ref 9), some (vN left), some (vN all), none, none, none, x8, x9] 9 = true → mG E (mR 3, zX2_bestToLookFor) (mKq E (mR 3) mN (mX (some (.int (lk nf left all cu 10).1)) h)) 24 [some (.ref 16), some (vN cu), some (.ref 9), some (vN left), some (vN all), some (.int (lk nf left all cu i).1), some (vN (lk nf left all cu i).2), some (vN i), x8, x9] [] (mN, 0, 0) h := by
  intro k
  induction k with
  | zero =>
    intro i x8 x9 hk hok
    refine mG_iload dX2_bestToLookFor_24 rfl ?_
    refine mG_bipush (v := nI 10) dX2_bestToLookFor_26 (by decide) ?_
    refine mG_icmp_geN dX2_bestToLookFor_28 (by omega) (by omega) (fun c28 => ?_) (fun c28 => absurd c28 (by omega))
    refine mG_iload dX2_bestToLookFor_74 rfl ?_
    exact mG_iret dX2_bestToLookFor_76 rfl (mX_of (by rw [show i = 10 by omega]) rfl)
  | succ k ih =>
    intro i x8 x9 hk hok
    refine mG_iload dX2_bestToLookFor_24 rfl ?_
    refine mG_bipush (v := nI 10) dX2_bestToLookFor_26 (by decide) ?_
    have b1 := hmh_le nf i left cu
    have b2 := popc_mono left (show cu ≤ 10 by omega)
    have b3 := popc_le left 10
    have b4 := lk_le nf left all cu i
    refine mG_icmp_geN dX2_bestToLookFor_28 (by omega) (by omega) (fun c28 => absurd c28 (by omega)) (fun c28 => ?_)
    refine mG_iload dX2_bestToLookFor_31 rfl ?_
    refine mG_iload_n dX2_bestToLookFor_33 rfl ?_
    refine mG_iload_n dX2_bestToLookFor_34 rfl ?_
    refine mG_aload_n dX2_bestToLookFor_35 rfl ?_
    refine mG_cs4 sX2_41 dX2_bestToLookFor_36 (mLe_of rfl) (Nat.le_of_ble_eq_true rfl) (ok_X2_howMany e9 e10 hc hf (by omega) hl) ?_
    refine mG_istore dX2_bestToLookFor_39 (Nat.le_of_ble_eq_true rfl) rfl rfl ?_
    refine mG_iload dX2_bestToLookFor_41 rfl ?_
    refine mG_iload dX2_bestToLookFor_43 rfl ?_
    refine mG_iload dX2_bestToLookFor_45 rfl ?_
    refine mG_isubN dX2_bestToLookFor_47 (by omega) ?_
    refine mG_mmaxN dX2_bestToLookFor_48 aX2_45 w_max.1 w_max.2.1 w_max.2.2 (by decide) (Nat.le_of_ble_eq_true rfl) (Nat.zero_le _) (Nat.zero_le _) (by omega) (by omega) ?_
    refine mG_istore dX2_bestToLookFor_51 (Nat.le_of_ble_eq_true rfl) rfl rfl ?_
    refine mG_iload dX2_bestToLookFor_53 rfl ?_
    refine mG_iload dX2_bestToLookFor_55 rfl ?_
    refine mG_icmp_geN dX2_bestToLookFor_57 (by omega) (by omega) (fun c57 => ?_) (fun c57 => ?_)
    · refine mG_iincN dX2_bestToLookFor_68 rfl (Nat.le_of_ble_eq_true rfl) rfl rfl ?_
      refine mG_goto dX2_bestToLookFor_71 ?_
      have q := ih (i + 1) (some (vN (hmh nf i left cu))) (some (vN (max (hmh nf i left cu) (all - hmh nf i left cu)))) (by omega) rfl
      first
        | (simp only [lk, if_pos c57] at q; exact q)
        | (simp only [lk, if_neg (Nat.not_lt.mpr c57)] at q; exact q)
    · refine mG_iload dX2_bestToLookFor_60 rfl ?_
      refine mG_istore dX2_bestToLookFor_62 (Nat.le_of_ble_eq_true rfl) rfl rfl ?_
      refine mG_iload dX2_bestToLookFor_64 rfl ?_
      refine mG_istore dX2_bestToLookFor_66 (Nat.le_of_ble_eq_true rfl) rfl rfl ?_
      refine mG_iincN dX2_bestToLookFor_68 rfl (Nat.le_of_ble_eq_true rfl) rfl rfl ?_
      refine mG_goto dX2_bestToLookFor_71 ?_
      have q := ih (i + 1) (some (vN (hmh nf i left cu))) (some (vN (max (hmh nf i left cu) (all - hmh nf i left cu)))) (by omega) rfl
      first
        | (simp only [lk, if_pos c57] at q; exact q)
        | (simp only [lk, if_neg (Nat.not_lt.mpr c57)] at q; exact q)
set_option maxRecDepth 100000 in
set_option maxHeartbeats 4000000 in
theorem ok_X2_best {E : mE} {h : mH} {n cu dn wk : Nat} {nf sf st : Nat → Nat} (e9 : h 9 = oNow dn wk) (e10 : h 10 = mAr 24 nf) (e16 : h 16 = oSeen n) (e17 : h 17 = mAr 6 sf) (e18 : h 18 = mAr 6 st) (hn : n ≤ 6) (hsf : ∀ j, j < n → sf j < 10) (hst : ∀ j, j < n → st j < 2) (hc : cu ≤ 4) (hf : ∀ j, j < cu * 6 → nf j < 10) : mOk E 3 zX2_bestToLookFor [.ref 16, vN cu, .ref 9] h (mX (some (.int (look nf sf st n cu))) h) := by
  have hw : wch nf sf st n cu < 16 := Nat.lt_of_lt_of_le (wch_lt nf sf st n cu) (Nat.pow_le_pow_right (by decide) hc)
  refine mOk_w (L := [some (.ref 16), some (vN cu), some (.ref 9), none, none, none, none, none, none, none]) pn_X2 rfl (Nat.le_of_ble_eq_true rfl) rfl ?_
  refine mG_aload_n dX2_bestToLookFor_0 rfl ?_
  refine mG_iload_n dX2_bestToLookFor_1 rfl ?_
  refine mG_aload_n dX2_bestToLookFor_2 rfl ?_
  refine mG_cv2 vX2_32 dX2_bestToLookFor_3 (mLe_of rfl) (Nat.le_of_ble_eq_true rfl) e16 (Nat.le_of_ble_eq_true rfl) (ok_X2_cubes e9 e10 e16 e17 e18 hn hsf hst hc hf) ?_
  refine mG_istore_n dX2_bestToLookFor_6 (Nat.le_of_ble_eq_true rfl) rfl rfl ?_
  refine mG_iload_n dX2_bestToLookFor_7 rfl ?_
  refine mG_cs1 sX2_36 dX2_bestToLookFor_8 (mLe_of rfl) (Nat.le_of_ble_eq_true rfl) (ok_bitCount (by omega)) ?_
  refine mG_istore dX2_bestToLookFor_11 (Nat.le_of_ble_eq_true rfl) rfl rfl ?_
  refine mG_bipush (v := (-9)) dX2_bestToLookFor_13 (by decide) ?_
  refine mG_istore dX2_bestToLookFor_15 (Nat.le_of_ble_eq_true rfl) rfl rfl ?_
  refine mG_iload dX2_bestToLookFor_17 rfl ?_
  refine mG_istore dX2_bestToLookFor_19 (Nat.le_of_ble_eq_true rfl) rfl rfl ?_
  refine mG_iconst (v := nI 0) dX2_bestToLookFor_21 (by decide) ?_
  refine mG_istore dX2_bestToLookFor_22 (Nat.le_of_ble_eq_true rfl) rfl rfl ?_
  exact lp_X2_best e9 e10 hc hf hw rfl 10 0 none none rfl rfl
