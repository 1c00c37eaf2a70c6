/-! Reader: tokens; at, token, start, value -/
abbrev mTk : Type := Nat × Nat × Nat × Nat
abbrev oRd (n a tk st v : Nat) : mC := mOb 1 [.ref 2, vN n, vN a, vN tk, vN st, vN v]
abbrev oRt (n : Nat) (t : mTk) : mC := oRd n t.1 t.2.1 t.2.2.1 t.2.2.2
def isL (c : Nat) : Bool := decide (97 ≤ c ∧ c ≤ 122)
def isD (c : Nat) : Bool := decide (48 ≤ c ∧ c ≤ 57)
def skF (tx : Nat → Nat) : Nat → Nat → Nat
  | 0, a => a
  | k + 1, a => if tx a = 32 then skF tx k (a + 1) else a
def leF (tx : Nat → Nat) : Nat → Nat → Nat
  | 0, a => a
  | k + 1, a => if isL (tx a) = true then leF tx k (a + 1) else a
def dgF (tx : Nat → Nat) : Nat → Nat → Nat → Nat × Nat
  | 0, a, v => (a, v)
  | k + 1, a, v => if isD (tx a) = true then dgF tx k (a + 1) (min (v * 10 + tx a - 48) 10000) else (a, v)
def tkL (tx : Nat → Nat) (n b : Nat) : mTk := (leF tx (n - (b + 1)) (b + 1), 1, b, if leF tx (n - (b + 1)) (b + 1) = b + 1 then tx b else 0)
def tkD (tx : Nat → Nat) (n b : Nat) : mTk := ((dgF tx (n - b) b 0).1, if 9999 < (dgF tx (n - b) b 0).2 ∨ (tx b = 48 ∧ 1 < (dgF tx (n - b) b 0).1 - b) then 4 else 2, b, (dgF tx (n - b) b 0).2)
def tkB (tx : Nat → Nat) (n b v : Nat) : mTk := if n ≤ b then (b, 0, b, v) else if isL (tx b) = true then tkL tx n b else if isD (tx b) = true then tkD tx n b else (b + 1, if tx b = 59 then 3 else 4, b, v)
def nxT (tx : Nat → Nat) (n : Nat) (t : mTk) : mTk := tkB tx n (skF tx (n - t.1) t.1) t.2.2.2
theorem skF_le (tx : Nat → Nat) : ∀ k a, a ≤ skF tx k a ∧ skF tx k a ≤ a + k := by
  intro k
  induction k with
  | zero => intro a; exact ⟨Nat.le_refl _, Nat.le_refl _⟩
  | succ k ih =>
    intro a
    unfold skF
    have := ih (a + 1)
    split <;> omega
theorem leF_le (tx : Nat → Nat) : ∀ k a, a ≤ leF tx k a ∧ leF tx k a ≤ a + k := by
  intro k
  induction k with
  | zero => intro a; exact ⟨Nat.le_refl _, Nat.le_refl _⟩
  | succ k ih =>
    intro a
    unfold leF
    have := ih (a + 1)
    split <;> omega
theorem dgF_le (tx : Nat → Nat) : ∀ k a v, v ≤ 10000 → a ≤ (dgF tx k a v).1 ∧ (dgF tx k a v).1 ≤ a + k ∧ (dgF tx k a v).2 ≤ 10000 := by
  intro k
  induction k with
  | zero => intro a v hv; exact ⟨Nat.le_refl _, Nat.le_refl _, hv⟩
  | succ k ih =>
    intro a v hv
    unfold dgF
    have := ih (a + 1) (min (v * 10 + tx a - 48) 10000) (Nat.min_le_right _ _)
    split
    · omega
    · exact ⟨Nat.le_refl _, by show a ≤ _; omega, hv⟩
set_option maxRecDepth 100000 in
set_option maxHeartbeats 4000000 in
theorem ok_X1_isLetter {E : mE} {h : mH} {c : Nat} (hc : c < 2 ^ 31) : mOk E 1 zX1_isLetter [vN c] h (mX (some (vB (isL c))) h) := by
  refine mOk_w (L := [some (vN c)]) pn_X1 rfl (Nat.le_of_ble_eq_true rfl) rfl ?_
  refine mG_iload_n dX1_isLetter_0 rfl ?_
  refine mG_bipush (v := nI 97) dX1_isLetter_1 (by decide) ?_
  refine mG_icmp_ltN dX1_isLetter_3 (by omega) (by omega) (fun c3 => ?_) (fun c3 => ?_)
  · refine mG_iconst (v := mb false) dX1_isLetter_16 (by decide) ?_
    exact mG_zret dX1_isLetter_17 rfl (mX_of (by simp only [isL]; congr 3; first | (exact (decide_eq_true ⟨c3, c9⟩).symm) | (refine (decide_eq_false ?_).symm; omega)) rfl)
  · refine mG_iload_n dX1_isLetter_6 rfl ?_
    refine mG_bipush (v := nI 122) dX1_isLetter_7 (by decide) ?_
    refine mG_icmp_gtN dX1_isLetter_9 (by omega) (by omega) (fun c9 => ?_) (fun c9 => ?_)
    · refine mG_iconst (v := mb false) dX1_isLetter_16 (by decide) ?_
      exact mG_zret dX1_isLetter_17 rfl (mX_of (by simp only [isL]; congr 3; first | (exact (decide_eq_true ⟨c3, c9⟩).symm) | (refine (decide_eq_false ?_).symm; omega)) rfl)
    · refine mG_iconst (v := mb true) dX1_isLetter_12 (by decide) ?_
      refine mG_goto dX1_isLetter_13 ?_
      exact mG_zret dX1_isLetter_17 rfl (mX_of (by simp only [isL]; congr 3; first | (exact (decide_eq_true ⟨c3, c9⟩).symm) | (refine (decide_eq_false ?_).symm; omega)) rfl)
set_option maxRecDepth 100000 in
set_option maxHeartbeats 4000000 in
theorem ok_X1_isDigit {E : mE} {h : mH} {c : Nat} (hc : c < 2 ^ 31) : mOk E 1 zX1_isDigit [vN c] h (mX (some (vB (isD c))) h) := by
  refine mOk_w (L := [some (vN c)]) pn_X1 rfl (Nat.le_of_ble_eq_true rfl) rfl ?_
  refine mG_iload_n dX1_isDigit_0 rfl ?_
  refine mG_bipush (v := nI 48) dX1_isDigit_1 (by decide) ?_
  refine mG_icmp_ltN dX1_isDigit_3 (by omega) (by omega) (fun c3 => ?_) (fun c3 => ?_)
  · refine mG_iconst (v := mb false) dX1_isDigit_16 (by decide) ?_
    exact mG_zret dX1_isDigit_17 rfl (mX_of (by simp only [isD]; congr 3; first | (exact (decide_eq_true ⟨c3, c9⟩).symm) | (refine (decide_eq_false ?_).symm; omega)) rfl)
  · refine mG_iload_n dX1_isDigit_6 rfl ?_
    refine mG_bipush (v := nI 57) dX1_isDigit_7 (by decide) ?_
    refine mG_icmp_gtN dX1_isDigit_9 (by omega) (by omega) (fun c9 => ?_) (fun c9 => ?_)
    · refine mG_iconst (v := mb false) dX1_isDigit_16 (by decide) ?_
      exact mG_zret dX1_isDigit_17 rfl (mX_of (by simp only [isD]; congr 3; first | (exact (decide_eq_true ⟨c3, c9⟩).symm) | (refine (decide_eq_false ?_).symm; omega)) rfl)
    · refine mG_iconst (v := mb true) dX1_isDigit_12 (by decide) ?_
      refine mG_goto dX1_isDigit_13 ?_
      exact mG_zret dX1_isDigit_17 rfl (mX_of (by simp only [isD]; congr 3; first | (exact (decide_eq_true ⟨c3, c9⟩).symm) | (refine (decide_eq_false ?_).symm; omega)) rfl)
set_option maxRecDepth 100000 in
set_option maxHeartbeats 4000000 in
theorem ok_X1_append {E : mE} {h : mH} {n c : Nat} {t : mTk} {tx : Nat → Nat} (e1 : h 1 = oRt n t) (e2 : h 2 = mAr 100 tx) (hn : n < 100) : mOk E 1 zX1_append [.ref 1, vN c] h (mX none (mU (mU h 2 (mAr 100 (mUp tx n c))) 1 (oRt (n + 1) t))) := by
  refine mOk_w (L := [some (.ref 1), some (vN c)]) pn_X1 rfl (Nat.le_of_ble_eq_true rfl) rfl ?_
  refine mG_aload_n dX1_append_0 rfl ?_
  refine mG_get fX1_9 dX1_append_1 e1 (Nat.le_of_ble_eq_true rfl) rfl ?_
  refine mG_aload_n dX1_append_4 rfl ?_
  refine mG_get fX1_15 dX1_append_5 e1 (Nat.le_of_ble_eq_true rfl) rfl ?_
  refine mG_iload_n dX1_append_8 rfl ?_
  refine mG_iastA dX1_append_9 e2 (Nat.le_of_ble_eq_true rfl) (by decide) (by omega) ?_
  refine mG_aload_n dX1_append_10 rfl ?_
  refine mG_dup dX1_append_11 rfl ?_
  refine mG_get fX1_15 dX1_append_12 e1 (Nat.le_of_ble_eq_true rfl) rfl ?_
  refine mG_iconst (v := nI 1) dX1_append_15 (by decide) ?_
  refine mG_iaddN dX1_append_16 ?_
  refine mG_putI pX1_15 dX1_append_17 e1 (Nat.le_of_ble_eq_true rfl) (Nat.le_of_ble_eq_true rfl) ?_
  exact mG_vret dX1_append_20 rfl (mX_of rfl rfl)
set_option maxRecDepth 100000 in
set_option maxHeartbeats 4000000 in
theorem lp_X1_letters {E : mE} {h : mH} {n st ZE ZV : Nat} {tx : Nat → Nat} (e2 : h 2 = mAr 100 tx) (hn : n ≤ 100) (htx : ∀ j, j < n → tx j < 256) : ∀ (k a v : Nat), a + k = n → ZE = leF tx k a → ZV = (if ZE = a then v else 0) → mG E (mR 2, zX1_takeLetters) (mKq E (mR 2) mN (mX none (mU h 1 (oRd n ZE 1 st ZV)))) 28 [some (.ref 1)] [] (mN, 0, 0) (mU h 1 (oRd n a 1 st v)) := by
  intro k
  induction k with
  | zero =>
    intro a v hk hE hV
    refine mG_aload_n dX1_takeLetters_28 rfl ?_
    refine mG_get fX1_24 dX1_takeLetters_29 rfl (Nat.le_of_ble_eq_true rfl) rfl ?_
    refine mG_aload_n dX1_takeLetters_32 rfl ?_
    refine mG_get fX1_15 dX1_takeLetters_33 rfl (Nat.le_of_ble_eq_true rfl) rfl ?_
    refine mG_icmp_geN dX1_takeLetters_36 (by omega) (by omega) (fun c36 => ?_) (fun c36 => absurd c36 (by omega))
    exact mG_vret dX1_takeLetters_72 rfl (mX_of rfl (by obtain rfl : ZE = a := hE; rw [hV, if_pos rfl]))
  | succ k ih =>
    intro a v hk hE hV
    refine mG_aload_n dX1_takeLetters_28 rfl ?_
    refine mG_get fX1_24 dX1_takeLetters_29 rfl (Nat.le_of_ble_eq_true rfl) rfl ?_
    refine mG_aload_n dX1_takeLetters_32 rfl ?_
    refine mG_get fX1_15 dX1_takeLetters_33 rfl (Nat.le_of_ble_eq_true rfl) rfl ?_
    have hta := htx a (by omega)
    refine mG_icmp_geN dX1_takeLetters_36 (by omega) (by omega) (fun c36 => absurd c36 (by omega)) (fun c36 => ?_)
    refine mG_aload_n dX1_takeLetters_39 rfl ?_
    refine mG_get fX1_9 dX1_takeLetters_40 rfl (Nat.le_of_ble_eq_true rfl) rfl ?_
    refine mG_aload_n dX1_takeLetters_43 rfl ?_
    refine mG_get fX1_24 dX1_takeLetters_44 rfl (Nat.le_of_ble_eq_true rfl) rfl ?_
    refine mG_ialdA dX1_takeLetters_47 e2 (Nat.le_of_ble_eq_true rfl) (by decide) (by omega) ?_
    refine mG_cs1 sX1_79 dX1_takeLetters_48 (mLe_of rfl) (Nat.le_of_ble_eq_true rfl) (ok_X1_isLetter (by omega)) ?_
    refine mG_if_eqB dX1_takeLetters_51 (fun c51 => ?_) (fun c51 => ?_)
    · exact mG_vret dX1_takeLetters_72 rfl (mX_of rfl (by
      have e : ZE = a := by rw [hE]; simp only [leF, c51, Bool.false_eq_true, if_false]
      rw [hV, if_pos e, e]))
    · refine mG_aload_n dX1_takeLetters_54 rfl ?_
      refine mG_iconst (v := nI 0) dX1_takeLetters_55 (by decide) ?_
      refine mG_putI pX1_43 dX1_takeLetters_56 rfl (Nat.le_of_ble_eq_true rfl) (Nat.le_of_ble_eq_true rfl) ?_
      refine mG_aload_n dX1_takeLetters_59 rfl ?_
      refine mG_dup dX1_takeLetters_60 rfl ?_
      refine mG_get fX1_24 dX1_takeLetters_61 rfl (Nat.le_of_ble_eq_true rfl) rfl ?_
      refine mG_iconst (v := nI 1) dX1_takeLetters_64 (by decide) ?_
      refine mG_iaddN dX1_takeLetters_65 ?_
      refine mG_putI pX1_24 dX1_takeLetters_66 rfl (Nat.le_of_ble_eq_true rfl) (Nat.le_of_ble_eq_true rfl) ?_
      refine mG_goto dX1_takeLetters_69 ?_
      simp only [mU_same]
      have e : ZE = leF tx k (a + 1) := by rw [hE]; simp only [leF, c51, if_true]
      have hle := leF_le tx k (a + 1)
      exact ih (a + 1) 0 (by omega) e (by rw [hV, if_neg (by omega)]; simp)
set_option maxRecDepth 100000 in
set_option maxHeartbeats 4000000 in
theorem ok_X1_letters {E : mE} {h : mH} {n b tk v : Nat} {tx : Nat → Nat} (e1 : h 1 = oRd n b tk b v) (e2 : h 2 = mAr 100 tx) (hn : n ≤ 100) (hb : b < n) (htx : ∀ j, j < n → tx j < 256) : mOk E 2 zX1_takeLetters [.ref 1] h (mX none (mU h 1 (oRt n (tkL tx n b)))) := by
  refine mOk_w (L := [some (.ref 1)]) pn_X1 rfl (Nat.le_of_ble_eq_true rfl) rfl ?_
  refine mG_aload_n dX1_takeLetters_0 rfl ?_
  refine mG_iconst (v := nI 1) dX1_takeLetters_1 (by decide) ?_
  refine mG_putI pX1_30 dX1_takeLetters_2 e1 (Nat.le_of_ble_eq_true rfl) (Nat.le_of_ble_eq_true rfl) ?_
  refine mG_aload_n dX1_takeLetters_5 rfl ?_
  refine mG_aload_n dX1_takeLetters_6 rfl ?_
  refine mG_get fX1_9 dX1_takeLetters_7 rfl (Nat.le_of_ble_eq_true rfl) rfl ?_
  refine mG_aload_n dX1_takeLetters_10 rfl ?_
  refine mG_get fX1_24 dX1_takeLetters_11 rfl (Nat.le_of_ble_eq_true rfl) rfl ?_
  refine mG_ialdA dX1_takeLetters_14 e2 (Nat.le_of_ble_eq_true rfl) (by decide) (by omega) ?_
  refine mG_putI pX1_43 dX1_takeLetters_15 rfl (Nat.le_of_ble_eq_true rfl) (Nat.le_of_ble_eq_true rfl) ?_
  refine mG_aload_n dX1_takeLetters_18 rfl ?_
  refine mG_dup dX1_takeLetters_19 rfl ?_
  refine mG_get fX1_24 dX1_takeLetters_20 rfl (Nat.le_of_ble_eq_true rfl) rfl ?_
  refine mG_iconst (v := nI 1) dX1_takeLetters_23 (by decide) ?_
  refine mG_iaddN dX1_takeLetters_24 ?_
  refine mG_putI pX1_24 dX1_takeLetters_25 rfl (Nat.le_of_ble_eq_true rfl) (Nat.le_of_ble_eq_true rfl) ?_
  simp only [mU_same]
  exact lp_X1_letters (E := E) (h := h) (ZE := leF tx (n - (b + 1)) (b + 1)) e2 hn htx (n - (b + 1)) (b + 1) (tx b) (by omega) rfl rfl
theorem isD_iff {c : Nat} : isD c = true ↔ 48 ≤ c ∧ c ≤ 57 := by unfold isD; exact decide_eq_true_iff
set_option maxRecDepth 100000 in
set_option maxHeartbeats 4000000 in
theorem le_X1_digits {E : mE} {h : mH} {n a v st tk : Nat} {z r : Bool} : mG E (mR 2, zX1_takeDigits) (mKq E (mR 2) mN (mX none (mU h 1 (oRd n a (if r = true then 4 else 2) st v)))) 126 [some (.ref 1), some (vB z), none] [vB r] (mN, 0, 0) (mU h 1 (oRd n a tk st v)) := by
  refine mG_istore_n dX1_takeDigits_126 (Nat.le_of_ble_eq_true rfl) rfl rfl ?_
  refine mG_aload_n dX1_takeDigits_127 rfl ?_
  refine mG_iload_n dX1_takeDigits_128 rfl ?_
  refine mG_if_eqB dX1_takeDigits_129 (fun c129 => ?_) (fun c129 => ?_)
  · refine mG_iconst (v := nI 2) dX1_takeDigits_136 (by decide) ?_
    refine mG_putI pX1_30 dX1_takeDigits_137 rfl (Nat.le_of_ble_eq_true rfl) (Nat.le_of_ble_eq_true rfl) ?_
    exact mG_vret dX1_takeDigits_140 rfl (mX_of rfl (by rw [c129]; simp only [mU_same]; rfl))
  · refine mG_iconst (v := nI 4) dX1_takeDigits_132 (by decide) ?_
    refine mG_goto dX1_takeDigits_133 ?_
    refine mG_putI pX1_30 dX1_takeDigits_137 rfl (Nat.le_of_ble_eq_true rfl) (Nat.le_of_ble_eq_true rfl) ?_
    exact mG_vret dX1_takeDigits_140 rfl (mX_of rfl (by rw [c129]; simp only [mU_same]; rfl))
set_option maxRecDepth 100000 in
set_option maxHeartbeats 4000000 in
theorem lp_X1_digits {E : mE} {h : mH} {n st tk : Nat} {z : Bool} {Z : Nat × Nat} {tx : Nat → Nat} (e2 : h 2 = mAr 100 tx) (hn : n ≤ 100) (htx : ∀ j, j < n → tx j < 256) : ∀ (k a v : Nat), a + k = n → st ≤ a → v ≤ 10000 → Z = dgF tx k a v → mG E (mR 2, zX1_takeDigits) (mKq E (mR 2) mN (mX none (mU h 1 (oRd n Z.1 (if 9999 < Z.2 ∨ (z = true ∧ 1 < Z.1 - st) then 4 else 2) st Z.2)))) 25 [some (.ref 1), some (vB z), none] [] (mN, 0, 0) (mU h 1 (oRd n a tk st v)) := by
  intro k
  induction k with
  | zero =>
    intro a v hk hst hv hZ
    refine mG_aload_n dX1_takeDigits_25 rfl ?_
    refine mG_get fX1_24 dX1_takeDigits_26 rfl (Nat.le_of_ble_eq_true rfl) rfl ?_
    refine mG_aload_n dX1_takeDigits_29 rfl ?_
    refine mG_get fX1_15 dX1_takeDigits_30 rfl (Nat.le_of_ble_eq_true rfl) rfl ?_
    refine mG_icmp_geN dX1_takeDigits_33 (by omega) (by omega) (fun c33 => ?_) (fun c33 => absurd c33 (by omega))
    refine mG_aload_n dX1_takeDigits_94 rfl ?_
    refine mG_get fX1_43 dX1_takeDigits_95 rfl (Nat.le_of_ble_eq_true rfl) rfl ?_
    refine mG_sipush (v := nI 9999) dX1_takeDigits_98 (by decide) ?_
    refine mG_icmp_gtN dX1_takeDigits_101 (by omega) (by omega) (fun c101 => ?_) (fun c101 => ?_)
    · refine mG_iconst (v := mb true) dX1_takeDigits_121 (by decide) ?_
      refine mG_goto dX1_takeDigits_122 ?_
      have q := le_X1_digits (E := E) (h := h) (n := n) (a := a) (v := v) (st := st) (tk := tk) (z := z) (r := decide (9999 < v ∨ (z = true ∧ 1 < a - st)))
      have e : (if decide (9999 < v ∨ (z = true ∧ 1 < a - st)) = true then 4 else 2) = (if 9999 < v ∨ (z = true ∧ 1 < a - st) then 4 else 2) := by simp only [decide_eq_true_eq]
      rw [e] at q
      obtain rfl : Z = (a, v) := hZ
      first
        | (rw [decide_eq_true (Or.inl c101)] at q; exact q)
        | (rw [decide_eq_true (Or.inr ⟨c105, c118⟩)] at q; exact q)
        | (rw [decide_eq_false (by intro w; rcases w with w | w; (omega); (rw [c105] at w; exact absurd w.1 (by decide)))] at q; exact q)
        | (rw [decide_eq_false (by intro w; rcases w with w | w; (omega); (have := w.2; omega))] at q; exact q)
    · refine mG_iload_n dX1_takeDigits_104 rfl ?_
      refine mG_if_eqB dX1_takeDigits_105 (fun c105 => ?_) (fun c105 => ?_)
      · refine mG_iconst (v := mb false) dX1_takeDigits_125 (by decide) ?_
        have q := le_X1_digits (E := E) (h := h) (n := n) (a := a) (v := v) (st := st) (tk := tk) (z := z) (r := decide (9999 < v ∨ (z = true ∧ 1 < a - st)))
        have e : (if decide (9999 < v ∨ (z = true ∧ 1 < a - st)) = true then 4 else 2) = (if 9999 < v ∨ (z = true ∧ 1 < a - st) then 4 else 2) := by simp only [decide_eq_true_eq]
        rw [e] at q
        obtain rfl : Z = (a, v) := hZ
        first
          | (rw [decide_eq_true (Or.inl c101)] at q; exact q)
          | (rw [decide_eq_true (Or.inr ⟨c105, c118⟩)] at q; exact q)
          | (rw [decide_eq_false (by intro w; rcases w with w | w; (omega); (rw [c105] at w; exact absurd w.1 (by decide)))] at q; exact q)
          | (rw [decide_eq_false (by intro w; rcases w with w | w; (omega); (have := w.2; omega))] at q; exact q)
      · refine mG_aload_n dX1_takeDigits_108 rfl ?_
        refine mG_get fX1_24 dX1_takeDigits_109 rfl (Nat.le_of_ble_eq_true rfl) rfl ?_
        refine mG_aload_n dX1_takeDigits_112 rfl ?_
        refine mG_get fX1_37 dX1_takeDigits_113 rfl (Nat.le_of_ble_eq_true rfl) rfl ?_
        refine mG_isubN dX1_takeDigits_116 (by omega) ?_
        refine mG_iconst (v := nI 1) dX1_takeDigits_117 (by decide) ?_
        refine mG_icmp_leN dX1_takeDigits_118 (by omega) (by omega) (fun c118 => ?_) (fun c118 => ?_)
        · refine mG_iconst (v := mb false) dX1_takeDigits_125 (by decide) ?_
          have q := le_X1_digits (E := E) (h := h) (n := n) (a := a) (v := v) (st := st) (tk := tk) (z := z) (r := decide (9999 < v ∨ (z = true ∧ 1 < a - st)))
          have e : (if decide (9999 < v ∨ (z = true ∧ 1 < a - st)) = true then 4 else 2) = (if 9999 < v ∨ (z = true ∧ 1 < a - st) then 4 else 2) := by simp only [decide_eq_true_eq]
          rw [e] at q
          obtain rfl : Z = (a, v) := hZ
          first
            | (rw [decide_eq_true (Or.inl c101)] at q; exact q)
            | (rw [decide_eq_true (Or.inr ⟨c105, c118⟩)] at q; exact q)
            | (rw [decide_eq_false (by intro w; rcases w with w | w; (omega); (rw [c105] at w; exact absurd w.1 (by decide)))] at q; exact q)
            | (rw [decide_eq_false (by intro w; rcases w with w | w; (omega); (have := w.2; omega))] at q; exact q)
        · refine mG_iconst (v := mb true) dX1_takeDigits_121 (by decide) ?_
          refine mG_goto dX1_takeDigits_122 ?_
          have q := le_X1_digits (E := E) (h := h) (n := n) (a := a) (v := v) (st := st) (tk := tk) (z := z) (r := decide (9999 < v ∨ (z = true ∧ 1 < a - st)))
          have e : (if decide (9999 < v ∨ (z = true ∧ 1 < a - st)) = true then 4 else 2) = (if 9999 < v ∨ (z = true ∧ 1 < a - st) then 4 else 2) := by simp only [decide_eq_true_eq]
          rw [e] at q
          obtain rfl : Z = (a, v) := hZ
          first
            | (rw [decide_eq_true (Or.inl c101)] at q; exact q)
            | (rw [decide_eq_true (Or.inr ⟨c105, c118⟩)] at q; exact q)
            | (rw [decide_eq_false (by intro w; rcases w with w | w; (omega); (rw [c105] at w; exact absurd w.1 (by decide)))] at q; exact q)
            | (rw [decide_eq_false (by intro w; rcases w with w | w; (omega); (have := w.2; omega))] at q; exact q)
  | succ k ih =>
    intro a v hk hst hv hZ
    refine mG_aload_n dX1_takeDigits_25 rfl ?_
    refine mG_get fX1_24 dX1_takeDigits_26 rfl (Nat.le_of_ble_eq_true rfl) rfl ?_
    refine mG_aload_n dX1_takeDigits_29 rfl ?_
    refine mG_get fX1_15 dX1_takeDigits_30 rfl (Nat.le_of_ble_eq_true rfl) rfl ?_
    have hta := htx a (by omega)
    refine mG_icmp_geN dX1_takeDigits_33 (by omega) (by omega) (fun c33 => absurd c33 (by omega)) (fun c33 => ?_)
    refine mG_aload_n dX1_takeDigits_36 rfl ?_
    refine mG_get fX1_9 dX1_takeDigits_37 rfl (Nat.le_of_ble_eq_true rfl) rfl ?_
    refine mG_aload_n dX1_takeDigits_40 rfl ?_
    refine mG_get fX1_24 dX1_takeDigits_41 rfl (Nat.le_of_ble_eq_true rfl) rfl ?_
    refine mG_ialdA dX1_takeDigits_44 e2 (Nat.le_of_ble_eq_true rfl) (by decide) (by omega) ?_
    refine mG_cs1 sX1_85 dX1_takeDigits_45 (mLe_of rfl) (Nat.le_of_ble_eq_true rfl) (ok_X1_isDigit (by omega)) ?_
    refine mG_if_eqB dX1_takeDigits_48 (fun c48 => ?_) (fun c48 => ?_)
    · refine mG_aload_n dX1_takeDigits_94 rfl ?_
      refine mG_get fX1_43 dX1_takeDigits_95 rfl (Nat.le_of_ble_eq_true rfl) rfl ?_
      refine mG_sipush (v := nI 9999) dX1_takeDigits_98 (by decide) ?_
      refine mG_icmp_gtN dX1_takeDigits_101 (by omega) (by omega) (fun c101 => ?_) (fun c101 => ?_)
      · refine mG_iconst (v := mb true) dX1_takeDigits_121 (by decide) ?_
        refine mG_goto dX1_takeDigits_122 ?_
        have q := le_X1_digits (E := E) (h := h) (n := n) (a := a) (v := v) (st := st) (tk := tk) (z := z) (r := decide (9999 < v ∨ (z = true ∧ 1 < a - st)))
        have e : (if decide (9999 < v ∨ (z = true ∧ 1 < a - st)) = true then 4 else 2) = (if 9999 < v ∨ (z = true ∧ 1 < a - st) then 4 else 2) := by simp only [decide_eq_true_eq]
        rw [e] at q
        obtain rfl : Z = (a, v) := by rw [hZ]; simp only [dgF, c48, Bool.false_eq_true, if_false]
        first
          | (rw [decide_eq_true (Or.inl c101)] at q; exact q)
          | (rw [decide_eq_true (Or.inr ⟨c105, c118⟩)] at q; exact q)
          | (rw [decide_eq_false (by intro w; rcases w with w | w; (omega); (rw [c105] at w; exact absurd w.1 (by decide)))] at q; exact q)
          | (rw [decide_eq_false (by intro w; rcases w with w | w; (omega); (have := w.2; omega))] at q; exact q)
      · refine mG_iload_n dX1_takeDigits_104 rfl ?_
        refine mG_if_eqB dX1_takeDigits_105 (fun c105 => ?_) (fun c105 => ?_)
        · refine mG_iconst (v := mb false) dX1_takeDigits_125 (by decide) ?_
          have q := le_X1_digits (E := E) (h := h) (n := n) (a := a) (v := v) (st := st) (tk := tk) (z := z) (r := decide (9999 < v ∨ (z = true ∧ 1 < a - st)))
          have e : (if decide (9999 < v ∨ (z = true ∧ 1 < a - st)) = true then 4 else 2) = (if 9999 < v ∨ (z = true ∧ 1 < a - st) then 4 else 2) := by simp only [decide_eq_true_eq]
          rw [e] at q
          obtain rfl : Z = (a, v) := by rw [hZ]; simp only [dgF, c48, Bool.false_eq_true, if_false]
          first
            | (rw [decide_eq_true (Or.inl c101)] at q; exact q)
            | (rw [decide_eq_true (Or.inr ⟨c105, c118⟩)] at q; exact q)
            | (rw [decide_eq_false (by intro w; rcases w with w | w; (omega); (rw [c105] at w; exact absurd w.1 (by decide)))] at q; exact q)
            | (rw [decide_eq_false (by intro w; rcases w with w | w; (omega); (have := w.2; omega))] at q; exact q)
        · refine mG_aload_n dX1_takeDigits_108 rfl ?_
          refine mG_get fX1_24 dX1_takeDigits_109 rfl (Nat.le_of_ble_eq_true rfl) rfl ?_
          refine mG_aload_n dX1_takeDigits_112 rfl ?_
          refine mG_get fX1_37 dX1_takeDigits_113 rfl (Nat.le_of_ble_eq_true rfl) rfl ?_
          refine mG_isubN dX1_takeDigits_116 (by omega) ?_
          refine mG_iconst (v := nI 1) dX1_takeDigits_117 (by decide) ?_
          refine mG_icmp_leN dX1_takeDigits_118 (by omega) (by omega) (fun c118 => ?_) (fun c118 => ?_)
          · refine mG_iconst (v := mb false) dX1_takeDigits_125 (by decide) ?_
            have q := le_X1_digits (E := E) (h := h) (n := n) (a := a) (v := v) (st := st) (tk := tk) (z := z) (r := decide (9999 < v ∨ (z = true ∧ 1 < a - st)))
            have e : (if decide (9999 < v ∨ (z = true ∧ 1 < a - st)) = true then 4 else 2) = (if 9999 < v ∨ (z = true ∧ 1 < a - st) then 4 else 2) := by simp only [decide_eq_true_eq]
            rw [e] at q
            obtain rfl : Z = (a, v) := by rw [hZ]; simp only [dgF, c48, Bool.false_eq_true, if_false]
            first
              | (rw [decide_eq_true (Or.inl c101)] at q; exact q)
              | (rw [decide_eq_true (Or.inr ⟨c105, c118⟩)] at q; exact q)
              | (rw [decide_eq_false (by intro w; rcases w with w | w; (omega); (rw [c105] at w; exact absurd w.1 (by decide)))] at q; exact q)
              | (rw [decide_eq_false (by intro w; rcases w with w | w; (omega); (have := w.2; omega))] at q; exact q)
          · refine mG_iconst (v := mb true) dX1_takeDigits_121 (by decide) ?_
            refine mG_goto dX1_takeDigits_122 ?_
            have q := le_X1_digits (E := E) (h := h) (n := n) (a := a) (v := v) (st := st) (tk := tk) (z := z) (r := decide (9999 < v ∨ (z = true ∧ 1 < a - st)))
            have e : (if decide (9999 < v ∨ (z = true ∧ 1 < a - st)) = true then 4 else 2) = (if 9999 < v ∨ (z = true ∧ 1 < a - st) then 4 else 2) := by simp only [decide_eq_true_eq]
            rw [e] at q
            obtain rfl : Z = (a, v) := by rw [hZ]; simp only [dgF, c48, Bool.false_eq_true, if_false]
            first
              | (rw [decide_eq_true (Or.inl c101)] at q; exact q)
              | (rw [decide_eq_true (Or.inr ⟨c105, c118⟩)] at q; exact q)
              | (rw [decide_eq_false (by intro w; rcases w with w | w; (omega); (rw [c105] at w; exact absurd w.1 (by decide)))] at q; exact q)
              | (rw [decide_eq_false (by intro w; rcases w with w | w; (omega); (have := w.2; omega))] at q; exact q)
    · have hd := isD_iff.mp c48
      refine mG_aload_n dX1_takeDigits_51 rfl ?_
      refine mG_aload_n dX1_takeDigits_52 rfl ?_
      refine mG_get fX1_43 dX1_takeDigits_53 rfl (Nat.le_of_ble_eq_true rfl) rfl ?_
      refine mG_bipush (v := nI 10) dX1_takeDigits_56 (by decide) ?_
      refine mG_imulN dX1_takeDigits_58 ?_
      refine mG_aload_n dX1_takeDigits_59 rfl ?_
      refine mG_get fX1_9 dX1_takeDigits_60 rfl (Nat.le_of_ble_eq_true rfl) rfl ?_
      refine mG_aload_n dX1_takeDigits_63 rfl ?_
      refine mG_get fX1_24 dX1_takeDigits_64 rfl (Nat.le_of_ble_eq_true rfl) rfl ?_
      refine mG_ialdA dX1_takeDigits_67 e2 (Nat.le_of_ble_eq_true rfl) (by decide) (by omega) ?_
      refine mG_iaddN dX1_takeDigits_68 ?_
      refine mG_bipush (v := nI 48) dX1_takeDigits_69 (by decide) ?_
      refine mG_isubN dX1_takeDigits_71 (by omega) ?_
      refine mG_sipush (v := nI 10000) dX1_takeDigits_72 (by decide) ?_
      refine mG_mminN dX1_takeDigits_75 aX1_91 w_min.1 w_min.2.1 w_min.2.2 (by decide) (Nat.le_of_ble_eq_true rfl) (Nat.zero_le _) (Nat.zero_le _) (by omega) (by omega) ?_
      refine mG_putI pX1_43 dX1_takeDigits_78 rfl (Nat.le_of_ble_eq_true rfl) (Nat.le_of_ble_eq_true rfl) ?_
      refine mG_aload_n dX1_takeDigits_81 rfl ?_
      refine mG_dup dX1_takeDigits_82 rfl ?_
      refine mG_get fX1_24 dX1_takeDigits_83 rfl (Nat.le_of_ble_eq_true rfl) rfl ?_
      refine mG_iconst (v := nI 1) dX1_takeDigits_86 (by decide) ?_
      refine mG_iaddN dX1_takeDigits_87 ?_
      refine mG_putI pX1_24 dX1_takeDigits_88 rfl (Nat.le_of_ble_eq_true rfl) (Nat.le_of_ble_eq_true rfl) ?_
      refine mG_goto dX1_takeDigits_91 ?_
      simp only [mU_same]
      exact ih (a + 1) _ (by omega) (by omega) (Nat.min_le_right _ _) (by rw [hZ]; simp only [dgF, c48, if_true])
set_option maxRecDepth 100000 in
set_option maxHeartbeats 4000000 in
theorem ok_X1_digits {E : mE} {h : mH} {n b tk v : Nat} {tx : Nat → Nat} (e1 : h 1 = oRd n b tk b v) (e2 : h 2 = mAr 100 tx) (hn : n ≤ 100) (hb : b < n) (htx : ∀ j, j < n → tx j < 256) : mOk E 2 zX1_takeDigits [.ref 1] h (mX none (mU h 1 (oRt n (tkD tx n b)))) := by
  have htb := htx b hb
  refine mOk_w (L := [some (.ref 1), none, none]) pn_X1 rfl (Nat.le_of_ble_eq_true rfl) rfl ?_
  refine mG_aload_n dX1_takeDigits_0 rfl ?_
  refine mG_get fX1_9 dX1_takeDigits_1 e1 (Nat.le_of_ble_eq_true rfl) rfl ?_
  refine mG_aload_n dX1_takeDigits_4 rfl ?_
  refine mG_get fX1_24 dX1_takeDigits_5 e1 (Nat.le_of_ble_eq_true rfl) rfl ?_
  refine mG_ialdA dX1_takeDigits_8 e2 (Nat.le_of_ble_eq_true rfl) (by decide) (by omega) ?_
  refine mG_bipush (v := nI 48) dX1_takeDigits_9 (by decide) ?_
  refine mG_icmp_neN dX1_takeDigits_11 (by omega) (by omega) (fun c11 => ?_) (fun c11 => ?_)
  · refine mG_iconst (v := mb false) dX1_takeDigits_18 (by decide) ?_
    refine mG_istore_n dX1_takeDigits_19 (Nat.le_of_ble_eq_true rfl) rfl rfl ?_
    refine mG_aload_n dX1_takeDigits_20 rfl ?_
    refine mG_iconst (v := nI 0) dX1_takeDigits_21 (by decide) ?_
    refine mG_putI pX1_43 dX1_takeDigits_22 e1 (Nat.le_of_ble_eq_true rfl) (Nat.le_of_ble_eq_true rfl) ?_
    have q := lp_X1_digits (E := E) (h := h) (st := b) (tk := tk) (z := decide (tx b = 48)) (Z := dgF tx (n - b) b 0) e2 hn htx (n - b) b 0 (by omega) (Nat.le_refl _) (by decide) rfl
    simp only [decide_eq_true_eq] at q
    first
      | (rw [decide_eq_true c11] at q; exact q)
      | (rw [decide_eq_false c11] at q; exact q)
  · refine mG_iconst (v := mb true) dX1_takeDigits_14 (by decide) ?_
    refine mG_goto dX1_takeDigits_15 ?_
    refine mG_istore_n dX1_takeDigits_19 (Nat.le_of_ble_eq_true rfl) rfl rfl ?_
    refine mG_aload_n dX1_takeDigits_20 rfl ?_
    refine mG_iconst (v := nI 0) dX1_takeDigits_21 (by decide) ?_
    refine mG_putI pX1_43 dX1_takeDigits_22 e1 (Nat.le_of_ble_eq_true rfl) (Nat.le_of_ble_eq_true rfl) ?_
    have q := lp_X1_digits (E := E) (h := h) (st := b) (tk := tk) (z := decide (tx b = 48)) (Z := dgF tx (n - b) b 0) e2 hn htx (n - b) b 0 (by omega) (Nat.le_refl _) (by decide) rfl
    simp only [decide_eq_true_eq] at q
    first
      | (rw [decide_eq_true c11] at q; exact q)
      | (rw [decide_eq_false c11] at q; exact q)
set_option maxRecDepth 100000 in
set_option maxHeartbeats 4000000 in
theorem le_X1_next {E : mE} {h : mH} {n b tk st v : Nat} {tx : Nat → Nat} (e2 : h 2 = mAr 100 tx) (hn : n ≤ 100) (hb : b ≤ n) (htx : ∀ j, j < n → tx j < 256) : mG E (mR 3, zX1_nextToken) (mKq E (mR 3) mN (mX none (mU h 1 (oRt n (tkB tx n b v))))) 38 [some (.ref 1)] [] (mN, 0, 0) (mU h 1 (oRd n b tk st v)) := by
  refine mG_aload_n dX1_nextToken_38 rfl ?_
  refine mG_aload_n dX1_nextToken_39 rfl ?_
  refine mG_get fX1_24 dX1_nextToken_40 rfl (Nat.le_of_ble_eq_true rfl) rfl ?_
  refine mG_putI pX1_37 dX1_nextToken_43 rfl (Nat.le_of_ble_eq_true rfl) (Nat.le_of_ble_eq_true rfl) ?_
  refine mG_aload_n dX1_nextToken_46 rfl ?_
  refine mG_get fX1_24 dX1_nextToken_47 rfl (Nat.le_of_ble_eq_true rfl) rfl ?_
  refine mG_aload_n dX1_nextToken_50 rfl ?_
  refine mG_get fX1_15 dX1_nextToken_51 rfl (Nat.le_of_ble_eq_true rfl) rfl ?_
  refine mG_icmp_ltN dX1_nextToken_54 (by omega) (by omega) (fun c54 => ?_) (fun c54 => ?_)
  · have htb := htx b c54
    refine mG_aload_n dX1_nextToken_65 rfl ?_
    refine mG_get fX1_9 dX1_nextToken_66 rfl (Nat.le_of_ble_eq_true rfl) rfl ?_
    refine mG_aload_n dX1_nextToken_69 rfl ?_
    refine mG_get fX1_24 dX1_nextToken_70 rfl (Nat.le_of_ble_eq_true rfl) rfl ?_
    refine mG_ialdA dX1_nextToken_73 e2 (Nat.le_of_ble_eq_true rfl) (by decide) (by omega) ?_
    refine mG_cs1 sX1_79 dX1_nextToken_74 (mLe_of rfl) (Nat.le_of_ble_eq_true rfl) (ok_X1_isLetter (by omega)) ?_
    refine mG_if_eqB dX1_nextToken_77 (fun c77 => ?_) (fun c77 => ?_)
    · refine mG_aload_n dX1_nextToken_87 rfl ?_
      refine mG_get fX1_9 dX1_nextToken_88 rfl (Nat.le_of_ble_eq_true rfl) rfl ?_
      refine mG_aload_n dX1_nextToken_91 rfl ?_
      refine mG_get fX1_24 dX1_nextToken_92 rfl (Nat.le_of_ble_eq_true rfl) rfl ?_
      refine mG_ialdA dX1_nextToken_95 e2 (Nat.le_of_ble_eq_true rfl) (by decide) (by omega) ?_
      refine mG_cs1 sX1_85 dX1_nextToken_96 (mLe_of rfl) (Nat.le_of_ble_eq_true rfl) (ok_X1_isDigit (by omega)) ?_
      refine mG_if_eqB dX1_nextToken_99 (fun c99 => ?_) (fun c99 => ?_)
      · refine mG_aload_n dX1_nextToken_109 rfl ?_
        refine mG_aload_n dX1_nextToken_110 rfl ?_
        refine mG_get fX1_9 dX1_nextToken_111 rfl (Nat.le_of_ble_eq_true rfl) rfl ?_
        refine mG_aload_n dX1_nextToken_114 rfl ?_
        refine mG_get fX1_24 dX1_nextToken_115 rfl (Nat.le_of_ble_eq_true rfl) rfl ?_
        refine mG_ialdA dX1_nextToken_118 e2 (Nat.le_of_ble_eq_true rfl) (by decide) (by omega) ?_
        refine mG_bipush (v := nI 59) dX1_nextToken_119 (by decide) ?_
        refine mG_icmp_neN dX1_nextToken_121 (by omega) (by omega) (fun c121 => ?_) (fun c121 => ?_)
        · refine mG_iconst (v := nI 4) dX1_nextToken_128 (by decide) ?_
          refine mG_putI pX1_30 dX1_nextToken_129 rfl (Nat.le_of_ble_eq_true rfl) (Nat.le_of_ble_eq_true rfl) ?_
          refine mG_aload_n dX1_nextToken_132 rfl ?_
          refine mG_dup dX1_nextToken_133 rfl ?_
          refine mG_get fX1_24 dX1_nextToken_134 rfl (Nat.le_of_ble_eq_true rfl) rfl ?_
          refine mG_iconst (v := nI 1) dX1_nextToken_137 (by decide) ?_
          refine mG_iaddN dX1_nextToken_138 ?_
          refine mG_putI pX1_24 dX1_nextToken_139 rfl (Nat.le_of_ble_eq_true rfl) (Nat.le_of_ble_eq_true rfl) ?_
          exact mG_vret dX1_nextToken_142 rfl (mX_of rfl (by
    simp only [mU_same]
    first
      | (rw [tkB, if_pos c54]; rfl)
      | (rw [tkB, if_neg (Nat.not_le.mpr c54), if_pos c77])
      | (rw [tkB, if_neg (Nat.not_le.mpr c54), if_neg (by rw [c77]; decide), if_pos c99])
      | (rw [tkB, if_neg (Nat.not_le.mpr c54), if_neg (by rw [c77]; decide), if_neg (by rw [c99]; decide), if_pos c121]; rfl)
      | (rw [tkB, if_neg (Nat.not_le.mpr c54), if_neg (by rw [c77]; decide), if_neg (by rw [c99]; decide), if_neg c121]; rfl)))
        · refine mG_iconst (v := nI 3) dX1_nextToken_124 (by decide) ?_
          refine mG_goto dX1_nextToken_125 ?_
          refine mG_putI pX1_30 dX1_nextToken_129 rfl (Nat.le_of_ble_eq_true rfl) (Nat.le_of_ble_eq_true rfl) ?_
          refine mG_aload_n dX1_nextToken_132 rfl ?_
          refine mG_dup dX1_nextToken_133 rfl ?_
          refine mG_get fX1_24 dX1_nextToken_134 rfl (Nat.le_of_ble_eq_true rfl) rfl ?_
          refine mG_iconst (v := nI 1) dX1_nextToken_137 (by decide) ?_
          refine mG_iaddN dX1_nextToken_138 ?_
          refine mG_putI pX1_24 dX1_nextToken_139 rfl (Nat.le_of_ble_eq_true rfl) (Nat.le_of_ble_eq_true rfl) ?_
          exact mG_vret dX1_nextToken_142 rfl (mX_of rfl (by
    simp only [mU_same]
    first
      | (rw [tkB, if_pos c54]; rfl)
      | (rw [tkB, if_neg (Nat.not_le.mpr c54), if_pos c77])
      | (rw [tkB, if_neg (Nat.not_le.mpr c54), if_neg (by rw [c77]; decide), if_pos c99])
      | (rw [tkB, if_neg (Nat.not_le.mpr c54), if_neg (by rw [c77]; decide), if_neg (by rw [c99]; decide), if_pos c121]; rfl)
      | (rw [tkB, if_neg (Nat.not_le.mpr c54), if_neg (by rw [c77]; decide), if_neg (by rw [c99]; decide), if_neg c121]; rfl)))
      · refine mG_aload_n dX1_nextToken_102 rfl ?_
        refine mG_cw0 vX1_88 dX1_nextToken_103 (mLe_of rfl) (Nat.le_of_ble_eq_true rfl) rfl (Nat.le_of_ble_eq_true rfl) (ok_X1_digits rfl e2 hn c54 htx) ?_
        refine mG_goto dX1_nextToken_106 ?_
        exact mG_vret dX1_nextToken_142 rfl (mX_of rfl (by
    simp only [mU_same]
    first
      | (rw [tkB, if_pos c54]; rfl)
      | (rw [tkB, if_neg (Nat.not_le.mpr c54), if_pos c77])
      | (rw [tkB, if_neg (Nat.not_le.mpr c54), if_neg (by rw [c77]; decide), if_pos c99])
      | (rw [tkB, if_neg (Nat.not_le.mpr c54), if_neg (by rw [c77]; decide), if_neg (by rw [c99]; decide), if_pos c121]; rfl)
      | (rw [tkB, if_neg (Nat.not_le.mpr c54), if_neg (by rw [c77]; decide), if_neg (by rw [c99]; decide), if_neg c121]; rfl)))
    · refine mG_aload_n dX1_nextToken_80 rfl ?_
      refine mG_cw0 vX1_82 dX1_nextToken_81 (mLe_of rfl) (Nat.le_of_ble_eq_true rfl) rfl (Nat.le_of_ble_eq_true rfl) (ok_X1_letters rfl e2 hn c54 htx) ?_
      refine mG_goto dX1_nextToken_84 ?_
      exact mG_vret dX1_nextToken_142 rfl (mX_of rfl (by
    simp only [mU_same]
    first
      | (rw [tkB, if_pos c54]; rfl)
      | (rw [tkB, if_neg (Nat.not_le.mpr c54), if_pos c77])
      | (rw [tkB, if_neg (Nat.not_le.mpr c54), if_neg (by rw [c77]; decide), if_pos c99])
      | (rw [tkB, if_neg (Nat.not_le.mpr c54), if_neg (by rw [c77]; decide), if_neg (by rw [c99]; decide), if_pos c121]; rfl)
      | (rw [tkB, if_neg (Nat.not_le.mpr c54), if_neg (by rw [c77]; decide), if_neg (by rw [c99]; decide), if_neg c121]; rfl)))
  · refine mG_aload_n dX1_nextToken_57 rfl ?_
    refine mG_iconst (v := nI 0) dX1_nextToken_58 (by decide) ?_
    refine mG_putI pX1_30 dX1_nextToken_59 rfl (Nat.le_of_ble_eq_true rfl) (Nat.le_of_ble_eq_true rfl) ?_
    refine mG_goto dX1_nextToken_62 ?_
    exact mG_vret dX1_nextToken_142 rfl (mX_of rfl (by
    simp only [mU_same]
    first
      | (rw [tkB, if_pos c54]; rfl)
      | (rw [tkB, if_neg (Nat.not_le.mpr c54), if_pos c77])
      | (rw [tkB, if_neg (Nat.not_le.mpr c54), if_neg (by rw [c77]; decide), if_pos c99])
      | (rw [tkB, if_neg (Nat.not_le.mpr c54), if_neg (by rw [c77]; decide), if_neg (by rw [c99]; decide), if_pos c121]; rfl)
      | (rw [tkB, if_neg (Nat.not_le.mpr c54), if_neg (by rw [c77]; decide), if_neg (by rw [c99]; decide), if_neg c121]; rfl)))
set_option maxRecDepth 100000 in
set_option maxHeartbeats 4000000 in
theorem lp_X1_next {E : mE} {h : mH} {n b tk st v : Nat} {tx : Nat → Nat} (e2 : h 2 = mAr 100 tx) (hn : n ≤ 100) (hb : b ≤ n) (htx : ∀ j, j < n → tx j < 256) : ∀ (k a : Nat), a + k = n → b = skF tx k a → mG E (mR 3, zX1_nextToken) (mKq E (mR 3) mN (mX none (mU h 1 (oRt n (tkB tx n b v))))) 0 [some (.ref 1)] [] (mN, 0, 0) (mU h 1 (oRd n a tk st v)) := by
  intro k
  induction k with
  | zero =>
    intro a hk hB
    refine mG_aload_n dX1_nextToken_0 rfl ?_
    refine mG_get fX1_24 dX1_nextToken_1 rfl (Nat.le_of_ble_eq_true rfl) rfl ?_
    refine mG_aload_n dX1_nextToken_4 rfl ?_
    refine mG_get fX1_15 dX1_nextToken_5 rfl (Nat.le_of_ble_eq_true rfl) rfl ?_
    refine mG_icmp_geN dX1_nextToken_8 (by omega) (by omega) (fun c8 => ?_) (fun c8 => absurd c8 (by omega))
    obtain rfl : b = a := hB
    exact le_X1_next e2 hn hb htx
  | succ k ih =>
    intro a hk hB
    refine mG_aload_n dX1_nextToken_0 rfl ?_
    refine mG_get fX1_24 dX1_nextToken_1 rfl (Nat.le_of_ble_eq_true rfl) rfl ?_
    refine mG_aload_n dX1_nextToken_4 rfl ?_
    refine mG_get fX1_15 dX1_nextToken_5 rfl (Nat.le_of_ble_eq_true rfl) rfl ?_
    have hta := htx a (by omega)
    refine mG_icmp_geN dX1_nextToken_8 (by omega) (by omega) (fun c8 => absurd c8 (by omega)) (fun c8 => ?_)
    refine mG_aload_n dX1_nextToken_11 rfl ?_
    refine mG_get fX1_9 dX1_nextToken_12 rfl (Nat.le_of_ble_eq_true rfl) rfl ?_
    refine mG_aload_n dX1_nextToken_15 rfl ?_
    refine mG_get fX1_24 dX1_nextToken_16 rfl (Nat.le_of_ble_eq_true rfl) rfl ?_
    refine mG_ialdA dX1_nextToken_19 e2 (Nat.le_of_ble_eq_true rfl) (by decide) (by omega) ?_
    refine mG_bipush (v := nI 32) dX1_nextToken_20 (by decide) ?_
    refine mG_icmp_neN dX1_nextToken_22 (by omega) (by omega) (fun c22 => ?_) (fun c22 => ?_)
    · have e : b = a := by rw [hB]; simp only [skF, if_neg c22]
      rw [← e]
      exact le_X1_next e2 hn hb htx
    · refine mG_aload_n dX1_nextToken_25 rfl ?_
      refine mG_dup dX1_nextToken_26 rfl ?_
      refine mG_get fX1_24 dX1_nextToken_27 rfl (Nat.le_of_ble_eq_true rfl) rfl ?_
      refine mG_iconst (v := nI 1) dX1_nextToken_30 (by decide) ?_
      refine mG_iaddN dX1_nextToken_31 ?_
      refine mG_putI pX1_24 dX1_nextToken_32 rfl (Nat.le_of_ble_eq_true rfl) (Nat.le_of_ble_eq_true rfl) ?_
      refine mG_goto dX1_nextToken_35 ?_
      simp only [mU_same]
      exact ih (a + 1) (by omega) (by rw [hB]; simp only [skF, if_pos c22])
set_option maxRecDepth 100000 in
set_option maxHeartbeats 4000000 in
theorem ok_X1_next {E : mE} {h : mH} {n : Nat} {t : mTk} {tx : Nat → Nat} (e1 : h 1 = oRt n t) (e2 : h 2 = mAr 100 tx) (hn : n ≤ 100) (ht : t.1 ≤ n) (htx : ∀ j, j < n → tx j < 256) : mOk E 3 zX1_nextToken [.ref 1] h (mX none (mU h 1 (oRt n (nxT tx n t)))) := by
  refine mOk_w (L := [some (.ref 1)]) pn_X1 rfl (Nat.le_of_ble_eq_true rfl) rfl ?_
  have hs := skF_le tx (n - t.1) t.1
  have q := lp_X1_next (E := E) (h := h) (b := skF tx (n - t.1) t.1) (tk := t.2.1) (st := t.2.2.1) (v := t.2.2.2) e2 hn (by omega) htx (n - t.1) t.1 (by omega) rfl
  rw [show mU h 1 (oRd n t.1 t.2.1 t.2.2.1 t.2.2.2) = h from mU_self h 1 _ e1] at q
  exact q
