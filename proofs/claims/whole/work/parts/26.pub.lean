/-! DayCubes: what holds between calls -/
def cRd (h : mH) (n : Nat) (tx : Nat → Nat) : Prop := ∃ t : mTk, h 1 = oRt n t ∧ h 2 = mAr 100 tx ∧ (t.2.1 ≤ 4 ∧ t.2.2.1 ≤ 100 ∧ t.2.2.2 ≤ 10000) ∧ n ≤ 100 ∧ ∀ j, j < n → tx j < 256
def cTo (h : mH) (cu dc : Nat) (bo : Bool) (td : Nat → Nat) : Prop := ∃ (it : Nat) (tf : Nat → Nat), h 3 = oTold cu dc it bo ∧ h 4 = mAr 24 tf ∧ h 5 = mAr 6 td ∧ cu ≤ 4 ∧ dc ≤ 6 ∧ ∀ j, j < dc → td j < 10 ^ cu
def cDr (h : mH) : Prop := ∃ (cu dc it : Nat) (bo : Bool) (df dy : Nat → Nat), h 6 = oDraft cu dc it bo ∧ h 7 = mAr 24 df ∧ h 8 = mAr 6 dy
def cNo (h : mH) (dn wk : Nat) (nf ca fr ds : Nat → Nat) : Prop := h 9 = oNow dn wk ∧ h 10 = mAr 24 nf ∧ h 11 = mAr 4 ca ∧ h 12 = mAr 4 fr ∧ h 13 = mAr 40 ds
abbrev mSd : Type := Nat × Nat × (Nat → Nat) × (Nat → Nat) × (Nat → Nat) × (Nat → Nat)
def cI0 (h : mH) (x : mSd) : Prop := h 30 = oIm0 x.1 x.2.1 ∧ h 31 = mAr 24 x.2.2.1 ∧ h 32 = mAr 4 x.2.2.2.1 ∧ h 33 = mAr 4 x.2.2.2.2.1 ∧ h 34 = mAr 40 x.2.2.2.2.2
def cI1 (h : mH) (x : mSd) : Prop := h 35 = oIm1 x.1 x.2.1 ∧ h 36 = mAr 24 x.2.2.1 ∧ h 37 = mAr 4 x.2.2.2.1 ∧ h 38 = mAr 4 x.2.2.2.2.1 ∧ h 39 = mAr 40 x.2.2.2.2.2
def cMi (h : mH) (kp : Nat → Bool) : Prop := ∃ g : Nat → Option Nat, h 14 = .inr (.inl (2, g)) ∧ g 0 = some 30 ∧ g 1 = some 35 ∧ h 15 = mZr 2 kp
def cSe (h : mH) (sn : Nat) (sf st : Nat → Nat) : Prop := h 16 = oSeen sn ∧ h 17 = mAr 6 sf ∧ h 18 = mAr 6 st ∧ sn ≤ 6 ∧ (∀ j, j < sn → sf j < 10) ∧ ∀ j, j < sn → st j < 2
def cTe (h : mH) : Prop := ∃ (c : Nat) (g : Nat → Nat), h 19 = oTell c ∧ h 20 = mAr 10 g
def cFa (h : mH) : Prop := ∃ (tv nv : Value) (up lo : Nat) (g : Nat → Nat), h 28 = oFall tv nv up lo ∧ h 29 = mAr 10 g
/-- a deed that can be undone -/
def dOK (cu : Nat) (ds : Nat → Nat) (i : Nat) : Prop := ((ds (i * 4) = 0 ∧ ds (i * 4 + 1) < cu ∧ ds (i * 4 + 2) < 6) ∨ (ds (i * 4) = 1 ∧ ds (i * 4 + 1) < cu ∧ ds (i * 4 + 2) < cu ∧ ds (i * 4 + 1) ≠ ds (i * 4 + 2)) ∨ (ds (i * 4) = 2 ∧ ds (i * 4 + 1) < cu * 6 ∧ ds (i * 4 + 2) < 10)) ∧ ds (i * 4 + 3) ≤ 9999
def sdOK (cu dn wk : Nat) (nf ca fr ds : Nat → Nat) : Prop := dn ≤ 10 ∧ wk ≤ 9999 ∧ (∀ j, j < cu * 6 → nf j < 10) ∧ (∀ j, j < 4 → ca j < 4) ∧ (∀ i j, i < cu → j < cu → ca i = ca j → i = j) ∧ (∀ j, j < cu → ca j < cu) ∧ (∀ j, j < 4 → fr j < 6) ∧ ∀ i, i < dn → dOK cu ds i
def CI (h : mH) (n : Nat) (tx : Nat → Nat) (cu dc : Nat) (bo : Bool) (td : Nat → Nat) (dn wk : Nat) (nf ca fr ds : Nat → Nat) (x0 x1 : mSd) (kp : Nat → Bool) (sn : Nat) (sf st : Nat → Nat) (tr : Int64) : Prop :=
  h 0 = oDay tr ∧ cRd h n tx ∧ cTo h cu dc bo td ∧ cDr h ∧ cNo h dn wk nf ca fr ds ∧ cI0 h x0 ∧ cI1 h x1 ∧ cMi h kp ∧ cSe h sn sf st ∧ cTe h ∧ (∃ w pl y, cWk h w pl y) ∧ cFa h ∧ sdOK cu dn wk nf ca fr ds ∧ (kp 0 = true → sdOK cu x0.1 x0.2.1 x0.2.2.1 x0.2.2.2.1 x0.2.2.2.2.1 x0.2.2.2.2.2) ∧ (kp 1 = true → sdOK cu x1.1 x1.2.1 x1.2.2.1 x1.2.2.2.1 x1.2.2.2.2.1 x1.2.2.2.2.2)
/-- the answer, what then holds; cells of the reference stay -/
def cQ (h : mH) (v : Value) (C : mH → Prop) : Option Value → mH → Prop := fun r h' => r = some v ∧ C h' ∧ ∀ b, 40 ≤ b → h' b = h b
theorem ix_no {c : Int32} {n : Nat} (hn : n < 2 ^ 31) (h : isIx c n = false) : c < 0 ∨ nI n ≤ c := by
  unfold isIx at h
  rw [decide_eq_false_iff_not] at h
  rcases Classical.em (c < 0) with q | q
  · exact Or.inl q
  · exact Or.inr (Classical.byContradiction fun z => h ⟨q, z⟩)
theorem gt_ge {c : Int32} {k : Nat} (hk : k + 1 < 2 ^ 31) : nI k < c ↔ nI (k + 1) ≤ c := by
  have e1 : (nI k).toInt = k := nI_toInt (by omega)
  have e2 : (nI (k + 1)).toInt = ((k + 1 : Nat) : Int) := nI_toInt hk
  rw [Int32.lt_iff_toInt_lt, Int32.le_iff_toInt_le, e1, e2]
  omega
theorem ix_out {c : Int32} {n : Nat} (hn : n < 2 ^ 31) (h : isIx c n = false) : c.toInt < 0 ∨ (n : Int) ≤ c.toInt := by
  rcases ix_no hn h with q | q
  · left
    have := Int32.lt_iff_toInt_lt.mp q
    simpa using this
  · right
    have := Int32.le_iff_toInt_le.mp q
    rwa [nI_toInt hn] at this
/-! deeds -/
def sh (dn : Nat) : Nat := if dn < 10 then 0 else 1
theorem ds1_old {dn : Nat} {ds : Nat → Nat} {k x y wk i r : Nat} (hd : dn ≤ 10) (hi : i < dn0 dn) (hr : r < 4) : ds1 dn ds k x y wk (i * 4 + r) = ds ((i + sh dn) * 4 + r) := by
  unfold ds1
  rw [mUp_ne _ _ (by omega), mUp_ne _ _ (by omega), mUp_ne _ _ (by omega), mUp_ne _ _ (by omega)]
  unfold ds0 sh
  by_cases q : dn < 10
  · rw [if_pos q, if_pos q]; rfl
  · rw [if_neg q, if_neg q]
    have h9 : dn0 dn = 9 := if_neg q
    rw [pk_cpy_in (Nat.zero_le _) (by omega)]
    congr 1
    omega
theorem ds1_new {dn : Nat} {ds : Nat → Nat} {k x y wk : Nat} : ds1 dn ds k x y wk (dn0 dn * 4) = k ∧ ds1 dn ds k x y wk (dn0 dn * 4 + 1) = x ∧ ds1 dn ds k x y wk (dn0 dn * 4 + 2) = y ∧ ds1 dn ds k x y wk (dn0 dn * 4 + 3) = wk := by
  unfold ds1
  refine ⟨?_, ?_, ?_, ?_⟩
  · rw [mUp_ne _ _ (by omega), mUp_ne _ _ (by omega), mUp_ne _ _ (by omega), mUp_eq]
  · rw [mUp_ne _ _ (by omega), mUp_ne _ _ (by omega), mUp_eq]
  · rw [mUp_ne _ _ (by omega), mUp_eq]
  · rw [mUp_eq]
theorem dn0_sh {dn : Nat} (hd : dn ≤ 10) : dn0 dn + sh dn = dn := by
  unfold dn0 sh
  split <;> omega
theorem deeds_ok {cu dn : Nat} {ds : Nat → Nat} {k x y wk : Nat} (hd : dn ≤ 10) (h : ∀ i, i < dn → dOK cu ds i) (hw : wk ≤ 9999) (hn : (k = 0 ∧ x < cu ∧ y < 6) ∨ (k = 1 ∧ x < cu ∧ y < cu ∧ x ≠ y) ∨ (k = 2 ∧ x < cu * 6 ∧ y < 10)) : ∀ i, i < dn0 dn + 1 → dOK cu (ds1 dn ds k x y wk) i := by
  intro i hi
  have hs := dn0_sh hd
  rcases Nat.lt_or_ge i (dn0 dn) with q | q
  · have h0 := ds1_old (k := k) (x := x) (y := y) (wk := wk) (ds := ds) hd q (show 0 < 4 by decide)
    have h1 := ds1_old (k := k) (x := x) (y := y) (wk := wk) (ds := ds) hd q (show 1 < 4 by decide)
    have h2 := ds1_old (k := k) (x := x) (y := y) (wk := wk) (ds := ds) hd q (show 2 < 4 by decide)
    have h3 := ds1_old (k := k) (x := x) (y := y) (wk := wk) (ds := ds) hd q (show 3 < 4 by decide)
    have ho := h (i + sh dn) (by omega)
    unfold dOK at ho ⊢
    simp only [Nat.add_zero] at h0
    rw [h0, h1, h2, h3]
    exact ho
  · obtain rfl : i = dn0 dn := by omega
    obtain ⟨n0, n1, n2, n3⟩ := ds1_new (dn := dn) (ds := ds) (k := k) (x := x) (y := y) (wk := wk)
    unfold dOK
    rw [n0, n1, n2, n3]
    exact ⟨hn, hw⟩
def swp (ca : Nat → Nat) (p q : Nat) : Nat → Nat := mUp (mUp ca p (ca q)) q (ca p)
theorem swp_at (ca : Nat → Nat) (p q j : Nat) : swp ca p q j = if j = q then ca p else if j = p then ca q else ca j := by
  unfold swp mUp
  rfl
theorem swp_ok {cu : Nat} {ca : Nat → Nat} {p q : Nat} (hc : cu ≤ 4) (hp : p < cu) (hq : q < cu) (h4 : ∀ j, j < 4 → ca j < 4) (hi : ∀ i j, i < cu → j < cu → ca i = ca j → i = j) (hcu : ∀ j, j < cu → ca j < cu) : (∀ j, j < 4 → swp ca p q j < 4) ∧ (∀ i j, i < cu → j < cu → swp ca p q i = swp ca p q j → i = j) ∧ ∀ j, j < cu → swp ca p q j < cu := by
  refine ⟨fun j hj => ?_, fun i j hi4 hj4 he => ?_, fun j hj => ?_⟩
  · rw [swp_at]
    split
    · exact h4 p (by omega)
    · split
      · exact h4 q (by omega)
      · exact h4 j hj
  · rw [swp_at, swp_at] at he
    have hp4 : p < cu := hp
    have hq4 : q < cu := hq
    split at he
    · split at he
      · omega
      · split at he
        · have := hi _ _ hp4 hq4 he; omega
        · have := hi _ _ hp4 hj4 he; omega
    · split at he
      · split at he
        · have := hi _ _ hq4 hp4 he; omega
        · split at he
          · omega
          · have := hi _ _ hq4 hj4 he; omega
      · split at he
        · have := hi _ _ hi4 hp4 he; omega
        · split at he
          · have := hi _ _ hi4 hq4 he; omega
          · exact hi _ _ hi4 hj4 he
  · rw [swp_at]
    split
    · exact hcu p hp
    · split
      · exact hcu q hq
      · exact hcu j hj
set_option maxRecDepth 100000 in
set_option maxHeartbeats 4000000 in
theorem pc_type_bad {E : mE} {h : mH} {n : Nat} {tx : Nat → Nat} {cu dc : Nat} {bo : Bool} {td : Nat → Nat} {dn wk : Nat} {nf ca fr ds : Nat → Nat} {x0 x1 : mSd} {kp : Nat → Bool} {sn : Nat} {sf st : Nat → Nat} {tr : Int64} {c : Int32} (H : CI h n tx cu dc bo td dn wk nf ca fr ds x0 x1 kp sn sf st tr) (hb : isIx c 256 = false) : mOk E 2 zX7_type [.ref 0, .int c] h (cQ h (.int (-1)) (CI · n tx cu dc bo td dn wk nf ca fr ds x0 x1 kp sn sf st tr)) := by
  obtain ⟨e0, hRd, hTo, hDr, hNo, hI0, hI1, hMi, hSe, hTe, hWk, hFa, hOK, hK0, hK1⟩ := id H
  obtain ⟨t, e1, e2, ht, hn, htx⟩ := id hRd
  obtain ⟨it, tf, e3, e4, e5, hcu, hdc, htd⟩ := id hTo
  obtain ⟨cu6, dc6, it6, bo6, df, dy, e6, e7, e8⟩ := id hDr
  obtain ⟨e9, e10, e11, e12, e13⟩ := id hNo
  obtain ⟨g14, e14, hg0, hg1, e15⟩ := id hMi
  obtain ⟨e16, e17, e18, hsn, hsf, hst⟩ := id hSe
  obtain ⟨c19, g20, e19, e20⟩ := id hTe
  obtain ⟨w, pl, y, hwk⟩ := id hWk
  obtain ⟨ftv, fnv, fup, flo, g29, e28, e29⟩ := id hFa
  obtain ⟨hdn, hw9, hnf, hca4, hinj, hcac, hfr6, hdeed⟩ := id hOK
  refine mOk_w (L := [some (.ref 0), some (.int c)]) pn_X7 rfl (Nat.le_of_ble_eq_true rfl) rfl ?_
  refine mG_iload_n dX7_type_0 rfl ?_
  refine mG_if_lt dX7_type_1 (fun c1 => ?_) (fun c1 => ?_)
  · refine mG_iconst (v := (-1)) dX7_type_11 (by decide) ?_
    exact mG_iret dX7_type_12 rfl ⟨rfl, H, fun _ _ => rfl⟩
  · refine mG_iload_n dX7_type_4 rfl ?_
    refine mG_sipush (v := nI 255) dX7_type_5 (by decide) ?_
    refine mG_icmp_le dX7_type_8 (fun c8 => (by
    rcases ix_no (by decide) hb with q | q
    · exact absurd q c1
    · exact absurd c8 (Int32.not_le.mpr ((gt_ge (by decide)).mpr q)))) (fun c8 => ?_)
    refine mG_iconst (v := (-1)) dX7_type_11 (by decide) ?_
    exact mG_iret dX7_type_12 rfl ⟨rfl, H, fun _ _ => rfl⟩
set_option maxRecDepth 100000 in
set_option maxHeartbeats 4000000 in
theorem pc_type_full {E : mE} {h : mH} {n : Nat} {tx : Nat → Nat} {cu dc : Nat} {bo : Bool} {td : Nat → Nat} {dn wk : Nat} {nf ca fr ds : Nat → Nat} {x0 x1 : mSd} {kp : Nat → Bool} {sn : Nat} {sf st : Nat → Nat} {tr : Int64} {j : Nat} (H : CI h n tx cu dc bo td dn wk nf ca fr ds x0 x1 kp sn sf st tr) (hj : j < 256) (hf : 100 ≤ n) : mOk E 2 zX7_type [.ref 0, vN j] h (cQ h (.int (-3)) (CI · n tx cu dc bo td dn wk nf ca fr ds x0 x1 kp sn sf st tr)) := by
  obtain ⟨e0, hRd, hTo, hDr, hNo, hI0, hI1, hMi, hSe, hTe, hWk, hFa, hOK, hK0, hK1⟩ := id H
  obtain ⟨t, e1, e2, ht, hn, htx⟩ := id hRd
  obtain ⟨it, tf, e3, e4, e5, hcu, hdc, htd⟩ := id hTo
  obtain ⟨cu6, dc6, it6, bo6, df, dy, e6, e7, e8⟩ := id hDr
  obtain ⟨e9, e10, e11, e12, e13⟩ := id hNo
  obtain ⟨g14, e14, hg0, hg1, e15⟩ := id hMi
  obtain ⟨e16, e17, e18, hsn, hsf, hst⟩ := id hSe
  obtain ⟨c19, g20, e19, e20⟩ := id hTe
  obtain ⟨w, pl, y, hwk⟩ := id hWk
  obtain ⟨ftv, fnv, fup, flo, g29, e28, e29⟩ := id hFa
  obtain ⟨hdn, hw9, hnf, hca4, hinj, hcac, hfr6, hdeed⟩ := id hOK
  refine mOk_w (L := [some (.ref 0), some (vN j)]) pn_X7 rfl (Nat.le_of_ble_eq_true rfl) rfl ?_
  refine mG_iload_n dX7_type_0 rfl ?_
  refine mG_if_ltN dX7_type_1 (by omega) (fun c1 => c1.elim) (fun c1 => ?_)
  refine mG_iload_n dX7_type_4 rfl ?_
  refine mG_sipush (v := nI 255) dX7_type_5 (by decide) ?_
  refine mG_icmp_leN dX7_type_8 (by omega) (by omega) (fun c8 => ?_) (fun c8 => absurd c8 (by omega))
  refine mG_aload_n dX7_type_13 rfl ?_
  refine mG_get fX7_10 dX7_type_14 e0 (Nat.le_of_ble_eq_true rfl) rfl ?_
  refine mG_get fX7_69 dX7_type_17 e1 (Nat.le_of_ble_eq_true rfl) rfl ?_
  refine mG_bipush (v := nI 100) dX7_type_20 (by decide) ?_
  refine mG_icmp_ltN dX7_type_22 (by omega) (by omega) (fun c22 => absurd c22 (by omega)) (fun c22 => ?_)
  refine mG_bipush (v := (-3)) dX7_type_25 (by decide) ?_
  exact mG_iret dX7_type_27 rfl ⟨rfl, H, fun _ _ => rfl⟩
set_option maxRecDepth 100000 in
set_option maxHeartbeats 4000000 in
theorem pc_type_ok {E : mE} {h : mH} {n : Nat} {tx : Nat → Nat} {cu dc : Nat} {bo : Bool} {td : Nat → Nat} {dn wk : Nat} {nf ca fr ds : Nat → Nat} {x0 x1 : mSd} {kp : Nat → Bool} {sn : Nat} {sf st : Nat → Nat} {tr : Int64} {j : Nat} (H : CI h n tx cu dc bo td dn wk nf ca fr ds x0 x1 kp sn sf st tr) (hj : j < 256) (hf : n < 100) : mOk E 2 zX7_type [.ref 0, vN j] h (cQ h (vN (n + 1)) (CI · (n + 1) (mUp tx n j) cu dc bo td dn wk nf ca fr ds x0 x1 kp sn sf st tr)) := by
  obtain ⟨e0, hRd, hTo, hDr, hNo, hI0, hI1, hMi, hSe, hTe, hWk, hFa, hOK, hK0, hK1⟩ := id H
  obtain ⟨t, e1, e2, ht, hn, htx⟩ := id hRd
  obtain ⟨it, tf, e3, e4, e5, hcu, hdc, htd⟩ := id hTo
  obtain ⟨cu6, dc6, it6, bo6, df, dy, e6, e7, e8⟩ := id hDr
  obtain ⟨e9, e10, e11, e12, e13⟩ := id hNo
  obtain ⟨g14, e14, hg0, hg1, e15⟩ := id hMi
  obtain ⟨e16, e17, e18, hsn, hsf, hst⟩ := id hSe
  obtain ⟨c19, g20, e19, e20⟩ := id hTe
  obtain ⟨w, pl, y, hwk⟩ := id hWk
  obtain ⟨ftv, fnv, fup, flo, g29, e28, e29⟩ := id hFa
  obtain ⟨hdn, hw9, hnf, hca4, hinj, hcac, hfr6, hdeed⟩ := id hOK
  refine mOk_w (L := [some (.ref 0), some (vN j)]) pn_X7 rfl (Nat.le_of_ble_eq_true rfl) rfl ?_
  refine mG_iload_n dX7_type_0 rfl ?_
  refine mG_if_ltN dX7_type_1 (by omega) (fun c1 => c1.elim) (fun c1 => ?_)
  refine mG_iload_n dX7_type_4 rfl ?_
  refine mG_sipush (v := nI 255) dX7_type_5 (by decide) ?_
  refine mG_icmp_leN dX7_type_8 (by omega) (by omega) (fun c8 => ?_) (fun c8 => absurd c8 (by omega))
  refine mG_aload_n dX7_type_13 rfl ?_
  refine mG_get fX7_10 dX7_type_14 e0 (Nat.le_of_ble_eq_true rfl) rfl ?_
  refine mG_get fX7_69 dX7_type_17 e1 (Nat.le_of_ble_eq_true rfl) rfl ?_
  refine mG_bipush (v := nI 100) dX7_type_20 (by decide) ?_
  refine mG_icmp_ltN dX7_type_22 (by omega) (by omega) (fun c22 => ?_) (fun c22 => absurd c22 (by omega))
  refine mG_aload_n dX7_type_28 rfl ?_
  refine mG_get fX7_10 dX7_type_29 e0 (Nat.le_of_ble_eq_true rfl) rfl ?_
  refine mG_iload_n dX7_type_32 rfl ?_
  refine mG_cw1 vX7_73 dX7_type_33 (mLe_of rfl) (Nat.le_of_ble_eq_true rfl) e1 (Nat.le_of_ble_eq_true rfl) (ok_X1_append e1 e2 hf) ?_
  refine mG_aload_n dX7_type_36 rfl ?_
  refine mG_get fX7_10 dX7_type_37 e0 (Nat.le_of_ble_eq_true rfl) rfl ?_
  refine mG_get fX7_69 dX7_type_40 rfl (Nat.le_of_ble_eq_true rfl) rfl ?_
  exact mG_iret dX7_type_43 rfl ⟨rfl, ⟨e0, ⟨t, rfl, rfl, ht, by omega, fun i hi => by
      by_cases q : i = n
      · rw [q, mUp_eq]; exact hj
      · rw [mUp_ne _ _ q]; exact htx i (by omega)⟩, hTo, hDr, hNo, hI0, hI1, hMi, hSe, hTe, hWk, hFa, hOK, hK0, hK1⟩, fun b hb => by simp only [mU, show ¬ b = 1 from by omega, show ¬ b = 2 from by omega, if_false]⟩
set_option maxRecDepth 100000 in
set_option maxHeartbeats 4000000 in
theorem pc_clear {E : mE} {h : mH} {n : Nat} {tx : Nat → Nat} {cu dc : Nat} {bo : Bool} {td : Nat → Nat} {dn wk : Nat} {nf ca fr ds : Nat → Nat} {x0 x1 : mSd} {kp : Nat → Bool} {sn : Nat} {sf st : Nat → Nat} {tr : Int64} (H : CI h n tx cu dc bo td dn wk nf ca fr ds x0 x1 kp sn sf st tr) : mOk E 1 zX7_clear [.ref 0] h (cQ h (vN n) (CI · 0 tx cu dc bo td dn wk nf ca fr ds x0 x1 kp sn sf st tr)) := by
  obtain ⟨e0, hRd, hTo, hDr, hNo, hI0, hI1, hMi, hSe, hTe, hWk, hFa, hOK, hK0, hK1⟩ := id H
  obtain ⟨t, e1, e2, ht, hn, htx⟩ := id hRd
  obtain ⟨it, tf, e3, e4, e5, hcu, hdc, htd⟩ := id hTo
  obtain ⟨cu6, dc6, it6, bo6, df, dy, e6, e7, e8⟩ := id hDr
  obtain ⟨e9, e10, e11, e12, e13⟩ := id hNo
  obtain ⟨g14, e14, hg0, hg1, e15⟩ := id hMi
  obtain ⟨e16, e17, e18, hsn, hsf, hst⟩ := id hSe
  obtain ⟨c19, g20, e19, e20⟩ := id hTe
  obtain ⟨w, pl, y, hwk⟩ := id hWk
  obtain ⟨ftv, fnv, fup, flo, g29, e28, e29⟩ := id hFa
  obtain ⟨hdn, hw9, hnf, hca4, hinj, hcac, hfr6, hdeed⟩ := id hOK
  refine mOk_w (L := [some (.ref 0), none]) pn_X7 rfl (Nat.le_of_ble_eq_true rfl) rfl ?_
  refine mG_aload_n dX7_clear_0 rfl ?_
  refine mG_get fX7_10 dX7_clear_1 e0 (Nat.le_of_ble_eq_true rfl) rfl ?_
  refine mG_get fX7_69 dX7_clear_4 e1 (Nat.le_of_ble_eq_true rfl) rfl ?_
  refine mG_istore_n dX7_clear_7 (Nat.le_of_ble_eq_true rfl) rfl rfl ?_
  refine mG_aload_n dX7_clear_8 rfl ?_
  refine mG_get fX7_10 dX7_clear_9 e0 (Nat.le_of_ble_eq_true rfl) rfl ?_
  refine mG_iconst (v := nI 0) dX7_clear_12 (by decide) ?_
  refine mG_putI pX7_69 dX7_clear_13 e1 (Nat.le_of_ble_eq_true rfl) (Nat.le_of_ble_eq_true rfl) ?_
  refine mG_iload_n dX7_clear_16 rfl ?_
  exact mG_iret dX7_clear_17 rfl ⟨rfl, ⟨e0, ⟨t, rfl, e2, ht, by omega, fun i hi => absurd hi (Nat.not_lt_zero _)⟩, hTo, hDr, hNo, hI0, hI1, hMi, hSe, hTe, hWk, hFa, hOK, hK0, hK1⟩, fun b hb => by simp only [mU, show ¬ b = 1 from by omega, if_false]⟩
set_option maxRecDepth 100000 in
set_option maxHeartbeats 4000000 in
theorem pc_side_bad {E : mE} {h : mH} {n : Nat} {tx : Nat → Nat} {cu dc : Nat} {bo : Bool} {td : Nat → Nat} {dn wk : Nat} {nf ca fr ds : Nat → Nat} {x0 x1 : mSd} {kp : Nat → Bool} {sn : Nat} {sf st : Nat → Nat} {tr : Int64} {c s : Int32} (H : CI h n tx cu dc bo td dn wk nf ca fr ds x0 x1 kp sn sf st tr) (hb : (isIx c cu && isIx s 6) = false) : mOk E 2 zX7_side [.ref 0, .int c, .int s] h (cQ h (.int (-1)) (CI · n tx cu dc bo td dn wk nf ca fr ds x0 x1 kp sn sf st tr)) := by
  obtain ⟨e0, hRd, hTo, hDr, hNo, hI0, hI1, hMi, hSe, hTe, hWk, hFa, hOK, hK0, hK1⟩ := id H
  obtain ⟨t, e1, e2, ht, hn, htx⟩ := id hRd
  obtain ⟨it, tf, e3, e4, e5, hcu, hdc, htd⟩ := id hTo
  obtain ⟨cu6, dc6, it6, bo6, df, dy, e6, e7, e8⟩ := id hDr
  obtain ⟨e9, e10, e11, e12, e13⟩ := id hNo
  obtain ⟨g14, e14, hg0, hg1, e15⟩ := id hMi
  obtain ⟨e16, e17, e18, hsn, hsf, hst⟩ := id hSe
  obtain ⟨c19, g20, e19, e20⟩ := id hTe
  obtain ⟨w, pl, y, hwk⟩ := id hWk
  obtain ⟨ftv, fnv, fup, flo, g29, e28, e29⟩ := id hFa
  obtain ⟨hdn, hw9, hnf, hca4, hinj, hcac, hfr6, hdeed⟩ := id hOK
  refine mOk_w (L := [some (.ref 0), some (.int c), some (.int s)]) pn_X7 rfl (Nat.le_of_ble_eq_true rfl) rfl ?_
  refine mG_aload_n dX7_side_0 rfl ?_
  refine mG_iload_n dX7_side_1 rfl ?_
  refine mG_cv1 vX7_94 dX7_side_2 (mLe_of rfl) (Nat.le_of_ble_eq_true rfl) e0 (Nat.le_of_ble_eq_true rfl) (ok_X7_isCube e0 e3) ?_
  refine mG_if_eqB dX7_side_5 (fun c5 => ?_) (fun c5 => ?_)
  · refine mG_iconst (v := (-1)) dX7_side_32 (by decide) ?_
    exact mG_iret dX7_side_33 rfl ⟨rfl, H, fun _ _ => rfl⟩
  · refine mG_iload_n dX7_side_8 rfl ?_
    refine mG_cs1 sX7_98 dX7_side_9 (mLe_of rfl) (Nat.le_of_ble_eq_true rfl) (ok_X7_isSide) ?_
    refine mG_if_eqB dX7_side_12 (fun c12 => ?_) (fun c12 => (by rw [c5, c12] at hb; cases hb))
    refine mG_iconst (v := (-1)) dX7_side_32 (by decide) ?_
    exact mG_iret dX7_side_33 rfl ⟨rfl, H, fun _ _ => rfl⟩
set_option maxRecDepth 100000 in
set_option maxHeartbeats 4000000 in
theorem pc_side_ok {E : mE} {h : mH} {n : Nat} {tx : Nat → Nat} {cu dc : Nat} {bo : Bool} {td : Nat → Nat} {dn wk : Nat} {nf ca fr ds : Nat → Nat} {x0 x1 : mSd} {kp : Nat → Bool} {sn : Nat} {sf st : Nat → Nat} {tr : Int64} {j k : Nat} (H : CI h n tx cu dc bo td dn wk nf ca fr ds x0 x1 kp sn sf st tr) (hj : j < cu) (hk : k < 6) : mOk E 2 zX7_side [.ref 0, vN j, vN k] h (cQ h (vN (nf (j * 6 + k))) (CI · n tx cu dc bo td dn wk nf ca fr ds x0 x1 kp sn sf st tr)) := by
  obtain ⟨e0, hRd, hTo, hDr, hNo, hI0, hI1, hMi, hSe, hTe, hWk, hFa, hOK, hK0, hK1⟩ := id H
  obtain ⟨t, e1, e2, ht, hn, htx⟩ := id hRd
  obtain ⟨it, tf, e3, e4, e5, hcu, hdc, htd⟩ := id hTo
  obtain ⟨cu6, dc6, it6, bo6, df, dy, e6, e7, e8⟩ := id hDr
  obtain ⟨e9, e10, e11, e12, e13⟩ := id hNo
  obtain ⟨g14, e14, hg0, hg1, e15⟩ := id hMi
  obtain ⟨e16, e17, e18, hsn, hsf, hst⟩ := id hSe
  obtain ⟨c19, g20, e19, e20⟩ := id hTe
  obtain ⟨w, pl, y, hwk⟩ := id hWk
  obtain ⟨ftv, fnv, fup, flo, g29, e28, e29⟩ := id hFa
  obtain ⟨hdn, hw9, hnf, hca4, hinj, hcac, hfr6, hdeed⟩ := id hOK
  have qj := isIx_nI (show cu < 2 ^ 31 by omega) hj
  have qk := isIx_nI (show 6 < 2 ^ 31 by decide) hk
  refine mOk_w (L := [some (.ref 0), some (vN j), some (vN k)]) pn_X7 rfl (Nat.le_of_ble_eq_true rfl) rfl ?_
  refine mG_aload_n dX7_side_0 rfl ?_
  refine mG_iload_n dX7_side_1 rfl ?_
  refine mG_cv1 vX7_94 dX7_side_2 (mLe_of rfl) (Nat.le_of_ble_eq_true rfl) e0 (Nat.le_of_ble_eq_true rfl) (ok_X7_isCube e0 e3) ?_
  refine mG_if_eqB dX7_side_5 (fun c5 => Bool.noConfusion (c5.symm.trans qj)) (fun c5 => ?_)
  refine mG_iload_n dX7_side_8 rfl ?_
  refine mG_cs1 sX7_98 dX7_side_9 (mLe_of rfl) (Nat.le_of_ble_eq_true rfl) (ok_X7_isSide) ?_
  refine mG_if_eqB dX7_side_12 (fun c12 => Bool.noConfusion (c12.symm.trans qk)) (fun c12 => ?_)
  refine mG_aload_n dX7_side_15 rfl ?_
  refine mG_get fX7_29 dX7_side_16 e0 (Nat.le_of_ble_eq_true rfl) rfl ?_
  refine mG_get fX7_101 dX7_side_19 e9 (Nat.le_of_ble_eq_true rfl) rfl ?_
  refine mG_iload_n dX7_side_22 rfl ?_
  refine mG_bipush (v := nI 6) dX7_side_23 (by decide) ?_
  refine mG_imulN dX7_side_25 ?_
  refine mG_iload_n dX7_side_26 rfl ?_
  refine mG_iaddN dX7_side_27 ?_
  refine mG_ialdA dX7_side_28 e10 (Nat.le_of_ble_eq_true rfl) (by decide) (by omega) ?_
  refine mG_goto dX7_side_29 ?_
  exact mG_iret dX7_side_33 rfl ⟨rfl, H, fun _ _ => rfl⟩
set_option maxRecDepth 100000 in
set_option maxHeartbeats 4000000 in
theorem pc_cube_bad {E : mE} {h : mH} {n : Nat} {tx : Nat → Nat} {cu dc : Nat} {bo : Bool} {td : Nat → Nat} {dn wk : Nat} {nf ca fr ds : Nat → Nat} {x0 x1 : mSd} {kp : Nat → Bool} {sn : Nat} {sf st : Nat → Nat} {tr : Int64} {c wh : Int32} (H : CI h n tx cu dc bo td dn wk nf ca fr ds x0 x1 kp sn sf st tr) (hb : isIx c cu = false) : mOk E 5 zX7_cube [.ref 0, .int c, .int wh] h (cQ h (.int (-1)) (CI · n tx cu dc bo td dn wk nf ca fr ds x0 x1 kp sn sf st tr)) := by
  obtain ⟨e0, hRd, hTo, hDr, hNo, hI0, hI1, hMi, hSe, hTe, hWk, hFa, hOK, hK0, hK1⟩ := id H
  obtain ⟨t, e1, e2, ht, hn, htx⟩ := id hRd
  obtain ⟨it, tf, e3, e4, e5, hcu, hdc, htd⟩ := id hTo
  obtain ⟨cu6, dc6, it6, bo6, df, dy, e6, e7, e8⟩ := id hDr
  obtain ⟨e9, e10, e11, e12, e13⟩ := id hNo
  obtain ⟨g14, e14, hg0, hg1, e15⟩ := id hMi
  obtain ⟨e16, e17, e18, hsn, hsf, hst⟩ := id hSe
  obtain ⟨c19, g20, e19, e20⟩ := id hTe
  obtain ⟨w, pl, y, hwk⟩ := id hWk
  obtain ⟨ftv, fnv, fup, flo, g29, e28, e29⟩ := id hFa
  obtain ⟨hdn, hw9, hnf, hca4, hinj, hcac, hfr6, hdeed⟩ := id hOK
  refine mOk_w (L := [some (.ref 0), some (.int c), some (.int wh)]) pn_X7 rfl (Nat.le_of_ble_eq_true rfl) rfl ?_
  refine mG_aload_n dX7_cube_0 rfl ?_
  refine mG_iload_n dX7_cube_1 rfl ?_
  refine mG_cv1 vX7_94 dX7_cube_2 (mLe_of rfl) (Nat.le_of_ble_eq_true rfl) e0 (Nat.le_of_ble_eq_true rfl) (ok_X7_isCube e0 e3) ?_
  refine mG_if_neB dX7_cube_5 (fun c5 => Bool.noConfusion (hb.symm.trans c5)) (fun c5 => ?_)
  refine mG_iconst (v := (-1)) dX7_cube_8 (by decide) ?_
  exact mG_iret dX7_cube_9 rfl ⟨rfl, H, fun _ _ => rfl⟩
set_option maxRecDepth 100000 in
set_option maxHeartbeats 4000000 in
theorem pc_cube_no {E : mE} {h : mH} {n : Nat} {tx : Nat → Nat} {cu dc : Nat} {bo : Bool} {td : Nat → Nat} {dn wk : Nat} {nf ca fr ds : Nat → Nat} {x0 x1 : mSd} {kp : Nat → Bool} {sn : Nat} {sf st : Nat → Nat} {tr : Int64} {j : Nat} {wh : Int32} (H : CI h n tx cu dc bo td dn wk nf ca fr ds x0 x1 kp sn sf st tr) (hj : j < cu) (hb : isIx wh 4 = false) : mOk E 5 zX7_cube [.ref 0, vN j, .int wh] h (cQ h (.int (-1)) (CI · n tx cu dc bo td dn wk nf ca fr ds x0 x1 kp sn sf st tr)) := by
  obtain ⟨e0, hRd, hTo, hDr, hNo, hI0, hI1, hMi, hSe, hTe, hWk, hFa, hOK, hK0, hK1⟩ := id H
  obtain ⟨t, e1, e2, ht, hn, htx⟩ := id hRd
  obtain ⟨it, tf, e3, e4, e5, hcu, hdc, htd⟩ := id hTo
  obtain ⟨cu6, dc6, it6, bo6, df, dy, e6, e7, e8⟩ := id hDr
  obtain ⟨e9, e10, e11, e12, e13⟩ := id hNo
  obtain ⟨g14, e14, hg0, hg1, e15⟩ := id hMi
  obtain ⟨e16, e17, e18, hsn, hsf, hst⟩ := id hSe
  obtain ⟨c19, g20, e19, e20⟩ := id hTe
  obtain ⟨w, pl, y, hwk⟩ := id hWk
  obtain ⟨ftv, fnv, fup, flo, g29, e28, e29⟩ := id hFa
  obtain ⟨hdn, hw9, hnf, hca4, hinj, hcac, hfr6, hdeed⟩ := id hOK
  have qj := isIx_nI (show cu < 2 ^ 31 by omega) hj
  refine mOk_w (L := [some (.ref 0), some (vN j), some (.int wh)]) pn_X7 rfl (Nat.le_of_ble_eq_true rfl) rfl ?_
  refine mG_aload_n dX7_cube_0 rfl ?_
  refine mG_iload_n dX7_cube_1 rfl ?_
  refine mG_cv1 vX7_94 dX7_cube_2 (mLe_of rfl) (Nat.le_of_ble_eq_true rfl) e0 (Nat.le_of_ble_eq_true rfl) (ok_X7_isCube e0 e3) ?_
  refine mG_if_neB dX7_cube_5 (fun c5 => ?_) (fun c5 => Bool.noConfusion (c5.symm.trans qj))
  refine mG_iload_n dX7_cube_10 rfl ?_
  refine mG_tableOut (tgt := 74) dX7_cube_11 (by have := ix_out (by decide) hb; omega) (by decide) ?_
  refine mG_iconst (v := (-1)) dX7_cube_74 (by decide) ?_
  exact mG_iret dX7_cube_75 rfl ⟨rfl, H, fun _ _ => rfl⟩
set_option maxRecDepth 100000 in
set_option maxHeartbeats 4000000 in
theorem pc_cube_0 {E : mE} {h : mH} {n : Nat} {tx : Nat → Nat} {cu dc : Nat} {bo : Bool} {td : Nat → Nat} {dn wk : Nat} {nf ca fr ds : Nat → Nat} {x0 x1 : mSd} {kp : Nat → Bool} {sn : Nat} {sf st : Nat → Nat} {tr : Int64} {j p : Nat} (H : CI h n tx cu dc bo td dn wk nf ca fr ds x0 x1 kp sn sf st tr) (hj : j < cu) (hp : p < cu) (hpc : ca p = j) : mOk E 5 zX7_cube [.ref 0, vN j, vN 0] h (cQ h (vN p) (CI · n tx cu dc bo td dn wk nf ca fr ds x0 x1 kp sn sf st tr)) := by
  obtain ⟨e0, hRd, hTo, hDr, hNo, hI0, hI1, hMi, hSe, hTe, hWk, hFa, hOK, hK0, hK1⟩ := id H
  obtain ⟨t, e1, e2, ht, hn, htx⟩ := id hRd
  obtain ⟨it, tf, e3, e4, e5, hcu, hdc, htd⟩ := id hTo
  obtain ⟨cu6, dc6, it6, bo6, df, dy, e6, e7, e8⟩ := id hDr
  obtain ⟨e9, e10, e11, e12, e13⟩ := id hNo
  obtain ⟨g14, e14, hg0, hg1, e15⟩ := id hMi
  obtain ⟨e16, e17, e18, hsn, hsf, hst⟩ := id hSe
  obtain ⟨c19, g20, e19, e20⟩ := id hTe
  obtain ⟨w, pl, y, hwk⟩ := id hWk
  obtain ⟨ftv, fnv, fup, flo, g29, e28, e29⟩ := id hFa
  obtain ⟨hdn, hw9, hnf, hca4, hinj, hcac, hfr6, hdeed⟩ := id hOK
  have qj := isIx_nI (show cu < 2 ^ 31 by omega) hj
  refine mOk_w (L := [some (.ref 0), some (vN j), some (vN 0)]) pn_X7 rfl (Nat.le_of_ble_eq_true rfl) rfl ?_
  refine mG_aload_n dX7_cube_0 rfl ?_
  refine mG_iload_n dX7_cube_1 rfl ?_
  refine mG_cv1 vX7_94 dX7_cube_2 (mLe_of rfl) (Nat.le_of_ble_eq_true rfl) e0 (Nat.le_of_ble_eq_true rfl) (ok_X7_isCube e0 e3) ?_
  refine mG_if_neB dX7_cube_5 (fun c5 => ?_) (fun c5 => Bool.noConfusion (c5.symm.trans qj))
  refine mG_iload_n dX7_cube_10 rfl ?_
  refine mG_tableIn (off := 29) (tgt := 40) dX7_cube_11 (by decide) (by decide) (by decide) (by decide) ?_
  refine mG_aload_n dX7_cube_40 rfl ?_
  refine mG_get fX7_29 dX7_cube_41 e0 (Nat.le_of_ble_eq_true rfl) rfl ?_
  refine mG_iload_n dX7_cube_44 rfl ?_
  refine mG_cv1 vX7_105 dX7_cube_45 (mLe_of rfl) (Nat.le_of_ble_eq_true rfl) e9 (Nat.le_of_ble_eq_true rfl) (ok_X3_placeOf e9 e11 (by omega) (by omega) hpc (fun i hi z => absurd (hinj i p (by omega) hp (z.trans hpc.symm)) (by omega)) hca4) ?_
  exact mG_iret dX7_cube_48 rfl ⟨rfl, H, fun _ _ => rfl⟩
set_option maxRecDepth 100000 in
set_option maxHeartbeats 4000000 in
theorem pc_cube_1 {E : mE} {h : mH} {n : Nat} {tx : Nat → Nat} {cu dc : Nat} {bo : Bool} {td : Nat → Nat} {dn wk : Nat} {nf ca fr ds : Nat → Nat} {x0 x1 : mSd} {kp : Nat → Bool} {sn : Nat} {sf st : Nat → Nat} {tr : Int64} {j : Nat} (H : CI h n tx cu dc bo td dn wk nf ca fr ds x0 x1 kp sn sf st tr) (hj : j < cu) : mOk E 5 zX7_cube [.ref 0, vN j, vN 1] h (cQ h (vN (fr j)) (CI · n tx cu dc bo td dn wk nf ca fr ds x0 x1 kp sn sf st tr)) := by
  obtain ⟨e0, hRd, hTo, hDr, hNo, hI0, hI1, hMi, hSe, hTe, hWk, hFa, hOK, hK0, hK1⟩ := id H
  obtain ⟨t, e1, e2, ht, hn, htx⟩ := id hRd
  obtain ⟨it, tf, e3, e4, e5, hcu, hdc, htd⟩ := id hTo
  obtain ⟨cu6, dc6, it6, bo6, df, dy, e6, e7, e8⟩ := id hDr
  obtain ⟨e9, e10, e11, e12, e13⟩ := id hNo
  obtain ⟨g14, e14, hg0, hg1, e15⟩ := id hMi
  obtain ⟨e16, e17, e18, hsn, hsf, hst⟩ := id hSe
  obtain ⟨c19, g20, e19, e20⟩ := id hTe
  obtain ⟨w, pl, y, hwk⟩ := id hWk
  obtain ⟨ftv, fnv, fup, flo, g29, e28, e29⟩ := id hFa
  obtain ⟨hdn, hw9, hnf, hca4, hinj, hcac, hfr6, hdeed⟩ := id hOK
  have qj := isIx_nI (show cu < 2 ^ 31 by omega) hj
  refine mOk_w (L := [some (.ref 0), some (vN j), some (vN 1)]) pn_X7 rfl (Nat.le_of_ble_eq_true rfl) rfl ?_
  refine mG_aload_n dX7_cube_0 rfl ?_
  refine mG_iload_n dX7_cube_1 rfl ?_
  refine mG_cv1 vX7_94 dX7_cube_2 (mLe_of rfl) (Nat.le_of_ble_eq_true rfl) e0 (Nat.le_of_ble_eq_true rfl) (ok_X7_isCube e0 e3) ?_
  refine mG_if_neB dX7_cube_5 (fun c5 => ?_) (fun c5 => Bool.noConfusion (c5.symm.trans qj))
  refine mG_iload_n dX7_cube_10 rfl ?_
  refine mG_tableIn (off := 38) (tgt := 49) dX7_cube_11 (by decide) (by decide) (by decide) (by decide) ?_
  refine mG_aload_n dX7_cube_49 rfl ?_
  refine mG_get fX7_29 dX7_cube_50 e0 (Nat.le_of_ble_eq_true rfl) rfl ?_
  refine mG_get fX7_109 dX7_cube_53 e9 (Nat.le_of_ble_eq_true rfl) rfl ?_
  refine mG_iload_n dX7_cube_56 rfl ?_
  refine mG_ialdA dX7_cube_57 e12 (Nat.le_of_ble_eq_true rfl) (by decide) (by omega) ?_
  exact mG_iret dX7_cube_58 rfl ⟨rfl, H, fun _ _ => rfl⟩
set_option maxRecDepth 100000 in
set_option maxHeartbeats 4000000 in
theorem pc_cube_2 {E : mE} {h : mH} {n : Nat} {tx : Nat → Nat} {cu dc : Nat} {bo : Bool} {td : Nat → Nat} {dn wk : Nat} {nf ca fr ds : Nat → Nat} {x0 x1 : mSd} {kp : Nat → Bool} {sn : Nat} {sf st : Nat → Nat} {tr : Int64} {j : Nat} (H : CI h n tx cu dc bo td dn wk nf ca fr ds x0 x1 kp sn sf st tr) (hj : j < cu) : mOk E 5 zX7_cube [.ref 0, vN j, vN 2] h (cQ h (vN (fgs nf j 6)) (CI · n tx cu dc bo td dn wk nf ca fr ds x0 x1 kp sn sf st tr)) := by
  obtain ⟨e0, hRd, hTo, hDr, hNo, hI0, hI1, hMi, hSe, hTe, hWk, hFa, hOK, hK0, hK1⟩ := id H
  obtain ⟨t, e1, e2, ht, hn, htx⟩ := id hRd
  obtain ⟨it, tf, e3, e4, e5, hcu, hdc, htd⟩ := id hTo
  obtain ⟨cu6, dc6, it6, bo6, df, dy, e6, e7, e8⟩ := id hDr
  obtain ⟨e9, e10, e11, e12, e13⟩ := id hNo
  obtain ⟨g14, e14, hg0, hg1, e15⟩ := id hMi
  obtain ⟨e16, e17, e18, hsn, hsf, hst⟩ := id hSe
  obtain ⟨c19, g20, e19, e20⟩ := id hTe
  obtain ⟨w, pl, y, hwk⟩ := id hWk
  obtain ⟨ftv, fnv, fup, flo, g29, e28, e29⟩ := id hFa
  obtain ⟨hdn, hw9, hnf, hca4, hinj, hcac, hfr6, hdeed⟩ := id hOK
  have qj := isIx_nI (show cu < 2 ^ 31 by omega) hj
  refine mOk_w (L := [some (.ref 0), some (vN j), some (vN 2)]) pn_X7 rfl (Nat.le_of_ble_eq_true rfl) rfl ?_
  refine mG_aload_n dX7_cube_0 rfl ?_
  refine mG_iload_n dX7_cube_1 rfl ?_
  refine mG_cv1 vX7_94 dX7_cube_2 (mLe_of rfl) (Nat.le_of_ble_eq_true rfl) e0 (Nat.le_of_ble_eq_true rfl) (ok_X7_isCube e0 e3) ?_
  refine mG_if_neB dX7_cube_5 (fun c5 => ?_) (fun c5 => Bool.noConfusion (c5.symm.trans qj))
  refine mG_iload_n dX7_cube_10 rfl ?_
  refine mG_tableIn (off := 48) (tgt := 59) dX7_cube_11 (by decide) (by decide) (by decide) (by decide) ?_
  refine mG_aload_n dX7_cube_59 rfl ?_
  refine mG_get fX7_29 dX7_cube_60 e0 (Nat.le_of_ble_eq_true rfl) rfl ?_
  refine mG_iload_n dX7_cube_63 rfl ?_
  refine mG_cv1 vX7_112 dX7_cube_64 (mLe_of rfl) (Nat.le_of_ble_eq_true rfl) e9 (Nat.le_of_ble_eq_true rfl) (ok_X3_figuresOf e9 e10 (by omega) (fun i hi => hnf _ (by omega))) ?_
  exact mG_iret dX7_cube_67 rfl ⟨rfl, H, fun _ _ => rfl⟩
set_option maxRecDepth 100000 in
set_option maxHeartbeats 4000000 in
theorem pc_cube_3 {E : mE} {h : mH} {n : Nat} {tx : Nat → Nat} {cu dc : Nat} {bo : Bool} {td : Nat → Nat} {dn wk : Nat} {nf ca fr ds : Nat → Nat} {x0 x1 : mSd} {kp : Nat → Bool} {sn : Nat} {sf st : Nat → Nat} {tr : Int64} {j : Nat} (H : CI h n tx cu dc bo td dn wk nf ca fr ds x0 x1 kp sn sf st tr) (hj : j < cu) : mOk E 5 zX7_cube [.ref 0, vN j, vN 3] h (cQ h (vN (snF nf td bo cu dc j (dd (cwT nf bo (-1) cu) td cu dc) 6)) (CI · n tx cu dc bo td dn wk nf ca fr ds x0 x1 kp sn sf st tr)) := by
  obtain ⟨e0, hRd, hTo, hDr, hNo, hI0, hI1, hMi, hSe, hTe, hWk, hFa, hOK, hK0, hK1⟩ := id H
  obtain ⟨t, e1, e2, ht, hn, htx⟩ := id hRd
  obtain ⟨it, tf, e3, e4, e5, hcu, hdc, htd⟩ := id hTo
  obtain ⟨cu6, dc6, it6, bo6, df, dy, e6, e7, e8⟩ := id hDr
  obtain ⟨e9, e10, e11, e12, e13⟩ := id hNo
  obtain ⟨g14, e14, hg0, hg1, e15⟩ := id hMi
  obtain ⟨e16, e17, e18, hsn, hsf, hst⟩ := id hSe
  obtain ⟨c19, g20, e19, e20⟩ := id hTe
  obtain ⟨w, pl, y, hwk⟩ := id hWk
  obtain ⟨ftv, fnv, fup, flo, g29, e28, e29⟩ := id hFa
  obtain ⟨hdn, hw9, hnf, hca4, hinj, hcac, hfr6, hdeed⟩ := id hOK
  have qj := isIx_nI (show cu < 2 ^ 31 by omega) hj
  have h10 := ten_le hcu
  refine mOk_w (L := [some (.ref 0), some (vN j), some (vN 3)]) pn_X7 rfl (Nat.le_of_ble_eq_true rfl) rfl ?_
  refine mG_aload_n dX7_cube_0 rfl ?_
  refine mG_iload_n dX7_cube_1 rfl ?_
  refine mG_cv1 vX7_94 dX7_cube_2 (mLe_of rfl) (Nat.le_of_ble_eq_true rfl) e0 (Nat.le_of_ble_eq_true rfl) (ok_X7_isCube e0 e3) ?_
  refine mG_if_neB dX7_cube_5 (fun c5 => ?_) (fun c5 => Bool.noConfusion (c5.symm.trans qj))
  refine mG_iload_n dX7_cube_10 rfl ?_
  refine mG_tableIn (off := 57) (tgt := 68) dX7_cube_11 (by decide) (by decide) (by decide) (by decide) ?_
  refine mG_aload_n dX7_cube_68 rfl ?_
  refine mG_iload_n dX7_cube_69 rfl ?_
  refine mG_cq1 vX7_115 dX7_cube_70 (mLe_of rfl) (Nat.le_of_ble_eq_true rfl) e0 (Nat.le_of_ble_eq_true rfl) (ok_X7_need e0 e3 e5 e9 e10 e19 e20 hcu hj hnf hdc (fun i hi => by have := htd i hi; omega)) (fun r h' q => ?_)
  obtain ⟨rfl, g, rfl⟩ := q
  exact mG_iret dX7_cube_73 rfl ⟨rfl, ⟨e0, hRd, hTo, hDr, hNo, hI0, hI1, hMi, hSe, ⟨_, _, rfl, rfl⟩, hWk, hFa, hOK, hK0, hK1⟩, fun b hb => by simp only [hT, mU, show ¬ b = 19 from by omega, show ¬ b = 20 from by omega, if_false]⟩
set_option maxRecDepth 100000 in
set_option maxHeartbeats 4000000 in
theorem pc_place_bad {E : mE} {h : mH} {n : Nat} {tx : Nat → Nat} {cu dc : Nat} {bo : Bool} {td : Nat → Nat} {dn wk : Nat} {nf ca fr ds : Nat → Nat} {x0 x1 : mSd} {kp : Nat → Bool} {sn : Nat} {sf st : Nat → Nat} {tr : Int64} {c : Int32} (H : CI h n tx cu dc bo td dn wk nf ca fr ds x0 x1 kp sn sf st tr) (hb : isIx c cu = false) : mOk E 2 zX7_place [.ref 0, .int c] h (cQ h (.int (-1)) (CI · n tx cu dc bo td dn wk nf ca fr ds x0 x1 kp sn sf st tr)) := by
  obtain ⟨e0, hRd, hTo, hDr, hNo, hI0, hI1, hMi, hSe, hTe, hWk, hFa, hOK, hK0, hK1⟩ := id H
  obtain ⟨t, e1, e2, ht, hn, htx⟩ := id hRd
  obtain ⟨it, tf, e3, e4, e5, hcu, hdc, htd⟩ := id hTo
  obtain ⟨cu6, dc6, it6, bo6, df, dy, e6, e7, e8⟩ := id hDr
  obtain ⟨e9, e10, e11, e12, e13⟩ := id hNo
  obtain ⟨g14, e14, hg0, hg1, e15⟩ := id hMi
  obtain ⟨e16, e17, e18, hsn, hsf, hst⟩ := id hSe
  obtain ⟨c19, g20, e19, e20⟩ := id hTe
  obtain ⟨w, pl, y, hwk⟩ := id hWk
  obtain ⟨ftv, fnv, fup, flo, g29, e28, e29⟩ := id hFa
  obtain ⟨hdn, hw9, hnf, hca4, hinj, hcac, hfr6, hdeed⟩ := id hOK
  refine mOk_w (L := [some (.ref 0), some (.int c)]) pn_X7 rfl (Nat.le_of_ble_eq_true rfl) rfl ?_
  refine mG_aload_n dX7_place_0 rfl ?_
  refine mG_iload_n dX7_place_1 rfl ?_
  refine mG_cv1 vX7_118 dX7_place_2 (mLe_of rfl) (Nat.le_of_ble_eq_true rfl) e0 (Nat.le_of_ble_eq_true rfl) (ok_X7_isPlace e0 e3) ?_
  refine mG_if_eqB dX7_place_5 (fun c5 => ?_) (fun c5 => Bool.noConfusion (hb.symm.trans c5))
  refine mG_iconst (v := (-1)) dX7_place_20 (by decide) ?_
  exact mG_iret dX7_place_21 rfl ⟨rfl, H, fun _ _ => rfl⟩
set_option maxRecDepth 100000 in
set_option maxHeartbeats 4000000 in
theorem pc_place_ok {E : mE} {h : mH} {n : Nat} {tx : Nat → Nat} {cu dc : Nat} {bo : Bool} {td : Nat → Nat} {dn wk : Nat} {nf ca fr ds : Nat → Nat} {x0 x1 : mSd} {kp : Nat → Bool} {sn : Nat} {sf st : Nat → Nat} {tr : Int64} {j : Nat} (H : CI h n tx cu dc bo td dn wk nf ca fr ds x0 x1 kp sn sf st tr) (hj : j < cu) : mOk E 2 zX7_place [.ref 0, vN j] h (cQ h (vN (ca j)) (CI · n tx cu dc bo td dn wk nf ca fr ds x0 x1 kp sn sf st tr)) := by
  obtain ⟨e0, hRd, hTo, hDr, hNo, hI0, hI1, hMi, hSe, hTe, hWk, hFa, hOK, hK0, hK1⟩ := id H
  obtain ⟨t, e1, e2, ht, hn, htx⟩ := id hRd
  obtain ⟨it, tf, e3, e4, e5, hcu, hdc, htd⟩ := id hTo
  obtain ⟨cu6, dc6, it6, bo6, df, dy, e6, e7, e8⟩ := id hDr
  obtain ⟨e9, e10, e11, e12, e13⟩ := id hNo
  obtain ⟨g14, e14, hg0, hg1, e15⟩ := id hMi
  obtain ⟨e16, e17, e18, hsn, hsf, hst⟩ := id hSe
  obtain ⟨c19, g20, e19, e20⟩ := id hTe
  obtain ⟨w, pl, y, hwk⟩ := id hWk
  obtain ⟨ftv, fnv, fup, flo, g29, e28, e29⟩ := id hFa
  obtain ⟨hdn, hw9, hnf, hca4, hinj, hcac, hfr6, hdeed⟩ := id hOK
  have qj := isIx_nI (show cu < 2 ^ 31 by omega) hj
  refine mOk_w (L := [some (.ref 0), some (vN j)]) pn_X7 rfl (Nat.le_of_ble_eq_true rfl) rfl ?_
  refine mG_aload_n dX7_place_0 rfl ?_
  refine mG_iload_n dX7_place_1 rfl ?_
  refine mG_cv1 vX7_118 dX7_place_2 (mLe_of rfl) (Nat.le_of_ble_eq_true rfl) e0 (Nat.le_of_ble_eq_true rfl) (ok_X7_isPlace e0 e3) ?_
  refine mG_if_eqB dX7_place_5 (fun c5 => Bool.noConfusion (c5.symm.trans qj)) (fun c5 => ?_)
  refine mG_aload_n dX7_place_8 rfl ?_
  refine mG_get fX7_29 dX7_place_9 e0 (Nat.le_of_ble_eq_true rfl) rfl ?_
  refine mG_get fX7_121 dX7_place_12 e9 (Nat.le_of_ble_eq_true rfl) rfl ?_
  refine mG_iload_n dX7_place_15 rfl ?_
  refine mG_ialdA dX7_place_16 e11 (Nat.le_of_ble_eq_true rfl) (by decide) (by omega) ?_
  refine mG_goto dX7_place_17 ?_
  exact mG_iret dX7_place_21 rfl ⟨rfl, H, fun _ _ => rfl⟩
set_option maxRecDepth 100000 in
set_option maxHeartbeats 4000000 in
theorem pc_day_bad {E : mE} {h : mH} {n : Nat} {tx : Nat → Nat} {cu dc : Nat} {bo : Bool} {td : Nat → Nat} {dn wk : Nat} {nf ca fr ds : Nat → Nat} {x0 x1 : mSd} {kp : Nat → Bool} {sn : Nat} {sf st : Nat → Nat} {tr : Int64} {c : Int32} (H : CI h n tx cu dc bo td dn wk nf ca fr ds x0 x1 kp sn sf st tr) (hb : isIx c dc = false) : mOk E 2 zX7_day [.ref 0, .int c] h (cQ h (.int (-1)) (CI · n tx cu dc bo td dn wk nf ca fr ds x0 x1 kp sn sf st tr)) := by
  obtain ⟨e0, hRd, hTo, hDr, hNo, hI0, hI1, hMi, hSe, hTe, hWk, hFa, hOK, hK0, hK1⟩ := id H
  obtain ⟨t, e1, e2, ht, hn, htx⟩ := id hRd
  obtain ⟨it, tf, e3, e4, e5, hcu, hdc, htd⟩ := id hTo
  obtain ⟨cu6, dc6, it6, bo6, df, dy, e6, e7, e8⟩ := id hDr
  obtain ⟨e9, e10, e11, e12, e13⟩ := id hNo
  obtain ⟨g14, e14, hg0, hg1, e15⟩ := id hMi
  obtain ⟨e16, e17, e18, hsn, hsf, hst⟩ := id hSe
  obtain ⟨c19, g20, e19, e20⟩ := id hTe
  obtain ⟨w, pl, y, hwk⟩ := id hWk
  obtain ⟨ftv, fnv, fup, flo, g29, e28, e29⟩ := id hFa
  obtain ⟨hdn, hw9, hnf, hca4, hinj, hcac, hfr6, hdeed⟩ := id hOK
  refine mOk_w (L := [some (.ref 0), some (.int c)]) pn_X7 rfl (Nat.le_of_ble_eq_true rfl) rfl ?_
  refine mG_iload_n dX7_day_0 rfl ?_
  refine mG_if_lt dX7_day_1 (fun c1 => ?_) (fun c1 => ?_)
  · refine mG_iconst (v := (-1)) dX7_day_27 (by decide) ?_
    exact mG_iret dX7_day_28 rfl ⟨rfl, H, fun _ _ => rfl⟩
  · refine mG_iload_n dX7_day_4 rfl ?_
    refine mG_aload_n dX7_day_5 rfl ?_
    refine mG_get fX7_19 dX7_day_6 e0 (Nat.le_of_ble_eq_true rfl) rfl ?_
    refine mG_get fX7_124 dX7_day_9 e3 (Nat.le_of_ble_eq_true rfl) rfl ?_
    refine mG_icmp_ge dX7_day_12 (fun c12 => ?_) (fun c12 => (by
    rcases ix_no (by omega) hb with q | q
    · exact absurd q c1
    · exact absurd q c12))
    refine mG_iconst (v := (-1)) dX7_day_27 (by decide) ?_
    exact mG_iret dX7_day_28 rfl ⟨rfl, H, fun _ _ => rfl⟩
set_option maxRecDepth 100000 in
set_option maxHeartbeats 4000000 in
theorem pc_day_ok {E : mE} {h : mH} {n : Nat} {tx : Nat → Nat} {cu dc : Nat} {bo : Bool} {td : Nat → Nat} {dn wk : Nat} {nf ca fr ds : Nat → Nat} {x0 x1 : mSd} {kp : Nat → Bool} {sn : Nat} {sf st : Nat → Nat} {tr : Int64} {j : Nat} (H : CI h n tx cu dc bo td dn wk nf ca fr ds x0 x1 kp sn sf st tr) (hj : j < dc) : mOk E 2 zX7_day [.ref 0, vN j] h (cQ h (vN (td j)) (CI · n tx cu dc bo td dn wk nf ca fr ds x0 x1 kp sn sf st tr)) := by
  obtain ⟨e0, hRd, hTo, hDr, hNo, hI0, hI1, hMi, hSe, hTe, hWk, hFa, hOK, hK0, hK1⟩ := id H
  obtain ⟨t, e1, e2, ht, hn, htx⟩ := id hRd
  obtain ⟨it, tf, e3, e4, e5, hcu, hdc, htd⟩ := id hTo
  obtain ⟨cu6, dc6, it6, bo6, df, dy, e6, e7, e8⟩ := id hDr
  obtain ⟨e9, e10, e11, e12, e13⟩ := id hNo
  obtain ⟨g14, e14, hg0, hg1, e15⟩ := id hMi
  obtain ⟨e16, e17, e18, hsn, hsf, hst⟩ := id hSe
  obtain ⟨c19, g20, e19, e20⟩ := id hTe
  obtain ⟨w, pl, y, hwk⟩ := id hWk
  obtain ⟨ftv, fnv, fup, flo, g29, e28, e29⟩ := id hFa
  obtain ⟨hdn, hw9, hnf, hca4, hinj, hcac, hfr6, hdeed⟩ := id hOK
  refine mOk_w (L := [some (.ref 0), some (vN j)]) pn_X7 rfl (Nat.le_of_ble_eq_true rfl) rfl ?_
  refine mG_iload_n dX7_day_0 rfl ?_
  refine mG_if_ltN dX7_day_1 (by omega) (fun c1 => c1.elim) (fun c1 => ?_)
  refine mG_iload_n dX7_day_4 rfl ?_
  refine mG_aload_n dX7_day_5 rfl ?_
  refine mG_get fX7_19 dX7_day_6 e0 (Nat.le_of_ble_eq_true rfl) rfl ?_
  refine mG_get fX7_124 dX7_day_9 e3 (Nat.le_of_ble_eq_true rfl) rfl ?_
  refine mG_icmp_geN dX7_day_12 (by omega) (by omega) (fun c12 => absurd c12 (by omega)) (fun c12 => ?_)
  refine mG_aload_n dX7_day_15 rfl ?_
  refine mG_get fX7_19 dX7_day_16 e0 (Nat.le_of_ble_eq_true rfl) rfl ?_
  refine mG_get fX7_127 dX7_day_19 e3 (Nat.le_of_ble_eq_true rfl) rfl ?_
  refine mG_iload_n dX7_day_22 rfl ?_
  refine mG_ialdA dX7_day_23 e5 (Nat.le_of_ble_eq_true rfl) (by decide) (by omega) ?_
  refine mG_goto dX7_day_24 ?_
  exact mG_iret dX7_day_28 rfl ⟨rfl, H, fun _ _ => rfl⟩
set_option maxRecDepth 100000 in
set_option maxHeartbeats 4000000 in
theorem pc_turn_bad {E : mE} {h : mH} {n : Nat} {tx : Nat → Nat} {cu dc : Nat} {bo : Bool} {td : Nat → Nat} {dn wk : Nat} {nf ca fr ds : Nat → Nat} {x0 x1 : mSd} {kp : Nat → Bool} {sn : Nat} {sf st : Nat → Nat} {tr : Int64} {c s : Int32} (H : CI h n tx cu dc bo td dn wk nf ca fr ds x0 x1 kp sn sf st tr) (hb : (isIx c cu && isIx s 6) = false) : mOk E 4 zX7_turn [.ref 0, .int c, .int s] h (cQ h (.int (-1)) (CI · n tx cu dc bo td dn wk nf ca fr ds x0 x1 kp sn sf st tr)) := by
  obtain ⟨e0, hRd, hTo, hDr, hNo, hI0, hI1, hMi, hSe, hTe, hWk, hFa, hOK, hK0, hK1⟩ := id H
  obtain ⟨t, e1, e2, ht, hn, htx⟩ := id hRd
  obtain ⟨it, tf, e3, e4, e5, hcu, hdc, htd⟩ := id hTo
  obtain ⟨cu6, dc6, it6, bo6, df, dy, e6, e7, e8⟩ := id hDr
  obtain ⟨e9, e10, e11, e12, e13⟩ := id hNo
  obtain ⟨g14, e14, hg0, hg1, e15⟩ := id hMi
  obtain ⟨e16, e17, e18, hsn, hsf, hst⟩ := id hSe
  obtain ⟨c19, g20, e19, e20⟩ := id hTe
  obtain ⟨w, pl, y, hwk⟩ := id hWk
  obtain ⟨ftv, fnv, fup, flo, g29, e28, e29⟩ := id hFa
  obtain ⟨hdn, hw9, hnf, hca4, hinj, hcac, hfr6, hdeed⟩ := id hOK
  refine mOk_w (L := [some (.ref 0), some (.int c), some (.int s)]) pn_X7 rfl (Nat.le_of_ble_eq_true rfl) rfl ?_
  refine mG_aload_n dX7_turn_0 rfl ?_
  refine mG_iload_n dX7_turn_1 rfl ?_
  refine mG_cv1 vX7_94 dX7_turn_2 (mLe_of rfl) (Nat.le_of_ble_eq_true rfl) e0 (Nat.le_of_ble_eq_true rfl) (ok_X7_isCube e0 e3) ?_
  refine mG_if_eqB dX7_turn_5 (fun c5 => ?_) (fun c5 => ?_)
  · refine mG_iconst (v := (-1)) dX7_turn_15 (by decide) ?_
    exact mG_iret dX7_turn_16 rfl ⟨rfl, H, fun _ _ => rfl⟩
  · refine mG_iload_n dX7_turn_8 rfl ?_
    refine mG_cs1 sX7_98 dX7_turn_9 (mLe_of rfl) (Nat.le_of_ble_eq_true rfl) (ok_X7_isSide) ?_
    refine mG_if_neB dX7_turn_12 (fun c12 => (by rw [c5, c12] at hb; cases hb)) (fun c12 => ?_)
    refine mG_iconst (v := (-1)) dX7_turn_15 (by decide) ?_
    exact mG_iret dX7_turn_16 rfl ⟨rfl, H, fun _ _ => rfl⟩
set_option maxRecDepth 100000 in
set_option maxHeartbeats 4000000 in
theorem pc_turn_same {E : mE} {h : mH} {n : Nat} {tx : Nat → Nat} {cu dc : Nat} {bo : Bool} {td : Nat → Nat} {dn wk : Nat} {nf ca fr ds : Nat → Nat} {x0 x1 : mSd} {kp : Nat → Bool} {sn : Nat} {sf st : Nat → Nat} {tr : Int64} {j k : Nat} (H : CI h n tx cu dc bo td dn wk nf ca fr ds x0 x1 kp sn sf st tr) (hj : j < cu) (hk : k < 6) (hs : fr j = k) : mOk E 4 zX7_turn [.ref 0, vN j, vN k] h (cQ h (.int (-2)) (CI · n tx cu dc bo td dn wk nf ca fr ds x0 x1 kp sn sf st tr)) := by
  obtain ⟨e0, hRd, hTo, hDr, hNo, hI0, hI1, hMi, hSe, hTe, hWk, hFa, hOK, hK0, hK1⟩ := id H
  obtain ⟨t, e1, e2, ht, hn, htx⟩ := id hRd
  obtain ⟨it, tf, e3, e4, e5, hcu, hdc, htd⟩ := id hTo
  obtain ⟨cu6, dc6, it6, bo6, df, dy, e6, e7, e8⟩ := id hDr
  obtain ⟨e9, e10, e11, e12, e13⟩ := id hNo
  obtain ⟨g14, e14, hg0, hg1, e15⟩ := id hMi
  obtain ⟨e16, e17, e18, hsn, hsf, hst⟩ := id hSe
  obtain ⟨c19, g20, e19, e20⟩ := id hTe
  obtain ⟨w, pl, y, hwk⟩ := id hWk
  obtain ⟨ftv, fnv, fup, flo, g29, e28, e29⟩ := id hFa
  obtain ⟨hdn, hw9, hnf, hca4, hinj, hcac, hfr6, hdeed⟩ := id hOK
  have qj := isIx_nI (show cu < 2 ^ 31 by omega) hj
  have qk := isIx_nI (show 6 < 2 ^ 31 by decide) hk
  have hf6 := hfr6 j (by omega)
  refine mOk_w (L := [some (.ref 0), some (vN j), some (vN k)]) pn_X7 rfl (Nat.le_of_ble_eq_true rfl) rfl ?_
  refine mG_aload_n dX7_turn_0 rfl ?_
  refine mG_iload_n dX7_turn_1 rfl ?_
  refine mG_cv1 vX7_94 dX7_turn_2 (mLe_of rfl) (Nat.le_of_ble_eq_true rfl) e0 (Nat.le_of_ble_eq_true rfl) (ok_X7_isCube e0 e3) ?_
  refine mG_if_eqB dX7_turn_5 (fun c5 => Bool.noConfusion (c5.symm.trans qj)) (fun c5 => ?_)
  refine mG_iload_n dX7_turn_8 rfl ?_
  refine mG_cs1 sX7_98 dX7_turn_9 (mLe_of rfl) (Nat.le_of_ble_eq_true rfl) (ok_X7_isSide) ?_
  refine mG_if_neB dX7_turn_12 (fun c12 => ?_) (fun c12 => Bool.noConfusion (c12.symm.trans qk))
  refine mG_aload_n dX7_turn_17 rfl ?_
  refine mG_get fX7_29 dX7_turn_18 e0 (Nat.le_of_ble_eq_true rfl) rfl ?_
  refine mG_get fX7_109 dX7_turn_21 e9 (Nat.le_of_ble_eq_true rfl) rfl ?_
  refine mG_iload_n dX7_turn_24 rfl ?_
  refine mG_ialdA dX7_turn_25 e12 (Nat.le_of_ble_eq_true rfl) (by decide) (by omega) ?_
  refine mG_iload_n dX7_turn_26 rfl ?_
  refine mG_icmp_neN dX7_turn_27 (by omega) (by omega) (fun c27 => absurd hs c27) (fun c27 => ?_)
  refine mG_bipush (v := (-2)) dX7_turn_30 (by decide) ?_
  exact mG_iret dX7_turn_32 rfl ⟨rfl, H, fun _ _ => rfl⟩
set_option maxRecDepth 100000 in
set_option maxHeartbeats 4000000 in
theorem pc_turn_ok {E : mE} {h : mH} {n : Nat} {tx : Nat → Nat} {cu dc : Nat} {bo : Bool} {td : Nat → Nat} {dn wk : Nat} {nf ca fr ds : Nat → Nat} {x0 x1 : mSd} {kp : Nat → Bool} {sn : Nat} {sf st : Nat → Nat} {tr : Int64} {j k : Nat} (H : CI h n tx cu dc bo td dn wk nf ca fr ds x0 x1 kp sn sf st tr) (hj : j < cu) (hk : k < 6) (hs : ¬ fr j = k) : mOk E 4 zX7_turn [.ref 0, vN j, vN k] h (cQ h (vN (min (wk + tW (fr j) k) 9999)) (CI · n tx cu dc bo td (dn0 dn + 1) (min (wk + tW (fr j) k) 9999) nf ca (mUp fr j k) (ds1 dn ds 0 j (fr j) wk) x0 x1 kp sn sf st tr)) := by
  obtain ⟨e0, hRd, hTo, hDr, hNo, hI0, hI1, hMi, hSe, hTe, hWk, hFa, hOK, hK0, hK1⟩ := id H
  obtain ⟨t, e1, e2, ht, hn, htx⟩ := id hRd
  obtain ⟨it, tf, e3, e4, e5, hcu, hdc, htd⟩ := id hTo
  obtain ⟨cu6, dc6, it6, bo6, df, dy, e6, e7, e8⟩ := id hDr
  obtain ⟨e9, e10, e11, e12, e13⟩ := id hNo
  obtain ⟨g14, e14, hg0, hg1, e15⟩ := id hMi
  obtain ⟨e16, e17, e18, hsn, hsf, hst⟩ := id hSe
  obtain ⟨c19, g20, e19, e20⟩ := id hTe
  obtain ⟨w, pl, y, hwk⟩ := id hWk
  obtain ⟨ftv, fnv, fup, flo, g29, e28, e29⟩ := id hFa
  obtain ⟨hdn, hw9, hnf, hca4, hinj, hcac, hfr6, hdeed⟩ := id hOK
  have qj := isIx_nI (show cu < 2 ^ 31 by omega) hj
  have qk := isIx_nI (show 6 < 2 ^ 31 by decide) hk
  have hf6 := hfr6 j (by omega)
  refine mOk_w (L := [some (.ref 0), some (vN j), some (vN k)]) pn_X7 rfl (Nat.le_of_ble_eq_true rfl) rfl ?_
  refine mG_aload_n dX7_turn_0 rfl ?_
  refine mG_iload_n dX7_turn_1 rfl ?_
  refine mG_cv1 vX7_94 dX7_turn_2 (mLe_of rfl) (Nat.le_of_ble_eq_true rfl) e0 (Nat.le_of_ble_eq_true rfl) (ok_X7_isCube e0 e3) ?_
  refine mG_if_eqB dX7_turn_5 (fun c5 => Bool.noConfusion (c5.symm.trans qj)) (fun c5 => ?_)
  refine mG_iload_n dX7_turn_8 rfl ?_
  refine mG_cs1 sX7_98 dX7_turn_9 (mLe_of rfl) (Nat.le_of_ble_eq_true rfl) (ok_X7_isSide) ?_
  refine mG_if_neB dX7_turn_12 (fun c12 => ?_) (fun c12 => Bool.noConfusion (c12.symm.trans qk))
  refine mG_aload_n dX7_turn_17 rfl ?_
  refine mG_get fX7_29 dX7_turn_18 e0 (Nat.le_of_ble_eq_true rfl) rfl ?_
  refine mG_get fX7_109 dX7_turn_21 e9 (Nat.le_of_ble_eq_true rfl) rfl ?_
  refine mG_iload_n dX7_turn_24 rfl ?_
  refine mG_ialdA dX7_turn_25 e12 (Nat.le_of_ble_eq_true rfl) (by decide) (by omega) ?_
  refine mG_iload_n dX7_turn_26 rfl ?_
  refine mG_icmp_neN dX7_turn_27 (by omega) (by omega) (fun c27 => ?_) (fun c27 => absurd c27 hs)
  refine mG_aload_n dX7_turn_33 rfl ?_
  refine mG_get fX7_29 dX7_turn_34 e0 (Nat.le_of_ble_eq_true rfl) rfl ?_
  refine mG_iload_n dX7_turn_37 rfl ?_
  refine mG_iload_n dX7_turn_38 rfl ?_
  refine mG_cw2 vX7_130 dX7_turn_39 (mLe_of rfl) (Nat.le_of_ble_eq_true rfl) e9 (Nat.le_of_ble_eq_true rfl) (ok_X3_turnCube e9 e12 e13 hdn hw9 (by omega) hf6 hk) ?_
  refine mG_aload_n dX7_turn_42 rfl ?_
  refine mG_get fX7_29 dX7_turn_43 e0 (Nat.le_of_ble_eq_true rfl) rfl ?_
  refine mG_get fX7_134 dX7_turn_46 rfl (Nat.le_of_ble_eq_true rfl) rfl ?_
  exact mG_iret dX7_turn_49 rfl ⟨rfl, ⟨e0, hRd, hTo, hDr, ⟨rfl, e10, e11, rfl, rfl⟩, hI0, hI1, hMi, hSe, hTe, hWk, hFa, ⟨by have := dn0_lt dn; omega, by omega, hnf, hca4, hinj, hcac, fun i hi => by
      by_cases q : i = j
      · rw [q, mUp_eq]; exact hk
      · rw [mUp_ne _ _ q]; exact hfr6 i hi, deeds_ok hdn hdeed hw9 (Or.inl ⟨rfl, hj, hf6⟩)⟩, hK0, hK1⟩, fun b hb => by simp only [mU, show ¬ b = 9 from by omega, show ¬ b = 12 from by omega, show ¬ b = 13 from by omega, if_false]⟩
set_option maxRecDepth 100000 in
set_option maxHeartbeats 4000000 in
theorem pc_changes_bad {E : mE} {h : mH} {n : Nat} {tx : Nat → Nat} {cu dc : Nat} {bo : Bool} {td : Nat → Nat} {dn wk : Nat} {nf ca fr ds : Nat → Nat} {x0 x1 : mSd} {kp : Nat → Bool} {sn : Nat} {sf st : Nat → Nat} {tr : Int64} {c s : Int32} (H : CI h n tx cu dc bo td dn wk nf ca fr ds x0 x1 kp sn sf st tr) (hb : isIx c cu = false ∨ isIx s cu = false ∨ c = s) : mOk E 4 zX7_changes [.ref 0, .int c, .int s] h (cQ h (.int (-1)) (CI · n tx cu dc bo td dn wk nf ca fr ds x0 x1 kp sn sf st tr)) := by
  obtain ⟨e0, hRd, hTo, hDr, hNo, hI0, hI1, hMi, hSe, hTe, hWk, hFa, hOK, hK0, hK1⟩ := id H
  obtain ⟨t, e1, e2, ht, hn, htx⟩ := id hRd
  obtain ⟨it, tf, e3, e4, e5, hcu, hdc, htd⟩ := id hTo
  obtain ⟨cu6, dc6, it6, bo6, df, dy, e6, e7, e8⟩ := id hDr
  obtain ⟨e9, e10, e11, e12, e13⟩ := id hNo
  obtain ⟨g14, e14, hg0, hg1, e15⟩ := id hMi
  obtain ⟨e16, e17, e18, hsn, hsf, hst⟩ := id hSe
  obtain ⟨c19, g20, e19, e20⟩ := id hTe
  obtain ⟨w, pl, y, hwk⟩ := id hWk
  obtain ⟨ftv, fnv, fup, flo, g29, e28, e29⟩ := id hFa
  obtain ⟨hdn, hw9, hnf, hca4, hinj, hcac, hfr6, hdeed⟩ := id hOK
  refine mOk_w (L := [some (.ref 0), some (.int c), some (.int s)]) pn_X7 rfl (Nat.le_of_ble_eq_true rfl) rfl ?_
  refine mG_aload_n dX7_changes_0 rfl ?_
  refine mG_iload_n dX7_changes_1 rfl ?_
  refine mG_cv1 vX7_118 dX7_changes_2 (mLe_of rfl) (Nat.le_of_ble_eq_true rfl) e0 (Nat.le_of_ble_eq_true rfl) (ok_X7_isPlace e0 e3) ?_
  refine mG_if_eqB dX7_changes_5 (fun c5 => ?_) (fun c5 => ?_)
  · refine mG_iconst (v := (-1)) dX7_changes_21 (by decide) ?_
    exact mG_iret dX7_changes_22 rfl ⟨rfl, H, fun _ _ => rfl⟩
  · refine mG_aload_n dX7_changes_8 rfl ?_
    refine mG_iload_n dX7_changes_9 rfl ?_
    refine mG_cv1 vX7_118 dX7_changes_10 (mLe_of rfl) (Nat.le_of_ble_eq_true rfl) e0 (Nat.le_of_ble_eq_true rfl) (ok_X7_isPlace e0 e3) ?_
    refine mG_if_eqB dX7_changes_13 (fun c13 => ?_) (fun c13 => ?_)
    · refine mG_iconst (v := (-1)) dX7_changes_21 (by decide) ?_
      exact mG_iret dX7_changes_22 rfl ⟨rfl, H, fun _ _ => rfl⟩
    · refine mG_iload_n dX7_changes_16 rfl ?_
      refine mG_iload_n dX7_changes_17 rfl ?_
      refine mG_icmp_ne dX7_changes_18 (fun c18 => (by
      rcases hb with q | q | q
      · rw [c5] at q; cases q
      · rw [c13] at q; cases q
      · exact absurd q c18)) (fun c18 => ?_)
      refine mG_iconst (v := (-1)) dX7_changes_21 (by decide) ?_
      exact mG_iret dX7_changes_22 rfl ⟨rfl, H, fun _ _ => rfl⟩
set_option maxRecDepth 100000 in
set_option maxHeartbeats 4000000 in
theorem pc_changes_ok {E : mE} {h : mH} {n : Nat} {tx : Nat → Nat} {cu dc : Nat} {bo : Bool} {td : Nat → Nat} {dn wk : Nat} {nf ca fr ds : Nat → Nat} {x0 x1 : mSd} {kp : Nat → Bool} {sn : Nat} {sf st : Nat → Nat} {tr : Int64} {j k : Nat} (H : CI h n tx cu dc bo td dn wk nf ca fr ds x0 x1 kp sn sf st tr) (hj : j < cu) (hk : k < cu) (hs : ¬ j = k) : mOk E 4 zX7_changes [.ref 0, vN j, vN k] h (cQ h (vN (min (wk + 1) 9999)) (CI · n tx cu dc bo td (dn0 dn + 1) (min (wk + 1) 9999) nf (swp ca j k) fr (ds1 dn ds 1 j k wk) x0 x1 kp sn sf st tr)) := by
  obtain ⟨e0, hRd, hTo, hDr, hNo, hI0, hI1, hMi, hSe, hTe, hWk, hFa, hOK, hK0, hK1⟩ := id H
  obtain ⟨t, e1, e2, ht, hn, htx⟩ := id hRd
  obtain ⟨it, tf, e3, e4, e5, hcu, hdc, htd⟩ := id hTo
  obtain ⟨cu6, dc6, it6, bo6, df, dy, e6, e7, e8⟩ := id hDr
  obtain ⟨e9, e10, e11, e12, e13⟩ := id hNo
  obtain ⟨g14, e14, hg0, hg1, e15⟩ := id hMi
  obtain ⟨e16, e17, e18, hsn, hsf, hst⟩ := id hSe
  obtain ⟨c19, g20, e19, e20⟩ := id hTe
  obtain ⟨w, pl, y, hwk⟩ := id hWk
  obtain ⟨ftv, fnv, fup, flo, g29, e28, e29⟩ := id hFa
  obtain ⟨hdn, hw9, hnf, hca4, hinj, hcac, hfr6, hdeed⟩ := id hOK
  have qj := isIx_nI (show cu < 2 ^ 31 by omega) hj
  have qk := isIx_nI (show cu < 2 ^ 31 by omega) hk
  have hsw := swp_ok hcu hj hk hca4 hinj hcac
  refine mOk_w (L := [some (.ref 0), some (vN j), some (vN k)]) pn_X7 rfl (Nat.le_of_ble_eq_true rfl) rfl ?_
  refine mG_aload_n dX7_changes_0 rfl ?_
  refine mG_iload_n dX7_changes_1 rfl ?_
  refine mG_cv1 vX7_118 dX7_changes_2 (mLe_of rfl) (Nat.le_of_ble_eq_true rfl) e0 (Nat.le_of_ble_eq_true rfl) (ok_X7_isPlace e0 e3) ?_
  refine mG_if_eqB dX7_changes_5 (fun c5 => Bool.noConfusion (c5.symm.trans qj)) (fun c5 => ?_)
  refine mG_aload_n dX7_changes_8 rfl ?_
  refine mG_iload_n dX7_changes_9 rfl ?_
  refine mG_cv1 vX7_118 dX7_changes_10 (mLe_of rfl) (Nat.le_of_ble_eq_true rfl) e0 (Nat.le_of_ble_eq_true rfl) (ok_X7_isPlace e0 e3) ?_
  refine mG_if_eqB dX7_changes_13 (fun c13 => Bool.noConfusion (c13.symm.trans qk)) (fun c13 => ?_)
  refine mG_iload_n dX7_changes_16 rfl ?_
  refine mG_iload_n dX7_changes_17 rfl ?_
  refine mG_icmp_neN dX7_changes_18 (by omega) (by omega) (fun c18 => ?_) (fun c18 => absurd c18 hs)
  refine mG_aload_n dX7_changes_23 rfl ?_
  refine mG_get fX7_29 dX7_changes_24 e0 (Nat.le_of_ble_eq_true rfl) rfl ?_
  refine mG_iload_n dX7_changes_27 rfl ?_
  refine mG_iload_n dX7_changes_28 rfl ?_
  refine mG_cw2 vX7_137 dX7_changes_29 (mLe_of rfl) (Nat.le_of_ble_eq_true rfl) e9 (Nat.le_of_ble_eq_true rfl) (ok_X3_changePlaces e9 e11 e13 hdn hw9 (by omega) (by omega)) ?_
  refine mG_aload_n dX7_changes_32 rfl ?_
  refine mG_get fX7_29 dX7_changes_33 e0 (Nat.le_of_ble_eq_true rfl) rfl ?_
  refine mG_get fX7_134 dX7_changes_36 rfl (Nat.le_of_ble_eq_true rfl) rfl ?_
  exact mG_iret dX7_changes_39 rfl ⟨rfl, ⟨e0, hRd, hTo, hDr, ⟨rfl, e10, rfl, e12, rfl⟩, hI0, hI1, hMi, hSe, hTe, hWk, hFa, ⟨by have := dn0_lt dn; omega, by omega, hnf, hsw.1, hsw.2.1, hsw.2.2, hfr6, deeds_ok hdn hdeed hw9 (Or.inr (Or.inl ⟨rfl, hj, hk, hs⟩))⟩, hK0, hK1⟩, fun b hb => by simp only [mU, show ¬ b = 9 from by omega, show ¬ b = 11 from by omega, show ¬ b = 13 from by omega, if_false]⟩
set_option maxRecDepth 100000 in
set_option maxHeartbeats 4000000 in
theorem pc_pastes_bad {E : mE} {h : mH} {n : Nat} {tx : Nat → Nat} {cu dc : Nat} {bo : Bool} {td : Nat → Nat} {dn wk : Nat} {nf ca fr ds : Nat → Nat} {x0 x1 : mSd} {kp : Nat → Bool} {sn : Nat} {sf st : Nat → Nat} {tr : Int64} {c s f : Int32} (H : CI h n tx cu dc bo td dn wk nf ca fr ds x0 x1 kp sn sf st tr) (hb : (isIx c cu && (isIx s 6 && isIx f 10)) = false) : mOk E 4 zX7_pastes [.ref 0, .int c, .int s, .int f] h (cQ h (.int (-1)) (CI · n tx cu dc bo td dn wk nf ca fr ds x0 x1 kp sn sf st tr)) := by
  obtain ⟨e0, hRd, hTo, hDr, hNo, hI0, hI1, hMi, hSe, hTe, hWk, hFa, hOK, hK0, hK1⟩ := id H
  obtain ⟨t, e1, e2, ht, hn, htx⟩ := id hRd
  obtain ⟨it, tf, e3, e4, e5, hcu, hdc, htd⟩ := id hTo
  obtain ⟨cu6, dc6, it6, bo6, df, dy, e6, e7, e8⟩ := id hDr
  obtain ⟨e9, e10, e11, e12, e13⟩ := id hNo
  obtain ⟨g14, e14, hg0, hg1, e15⟩ := id hMi
  obtain ⟨e16, e17, e18, hsn, hsf, hst⟩ := id hSe
  obtain ⟨c19, g20, e19, e20⟩ := id hTe
  obtain ⟨w, pl, y, hwk⟩ := id hWk
  obtain ⟨ftv, fnv, fup, flo, g29, e28, e29⟩ := id hFa
  obtain ⟨hdn, hw9, hnf, hca4, hinj, hcac, hfr6, hdeed⟩ := id hOK
  refine mOk_w (L := [some (.ref 0), some (.int c), some (.int s), some (.int f), none]) pn_X7 rfl (Nat.le_of_ble_eq_true rfl) rfl ?_
  refine mG_aload_n dX7_pastes_0 rfl ?_
  refine mG_iload_n dX7_pastes_1 rfl ?_
  refine mG_cv1 vX7_94 dX7_pastes_2 (mLe_of rfl) (Nat.le_of_ble_eq_true rfl) e0 (Nat.le_of_ble_eq_true rfl) (ok_X7_isCube e0 e3) ?_
  refine mG_if_eqB dX7_pastes_5 (fun c5 => ?_) (fun c5 => ?_)
  · refine mG_iconst (v := (-1)) dX7_pastes_22 (by decide) ?_
    exact mG_iret dX7_pastes_23 rfl ⟨rfl, H, fun _ _ => rfl⟩
  · refine mG_iload_n dX7_pastes_8 rfl ?_
    refine mG_cs1 sX7_98 dX7_pastes_9 (mLe_of rfl) (Nat.le_of_ble_eq_true rfl) (ok_X7_isSide) ?_
    refine mG_if_eqB dX7_pastes_12 (fun c12 => ?_) (fun c12 => ?_)
    · refine mG_iconst (v := (-1)) dX7_pastes_22 (by decide) ?_
      exact mG_iret dX7_pastes_23 rfl ⟨rfl, H, fun _ _ => rfl⟩
    · refine mG_iload_n dX7_pastes_15 rfl ?_
      refine mG_cs1 sX7_140 dX7_pastes_16 (mLe_of rfl) (Nat.le_of_ble_eq_true rfl) (ok_X7_isFigure) ?_
      refine mG_if_neB dX7_pastes_19 (fun c19 => (by rw [c5, c12, c19] at hb; cases hb)) (fun c19 => ?_)
      refine mG_iconst (v := (-1)) dX7_pastes_22 (by decide) ?_
      exact mG_iret dX7_pastes_23 rfl ⟨rfl, H, fun _ _ => rfl⟩
set_option maxRecDepth 100000 in
set_option maxHeartbeats 4000000 in
theorem pc_pastes_same {E : mE} {h : mH} {n : Nat} {tx : Nat → Nat} {cu dc : Nat} {bo : Bool} {td : Nat → Nat} {dn wk : Nat} {nf ca fr ds : Nat → Nat} {x0 x1 : mSd} {kp : Nat → Bool} {sn : Nat} {sf st : Nat → Nat} {tr : Int64} {j k f : Nat} (H : CI h n tx cu dc bo td dn wk nf ca fr ds x0 x1 kp sn sf st tr) (hj : j < cu) (hk : k < 6) (hf : f < 10) (hs : nf (j * 6 + k) = f) : mOk E 4 zX7_pastes [.ref 0, vN j, vN k, vN f] h (cQ h (.int (-2)) (CI · n tx cu dc bo td dn wk nf ca fr ds x0 x1 kp sn sf st tr)) := by
  obtain ⟨e0, hRd, hTo, hDr, hNo, hI0, hI1, hMi, hSe, hTe, hWk, hFa, hOK, hK0, hK1⟩ := id H
  obtain ⟨t, e1, e2, ht, hn, htx⟩ := id hRd
  obtain ⟨it, tf, e3, e4, e5, hcu, hdc, htd⟩ := id hTo
  obtain ⟨cu6, dc6, it6, bo6, df, dy, e6, e7, e8⟩ := id hDr
  obtain ⟨e9, e10, e11, e12, e13⟩ := id hNo
  obtain ⟨g14, e14, hg0, hg1, e15⟩ := id hMi
  obtain ⟨e16, e17, e18, hsn, hsf, hst⟩ := id hSe
  obtain ⟨c19, g20, e19, e20⟩ := id hTe
  obtain ⟨w, pl, y, hwk⟩ := id hWk
  obtain ⟨ftv, fnv, fup, flo, g29, e28, e29⟩ := id hFa
  obtain ⟨hdn, hw9, hnf, hca4, hinj, hcac, hfr6, hdeed⟩ := id hOK
  have qj := isIx_nI (show cu < 2 ^ 31 by omega) hj
  have qk := isIx_nI (show 6 < 2 ^ 31 by decide) hk
  have qf := isIx_nI (show 10 < 2 ^ 31 by decide) hf
  have hnj := hnf (j * 6 + k) (by omega)
  refine mOk_w (L := [some (.ref 0), some (vN j), some (vN k), some (vN f), none]) pn_X7 rfl (Nat.le_of_ble_eq_true rfl) rfl ?_
  refine mG_aload_n dX7_pastes_0 rfl ?_
  refine mG_iload_n dX7_pastes_1 rfl ?_
  refine mG_cv1 vX7_94 dX7_pastes_2 (mLe_of rfl) (Nat.le_of_ble_eq_true rfl) e0 (Nat.le_of_ble_eq_true rfl) (ok_X7_isCube e0 e3) ?_
  refine mG_if_eqB dX7_pastes_5 (fun c5 => Bool.noConfusion (c5.symm.trans qj)) (fun c5 => ?_)
  refine mG_iload_n dX7_pastes_8 rfl ?_
  refine mG_cs1 sX7_98 dX7_pastes_9 (mLe_of rfl) (Nat.le_of_ble_eq_true rfl) (ok_X7_isSide) ?_
  refine mG_if_eqB dX7_pastes_12 (fun c12 => Bool.noConfusion (c12.symm.trans qk)) (fun c12 => ?_)
  refine mG_iload_n dX7_pastes_15 rfl ?_
  refine mG_cs1 sX7_140 dX7_pastes_16 (mLe_of rfl) (Nat.le_of_ble_eq_true rfl) (ok_X7_isFigure) ?_
  refine mG_if_neB dX7_pastes_19 (fun c19 => ?_) (fun c19 => Bool.noConfusion (c19.symm.trans qf))
  refine mG_aload_n dX7_pastes_24 rfl ?_
  refine mG_get fX7_29 dX7_pastes_25 e0 (Nat.le_of_ble_eq_true rfl) rfl ?_
  refine mG_get fX7_101 dX7_pastes_28 e9 (Nat.le_of_ble_eq_true rfl) rfl ?_
  refine mG_iload_n dX7_pastes_31 rfl ?_
  refine mG_bipush (v := nI 6) dX7_pastes_32 (by decide) ?_
  refine mG_imulN dX7_pastes_34 ?_
  refine mG_iload_n dX7_pastes_35 rfl ?_
  refine mG_iaddN dX7_pastes_36 ?_
  refine mG_ialdA dX7_pastes_37 e10 (Nat.le_of_ble_eq_true rfl) (by decide) (by omega) ?_
  refine mG_istore dX7_pastes_38 (Nat.le_of_ble_eq_true rfl) rfl rfl ?_
  refine mG_iload dX7_pastes_40 rfl ?_
  refine mG_iload_n dX7_pastes_42 rfl ?_
  refine mG_icmp_neN dX7_pastes_43 (by omega) (by omega) (fun c43 => absurd hs c43) (fun c43 => ?_)
  refine mG_bipush (v := (-2)) dX7_pastes_46 (by decide) ?_
  exact mG_iret dX7_pastes_48 rfl ⟨rfl, H, fun _ _ => rfl⟩
set_option maxRecDepth 100000 in
set_option maxHeartbeats 4000000 in
theorem pc_pastes_ok {E : mE} {h : mH} {n : Nat} {tx : Nat → Nat} {cu dc : Nat} {bo : Bool} {td : Nat → Nat} {dn wk : Nat} {nf ca fr ds : Nat → Nat} {x0 x1 : mSd} {kp : Nat → Bool} {sn : Nat} {sf st : Nat → Nat} {tr : Int64} {j k f : Nat} (H : CI h n tx cu dc bo td dn wk nf ca fr ds x0 x1 kp sn sf st tr) (hj : j < cu) (hk : k < 6) (hf : f < 10) (hs : ¬ nf (j * 6 + k) = f) : mOk E 4 zX7_pastes [.ref 0, vN j, vN k, vN f] h (cQ h (vN (nf (j * 6 + k))) (CI · n tx cu dc bo td (dn0 dn + 1) wk (mUp nf (j * 6 + k) f) ca fr (ds1 dn ds 2 (j * 6 + k) (nf (j * 6 + k)) wk) x0 x1 kp sn sf st tr)) := by
  obtain ⟨e0, hRd, hTo, hDr, hNo, hI0, hI1, hMi, hSe, hTe, hWk, hFa, hOK, hK0, hK1⟩ := id H
  obtain ⟨t, e1, e2, ht, hn, htx⟩ := id hRd
  obtain ⟨it, tf, e3, e4, e5, hcu, hdc, htd⟩ := id hTo
  obtain ⟨cu6, dc6, it6, bo6, df, dy, e6, e7, e8⟩ := id hDr
  obtain ⟨e9, e10, e11, e12, e13⟩ := id hNo
  obtain ⟨g14, e14, hg0, hg1, e15⟩ := id hMi
  obtain ⟨e16, e17, e18, hsn, hsf, hst⟩ := id hSe
  obtain ⟨c19, g20, e19, e20⟩ := id hTe
  obtain ⟨w, pl, y, hwk⟩ := id hWk
  obtain ⟨ftv, fnv, fup, flo, g29, e28, e29⟩ := id hFa
  obtain ⟨hdn, hw9, hnf, hca4, hinj, hcac, hfr6, hdeed⟩ := id hOK
  have qj := isIx_nI (show cu < 2 ^ 31 by omega) hj
  have qk := isIx_nI (show 6 < 2 ^ 31 by decide) hk
  have qf := isIx_nI (show 10 < 2 ^ 31 by decide) hf
  have hnj := hnf (j * 6 + k) (by omega)
  refine mOk_w (L := [some (.ref 0), some (vN j), some (vN k), some (vN f), none]) pn_X7 rfl (Nat.le_of_ble_eq_true rfl) rfl ?_
  refine mG_aload_n dX7_pastes_0 rfl ?_
  refine mG_iload_n dX7_pastes_1 rfl ?_
  refine mG_cv1 vX7_94 dX7_pastes_2 (mLe_of rfl) (Nat.le_of_ble_eq_true rfl) e0 (Nat.le_of_ble_eq_true rfl) (ok_X7_isCube e0 e3) ?_
  refine mG_if_eqB dX7_pastes_5 (fun c5 => Bool.noConfusion (c5.symm.trans qj)) (fun c5 => ?_)
  refine mG_iload_n dX7_pastes_8 rfl ?_
  refine mG_cs1 sX7_98 dX7_pastes_9 (mLe_of rfl) (Nat.le_of_ble_eq_true rfl) (ok_X7_isSide) ?_
  refine mG_if_eqB dX7_pastes_12 (fun c12 => Bool.noConfusion (c12.symm.trans qk)) (fun c12 => ?_)
  refine mG_iload_n dX7_pastes_15 rfl ?_
  refine mG_cs1 sX7_140 dX7_pastes_16 (mLe_of rfl) (Nat.le_of_ble_eq_true rfl) (ok_X7_isFigure) ?_
  refine mG_if_neB dX7_pastes_19 (fun c19 => ?_) (fun c19 => Bool.noConfusion (c19.symm.trans qf))
  refine mG_aload_n dX7_pastes_24 rfl ?_
  refine mG_get fX7_29 dX7_pastes_25 e0 (Nat.le_of_ble_eq_true rfl) rfl ?_
  refine mG_get fX7_101 dX7_pastes_28 e9 (Nat.le_of_ble_eq_true rfl) rfl ?_
  refine mG_iload_n dX7_pastes_31 rfl ?_
  refine mG_bipush (v := nI 6) dX7_pastes_32 (by decide) ?_
  refine mG_imulN dX7_pastes_34 ?_
  refine mG_iload_n dX7_pastes_35 rfl ?_
  refine mG_iaddN dX7_pastes_36 ?_
  refine mG_ialdA dX7_pastes_37 e10 (Nat.le_of_ble_eq_true rfl) (by decide) (by omega) ?_
  refine mG_istore dX7_pastes_38 (Nat.le_of_ble_eq_true rfl) rfl rfl ?_
  refine mG_iload dX7_pastes_40 rfl ?_
  refine mG_iload_n dX7_pastes_42 rfl ?_
  refine mG_icmp_neN dX7_pastes_43 (by omega) (by omega) (fun c43 => ?_) (fun c43 => absurd c43 hs)
  refine mG_aload_n dX7_pastes_49 rfl ?_
  refine mG_get fX7_29 dX7_pastes_50 e0 (Nat.le_of_ble_eq_true rfl) rfl ?_
  refine mG_iload_n dX7_pastes_53 rfl ?_
  refine mG_bipush (v := nI 6) dX7_pastes_54 (by decide) ?_
  refine mG_imulN dX7_pastes_56 ?_
  refine mG_iload_n dX7_pastes_57 rfl ?_
  refine mG_iaddN dX7_pastes_58 ?_
  refine mG_iload_n dX7_pastes_59 rfl ?_
  refine mG_cw2 vX7_143 dX7_pastes_60 (mLe_of rfl) (Nat.le_of_ble_eq_true rfl) e9 (Nat.le_of_ble_eq_true rfl) (ok_X3_pasteFigure e9 e10 e13 hdn (by omega)) ?_
  refine mG_iload dX7_pastes_63 rfl ?_
  exact mG_iret dX7_pastes_65 rfl ⟨rfl, ⟨e0, hRd, hTo, hDr, ⟨rfl, rfl, e11, e12, rfl⟩, hI0, hI1, hMi, hSe, hTe, hWk, hFa, ⟨by have := dn0_lt dn; omega, hw9, fun i hi => by
      by_cases q : i = j * 6 + k
      · rw [q, mUp_eq]; exact hf
      · rw [mUp_ne _ _ q]; exact hnf i hi, hca4, hinj, hcac, hfr6, deeds_ok hdn hdeed hw9 (Or.inr (Or.inr ⟨rfl, by omega, hnj⟩))⟩, hK0, hK1⟩, fun b hb => by simp only [mU, show ¬ b = 9 from by omega, show ¬ b = 10 from by omega, show ¬ b = 13 from by omega, if_false]⟩
