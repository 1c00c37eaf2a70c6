/-! reading: both sides -/
theorem dg_eq {tx : Nat → Nat} : ∀ k a v w, v = min w 10000 → (dgF tx k a v).1 = (dgR tx k a w).1 ∧ (dgF tx k a v).2 = min (dgR tx k a w).2 10000 := by
  intro k
  induction k with
  | zero => intro a v w h; exact ⟨rfl, h⟩
  | succ k ih =>
    intro a v w h
    by_cases q : isD (tx a) = true
    · have e1 : dgF tx (k + 1) a v = dgF tx k (a + 1) (min (v * 10 + tx a - 48) 10000) := if_pos q
      have e2 : dgR tx (k + 1) a w = dgR tx k (a + 1) (if 9999 < w then w else 10 * w + tx a - 48) := if_pos q
      rw [e1, e2]
      refine ih _ _ _ ?_
      have hq : 48 ≤ tx a ∧ tx a ≤ 57 := of_decide_eq_true q
      split <;> omega
    · have e1 : dgF tx (k + 1) a v = (a, v) := if_neg q
      have e2 : dgR tx (k + 1) a w = (a, w) := if_neg q
      rw [e1, e2]
      exact ⟨rfl, h⟩
theorem le_st {tx : Nat → Nat} {n b : Nat} (hb : ¬ n ≤ b) (hL : isL (tx b) = true) : leF tx (n - b) b = leF tx (n - (b + 1)) (b + 1) := by
  obtain ⟨k, hk⟩ : ∃ k, n - b = k + 1 := ⟨n - b - 1, by omega⟩
  rw [hk, show n - (b + 1) = k from by omega]
  exact if_pos hL
/-- tokens of both sides that are alike -/
def tkR (t r : mTk) : Prop := t.1 = r.1 ∧ t.2.2.1 = r.2.2.1 ∧ ((t.2.1 = 0 ∧ r.2.1 = 4) ∨ (t.2.1 = 1 ∧ r.2.1 = 1 ∧ t.2.2.2 = r.2.2.2) ∨ (t.2.1 = 2 ∧ r.2.1 = 2 ∧ t.2.2.2 = r.2.2.2) ∨ (t.2.1 = 3 ∧ r.2.1 = 3) ∨ (t.2.1 = 4 ∧ r.2.1 = 5))
theorem tk_eq {tx : Nat → Nat} {n : Nat} {t : mTk} : tkR (nxT tx n t) (stT tx n t.1) := by
  unfold nxT stT
  generalize skF tx (n - t.1) t.1 = b
  unfold tkB stB
  by_cases hb : n ≤ b
  · rw [if_pos hb, if_pos hb]
    exact ⟨rfl, rfl, Or.inl ⟨rfl, rfl⟩⟩
  · rw [if_neg hb, if_neg hb]
    by_cases hL : isL (tx b) = true
    · have hD : ¬ isD (tx b) = true := by
        intro q
        have h1 : 97 ≤ tx b ∧ tx b ≤ 122 := of_decide_eq_true hL
        have h2 : 48 ≤ tx b ∧ tx b ≤ 57 := of_decide_eq_true q
        omega
      rw [if_pos hL, if_neg hD, if_pos hL]
      unfold tkL
      have e := le_st hb hL
      have hl := leF_le tx (n - (b + 1)) (b + 1)
      refine ⟨e.symm, rfl, Or.inr (Or.inl ⟨rfl, rfl, ?_⟩)⟩
      show (if leF tx (n - (b + 1)) (b + 1) = b + 1 then tx b else 0) = if leF tx (n - b) b - b = 1 then tx b else 0
      rw [e]
      by_cases q : leF tx (n - (b + 1)) (b + 1) = b + 1
      · rw [if_pos q, if_pos (by omega)]
      · rw [if_neg q, if_neg (by omega)]
    · rw [if_neg hL]
      by_cases hD : isD (tx b) = true
      · rw [if_pos hD, if_pos hD]
        unfold tkD
        obtain ⟨e1, e2⟩ := dg_eq (tx := tx) (n - b) b 0 0 (by decide)
        refine ⟨e1, rfl, ?_⟩
        by_cases q : 9999 < (dgR tx (n - b) b 0).2 ∨ (tx b = 48 ∧ 1 < (dgR tx (n - b) b 0).1 - b)
        · have q2 : 9999 < (dgF tx (n - b) b 0).2 ∨ (tx b = 48 ∧ 1 < (dgF tx (n - b) b 0).1 - b) := by
            rw [e1, e2]
            rcases q with z | z
            · left; omega
            · exact Or.inr z
          exact Or.inr (Or.inr (Or.inr (Or.inr ⟨if_pos q2, if_pos q⟩)))
        · have q2 : ¬ (9999 < (dgF tx (n - b) b 0).2 ∨ (tx b = 48 ∧ 1 < (dgF tx (n - b) b 0).1 - b)) := by
            rw [e1, e2]
            intro z
            apply q
            rcases z with z | z
            · left; omega
            · exact Or.inr z
          refine Or.inr (Or.inr (Or.inl ⟨if_neg q2, if_neg q, ?_⟩))
          show (dgF tx (n - b) b 0).2 = (dgR tx (n - b) b 0).2
          have : ¬ 9999 < (dgR tx (n - b) b 0).2 := fun z => q (Or.inl z)
          omega
      · rw [if_neg hD, if_neg hD, if_neg hL]
        refine ⟨rfl, rfl, ?_⟩
        by_cases q : tx b = 59
        · exact Or.inr (Or.inr (Or.inr (Or.inl ⟨if_pos q, if_pos q⟩)))
        · exact Or.inr (Or.inr (Or.inr (Or.inr ⟨if_neg q, if_neg q⟩)))
/-- drafts of both sides that are alike -/
def drR (d : mDr) (y : mRx) : Prop := y.2.2.1 1 = d.1.1 ∧ y.2.2.2.1 1 = d.1.2.1 ∧ y.2.2.2.2.1 1 = d.1.2.2.toNat ∧ (∀ j, j < d.1.1 * 6 → y.2.2.2.2.2.1 (24 + j) = d.2.1 j) ∧ ∀ j, j < d.1.2.1 → y.2.2.2.2.2.2 (6 + j) = d.2.2 j
theorem ic_wr {tx : Nat → Nat} {n c : Nat} : ∀ k s (x : mTk × Bool) (fg : Nat → Nat), x.2 = true → (icF tx n c k s x fg).1 = x := by
  intro k
  induction k with
  | zero => intro s x fg h; rfl
  | succ k ih =>
    intro s x fg h
    have e : duY tx n (amB 9 x.1) x = x := if_pos h
    have e0 : icF tx n c (k + 1) s x fg = icF tx n c k (s + 1) (duY tx n (amB 9 x.1) x) (mUp fg (24 + 6 * c + s) x.1.2.2.2) := rfl
    rw [e0, e]
    exact ih _ _ _ h
theorem rc_eq {tx : Nat → Nat} {n cu : Nat} (hn : n ≤ 100) (htx : ∀ j, j < n → tx j < 256) : ∀ k s (t : mTk) (df fg : Nat → Nat), t.1 ≤ n → (∀ j, j < cu * 6 + s → fg (24 + j) = df j) →
    (rcF tx n cu k s t df).2.1.1 ≤ n ∧ t.1 ≤ (rcF tx n cu k s t df).2.1.1 ∧
    (((rcF tx n cu k s t df).1 = true ∧ (icF tx n cu k s (stT tx n t.1, false) fg).1 = (stT tx n (rcF tx n cu k s t df).2.1.1, false) ∧ ∀ j, j < cu * 6 + s + k → (icF tx n cu k s (stT tx n t.1, false) fg).2 (24 + j) = (rcF tx n cu k s t df).2.2 j) ∨
    ((rcF tx n cu k s t df).1 = false ∧ (icF tx n cu k s (stT tx n t.1, false) fg).1.2 = true ∧ (icF tx n cu k s (stT tx n t.1, false) fg).1.1.2.2.1 = (rcF tx n cu k s t df).2.1.2.2.1)) := by
  intro k
  induction k with
  | zero => intro s t df fg ht h; exact ⟨ht, Nat.le_refl _, Or.inl ⟨rfl, rfl, h⟩⟩
  | succ k ih =>
    intro s t df fg ht hfg
    obtain ⟨T1, T2, T3⟩ := tk_eq (tx := tx) (n := n) (t := t)
    have hs := stT_ok hn htx ht
    have ha := stT_at hn htx ht
    have hm : t.1 ≤ (nxT tx n t).1 := by rw [T1]; exact Nat.le_trans hs.2.1 ha
    have e0 : icF tx n cu (k + 1) s (stT tx n t.1, false) fg = icF tx n cu k (s + 1) (duY tx n (amB 9 (stT tx n t.1)) (stT tx n t.1, false)) (mUp fg (24 + 6 * cu + s) (stT tx n t.1).2.2.2) := rfl
    by_cases q : isN (nxT tx n t) 10 = true
    · have hq : (nxT tx n t).2.1 = 2 ∧ (nxT tx n t).2.2.2 < 10 := of_decide_eq_true q
      have hv : (stT tx n t.1).2.1 = 2 ∧ (nxT tx n t).2.2.2 = (stT tx n t.1).2.2.2 := by
        rcases T3 with z | z | z | z | z
        · omega
        · omega
        · exact z.2
        · omega
        · omega
      have hb : amB 9 (stT tx n t.1) = true := decide_eq_true ⟨hv.1, by omega⟩
      have e1 : rcF tx n cu (k + 1) s t df = rcF tx n cu k (s + 1) (nxT tx n t) (mUp df (cu * 6 + s) (nxT tx n t).2.2.2) := if_pos q
      have e2 : duY tx n (amB 9 (stT tx n t.1)) (stT tx n t.1, false) = (stT tx n (nxT tx n t).1, false) := by
        rw [hb, T1]; rfl
      have hj : ∀ j, j < cu * 6 + (s + 1) → mUp fg (24 + 6 * cu + s) (stT tx n t.1).2.2.2 (24 + j) = mUp df (cu * 6 + s) (nxT tx n t).2.2.2 j := by
        intro j hj
        by_cases w : j = cu * 6 + s
        · rw [w, show 24 + (cu * 6 + s) = 24 + 6 * cu + s from by omega, mUp_eq, mUp_eq, hv.2]
        · rw [mUp_ne _ _ (by omega), mUp_ne _ _ w]
          exact hfg j (by omega)
      have r := ih (s + 1) (nxT tx n t) (mUp df (cu * 6 + s) (nxT tx n t).2.2.2) (mUp fg (24 + 6 * cu + s) (stT tx n t.1).2.2.2) (by rw [T1]; exact hs.1.1) hj
      rw [e0, e1, e2]
      exact ⟨r.1, Nat.le_trans hm r.2.1, r.2.2.imp (fun z => ⟨z.1, z.2.1, fun j hj => z.2.2 j (by omega)⟩) id⟩
    · have hb : amB 9 (stT tx n t.1) = false := by
        apply decide_eq_false
        intro z
        apply q
        apply decide_eq_true
        rcases T3 with w | w | w | w | w <;> omega
      have e1 : rcF tx n cu (k + 1) s t df = (false, nxT tx n t, df) := if_neg q
      have e2 : duY tx n (amB 9 (stT tx n t.1)) (stT tx n t.1, false) = (stT tx n t.1, true) := by
        rw [hb]; rfl
      rw [e0, e1, e2]
      refine ⟨by show (nxT tx n t).1 ≤ n; rw [T1]; exact hs.1.1, hm, Or.inr ⟨rfl, ?_, ?_⟩⟩
      · rw [ic_wr k (s + 1) (stT tx n t.1, true) _ rfl]
      · rw [ic_wr k (s + 1) (stT tx n t.1, true) _ rfl]
        exact T2.symm
theorem itemA {tx : Nat → Nat} {n : Nat} (hn : n ≤ 100) (htx : ∀ j, j < n → tx j < 256) {t : mTk} {cu dc it : Nat} {bo : Bool} {df dy cb db bb fg dg : Nat → Nat} (ht : t.1 ≤ n) (h1 : cb 1 = cu) (h2 : db 1 = dc) (h3 : bb 1 = bo.toNat) (h4 : ∀ j, j < cu * 6 → fg (24 + j) = df j) (h5 : ∀ j, j < dc → dg (6 + j) = dy j) :
    ∀ A Y, riA tx n (nxT tx n t) ((cu, dc, bo), (df, dy)) = A → itX tx n (stT tx n t.1).2.2.2 ((stT tx n (stT tx n t.1).1, false), it, cb, db, bb, fg, dg) = Y →
    A.2.1.1 ≤ n ∧ (nxT tx n t).1 ≤ A.2.1.1 ∧ (
    (((stT tx n t.1).2.1 = 1 ∧ mayY (stT tx n t.1).2.2.2 cb db bb = true) ∧ ((A.1 = true ∧ Y.1 = (stT tx n A.2.1.1, false) ∧ drR A.2.2 Y) ∨ (A.1 = false ∧ Y.1.2 = true ∧ Y.1.1.2.2.1 = A.2.1.2.2.1))) ∨
    (¬ ((stT tx n t.1).2.1 = 1 ∧ mayY (stT tx n t.1).2.2.2 cb db bb = true) ∧ A.1 = false ∧ A.2.1.2.2.1 = (stT tx n t.1).2.2.1)) := by
  intro A Y hA hY
  obtain ⟨T1, T2, T3⟩ := tk_eq (tx := tx) (n := n) (t := t)
  have hs := stT_ok hn htx ht
  have hTn : (nxT tx n t).1 ≤ n := by rw [T1]; exact hs.1.1
  rw [← T1] at hY
  unfold riA at hA
  by_cases k1 : (nxT tx n t).2.1 = 1
  · have k2 : (stT tx n t.1).2.1 = 1 ∧ (nxT tx n t).2.2.2 = (stT tx n t.1).2.2.2 := by
      rcases T3 with z | z | z | z | z
      · omega
      · exact z.2
      · omega
      · omega
      · omega
    rw [if_pos k1] at hA
    by_cases v1 : (nxT tx n t).2.2.2 = 98
    · rw [if_pos v1] at hA
      have w1 : (stT tx n t.1).2.2.2 = 98 := k2.2.symm.trans v1
      rw [w1] at hY ⊢
      have hm : mayY 98 cb db bb = decide (bb 1 = 0) := rfl
      subst hA
      refine ⟨hTn, Nat.le_refl _, ?_⟩
      cases bo with
      | true =>
        refine Or.inr ⟨fun z => ?_, rfl, T2⟩
        have z2 := z.2
        rw [hm, h3] at z2
        exact absurd z2 (by decide)
      | false =>
        refine Or.inl ⟨⟨k2.1, by rw [hm, h3]; rfl⟩, Or.inl ⟨rfl, ?_, ?_⟩⟩
        · rw [← hY]; rfl
        · rw [← hY]; exact ⟨h1, h2, mUp_eq bb 1 1, h4, h5⟩
    · rw [if_neg v1] at hA
      by_cases v2 : (nxT tx n t).2.2.2 = 99
      · rw [if_pos v2] at hA
        have w2 : (stT tx n t.1).2.2.2 = 99 := k2.2.symm.trans v2
        rw [w2] at hY ⊢
        have hm : mayY 99 cb db bb = decide (cb 1 < 4) := rfl
        dsimp only at hA
        by_cases c4 : cu < 4
        · have r := rc_eq (cu := cu) hn htx 6 0 (nxT tx n t) df fg hTn (fun j hj => h4 j hj)
          have hr : rcT tx n (nxT tx n t) cu df = ((rcF tx n cu 6 0 (nxT tx n t) df).1, (rcF tx n cu 6 0 (nxT tx n t) df).2.1, if (rcF tx n cu 6 0 (nxT tx n t) df).1 = true then cu + 1 else cu, (rcF tx n cu 6 0 (nxT tx n t) df).2.2) := if_pos c4
          have hYe : itX tx n 99 ((stT tx n (nxT tx n t).1, false), it, cb, db, bb, fg, dg) = ((icF tx n (cb 1) 6 0 (stT tx n (nxT tx n t).1, false) fg).1, it, mUp cb 1 (cb 1 + 1), db, bb, (icF tx n (cb 1) 6 0 (stT tx n (nxT tx n t).1, false) fg).2, dg) := rfl
          rw [hr] at hA
          rw [hYe, h1] at hY
          subst hA
          subst hY
          generalize rcF tx n cu 6 0 (nxT tx n t) df = Z at r ⊢
          generalize icF tx n cu 6 0 (stT tx n (nxT tx n t).1, false) fg = X at r ⊢
          obtain ⟨ok, zt, zd⟩ := Z
          obtain ⟨r1, r2, r3⟩ := r
          refine ⟨r1, r2, Or.inl ⟨⟨k2.1, by rw [hm, h1]; exact decide_eq_true c4⟩, ?_⟩⟩
          rcases r3 with ⟨z1, z2, z3⟩ | ⟨z1, z2, z3⟩
          · have z1 : ok = true := z1
            subst z1
            exact Or.inl ⟨rfl, z2, mUp_eq cb 1 (cu + 1), h2, h3, fun j hj => z3 j (by have hj' : j < (cu + 1) * 6 := hj; omega), h5⟩
          · exact Or.inr ⟨z1, z2, z3⟩
        · have hr : rcT tx n (nxT tx n t) cu df = (false, nxT tx n t, cu, df) := if_neg c4
          rw [hr] at hA
          subst hA
          refine ⟨hTn, Nat.le_refl _, Or.inr ⟨fun z => ?_, rfl, T2⟩⟩
          have z2 := z.2
          rw [hm, h1] at z2
          exact c4 (of_decide_eq_true z2)
      · rw [if_neg v2] at hA
        by_cases v3 : (nxT tx n t).2.2.2 = 100
        · rw [if_pos v3] at hA
          have w3 : (stT tx n t.1).2.2.2 = 100 := k2.2.symm.trans v3
          rw [w3] at hY ⊢
          have hm : mayY 100 cb db bb = decide (100 = 100 ∧ db 1 < 6) := rfl
          dsimp only at hA
          by_cases c6 : dc < 6
          · obtain ⟨U1, U2, U3⟩ := tk_eq (tx := tx) (n := n) (t := nxT tx n t)
            have hs2 := stT_ok hn htx hTn
            have ha2 := stT_at hn htx hTn
            have hYe : itX tx n 100 ((stT tx n (nxT tx n t).1, false), it, cb, db, bb, fg, dg) = (duY tx n (amB (10 ^ cb 1 - 1) (stT tx n (nxT tx n t).1)) (stT tx n (nxT tx n t).1, false), it, cb, mUp db 1 (db 1 + 1), bb, fg, mUp dg (6 + db 1) (stT tx n (nxT tx n t).1).2.2.2) := rfl
            rw [hYe, h1, h2] at hY
            have hp : 0 < 10 ^ cu := Nat.pow_pos (by decide)
            have hmm : mayY 100 cb db bb = true := by rw [hm, h2]; exact decide_eq_true ⟨rfl, c6⟩
            by_cases q : isN (nxT tx n (nxT tx n t)) (10 ^ cu) = true
            · have hq : (nxT tx n (nxT tx n t)).2.1 = 2 ∧ (nxT tx n (nxT tx n t)).2.2.2 < 10 ^ cu := of_decide_eq_true q
              have hv : (stT tx n (nxT tx n t).1).2.1 = 2 ∧ (nxT tx n (nxT tx n t)).2.2.2 = (stT tx n (nxT tx n t).1).2.2.2 := by
                rcases U3 with z | z | z | z | z
                · omega
                · omega
                · exact z.2
                · omega
                · omega
              have hb : amB (10 ^ cu - 1) (stT tx n (nxT tx n t).1) = true := decide_eq_true ⟨hv.1, by have := hq.2; rw [hv.2] at this; exact Nat.le_sub_one_of_lt this⟩
              have hr : rdT tx n (nxT tx n t) cu dc dy = (true, nxT tx n (nxT tx n t), dc + 1, mUp dy dc (nxT tx n (nxT tx n t)).2.2.2) := by
                unfold rdT
                rw [if_pos c6, if_pos q]
              rw [hr] at hA
              rw [hb] at hY
              subst hA
              subst hY
              refine ⟨by show (nxT tx n (nxT tx n t)).1 ≤ n; rw [U1]; exact hs2.1.1, by show (nxT tx n t).1 ≤ (nxT tx n (nxT tx n t)).1; rw [U1]; exact Nat.le_trans hs2.2.1 ha2, Or.inl ⟨⟨k2.1, hmm⟩, Or.inl ⟨rfl, ?_, h1, mUp_eq db 1 (dc + 1), h3, h4, fun j hj => ?_⟩⟩⟩
              · show (stT tx n (stT tx n (nxT tx n t).1).1, false) = (stT tx n (nxT tx n (nxT tx n t)).1, false)
                rw [U1]
              · have hj : j < dc + 1 := hj
                show mUp dg (6 + dc) (stT tx n (nxT tx n t).1).2.2.2 (6 + j) = mUp dy dc (nxT tx n (nxT tx n t)).2.2.2 j
                by_cases w : j = dc
                · rw [w, mUp_eq, mUp_eq, hv.2]
                · rw [mUp_ne _ _ (by omega), mUp_ne _ _ w]
                  exact h5 j (by omega)
            · have hb : amB (10 ^ cu - 1) (stT tx n (nxT tx n t).1) = false := by
                apply decide_eq_false
                intro z
                apply q
                apply decide_eq_true
                rcases U3 with w | w | w | w | w
                · omega
                · omega
                · exact ⟨w.1, by rw [w.2.2]; exact Nat.lt_of_le_of_lt z.2 (Nat.sub_lt hp (by decide))⟩
                · omega
                · omega
              have hr : rdT tx n (nxT tx n t) cu dc dy = (false, nxT tx n (nxT tx n t), dc, dy) := by
                unfold rdT
                rw [if_pos c6, if_neg q]
              rw [hr] at hA
              rw [hb] at hY
              subst hA
              subst hY
              exact ⟨by show (nxT tx n (nxT tx n t)).1 ≤ n; rw [U1]; exact hs2.1.1, by show (nxT tx n t).1 ≤ (nxT tx n (nxT tx n t)).1; rw [U1]; exact Nat.le_trans hs2.2.1 ha2, Or.inl ⟨⟨k2.1, hmm⟩, Or.inr ⟨rfl, rfl, U2.symm⟩⟩⟩
          · have hr : rdT tx n (nxT tx n t) cu dc dy = (false, nxT tx n t, dc, dy) := if_neg c6
            rw [hr] at hA
            subst hA
            refine ⟨hTn, Nat.le_refl _, Or.inr ⟨fun z => ?_, rfl, T2⟩⟩
            have z2 := z.2
            rw [hm, h2] at z2
            exact c6 (of_decide_eq_true z2).2
        · rw [if_neg v3] at hA
          subst hA
          refine ⟨hTn, Nat.le_refl _, Or.inr ⟨fun z => ?_, rfl, T2⟩⟩
          have z2 := z.2
          unfold mayY at z2
          rw [← k2.2, if_neg v1, if_neg v2] at z2
          exact v3 (of_decide_eq_true z2).1
  · rw [if_neg k1] at hA
    subst hA
    refine ⟨hTn, Nat.le_refl _, Or.inr ⟨fun z => k1 ?_, rfl, T2⟩⟩
    have := z.1
    rcases T3 with w | w | w | w | w <;> omega
theorem itemB {tx : Nat → Nat} {n : Nat} (hn : n ≤ 100) (htx : ∀ j, j < n → tx j < 256) {t : mTk} {cu dc it : Nat} {bo : Bool} {df dy cb db bb fg dg : Nat → Nat} (ht : t.1 ≤ n) (h1 : cb 1 = cu) (h2 : db 1 = dc) (h3 : bb 1 = bo.toNat) (h4 : ∀ j, j < cu * 6 → fg (24 + j) = df j) (h5 : ∀ j, j < dc → dg (6 + j) = dy j) :
    ∀ A Y, riT tx n (nxT tx n t) ((cu, dc, bo), (df, dy)) = A → rrS tx n ((stT tx n t.1, false), it, cb, db, bb, fg, dg) = Y →
    (nxT tx n t).1 ≤ A.2.1.1 ∧ ((A.1 = true ∧ Y.1 = (stT tx n A.2.1.1, false) ∧ Y.2.1 = it + 1 ∧ drR A.2.2 Y) ∨ (A.1 = false ∧ Y.1.2 = true ∧ Y.1.1.2.2.1 = A.2.1.2.2.1)) := by
  intro A Y hA hY
  obtain ⟨q1, q2, q3⟩ := itemA (it := it) hn htx ht h1 h2 h3 h4 h5 _ _ rfl rfl
  unfold riT at hA
  unfold rrS at hY
  dsimp only at hY
  generalize riA tx n (nxT tx n t) ((cu, dc, bo), (df, dy)) = B at q1 q2 q3 hA
  generalize itX tx n (stT tx n t.1).2.2.2 ((stT tx n (stT tx n t.1).1, false), it, cb, db, bb, fg, dg) = Z at q3 hY
  rcases q3 with ⟨c, q4⟩ | ⟨c, q5, q6⟩
  · rw [if_pos c] at hY
    rcases q4 with ⟨b1, b2, b3⟩ | ⟨b1, b2, b3⟩
    · rw [if_pos b1] at hA
      rw [b2] at hY
      obtain ⟨U1, U2, U3⟩ := tk_eq (tx := tx) (n := n) (t := B.2.1)
      have hs2 := stT_ok hn htx q1
      have ha2 := stT_at hn htx q1
      subst hA
      subst hY
      refine ⟨by show (nxT tx n t).1 ≤ (nxT tx n B.2.1).1; rw [U1]; exact Nat.le_trans q2 (Nat.le_trans hs2.2.1 ha2), ?_⟩
      by_cases k : (nxT tx n B.2.1).2.1 = 3
      · have k3 : (stT tx n B.2.1.1).2.1 = 3 := by rcases U3 with w | w | w | w | w <;> omega
        refine Or.inl ⟨decide_eq_true k, ?_, rfl, b3⟩
        show duY tx n (decide ((stT tx n B.2.1.1).2.1 = 3)) (stT tx n B.2.1.1, false) = (stT tx n (nxT tx n B.2.1).1, false)
        rw [decide_eq_true k3, U1]
        rfl
      · have k3 : ¬ (stT tx n B.2.1.1).2.1 = 3 := by rcases U3 with w | w | w | w | w <;> omega
        have e : duY tx n (decide ((stT tx n B.2.1.1).2.1 = 3)) (stT tx n B.2.1.1, false) = (stT tx n B.2.1.1, true) := by
          rw [decide_eq_false k3]; rfl
        refine Or.inr ⟨decide_eq_false k, ?_, ?_⟩
        · show (duY tx n (decide ((stT tx n B.2.1.1).2.1 = 3)) (stT tx n B.2.1.1, false)).2 = true
          rw [e]
        · show (duY tx n (decide ((stT tx n B.2.1.1).2.1 = 3)) (stT tx n B.2.1.1, false)).1.2.2.1 = (nxT tx n B.2.1).2.2.1
          rw [e]
          exact U2.symm
    · rw [if_neg (by rw [b1]; decide)] at hA
      have e : duY tx n (decide (Z.1.1.2.1 = 3)) Z.1 = Z.1 := if_pos b2
      rw [e] at hY
      subst hA
      subst hY
      exact ⟨q2, Or.inr ⟨b1, b2, b3⟩⟩
  · rw [if_neg c] at hY
    rw [if_neg (by rw [q5]; decide)] at hA
    subst hA
    subst hY
    exact ⟨q2, Or.inr ⟨q5, rfl, q6.symm⟩⟩
theorem rr_wr {tx : Nat → Nat} {n : Nat} {y : mRx} (h : y.1.2 = true) : ∀ k, rrF tx n k y = y := by
  intro k
  cases k with
  | zero => rfl
  | succ k => exact if_pos (Or.inr h)
theorem rd_eq {tx : Nat → Nat} {n : Nat} (hn : n ≤ 100) (htx : ∀ j, j < n → tx j < 256) : ∀ kr kc (t : mTk) (it : Nat) (d : mDr) (y : mRx), n - t.1 ≤ kr → kr + 1 ≤ kc → tkOK n t → d.1.1 ≤ 4 → d.1.2.1 ≤ 6 → y.1 = (stT tx n t.1, false) → y.2.1 = it → drR d y →
    ∀ Z Y, rdF tx n kc t it d = Z → rrF tx n kr y = Y → (Z.1 = -1 ∧ Y.1.2 = false ∧ Z.2.2.1 = Y.2.1 ∧ drR Z.2.2.2 Y) ∨ (Y.1.2 = true ∧ Z.1 = nI Y.1.1.2.2.1 ∧ Y.1.1.2.2.1 ≤ 100) := by
  intro kr
  induction kr with
  | zero =>
    intro kc t it d y hm hk ht hc hd hy hi hr Z Y hZ hY
    obtain ⟨kc, rfl⟩ : ∃ k, kc = k + 1 := ⟨kc - 1, by omega⟩
    obtain ⟨T1, T2, T3⟩ := tk_eq (tx := tx) (n := n) (t := t)
    have hs := stT_ok hn htx ht.1
    have hY : y = Y := hY
    subst hY
    by_cases e : (nxT tx n t).2.1 = 0
    · have e1 : rdF tx n (kc + 1) t it d = (-1, nxT tx n t, it, d) := if_pos e
      rw [e1] at hZ
      subst hZ
      exact Or.inl ⟨rfl, by rw [hy], hi.symm, hr⟩
    · have e4 : ¬ (stT tx n t.1).2.1 = 4 := by rcases T3 with w | w | w | w | w <;> omega
      have := hs.2.2 e4
      omega
  | succ kr ih =>
    intro kc t it d y hm hk ht hc hd hy hi hr Z Y hZ hY
    obtain ⟨kc, rfl⟩ : ∃ k, kc = k + 1 := ⟨kc - 1, by omega⟩
    obtain ⟨T1, T2, T3⟩ := tk_eq (tx := tx) (n := n) (t := t)
    have hs := stT_ok hn htx ht.1
    by_cases e : (nxT tx n t).2.1 = 0
    · have e4 : (stT tx n t.1).2.1 = 4 := by rcases T3 with w | w | w | w | w <;> omega
      have e1 : rdF tx n (kc + 1) t it d = (-1, nxT tx n t, it, d) := if_pos e
      have e2 : rrF tx n (kr + 1) y = y := if_pos (Or.inl (by rw [hy]; exact e4))
      rw [e1] at hZ
      rw [e2] at hY
      subst hZ
      subst hY
      exact Or.inl ⟨rfl, by rw [hy], hi.symm, hr⟩
    · have e4 : ¬ (stT tx n t.1).2.1 = 4 := by rcases T3 with w | w | w | w | w <;> omega
      have h2 := hs.2.2 e4
      have e2 : rrF tx n (kr + 1) y = rrF tx n kr (rrS tx n y) := if_neg (by rw [hy]; intro z; rcases z with z | z; exact e4 z; exact Bool.noConfusion z)
      rw [e2] at hY
      have hok := riT_ok hn htx (nxT_ok hn htx ht) hc hd
      obtain ⟨⟨cu, dc, bo⟩, df, dy⟩ := d
      obtain ⟨yx, yi, cb, db, bb, fg, dg⟩ := y
      have hy : yx = (stT tx n t.1, false) := hy
      subst hy
      have hi : yi = it := hi
      subst hi
      obtain ⟨b1, b2⟩ := itemB (it := yi) hn htx ht.1 hr.1 hr.2.1 hr.2.2.1 hr.2.2.2.1 hr.2.2.2.2 _ _ rfl rfl
      generalize hA : riT tx n (nxT tx n t) ((cu, dc, bo), (df, dy)) = A at b1 b2 hok
      generalize hB : rrS tx n ((stT tx n t.1, false), yi, cb, db, bb, fg, dg) = B at b2 hY
      rcases b2 with ⟨c1, c2, c3, c4⟩ | ⟨c1, c2, c3⟩
      · have e1 : rdF tx n (kc + 1) t yi ((cu, dc, bo), (df, dy)) = rdF tx n kc A.2.1 (yi + 1) A.2.2 := by
          have : rdF tx n (kc + 1) t yi ((cu, dc, bo), (df, dy)) = if (riT tx n (nxT tx n t) ((cu, dc, bo), (df, dy))).1 = true then rdF tx n kc (riT tx n (nxT tx n t) ((cu, dc, bo), (df, dy))).2.1 (yi + 1) (riT tx n (nxT tx n t) ((cu, dc, bo), (df, dy))).2.2 else (nI (riT tx n (nxT tx n t) ((cu, dc, bo), (df, dy))).2.1.2.2.1, (riT tx n (nxT tx n t) ((cu, dc, bo), (df, dy))).2.1, yi, (riT tx n (nxT tx n t) ((cu, dc, bo), (df, dy))).2.2) := if_neg e
          rw [this, hA, if_pos c1]
        rw [e1] at hZ
        exact ih kc A.2.1 (yi + 1) A.2.2 B (by rw [T1] at b1; omega) (by omega) hok.1 hok.2.1 hok.2.2 c2 c3 c4 Z Y hZ hY
      · have e1 : rdF tx n (kc + 1) t yi ((cu, dc, bo), (df, dy)) = (nI A.2.1.2.2.1, A.2.1, yi, A.2.2) := by
          have : rdF tx n (kc + 1) t yi ((cu, dc, bo), (df, dy)) = if (riT tx n (nxT tx n t) ((cu, dc, bo), (df, dy))).1 = true then rdF tx n kc (riT tx n (nxT tx n t) ((cu, dc, bo), (df, dy))).2.1 (yi + 1) (riT tx n (nxT tx n t) ((cu, dc, bo), (df, dy))).2.2 else (nI (riT tx n (nxT tx n t) ((cu, dc, bo), (df, dy))).2.1.2.2.1, (riT tx n (nxT tx n t) ((cu, dc, bo), (df, dy))).2.1, yi, (riT tx n (nxT tx n t) ((cu, dc, bo), (df, dy))).2.2) := if_neg e
          rw [this, hA, if_neg (by rw [c1]; decide)]
        rw [e1] at hZ
        rw [rr_wr c2] at hY
        subst hZ
        subst hY
        exact Or.inr ⟨c2, by show nI A.2.1.2.2.1 = nI B.1.1.2.2.1; rw [c3], by rw [c3]; exact hok.1.2.2.1⟩
/-- what read makes of a text, both sides -/
theorem rz_eq {tx : Nat → Nat} {n : Nat} {t : mTk} {df dy cb db bb fg dg : Nat → Nat} (hn : n ≤ 100) (htx : ∀ j, j < n → tx j < 256) (ht : t.2.1 ≤ 4 ∧ t.2.2.1 ≤ 100 ∧ t.2.2.2 ≤ 10000) :
    ((rdZ tx n t df dy).1 = -1 ∧ (rrZ tx n cb db bb fg dg).1.2 = false ∧ (rdZ tx n t df dy).2.2.1 = (rrZ tx n cb db bb fg dg).2.1 ∧ drR (rdZ tx n t df dy).2.2.2 (rrZ tx n cb db bb fg dg)) ∨ ((rrZ tx n cb db bb fg dg).1.2 = true ∧ (rdZ tx n t df dy).1 = nI (rrZ tx n cb db bb fg dg).1.1.2.2.1 ∧ (rrZ tx n cb db bb fg dg).1.1.2.2.1 ≤ 100) :=
  rd_eq hn htx n (n + 1) (0, t.2) 0 ((0, 0, false), (df, dy)) ((stT tx n 0, false), 0, mUp cb 1 0, mUp db 1 0, mUp bb 1 0, fg, dg) (Nat.sub_le _ _) (Nat.le_refl _) ⟨Nat.zero_le _, ht⟩ (Nat.zero_le _) (Nat.zero_le _) rfl rfl ⟨mUp_eq cb 1 0, mUp_eq db 1 0, mUp_eq bb 1 0, fun j hj => absurd hj (by show ¬ j < 0 * 6; omega), fun j hj => absurd hj (Nat.not_lt_zero _)⟩ _ _ rfl rfl
/-- what a draft holds -/
def dvO (d : mDr) : Prop := (∀ j, j < d.1.2.1 → d.2.2 j < 10 ^ d.1.1) ∧ ∀ j, j < d.1.1 * 6 → d.2.1 j < 10
theorem rcF_dv {tx : Nat → Nat} {n cu : Nat} : ∀ k s (t : mTk) (df : Nat → Nat), (∀ j, j < cu * 6 + s → df j < 10) → (∀ j, j < cu * 6 → (rcF tx n cu k s t df).2.2 j < 10) ∧ ((rcF tx n cu k s t df).1 = true → ∀ j, j < cu * 6 + s + k → (rcF tx n cu k s t df).2.2 j < 10) := by
  intro k
  induction k with
  | zero => intro s t df h; exact ⟨fun j hj => h j (by omega), fun _ j hj => h j hj⟩
  | succ k ih =>
    intro s t df h
    by_cases q : isN (nxT tx n t) 10 = true
    · have e1 : rcF tx n cu (k + 1) s t df = rcF tx n cu k (s + 1) (nxT tx n t) (mUp df (cu * 6 + s) (nxT tx n t).2.2.2) := if_pos q
      have hq : (nxT tx n t).2.1 = 2 ∧ (nxT tx n t).2.2.2 < 10 := of_decide_eq_true q
      have r := ih (s + 1) (nxT tx n t) (mUp df (cu * 6 + s) (nxT tx n t).2.2.2) (by
        intro j hj
        by_cases w : j = cu * 6 + s
        · rw [w, mUp_eq]; exact hq.2
        · rw [mUp_ne _ _ w]; exact h j (by omega))
      rw [e1]
      exact ⟨r.1, fun z j hj => r.2 z j (by omega)⟩
    · have e1 : rcF tx n cu (k + 1) s t df = (false, nxT tx n t, df) := if_neg q
      rw [e1]
      exact ⟨fun j hj => h j (by omega), fun z => Bool.noConfusion z⟩
theorem riT_dv {tx : Nat → Nat} {n : Nat} {t : mTk} {d : mDr} (h : dvO d) : dvO (riT tx n t d).2.2 := by
  have hA : dvO (riA tx n t d).2.2 := by
    obtain ⟨⟨cu, dc, bo⟩, df, dy⟩ := d
    obtain ⟨a, b⟩ := h
    unfold riA
    dsimp only at a b ⊢
    by_cases k1 : t.2.1 = 1
    · rw [if_pos k1]
      by_cases v1 : t.2.2.2 = 98
      · rw [if_pos v1]; exact ⟨a, b⟩
      · rw [if_neg v1]
        by_cases v2 : t.2.2.2 = 99
        · rw [if_pos v2]
          by_cases c4 : cu < 4
          · have hr : rcT tx n t cu df = ((rcF tx n cu 6 0 t df).1, (rcF tx n cu 6 0 t df).2.1, if (rcF tx n cu 6 0 t df).1 = true then cu + 1 else cu, (rcF tx n cu 6 0 t df).2.2) := if_pos c4
            have r := rcF_dv (tx := tx) (n := n) (cu := cu) 6 0 t df (fun j hj => b j hj)
            rw [hr]
            generalize rcF tx n cu 6 0 t df = Z at r ⊢
            obtain ⟨ok, zt, zd⟩ := Z
            cases ok with
            | true => exact ⟨fun j hj => Nat.lt_of_lt_of_le (a j hj) (Nat.pow_le_pow_right (by decide) (Nat.le_succ _)), fun j hj => r.2 rfl j (by have hj : j < (cu + 1) * 6 := hj; omega)⟩
            | false => exact ⟨a, r.1⟩
          · have hr : rcT tx n t cu df = (false, t, cu, df) := if_neg c4
            rw [hr]
            exact ⟨a, b⟩
        · rw [if_neg v2]
          by_cases v3 : t.2.2.2 = 100
          · rw [if_pos v3]
            unfold rdT
            by_cases c6 : dc < 6
            · rw [if_pos c6]
              by_cases q : isN (nxT tx n t) (10 ^ cu) = true
              · rw [if_pos q]
                have hq : (nxT tx n t).2.1 = 2 ∧ (nxT tx n t).2.2.2 < 10 ^ cu := of_decide_eq_true q
                refine ⟨fun j hj => ?_, b⟩
                have hj : j < dc + 1 := hj
                show mUp dy dc (nxT tx n t).2.2.2 j < 10 ^ cu
                by_cases w : j = dc
                · rw [w, mUp_eq]; exact hq.2
                · rw [mUp_ne _ _ w]; exact a j (by omega)
              · rw [if_neg q]; exact ⟨a, b⟩
            · rw [if_neg c6]; exact ⟨a, b⟩
          · rw [if_neg v3]; exact ⟨a, b⟩
    · rw [if_neg k1]; exact ⟨a, b⟩
  unfold riT
  split
  · exact hA
  · exact hA
theorem rdF_dv {tx : Nat → Nat} {n : Nat} : ∀ k (t : mTk) (it : Nat) (d : mDr), dvO d → dvO (rdF tx n k t it d).2.2.2 := by
  intro k
  induction k with
  | zero => intro t it d h; exact h
  | succ k ih =>
    intro t it d h
    unfold rdF
    split
    · exact h
    · split
      · exact ih _ _ _ (riT_dv h)
      · exact riT_dv h
theorem rdZ_dv {tx : Nat → Nat} {n : Nat} {t : mTk} {df dy : Nat → Nat} : dvO (rdZ tx n t df dy).2.2.2 := rdF_dv (n + 1) (0, t.2) 0 ((0, 0, false), (df, dy)) ⟨fun j hj => absurd hj (Nat.not_lt_zero _), fun j hj => absurd hj (by show ¬ j < 0 * 6; omega)⟩
